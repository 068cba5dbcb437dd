theorem o_fX7_bit {a0 : Int32} : ok (fX7_bit a0) (fun _ => True) := by
  have hFU : FU = 100000 := rfl
  unfold fX7_bit
  refine ok_eq (n := 0) rfl rfl (fun h1e h1 => ?_) (fun h1e h1 => ?_)
  · skip
    exact ok_some trivial
  · skip
    exact ok_some trivial
theorem ol_fX7_greatestDivisor_l7  : ∀ (n : Nat) (x2 : Int32) (x3 : Int32) (x4 : Int32), 0 ≤ x4.toInt → (64 + 1 - x4.toInt).toNat < n → ok (fX7_greatestDivisor_l7 n x2 x3 x4) (fun _ => True) := by
  have hFU : FU = 100000 := rfl
  intro n
  induction n with
  | zero => intro x2 x3 x4 hx4 hm; omega
  | succ n ih =>
    intro x2 x3 x4 hx4 hm
    show ok (fX7_greatestDivisor_B7  (fX7_greatestDivisor_l7  n) x2 x3 x4) _
    unfold fX7_greatestDivisor_B7
    refine ok_le (m := 64) rfl rfl (fun h2 => ?_) (fun h2 => ?_)
    · skip
      exact ok_some trivial
    · skip
      refine ok_eq (n := 0) rfl rfl (fun h3e h3 => ?_) (fun h3e h3 => ?_)
      · skip
        exact ok_some trivial
      · skip
        refine ok_gd h3e ?_
        refine ok_la (fun v1 => ?_)
        refine ok_lt ?_
        refine ok_lt ?_
        refine ok_lq (Q := fun v => v.toInt = x4.toInt + 1) (inc (by omega)) (fun v4 e5 => ?_)
        exact ih _ _ _ (by first | assumption | omega | exact ⟨by omega, by omega⟩ | exact Or.inl (eqm1 (by omega))) (by omega)
theorem o_fX7_greatestDivisor {a0 : Int32} {a1 : Int32} : ok (fX7_greatestDivisor a0 a1) (fun _ => True) := by
  have hFU : FU = 100000 := rfl
  unfold fX7_greatestDivisor
  refine ok_lt ?_
  refine ok_lt ?_
  refine ok_lq (Q := fun v => v.toInt = 0) rfl (fun v7 e6 => ?_)
  exact ol_fX7_greatestDivisor_l7  FU _ _ _ (by first | assumption | omega | exact ⟨by omega, by omega⟩ | exact Or.inl (eqm1 (by omega))) (by omega)
theorem o_fX7_isBit {a0 : Int32} : ok (fX7_isBit a0) (tf True) := by
  have hFU : FU = 100000 := rfl
  unfold fX7_isBit
  refine ok_eq (n := 0) rfl rfl (fun h7e h7 => ?_) (fun h7e h7 => ?_)
  · skip
    unfold fX7_isBit_b9
    refine ok_gd (by decide) ?_
    exact ok_some (tf1 trivial)
  · skip
    refine ok_eq (n := 1) rfl rfl (fun h8e h8 => ?_) (fun h8e h8 => ?_)
    · skip
      unfold fX7_isBit_b9
      refine ok_gd (by decide) ?_
      exact ok_some (tf1 trivial)
    · skip
      refine ok_gd (by decide) ?_
      exact ok_some tf0
theorem o_fX7_isSeed {a0 : Int32} : ok (fX7_isSeed a0) (tf True) := by
  have hFU : FU = 100000 := rfl
  unfold fX7_isSeed
  refine ok_lw (n := 0) rfl rfl (fun h9 => ?_) (fun h9 => ?_)
  · skip
    refine ok_gd (by decide) ?_
    exact ok_some tf0
  · skip
    refine ok_lw (m := 2000000000) rfl rfl (fun h10 => ?_) (fun h10 => ?_)
    · skip
      refine ok_gd (by decide) ?_
      exact ok_some tf0
    · skip
      refine ok_gd (by decide) ?_
      exact ok_some (tf1 trivial)
theorem ol_fX7_rowsThere_l4 {σ0 σ : St} (hK : K σ0 σ) : ∀ (n : Nat) (x1 : Int32) (x2 : Int32), 0 ≤ x2.toInt → (4 + 1 - x2.toInt).toNat < n → ok (fX7_rowsThere_l4 σ n x1 x2) (fun _ => True) := by
  have hFU : FU = 100000 := rfl
  intro n
  induction n with
  | zero => intro x1 x2 hx2 hm; omega
  | succ n ih =>
    intro x1 x2 hx2 hm
    show ok (fX7_rowsThere_B4 σ (fX7_rowsThere_l4 σ n) x1 x2) _
    unfold fX7_rowsThere_B4
    refine ok_le (m := 4) rfl rfl (fun h11 => ?_) (fun h11 => ?_)
    · skip
      exact ok_some trivial
    · skip
      refine ok_gd ⟨by omega, by omega⟩ ?_
      refine ok_lt ?_
      refine ok_eq (n := 0) rfl rfl (fun h12e h12 => ?_) (fun h12e h12 => ?_)
      · skip
        refine ok_lq (Q := fun v => v.toInt = x2.toInt + 1) (inc (by omega)) (fun v2 e13 => ?_)
        exact ih _ _ (by first | assumption | omega | exact ⟨by omega, by omega⟩ | exact Or.inl (eqm1 (by omega))) (by omega)
      · skip
        refine ok_la (fun v3 => ?_)
        refine ok_lq (Q := fun v => v.toInt = x2.toInt + 1) (inc (by omega)) (fun v4 e15 => ?_)
        exact ih _ _ (by first | assumption | omega | exact ⟨by omega, by omega⟩ | exact Or.inl (eqm1 (by omega))) (by omega)
theorem o_fX7_rowsThere {σ0 σ : St} (hK : K σ0 σ) : ok (fX7_rowsThere σ) (fun _ => True) := by
  have hFU : FU = 100000 := rfl
  unfold fX7_rowsThere
  refine ok_lq (Q := fun v => v.toInt = 0) rfl (fun v5 e16 => ?_)
  refine ok_lq (Q := fun v => v.toInt = 0) rfl (fun v6 e17 => ?_)
  exact ol_fX7_rowsThere_l4 hK FU _ _ (by first | assumption | omega | exact ⟨by omega, by omega⟩ | exact Or.inl (eqm1 (by omega))) (by omega)
theorem o_fX7_withBit {a0 : Int32} {a1 : Int32} {a2 : Int32} (pa0 : ir a0 4096) (pa1 : ir a1 12) : ok (fX7_withBit a0 a1 a2) (fun r => ir r 4096) := by
  have hFU : FU = 100000 := rfl
  have pa0l := pa0.1
  have pa0u := pa0.2
  have pa1l := pa1.1
  have pa1u := pa1.2
  unfold fX7_withBit
  refine ok_eq (n := 1) rfl rfl (fun h18e h18 => ?_) (fun h18e h18 => ?_)
  · skip
    exact ok_some (ir_or pa0 (ir_sh pa1))
  · skip
    exact ok_some (ir_and' pa0)
theorem ol_fX0_worldThatComes_l56 {σ0 : St} {kr33 : St → Int32 → Int32 → Int32 → Option (Int32 × St)} {m33 : Nat} (hkr33 : ∀ (σ : St) (x2 : Int32) (x3 : Int32) (x4 : Int32), K σ0 σ → -1 ≤ x4.toInt → x4.toInt ≤ 3 → ir x2 12 → (x4.toInt + 1).toNat < m33 → ok (kr33 σ x2 x3 x4) (fun p => True ∧ K σ0 p.2)) : ∀ (n : Nat) (σ : St) (x2 : Int32) (x3 : Int32) (x4 : Int32) (x5 : Int32) (x6 : Int32), K σ0 σ → 0 ≤ x6.toInt → 0 ≤ x4.toInt → x4.toInt ≤ 3 → ir x2 12 → (x4.toInt + 1).toNat < m33 + 1 → (16 + 1 - x6.toInt).toNat < n → ok (fX0_worldThatComes_l56 3 kr33 n σ x2 x3 x4 x5 x6) (fun p => True ∧ K σ0 p.2) := by
  have hFU : FU = 100000 := rfl
  intro n
  induction n with
  | zero => intro σ x2 x3 x4 x5 x6 hK hx6 g0 g1 ax2 hm33 hm; omega
  | succ n ih =>
    intro σ x2 x3 x4 x5 x6 hK hx6 g0 g1 ax2 hm33 hm
    have ax2l := ax2.1
    have ax2u := ax2.2
    have cE := sh_b4 (x := x4) (by omega) (by omega)
    show ok (fX0_worldThatComes_B56 3 kr33 (fX0_worldThatComes_l56 3 kr33 n) σ x2 x3 x4 x5 x6) _
    unfold fX0_worldThatComes_B56
    refine ok_le rfl rfl (fun h19 => ?_) (fun h19 => ?_)
    · skip
      refine ok_lq (Q := fun v => v.toInt = x4.toInt + (-1)) (dec (by omega)) (fun v7 e20 => ?_)
      exact hkr33 _ _ _ _ hK (by first | assumption | omega | exact ⟨by omega, by omega⟩ | exact Or.inl (eqm1 (by omega))) (by first | assumption | omega | exact ⟨by omega, by omega⟩ | exact Or.inl (eqm1 (by omega))) ax2 (by omega)
    · skip
      refine ok_gd ⟨by omega, by omega⟩ ?_
      refine ok_la (fun v8 => ?_)
      refine ok_gd (or16 ⟨by omega, by omega⟩ ⟨by omega, by omega⟩) ?_
      refine ok_la (fun v9 => ?_)
      refine ok_gd ax2 ?_
      refine ok_eq rfl rfl (fun h23e h23 => ?_) (fun h23e h23 => ?_)
      · skip
        unfold fX0_worldThatComes_b109
        refine ok_lq (Q := fun v => v.toInt = 1) rfl (fun v6 e24 => ?_)
        refine ok_gd ax2 ?_
        refine ok_eq rfl rfl (fun h25e h25 => ?_) (fun h25e h25 => ?_)
        · skip
          unfold fX0_worldThatComes_b132
          refine ok_lq (Q := fun v => v.toInt = 1) rfl (fun v3 e26 => ?_)
          refine ok_eq (n := 0) rfl rfl (fun h27e h27 => ?_) (fun h27e h27 => ?_)
          · skip
            exact absurd h27 (by omega)
          · skip
            unfold fX0_worldThatComes_b155
            refine ok_gd ⟨by omega, by omega⟩ ?_
            refine ok_lq (Q := fun τ => K σ0 τ) (hK.set rfl) (fun σ1 hK1 => ?_)
            refine ok_lq (Q := fun v => v.toInt = x6.toInt + 1) (inc (by omega)) (fun v2 e28 => ?_)
            exact ih _ _ _ _ _ _ hK1 (by first | assumption | omega | exact ⟨by omega, by omega⟩ | exact Or.inl (eqm1 (by omega))) (by first | assumption | omega | exact ⟨by omega, by omega⟩ | exact Or.inl (eqm1 (by omega))) (by first | assumption | omega | exact ⟨by omega, by omega⟩ | exact Or.inl (eqm1 (by omega))) ax2 (by first | assumption | omega | exact ⟨by omega, by omega⟩ | exact Or.inl (eqm1 (by omega))) (by omega)
        · skip
          unfold fX0_worldThatComes_b132
          refine ok_lq (Q := fun v => v.toInt = 0) rfl (fun v3 e29 => ?_)
          refine ok_eq (n := 0) rfl rfl (fun h30e h30 => ?_) (fun h30e h30 => ?_)
          · skip
            exact absurd h30 (by omega)
          · skip
            unfold fX0_worldThatComes_b155
            refine ok_gd ⟨by omega, by omega⟩ ?_
            refine ok_lq (Q := fun τ => K σ0 τ) (hK.set rfl) (fun σ1 hK1 => ?_)
            refine ok_lq (Q := fun v => v.toInt = x6.toInt + 1) (inc (by omega)) (fun v2 e31 => ?_)
            exact ih _ _ _ _ _ _ hK1 (by first | assumption | omega | exact ⟨by omega, by omega⟩ | exact Or.inl (eqm1 (by omega))) (by first | assumption | omega | exact ⟨by omega, by omega⟩ | exact Or.inl (eqm1 (by omega))) (by first | assumption | omega | exact ⟨by omega, by omega⟩ | exact Or.inl (eqm1 (by omega))) ax2 (by first | assumption | omega | exact ⟨by omega, by omega⟩ | exact Or.inl (eqm1 (by omega))) (by omega)
      · skip
        unfold fX0_worldThatComes_b109
        refine ok_lq (Q := fun v => v.toInt = 0) rfl (fun v6 e32 => ?_)
        refine ok_gd ax2 ?_
        refine ok_eq rfl rfl (fun h33e h33 => ?_) (fun h33e h33 => ?_)
        · skip
          unfold fX0_worldThatComes_b132
          refine ok_lq (Q := fun v => v.toInt = 1) rfl (fun v3 e34 => ?_)
          refine ok_eq (n := 0) rfl rfl (fun h35e h35 => ?_) (fun h35e h35 => ?_)
          · skip
            refine ok_eq (n := 0) rfl rfl (fun h36e h36 => ?_) (fun h36e h36 => ?_)
            · skip
              exact absurd h36 (by omega)
            · skip
              refine ok_gd ⟨by omega, by omega⟩ ?_
              refine ok_lq (Q := fun τ => K σ0 τ) (hK.set rfl) (fun σ4 hK4 => ?_)
              refine ok_lq (Q := fun v => v.toInt = x6.toInt + 1) (inc (by omega)) (fun v5 e37 => ?_)
              exact ih _ _ _ _ _ _ hK4 (by first | assumption | omega | exact ⟨by omega, by omega⟩ | exact Or.inl (eqm1 (by omega))) (by first | assumption | omega | exact ⟨by omega, by omega⟩ | exact Or.inl (eqm1 (by omega))) (by first | assumption | omega | exact ⟨by omega, by omega⟩ | exact Or.inl (eqm1 (by omega))) ax2 (by first | assumption | omega | exact ⟨by omega, by omega⟩ | exact Or.inl (eqm1 (by omega))) (by omega)
          · exact absurd h35 (by omega)
        · skip
          unfold fX0_worldThatComes_b132
          refine ok_lq (Q := fun v => v.toInt = 0) rfl (fun v3 e38 => ?_)
          refine ok_eq (n := 0) rfl rfl (fun h39e h39 => ?_) (fun h39e h39 => ?_)
          · skip
            refine ok_eq (n := 0) rfl rfl (fun h40e h40 => ?_) (fun h40e h40 => ?_)
            · skip
              unfold fX0_worldThatComes_b155
              refine ok_gd ⟨by omega, by omega⟩ ?_
              refine ok_lq (Q := fun τ => K σ0 τ) (hK.set rfl) (fun σ1 hK1 => ?_)
              refine ok_lq (Q := fun v => v.toInt = x6.toInt + 1) (inc (by omega)) (fun v2 e41 => ?_)
              exact ih _ _ _ _ _ _ hK1 (by first | assumption | omega | exact ⟨by omega, by omega⟩ | exact Or.inl (eqm1 (by omega))) (by first | assumption | omega | exact ⟨by omega, by omega⟩ | exact Or.inl (eqm1 (by omega))) (by first | assumption | omega | exact ⟨by omega, by omega⟩ | exact Or.inl (eqm1 (by omega))) ax2 (by first | assumption | omega | exact ⟨by omega, by omega⟩ | exact Or.inl (eqm1 (by omega))) (by omega)
            · exact absurd h40 (by omega)
          · exact absurd h39 (by omega)
theorem ol_fX0_worldThatComes_l33 {σ0 : St} : ∀ (n : Nat) (σ : St) (x2 : Int32) (x3 : Int32) (x4 : Int32), K σ0 σ → -1 ≤ x4.toInt → x4.toInt ≤ 3 → ir x2 12 → (x4.toInt + 1).toNat < n → ok (fX0_worldThatComes_l33 3 n σ x2 x3 x4) (fun p => True ∧ K σ0 p.2) := by
  have hFU : FU = 100000 := rfl
  intro n
  induction n with
  | zero => intro σ x2 x3 x4 hK g0 g1 ax2 hm; omega
  | succ n ih =>
    intro σ x2 x3 x4 hK g0 g1 ax2 hm
    have ax2l := ax2.1
    have ax2u := ax2.2
    show ok (fX0_worldThatComes_B33 3 (fX0_worldThatComes_l33 3 n) σ x2 x3 x4) _
    unfold fX0_worldThatComes_B33
    refine ok_lw (n := 0) rfl rfl (fun h42 => ?_) (fun h42 => ?_)
    · skip
      refine ok_gd (by decide) ?_
      exact ok_some ⟨trivial, hK⟩
    · skip
      refine ok_eq rfl rfl (fun h43e h43 => ?_) (fun h43e h43 => ?_)
      · skip
        unfold fX0_worldThatComes_b51
        refine ok_lq (Q := fun v => v.toInt = 1) rfl (fun v10 e44 => ?_)
        refine ok_lq (Q := fun v => v.toInt = 0) rfl (fun v11 e45 => ?_)
        exact ol_fX0_worldThatComes_l56 ih FU _ _ _ _ _ _ hK (by first | assumption | omega | exact ⟨by omega, by omega⟩ | exact Or.inl (eqm1 (by omega))) (by first | assumption | omega | exact ⟨by omega, by omega⟩ | exact Or.inl (eqm1 (by omega))) (by first | assumption | omega | exact ⟨by omega, by omega⟩ | exact Or.inl (eqm1 (by omega))) ax2 (by first | assumption | omega | exact ⟨by omega, by omega⟩ | exact Or.inl (eqm1 (by omega))) (by omega)
      · skip
        unfold fX0_worldThatComes_b51
        refine ok_lq (Q := fun v => v.toInt = 0) rfl (fun v10 e46 => ?_)
        refine ok_lq (Q := fun v => v.toInt = 0) rfl (fun v11 e47 => ?_)
        exact ol_fX0_worldThatComes_l56 ih FU _ _ _ _ _ _ hK (by first | assumption | omega | exact ⟨by omega, by omega⟩ | exact Or.inl (eqm1 (by omega))) (by first | assumption | omega | exact ⟨by omega, by omega⟩ | exact Or.inl (eqm1 (by omega))) (by first | assumption | omega | exact ⟨by omega, by omega⟩ | exact Or.inl (eqm1 (by omega))) ax2 (by first | assumption | omega | exact ⟨by omega, by omega⟩ | exact Or.inl (eqm1 (by omega))) (by omega)
theorem ol_fX0_worldThatComes_l3 {σ0 : St} : ∀ (n : Nat) (σ : St) (x2 : Int32) (x3 : Int32) (x4 : Int32), K σ0 σ → 0 ≤ x4.toInt → ir x2 12 → (16 + 1 - x4.toInt).toNat < n → ok (fX0_worldThatComes_l3 3 n σ x2 x3 x4) (fun p => True ∧ K σ0 p.2) := by
  have hFU : FU = 100000 := rfl
  intro n
  induction n with
  | zero => intro σ x2 x3 x4 hK hx4 ax2 hm; omega
  | succ n ih =>
    intro σ x2 x3 x4 hK hx4 ax2 hm
    have ax2l := ax2.1
    have ax2u := ax2.2
    show ok (fX0_worldThatComes_B3 3 (fX0_worldThatComes_l3 3 n) σ x2 x3 x4) _
    unfold fX0_worldThatComes_B3
    have c48 := hK.ats
    refine ok_le (m := 16) rfl rfl (fun h49 => ?_) (fun h49 => ?_)
    · skip
      refine ok_lq (Q := fun v => v.toInt = ((σ.1 3 1)).toInt - 1) (dec1 (by omega)) (fun v12 e50 => ?_)
      exact ol_fX0_worldThatComes_l33  FU _ _ _ _ hK (by first | assumption | omega | exact ⟨by omega, by omega⟩ | exact Or.inl (eqm1 (by omega))) (by first | assumption | omega | exact ⟨by omega, by omega⟩ | exact Or.inl (eqm1 (by omega))) ax2 (by omega)
    · skip
      refine ok_gd ⟨by omega, by omega⟩ ?_
      refine ok_lq (Q := fun τ => K σ0 τ) (hK.set rfl) (fun σ13 hK13 => ?_)
      refine ok_lq (Q := fun v => v.toInt = x4.toInt + 1) (inc (by omega)) (fun v14 e51 => ?_)
      exact ih _ _ _ _ hK13 (by first | assumption | omega | exact ⟨by omega, by omega⟩ | exact Or.inl (eqm1 (by omega))) ax2 (by omega)
theorem o_fX0_worldThatComes {σ0 σ : St} {a2 : Int32} {a3 : Int32} (hK : K σ0 σ) (pa2 : ir a2 12) : ok (fX0_worldThatComes σ 3 a2 a3) (fun p => True ∧ K σ0 p.2) := by
  have hFU : FU = 100000 := rfl
  have pa2l := pa2.1
  have pa2u := pa2.2
  unfold fX0_worldThatComes
  refine ok_lq (Q := fun v => v.toInt = 0) rfl (fun v15 e52 => ?_)
  exact ol_fX0_worldThatComes_l3  FU _ _ _ _ hK (by first | assumption | omega | exact ⟨by omega, by omega⟩ | exact Or.inl (eqm1 (by omega))) pa2 (by omega)
theorem o_fX1_give {σ0 σ : St} {a1 : Int32} {a2 : Int32} {a3 : Int32} (hK : K σ0 σ) (pa1 : ir a1 12) : ok (fX1_give σ a1 a2 a3) (fun τ => K σ0 τ) := by
  have hFU : FU = 100000 := rfl
  have pa1l := pa1.1
  have pa1u := pa1.2
  unfold fX1_give
  refine ok_lq (Q := fun τ => K σ0 τ) (hK.set rfl) (fun σ2 hK2 => ?_)
  refine ok_gd pa1 ?_
  refine ok_gd pa1 ?_
  refine ok_lq (Q := fun τ => K σ0 τ) (hK2.set rfl) (fun σ3 hK3 => ?_)
  refine ok_gd pa1 ?_
  refine ok_eq (n := -1) rfl rfl (fun h53e h53 => ?_) (fun h53e h53 => ?_)
  · skip
    unfold fX1_give_b44
    refine ok_gd pa1 ?_
    refine ok_lq (Q := fun τ => K σ0 τ) (hK3.set rfl) (fun σ1 hK1 => ?_)
    exact ok_some hK1
  · skip
    refine ok_gd pa1 ?_
    refine ok_le rfl rfl (fun h54 => ?_) (fun h54 => ?_)
    · skip
      exact ok_some hK3
    · skip
      unfold fX1_give_b44
      refine ok_gd pa1 ?_
      refine ok_lq (Q := fun τ => K σ0 τ) (hK3.set rfl) (fun σ1 hK1 => ?_)
      exact ok_some hK1
theorem ol_fX1_open_l61 {σ0 : St} : ∀ (n : Nat) (σ : St) (x2 : Int32), K σ0 σ → 0 ≤ x2.toInt → (5 + 1 - x2.toInt).toNat < n → ok (fX1_open_l61 3 n σ x2) (fun τ => K σ0 τ) := by
  have hFU : FU = 100000 := rfl
  intro n
  induction n with
  | zero => intro σ x2 hK hx2 hm; omega
  | succ n ih =>
    intro σ x2 hK hx2 hm
    show ok (fX1_open_B61 3 (fX1_open_l61 3 n) σ x2) _
    unfold fX1_open_B61
    refine ok_le (m := 5) rfl rfl (fun h55 => ?_) (fun h55 => ?_)
    · skip
      exact ok_some hK
    · skip
      refine ok_gd ⟨by omega, by omega⟩ ?_
      refine ok_lq (Q := fun τ => K σ0 τ) (hK.set rfl) (fun σ1 hK1 => ?_)
      refine ok_gd ⟨by omega, by omega⟩ ?_
      refine ok_lq (Q := fun τ => K σ0 τ) (hK1.set rfl) (fun σ2 hK2 => ?_)
      refine ok_lq (Q := fun v => v.toInt = x2.toInt + 1) (inc (by omega)) (fun v3 e56 => ?_)
      exact ih _ _ hK2 (by first | assumption | omega | exact ⟨by omega, by omega⟩ | exact Or.inl (eqm1 (by omega))) (by omega)
theorem ol_fX1_open_l17 {σ0 : St} : ∀ (n : Nat) (σ : St) (x2 : Int32), K σ0 σ → 0 ≤ x2.toInt → (12 + 1 - x2.toInt).toNat < n → ok (fX1_open_l17 3 n σ x2) (fun τ => K σ0 τ) := by
  have hFU : FU = 100000 := rfl
  intro n
  induction n with
  | zero => intro σ x2 hK hx2 hm; omega
  | succ n ih =>
    intro σ x2 hK hx2 hm
    show ok (fX1_open_B17 3 (fX1_open_l17 3 n) σ x2) _
    unfold fX1_open_B17
    refine ok_le (m := 12) rfl rfl (fun h57 => ?_) (fun h57 => ?_)
    · skip
      refine ok_lq (Q := fun v => v.toInt = 0) rfl (fun v7 e58 => ?_)
      exact ol_fX1_open_l61  FU _ _ hK (by first | assumption | omega | exact ⟨by omega, by omega⟩ | exact Or.inl (eqm1 (by omega))) (by omega)
    · skip
      refine ok_eq (n := 1) rfl rfl (fun h59e h59 => ?_) (fun h59e h59 => ?_)
      · skip
        unfold fX1_open_b45
        refine ok_gd ⟨by omega, by omega⟩ ?_
        refine ok_lq (Q := fun τ => K σ0 τ) (hK.set rfl) (fun σ4 hK4 => ?_)
        refine ok_gd ⟨by omega, by omega⟩ ?_
        refine ok_lq (Q := fun τ => K σ0 τ) (hK4.set rfl) (fun σ5 hK5 => ?_)
        refine ok_lq (Q := fun v => v.toInt = x2.toInt + 1) (inc (by omega)) (fun v6 e60 => ?_)
        exact ih _ _ hK5 (by first | assumption | omega | exact ⟨by omega, by omega⟩ | exact Or.inl (eqm1 (by omega))) (by omega)
      · skip
        unfold fX1_open_b45
        refine ok_gd ⟨by omega, by omega⟩ ?_
        refine ok_lq (Q := fun τ => K σ0 τ) (hK.set rfl) (fun σ4 hK4 => ?_)
        refine ok_gd ⟨by omega, by omega⟩ ?_
        refine ok_lq (Q := fun τ => K σ0 τ) (hK4.set rfl) (fun σ5 hK5 => ?_)
        refine ok_lq (Q := fun v => v.toInt = x2.toInt + 1) (inc (by omega)) (fun v6 e61 => ?_)
        exact ih _ _ hK5 (by first | assumption | omega | exact ⟨by omega, by omega⟩ | exact Or.inl (eqm1 (by omega))) (by omega)
theorem o_fX1_open {σ0 σ : St} (hK : K σ0 σ) : ok (fX1_open σ 3) (fun τ => K σ0 τ) := by
  have hFU : FU = 100000 := rfl
  unfold fX1_open
  refine ok_lq (Q := fun τ => K σ0 τ) (hK.set rfl) (fun σ8 hK8 => ?_)
  refine ok_lq (Q := fun τ => K σ0 τ) (hK8.set rfl) (fun σ9 hK9 => ?_)
  refine ok_lq (Q := fun τ => K σ0 τ) (hK9.set rfl) (fun σ10 hK10 => ?_)
  refine ok_lq (Q := fun v => v.toInt = 0) rfl (fun v11 e62 => ?_)
  exact ol_fX1_open_l17  FU _ _ hK10 (by first | assumption | omega | exact ⟨by omega, by omega⟩ | exact Or.inl (eqm1 (by omega))) (by omega)
theorem o_fX3_reasonAgainst {σ0 σ : St} {a2 : Int32} (hK : K σ0 σ) (pa2 : ir a2 12) : ok (fX3_reasonAgainst σ 3 a2) (fun _ => True) := by
  have hFU : FU = 100000 := rfl
  have pa2l := pa2.1
  have pa2u := pa2.2
  unfold fX3_reasonAgainst
  refine ok_gd pa2 ?_
  refine ok_eq (n := 0) rfl rfl (fun h63e h63 => ?_) (fun h63e h63 => ?_)
  · skip
    refine ok_gd pa2 ?_
    refine ok_eq (n := 1) rfl rfl (fun h64e h64 => ?_) (fun h64e h64 => ?_)
    · skip
      exact ok_some trivial
    · skip
      exact ok_some trivial
  · skip
    exact ok_some trivial
theorem ol_fX3_usedForAll_l5 {σ0 σ : St} (hK : K σ0 σ) : ∀ (n : Nat) (x2 : Int32) (x3 : Int32) (x4 : Int32), 0 ≤ x4.toInt → (12 + 1 - x4.toInt).toNat < n → ok (fX3_usedForAll_l5 σ 3 n x2 x3 x4) (fun _ => True) := by
  have hFU : FU = 100000 := rfl
  intro n
  induction n with
  | zero => intro x2 x3 x4 hx4 hm; omega
  | succ n ih =>
    intro x2 x3 x4 hx4 hm
    show ok (fX3_usedForAll_B5 σ 3 (fX3_usedForAll_l5 σ 3 n) x2 x3 x4) _
    unfold fX3_usedForAll_B5
    have c65 := hK.cls
    refine ok_le rfl rfl (fun h66 => ?_) (fun h66 => ?_)
    · skip
      exact ok_some trivial
    · skip
      refine ok_eq (n := 1) rfl rfl (fun h67e h67 => ?_) (fun h67e h67 => ?_)
      · skip
        refine ok_gd ⟨by omega, by omega⟩ ?_
        refine ok_la (fun v2 => ?_)
        refine ok_lq (Q := fun v => v.toInt = x4.toInt + 1) (inc (by omega)) (fun v3 e69 => ?_)
        exact ih _ _ _ (by first | assumption | omega | exact ⟨by omega, by omega⟩ | exact Or.inl (eqm1 (by omega))) (by omega)
      · skip
        refine ok_lq (Q := fun v => v.toInt = x4.toInt + 1) (inc (by omega)) (fun v1 e70 => ?_)
        exact ih _ _ _ (by first | assumption | omega | exact ⟨by omega, by omega⟩ | exact Or.inl (eqm1 (by omega))) (by omega)
theorem o_fX3_usedForAll {σ0 σ : St} {a2 : Int32} (hK : K σ0 σ) : ok (fX3_usedForAll σ 3 a2) (fun _ => True) := by
  have hFU : FU = 100000 := rfl
  unfold fX3_usedForAll
  refine ok_lq (Q := fun v => v.toInt = 0) rfl (fun v4 e71 => ?_)
  refine ok_lq (Q := fun v => v.toInt = 0) rfl (fun v5 e72 => ?_)
  exact ol_fX3_usedForAll_l5 hK FU _ _ _ (by first | assumption | omega | exact ⟨by omega, by omega⟩ | exact Or.inl (eqm1 (by omega))) (by omega)
theorem ol_fX4_asSet_l4 {σ0 σ : St} {w : Nat} (hK : K σ0 σ) (hw : ∃ s, s < 4 ∧ w = rowp s) : ∀ (n : Nat) (x1 : Int32) (x2 : Int32), 0 ≤ x2.toInt → (60 + 1 - x2.toInt).toNat < n → ok (fX4_asSet_l4 σ w n x1 x2) (fun _ => True) := by
  have hFU : FU = 100000 := rfl
  intro n
  induction n with
  | zero => intro x1 x2 hx2 hm; omega
  | succ n ih =>
    intro x1 x2 hx2 hm
    show ok (fX4_asSet_B4 σ w (fX4_asSet_l4 σ w n) x1 x2) _
    unfold fX4_asSet_B4
    have c73 := hK.rwx hw
    refine ok_le rfl rfl (fun h74 => ?_) (fun h74 => ?_)
    · skip
      exact ok_some trivial
    · skip
      refine ok_gd ⟨by omega, by omega⟩ ?_
      refine ok_la (fun v1 => ?_)
      refine ok_lq (Q := fun v => v.toInt = x2.toInt + 1) (inc (by omega)) (fun v2 e76 => ?_)
      exact ih _ _ (by first | assumption | omega | exact ⟨by omega, by omega⟩ | exact Or.inl (eqm1 (by omega))) (by omega)
theorem o_fX4_asSet {σ0 σ : St} {w : Nat} (hK : K σ0 σ) (hw : ∃ s, s < 4 ∧ w = rowp s) : ok (fX4_asSet σ w) (fun _ => True) := by
  have hFU : FU = 100000 := rfl
  unfold fX4_asSet
  refine ok_lq (Q := fun v => v.toInt = 0) rfl (fun v3 e77 => ?_)
  refine ok_lq (Q := fun v => v.toInt = 0) rfl (fun v4 e78 => ?_)
  exact ol_fX4_asSet_l4 hK hw FU _ _ (by first | assumption | omega | exact ⟨by omega, by omega⟩ | exact Or.inl (eqm1 (by omega))) (by omega)
theorem ol_fX5_isLeast_l2 {σ0 σ : St} {h : Nat} (hK : K σ0 σ) : ∀ (n : Nat) (x1 : Int32) (x2 : Int32) (x3 : Int32), 0 ≤ x3.toInt → ir x1 4096 → (12 + 1 - x3.toInt).toNat < n → ok (fX5_isLeast_l2 σ h n x1 x2 x3) (tf True) := by
  have hFU : FU = 100000 := rfl
  intro n
  induction n with
  | zero => intro x1 x2 x3 hx3 ax1 hm; omega
  | succ n ih =>
    intro x1 x2 x3 hx3 ax1 hm
    have ax1l := ax1.1
    have ax1u := ax1.2
    show ok (fX5_isLeast_B2 σ h (fX5_isLeast_l2 σ h n) x1 x2 x3) _
    unfold fX5_isLeast_B2
    refine ok_le (m := 12) rfl rfl (fun h79 => ?_) (fun h79 => ?_)
    · skip
      refine ok_gd (by decide) ?_
      exact ok_some (tf1 trivial)
    · skip
      refine ok_eq (n := 1) rfl rfl (fun h80e h80 => ?_) (fun h80e h80 => ?_)
      · skip
        unfold fX5_isLeast_b22
        refine ok_lq (Q := fun v => v.toInt = 1) rfl (fun v1 e81 => ?_)
        refine ok_eq (n := 0) rfl rfl (fun h82e h82 => ?_) (fun h82e h82 => ?_)
        · skip
          exact absurd h82 (by omega)
        · skip
          refine ok_gd (ir_and' ax1) ?_
          refine ok_eq (n := 1) rfl rfl (fun h83e h83 => ?_) (fun h83e h83 => ?_)
          · skip
            refine ok_gd (by decide) ?_
            exact ok_some tf0
          · skip
            refine ok_lq (Q := fun v => v.toInt = x3.toInt + 1) (inc (by omega)) (fun v3 e84 => ?_)
            exact ih _ _ _ (by first | assumption | omega | exact ⟨by omega, by omega⟩ | exact Or.inl (eqm1 (by omega))) ax1 (by omega)
      · skip
        unfold fX5_isLeast_b22
        refine ok_lq (Q := fun v => v.toInt = 0) rfl (fun v1 e85 => ?_)
        refine ok_eq (n := 0) rfl rfl (fun h86e h86 => ?_) (fun h86e h86 => ?_)
        · skip
          refine ok_lq (Q := fun v => v.toInt = x3.toInt + 1) (inc (by omega)) (fun v2 e87 => ?_)
          exact ih _ _ _ (by first | assumption | omega | exact ⟨by omega, by omega⟩ | exact Or.inl (eqm1 (by omega))) ax1 (by omega)
        · exact absurd h86 (by omega)
theorem o_fX5_isLeast {σ0 σ : St} {h : Nat} {a1 : Int32} {a2 : Int32} (hK : K σ0 σ) (pa1 : ir a1 4096) : ok (fX5_isLeast σ h a1 a2) (tf True) := by
  have hFU : FU = 100000 := rfl
  have pa1l := pa1.1
  have pa1u := pa1.2
  unfold fX5_isLeast
  refine ok_lq (Q := fun v => v.toInt = 0) rfl (fun v4 e88 => ?_)
  exact ol_fX5_isLeast_l2 hK FU _ _ _ (by first | assumption | omega | exact ⟨by omega, by omega⟩ | exact Or.inl (eqm1 (by omega))) pa1 (by omega)
theorem o_fX5_subsetBehind {a0 : Int32} {a1 : Int32} (pa1 : ir a1 4096) : ok (fX5_subsetBehind a0 a1) (fun r => ir r 4096) := by
  have hFU : FU = 100000 := rfl
  have pa1l := pa1.1
  have pa1u := pa1.2
  unfold fX5_subsetBehind
  exact ok_some (ir_and pa1)
theorem o_fX5_withoutLowest {a0 : Int32} (pa0 : ir a0 4096) : ok (fX5_withoutLowest a0) (fun r => ir r 4096) := by
  have hFU : FU = 100000 := rfl
  have pa0l := pa0.1
  have pa0u := pa0.2
  unfold fX5_withoutLowest
  exact ok_some (ir_and' pa0)
theorem o_fX6_allSteps {σ0 σ : St} (hK : K σ0 σ) : ok (fX6_allSteps σ 3) (fun r => ir r 4096) := by
  have hFU : FU = 100000 := rfl
  unfold fX6_allSteps
  have c89 := hK.sts
  exact ok_some (ir_shm (by omega) (by omega))
theorem o_fX6_allWorlds {σ0 σ : St} (hK : K σ0 σ) : ok (fX6_allWorlds σ 3) (fun _ => True) := by
  have hFU : FU = 100000 := rfl
  unfold fX6_allWorlds
  have c90 := hK.ats
  exact ok_some trivial
theorem o_fX6_canDo {σ0 σ : St} {a1 : Int32} (hK : K σ0 σ) (pa1 : ir a1 5) : ok (fX6_canDo σ 3 a1) (fun _ => True) := by
  have hFU : FU = 100000 := rfl
  have pa1l := pa1.1
  have pa1u := pa1.2
  unfold fX6_canDo
  refine ok_gd pa1 ?_
  refine ok_le (n := 0) rfl rfl (fun h91 => ?_) (fun h91 => ?_)
  · skip
    exact ok_some trivial
  · skip
    refine ok_gd pa1 ?_
    refine ok_gd (ne0 (by omega)) ?_
    exact ok_some trivial
theorem ol_fX6_claimsHoldingIn_l4 {σ0 σ : St} (hK : K σ0 σ) : ∀ (n : Nat) (x1 : Int32) (x2 : Int32) (x3 : Int32), 0 ≤ x3.toInt → (12 + 1 - x3.toInt).toNat < n → ok (fX6_claimsHoldingIn_l4 σ 3 n x1 x2 x3) (fun _ => True) := by
  have hFU : FU = 100000 := rfl
  intro n
  induction n with
  | zero => intro x1 x2 x3 hx3 hm; omega
  | succ n ih =>
    intro x1 x2 x3 hx3 hm
    show ok (fX6_claimsHoldingIn_B4 σ 3 (fX6_claimsHoldingIn_l4 σ 3 n) x1 x2 x3) _
    unfold fX6_claimsHoldingIn_B4
    have c92 := hK.cls
    refine ok_le rfl rfl (fun h93 => ?_) (fun h93 => ?_)
    · skip
      exact ok_some trivial
    · skip
      refine ok_gd ⟨by omega, by omega⟩ ?_
      refine ok_eq rfl rfl (fun h94e h94 => ?_) (fun h94e h94 => ?_)
      · skip
        refine ok_la (fun v2 => ?_)
        refine ok_lq (Q := fun v => v.toInt = x3.toInt + 1) (inc (by omega)) (fun v3 e96 => ?_)
        exact ih _ _ _ (by first | assumption | omega | exact ⟨by omega, by omega⟩ | exact Or.inl (eqm1 (by omega))) (by omega)
      · skip
        refine ok_lq (Q := fun v => v.toInt = x3.toInt + 1) (inc (by omega)) (fun v1 e97 => ?_)
        exact ih _ _ _ (by first | assumption | omega | exact ⟨by omega, by omega⟩ | exact Or.inl (eqm1 (by omega))) (by omega)
theorem o_fX6_claimsHoldingIn {σ0 σ : St} {a1 : Int32} (hK : K σ0 σ) : ok (fX6_claimsHoldingIn σ 3 a1) (fun _ => True) := by
  have hFU : FU = 100000 := rfl
  unfold fX6_claimsHoldingIn
  refine ok_lq (Q := fun v => v.toInt = 0) rfl (fun v4 e98 => ?_)
  refine ok_lq (Q := fun v => v.toInt = 0) rfl (fun v5 e99 => ?_)
  exact ol_fX6_claimsHoldingIn_l4 hK FU _ _ _ (by first | assumption | omega | exact ⟨by omega, by omega⟩ | exact Or.inl (eqm1 (by omega))) (by omega)
theorem o_fX6_goes {σ0 σ : St} {a1 : Int32} {a2 : Int32} (hK : K σ0 σ) (pa1 : ir a1 12) : ok (fX6_goes σ 3 a1 a2) (tf True) := by
  have hFU : FU = 100000 := rfl
  have pa1l := pa1.1
  have pa1u := pa1.2
  unfold fX6_goes
  refine ok_gd pa1 ?_
  refine ok_eq (n := 0) rfl rfl (fun h100e h100 => ?_) (fun h100e h100 => ?_)
  · skip
    refine ok_gd pa1 ?_
    refine ok_eq (n := 0) rfl rfl (fun h101e h101 => ?_) (fun h101e h101 => ?_)
    · skip
      refine ok_gd (by decide) ?_
      exact ok_some (tf1 trivial)
    · skip
      refine ok_gd (by decide) ?_
      exact ok_some tf0
  · skip
    refine ok_gd (by decide) ?_
    exact ok_some tf0
theorem ol_fX6_holedSteps_l9 {σ0 σ : St} (hK : K σ0 σ) : ∀ (n : Nat) (x2 : Int64) (x4 : Int32) (x5 : Int32), 0 ≤ x5.toInt → (12 + 1 - x5.toInt).toNat < n → ok (fX6_holedSteps_l9 σ 3 n x2 x4 x5) (fun _ => True) := by
  have hFU : FU = 100000 := rfl
  intro n
  induction n with
  | zero => intro x2 x4 x5 hx5 hm; omega
  | succ n ih =>
    intro x2 x4 x5 hx5 hm
    show ok (fX6_holedSteps_B9 σ 3 (fX6_holedSteps_l9 σ 3 n) x2 x4 x5) _
    unfold fX6_holedSteps_B9
    have c102 := hK.sts
    refine ok_le rfl rfl (fun h103 => ?_) (fun h103 => ?_)
    · skip
      exact ok_some trivial
    · skip
      refine ok_gd (by decide) ?_
      refine ok_la (fun v1 => ?_)
      refine ok_gd (by decide) ?_
      refine ok_gd (by decide) ?_
      refine ok_if (fun h105 => ?_) (fun h105 => ?_)
      · skip
        refine ok_lq (Q := fun v => v.toInt = x5.toInt + 1) (inc (by omega)) (fun v2 e106 => ?_)
        exact ih _ _ _ (by first | assumption | omega | exact ⟨by omega, by omega⟩ | exact Or.inl (eqm1 (by omega))) (by omega)
      · skip
        refine ok_la (fun v3 => ?_)
        refine ok_lq (Q := fun v => v.toInt = x5.toInt + 1) (inc (by omega)) (fun v4 e108 => ?_)
        exact ih _ _ _ (by first | assumption | omega | exact ⟨by omega, by omega⟩ | exact Or.inl (eqm1 (by omega))) (by omega)
theorem o_fX6_holedSteps {σ0 σ : St} {a1 : Int32} (hK : K σ0 σ) : ok (fX6_holedSteps σ 3 a1) (fun _ => True) := by
  have hFU : FU = 100000 := rfl
  unfold fX6_holedSteps
  refine ok_la (fun v5 => ?_)
  refine ok_lq (Q := fun v => v.toInt = 0) rfl (fun v6 e110 => ?_)
  refine ok_lq (Q := fun v => v.toInt = 0) rfl (fun v7 e111 => ?_)
  exact ol_fX6_holedSteps_l9 hK FU _ _ _ (by first | assumption | omega | exact ⟨by omega, by omega⟩ | exact Or.inl (eqm1 (by omega))) (by omega)
theorem ol_fX6_teamKnows_l4 {σ0 σ : St} (hK : K σ0 σ) : ∀ (n : Nat) (x1 : Int32) (x2 : Int32) (x3 : Int32), 0 ≤ x3.toInt → ir x2 4096 → (5 + 1 - x3.toInt).toNat < n → ok (fX6_teamKnows_l4 σ 3 n x1 x2 x3) (fun r => ir r 4096) := by
  have hFU : FU = 100000 := rfl
  intro n
  induction n with
  | zero => intro x1 x2 x3 hx3 ax2 hm; omega
  | succ n ih =>
    intro x1 x2 x3 hx3 ax2 hm
    have ax2l := ax2.1
    have ax2u := ax2.2
    show ok (fX6_teamKnows_B4 σ 3 (fX6_teamKnows_l4 σ 3 n) x1 x2 x3) _
    unfold fX6_teamKnows_B4
    have c112 := hK.gus
    refine ok_le rfl rfl (fun h113 => ?_) (fun h113 => ?_)
    · skip
      exact ok_some ax2
    · skip
      refine ok_eq (n := 1) rfl rfl (fun h114e h114 => ?_) (fun h114e h114 => ?_)
      · skip
        refine ok_gd ⟨by omega, by omega⟩ ?_
        refine ok_lq (Q := fun v => ir v 4096) (ir_or ax2 (hK.kno _)) (fun v2 q115 => ?_)
        refine ok_lq (Q := fun v => v.toInt = x3.toInt + 1) (inc (by omega)) (fun v3 e116 => ?_)
        exact ih _ _ _ (by first | assumption | omega | exact ⟨by omega, by omega⟩ | exact Or.inl (eqm1 (by omega))) q115 (by omega)
      · skip
        refine ok_lq (Q := fun v => v.toInt = x3.toInt + 1) (inc (by omega)) (fun v1 e117 => ?_)
        exact ih _ _ _ (by first | assumption | omega | exact ⟨by omega, by omega⟩ | exact Or.inl (eqm1 (by omega))) ax2 (by omega)
theorem o_fX6_teamKnows {σ0 σ : St} {a1 : Int32} (hK : K σ0 σ) : ok (fX6_teamKnows σ 3 a1) (fun r => ir r 4096) := by
  have hFU : FU = 100000 := rfl
  unfold fX6_teamKnows
  refine ok_lq (Q := fun v => v.toInt = 0) rfl (fun v4 e118 => ?_)
  refine ok_lq (Q := fun v => v.toInt = 0) rfl (fun v5 e119 => ?_)
  exact ol_fX6_teamKnows_l4 hK FU _ _ _ (by first | assumption | omega | exact ⟨by omega, by omega⟩ | exact Or.inl (eqm1 (by omega))) (irl e118 (by decide) (by decide)) (by omega)
theorem ol_fX6_worthOf_l4 {σ0 σ : St} (hK : K σ0 σ) : ∀ (n : Nat) (x1 : Int32) (x2 : Int32) (x3 : Int32), 0 ≤ x3.toInt → (12 + 1 - x3.toInt).toNat < n → ok (fX6_worthOf_l4 σ 3 n x1 x2 x3) (fun _ => True) := by
  have hFU : FU = 100000 := rfl
  intro n
  induction n with
  | zero => intro x1 x2 x3 hx3 hm; omega
  | succ n ih =>
    intro x1 x2 x3 hx3 hm
    show ok (fX6_worthOf_B4 σ 3 (fX6_worthOf_l4 σ 3 n) x1 x2 x3) _
    unfold fX6_worthOf_B4
    have c120 := hK.cls
    refine ok_le rfl rfl (fun h121 => ?_) (fun h121 => ?_)
    · skip
      exact ok_some trivial
    · skip
      refine ok_eq (n := 1) rfl rfl (fun h122e h122 => ?_) (fun h122e h122 => ?_)
      · skip
        refine ok_gd ⟨by omega, by omega⟩ ?_
        refine ok_la (fun v2 => ?_)
        refine ok_lq (Q := fun v => v.toInt = x3.toInt + 1) (inc (by omega)) (fun v3 e124 => ?_)
        exact ih _ _ _ (by first | assumption | omega | exact ⟨by omega, by omega⟩ | exact Or.inl (eqm1 (by omega))) (by omega)
      · skip
        refine ok_lq (Q := fun v => v.toInt = x3.toInt + 1) (inc (by omega)) (fun v1 e125 => ?_)
        exact ih _ _ _ (by first | assumption | omega | exact ⟨by omega, by omega⟩ | exact Or.inl (eqm1 (by omega))) (by omega)
theorem o_fX6_worthOf {σ0 σ : St} {a1 : Int32} (hK : K σ0 σ) : ok (fX6_worthOf σ 3 a1) (fun _ => True) := by
  have hFU : FU = 100000 := rfl
  unfold fX6_worthOf
  refine ok_lq (Q := fun v => v.toInt = 0) rfl (fun v4 e126 => ?_)
  refine ok_lq (Q := fun v => v.toInt = 0) rfl (fun v5 e127 => ?_)
  exact ol_fX6_worthOf_l4 hK FU _ _ _ (by first | assumption | omega | exact ⟨by omega, by omega⟩ | exact Or.inl (eqm1 (by omega))) (by omega)
theorem o_fX7_alike {σ0 σ : St} {a1 : Int32} (hK : K σ0 σ) : ok (fX7_alike σ a1) (fun _ => True) := by
  have hFU : FU = 100000 := rfl
  unfold fX7_alike
  refine ok_bz ok_hasClaim ?_ (fun i128 => ?_)
  · skip
    exact ok_some trivial
  · skip
    have i128l := i128.1
    have i128u := i128.2
    have i128c := hK.cls
    refine ok_gd ⟨by omega, by omega⟩ ?_
    refine ok_bp (o_fX6_claimsHoldingIn hK) (fun r2 q129 => ?_)
    exact ok_some trivial
theorem o_fX7_claim {σ0 σ : St} {a1 : Int32} {a2 : Int32} (hK : K σ0 σ) : ok (fX7_claim σ a1 a2) (fun _ => True) := by
  have hFU : FU = 100000 := rfl
  unfold fX7_claim
  refine ok_bz ok_hasClaim ?_ (fun i130 => ?_)
  · skip
    exact ok_some trivial
  · skip
    have i130l := i130.1
    have i130u := i130.2
    have i130c := hK.cls
    refine ok_eq (n := 0) rfl rfl (fun h131e h131 => ?_) (fun h131e h131 => ?_)
    · skip
      refine ok_gd ⟨by omega, by omega⟩ ?_
      exact ok_some trivial
    · skip
      refine ok_eq (n := 1) rfl rfl (fun h132e h132 => ?_) (fun h132e h132 => ?_)
      · skip
        exact ok_some trivial
      · skip
        refine ok_eq (n := 2) rfl rfl (fun h133e h133 => ?_) (fun h133e h133 => ?_)
        · skip
          refine ok_gd ⟨by omega, by omega⟩ ?_
          refine ok_bp ok_bc (fun r2 q134 => ?_)
          have q134l := q134.1
          have q134u := q134.2
          exact ok_some trivial
        · skip
          exact ok_some trivial
theorem o_fX7_claims {σ0 σ : St} {a1 : Int32} {a2 : Int32} (hK : K σ0 σ) : ok (fX7_claims σ a1 a2) (fun p => True ∧ K σ0 p.2) := by
  have hFU : FU = 100000 := rfl
  unfold fX7_claims
  refine ok_bz ok_hasClaim ?_ (fun i135 => ?_)
  · skip
    exact ok_some ⟨trivial, hK⟩
  · skip
    have i135l := i135.1
    have i135u := i135.2
    have i135c := hK.cls
    refine ok_bz o_fX7_isBit ?_ (fun i136 => ?_)
    · skip
      exact ok_some ⟨trivial, hK⟩
    · skip
      refine ok_gd ⟨by omega, by omega⟩ ?_
      refine ok_bs (o_fX0_worldThatComes hK ⟨by omega, by omega⟩) (fun r3 σ4 q137 => ?_)
      have hK4 : K σ0 σ4 := q137.2
      exact ok_some ⟨trivial, hK4⟩
theorem o_fX7_count {σ0 σ : St} {a1 : Int32} (hK : K σ0 σ) : ok (fX7_count σ a1) (fun _ => True) := by
  have hFU : FU = 100000 := rfl
  unfold fX7_count
  have c138 := hK.ats
  have c139 := hK.cls
  have c140 := hK.sts
  have c141 := hK.gus
  refine ok_eq (n := 0) rfl rfl (fun h142e h142 => ?_) (fun h142e h142 => ?_)
  · skip
    exact ok_some trivial
  · skip
    refine ok_eq (n := 1) rfl rfl (fun h143e h143 => ?_) (fun h143e h143 => ?_)
    · skip
      exact ok_some trivial
    · skip
      refine ok_eq (n := 2) rfl rfl (fun h144e h144 => ?_) (fun h144e h144 => ?_)
      · skip
        exact ok_some trivial
      · skip
        refine ok_eq (n := 3) rfl rfl (fun h145e h145 => ?_) (fun h145e h145 => ?_)
        · skip
          exact ok_some trivial
        · skip
          refine ok_eq (n := 4) rfl rfl (fun h146e h146 => ?_) (fun h146e h146 => ?_)
          · skip
            exact ok_some trivial
          · skip
            refine ok_eq (n := 5) rfl rfl (fun h147e h147 => ?_) (fun h147e h147 => ?_)
            · skip
              exact ok_some trivial
            · skip
              refine ok_eq (n := 6) rfl rfl (fun h148e h148 => ?_) (fun h148e h148 => ?_)
              · skip
                exact ok_some trivial
              · skip
                refine ok_eq (n := 7) rfl rfl (fun h149e h149 => ?_) (fun h149e h149 => ?_)
                · skip
                  exact ok_some trivial
                · skip
                  refine ok_eq (n := 8) rfl rfl (fun h150e h150 => ?_) (fun h150e h150 => ?_)
                  · skip
                    refine ok_bp (o_fX7_rowsThere hK) (fun r1 q151 => ?_)
                    exact ok_some trivial
                  · skip
                    exact ok_some trivial
theorem o_fX7_drawn {σ0 σ : St} {a1 : Int32} (hK : K σ0 σ) : ok (fX7_drawn σ a1) (fun _ => True) := by
  have hFU : FU = 100000 := rfl
  unfold fX7_drawn
  refine ok_bz ok_isTold ?_ (fun i152 => ?_)
  · skip
    exact ok_some trivial
  · skip
    refine ok_bz o_fX7_isSeed ?_ (fun i153 => ?_)
    · skip
      exact ok_some trivial
    · skip
      refine ok_bp (o_fX6_holedSteps hK) (fun r3 q154 => ?_)
      exact ok_some trivial
theorem o_fX7_entails {σ0 σ : St} {a1 : Int32} {a2 : Int32} (hK : K σ0 σ) : ok (fX7_entails σ a1 a2) (fun _ => True) := by
  have hFU : FU = 100000 := rfl
  unfold fX7_entails
  refine ok_bz ok_hasClaim ?_ (fun i155 => ?_)
  · skip
    exact ok_some trivial
  · skip
    have i155l := i155.1
    have i155u := i155.2
    have i155c := hK.cls
    refine ok_bz ok_hasClaim ?_ (fun i156 => ?_)
    · skip
      exact ok_some trivial
    · skip
      have i156l := i156.1
      have i156u := i156.2
      have i156c := hK.cls
      refine ok_gd ⟨by omega, by omega⟩ ?_
      refine ok_gd ⟨by omega, by omega⟩ ?_
      refine ok_eq (n := 0) rfl rfl (fun h157e h157 => ?_) (fun h157e h157 => ?_)
      · skip
        unfold fX7_entails_b54
        refine ok_bp o_fX7_bit (fun r1 q158 => ?_)
        exact ok_some trivial
      · skip
        unfold fX7_entails_b54
        refine ok_bp o_fX7_bit (fun r1 q159 => ?_)
        exact ok_some trivial
theorem o_fX7_guest {σ0 σ : St} {a1 : Int32} {a2 : Int32} (hK : K σ0 σ) : ok (fX7_guest σ a1 a2) (fun _ => True) := by
  have hFU : FU = 100000 := rfl
  unfold fX7_guest
  refine ok_bz ok_hasGuest ?_ (fun i160 => ?_)
  · skip
    exact ok_some trivial
  · skip
    have i160l := i160.1
    have i160u := i160.2
    have i160c := hK.gus
    refine ok_eq (n := 0) rfl rfl (fun h161e h161 => ?_) (fun h161e h161 => ?_)
    · skip
      refine ok_gd ⟨by omega, by omega⟩ ?_
      exact ok_some trivial
    · skip
      refine ok_eq (n := 1) rfl rfl (fun h162e h162 => ?_) (fun h162e h162 => ?_)
      · skip
        refine ok_gd ⟨by omega, by omega⟩ ?_
        exact ok_some trivial
      · skip
        refine ok_eq (n := 2) rfl rfl (fun h163e h163 => ?_) (fun h163e h163 => ?_)
        · skip
          refine ok_bp (o_fX6_canDo hK ⟨by omega, by omega⟩) (fun r2 q164 => ?_)
          exact ok_some trivial
        · skip
          exact ok_some trivial
theorem o_fX7_holds {σ0 σ : St} {a1 : Int32} (hK : K σ0 σ) : ok (fX7_holds σ a1) (fun _ => True) := by
  have hFU : FU = 100000 := rfl
  unfold fX7_holds
  refine ok_bz ok_hasClaim ?_ (fun i165 => ?_)
  · skip
    exact ok_some trivial
  · skip
    have i165l := i165.1
    have i165u := i165.2
    have i165c := hK.cls
    refine ok_gd ⟨by omega, by omega⟩ ?_
    exact ok_some trivial
theorem o_fX7_outcome {σ0 σ : St} {a1 : Int32} {a2 : Int32} (hK : K σ0 σ) : ok (fX7_outcome σ a1 a2) (fun p => True ∧ K σ0 p.2) := by
  have hFU : FU = 100000 := rfl
  unfold fX7_outcome
  refine ok_bz ok_hasClaim ?_ (fun i166 => ?_)
  · skip
    exact ok_some ⟨trivial, hK⟩
  · skip
    have i166l := i166.1
    have i166u := i166.2
    have i166c := hK.cls
    refine ok_bz o_fX7_isBit ?_ (fun i167 => ?_)
    · skip
      exact ok_some ⟨trivial, hK⟩
    · skip
      refine ok_bs (o_fX0_worldThatComes hK ⟨by omega, by omega⟩) (fun r3 σ4 q168 => ?_)
      have hK4 : K σ0 σ4 := q168.2
      exact ok_some ⟨trivial, hK4⟩
theorem o_fX7_partOfFraction {a0 : Int32} {a1 : Int32} {a2 : Int32} : ok (fX7_partOfFraction a0 a1 a2) (fun _ => True) := by
  have hFU : FU = 100000 := rfl
  unfold fX7_partOfFraction
  refine ok_bp o_fX7_greatestDivisor (fun r1 q169 => ?_)
  refine ok_lt ?_
  refine ok_le (n := 0) rfl rfl (fun h170 => ?_) (fun h170 => ?_)
  · skip
    unfold fX7_partOfFraction_b14
    refine ok_eq (n := 0) rfl rfl (fun h171e h171 => ?_) (fun h171e h171 => ?_)
    · skip
      exact ok_some trivial
    · skip
      exact ok_some trivial
  · skip
    refine ok_lw (m := 0) rfl rfl (fun h172 => ?_) (fun h172 => ?_)
    · skip
      refine ok_eq (n := 0) rfl rfl (fun h173e h173 => ?_) (fun h173e h173 => ?_)
      · skip
        refine ok_gd (ne0 (by omega)) ?_
        exact ok_some trivial
      · skip
        refine ok_gd (ne0 (by omega)) ?_
        exact ok_some trivial
    · skip
      unfold fX7_partOfFraction_b14
      refine ok_eq (n := 0) rfl rfl (fun h174e h174 => ?_) (fun h174e h174 => ?_)
      · skip
        exact ok_some trivial
      · skip
        exact ok_some trivial
theorem o_fX7_refusalOfSlot {σ0 σ : St} {a1 : Int32} (hK : K σ0 σ) : ok (fX7_refusalOfSlot σ a1) (fun r => r = 0 → ir a1 4) := by
  have hFU : FU = 100000 := rfl
  unfold fX7_refusalOfSlot
  refine ok_bz ok_isTold ?_ (fun i175 => ?_)
  · skip
    exact ok_some (fun e => absurd e (by decide))
  · skip
    refine ok_bz ok_isSlot ?_ (fun i176 => ?_)
    · skip
      exact ok_some (fun e => absurd e (by decide))
    · skip
      refine ok_gd i176 ?_
      refine ok_lt ?_
      refine ok_eq (n := 0) rfl rfl (fun h177e h177 => ?_) (fun h177e h177 => ?_)
      · skip
        exact ok_some (fun e => absurd e (by decide))
      · skip
        exact ok_some (fun _ => i176)
theorem o_fX7_sizeOrNone {a0 : Int32} : ok (fX7_sizeOrNone a0) (fun _ => True) := by
  have hFU : FU = 100000 := rfl
  unfold fX7_sizeOrNone
  refine ok_eq (n := -1) rfl rfl (fun h178e h178 => ?_) (fun h178e h178 => ?_)
  · skip
    exact ok_some trivial
  · skip
    refine ok_bp ok_bc (fun r1 q179 => ?_)
    have q179l := q179.1
    have q179u := q179.2
    exact ok_some trivial
theorem ol_fX7_unlike_l17 {σ0 σ : St} (hK : K σ0 σ) : ∀ (n : Nat) (x1 : Int32) (x2 : Int32), 0 ≤ x2.toInt → (12 + 1 - x2.toInt).toNat < n → ok (fX7_unlike_l17 σ n x1 x2) (fun _ => True) := by
  have hFU : FU = 100000 := rfl
  intro n
  induction n with
  | zero => intro x1 x2 hx2 hm; omega
  | succ n ih =>
    intro x1 x2 hx2 hm
    show ok (fX7_unlike_B17 σ (fX7_unlike_l17 σ n) x1 x2) _
    unfold fX7_unlike_B17
    have c180 := hK.cls
    refine ok_le rfl rfl (fun h181 => ?_) (fun h181 => ?_)
    · skip
      exact ok_some trivial
    · skip
      refine ok_gd ⟨by omega, by omega⟩ ?_
      refine ok_bp (o_fX6_claimsHoldingIn hK) (fun r1 q182 => ?_)
      refine ok_lq (Q := fun v => ir v 4096) (ir_and (ir_shm (by omega) (by omega))) (fun v2 q183 => ?_)
      refine ok_eq (n := 0) rfl rfl (fun h184e h184 => ?_) (fun h184e h184 => ?_)
      · skip
        refine ok_la (fun v4 => ?_)
        refine ok_lq (Q := fun v => v.toInt = x2.toInt + 1) (inc (by omega)) (fun v5 e186 => ?_)
        exact ih _ _ (by first | assumption | omega | exact ⟨by omega, by omega⟩ | exact Or.inl (eqm1 (by omega))) (by omega)
      · skip
        refine ok_lq (Q := fun v => v.toInt = x2.toInt + 1) (inc (by omega)) (fun v3 e187 => ?_)
        exact ih _ _ (by first | assumption | omega | exact ⟨by omega, by omega⟩ | exact Or.inl (eqm1 (by omega))) (by omega)
theorem o_fX7_unlike {σ0 σ : St} (hK : K σ0 σ) : ok (fX7_unlike σ) (fun _ => True) := by
  have hFU : FU = 100000 := rfl
  unfold fX7_unlike
  refine ok_bz ok_isTold ?_ (fun i188 => ?_)
  · skip
    exact ok_some trivial
  · skip
    refine ok_lq (Q := fun v => v.toInt = 0) rfl (fun v7 e189 => ?_)
    refine ok_lq (Q := fun v => v.toInt = 0) rfl (fun v8 e190 => ?_)
    exact ol_fX7_unlike_l17 hK FU _ _ (by first | assumption | omega | exact ⟨by omega, by omega⟩ | exact Or.inl (eqm1 (by omega))) (by omega)
theorem ol_fX1_hourOfAll_l5 {σ0 σ : St} (hK : K σ0 σ) : ∀ (n : Nat) (x2 : Int32) (x3 : Int32) (x4 : Int32), 0 ≤ x4.toInt → (12 + 1 - x4.toInt).toNat < n → ok (fX1_hourOfAll_l5 σ 3 n x2 x3 x4) (fun _ => True) := by
  have hFU : FU = 100000 := rfl
  intro n
  induction n with
  | zero => intro x2 x3 x4 hx4 hm; omega
  | succ n ih =>
    intro x2 x3 x4 hx4 hm
    show ok (fX1_hourOfAll_B5 σ 3 (fX1_hourOfAll_l5 σ 3 n) x2 x3 x4) _
    unfold fX1_hourOfAll_B5
    have c191 := hK.cls
    refine ok_le rfl rfl (fun h192 => ?_) (fun h192 => ?_)
    · skip
      exact ok_some trivial
    · skip
      refine ok_eq (n := 1) rfl rfl (fun h193e h193 => ?_) (fun h193e h193 => ?_)
      · skip
        refine ok_gd ⟨by omega, by omega⟩ ?_
        refine ok_eq (n := -1) rfl rfl (fun h194e h194 => ?_) (fun h194e h194 => ?_)
        · skip
          exact ok_some trivial
        · skip
          refine ok_gd ⟨by omega, by omega⟩ ?_
          refine ok_la (fun v2 => ?_)
          refine ok_lq (Q := fun v => v.toInt = x4.toInt + 1) (inc (by omega)) (fun v3 e196 => ?_)
          exact ih _ _ _ (by first | assumption | omega | exact ⟨by omega, by omega⟩ | exact Or.inl (eqm1 (by omega))) (by omega)
      · skip
        refine ok_lq (Q := fun v => v.toInt = x4.toInt + 1) (inc (by omega)) (fun v1 e197 => ?_)
        exact ih _ _ _ (by first | assumption | omega | exact ⟨by omega, by omega⟩ | exact Or.inl (eqm1 (by omega))) (by omega)
theorem o_fX1_hourOfAll {σ0 σ : St} {a2 : Int32} (hK : K σ0 σ) : ok (fX1_hourOfAll σ 3 a2) (fun _ => True) := by
  have hFU : FU = 100000 := rfl
  unfold fX1_hourOfAll
  refine ok_lq (Q := fun v => v.toInt = 0) rfl (fun v4 e198 => ?_)
  refine ok_lq (Q := fun v => v.toInt = 0) rfl (fun v5 e199 => ?_)
  exact ol_fX1_hourOfAll_l5 hK FU _ _ _ (by first | assumption | omega | exact ⟨by omega, by omega⟩ | exact Or.inl (eqm1 (by omega))) (by omega)
theorem ol_fX3_read_l41 {σ0 : St} {w : Nat} (hw : ∃ s, s < 4 ∧ w = rowp s) (hr : RS σ0 w) : ∀ (n : Nat) (σ : St) (x3 : Int32), K σ0 σ → 0 ≤ x3.toInt → (60 + 1 - x3.toInt).toNat < n → ok (fX3_read_l41 3 w n σ x3) (fun τ => K σ0 τ) := by
  have hFU : FU = 100000 := rfl
  intro n
  induction n with
  | zero => intro σ x3 hK hx3 hm; omega
  | succ n ih =>
    intro σ x3 hK hx3 hm
    show ok (fX3_read_B41 3 w (fX3_read_l41 3 w n) σ x3) _
    unfold fX3_read_B41
    have c200 := hK.rwx hw
    refine ok_le rfl rfl (fun h201 => ?_) (fun h201 => ?_)
    · skip
      exact ok_some hK
    · skip
      refine ok_eq (n := 0) rfl rfl (fun h202e h202 => ?_) (fun h202e h202 => ?_)
      · skip
        refine ok_gd ⟨by omega, by omega⟩ ?_
        refine ok_lq (Q := fun v => ir v 12) (rsn hK hw hr (by omega) (by omega)) (fun v1 q203 => ?_)
        refine ok_bp (o_fX3_reasonAgainst hK q203) (fun r2 q204 => ?_)
        refine ok_lq (Q := fun τ => K σ0 τ) (hK.set rfl) (fun σ3 hK3 => ?_)
        refine ok_eq (n := 0) rfl rfl (fun h205e h205 => ?_) (fun h205e h205 => ?_)
        · skip
          refine ok_gd q203 ?_
          refine ok_gd q203 ?_
          refine ok_bp (o_fX3_usedForAll hK3) (fun r5 q206 => ?_)
          refine ok_gd (hK3.giv _) ?_
          refine ok_lq (Q := fun τ => K σ0 τ) (hK3.set rfl) (fun σ6 hK6 => ?_)
          refine ok_gd q203 ?_
          refine ok_lq (Q := fun τ => K σ0 τ) (hK6.set rfl) (fun σ7 hK7 => ?_)
          refine ok_lq (Q := fun τ => K σ0 τ) (hK7.set rfl) (fun σ8 hK8 => ?_)
          refine ok_lq (Q := fun v => v.toInt = x3.toInt + 1) (inc (by omega)) (fun v9 e207 => ?_)
          exact ih _ _ hK8 (by first | assumption | omega | exact ⟨by omega, by omega⟩ | exact Or.inl (eqm1 (by omega))) (by omega)
        · skip
          refine ok_lq (Q := fun v => v.toInt = x3.toInt + 1) (inc (by omega)) (fun v4 e208 => ?_)
          exact ih _ _ hK3 (by first | assumption | omega | exact ⟨by omega, by omega⟩ | exact Or.inl (eqm1 (by omega))) (by omega)
      · skip
        exact ok_some hK
theorem ol_fX3_read_l20 {σ0 : St} {w : Nat} (hw : ∃ s, s < 4 ∧ w = rowp s) (hr : RS σ0 w) : ∀ (n : Nat) (σ : St) (x3 : Int32), K σ0 σ → 0 ≤ x3.toInt → (12 + 1 - x3.toInt).toNat < n → ok (fX3_read_l20 3 w n σ x3) (fun τ => K σ0 τ) := by
  have hFU : FU = 100000 := rfl
  intro n
  induction n with
  | zero => intro σ x3 hK hx3 hm; omega
  | succ n ih =>
    intro σ x3 hK hx3 hm
    show ok (fX3_read_B20 3 w (fX3_read_l20 3 w n) σ x3) _
    unfold fX3_read_B20
    refine ok_le (m := 12) rfl rfl (fun h209 => ?_) (fun h209 => ?_)
    · skip
      refine ok_lq (Q := fun v => v.toInt = 0) rfl (fun v10 e210 => ?_)
      exact ol_fX3_read_l41 hw hr FU _ _ hK (by first | assumption | omega | exact ⟨by omega, by omega⟩ | exact Or.inl (eqm1 (by omega))) (by omega)
    · skip
      refine ok_gd ⟨by omega, by omega⟩ ?_
      refine ok_lq (Q := fun τ => K σ0 τ) (hK.set rfl) (fun σ11 hK11 => ?_)
      refine ok_lq (Q := fun v => v.toInt = x3.toInt + 1) (inc (by omega)) (fun v12 e211 => ?_)
      exact ih _ _ hK11 (by first | assumption | omega | exact ⟨by omega, by omega⟩ | exact Or.inl (eqm1 (by omega))) (by omega)
theorem o_fX3_read {σ0 σ : St} {w : Nat} (hK : K σ0 σ) (hw : ∃ s, s < 4 ∧ w = rowp s) (hr : RS σ0 w) : ok (fX3_read σ 3 w) (fun τ => K σ0 τ) := by
  have hFU : FU = 100000 := rfl
  unfold fX3_read
  refine ok_lq (Q := fun τ => K σ0 τ) (hK.set rfl) (fun σ13 hK13 => ?_)
  refine ok_lq (Q := fun τ => K σ0 τ) (hK13.set rfl) (fun σ14 hK14 => ?_)
  refine ok_lq (Q := fun τ => K σ0 τ) (hK14.set rfl) (fun σ15 hK15 => ?_)
  refine ok_lq (Q := fun v => v.toInt = 0) rfl (fun v16 e212 => ?_)
  exact ol_fX3_read_l20 hw hr FU _ _ hK15 (by first | assumption | omega | exact ⟨by omega, by omega⟩ | exact Or.inl (eqm1 (by omega))) (by omega)
theorem ol_fX3_worthEaten_l23 {σ0 σ : St} {w : Nat} (hK : K σ0 σ) (hw : ∃ s, s < 4 ∧ w = rowp s) (hr : RS σ0 w) : ∀ (n : Nat) (x3 : Int32) (x4 : Int32) (x5 : Int32) (x6 : Int32), 0 ≤ x6.toInt → ir x3 5 → x5.toInt ≤ (σ.1 w 2).toInt → (60 + 1 - x6.toInt).toNat < n → ok (fX3_worthEaten_l23 σ 3 w n x3 x4 x5 x6) (fun _ => True) := by
  have hFU : FU = 100000 := rfl
  intro n
  induction n with
  | zero => intro x3 x4 x5 x6 hx6 ax3 b5 hm; omega
  | succ n ih =>
    intro x3 x4 x5 x6 hx6 ax3 b5 hm
    have ax3l := ax3.1
    have ax3u := ax3.2
    have cw := hK.rwx hw
    show ok (fX3_worthEaten_B23 σ 3 w (fX3_worthEaten_l23 σ 3 w n) x3 x4 x5 x6) _
    unfold fX3_worthEaten_B23
    refine ok_le rfl rfl (fun h213 => ?_) (fun h213 => ?_)
    · skip
      unfold fX3_worthEaten_b101
      refine ok_bp (o_fX6_worthOf hK) (fun r1 q214 => ?_)
      exact ok_some trivial
    · skip
      refine ok_gd ⟨by omega, by omega⟩ ?_
      refine ok_lq (Q := fun v => ir v 12) (rsn hK hw hr (by omega) (by omega)) (fun v6 q215 => ?_)
      refine ok_gd ax3 ?_
      refine ok_eq (n := 1) rfl rfl (fun h216e h216 => ?_) (fun h216e h216 => ?_)
      · skip
        unfold fX3_worthEaten_b60
        refine ok_lq (Q := fun v => v.toInt = 1) rfl (fun v2 e217 => ?_)
        refine ok_eq (n := 0) rfl rfl (fun h218e h218 => ?_) (fun h218e h218 => ?_)
        · skip
          exact absurd h218 (by omega)
        · skip
          refine ok_bz (o_fX6_goes hK q215) ?_ (fun i219 => ?_)
          · skip
            unfold fX3_worthEaten_b101
            refine ok_bp (o_fX6_worthOf hK) (fun r1 q220 => ?_)
            exact ok_some trivial
          · skip
            refine ok_gd q215 ?_
            refine ok_la (fun v4 => ?_)
            refine ok_lq (Q := fun v => v.toInt = x6.toInt + 1) (inc (by omega)) (fun v5 e222 => ?_)
            exact ih _ _ _ _ (by first | assumption | omega | exact ⟨by omega, by omega⟩ | exact Or.inl (eqm1 (by omega))) ax3 (by first | assumption | omega | exact ⟨by omega, by omega⟩ | exact Or.inl (eqm1 (by omega))) (by omega)
      · skip
        unfold fX3_worthEaten_b60
        refine ok_lq (Q := fun v => v.toInt = 0) rfl (fun v2 e223 => ?_)
        refine ok_eq (n := 0) rfl rfl (fun h224e h224 => ?_) (fun h224e h224 => ?_)
        · skip
          unfold fX3_worthEaten_b101
          refine ok_bp (o_fX6_worthOf hK) (fun r1 q225 => ?_)
          exact ok_some trivial
        · exact absurd h224 (by omega)
theorem o_fX3_worthEaten {σ0 σ : St} {w : Nat} {a3 : Int32} (hK : K σ0 σ) (hw : ∃ s, s < 4 ∧ w = rowp s) (hr : RS σ0 w) (pa3 : ir a3 5) : ok (fX3_worthEaten σ 3 w a3) (fun _ => True) := by
  have hFU : FU = 100000 := rfl
  have pa3l := pa3.1
  have pa3u := pa3.2
  unfold fX3_worthEaten
  have c226 := hK.rwx hw
  refine ok_lq (Q := fun v => ir v 4096) hK.salt (fun v7 q227 => ?_)
  refine ok_bp (o_fX6_canDo hK pa3) (fun r8 q228 => ?_)
  refine ok_lq (Q := fun v => v.toInt ≤ (σ.1 w 2).toInt) (min_le _ _) (fun v9 hmin => ?_)
  refine ok_lq (Q := fun v => v.toInt = 0) rfl (fun v10 e229 => ?_)
  exact ol_fX3_worthEaten_l23 hK hw hr FU _ _ _ _ (by first | assumption | omega | exact ⟨by omega, by omega⟩ | exact Or.inl (eqm1 (by omega))) pa3 (by first | assumption | omega | exact ⟨by omega, by omega⟩ | exact Or.inl (eqm1 (by omega))) (by omega)
theorem ol_fX6_firstGoing_l2 {σ0 σ : St} (hK : K σ0 σ) : ∀ (n : Nat) (x1 : Int32) (x2 : Int32) (x3 : Int32), 0 ≤ x3.toInt → (12 + 1 - x3.toInt).toNat < n → ok (fX6_firstGoing_l2 σ 3 n x1 x2 x3) (fun r => r = -1 ∨ ir r 12) := by
  have hFU : FU = 100000 := rfl
  intro n
  induction n with
  | zero => intro x1 x2 x3 hx3 hm; omega
  | succ n ih =>
    intro x1 x2 x3 hx3 hm
    show ok (fX6_firstGoing_B2 σ 3 (fX6_firstGoing_l2 σ 3 n) x1 x2 x3) _
    unfold fX6_firstGoing_B2
    have c230 := hK.sts
    refine ok_le rfl rfl (fun h231 => ?_) (fun h231 => ?_)
    · skip
      exact ok_some (Or.inl rfl)
    · skip
      refine ok_eq (n := 1) rfl rfl (fun h232e h232 => ?_) (fun h232e h232 => ?_)
      · skip
        refine ok_bz (o_fX6_goes hK ⟨by omega, by omega⟩) ?_ (fun i233 => ?_)
        · skip
          refine ok_lq (Q := fun v => v.toInt = x3.toInt + 1) (inc (by omega)) (fun v3 e234 => ?_)
          exact ih _ _ _ (by first | assumption | omega | exact ⟨by omega, by omega⟩ | exact Or.inl (eqm1 (by omega))) (by omega)
        · skip
          exact ok_some (Or.inr ⟨by omega, by omega⟩)
      · skip
        refine ok_lq (Q := fun v => v.toInt = x3.toInt + 1) (inc (by omega)) (fun v1 e235 => ?_)
        exact ih _ _ _ (by first | assumption | omega | exact ⟨by omega, by omega⟩ | exact Or.inl (eqm1 (by omega))) (by omega)
theorem o_fX6_firstGoing {σ0 σ : St} {a1 : Int32} {a2 : Int32} (hK : K σ0 σ) : ok (fX6_firstGoing σ 3 a1 a2) (fun r => r = -1 ∨ ir r 12) := by
  have hFU : FU = 100000 := rfl
  unfold fX6_firstGoing
  refine ok_lq (Q := fun v => v.toInt = 0) rfl (fun v4 e236 => ?_)
  exact ol_fX6_firstGoing_l2 hK FU _ _ _ (by first | assumption | omega | exact ⟨by omega, by omega⟩ | exact Or.inl (eqm1 (by omega))) (by omega)
theorem o_fX6_isClaimSet {σ0 σ : St} {a1 : Int32} (hK : K σ0 σ) : ok (fX6_isClaimSet σ 3 a1) (tf True) := by
  have hFU : FU = 100000 := rfl
  unfold fX6_isClaimSet
  have c237 := hK.cls
  refine ok_bz ok_isTold ?_ (fun i238 => ?_)
  · skip
    refine ok_gd (by decide) ?_
    exact ok_some tf0
  · skip
    refine ok_lw (n := 0) rfl rfl (fun h239 => ?_) (fun h239 => ?_)
    · skip
      refine ok_gd (by decide) ?_
      exact ok_some tf0
    · skip
      refine ok_le rfl rfl (fun h240 => ?_) (fun h240 => ?_)
      · skip
        refine ok_gd (by decide) ?_
        exact ok_some tf0
      · skip
        refine ok_gd (by decide) ?_
        exact ok_some (tf1 trivial)
theorem o_fX6_isGuestSet {σ0 σ : St} {a1 : Int32} (hK : K σ0 σ) : ok (fX6_isGuestSet σ 3 a1) (tf True) := by
  have hFU : FU = 100000 := rfl
  unfold fX6_isGuestSet
  have c241 := hK.gus
  refine ok_bz ok_isTold ?_ (fun i242 => ?_)
  · skip
    refine ok_gd (by decide) ?_
    exact ok_some tf0
  · skip
    refine ok_lw (n := 0) rfl rfl (fun h243 => ?_) (fun h243 => ?_)
    · skip
      refine ok_gd (by decide) ?_
      exact ok_some tf0
    · skip
      refine ok_le rfl rfl (fun h244 => ?_) (fun h244 => ?_)
      · skip
        refine ok_gd (by decide) ?_
        exact ok_some tf0
      · skip
        refine ok_gd (by decide) ?_
        exact ok_some (tf1 trivial)
theorem ol_fX6_spread_l26 {σ0 σ : St} {kr8 : Int32 → Int32 → Int32 → Int32 → Option (Int32)} {m8 : Nat} (hK : K σ0 σ) (hkr8 : ∀ (x1 : Int32) (x3 : Int32) (x4 : Int32) (x5 : Int32), 0 ≤ x5.toInt → (13 + 1 - x5.toInt).toNat < m8 → ok (kr8 x1 x3 x4 x5) (fun _ => True)) : ∀ (n : Nat) (x1 : Int32) (x3 : Int32) (x5 : Int32) (x6 : Int32) (x7 : Int32), 0 ≤ x7.toInt → x5.toInt ≤ 12 → 0 ≤ x5.toInt → (13 + 1 - x5.toInt).toNat < m8 + 1 → (12 + 1 - x7.toInt).toNat < n → ok (fX6_spread_l26 σ 3 kr8 n x1 x3 x5 x6 x7) (fun _ => True) := by
  have hFU : FU = 100000 := rfl
  intro n
  induction n with
  | zero => intro x1 x3 x5 x6 x7 hx7 u5 hx5 hm8 hm; omega
  | succ n ih =>
    intro x1 x3 x5 x6 x7 hx7 u5 hx5 hm8 hm
    show ok (fX6_spread_B26 σ 3 kr8 (fX6_spread_l26 σ 3 kr8 n) x1 x3 x5 x6 x7) _
    unfold fX6_spread_B26
    have c245 := hK.sts
    refine ok_le rfl rfl (fun h246 => ?_) (fun h246 => ?_)
    · skip
      refine ok_eq rfl rfl (fun h247e h247 => ?_) (fun h247e h247 => ?_)
      · skip
        refine ok_lq (Q := fun v => v.toInt = 0) rfl (fun v1 e248 => ?_)
        refine ok_lq (Q := fun v => v.toInt = x5.toInt + 1) (inc (by omega)) (fun v2 e249 => ?_)
        exact hkr8 _ _ _ _ (by first | assumption | omega | exact ⟨by omega, by omega⟩ | exact Or.inl (eqm1 (by omega))) (by omega)
      · skip
        refine ok_lq (Q := fun v => v.toInt = 1) rfl (fun v3 e250 => ?_)
        refine ok_lq (Q := fun v => v.toInt = x5.toInt + 1) (inc (by omega)) (fun v4 e251 => ?_)
        exact hkr8 _ _ _ _ (by first | assumption | omega | exact ⟨by omega, by omega⟩ | exact Or.inl (eqm1 (by omega))) (by omega)
    · skip
      refine ok_eq (n := 1) rfl rfl (fun h252e h252 => ?_) (fun h252e h252 => ?_)
      · skip
        refine ok_bz (o_fX6_goes hK ⟨by omega, by omega⟩) ?_ (fun i253 => ?_)
        · skip
          refine ok_lq (Q := fun v => v.toInt = x7.toInt + 1) (inc (by omega)) (fun v7 e254 => ?_)
          exact ih _ _ _ _ _ (by first | assumption | omega | exact ⟨by omega, by omega⟩ | exact Or.inl (eqm1 (by omega))) (by first | assumption | omega | exact ⟨by omega, by omega⟩ | exact Or.inl (eqm1 (by omega))) (by first | assumption | omega | exact ⟨by omega, by omega⟩ | exact Or.inl (eqm1 (by omega))) (by first | assumption | omega | exact ⟨by omega, by omega⟩ | exact Or.inl (eqm1 (by omega))) (by omega)
        · skip
          refine ok_gd ⟨by omega, by omega⟩ ?_
          refine ok_la (fun v8 => ?_)
          refine ok_lq (Q := fun v => v.toInt = x7.toInt + 1) (inc (by omega)) (fun v9 e256 => ?_)
          exact ih _ _ _ _ _ (by first | assumption | omega | exact ⟨by omega, by omega⟩ | exact Or.inl (eqm1 (by omega))) (by first | assumption | omega | exact ⟨by omega, by omega⟩ | exact Or.inl (eqm1 (by omega))) (by first | assumption | omega | exact ⟨by omega, by omega⟩ | exact Or.inl (eqm1 (by omega))) (by first | assumption | omega | exact ⟨by omega, by omega⟩ | exact Or.inl (eqm1 (by omega))) (by omega)
      · skip
        refine ok_lq (Q := fun v => v.toInt = x7.toInt + 1) (inc (by omega)) (fun v5 e257 => ?_)
        exact ih _ _ _ _ _ (by first | assumption | omega | exact ⟨by omega, by omega⟩ | exact Or.inl (eqm1 (by omega))) (by first | assumption | omega | exact ⟨by omega, by omega⟩ | exact Or.inl (eqm1 (by omega))) (by first | assumption | omega | exact ⟨by omega, by omega⟩ | exact Or.inl (eqm1 (by omega))) (by first | assumption | omega | exact ⟨by omega, by omega⟩ | exact Or.inl (eqm1 (by omega))) (by omega)
theorem ol_fX6_spread_l8 {σ0 σ : St} (hK : K σ0 σ) : ∀ (n : Nat) (x1 : Int32) (x3 : Int32) (x4 : Int32) (x5 : Int32), 0 ≤ x5.toInt → (13 + 1 - x5.toInt).toNat < n → ok (fX6_spread_l8 σ 3 n x1 x3 x4 x5) (fun _ => True) := by
  have hFU : FU = 100000 := rfl
  intro n
  induction n with
  | zero => intro x1 x3 x4 x5 hx5 hm; omega
  | succ n ih =>
    intro x1 x3 x4 x5 hx5 hm
    show ok (fX6_spread_B8 σ 3 (fX6_spread_l8 σ 3 n) x1 x3 x4 x5) _
    unfold fX6_spread_B8
    refine ok_lw (m := 12) rfl rfl (fun h258 => ?_) (fun h258 => ?_)
    · skip
      exact ok_some trivial
    · skip
      refine ok_eq (n := 0) rfl rfl (fun h259e h259 => ?_) (fun h259e h259 => ?_)
      · skip
        exact ok_some trivial
      · skip
        refine ok_lt ?_
        refine ok_lq (Q := fun v => v.toInt = 0) rfl (fun v11 e260 => ?_)
        exact ol_fX6_spread_l26 hK ih FU _ _ _ _ _ (by first | assumption | omega | exact ⟨by omega, by omega⟩ | exact Or.inl (eqm1 (by omega))) (by first | assumption | omega | exact ⟨by omega, by omega⟩ | exact Or.inl (eqm1 (by omega))) (by first | assumption | omega | exact ⟨by omega, by omega⟩ | exact Or.inl (eqm1 (by omega))) (by first | assumption | omega | exact ⟨by omega, by omega⟩ | exact Or.inl (eqm1 (by omega))) (by omega)
theorem o_fX6_spread {σ0 σ : St} {a1 : Int32} {a2 : Int32} (hK : K σ0 σ) : ok (fX6_spread σ 3 a1 a2) (fun _ => True) := by
  have hFU : FU = 100000 := rfl
  unfold fX6_spread
  refine ok_lt ?_
  refine ok_lq (Q := fun v => v.toInt = 1) rfl (fun v13 e261 => ?_)
  refine ok_lq (Q := fun v => v.toInt = 0) rfl (fun v14 e262 => ?_)
  exact ol_fX6_spread_l8 hK FU _ _ _ _ (by first | assumption | omega | exact ⟨by omega, by omega⟩ | exact Or.inl (eqm1 (by omega))) (by omega)
theorem ol_fX6_teamCanDo_l4 {σ0 σ : St} (hK : K σ0 σ) : ∀ (n : Nat) (x1 : Int32) (x2 : Int32) (x3 : Int32), 0 ≤ x3.toInt → (5 + 1 - x3.toInt).toNat < n → ok (fX6_teamCanDo_l4 σ 3 n x1 x2 x3) (fun _ => True) := by
  have hFU : FU = 100000 := rfl
  intro n
  induction n with
  | zero => intro x1 x2 x3 hx3 hm; omega
  | succ n ih =>
    intro x1 x2 x3 hx3 hm
    show ok (fX6_teamCanDo_B4 σ 3 (fX6_teamCanDo_l4 σ 3 n) x1 x2 x3) _
    unfold fX6_teamCanDo_B4
    have c263 := hK.gus
    refine ok_le rfl rfl (fun h264 => ?_) (fun h264 => ?_)
    · skip
      exact ok_some trivial
    · skip
      refine ok_eq (n := 1) rfl rfl (fun h265e h265 => ?_) (fun h265e h265 => ?_)
      · skip
        refine ok_bp (o_fX6_canDo hK ⟨by omega, by omega⟩) (fun r2 q266 => ?_)
        refine ok_la (fun v3 => ?_)
        refine ok_lq (Q := fun v => v.toInt = x3.toInt + 1) (inc (by omega)) (fun v4 e268 => ?_)
        exact ih _ _ _ (by first | assumption | omega | exact ⟨by omega, by omega⟩ | exact Or.inl (eqm1 (by omega))) (by omega)
      · skip
        refine ok_lq (Q := fun v => v.toInt = x3.toInt + 1) (inc (by omega)) (fun v1 e269 => ?_)
        exact ih _ _ _ (by first | assumption | omega | exact ⟨by omega, by omega⟩ | exact Or.inl (eqm1 (by omega))) (by omega)
theorem o_fX6_teamCanDo {σ0 σ : St} {a1 : Int32} (hK : K σ0 σ) : ok (fX6_teamCanDo σ 3 a1) (fun _ => True) := by
  have hFU : FU = 100000 := rfl
  unfold fX6_teamCanDo
  refine ok_lq (Q := fun v => v.toInt = 0) rfl (fun v5 e270 => ?_)
  refine ok_lq (Q := fun v => v.toInt = 0) rfl (fun v6 e271 => ?_)
  exact ol_fX6_teamCanDo_l4 hK FU _ _ _ (by first | assumption | omega | exact ⟨by omega, by omega⟩ | exact Or.inl (eqm1 (by omega))) (by omega)
theorem ol_fX6_worldsOf_l7 {σ0 σ : St} (hK : K σ0 σ) : ∀ (n : Nat) (x1 : Int32) (x2 : Int32) (x3 : Int32), 0 ≤ x3.toInt → (12 + 1 - x3.toInt).toNat < n → ok (fX6_worldsOf_l7 σ 3 n x1 x2 x3) (fun _ => True) := by
  have hFU : FU = 100000 := rfl
  intro n
  induction n with
  | zero => intro x1 x2 x3 hx3 hm; omega
  | succ n ih =>
    intro x1 x2 x3 hx3 hm
    show ok (fX6_worldsOf_B7 σ 3 (fX6_worldsOf_l7 σ 3 n) x1 x2 x3) _
    unfold fX6_worldsOf_B7
    have c272 := hK.cls
    refine ok_le rfl rfl (fun h273 => ?_) (fun h273 => ?_)
    · skip
      exact ok_some trivial
    · skip
      refine ok_eq (n := 1) rfl rfl (fun h274e h274 => ?_) (fun h274e h274 => ?_)
      · skip
        refine ok_gd ⟨by omega, by omega⟩ ?_
        refine ok_la (fun v2 => ?_)
        refine ok_lq (Q := fun v => v.toInt = x3.toInt + 1) (inc (by omega)) (fun v3 e276 => ?_)
        exact ih _ _ _ (by first | assumption | omega | exact ⟨by omega, by omega⟩ | exact Or.inl (eqm1 (by omega))) (by omega)
      · skip
        refine ok_lq (Q := fun v => v.toInt = x3.toInt + 1) (inc (by omega)) (fun v1 e277 => ?_)
        exact ih _ _ _ (by first | assumption | omega | exact ⟨by omega, by omega⟩ | exact Or.inl (eqm1 (by omega))) (by omega)
theorem o_fX6_worldsOf {σ0 σ : St} {a1 : Int32} (hK : K σ0 σ) : ok (fX6_worldsOf σ 3 a1) (fun _ => True) := by
  have hFU : FU = 100000 := rfl
  unfold fX6_worldsOf
  refine ok_bp (o_fX6_allWorlds hK) (fun r4 q278 => ?_)
  refine ok_lt ?_
  refine ok_lq (Q := fun v => v.toInt = 0) rfl (fun v6 e279 => ?_)
  exact ol_fX6_worldsOf_l7 hK FU _ _ _ (by first | assumption | omega | exact ⟨by omega, by omega⟩ | exact Or.inl (eqm1 (by omega))) (by omega)
theorem o_fX7_counter {σ0 σ : St} {a1 : Int32} (hK : K σ0 σ) : ok (fX7_counter σ a1) (fun _ => True) := by
  have hFU : FU = 100000 := rfl
  unfold fX7_counter
  refine ok_bz ok_hasClaim ?_ (fun i280 => ?_)
  · skip
    exact ok_some trivial
  · skip
    have i280l := i280.1
    have i280u := i280.2
    have i280c := hK.cls
    refine ok_bp (o_fX6_worldsOf hK) (fun r2 q281 => ?_)
    refine ok_gd ⟨by omega, by omega⟩ ?_
    refine ok_bp o_fX7_lowestBit (fun r3 q282 => ?_)
    exact ok_some trivial
theorem o_fX7_likely {σ0 σ : St} {a1 : Int32} {a2 : Int32} (hK : K σ0 σ) : ok (fX7_likely σ a1 a2) (fun _ => True) := by
  have hFU : FU = 100000 := rfl
  unfold fX7_likely
  refine ok_bz ok_hasClaim ?_ (fun i283 => ?_)
  · skip
    exact ok_some trivial
  · skip
    have i283l := i283.1
    have i283u := i283.2
    have i283c := hK.cls
    refine ok_bz o_fX7_isBit ?_ (fun i284 => ?_)
    · skip
      exact ok_some trivial
    · skip
      refine ok_bp (o_fX6_worldsOf hK) (fun r3 q285 => ?_)
      refine ok_lt ?_
      refine ok_gd ⟨by omega, by omega⟩ ?_
      refine ok_bp ok_bc (fun r5 q286 => ?_)
      have q286l := q286.1
      have q286u := q286.2
      refine ok_lt ?_
      refine ok_bp ok_bc (fun r7 q287 => ?_)
      have q287l := q287.1
      have q287u := q287.2
      refine ok_bp o_fX7_partOfFraction (fun r8 q288 => ?_)
      exact ok_some trivial
theorem o_fX7_refusalOfDishes {σ0 σ : St} {a1 : Int32} (hK : K σ0 σ) : ok (fX7_refusalOfDishes σ a1) (fun r => r = 0 → ir a1 4) := by
  have hFU : FU = 100000 := rfl
  unfold fX7_refusalOfDishes
  have c289 := hK.cls
  refine ok_bp (o_fX7_refusalOfSlot hK) (fun r1 q290 => ?_)
  refine ok_lt ?_
  refine ok_eq (n := 0) rfl rfl (fun h291e h291 => ?_) (fun h291e h291 => ?_)
  · skip
    refine ok_gd (q290 h291e) ?_
    refine ok_lt ?_
    refine ok_bz (o_fX4_areAllBelow hK ⟨_, slot_lt (q290 h291e), rfl⟩) ?_ (fun i292 => ?_)
    · skip
      exact ok_some (fun e => absurd e (by decide))
    · skip
      refine ok_gd (q290 h291e) ?_
      refine ok_lt ?_
      refine ok_bp (o_fX4_asSet hK ⟨_, slot_lt (q290 h291e), rfl⟩) (fun r6 q293 => ?_)
      refine ok_eq (n := 0) rfl rfl (fun h294e h294 => ?_) (fun h294e h294 => ?_)
      · skip
        exact ok_some (fun _ => (q290 h291e))
      · skip
        exact ok_some (fun e => absurd e (by decide))
  · skip
    exact ok_some (fun e => absurd e h291e)
theorem o_fX7_refusalOfPairs {σ0 σ : St} {a1 : Int32} (hK : K σ0 σ) : ok (fX7_refusalOfPairs σ a1) (fun r => r = 0 → ir a1 4 ∧ RP σ0 (rowp a1.toNatClampNeg)) := by
  have hFU : FU = 100000 := rfl
  unfold fX7_refusalOfPairs
  have c295 := hK.sts
  have c296 := hK.gus
  refine ok_bp (o_fX7_refusalOfSlot hK) (fun r1 q297 => ?_)
  refine ok_lt ?_
  refine ok_eq (n := 0) rfl rfl (fun h298e h298 => ?_) (fun h298e h298 => ?_)
  · skip
    refine ok_gd (q297 h298e) ?_
    refine ok_lt ?_
    refine ok_bz (o_fX4_arePairsBelow hK ⟨_, slot_lt (q297 h298e), rfl⟩) ?_ (fun i299 => ?_)
    · skip
      exact ok_some (fun e => absurd e (by decide))
    · skip
      exact ok_some (fun _ => ⟨(q297 h298e), (rp_of hK ⟨_, slot_lt (q297 h298e), rfl⟩ i299)⟩)
  · skip
    exact ok_some (fun e => absurd e h298e)
theorem o_fX7_refusalOfSteps {σ0 σ : St} {a1 : Int32} (hK : K σ0 σ) : ok (fX7_refusalOfSteps σ a1) (fun r => r = 0 → ir a1 4 ∧ RS σ0 (rowp a1.toNatClampNeg)) := by
  have hFU : FU = 100000 := rfl
  unfold fX7_refusalOfSteps
  have c300 := hK.sts
  refine ok_bp (o_fX7_refusalOfSlot hK) (fun r1 q301 => ?_)
  refine ok_lt ?_
  refine ok_eq (n := 0) rfl rfl (fun h302e h302 => ?_) (fun h302e h302 => ?_)
  · skip
    refine ok_gd (q301 h302e) ?_
    refine ok_lt ?_
    refine ok_bz (o_fX4_areAllBelow hK ⟨_, slot_lt (q301 h302e), rfl⟩) ?_ (fun i303 => ?_)
    · skip
      exact ok_some (fun e => absurd e (by decide))
    · skip
      exact ok_some (fun _ => ⟨(q301 h302e), (rs_of hK ⟨_, slot_lt (q301 h302e), rfl⟩ i303)⟩)
  · skip
    exact ok_some (fun e => absurd e h302e)
theorem o_fX7_salted {σ0 σ : St} (hK : K σ0 σ) : ok (fX7_salted σ) (fun _ => True) := by
  have hFU : FU = 100000 := rfl
  unfold fX7_salted
  refine ok_bz ok_isTold ?_ (fun i304 => ?_)
  · skip
    exact ok_some trivial
  · skip
    refine ok_bp (o_fX6_worldsOf hK) (fun r2 q305 => ?_)
    exact ok_some trivial
theorem o_fX7_same {σ0 σ : St} {a1 : Int32} {a2 : Int32} {a3 : Int32} (hK : K σ0 σ) : ok (fX7_same σ a1 a2 a3) (fun p => True ∧ K σ0 p.2) := by
  have hFU : FU = 100000 := rfl
  unfold fX7_same
  have c306 := hK.sts
  refine ok_bz ok_hasClaim ?_ (fun i307 => ?_)
  · skip
    exact ok_some ⟨trivial, hK⟩
  · skip
    have i307l := i307.1
    have i307u := i307.2
    have i307c := hK.cls
    refine ok_bz ok_isSlot ?_ (fun i308 => ?_)
    · skip
      exact ok_some ⟨trivial, hK⟩
    · skip
      refine ok_bz ok_isSlot ?_ (fun i309 => ?_)
      · skip
        exact ok_some ⟨trivial, hK⟩
      · skip
        refine ok_gd i308 ?_
        refine ok_lt ?_
        refine ok_eq (n := 0) rfl rfl (fun h310e h310 => ?_) (fun h310e h310 => ?_)
        · skip
          exact ok_some ⟨trivial, hK⟩
        · skip
          refine ok_gd i309 ?_
          refine ok_lt ?_
          refine ok_eq (n := 0) rfl rfl (fun h311e h311 => ?_) (fun h311e h311 => ?_)
          · skip
            exact ok_some ⟨trivial, hK⟩
          · skip
            refine ok_gd i308 ?_
            refine ok_lt ?_
            refine ok_bz (o_fX4_areAllBelow hK ⟨_, slot_lt i308, rfl⟩) ?_ (fun i312 => ?_)
            · skip
              exact ok_some ⟨trivial, hK⟩
            · skip
              refine ok_gd i309 ?_
              refine ok_lt ?_
              refine ok_bz (o_fX4_areAllBelow hK ⟨_, slot_lt i309, rfl⟩) ?_ (fun i313 => ?_)
              · skip
                exact ok_some ⟨trivial, hK⟩
              · skip
                refine ok_gd i308 ?_
                refine ok_lt ?_
                refine ok_bp (o_fX3_read hK ⟨_, slot_lt i308, rfl⟩ (rs_of hK ⟨_, slot_lt i308, rfl⟩ i312)) (fun σ12 hK12 => ?_)
                refine ok_gd ⟨by omega, by omega⟩ ?_
                refine ok_la (fun v13 => ?_)
                refine ok_gd i309 ?_
                refine ok_lt ?_
                refine ok_bp (o_fX3_read hK12 ⟨_, slot_lt i309, rfl⟩ (rs_of hK ⟨_, slot_lt i309, rfl⟩ i313)) (fun σ15 hK15 => ?_)
                refine ok_gd ⟨by omega, by omega⟩ ?_
                refine ok_eq rfl rfl (fun h315e h315 => ?_) (fun h315e h315 => ?_)
                · skip
                  unfold fX7_same_b160
                  refine ok_bp o_fX7_bit (fun r1 q316 => ?_)
                  exact ok_some ⟨trivial, hK15⟩
                · skip
                  unfold fX7_same_b160
                  refine ok_bp o_fX7_bit (fun r1 q317 => ?_)
                  exact ok_some ⟨trivial, hK15⟩
theorem o_fX7_strength {σ0 σ : St} {a1 : Int32} (hK : K σ0 σ) : ok (fX7_strength σ a1) (fun _ => True) := by
  have hFU : FU = 100000 := rfl
  unfold fX7_strength
  refine ok_bz (o_fX6_isGuestSet hK) ?_ (fun i318 => ?_)
  · skip
    exact ok_some trivial
  · skip
    refine ok_bp (o_fX6_teamCanDo hK) (fun r2 q319 => ?_)
    exact ok_some trivial
theorem o_fX1_cookPair {σ0 σ : St} {a2 : Int32} {a3 : Int32} (hK : K σ0 σ) (pa2 : ir a2 5) (pa3 : ir a3 12) : ok (fX1_cookPair σ 3 a2 a3) (fun p => True ∧ K σ0 p.2) := by
  have hFU : FU = 100000 := rfl
  have pa2l := pa2.1
  have pa2u := pa2.2
  have pa3l := pa3.1
  have pa3u := pa3.2
  unfold fX1_cookPair
  refine ok_gd pa3 ?_
  refine ok_bp (o_fX1_hourOfAll hK) (fun r1 q320 => ?_)
  refine ok_lt ?_
  refine ok_eq (n := -1) rfl rfl (fun h321e h321 => ?_) (fun h321e h321 => ?_)
  · skip
    refine ok_gd (by decide) ?_
    exact ok_some ⟨trivial, hK⟩
  · skip
    refine ok_gd pa2 ?_
    refine ok_eq (n := 0) rfl rfl (fun h322e h322 => ?_) (fun h322e h322 => ?_)
    · skip
      refine ok_gd (by decide) ?_
      exact ok_some ⟨trivial, hK⟩
    · skip
      refine ok_gd pa2 ?_
      refine ok_gd pa2 ?_
      refine ok_la (fun v3 => ?_)
      refine ok_le rfl rfl (fun h324 => ?_) (fun h324 => ?_)
      · skip
        refine ok_gd pa3 ?_
        refine ok_bp (o_fX1_give hK (hK.giv _)) (fun σ4 hK4 => ?_)
        refine ok_gd pa2 ?_
        refine ok_lq (Q := fun τ => K σ0 τ) (hK4.set rfl) (fun σ5 hK5 => ?_)
        refine ok_gd pa2 ?_
        refine ok_gd pa2 ?_
        refine ok_gd pa2 ?_
        refine ok_lq (Q := fun τ => K σ0 τ) (hK5.set rfl) (fun σ6 hK6 => ?_)
        refine ok_lq (Q := fun τ => K σ0 τ) (hK6.set rfl) (fun σ7 hK7 => ?_)
        refine ok_lq (Q := fun τ => K σ0 τ) (hK7.set rfl) (fun σ8 hK8 => ?_)
        refine ok_gd (by decide) ?_
        exact ok_some ⟨trivial, hK8⟩
      · skip
        refine ok_gd (by decide) ?_
        exact ok_some ⟨trivial, hK⟩
theorem ol_fX5_countLeast_l8 {σ0 σ : St} {h : Nat} (hK : K σ0 σ) : ∀ (n : Nat) (x1 : Int32) (x2 : Int32) (x3 : Int32) (x4 : Int32) (x5 : Int32), 0 ≤ x5.toInt → ir x1 4096 → ir x4 4096 → (4096 + 1 - x5.toInt).toNat < n → ok (fX5_countLeast_l8 σ h n x1 x2 x3 x4 x5) (fun _ => True) := by
  have hFU : FU = 100000 := rfl
  intro n
  induction n with
  | zero => intro x1 x2 x3 x4 x5 hx5 ax1 ax4 hm; omega
  | succ n ih =>
    intro x1 x2 x3 x4 x5 hx5 ax1 ax4 hm
    have ax1l := ax1.1
    have ax1u := ax1.2
    have ax4l := ax4.1
    have ax4u := ax4.2
    show ok (fX5_countLeast_B8 σ h (fX5_countLeast_l8 σ h n) x1 x2 x3 x4 x5) _
    unfold fX5_countLeast_B8
    refine ok_bp (ok_subsetsOf ax1) (fun r4 q325 => ?_)
    have q325l := q325.1
    have q325u := q325.2
    refine ok_le rfl rfl (fun h326 => ?_) (fun h326 => ?_)
    · skip
      exact ok_some trivial
    · skip
      refine ok_gd ax4 ?_
      refine ok_eq (n := 1) rfl rfl (fun h327e h327 => ?_) (fun h327e h327 => ?_)
      · skip
        refine ok_bz (o_fX5_isLeast hK ax4) ?_ (fun i328 => ?_)
        · skip
          unfold fX5_countLeast_b45
          refine ok_bp (o_fX5_subsetBehind ax1) (fun r1 q329 => ?_)
          have q329l := q329.1
          have q329u := q329.2
          refine ok_lt ?_
          refine ok_lq (Q := fun v => v.toInt = x5.toInt + 1) (inc (by omega)) (fun v3 e330 => ?_)
          exact ih _ _ _ _ _ (by first | assumption | omega | exact ⟨by omega, by omega⟩ | exact Or.inl (eqm1 (by omega))) ax1 q329 (by omega)
        · skip
          refine ok_la (fun v6 => ?_)
          unfold fX5_countLeast_b45
          refine ok_bp (o_fX5_subsetBehind ax1) (fun r1 q332 => ?_)
          have q332l := q332.1
          have q332u := q332.2
          refine ok_lt ?_
          refine ok_lq (Q := fun v => v.toInt = x5.toInt + 1) (inc (by omega)) (fun v3 e333 => ?_)
          exact ih _ _ _ _ _ (by first | assumption | omega | exact ⟨by omega, by omega⟩ | exact Or.inl (eqm1 (by omega))) ax1 q332 (by omega)
      · skip
        unfold fX5_countLeast_b45
        refine ok_bp (o_fX5_subsetBehind ax1) (fun r1 q334 => ?_)
        have q334l := q334.1
        have q334u := q334.2
        refine ok_lt ?_
        refine ok_lq (Q := fun v => v.toInt = x5.toInt + 1) (inc (by omega)) (fun v3 e335 => ?_)
        exact ih _ _ _ _ _ (by first | assumption | omega | exact ⟨by omega, by omega⟩ | exact Or.inl (eqm1 (by omega))) ax1 q334 (by omega)
theorem o_fX5_countLeast {σ0 σ : St} {h : Nat} {a1 : Int32} {a2 : Int32} (hK : K σ0 σ) (pa1 : ir a1 4096) : ok (fX5_countLeast σ h a1 a2) (fun _ => True) := by
  have hFU : FU = 100000 := rfl
  have pa1l := pa1.1
  have pa1u := pa1.2
  unfold fX5_countLeast
  refine ok_lq (Q := fun v => v.toInt = 0) rfl (fun v7 e336 => ?_)
  refine ok_lq (Q := fun v => v.toInt = 0) rfl (fun v8 e337 => ?_)
  refine ok_lq (Q := fun v => v.toInt = 0) rfl (fun v9 e338 => ?_)
  exact ol_fX5_countLeast_l8 hK FU _ _ _ _ _ (by first | assumption | omega | exact ⟨by omega, by omega⟩ | exact Or.inl (eqm1 (by omega))) pa1 (irl e337 (by decide) (by decide)) (by omega)
theorem ol_fX5_fillWithProofs_l13 {σ0 : St} {h w : Nat} (hh : h = 49 ∨ h = 51) (hw : w < 4096) : ∀ (n : Nat) (σ : St) (s : Nat) (x5 : Int32), K σ0 σ → s < 4096 → 1 ≤ x5.toInt → runN w (((2 ^ pcN w : Nat) : Int) - x5.toInt).toNat s = true → (4097 - x5.toInt).toNat < n → ok (fX5_fillWithProofs_l13 h 3 n σ (Int32.ofNat w) (Int32.ofNat s) x5) (fun τ => K σ0 τ) := by
  intro n
  induction n with
  | zero => intro σ s x5 _ _ _ _ h; omega
  | succ n ih =>
    intro σ s x5 hK hs hx hrun hm
    show ok (fX5_fillWithProofs_B13 h 3 (fX5_fillWithProofs_l13 h 3 n) σ (Int32.ofNat w) (Int32.ofNat s) x5) _
    unfold fX5_fillWithProofs_B13
    refine ok_bp (two_pc hw) (fun r1 ⟨e1, _, u1⟩ => ?_)
    refine ok_le rfl rfl (fun _ => ok_some hK) (fun hlt => ?_)
    obtain ⟨m, hm1⟩ : ∃ m, (((2 ^ pcN w : Nat) : Int) - x5.toInt).toNat = m + 1 := ⟨(((2 ^ pcN w : Nat) : Int) - x5.toInt).toNat - 1, by omega⟩
    rw [hm1] at hrun
    have hrun : (if nxt w s = 0 then false else runN w m (nxt w s)) = true := hrun
    by_cases hz : nxt w s = 0
    · rw [if_pos hz] at hrun; cases hrun
    rw [if_neg hz] at hrun
    have e2 : fX5_subsetBehind (Int32.ofNat s) (Int32.ofNat w) = some (Int32.ofNat (nxt w s)) := by
      unfold fX5_subsetBehind
      rw [subs_eq hw hs]
    have hv := ofN_lt (nxt_lt (s := s) hw) (by decide)
    have e7 := inc (x := x5) (by omega)
    have hm2 : (((2 ^ pcN w : Nat) : Int) - (x5 + 1).toInt).toNat = m := by omega
    rw [e2, bp_s]
    refine ok_lt (ok_bp (o_fX5_withoutLowest hv) (fun r4 h4 => ok_gd h4 (ok_la (fun v5 => ok_bp (ok_lowestBit (nxt_lt hw) hz) (fun r6 h6 => ok_bz (o_fX6_goes hK h6) ?_ (fun _ => ?_))))))
    · exact ok_gd hv (ok_lq (Q := fun τ => K σ0 τ) (hK.setH hh) (fun σ8 hK8 => ok_lt (ih σ8 _ _ hK8 (nxt_lt hw) (by omega) (by rw [hm2]; exact hrun) (by omega))))
    · exact ok_bp (o_fX6_spread hK) (fun r10 _ => ok_gd hv (ok_lq (Q := fun τ => K σ0 τ) (hK.setH hh) (fun σ8 hK8 => ok_lt (ih σ8 _ _ hK8 (nxt_lt hw) (by omega) (by rw [hm2]; exact hrun) (by omega)))))
theorem o_fX5_fillWithProofs {σ0 σ : St} {h : Nat} {a2 a3 : Int32} (hK : K σ0 σ) (hh : h = 49 ∨ h = 51) (pa2 : ir a2 4096) : ok (fX5_fillWithProofs σ h 3 a2 a3) (fun τ => K σ0 τ) := by
  obtain ⟨w, hw, rfl⟩ := small pa2
  unfold fX5_fillWithProofs
  refine ok_gd (by decide) (ok_lq (Q := fun τ => K σ0 τ) (hK.setH hh) (fun σ1 hK1 => ok_lt (ok_lt ?_)))
  have hp : (((2 ^ pcN w : Nat) : Int) - (1 : Int32).toInt).toNat = 2 ^ pcN w - 1 := by
    have : (1 : Int32).toInt = 1 := rfl
    omega
  exact ol_fX5_fillWithProofs_l13 hh hw FU σ1 0 1 hK1 (by decide) (by decide) (by rw [hp]; exact run_all hw) (by decide)
theorem ol_fX5_fillWithRuledOut_l11 {σ0 : St} {h w : Nat} (hh : h = 49 ∨ h = 51) (hw : w < 4096) (hsw : σ0.1 3 7 = Int32.ofNat w) : ∀ (n : Nat) (σ : St) (s : Nat) (x3 : Int32), K σ0 σ → s < 4096 → 1 ≤ x3.toInt → runN w (((2 ^ pcN w : Nat) : Int) - x3.toInt).toNat s = true → (4097 - x3.toInt).toNat < n → ok (fX5_fillWithRuledOut_l11 h 3 n σ (Int32.ofNat s) x3) (fun τ => K σ0 τ) := by
  intro n
  induction n with
  | zero => intro σ s x3 _ _ _ _ h; omega
  | succ n ih =>
    intro σ s x3 hK hs hx hrun hm
    show ok (fX5_fillWithRuledOut_B11 h 3 (fX5_fillWithRuledOut_l11 h 3 n) σ (Int32.ofNat s) x3) _
    unfold fX5_fillWithRuledOut_B11
    have e0 : σ.1 3 7 = Int32.ofNat w := (hK.mid 3 7 (by omega) (by omega)).trans hsw
    rw [e0]
    refine ok_bp (two_pc hw) (fun r1 ⟨e1, _, u1⟩ => ?_)
    refine ok_le rfl rfl (fun _ => ok_some hK) (fun hlt => ?_)
    obtain ⟨m, hm1⟩ : ∃ m, (((2 ^ pcN w : Nat) : Int) - x3.toInt).toNat = m + 1 := ⟨(((2 ^ pcN w : Nat) : Int) - x3.toInt).toNat - 1, by omega⟩
    rw [hm1] at hrun
    have hrun : (if nxt w s = 0 then false else runN w m (nxt w s)) = true := hrun
    by_cases hz : nxt w s = 0
    · rw [if_pos hz] at hrun; cases hrun
    rw [if_neg hz] at hrun
    have e2 : fX5_subsetBehind (Int32.ofNat s) (Int32.ofNat w) = some (Int32.ofNat (nxt w s)) := by
      unfold fX5_subsetBehind
      rw [subs_eq hw hs]
    have hv := ofN_lt (nxt_lt (s := s) hw) (by decide)
    have e7 := inc (x := x3) (by omega)
    have hm2 : (((2 ^ pcN w : Nat) : Int) - (x3 + 1).toInt).toNat = m := by omega
    rw [e2, bp_s]
    exact ok_lt (ok_bp (o_fX5_withoutLowest hv) (fun r4 h4 => ok_gd h4 (ok_bp (o_fX6_allWorlds hK) (fun r5 _ => ok_bp (ok_lowestBit (nxt_lt hw) hz) (fun r6 h6 => ok_gd h6 (ok_gd hv (ok_lq (Q := fun τ => K σ0 τ) (hK.setH hh) (fun σ8 hK8 => ok_lt (ih σ8 _ _ hK8 (nxt_lt hw) (by omega) (by rw [hm2]; exact hrun) (by omega))))))))))
theorem o_fX5_fillWithRuledOut {σ0 σ : St} {h : Nat} (hK : K σ0 σ) (hh : h = 49 ∨ h = 51) : ok (fX5_fillWithRuledOut σ h 3) (fun τ => K σ0 τ) := by
  obtain ⟨w, hw, e⟩ := small hK.salt
  have e0 : σ0.1 3 7 = Int32.ofNat w := (hK.mid 3 7 (by omega) (by omega)).symm.trans e
  unfold fX5_fillWithRuledOut
  refine ok_gd (by decide) (ok_lq (Q := fun τ => K σ0 τ) (hK.setH hh) (fun σ1 hK1 => ok_lt (ok_lt ?_)))
  have hp : (((2 ^ pcN w : Nat) : Int) - (1 : Int32).toInt).toNat = 2 ^ pcN w - 1 := by
    have : (1 : Int32).toInt = 1 := rfl
    omega
  exact ol_fX5_fillWithRuledOut_l11 hh hw e0 FU σ1 0 1 hK1 (by decide) (by decide) (by rw [hp]; exact run_all hw) (by decide)
theorem ol_fX5_fillWithSaltProofs_l19 {σ0 : St} {h : Nat} (hh : h = 49 ∨ h = 51) : ∀ (n : Nat) (σ : St) (x2 : Int32) (x3 : Int32), K σ0 σ → 0 ≤ x3.toInt → (4096 + 1 - x3.toInt).toNat < n → ok (fX5_fillWithSaltProofs_l19 h 3 n σ x2 x3) (fun τ => K σ0 τ) := by
  have hFU : FU = 100000 := rfl
  intro n
  induction n with
  | zero => intro σ x2 x3 hK hx3 hm; omega
  | succ n ih =>
    intro σ x2 x3 hK hx3 hm
    show ok (fX5_fillWithSaltProofs_B19 h 3 (fX5_fillWithSaltProofs_l19 h 3 n) σ x2 x3) _
    unfold fX5_fillWithSaltProofs_B19
    refine ok_bp (ok_subsetsOf hK.salt) (fun r1 q339 => ?_)
    have q339l := q339.1
    have q339u := q339.2
    refine ok_le rfl rfl (fun h340 => ?_) (fun h340 => ?_)
    · skip
      exact ok_some hK
    · skip
      refine ok_bp (o_fX5_subsetBehind hK.salt) (fun r2 q341 => ?_)
      have q341l := q341.1
      have q341u := q341.2
      refine ok_lt ?_
      refine ok_bp (o_fX6_allSteps hK) (fun r4 q342 => ?_)
      have q342l := q342.1
      have q342u := q342.2
      refine ok_bp (o_fX5_withoutLowest q341) (fun r5 q343 => ?_)
      have q343l := q343.1
      have q343u := q343.2
      refine ok_gd q343 ?_
      refine ok_bp (o_fX6_spread hK) (fun r6 q344 => ?_)
      refine ok_gd q341 ?_
      refine ok_lq (Q := fun τ => K σ0 τ) (hK.setH hh) (fun σ7 hK7 => ?_)
      refine ok_lq (Q := fun v => v.toInt = x3.toInt + 1) (inc (by omega)) (fun v8 e345 => ?_)
      exact ih _ _ _ hK7 (by first | assumption | omega | exact ⟨by omega, by omega⟩ | exact Or.inl (eqm1 (by omega))) (by omega)
theorem o_fX5_fillWithSaltProofs {σ0 σ : St} {h : Nat} (hK : K σ0 σ) (hh : h = 49 ∨ h = 51) : ok (fX5_fillWithSaltProofs σ h 3) (fun τ => K σ0 τ) := by
  have hFU : FU = 100000 := rfl
  unfold fX5_fillWithSaltProofs
  refine ok_bp (o_fX6_allSteps hK) (fun r9 q346 => ?_)
  have q346l := q346.1
  have q346u := q346.2
  refine ok_bp (o_fX6_spread hK) (fun r10 q347 => ?_)
  refine ok_gd (by decide) ?_
  refine ok_lq (Q := fun τ => K σ0 τ) (hK.setH hh) (fun σ11 hK11 => ?_)
  refine ok_lq (Q := fun v => v.toInt = 0) rfl (fun v12 e348 => ?_)
  refine ok_lq (Q := fun v => v.toInt = 1) rfl (fun v13 e349 => ?_)
  exact ol_fX5_fillWithSaltProofs_l19 hh FU _ _ _ hK11 (by first | assumption | omega | exact ⟨by omega, by omega⟩ | exact Or.inl (eqm1 (by omega))) (by omega)
theorem ol_fX5_leastSet_l23 {σ0 σ : St} {h : Nat} (hK : K σ0 σ) : ∀ (n : Nat) (x1 : Int32) (x2 : Int32) (x3 : Int32) (x4 : Int32) (x5 : Int32), 0 ≤ x5.toInt → ir x1 4096 → ir x4 4096 → (4096 + 1 - x5.toInt).toNat < n → ok (fX5_leastSet_l23 σ h n x1 x2 x3 x4 x5) (fun _ => True) := by
  have hFU : FU = 100000 := rfl
  intro n
  induction n with
  | zero => intro x1 x2 x3 x4 x5 hx5 ax1 ax4 hm; omega
  | succ n ih =>
    intro x1 x2 x3 x4 x5 hx5 ax1 ax4 hm
    have ax1l := ax1.1
    have ax1u := ax1.2
    have ax4l := ax4.1
    have ax4u := ax4.2
    show ok (fX5_leastSet_B23 σ h (fX5_leastSet_l23 σ h n) x1 x2 x3 x4 x5) _
    unfold fX5_leastSet_B23
    refine ok_bp (ok_subsetsOf ax1) (fun r8 q350 => ?_)
    have q350l := q350.1
    have q350u := q350.2
    refine ok_le rfl rfl (fun h351 => ?_) (fun h351 => ?_)
    · skip
      exact ok_some trivial
    · skip
      refine ok_gd ax4 ?_
      refine ok_eq (n := 0) rfl rfl (fun h352e h352 => ?_) (fun h352e h352 => ?_)
      · skip
        unfold fX5_leastSet_b51
        refine ok_lq (Q := fun v => v.toInt = 1) rfl (fun v4 e353 => ?_)
        refine ok_eq (n := 0) rfl rfl (fun h354e h354 => ?_) (fun h354e h354 => ?_)
        · skip
          exact absurd h354 (by omega)
        · skip
          refine ok_bp ok_bc (fun r5 q355 => ?_)
          have q355l := q355.1
          have q355u := q355.2
          refine ok_bp ok_bc (fun r6 q356 => ?_)
          have q356l := q356.1
          have q356u := q356.2
          refine ok_le rfl rfl (fun h357 => ?_) (fun h357 => ?_)
          · skip
            unfold fX5_leastSet_b73
            refine ok_bp (o_fX5_subsetBehind ax1) (fun r1 q358 => ?_)
            have q358l := q358.1
            have q358u := q358.2
            refine ok_lt ?_
            refine ok_lq (Q := fun v => v.toInt = x5.toInt + 1) (inc (by omega)) (fun v3 e359 => ?_)
            exact ih _ _ _ _ _ (by first | assumption | omega | exact ⟨by omega, by omega⟩ | exact Or.inl (eqm1 (by omega))) ax1 q358 (by omega)
          · skip
            refine ok_lt ?_
            unfold fX5_leastSet_b73
            refine ok_bp (o_fX5_subsetBehind ax1) (fun r1 q360 => ?_)
            have q360l := q360.1
            have q360u := q360.2
            refine ok_lt ?_
            refine ok_lq (Q := fun v => v.toInt = x5.toInt + 1) (inc (by omega)) (fun v3 e361 => ?_)
            exact ih _ _ _ _ _ (by first | assumption | omega | exact ⟨by omega, by omega⟩ | exact Or.inl (eqm1 (by omega))) ax1 q360 (by omega)
      · skip
        unfold fX5_leastSet_b51
        refine ok_lq (Q := fun v => v.toInt = 0) rfl (fun v4 e362 => ?_)
        refine ok_eq (n := 0) rfl rfl (fun h363e h363 => ?_) (fun h363e h363 => ?_)
        · skip
          unfold fX5_leastSet_b73
          refine ok_bp (o_fX5_subsetBehind ax1) (fun r1 q364 => ?_)
          have q364l := q364.1
          have q364u := q364.2
          refine ok_lt ?_
          refine ok_lq (Q := fun v => v.toInt = x5.toInt + 1) (inc (by omega)) (fun v3 e365 => ?_)
          exact ih _ _ _ _ _ (by first | assumption | omega | exact ⟨by omega, by omega⟩ | exact Or.inl (eqm1 (by omega))) ax1 q364 (by omega)
        · exact absurd h363 (by omega)
theorem o_fX5_leastSet {σ0 σ : St} {h : Nat} {a1 : Int32} {a2 : Int32} (hK : K σ0 σ) (pa1 : ir a1 4096) : ok (fX5_leastSet σ h a1 a2) (fun _ => True) := by
  have hFU : FU = 100000 := rfl
  have pa1l := pa1.1
  have pa1u := pa1.2
  unfold fX5_leastSet
  refine ok_gd pa1 ?_
  refine ok_eq (n := 0) rfl rfl (fun h366e h366 => ?_) (fun h366e h366 => ?_)
  · skip
    refine ok_lt ?_
    refine ok_lq (Q := fun v => v.toInt = 0) rfl (fun v10 e367 => ?_)
    refine ok_lq (Q := fun v => v.toInt = 0) rfl (fun v11 e368 => ?_)
    exact ol_fX5_leastSet_l23 hK FU _ _ _ _ _ (by first | assumption | omega | exact ⟨by omega, by omega⟩ | exact Or.inl (eqm1 (by omega))) pa1 (irl e367 (by decide) (by decide)) (by omega)
  · skip
    exact ok_some trivial
theorem ol_fX5_menuSet_l12 {σ0 σ : St} {h : Nat} (hK : K σ0 σ) : ∀ (n : Nat) (x2 : Int32) (x3 : Int32) (x4 : Int32) (x5 : Int32) (x6 : Int32) (x7 : Int32), 0 ≤ x7.toInt → ir x2 4096 → ir x4 4096 → ir x6 4096 → (4096 + 1 - x7.toInt).toNat < n → ok (fX5_menuSet_l12 σ h 3 n x2 x3 x4 x5 x6 x7) (fun r => ir r 4096) := by
  have hFU : FU = 100000 := rfl
  intro n
  induction n with
  | zero => intro x2 x3 x4 x5 x6 x7 hx7 ax2 ax4 ax6 hm; omega
  | succ n ih =>
    intro x2 x3 x4 x5 x6 x7 hx7 ax2 ax4 ax6 hm
    have ax2l := ax2.1
    have ax2u := ax2.2
    have ax4l := ax4.1
    have ax4u := ax4.2
    have ax6l := ax6.1
    have ax6u := ax6.2
    show ok (fX5_menuSet_B12 σ h 3 (fX5_menuSet_l12 σ h 3 n) x2 x3 x4 x5 x6 x7) _
    unfold fX5_menuSet_B12
    refine ok_bp (ok_subsetsOf ax2) (fun r7 q369 => ?_)
    have q369l := q369.1
    have q369u := q369.2
    refine ok_le rfl rfl (fun h370 => ?_) (fun h370 => ?_)
    · skip
      exact ok_some ax4
    · skip
      refine ok_gd ax6 ?_
      refine ok_gd (by decide) ?_
      refine ok_la (fun v8 => ?_)
      refine ok_bp ok_bc (fun r9 q372 => ?_)
      have q372l := q372.1
      have q372u := q372.2
      refine ok_lt ?_
      refine ok_lw rfl rfl (fun h373 => ?_) (fun h373 => ?_)
      · skip
        unfold fX5_menuSet_b114
        refine ok_bp (o_fX5_subsetBehind ax2) (fun r1 q374 => ?_)
        have q374l := q374.1
        have q374u := q374.2
        refine ok_lt ?_
        refine ok_lq (Q := fun v => v.toInt = x7.toInt + 1) (inc (by omega)) (fun v3 e375 => ?_)
        exact ih _ _ _ _ _ _ (by first | assumption | omega | exact ⟨by omega, by omega⟩ | exact Or.inl (eqm1 (by omega))) ax2 ax4 q374 (by omega)
      · skip
        refine ok_bp ok_bc (fun r11 q376 => ?_)
        have q376l := q376.1
        have q376u := q376.2
        refine ok_eq rfl rfl (fun h377e h377 => ?_) (fun h377e h377 => ?_)
        · skip
          refine ok_bp (o_fX6_worthOf hK) (fun r12 q378 => ?_)
          refine ok_lt ?_
          refine ok_eq rfl rfl (fun h379e h379 => ?_) (fun h379e h379 => ?_)
          · skip
            refine ok_bp ok_bc (fun r14 q380 => ?_)
            have q380l := q380.1
            have q380u := q380.2
            refine ok_le rfl rfl (fun h381 => ?_) (fun h381 => ?_)
            · skip
              unfold fX5_menuSet_b91
              unfold fX5_menuSet_b92
              refine ok_lq (Q := fun v => v.toInt = 0) rfl (fun v6 e382 => ?_)
              refine ok_lw rfl rfl (fun h383 => ?_) (fun h383 => ?_)
              · skip
                unfold fX5_menuSet_b106
                refine ok_lt ?_
                refine ok_lt ?_
                unfold fX5_menuSet_b114
                refine ok_bp (o_fX5_subsetBehind ax2) (fun r1 q384 => ?_)
                have q384l := q384.1
                have q384u := q384.2
                refine ok_lt ?_
                refine ok_lq (Q := fun v => v.toInt = x7.toInt + 1) (inc (by omega)) (fun v3 e385 => ?_)
                exact ih _ _ _ _ _ _ (by first | assumption | omega | exact ⟨by omega, by omega⟩ | exact Or.inl (eqm1 (by omega))) ax2 ax6 q384 (by omega)
              · skip
                refine ok_eq (n := 0) rfl rfl (fun h386e h386 => ?_) (fun h386e h386 => ?_)
                · skip
                  unfold fX5_menuSet_b114
                  refine ok_bp (o_fX5_subsetBehind ax2) (fun r1 q387 => ?_)
                  have q387l := q387.1
                  have q387u := q387.2
                  refine ok_lt ?_
                  refine ok_lq (Q := fun v => v.toInt = x7.toInt + 1) (inc (by omega)) (fun v3 e388 => ?_)
                  exact ih _ _ _ _ _ _ (by first | assumption | omega | exact ⟨by omega, by omega⟩ | exact Or.inl (eqm1 (by omega))) ax2 ax4 q387 (by omega)
                · exact absurd h386 (by omega)
            · skip
              unfold fX5_menuSet_b92
              refine ok_lq (Q := fun v => v.toInt = 1) rfl (fun v6 e389 => ?_)
              refine ok_lw rfl rfl (fun h390 => ?_) (fun h390 => ?_)
              · skip
                unfold fX5_menuSet_b106
                refine ok_lt ?_
                refine ok_lt ?_
                unfold fX5_menuSet_b114
                refine ok_bp (o_fX5_subsetBehind ax2) (fun r1 q391 => ?_)
                have q391l := q391.1
                have q391u := q391.2
                refine ok_lt ?_
                refine ok_lq (Q := fun v => v.toInt = x7.toInt + 1) (inc (by omega)) (fun v3 e392 => ?_)
                exact ih _ _ _ _ _ _ (by first | assumption | omega | exact ⟨by omega, by omega⟩ | exact Or.inl (eqm1 (by omega))) ax2 ax6 q391 (by omega)
              · skip
                refine ok_eq (n := 0) rfl rfl (fun h393e h393 => ?_) (fun h393e h393 => ?_)
                · skip
                  exact absurd h393 (by omega)
                · skip
                  unfold fX5_menuSet_b106
                  refine ok_lt ?_
                  refine ok_lt ?_
                  unfold fX5_menuSet_b114
                  refine ok_bp (o_fX5_subsetBehind ax2) (fun r1 q394 => ?_)
                  have q394l := q394.1
                  have q394u := q394.2
                  refine ok_lt ?_
                  refine ok_lq (Q := fun v => v.toInt = x7.toInt + 1) (inc (by omega)) (fun v3 e395 => ?_)
                  exact ih _ _ _ _ _ _ (by first | assumption | omega | exact ⟨by omega, by omega⟩ | exact Or.inl (eqm1 (by omega))) ax2 ax6 q394 (by omega)
          · skip
            unfold fX5_menuSet_b91
            unfold fX5_menuSet_b92
            refine ok_lq (Q := fun v => v.toInt = 0) rfl (fun v6 e396 => ?_)
            refine ok_lw rfl rfl (fun h397 => ?_) (fun h397 => ?_)
            · skip
              unfold fX5_menuSet_b106
              refine ok_lt ?_
              refine ok_lt ?_
              unfold fX5_menuSet_b114
              refine ok_bp (o_fX5_subsetBehind ax2) (fun r1 q398 => ?_)
              have q398l := q398.1
              have q398u := q398.2
              refine ok_lt ?_
              refine ok_lq (Q := fun v => v.toInt = x7.toInt + 1) (inc (by omega)) (fun v3 e399 => ?_)
              exact ih _ _ _ _ _ _ (by first | assumption | omega | exact ⟨by omega, by omega⟩ | exact Or.inl (eqm1 (by omega))) ax2 ax6 q398 (by omega)
            · skip
              refine ok_eq (n := 0) rfl rfl (fun h400e h400 => ?_) (fun h400e h400 => ?_)
              · skip
                unfold fX5_menuSet_b114
                refine ok_bp (o_fX5_subsetBehind ax2) (fun r1 q401 => ?_)
                have q401l := q401.1
                have q401u := q401.2
                refine ok_lt ?_
                refine ok_lq (Q := fun v => v.toInt = x7.toInt + 1) (inc (by omega)) (fun v3 e402 => ?_)
                exact ih _ _ _ _ _ _ (by first | assumption | omega | exact ⟨by omega, by omega⟩ | exact Or.inl (eqm1 (by omega))) ax2 ax4 q401 (by omega)
              · exact absurd h400 (by omega)
        · skip
          unfold fX5_menuSet_b114
          refine ok_bp (o_fX5_subsetBehind ax2) (fun r1 q403 => ?_)
          have q403l := q403.1
          have q403u := q403.2
          refine ok_lt ?_
          refine ok_lq (Q := fun v => v.toInt = x7.toInt + 1) (inc (by omega)) (fun v3 e404 => ?_)
          exact ih _ _ _ _ _ _ (by first | assumption | omega | exact ⟨by omega, by omega⟩ | exact Or.inl (eqm1 (by omega))) ax2 ax4 q403 (by omega)
theorem o_fX5_menuSet {σ0 σ : St} {h : Nat} {a2 : Int32} {a3 : Int32} (hK : K σ0 σ) (pa2 : ir a2 4096) : ok (fX5_menuSet σ h 3 a2 a3) (fun r => ir r 4096) := by
  have hFU : FU = 100000 := rfl
  have pa2l := pa2.1
  have pa2u := pa2.2
  unfold fX5_menuSet
  refine ok_lq (Q := fun v => v.toInt = 0) rfl (fun v15 e405 => ?_)
  refine ok_lq (Q := fun v => v.toInt = 0) rfl (fun v16 e406 => ?_)
  refine ok_lq (Q := fun v => v.toInt = 0) rfl (fun v17 e407 => ?_)
  refine ok_lq (Q := fun v => v.toInt = 0) rfl (fun v18 e408 => ?_)
  exact ol_fX5_menuSet_l12 hK FU _ _ _ _ _ _ (by first | assumption | omega | exact ⟨by omega, by omega⟩ | exact Or.inl (eqm1 (by omega))) pa2 (irl e405 (by decide) (by decide)) (irl e407 (by decide) (by decide)) (by omega)
theorem o_fX6_falseWorlds {σ0 σ : St} {a1 : Int32} (hK : K σ0 σ) (pa1 : ir a1 12) : ok (fX6_falseWorlds σ 3 a1) (fun _ => True) := by
  have hFU : FU = 100000 := rfl
  have pa1l := pa1.1
  have pa1u := pa1.2
  unfold fX6_falseWorlds
  refine ok_gd pa1 ?_
  refine ok_bp (o_fX6_worldsOf hK) (fun r1 q409 => ?_)
  refine ok_gd pa1 ?_
  refine ok_gd (hK.giv _) ?_
  exact ok_some trivial
theorem ol_fX6_following_l13 {σ0 σ : St} (hK : K σ0 σ) : ∀ (n : Nat) (x1 : Int32) (x2 : Int32) (x3 : Int32), 0 ≤ x3.toInt → (12 + 1 - x3.toInt).toNat < n → ok (fX6_following_l13 σ 3 n x1 x2 x3) (fun _ => True) := by
  have hFU : FU = 100000 := rfl
  intro n
  induction n with
  | zero => intro x1 x2 x3 hx3 hm; omega
  | succ n ih =>
    intro x1 x2 x3 hx3 hm
    show ok (fX6_following_B13 σ 3 (fX6_following_l13 σ 3 n) x1 x2 x3) _
    unfold fX6_following_B13
    have c410 := hK.cls
    refine ok_le rfl rfl (fun h411 => ?_) (fun h411 => ?_)
    · skip
      exact ok_some trivial
    · skip
      refine ok_gd ⟨by omega, by omega⟩ ?_
      refine ok_eq (n := 0) rfl rfl (fun h412e h412 => ?_) (fun h412e h412 => ?_)
      · skip
        refine ok_la (fun v2 => ?_)
        refine ok_lq (Q := fun v => v.toInt = x3.toInt + 1) (inc (by omega)) (fun v3 e414 => ?_)
        exact ih _ _ _ (by first | assumption | omega | exact ⟨by omega, by omega⟩ | exact Or.inl (eqm1 (by omega))) (by omega)
      · skip
        refine ok_lq (Q := fun v => v.toInt = x3.toInt + 1) (inc (by omega)) (fun v1 e415 => ?_)
        exact ih _ _ _ (by first | assumption | omega | exact ⟨by omega, by omega⟩ | exact Or.inl (eqm1 (by omega))) (by omega)
theorem o_fX6_following {σ0 σ : St} (hK : K σ0 σ) : ok (fX6_following σ 3) (fun _ => True) := by
  have hFU : FU = 100000 := rfl
  unfold fX6_following
  refine ok_bp (o_fX6_worldsOf hK) (fun r4 q416 => ?_)
  refine ok_lt ?_
  refine ok_lq (Q := fun v => v.toInt = 0) rfl (fun v6 e417 => ?_)
  refine ok_lq (Q := fun v => v.toInt = 0) rfl (fun v7 e418 => ?_)
  exact ol_fX6_following_l13 hK FU _ _ _ (by first | assumption | omega | exact ⟨by omega, by omega⟩ | exact Or.inl (eqm1 (by omega))) (by omega)
theorem o_fX6_followsFrom {σ0 σ : St} {a1 : Int32} {a2 : Int32} (hK : K σ0 σ) (pa2 : ir a2 12) : ok (fX6_followsFrom σ 3 a1 a2) (fun _ => True) := by
  have hFU : FU = 100000 := rfl
  have pa2l := pa2.1
  have pa2u := pa2.2
  unfold fX6_followsFrom
  refine ok_bp (o_fX6_worldsOf hK) (fun r1 q419 => ?_)
  refine ok_gd pa2 ?_
  refine ok_eq (n := 0) rfl rfl (fun h420e h420 => ?_) (fun h420e h420 => ?_)
  · skip
    refine ok_gd (by decide) ?_
    exact ok_some trivial
  · skip
    refine ok_gd (by decide) ?_
    exact ok_some trivial
theorem o_fX6_leftAtWorst {σ0 σ : St} {a1 : Int32} (hK : K σ0 σ) (pa1 : ir a1 12) : ok (fX6_leftAtWorst σ 3 a1) (fun _ => True) := by
  have hFU : FU = 100000 := rfl
  have pa1l := pa1.1
  have pa1u := pa1.2
  unfold fX6_leftAtWorst
  refine ok_bp (o_fX6_worldsOf hK) (fun r1 q421 => ?_)
  refine ok_lt ?_
  refine ok_gd pa1 ?_
  refine ok_bp ok_bc (fun r3 q422 => ?_)
  have q422l := q422.1
  have q422u := q422.2
  refine ok_lt ?_
  refine ok_bp ok_bc (fun r5 q423 => ?_)
  have q423l := q423.1
  have q423u := q423.2
  exact ok_some trivial
theorem o_fX7_coreSet {σ0 σ : St} (hK : K σ0 σ) : ok (fX7_coreSet σ) (fun p => True ∧ K σ0 p.2) := by
  have hFU : FU = 100000 := rfl
  unfold fX7_coreSet
  refine ok_bp (o_fX5_fillWithRuledOut hK (Or.inr rfl)) (fun σ1 hK1 => ?_)
  refine ok_bp (o_fX6_allWorlds hK1) (fun r2 q424 => ?_)
  refine ok_bp (o_fX5_leastSet hK1 hK1.salt) (fun r3 q425 => ?_)
  exact ok_some ⟨trivial, hK1⟩
theorem o_fX7_eats {σ0 σ : St} {a1 : Int32} {a2 : Int32} (hK : K σ0 σ) : ok (fX7_eats σ a1 a2) (fun _ => True) := by
  have hFU : FU = 100000 := rfl
  unfold fX7_eats
  refine ok_bz ok_hasGuest ?_ (fun i426 => ?_)
  · skip
    unfold fX7_eats_b21
    refine ok_lq (Q := fun v => v.toInt = -2) rfl (fun v1 e427 => ?_)
    refine ok_eq (n := 0) rfl rfl (fun h428e h428 => ?_) (fun h428e h428 => ?_)
    · skip
      exact absurd h428 (by omega)
    · skip
      refine ok_eq (n := -6) rfl rfl (fun h429e h429 => ?_) (fun h429e h429 => ?_)
      · skip
        exact absurd h429 (by omega)
      · skip
        exact ok_some trivial
  · skip
    have i426l := i426.1
    have i426u := i426.2
    have i426c := hK.gus
    refine ok_bp (o_fX7_refusalOfSteps hK) (fun r5 q430 => ?_)
    unfold fX7_eats_b21
    refine ok_lt ?_
    refine ok_eq (n := 0) rfl rfl (fun h431e h431 => ?_) (fun h431e h431 => ?_)
    · skip
      refine ok_gd (q430 h431e).1 ?_
      refine ok_lt ?_
      refine ok_bp (o_fX3_worthEaten hK ⟨_, slot_lt (q430 h431e).1, rfl⟩ (q430 h431e).2 ⟨by omega, by omega⟩) (fun r3 q432 => ?_)
      exact ok_some trivial
    · skip
      refine ok_eq (n := -6) rfl rfl (fun h433e h433 => ?_) (fun h433e h433 => ?_)
      · skip
        exact ok_some trivial
      · skip
        exact ok_some trivial
theorem o_fX7_falsity {σ0 σ : St} {a1 : Int32} (hK : K σ0 σ) : ok (fX7_falsity σ a1) (fun _ => True) := by
  have hFU : FU = 100000 := rfl
  unfold fX7_falsity
  refine ok_bz ok_hasStep ?_ (fun i434 => ?_)
  · skip
    exact ok_some trivial
  · skip
    have i434l := i434.1
    have i434u := i434.2
    have i434c := hK.sts
    refine ok_bp (o_fX6_falseWorlds hK ⟨by omega, by omega⟩) (fun r2 q435 => ?_)
    refine ok_bp o_fX7_lowestBit (fun r3 q436 => ?_)
    exact ok_some trivial
theorem o_fX7_follows {σ0 σ : St} {a1 : Int32} (hK : K σ0 σ) : ok (fX7_follows σ a1) (fun _ => True) := by
  have hFU : FU = 100000 := rfl
  unfold fX7_follows
  refine ok_bz ok_hasClaim ?_ (fun i437 => ?_)
  · skip
    exact ok_some trivial
  · skip
    have i437l := i437.1
    have i437u := i437.2
    have i437c := hK.cls
    refine ok_bp (o_fX6_followsFrom hK ⟨by omega, by omega⟩) (fun r2 q438 => ?_)
    refine ok_bp o_fX7_bit (fun r3 q439 => ?_)
    exact ok_some trivial
theorem o_fX7_freshProofs {σ0 σ : St} (hK : K σ0 σ) : ok (fX7_freshProofs σ) (fun τ => K σ0 τ) := by
  have hFU : FU = 100000 := rfl
  unfold fX7_freshProofs
  refine ok_eq (n := 0) rfl rfl (fun h440e h440 => ?_) (fun h440e h440 => ?_)
  · skip
    exact ok_some hK
  · skip
    refine ok_bp (o_fX6_allSteps hK) (fun r1 q441 => ?_)
    have q441l := q441.1
    have q441u := q441.2
    refine ok_bp (o_fX5_fillWithProofs hK (Or.inl rfl) q441) (fun σ2 hK2 => ?_)
    refine ok_gd (by decide) ?_
    refine ok_lq (Q := fun τ => K σ0 τ) (hK2.set rfl) (fun σ3 hK3 => ?_)
    exact ok_some hK3
theorem ol_fX7_idle_l17 {σ0 σ : St} (hK : K σ0 σ) : ∀ (n : Nat) (x1 : Int32) (x2 : Int32), 0 ≤ x2.toInt → (12 + 1 - x2.toInt).toNat < n → ok (fX7_idle_l17 σ n x1 x2) (fun _ => True) := by
  have hFU : FU = 100000 := rfl
  intro n
  induction n with
  | zero => intro x1 x2 hx2 hm; omega
  | succ n ih =>
    intro x1 x2 hx2 hm
    show ok (fX7_idle_B17 σ (fX7_idle_l17 σ n) x1 x2) _
    unfold fX7_idle_B17
    have c442 := hK.cls
    refine ok_le rfl rfl (fun h443 => ?_) (fun h443 => ?_)
    · skip
      exact ok_some trivial
    · skip
      refine ok_eq (n := 1) rfl rfl (fun h444e h444 => ?_) (fun h444e h444 => ?_)
      · skip
        unfold fX7_idle_b48
        refine ok_lq (Q := fun v => v.toInt = 1) rfl (fun v1 e445 => ?_)
        refine ok_eq (n := 0) rfl rfl (fun h446e h446 => ?_) (fun h446e h446 => ?_)
        · skip
          exact absurd h446 (by omega)
        · skip
          refine ok_bp (o_fX6_followsFrom hK ⟨by omega, by omega⟩) (fun r3 q447 => ?_)
          refine ok_eq (n := 0) rfl rfl (fun h448e h448 => ?_) (fun h448e h448 => ?_)
          · skip
            refine ok_lq (Q := fun v => v.toInt = x2.toInt + 1) (inc (by omega)) (fun v4 e449 => ?_)
            exact ih _ _ (by first | assumption | omega | exact ⟨by omega, by omega⟩ | exact Or.inl (eqm1 (by omega))) (by omega)
          · skip
            refine ok_la (fun v5 => ?_)
            refine ok_lq (Q := fun v => v.toInt = x2.toInt + 1) (inc (by omega)) (fun v6 e451 => ?_)
            exact ih _ _ (by first | assumption | omega | exact ⟨by omega, by omega⟩ | exact Or.inl (eqm1 (by omega))) (by omega)
      · skip
        unfold fX7_idle_b48
        refine ok_lq (Q := fun v => v.toInt = 0) rfl (fun v1 e452 => ?_)
        refine ok_eq (n := 0) rfl rfl (fun h453e h453 => ?_) (fun h453e h453 => ?_)
        · skip
          refine ok_lq (Q := fun v => v.toInt = x2.toInt + 1) (inc (by omega)) (fun v2 e454 => ?_)
          exact ih _ _ (by first | assumption | omega | exact ⟨by omega, by omega⟩ | exact Or.inl (eqm1 (by omega))) (by omega)
        · exact absurd h453 (by omega)
theorem o_fX7_idle {σ0 σ : St} (hK : K σ0 σ) : ok (fX7_idle σ) (fun _ => True) := by
  have hFU : FU = 100000 := rfl
  unfold fX7_idle
  refine ok_bz ok_isTold ?_ (fun i455 => ?_)
  · skip
    exact ok_some trivial
  · skip
    refine ok_lq (Q := fun v => v.toInt = 0) rfl (fun v8 e456 => ?_)
    refine ok_lq (Q := fun v => v.toInt = 0) rfl (fun v9 e457 => ?_)
    exact ol_fX7_idle_l17 hK FU _ _ (by first | assumption | omega | exact ⟨by omega, by omega⟩ | exact Or.inl (eqm1 (by omega))) (by omega)
theorem o_fX7_leastSaltFor {σ0 σ : St} {a1 : Int32} (hK : K σ0 σ) : ok (fX7_leastSaltFor σ a1) (fun p => True ∧ K σ0 p.2) := by
  have hFU : FU = 100000 := rfl
  unfold fX7_leastSaltFor
  refine ok_bp (o_fX5_fillWithSaltProofs hK (Or.inr rfl)) (fun σ1 hK1 => ?_)
  refine ok_bp (o_fX5_leastSet hK1 hK1.salt) (fun r2 q458 => ?_)
  exact ok_some ⟨trivial, hK1⟩
theorem o_fX7_reached {σ0 σ : St} {a1 : Int32} (hK : K σ0 σ) : ok (fX7_reached σ a1) (fun p => True ∧ K σ0 p.2) := by
  have hFU : FU = 100000 := rfl
  unfold fX7_reached
  refine ok_bp (o_fX7_refusalOfSteps hK) (fun r1 q459 => ?_)
  refine ok_lt ?_
  refine ok_eq (n := 0) rfl rfl (fun h460e h460 => ?_) (fun h460e h460 => ?_)
  · skip
    refine ok_gd (q459 h460e).1 ?_
    refine ok_lt ?_
    refine ok_bp (o_fX3_read hK ⟨_, slot_lt (q459 h460e).1, rfl⟩ (q459 h460e).2) (fun σ4 hK4 => ?_)
    exact ok_some ⟨trivial, hK4⟩
  · skip
    exact ok_some ⟨trivial, hK⟩
theorem o_fX7_reads {σ0 σ : St} {a1 : Int32} (hK : K σ0 σ) : ok (fX7_reads σ a1) (fun p => True ∧ K σ0 p.2) := by
  have hFU : FU = 100000 := rfl
  unfold fX7_reads
  refine ok_bp (o_fX7_refusalOfSteps hK) (fun r1 q461 => ?_)
  refine ok_lt ?_
  refine ok_eq (n := 0) rfl rfl (fun h462e h462 => ?_) (fun h462e h462 => ?_)
  · skip
    refine ok_gd (q461 h462e).1 ?_
    refine ok_lt ?_
    refine ok_bp (o_fX3_read hK ⟨_, slot_lt (q461 h462e).1, rfl⟩ (q461 h462e).2) (fun σ4 hK4 => ?_)
    exact ok_some ⟨trivial, hK4⟩
  · skip
    exact ok_some ⟨trivial, hK⟩
theorem o_fX7_step {σ0 σ : St} {a1 : Int32} {a2 : Int32} (hK : K σ0 σ) : ok (fX7_step σ a1 a2) (fun _ => True) := by
  have hFU : FU = 100000 := rfl
  unfold fX7_step
  refine ok_bz ok_hasStep ?_ (fun i463 => ?_)
  · skip
    exact ok_some trivial
  · skip
    have i463l := i463.1
    have i463u := i463.2
    have i463c := hK.sts
    refine ok_eq (n := 0) rfl rfl (fun h464e h464 => ?_) (fun h464e h464 => ?_)
    · skip
      refine ok_gd ⟨by omega, by omega⟩ ?_
      exact ok_some trivial
    · skip
      refine ok_eq (n := 1) rfl rfl (fun h465e h465 => ?_) (fun h465e h465 => ?_)
      · skip
        refine ok_gd ⟨by omega, by omega⟩ ?_
        exact ok_some trivial
      · skip
        refine ok_eq (n := 2) rfl rfl (fun h466e h466 => ?_) (fun h466e h466 => ?_)
        · skip
          refine ok_bp (o_fX6_falseWorlds hK ⟨by omega, by omega⟩) (fun r3 q467 => ?_)
          refine ok_eq (n := 0) rfl rfl (fun h468e h468 => ?_) (fun h468e h468 => ?_)
          · skip
            unfold fX7_step_b76
            refine ok_bp o_fX7_bit (fun r1 q469 => ?_)
            exact ok_some trivial
          · skip
            unfold fX7_step_b76
            refine ok_bp o_fX7_bit (fun r1 q470 => ?_)
            exact ok_some trivial
        · skip
          exact ok_some trivial
theorem o_fX7_used {σ0 σ : St} {a1 : Int32} {a2 : Int32} (hK : K σ0 σ) : ok (fX7_used σ a1 a2) (fun p => True ∧ K σ0 p.2) := by
  have hFU : FU = 100000 := rfl
  unfold fX7_used
  refine ok_bz ok_hasClaim ?_ (fun i471 => ?_)
  · skip
    unfold fX7_used_b21
    refine ok_lq (Q := fun v => v.toInt = -2) rfl (fun v1 e472 => ?_)
    refine ok_eq (n := 0) rfl rfl (fun h473e h473 => ?_) (fun h473e h473 => ?_)
    · skip
      exact absurd h473 (by omega)
    · skip
      exact ok_some ⟨trivial, hK⟩
  · skip
    have i471l := i471.1
    have i471u := i471.2
    have i471c := hK.cls
    refine ok_bp (o_fX7_refusalOfSteps hK) (fun r5 q474 => ?_)
    unfold fX7_used_b21
    refine ok_lt ?_
    refine ok_eq (n := 0) rfl rfl (fun h475e h475 => ?_) (fun h475e h475 => ?_)
    · skip
      refine ok_gd (q474 h475e).1 ?_
      refine ok_lt ?_
      refine ok_bp (o_fX3_read hK ⟨_, slot_lt (q474 h475e).1, rfl⟩ (q474 h475e).2) (fun σ3 hK3 => ?_)
      refine ok_gd ⟨by omega, by omega⟩ ?_
      exact ok_some ⟨trivial, hK3⟩
    · skip
      exact ok_some ⟨trivial, hK⟩
theorem o_fX7_why {σ0 σ : St} {a1 : Int32} (hK : K σ0 σ) : ok (fX7_why σ a1) (fun p => True ∧ K σ0 p.2) := by
  have hFU : FU = 100000 := rfl
  unfold fX7_why
  refine ok_bp (o_fX7_refusalOfSteps hK) (fun r1 q476 => ?_)
  refine ok_lt ?_
  refine ok_eq (n := 0) rfl rfl (fun h477e h477 => ?_) (fun h477e h477 => ?_)
  · skip
    refine ok_gd (q476 h477e).1 ?_
    refine ok_lt ?_
    refine ok_bp (o_fX3_read hK ⟨_, slot_lt (q476 h477e).1, rfl⟩ (q476 h477e).2) (fun σ4 hK4 => ?_)
    exact ok_some ⟨trivial, hK4⟩
  · skip
    exact ok_some ⟨trivial, hK⟩
theorem o_fX7_worthWithLemma {σ0 σ : St} {a1 : Int32} {a2 : Int32} (hK : K σ0 σ) (pa1 : ir a1 5) : ok (fX7_worthWithLemma σ a1 a2) (fun p => True ∧ K σ0 p.2) := by
  have hFU : FU = 100000 := rfl
  have pa1l := pa1.1
  have pa1u := pa1.2
  unfold fX7_worthWithLemma
  refine ok_la (fun v1 => ?_)
  refine ok_gd pa1 ?_
  refine ok_lq (Q := fun v => ir v 4096) (hK.kno _) (fun v2 q479 => ?_)
  refine ok_bp (o_fX5_fillWithProofs hK (Or.inr rfl) q479) (fun σ3 hK3 => ?_)
  refine ok_bp (o_fX6_canDo hK3 pa1) (fun r4 q480 => ?_)
  refine ok_bp (o_fX5_menuSet hK3 q479) (fun r5 q481 => ?_)
  have q481l := q481.1
  have q481u := q481.2
  refine ok_lt ?_
  refine ok_gd q481 ?_
  refine ok_bp (o_fX6_worthOf hK3) (fun r7 q482 => ?_)
  exact ok_some ⟨trivial, hK3⟩
theorem ol_fX1_cook_l10 {σ0 : St} {w : Nat} (hw : ∃ s, s < 4 ∧ w = rowp s) (hr : RP σ0 w) : ∀ (n : Nat) (σ : St) (x3 x4 : Int32), K σ0 σ → 0 ≤ x4.toInt → x4.toInt ≤ 60 → x4.toInt % 2 = 0 → (61 - x4.toInt).toNat < n → ok (fX1_cook_l10 3 w n σ x3 x4) (fun τ => K σ0 τ) := by
  intro n
  induction n with
  | zero => intro σ x3 x4 _ _ _ _ h; omega
  | succ n ih =>
    intro σ x3 x4 hK h0 h1 h2 hm
    show ok (fX1_cook_B10 3 w (fX1_cook_l10 3 w n) σ x3 x4) _
    unfold fX1_cook_B10
    have cw := hK.rwx hw
    have e7 := inc (x := x4) (by omega)
    refine ok_le rfl e7 (fun _ => ok_some hK) (fun hlt => ok_if (fun _ => ok_some hK) (fun _ => ok_gd ⟨h0, by show _ < (60 : Int); omega⟩ (ok_gd ⟨by omega, by rw [e7]; show _ < (60 : Int); omega⟩ ?_)))
    have q1 := (rpn hK hw hr h0 (by omega)).1 h2
    have q2 := (rpn (x := x4 + 1) hK hw hr (by omega) (by omega)).2 (by omega)
    have e8 := inc2 (x := x4) (by omega)
    refine ok_bs (o_fX1_cookPair hK q1 q2) (fun r1 σ2 h => ok_lt (ok_lt (ih σ2 _ _ h.2 (by omega) (by omega) (by omega) (by omega))))
theorem o_fX1_cook {σ0 σ : St} {w : Nat} (hK : K σ0 σ) (hw : ∃ s, s < 4 ∧ w = rowp s) (hr : RP σ0 w) : ok (fX1_cook σ 3 w) (fun τ => K σ0 τ) := by
  unfold fX1_cook
  exact ok_bp (o_fX1_open hK) (fun σ5 hK5 => ok_lt (ok_lt (ol_fX1_cook_l10 hw hr FU σ5 1 0 hK5 (by decide) (by decide) (by decide) (by decide))))
theorem ol_fX7_borrowed_l50 {σ0 : St} : ∀ (n : Nat) (σ : St) (x1 : Int32) (x4 : Int32) (x5 : Int32), K σ0 σ → 0 ≤ x5.toInt → ir x1 4 → (60 + 1 - x5.toInt).toNat < n → ok (fX7_borrowed_l50 n σ x1 x4 x5) (fun p => True ∧ K σ0 p.2) := by
  have hFU : FU = 100000 := rfl
  intro n
  induction n with
  | zero => intro σ x1 x4 x5 hK hx5 ax1 hm; omega
  | succ n ih =>
    intro σ x1 x4 x5 hK hx5 ax1 hm
    have ax1l := ax1.1
    have ax1u := ax1.2
    have cr := hK.rw (slot_lt ax1)
    show ok (fX7_borrowed_B50  (fX7_borrowed_l50  n) σ x1 x4 x5) _
    unfold fX7_borrowed_B50
    refine ok_gd ax1 ?_
    refine ok_lt ?_
    refine ok_le rfl rfl (fun h483 => ?_) (fun h483 => ?_)
    · skip
      exact ok_some ⟨trivial, hK⟩
    · skip
      refine ok_gd ax1 ?_
      refine ok_lt ?_
      refine ok_gd ⟨by omega, by omega⟩ ?_
      refine ok_la (fun v3 => ?_)
      refine ok_eq (n := 0) rfl rfl (fun h485e h485 => ?_) (fun h485e h485 => ?_)
      · skip
        exact ok_some ⟨trivial, hK⟩
      · skip
        refine ok_lq (Q := fun v => v.toInt = x5.toInt + 1) (inc (by omega)) (fun v4 e486 => ?_)
        exact ih _ _ _ _ hK (by first | assumption | omega | exact ⟨by omega, by omega⟩ | exact Or.inl (eqm1 (by omega))) ax1 (by omega)
theorem o_fX7_borrowed {σ0 σ : St} {a1 : Int32} {a2 : Int32} (hK : K σ0 σ) : ok (fX7_borrowed σ a1 a2) (fun p => True ∧ K σ0 p.2) := by
  have hFU : FU = 100000 := rfl
  unfold fX7_borrowed
  refine ok_bz ok_hasGuest ?_ (fun i487 => ?_)
  · skip
    unfold fX7_borrowed_b21
    refine ok_lq (Q := fun v => v.toInt = -2) rfl (fun v5 e488 => ?_)
    refine ok_eq (n := 0) rfl rfl (fun h489e h489 => ?_) (fun h489e h489 => ?_)
    · skip
      exact absurd h489 (by omega)
    · skip
      exact ok_some ⟨trivial, hK⟩
  · skip
    have i487l := i487.1
    have i487u := i487.2
    have i487c := hK.gus
    refine ok_bp (o_fX7_refusalOfDishes hK) (fun r10 q490 => ?_)
    unfold fX7_borrowed_b21
    refine ok_lt ?_
    refine ok_eq (n := 0) rfl rfl (fun h491e h491 => ?_) (fun h491e h491 => ?_)
    · skip
      refine ok_bp (o_fX7_freshProofs hK) (fun σ6 hK6 => ?_)
      refine ok_gd ⟨by omega, by omega⟩ ?_
      refine ok_gd (hK6.kno _) ?_
      refine ok_la (fun v7 => ?_)
      refine ok_lq (Q := fun v => v.toInt = 0) rfl (fun v8 e493 => ?_)
      exact ol_fX7_borrowed_l50  FU _ _ _ _ hK6 (by first | assumption | omega | exact ⟨by omega, by omega⟩ | exact Or.inl (eqm1 (by omega))) (q490 h491e) (by omega)
    · skip
      exact ok_some ⟨trivial, hK⟩
theorem o_fX7_busy {σ0 σ : St} {a1 : Int32} {a2 : Int32} {a3 : Int32} (hK : K σ0 σ) : ok (fX7_busy σ a1 a2 a3) (fun p => True ∧ K σ0 p.2) := by
  have hFU : FU = 100000 := rfl
  unfold fX7_busy
  refine ok_bz ok_hasGuest ?_ (fun i494 => ?_)
  · skip
    unfold fX7_busy_b26
    unfold fX7_busy_b28
    refine ok_lq (Q := fun v => v.toInt = -2) rfl (fun v1 e495 => ?_)
    refine ok_eq (n := 0) rfl rfl (fun h496e h496 => ?_) (fun h496e h496 => ?_)
    · skip
      exact absurd h496 (by omega)
    · skip
      exact ok_some ⟨trivial, hK⟩
  · skip
    have i494l := i494.1
    have i494u := i494.2
    have i494c := hK.gus
    refine ok_bz o_fX7_isBit ?_ (fun i497 => ?_)
    · skip
      unfold fX7_busy_b26
      unfold fX7_busy_b28
      refine ok_lq (Q := fun v => v.toInt = -2) rfl (fun v1 e498 => ?_)
      refine ok_eq (n := 0) rfl rfl (fun h499e h499 => ?_) (fun h499e h499 => ?_)
      · skip
        exact absurd h499 (by omega)
      · skip
        exact ok_some ⟨trivial, hK⟩
    · skip
      refine ok_bp (o_fX7_refusalOfPairs hK) (fun r7 q500 => ?_)
      unfold fX7_busy_b28
      refine ok_lt ?_
      refine ok_eq (n := 0) rfl rfl (fun h501e h501 => ?_) (fun h501e h501 => ?_)
      · skip
        refine ok_gd (q500 h501e).1 ?_
        refine ok_lt ?_
        refine ok_bp (o_fX1_cook hK ⟨_, slot_lt (q500 h501e).1, rfl⟩ (q500 h501e).2) (fun σ3 hK3 => ?_)
        refine ok_gd ⟨by omega, by omega⟩ ?_
        refine ok_la (fun v4 => ?_)
        refine ok_eq (n := 0) rfl rfl (fun h503e h503 => ?_) (fun h503e h503 => ?_)
        · skip
          exact ok_some ⟨trivial, hK3⟩
        · skip
          refine ok_gd ⟨by omega, by omega⟩ ?_
          exact ok_some ⟨trivial, hK3⟩
      · skip
        exact ok_some ⟨trivial, hK⟩
theorem o_fX7_core {σ0 σ : St} (hK : K σ0 σ) : ok (fX7_core σ) (fun p => True ∧ K σ0 p.2) := by
  have hFU : FU = 100000 := rfl
  unfold fX7_core
  refine ok_bz ok_isTold ?_ (fun i504 => ?_)
  · skip
    exact ok_some ⟨trivial, hK⟩
  · skip
    refine ok_bs (o_fX7_coreSet hK) (fun r2 σ3 q505 => ?_)
    have hK3 : K σ0 σ3 := q505.2
    refine ok_bp o_fX7_sizeOrNone (fun r4 q506 => ?_)
    exact ok_some ⟨trivial, hK3⟩
theorem o_fX7_cored {σ0 σ : St} (hK : K σ0 σ) : ok (fX7_cored σ) (fun p => True ∧ K σ0 p.2) := by
  have hFU : FU = 100000 := rfl
  unfold fX7_cored
  refine ok_bz ok_isTold ?_ (fun i507 => ?_)
  · skip
    exact ok_some ⟨trivial, hK⟩
  · skip
    refine ok_bs (o_fX7_coreSet hK) (fun r2 σ3 q508 => ?_)
    have hK3 : K σ0 σ3 := q508.2
    exact ok_some ⟨trivial, hK3⟩
theorem o_fX7_doesTeamProve {σ0 σ : St} {a1 : Int32} {a2 : Int32} (hK : K σ0 σ) : ok (fX7_doesTeamProve σ a1 a2) (fun p => tf True p.1 ∧ K σ0 p.2) := by
  have hFU : FU = 100000 := rfl
  unfold fX7_doesTeamProve
  refine ok_bp (o_fX7_freshProofs hK) (fun σ1 hK1 => ?_)
  refine ok_bp (o_fX6_teamKnows hK1) (fun r2 q509 => ?_)
  have q509l := q509.1
  have q509u := q509.2
  refine ok_bp (o_fX5_leastSet hK1 q509) (fun r3 q510 => ?_)
  refine ok_lt ?_
  refine ok_eq (n := -1) rfl rfl (fun h511e h511 => ?_) (fun h511e h511 => ?_)
  · skip
    refine ok_gd (by decide) ?_
    exact ok_some ⟨tf0, hK1⟩
  · skip
    refine ok_bp ok_bc (fun r5 q512 => ?_)
    have q512l := q512.1
    have q512u := q512.2
    refine ok_bp (o_fX6_teamCanDo hK1) (fun r6 q513 => ?_)
    refine ok_lw rfl rfl (fun h514 => ?_) (fun h514 => ?_)
    · skip
      refine ok_gd (by decide) ?_
      exact ok_some ⟨tf0, hK1⟩
    · skip
      refine ok_gd (by decide) ?_
      exact ok_some ⟨(tf1 trivial), hK1⟩
theorem ol_fX7_guestsProving_l4 {σ0 : St} : ∀ (n : Nat) (σ : St) (x1 : Int32) (x2 : Int32) (x3 : Int32), K σ0 σ → 0 ≤ x3.toInt → (5 + 1 - x3.toInt).toNat < n → ok (fX7_guestsProving_l4 n σ x1 x2 x3) (fun p => True ∧ K σ0 p.2) := by
  have hFU : FU = 100000 := rfl
  intro n
  induction n with
  | zero => intro σ x1 x2 x3 hK hx3 hm; omega
  | succ n ih =>
    intro σ x1 x2 x3 hK hx3 hm
    show ok (fX7_guestsProving_B4  (fX7_guestsProving_l4  n) σ x1 x2 x3) _
    unfold fX7_guestsProving_B4
    have c515 := hK.gus
    refine ok_le rfl rfl (fun h516 => ?_) (fun h516 => ?_)
    · skip
      exact ok_some ⟨trivial, hK⟩
    · skip
      refine ok_bp (o_fX7_freshProofs hK) (fun σ1 hK1 => ?_)
      refine ok_gd ⟨by omega, by omega⟩ ?_
      refine ok_bp (o_fX5_leastSet hK1 (hK1.kno _)) (fun r2 q517 => ?_)
      refine ok_lt ?_
      refine ok_eq (n := -1) rfl rfl (fun h518e h518 => ?_) (fun h518e h518 => ?_)
      · skip
        refine ok_lq (Q := fun v => v.toInt = x3.toInt + 1) (inc (by omega)) (fun v4 e519 => ?_)
        exact ih _ _ _ _ hK1 (by first | assumption | omega | exact ⟨by omega, by omega⟩ | exact Or.inl (eqm1 (by omega))) (by omega)
      · skip
        refine ok_bp ok_bc (fun r5 q520 => ?_)
        have q520l := q520.1
        have q520u := q520.2
        refine ok_bp (o_fX6_canDo hK1 ⟨by omega, by omega⟩) (fun r6 q521 => ?_)
        refine ok_lw rfl rfl (fun h522 => ?_) (fun h522 => ?_)
        · skip
          refine ok_lq (Q := fun v => v.toInt = x3.toInt + 1) (inc (by omega)) (fun v7 e523 => ?_)
          exact ih _ _ _ _ hK1 (by first | assumption | omega | exact ⟨by omega, by omega⟩ | exact Or.inl (eqm1 (by omega))) (by omega)
        · skip
          refine ok_la (fun v8 => ?_)
          refine ok_lq (Q := fun v => v.toInt = x3.toInt + 1) (inc (by omega)) (fun v9 e525 => ?_)
          exact ih _ _ _ _ hK1 (by first | assumption | omega | exact ⟨by omega, by omega⟩ | exact Or.inl (eqm1 (by omega))) (by omega)
theorem o_fX7_guestsProving {σ0 σ : St} {a1 : Int32} (hK : K σ0 σ) : ok (fX7_guestsProving σ a1) (fun p => True ∧ K σ0 p.2) := by
  have hFU : FU = 100000 := rfl
  unfold fX7_guestsProving
  refine ok_lq (Q := fun v => v.toInt = 0) rfl (fun v10 e526 => ?_)
  refine ok_lq (Q := fun v => v.toInt = 0) rfl (fun v11 e527 => ?_)
  exact ol_fX7_guestsProving_l4  FU _ _ _ _ hK (by first | assumption | omega | exact ⟨by omega, by omega⟩ | exact Or.inl (eqm1 (by omega))) (by omega)
theorem o_fX7_kitchen {σ0 σ : St} {a1 : Int32} {a2 : Int32} (hK : K σ0 σ) : ok (fX7_kitchen σ a1 a2) (fun p => True ∧ K σ0 p.2) := by
  have hFU : FU = 100000 := rfl
  unfold fX7_kitchen
  refine ok_lw (n := 0) rfl rfl (fun h528 => ?_) (fun h528 => ?_)
  · skip
    unfold fX7_kitchen_b17
    unfold fX7_kitchen_b19
    refine ok_lq (Q := fun v => v.toInt = -2) rfl (fun v1 e529 => ?_)
    refine ok_eq (n := 0) rfl rfl (fun h530e h530 => ?_) (fun h530e h530 => ?_)
    · skip
      exact absurd h530 (by omega)
    · skip
      exact ok_some ⟨trivial, hK⟩
  · skip
    refine ok_lw (m := 2) rfl rfl (fun h531 => ?_) (fun h531 => ?_)
    · skip
      unfold fX7_kitchen_b17
      unfold fX7_kitchen_b19
      refine ok_lq (Q := fun v => v.toInt = -2) rfl (fun v1 e532 => ?_)
      refine ok_eq (n := 0) rfl rfl (fun h533e h533 => ?_) (fun h533e h533 => ?_)
      · skip
        exact absurd h533 (by omega)
      · skip
        exact ok_some ⟨trivial, hK⟩
    · skip
      refine ok_bp (o_fX7_refusalOfPairs hK) (fun r5 q534 => ?_)
      unfold fX7_kitchen_b19
      refine ok_lt ?_
      refine ok_eq (n := 0) rfl rfl (fun h535e h535 => ?_) (fun h535e h535 => ?_)
      · skip
        refine ok_gd (q534 h535e).1 ?_
        refine ok_lt ?_
        refine ok_bp (o_fX1_cook hK ⟨_, slot_lt (q534 h535e).1, rfl⟩ (q534 h535e).2) (fun σ3 hK3 => ?_)
        refine ok_eq (n := 0) rfl rfl (fun h536e h536 => ?_) (fun h536e h536 => ?_)
        · skip
          exact ok_some ⟨trivial, hK3⟩
        · skip
          refine ok_eq (n := 1) rfl rfl (fun h537e h537 => ?_) (fun h537e h537 => ?_)
          · skip
            exact ok_some ⟨trivial, hK3⟩
          · skip
            refine ok_bp (o_fX6_worthOf hK3) (fun r4 q538 => ?_)
            exact ok_some ⟨trivial, hK3⟩
      · skip
        exact ok_some ⟨trivial, hK⟩
theorem ol_fX7_lent_l80 {σ0 : St} : ∀ (n : Nat) (σ : St) (x4 : Int32) (x5 : Int32) (x7 : Int32) (x8 : Int32), K σ0 σ → 0 ≤ x8.toInt → ir x5 4096 → (5 + 1 - x8.toInt).toNat < n → ok (fX7_lent_l80 n σ x4 x5 x7 x8) (fun p => True ∧ K σ0 p.2) := by
  have hFU : FU = 100000 := rfl
  intro n
  induction n with
  | zero => intro σ x4 x5 x7 x8 hK hx8 ax5 hm; omega
  | succ n ih =>
    intro σ x4 x5 x7 x8 hK hx8 ax5 hm
    have ax5l := ax5.1
    have ax5u := ax5.2
    show ok (fX7_lent_B80  (fX7_lent_l80  n) σ x4 x5 x7 x8) _
    unfold fX7_lent_B80
    have c539 := hK.gus
    refine ok_le rfl rfl (fun h540 => ?_) (fun h540 => ?_)
    · skip
      exact ok_some ⟨trivial, hK⟩
    · skip
      refine ok_gd ⟨by omega, by omega⟩ ?_
      refine ok_gd (ir_or ax5 (hK.kno _)) ?_
      refine ok_eq (n := 0) rfl rfl (fun h541e h541 => ?_) (fun h541e h541 => ?_)
      · skip
        refine ok_la (fun v2 => ?_)
        refine ok_lq (Q := fun v => v.toInt = x8.toInt + 1) (inc (by omega)) (fun v3 e543 => ?_)
        exact ih _ _ _ _ _ hK (by first | assumption | omega | exact ⟨by omega, by omega⟩ | exact Or.inl (eqm1 (by omega))) ax5 (by omega)
      · skip
        refine ok_lq (Q := fun v => v.toInt = x8.toInt + 1) (inc (by omega)) (fun v1 e544 => ?_)
        exact ih _ _ _ _ _ hK (by first | assumption | omega | exact ⟨by omega, by omega⟩ | exact Or.inl (eqm1 (by omega))) ax5 (by omega)
theorem o_fX7_lent {σ0 σ : St} {a1 : Int32} {a2 : Int32} (hK : K σ0 σ) : ok (fX7_lent σ a1 a2) (fun p => True ∧ K σ0 p.2) := by
  have hFU : FU = 100000 := rfl
  unfold fX7_lent
  refine ok_bz ok_hasGuest ?_ (fun i545 => ?_)
  · skip
    unfold fX7_lent_b21
    refine ok_lq (Q := fun v => v.toInt = -2) rfl (fun v4 e546 => ?_)
    refine ok_eq (n := 0) rfl rfl (fun h547e h547 => ?_) (fun h547e h547 => ?_)
    · skip
      exact absurd h547 (by omega)
    · skip
      exact ok_some ⟨trivial, hK⟩
  · skip
    have i545l := i545.1
    have i545u := i545.2
    have i545c := hK.gus
    refine ok_bp (o_fX7_refusalOfDishes hK) (fun r13 q548 => ?_)
    unfold fX7_lent_b21
    refine ok_lt ?_
    refine ok_eq (n := 0) rfl rfl (fun h549e h549 => ?_) (fun h549e h549 => ?_)
    · skip
      refine ok_gd (q548 h549e) ?_
      refine ok_lt ?_
      refine ok_bp (o_fX4_asSet hK ⟨_, slot_lt (q548 h549e), rfl⟩) (fun r6 q550 => ?_)
      refine ok_lt ?_
      refine ok_gd ⟨by omega, by omega⟩ ?_
      refine ok_lq (Q := fun v => ir v 4096) (hK.kno _) (fun v8 q551 => ?_)
      refine ok_bp (o_fX7_freshProofs hK) (fun σ9 hK9 => ?_)
      refine ok_gd q551 ?_
      refine ok_eq (n := 0) rfl rfl (fun h552e h552 => ?_) (fun h552e h552 => ?_)
      · skip
        exact ok_some ⟨trivial, hK9⟩
      · skip
        refine ok_lq (Q := fun v => v.toInt = 0) rfl (fun v10 e553 => ?_)
        refine ok_lq (Q := fun v => v.toInt = 0) rfl (fun v11 e554 => ?_)
        exact ol_fX7_lent_l80  FU _ _ _ _ _ hK9 (by first | assumption | omega | exact ⟨by omega, by omega⟩ | exact Or.inl (eqm1 (by omega))) q551 (by omega)
    · skip
      exact ok_some ⟨trivial, hK⟩
theorem o_fX7_menuSet {σ0 σ : St} {a1 : Int32} {a2 : Int32} (hK : K σ0 σ) (pa1 : ir a1 5) : ok (fX7_menuSet σ a1 a2) (fun p => ir p.1 4096 ∧ K σ0 p.2) := by
  have hFU : FU = 100000 := rfl
  have pa1l := pa1.1
  have pa1u := pa1.2
  unfold fX7_menuSet
  refine ok_bp (o_fX7_freshProofs hK) (fun σ1 hK1 => ?_)
  refine ok_gd pa1 ?_
  refine ok_bp (o_fX6_canDo hK1 pa1) (fun r2 q555 => ?_)
  refine ok_bp (o_fX5_menuSet hK1 (ir_and' (hK1.kno _))) (fun r3 q556 => ?_)
  have q556l := q556.1
  have q556u := q556.2
  exact ok_some ⟨q556, hK1⟩
theorem o_fX7_proofs {σ0 σ : St} {a1 : Int32} (hK : K σ0 σ) : ok (fX7_proofs σ a1) (fun p => True ∧ K σ0 p.2) := by
  have hFU : FU = 100000 := rfl
  unfold fX7_proofs
  refine ok_bz ok_hasClaim ?_ (fun i557 => ?_)
  · skip
    exact ok_some ⟨trivial, hK⟩
  · skip
    have i557l := i557.1
    have i557u := i557.2
    have i557c := hK.cls
    refine ok_bp (o_fX7_freshProofs hK) (fun σ2 hK2 => ?_)
    refine ok_bp (o_fX6_allSteps hK2) (fun r3 q558 => ?_)
    have q558l := q558.1
    have q558u := q558.2
    refine ok_bp (o_fX5_countLeast hK2 q558) (fun r4 q559 => ?_)
    exact ok_some ⟨trivial, hK2⟩
theorem o_fX7_provedByAll {σ0 σ : St} (hK : K σ0 σ) : ok (fX7_provedByAll σ) (fun p => True ∧ K σ0 p.2) := by
  have hFU : FU = 100000 := rfl
  unfold fX7_provedByAll
  refine ok_bp (o_fX7_freshProofs hK) (fun σ1 hK1 => ?_)
  refine ok_bp (o_fX6_allSteps hK1) (fun r2 q560 => ?_)
  have q560l := q560.1
  have q560u := q560.2
  refine ok_gd q560 ?_
  exact ok_some ⟨trivial, hK1⟩
theorem o_fX7_provedWithout {σ0 σ : St} {a1 : Int32} (hK : K σ0 σ) : ok (fX7_provedWithout σ a1) (fun p => True ∧ K σ0 p.2) := by
  have hFU : FU = 100000 := rfl
  unfold fX7_provedWithout
  refine ok_bp (o_fX7_freshProofs hK) (fun σ1 hK1 => ?_)
  refine ok_bp (o_fX6_allSteps hK1) (fun r2 q561 => ?_)
  have q561l := q561.1
  have q561u := q561.2
  refine ok_gd (ir_and' q561) ?_
  exact ok_some ⟨trivial, hK1⟩
theorem o_fX7_shares {σ0 σ : St} {a1 : Int32} {a2 : Int32} (hK : K σ0 σ) : ok (fX7_shares σ a1 a2) (fun p => True ∧ K σ0 p.2) := by
  have hFU : FU = 100000 := rfl
  unfold fX7_shares
  refine ok_bz ok_hasClaim ?_ (fun i562 => ?_)
  · skip
    unfold fX7_shares_b21
    refine ok_lq (Q := fun v => v.toInt = -2) rfl (fun v1 e563 => ?_)
    refine ok_eq (n := 0) rfl rfl (fun h564e h564 => ?_) (fun h564e h564 => ?_)
    · skip
      exact absurd h564 (by omega)
    · skip
      exact ok_some ⟨trivial, hK⟩
  · skip
    have i562l := i562.1
    have i562u := i562.2
    have i562c := hK.cls
    refine ok_bp (o_fX7_refusalOfPairs hK) (fun r5 q565 => ?_)
    unfold fX7_shares_b21
    refine ok_lt ?_
    refine ok_eq (n := 0) rfl rfl (fun h566e h566 => ?_) (fun h566e h566 => ?_)
    · skip
      refine ok_gd (q565 h566e).1 ?_
      refine ok_lt ?_
      refine ok_bp (o_fX1_cook hK ⟨_, slot_lt (q565 h566e).1, rfl⟩ (q565 h566e).2) (fun σ3 hK3 => ?_)
      refine ok_gd ⟨by omega, by omega⟩ ?_
      exact ok_some ⟨trivial, hK3⟩
    · skip
      exact ok_some ⟨trivial, hK⟩
theorem o_fX7_shortestSet {σ0 σ : St} {a1 : Int32} (hK : K σ0 σ) : ok (fX7_shortestSet σ a1) (fun p => True ∧ K σ0 p.2) := by
  have hFU : FU = 100000 := rfl
  unfold fX7_shortestSet
  refine ok_bp (o_fX7_freshProofs hK) (fun σ1 hK1 => ?_)
  refine ok_bp (o_fX6_allSteps hK1) (fun r2 q567 => ?_)
  have q567l := q567.1
  have q567u := q567.2
  refine ok_bp (o_fX5_leastSet hK1 q567) (fun r3 q568 => ?_)
  exact ok_some ⟨trivial, hK1⟩
theorem o_fX7_spare {σ0 σ : St} {a1 : Int32} (hK : K σ0 σ) : ok (fX7_spare σ a1) (fun p => True ∧ K σ0 p.2) := by
  have hFU : FU = 100000 := rfl
  unfold fX7_spare
  refine ok_bz (o_fX6_isClaimSet hK) ?_ (fun i569 => ?_)
  · skip
    exact ok_some ⟨trivial, hK⟩
  · skip
    refine ok_bs (o_fX7_leastSaltFor hK) (fun r2 σ3 q570 => ?_)
    have hK3 : K σ0 σ3 := q570.2
    refine ok_bp o_fX7_sizeOrNone (fun r4 q571 => ?_)
    exact ok_some ⟨trivial, hK3⟩
theorem o_fX7_spared {σ0 σ : St} {a1 : Int32} (hK : K σ0 σ) : ok (fX7_spared σ a1) (fun p => True ∧ K σ0 p.2) := by
  have hFU : FU = 100000 := rfl
  unfold fX7_spared
  refine ok_bz (o_fX6_isClaimSet hK) ?_ (fun i572 => ?_)
  · skip
    exact ok_some ⟨trivial, hK⟩
  · skip
    refine ok_bs (o_fX7_leastSaltFor hK) (fun r2 σ3 q573 => ?_)
    have hK3 : K σ0 σ3 := q573.2
    exact ok_some ⟨trivial, hK3⟩
theorem o_fX7_takes {σ0 σ : St} {a1 : Int32} {a2 : Int32} (hK : K σ0 σ) : ok (fX7_takes σ a1 a2) (fun p => True ∧ K σ0 p.2) := by
  have hFU : FU = 100000 := rfl
  unfold fX7_takes
  refine ok_bz ok_hasGuest ?_ (fun i574 => ?_)
  · skip
    exact ok_some ⟨trivial, hK⟩
  · skip
    have i574l := i574.1
    have i574u := i574.2
    have i574c := hK.gus
    refine ok_bz (o_fX6_isClaimSet hK) ?_ (fun i575 => ?_)
    · skip
      exact ok_some ⟨trivial, hK⟩
    · skip
      refine ok_bp (o_fX7_freshProofs hK) (fun σ3 hK3 => ?_)
      refine ok_gd ⟨by omega, by omega⟩ ?_
      refine ok_bp (o_fX5_leastSet hK3 (hK3.kno _)) (fun r4 q576 => ?_)
      refine ok_lt ?_
      refine ok_eq (n := -1) rfl rfl (fun h577e h577 => ?_) (fun h577e h577 => ?_)
      · skip
        exact ok_some ⟨trivial, hK3⟩
      · skip
        refine ok_bp ok_bc (fun r6 q578 => ?_)
        have q578l := q578.1
        have q578u := q578.2
        refine ok_gd ⟨by omega, by omega⟩ ?_
        exact ok_some ⟨trivial, hK3⟩
theorem o_fX7_when {σ0 σ : St} {a1 : Int32} {a2 : Int32} (hK : K σ0 σ) : ok (fX7_when σ a1 a2) (fun p => True ∧ K σ0 p.2) := by
  have hFU : FU = 100000 := rfl
  unfold fX7_when
  refine ok_bz ok_hasClaim ?_ (fun i579 => ?_)
  · skip
    unfold fX7_when_b21
    refine ok_lq (Q := fun v => v.toInt = -2) rfl (fun v1 e580 => ?_)
    refine ok_eq (n := 0) rfl rfl (fun h581e h581 => ?_) (fun h581e h581 => ?_)
    · skip
      exact absurd h581 (by omega)
    · skip
      exact ok_some ⟨trivial, hK⟩
  · skip
    have i579l := i579.1
    have i579u := i579.2
    have i579c := hK.cls
    refine ok_bp (o_fX7_refusalOfPairs hK) (fun r5 q582 => ?_)
    unfold fX7_when_b21
    refine ok_lt ?_
    refine ok_eq (n := 0) rfl rfl (fun h583e h583 => ?_) (fun h583e h583 => ?_)
    · skip
      refine ok_gd (q582 h583e).1 ?_
      refine ok_lt ?_
      refine ok_bp (o_fX1_cook hK ⟨_, slot_lt (q582 h583e).1, rfl⟩ (q582 h583e).2) (fun σ3 hK3 => ?_)
      refine ok_gd ⟨by omega, by omega⟩ ?_
      exact ok_some ⟨trivial, hK3⟩
    · skip
      exact ok_some ⟨trivial, hK⟩
theorem o_fX7_ate {σ0 σ : St} {a1 : Int32} (hK : K σ0 σ) : ok (fX7_ate σ a1) (fun p => True ∧ K σ0 p.2) := by
  have hFU : FU = 100000 := rfl
  unfold fX7_ate
  refine ok_bp (o_fX7_refusalOfDishes hK) (fun r1 q584 => ?_)
  refine ok_lt ?_
  refine ok_eq (n := 0) rfl rfl (fun h585e h585 => ?_) (fun h585e h585 => ?_)
  · skip
    refine ok_gd (q584 h585e) ?_
    refine ok_lt ?_
    refine ok_bp (o_fX4_asSet hK ⟨_, slot_lt (q584 h585e), rfl⟩) (fun r4 q586 => ?_)
    refine ok_bs (o_fX7_guestsProving hK) (fun r5 σ6 q587 => ?_)
    have hK6 : K σ0 σ6 := q587.2
    exact ok_some ⟨trivial, hK6⟩
  · skip
    exact ok_some ⟨trivial, hK⟩
theorem ol_fX7_bite_l51 {σ0 : St} : ∀ (n : Nat) (σ : St) (x2 : Int32) (x3 : Int32) (x4 : Int32) (x5 : Int32), K σ0 σ → 0 ≤ x5.toInt → x2.toInt ≤ 63 → (64 + 1 - x5.toInt).toNat < n → ok (fX7_bite_l51 n σ x2 x3 x4 x5) (fun p => True ∧ K σ0 p.2) := by
  have hFU : FU = 100000 := rfl
  intro n
  induction n with
  | zero => intro σ x2 x3 x4 x5 hK hx5 b2 hm; omega
  | succ n ih =>
    intro σ x2 x3 x4 x5 hK hx5 b2 hm
    show ok (fX7_bite_B51  (fX7_bite_l51  n) σ x2 x3 x4 x5) _
    unfold fX7_bite_B51
    refine ok_le rfl rfl (fun h588 => ?_) (fun h588 => ?_)
    · skip
      refine ok_bp (o_fX6_firstGoing hK) (fun r1 q589 => ?_)
      exact ok_some ⟨trivial, hK⟩
    · skip
      refine ok_bp (o_fX6_firstGoing hK) (fun r2 q590 => ?_)
      refine ok_lt ?_
      refine ok_eq (n := -1) rfl rfl (fun h591e h591 => ?_) (fun h591e h591 => ?_)
      · skip
        exact ok_some ⟨trivial, hK⟩
      · skip
        refine ok_gd (q590.resolve_left h591e) ?_
        refine ok_la (fun v4 => ?_)
        refine ok_lq (Q := fun v => v.toInt = x5.toInt + 1) (inc (by omega)) (fun v5 e593 => ?_)
        exact ih _ _ _ _ _ hK (by first | assumption | omega | exact ⟨by omega, by omega⟩ | exact Or.inl (eqm1 (by omega))) (by first | assumption | omega | exact ⟨by omega, by omega⟩ | exact Or.inl (eqm1 (by omega))) (by omega)
theorem o_fX7_bite {σ0 σ : St} {a1 : Int32} {a2 : Int32} (hK : K σ0 σ) : ok (fX7_bite σ a1 a2) (fun p => True ∧ K σ0 p.2) := by
  have hFU : FU = 100000 := rfl
  unfold fX7_bite
  refine ok_bz ok_hasClaim ?_ (fun i594 => ?_)
  · skip
    exact ok_some ⟨trivial, hK⟩
  · skip
    have i594l := i594.1
    have i594u := i594.2
    have i594c := hK.cls
    refine ok_bs (o_fX7_shortestSet hK) (fun r7 σ8 q595 => ?_)
    have hK8 : K σ0 σ8 := q595.2
    refine ok_lt ?_
    refine ok_eq (n := -1) rfl rfl (fun h596e h596 => ?_) (fun h596e h596 => ?_)
    · skip
      exact ok_some ⟨trivial, hK8⟩
    · skip
      refine ok_lw (n := 0) rfl rfl (fun h597 => ?_) (fun h597 => ?_)
      · skip
        exact ok_some ⟨trivial, hK8⟩
      · skip
        refine ok_bp ok_bc (fun r10 q598 => ?_)
        have q598l := q598.1
        have q598u := q598.2
        refine ok_lw rfl rfl (fun h599 => ?_) (fun h599 => ?_)
        · skip
          refine ok_lq (Q := fun v => ir v 4096) hK8.salt (fun v11 q600 => ?_)
          refine ok_lq (Q := fun v => v.toInt = 0) rfl (fun v12 e601 => ?_)
          exact ol_fX7_bite_l51  FU _ _ _ _ _ hK8 (by first | assumption | omega | exact ⟨by omega, by omega⟩ | exact Or.inl (eqm1 (by omega))) (by first | assumption | omega | exact ⟨by omega, by omega⟩ | exact Or.inl (eqm1 (by omega))) (by omega)
        · skip
          exact ok_some ⟨trivial, hK8⟩
theorem o_fX7_course {σ0 σ : St} {a1 : Int32} (hK : K σ0 σ) : ok (fX7_course σ a1) (fun p => True ∧ K σ0 p.2) := by
  have hFU : FU = 100000 := rfl
  unfold fX7_course
  refine ok_bz ok_hasGuest ?_ (fun i602 => ?_)
  · skip
    exact ok_some ⟨trivial, hK⟩
  · skip
    have i602l := i602.1
    have i602u := i602.2
    have i602c := hK.gus
    refine ok_bs (o_fX7_menuSet hK ⟨by omega, by omega⟩) (fun r2 σ3 q603 => ?_)
    have hK3 : K σ0 σ3 := q603.2
    have q603r : ir r2 4096 := q603.1
    exact ok_some ⟨trivial, hK3⟩
theorem o_fX7_covered {σ0 σ : St} (hK : K σ0 σ) : ok (fX7_covered σ) (fun p => True ∧ K σ0 p.2) := by
  have hFU : FU = 100000 := rfl
  unfold fX7_covered
  refine ok_bz ok_isTold ?_ (fun i604 => ?_)
  · skip
    exact ok_some ⟨trivial, hK⟩
  · skip
    refine ok_bp (o_fX6_following hK) (fun r2 q605 => ?_)
    refine ok_bs (o_fX7_provedByAll hK) (fun r3 σ4 q606 => ?_)
    have hK4 : K σ0 σ4 := q606.2
    exact ok_some ⟨trivial, hK4⟩
theorem o_fX7_dishes {σ0 σ : St} {a1 : Int32} (hK : K σ0 σ) : ok (fX7_dishes σ a1) (fun p => True ∧ K σ0 p.2) := by
  have hFU : FU = 100000 := rfl
  unfold fX7_dishes
  refine ok_bz ok_hasGuest ?_ (fun i607 => ?_)
  · skip
    exact ok_some ⟨trivial, hK⟩
  · skip
    have i607l := i607.1
    have i607u := i607.2
    have i607c := hK.gus
    refine ok_bp (o_fX7_freshProofs hK) (fun σ2 hK2 => ?_)
    refine ok_bs (o_fX7_menuSet hK2 ⟨by omega, by omega⟩) (fun r3 σ4 q608 => ?_)
    have hK4 : K σ0 σ4 := q608.2
    have q608r : ir r3 4096 := q608.1
    refine ok_gd q608r ?_
    exact ok_some ⟨trivial, hK4⟩
theorem o_fX7_falls {σ0 σ : St} {a1 : Int32} (hK : K σ0 σ) : ok (fX7_falls σ a1) (fun p => True ∧ K σ0 p.2) := by
  have hFU : FU = 100000 := rfl
  unfold fX7_falls
  refine ok_bz ok_hasClaim ?_ (fun i609 => ?_)
  · skip
    exact ok_some ⟨trivial, hK⟩
  · skip
    have i609l := i609.1
    have i609u := i609.2
    have i609c := hK.cls
    refine ok_eq (n := 0) rfl rfl (fun h610e h610 => ?_) (fun h610e h610 => ?_)
    · skip
      exact ok_some ⟨trivial, hK⟩
    · skip
      refine ok_bs (o_fX7_provedByAll hK) (fun r2 σ3 q611 => ?_)
      have hK3 : K σ0 σ3 := q611.2
      refine ok_bp (o_fX6_allSteps hK3) (fun r4 q612 => ?_)
      have q612l := q612.1
      have q612u := q612.2
      refine ok_bp (o_fX6_spread hK3) (fun r5 q613 => ?_)
      exact ok_some ⟨trivial, hK3⟩
theorem ol_fX7_host_l16 {σ0 : St} : ∀ (n : Nat) (σ : St) (x1 : Int32) (x2 : Int32), K σ0 σ → 0 ≤ x2.toInt → (12 + 1 - x2.toInt).toNat < n → ok (fX7_host_l16 n σ x1 x2) (fun p => True ∧ K σ0 p.2) := by
  have hFU : FU = 100000 := rfl
  intro n
  induction n with
  | zero => intro σ x1 x2 hK hx2 hm; omega
  | succ n ih =>
    intro σ x1 x2 hK hx2 hm
    show ok (fX7_host_B16  (fX7_host_l16  n) σ x1 x2) _
    unfold fX7_host_B16
    have c614 := hK.cls
    refine ok_le rfl rfl (fun h615 => ?_) (fun h615 => ?_)
    · skip
      exact ok_some ⟨trivial, hK⟩
    · skip
      refine ok_bs (o_fX7_guestsProving hK) (fun r1 σ2 q616 => ?_)
      have hK2 : K σ0 σ2 := q616.2
      refine ok_eq rfl rfl (fun h617e h617 => ?_) (fun h617e h617 => ?_)
      · skip
        exact ok_some ⟨trivial, hK2⟩
      · skip
        refine ok_lq (Q := fun v => v.toInt = x2.toInt + 1) (inc (by omega)) (fun v3 e618 => ?_)
        exact ih _ _ _ hK2 (by first | assumption | omega | exact ⟨by omega, by omega⟩ | exact Or.inl (eqm1 (by omega))) (by omega)
theorem o_fX7_host {σ0 σ : St} {a1 : Int32} (hK : K σ0 σ) : ok (fX7_host σ a1) (fun p => True ∧ K σ0 p.2) := by
  have hFU : FU = 100000 := rfl
  unfold fX7_host
  refine ok_bz (o_fX6_isGuestSet hK) ?_ (fun i619 => ?_)
  · skip
    exact ok_some ⟨trivial, hK⟩
  · skip
    refine ok_lq (Q := fun v => v.toInt = 0) rfl (fun v5 e620 => ?_)
    exact ol_fX7_host_l16  FU _ _ _ hK (by first | assumption | omega | exact ⟨by omega, by omega⟩ | exact Or.inl (eqm1 (by omega))) (by omega)
theorem ol_fX7_leastTeam_l8 {σ0 : St} : ∀ (n : Nat) (σ : St) (x1 : Int32) (x2 : Int32) (x3 : Int32) (x4 : Int32), K σ0 σ → 0 ≤ x4.toInt → (32 + 1 - x4.toInt).toNat < n → ok (fX7_leastTeam_l8 n σ x1 x2 x3 x4) (fun p => True ∧ K σ0 p.2) := by
  have hFU : FU = 100000 := rfl
  intro n
  induction n with
  | zero => intro σ x1 x2 x3 x4 hK hx4 hm; omega
  | succ n ih =>
    intro σ x1 x2 x3 x4 hK hx4 hm
    have cg := hK.gus
    have cE := sh_b5 (x := σ.1 3 6) cg.1 cg.2
    show ok (fX7_leastTeam_B8  (fX7_leastTeam_l8  n) σ x1 x2 x3 x4) _
    unfold fX7_leastTeam_B8
    have c621 := hK.gus
    refine ok_le rfl rfl (fun h622 => ?_) (fun h622 => ?_)
    · skip
      exact ok_some ⟨trivial, hK⟩
    · skip
      refine ok_bp ok_bc (fun r1 q623 => ?_)
      have q623l := q623.1
      have q623u := q623.2
      refine ok_lt ?_
      refine ok_le rfl rfl (fun h624 => ?_) (fun h624 => ?_)
      · skip
        refine ok_lq (Q := fun v => v.toInt = x4.toInt + 1) (inc (by omega)) (fun v3 e625 => ?_)
        exact ih _ _ _ _ _ hK (by first | assumption | omega | exact ⟨by omega, by omega⟩ | exact Or.inl (eqm1 (by omega))) (by omega)
      · skip
        refine ok_bs (o_fX7_doesTeamProve hK) (fun r4 σ5 q626 => ?_)
        have hK5 : K σ0 σ5 := q626.2
        have q626r : tf True r4 := q626.1
        refine ok_eq (n := 0) rfl rfl (fun h627e h627 => ?_) (fun h627e h627 => ?_)
        · skip
          refine ok_lq (Q := fun v => v.toInt = x4.toInt + 1) (inc (by omega)) (fun v6 e628 => ?_)
          exact ih _ _ _ _ _ hK5 (by first | assumption | omega | exact ⟨by omega, by omega⟩ | exact Or.inl (eqm1 (by omega))) (by omega)
        · skip
          refine ok_lt ?_
          refine ok_lt ?_
          refine ok_lq (Q := fun v => v.toInt = x4.toInt + 1) (inc (by omega)) (fun v9 e629 => ?_)
          exact ih _ _ _ _ _ hK5 (by first | assumption | omega | exact ⟨by omega, by omega⟩ | exact Or.inl (eqm1 (by omega))) (by omega)
theorem o_fX7_leastTeam {σ0 σ : St} {a1 : Int32} (hK : K σ0 σ) : ok (fX7_leastTeam σ a1) (fun p => True ∧ K σ0 p.2) := by
  have hFU : FU = 100000 := rfl
  unfold fX7_leastTeam
  refine ok_lq (Q := fun v => v.toInt = -1) rfl (fun v10 e630 => ?_)
  refine ok_lq (Q := fun v => v.toInt = 6) rfl (fun v11 e631 => ?_)
  refine ok_lq (Q := fun v => v.toInt = 0) rfl (fun v12 e632 => ?_)
  exact ol_fX7_leastTeam_l8  FU _ _ _ _ _ hK (by first | assumption | omega | exact ⟨by omega, by omega⟩ | exact Or.inl (eqm1 (by omega))) (by omega)
theorem o_fX7_lengthOfDuel {σ0 σ : St} (hK : K σ0 σ) : ok (fX7_lengthOfDuel σ) (fun p => True ∧ K σ0 p.2) := by
  have hFU : FU = 100000 := rfl
  unfold fX7_lengthOfDuel
  refine ok_bs (o_fX7_provedByAll hK) (fun r1 σ2 q633 => ?_)
  have hK2 : K σ0 σ2 := q633.2
  refine ok_bp ok_bc (fun r3 q634 => ?_)
  have q634l := q634.1
  have q634u := q634.2
  exact ok_some ⟨trivial, hK2⟩
theorem o_fX7_menuWorth {σ0 σ : St} {a1 : Int32} {a2 : Int32} (hK : K σ0 σ) (pa1 : ir a1 5) : ok (fX7_menuWorth σ a1 a2) (fun p => True ∧ K σ0 p.2) := by
  have hFU : FU = 100000 := rfl
  have pa1l := pa1.1
  have pa1u := pa1.2
  unfold fX7_menuWorth
  refine ok_bp (o_fX7_freshProofs hK) (fun σ1 hK1 => ?_)
  refine ok_bs (o_fX7_menuSet hK1 pa1) (fun r2 σ3 q635 => ?_)
  have hK3 : K σ0 σ3 := q635.2
  have q635r : ir r2 4096 := q635.1
  refine ok_gd q635r ?_
  refine ok_bp (o_fX6_worthOf hK3) (fun r4 q636 => ?_)
  exact ok_some ⟨trivial, hK3⟩
theorem ol_fX7_needs_l31 {σ0 : St} : ∀ (n : Nat) (σ : St) (x1 : Int32) (x2 : Int32) (x3 : Int32), K σ0 σ → 0 ≤ x3.toInt → (12 + 1 - x3.toInt).toNat < n → ok (fX7_needs_l31 n σ x1 x2 x3) (fun p => True ∧ K σ0 p.2) := by
  have hFU : FU = 100000 := rfl
  intro n
  induction n with
  | zero => intro σ x1 x2 x3 hK hx3 hm; omega
  | succ n ih =>
    intro σ x1 x2 x3 hK hx3 hm
    show ok (fX7_needs_B31  (fX7_needs_l31  n) σ x1 x2 x3) _
    unfold fX7_needs_B31
    have c637 := hK.sts
    refine ok_le rfl rfl (fun h638 => ?_) (fun h638 => ?_)
    · skip
      exact ok_some ⟨trivial, hK⟩
    · skip
      refine ok_bs (o_fX7_provedWithout hK) (fun r1 σ2 q639 => ?_)
      have hK2 : K σ0 σ2 := q639.2
      refine ok_eq (n := 0) rfl rfl (fun h640e h640 => ?_) (fun h640e h640 => ?_)
      · skip
        refine ok_la (fun v4 => ?_)
        refine ok_lq (Q := fun v => v.toInt = x3.toInt + 1) (inc (by omega)) (fun v5 e642 => ?_)
        exact ih _ _ _ _ hK2 (by first | assumption | omega | exact ⟨by omega, by omega⟩ | exact Or.inl (eqm1 (by omega))) (by omega)
      · skip
        refine ok_lq (Q := fun v => v.toInt = x3.toInt + 1) (inc (by omega)) (fun v3 e643 => ?_)
        exact ih _ _ _ _ hK2 (by first | assumption | omega | exact ⟨by omega, by omega⟩ | exact Or.inl (eqm1 (by omega))) (by omega)
theorem o_fX7_needs {σ0 σ : St} {a1 : Int32} (hK : K σ0 σ) : ok (fX7_needs σ a1) (fun p => True ∧ K σ0 p.2) := by
  have hFU : FU = 100000 := rfl
  unfold fX7_needs
  refine ok_bz ok_hasClaim ?_ (fun i644 => ?_)
  · skip
    exact ok_some ⟨trivial, hK⟩
  · skip
    have i644l := i644.1
    have i644u := i644.2
    have i644c := hK.cls
    refine ok_bs (o_fX7_provedByAll hK) (fun r7 σ8 q645 => ?_)
    have hK8 : K σ0 σ8 := q645.2
    refine ok_eq (n := 0) rfl rfl (fun h646e h646 => ?_) (fun h646e h646 => ?_)
    · skip
      exact ok_some ⟨trivial, hK8⟩
    · skip
      refine ok_lq (Q := fun v => v.toInt = 0) rfl (fun v9 e647 => ?_)
      refine ok_lq (Q := fun v => v.toInt = 0) rfl (fun v10 e648 => ?_)
      exact ol_fX7_needs_l31  FU _ _ _ _ hK8 (by first | assumption | omega | exact ⟨by omega, by omega⟩ | exact Or.inl (eqm1 (by omega))) (by omega)
theorem o_fX7_proof {σ0 σ : St} {a1 : Int32} (hK : K σ0 σ) : ok (fX7_proof σ a1) (fun p => True ∧ K σ0 p.2) := by
  have hFU : FU = 100000 := rfl
  unfold fX7_proof
  refine ok_bz ok_hasClaim ?_ (fun i649 => ?_)
  · skip
    exact ok_some ⟨trivial, hK⟩
  · skip
    have i649l := i649.1
    have i649u := i649.2
    have i649c := hK.cls
    refine ok_bs (o_fX7_shortestSet hK) (fun r2 σ3 q650 => ?_)
    have hK3 : K σ0 σ3 := q650.2
    exact ok_some ⟨trivial, hK3⟩
theorem o_fX7_proved {σ0 σ : St} (hK : K σ0 σ) : ok (fX7_proved σ) (fun p => True ∧ K σ0 p.2) := by
  have hFU : FU = 100000 := rfl
  unfold fX7_proved
  refine ok_bz ok_isTold ?_ (fun i651 => ?_)
  · skip
    exact ok_some ⟨trivial, hK⟩
  · skip
    refine ok_bs (o_fX7_provedByAll hK) (fun r2 σ3 q652 => ?_)
    have hK3 : K σ0 σ3 := q652.2
    exact ok_some ⟨trivial, hK3⟩
theorem o_fX7_rests {σ0 σ : St} {a1 : Int32} (hK : K σ0 σ) : ok (fX7_rests σ a1) (fun p => True ∧ K σ0 p.2) := by
  have hFU : FU = 100000 := rfl
  unfold fX7_rests
  refine ok_bz ok_hasStep ?_ (fun i653 => ?_)
  · skip
    exact ok_some ⟨trivial, hK⟩
  · skip
    have i653l := i653.1
    have i653u := i653.2
    have i653c := hK.sts
    refine ok_bs (o_fX7_provedByAll hK) (fun r2 σ3 q654 => ?_)
    have hK3 : K σ0 σ3 := q654.2
    refine ok_bs (o_fX7_provedWithout hK3) (fun r4 σ5 q655 => ?_)
    have hK5 : K σ0 σ5 := q655.2
    exact ok_some ⟨trivial, hK5⟩
theorem o_fX7_shortest {σ0 σ : St} {a1 : Int32} (hK : K σ0 σ) : ok (fX7_shortest σ a1) (fun p => True ∧ K σ0 p.2) := by
  have hFU : FU = 100000 := rfl
  unfold fX7_shortest
  refine ok_bz ok_hasClaim ?_ (fun i656 => ?_)
  · skip
    exact ok_some ⟨trivial, hK⟩
  · skip
    have i656l := i656.1
    have i656u := i656.2
    have i656c := hK.cls
    refine ok_bs (o_fX7_shortestSet hK) (fun r2 σ3 q657 => ?_)
    have hK3 : K σ0 σ3 := q657.2
    refine ok_bp o_fX7_sizeOrNone (fun r4 q658 => ?_)
    exact ok_some ⟨trivial, hK3⟩
theorem o_fX7_together {σ0 σ : St} {a1 : Int32} {a2 : Int32} (hK : K σ0 σ) : ok (fX7_together σ a1 a2) (fun p => True ∧ K σ0 p.2) := by
  have hFU : FU = 100000 := rfl
  unfold fX7_together
  refine ok_bz (o_fX6_isGuestSet hK) ?_ (fun i659 => ?_)
  · skip
    exact ok_some ⟨trivial, hK⟩
  · skip
    refine ok_bz ok_hasClaim ?_ (fun i660 => ?_)
    · skip
      exact ok_some ⟨trivial, hK⟩
    · skip
      have i660l := i660.1
      have i660u := i660.2
      have i660c := hK.cls
      refine ok_bs (o_fX7_doesTeamProve hK) (fun r3 σ4 q661 => ?_)
      have hK4 : K σ0 σ4 := q661.2
      have q661r : tf True r3 := q661.1
      refine ok_bp o_fX7_bit (fun r5 q662 => ?_)
      exact ok_some ⟨trivial, hK4⟩
theorem o_fX7_who {σ0 σ : St} {a1 : Int32} (hK : K σ0 σ) : ok (fX7_who σ a1) (fun p => True ∧ K σ0 p.2) := by
  have hFU : FU = 100000 := rfl
  unfold fX7_who
  refine ok_bz ok_hasClaim ?_ (fun i663 => ?_)
  · skip
    exact ok_some ⟨trivial, hK⟩
  · skip
    have i663l := i663.1
    have i663u := i663.2
    have i663c := hK.cls
    refine ok_bs (o_fX7_guestsProving hK) (fun r2 σ3 q664 => ?_)
    have hK3 : K σ0 σ3 := q664.2
    exact ok_some ⟨trivial, hK3⟩
theorem o_fX7_wrong {σ0 σ : St} (hK : K σ0 σ) : ok (fX7_wrong σ) (fun p => True ∧ K σ0 p.2) := by
  have hFU : FU = 100000 := rfl
  unfold fX7_wrong
  refine ok_bz ok_isTold ?_ (fun i665 => ?_)
  · skip
    exact ok_some ⟨trivial, hK⟩
  · skip
    refine ok_bs (o_fX7_provedByAll hK) (fun r2 σ3 q666 => ?_)
    have hK3 : K σ0 σ3 := q666.2
    refine ok_bp (o_fX6_following hK3) (fun r4 q667 => ?_)
    exact ok_some ⟨trivial, hK3⟩
theorem o_fX7_duel {σ0 σ : St} (hK : K σ0 σ) : ok (fX7_duel σ) (fun p => True ∧ K σ0 p.2) := by
  have hFU : FU = 100000 := rfl
  unfold fX7_duel
  refine ok_bz ok_isTold ?_ (fun i668 => ?_)
  · skip
    exact ok_some ⟨trivial, hK⟩
  · skip
    refine ok_bs (o_fX7_lengthOfDuel hK) (fun r2 σ3 q669 => ?_)
    have hK3 : K σ0 σ3 := q669.2
    exact ok_some ⟨trivial, hK3⟩
theorem o_fX7_feast {σ0 σ : St} {a1 : Int32} {a2 : Int32} (hK : K σ0 σ) : ok (fX7_feast σ a1 a2) (fun p => True ∧ K σ0 p.2) := by
  have hFU : FU = 100000 := rfl
  unfold fX7_feast
  refine ok_bz ok_hasGuest ?_ (fun i670 => ?_)
  · skip
    exact ok_some ⟨trivial, hK⟩
  · skip
    have i670l := i670.1
    have i670u := i670.2
    have i670c := hK.gus
    refine ok_bz o_fX7_isSeed ?_ (fun i671 => ?_)
    · skip
      exact ok_some ⟨trivial, hK⟩
    · skip
      refine ok_bp (o_fX6_holedSteps hK) (fun r3 q672 => ?_)
      refine ok_bs (o_fX7_menuWorth hK ⟨by omega, by omega⟩) (fun r4 σ5 q673 => ?_)
      have hK5 : K σ0 σ5 := q673.2
      exact ok_some ⟨trivial, hK5⟩
theorem o_fX7_fewest {σ0 σ : St} {a1 : Int32} (hK : K σ0 σ) : ok (fX7_fewest σ a1) (fun p => True ∧ K σ0 p.2) := by
  have hFU : FU = 100000 := rfl
  unfold fX7_fewest
  refine ok_bz ok_hasClaim ?_ (fun i674 => ?_)
  · skip
    exact ok_some ⟨trivial, hK⟩
  · skip
    have i674l := i674.1
    have i674u := i674.2
    have i674c := hK.cls
    refine ok_bs (o_fX7_leastTeam hK) (fun r2 σ3 q675 => ?_)
    have hK3 : K σ0 σ3 := q675.2
    refine ok_bp o_fX7_sizeOrNone (fun r4 q676 => ?_)
    exact ok_some ⟨trivial, hK3⟩
theorem o_fX7_lasts {σ0 σ : St} (hK : K σ0 σ) : ok (fX7_lasts σ) (fun p => True ∧ K σ0 p.2) := by
  have hFU : FU = 100000 := rfl
  unfold fX7_lasts
  refine ok_bz ok_isTold ?_ (fun i677 => ?_)
  · skip
    exact ok_some ⟨trivial, hK⟩
  · skip
    refine ok_bs (o_fX7_lengthOfDuel hK) (fun r2 σ3 q678 => ?_)
    have hK3 : K σ0 σ3 := q678.2
    exact ok_some ⟨trivial, hK3⟩
theorem ol_fX7_lemma_l26 {σ0 : St} : ∀ (n : Nat) (σ : St) (x1 : Int32) (x2 : Int32) (x3 : Int32) (x4 : Int32), K σ0 σ → 0 ≤ x4.toInt → ir x1 5 → (12 + 1 - x4.toInt).toNat < n → ok (fX7_lemma_l26 n σ x1 x2 x3 x4) (fun p => True ∧ K σ0 p.2) := by
  have hFU : FU = 100000 := rfl
  intro n
  induction n with
  | zero => intro σ x1 x2 x3 x4 hK hx4 ax1 hm; omega
  | succ n ih =>
    intro σ x1 x2 x3 x4 hK hx4 ax1 hm
    have ax1l := ax1.1
    have ax1u := ax1.2
    show ok (fX7_lemma_B26  (fX7_lemma_l26  n) σ x1 x2 x3 x4) _
    unfold fX7_lemma_B26
    have c679 := hK.cls
    refine ok_le rfl rfl (fun h680 => ?_) (fun h680 => ?_)
    · skip
      exact ok_some ⟨trivial, hK⟩
    · skip
      refine ok_bs (o_fX7_worthWithLemma hK ax1) (fun r1 σ2 q681 => ?_)
      have hK2 : K σ0 σ2 := q681.2
      refine ok_lt ?_
      refine ok_le rfl rfl (fun h682 => ?_) (fun h682 => ?_)
      · skip
        refine ok_lq (Q := fun v => v.toInt = x4.toInt + 1) (inc (by omega)) (fun v4 e683 => ?_)
        exact ih _ _ _ _ _ hK2 (by first | assumption | omega | exact ⟨by omega, by omega⟩ | exact Or.inl (eqm1 (by omega))) ax1 (by omega)
      · skip
        refine ok_lt ?_
        refine ok_lt ?_
        refine ok_lq (Q := fun v => v.toInt = x4.toInt + 1) (inc (by omega)) (fun v7 e684 => ?_)
        exact ih _ _ _ _ _ hK2 (by first | assumption | omega | exact ⟨by omega, by omega⟩ | exact Or.inl (eqm1 (by omega))) ax1 (by omega)
theorem o_fX7_lemma {σ0 σ : St} {a1 : Int32} (hK : K σ0 σ) : ok (fX7_lemma σ a1) (fun p => True ∧ K σ0 p.2) := by
  have hFU : FU = 100000 := rfl
  unfold fX7_lemma
  refine ok_bz ok_hasGuest ?_ (fun i685 => ?_)
  · skip
    exact ok_some ⟨trivial, hK⟩
  · skip
    have i685l := i685.1
    have i685u := i685.2
    have i685c := hK.gus
    refine ok_lq (Q := fun v => v.toInt = -1) rfl (fun v9 e686 => ?_)
    refine ok_bs (o_fX7_menuWorth hK ⟨by omega, by omega⟩) (fun r10 σ11 q687 => ?_)
    have hK11 : K σ0 σ11 := q687.2
    refine ok_lt ?_
    refine ok_lq (Q := fun v => v.toInt = 0) rfl (fun v13 e688 => ?_)
    exact ol_fX7_lemma_l26  FU _ _ _ _ _ hK11 (by first | assumption | omega | exact ⟨by omega, by omega⟩ | exact Or.inl (eqm1 (by omega))) ⟨by omega, by omega⟩ (by omega)
theorem ol_fX7_mean_l49 {σ0 : St} : ∀ (n : Nat) (σ : St) (x1 : Int32) (x2 : Int32) (x3 : Int32) (x4 : Int32) (x5 : Int32) (x6 : Int32), K σ0 σ → 0 ≤ x6.toInt → ir x3 5 → x2.toInt ≤ 20 → (20 + 1 - x6.toInt).toNat < n → ok (fX7_mean_l49 n σ x1 x2 x3 x4 x5 x6) (fun p => True ∧ K σ0 p.2) := by
  have hFU : FU = 100000 := rfl
  intro n
  induction n with
  | zero => intro σ x1 x2 x3 x4 x5 x6 hK hx6 ax3 b2 hm; omega
  | succ n ih =>
    intro σ x1 x2 x3 x4 x5 x6 hK hx6 ax3 b2 hm
    have ax3l := ax3.1
    have ax3u := ax3.2
    show ok (fX7_mean_B49  (fX7_mean_l49  n) σ x1 x2 x3 x4 x5 x6) _
    unfold fX7_mean_B49
    refine ok_le rfl rfl (fun h689 => ?_) (fun h689 => ?_)
    · skip
      refine ok_bp o_fX7_partOfFraction (fun r1 q690 => ?_)
      exact ok_some ⟨trivial, hK⟩
    · skip
      refine ok_bp (o_fX6_holedSteps hK) (fun r2 q691 => ?_)
      refine ok_bs (o_fX7_menuWorth hK ax3) (fun r3 σ4 q692 => ?_)
      have hK4 : K σ0 σ4 := q692.2
      refine ok_la (fun v5 => ?_)
      refine ok_lq (Q := fun v => v.toInt = x6.toInt + 1) (inc (by omega)) (fun v6 e694 => ?_)
      exact ih _ _ _ _ _ _ _ hK4 (by first | assumption | omega | exact ⟨by omega, by omega⟩ | exact Or.inl (eqm1 (by omega))) ax3 (by first | assumption | omega | exact ⟨by omega, by omega⟩ | exact Or.inl (eqm1 (by omega))) (by omega)
theorem o_fX7_mean {σ0 σ : St} {a1 : Int32} {a2 : Int32} {a3 : Int32} {a4 : Int32} (hK : K σ0 σ) : ok (fX7_mean σ a1 a2 a3 a4) (fun p => True ∧ K σ0 p.2) := by
  have hFU : FU = 100000 := rfl
  unfold fX7_mean
  refine ok_bz ok_hasGuest ?_ (fun i695 => ?_)
  · skip
    exact ok_some ⟨trivial, hK⟩
  · skip
    have i695l := i695.1
    have i695u := i695.2
    have i695c := hK.gus
    refine ok_bz o_fX7_isSeed ?_ (fun i696 => ?_)
    · skip
      exact ok_some ⟨trivial, hK⟩
    · skip
      refine ok_bz o_fX7_isBit ?_ (fun i697 => ?_)
      · skip
        exact ok_some ⟨trivial, hK⟩
      · skip
        refine ok_lw (n := 1) rfl rfl (fun h698 => ?_) (fun h698 => ?_)
        · skip
          exact ok_some ⟨trivial, hK⟩
        · skip
          refine ok_le (n := 20) rfl rfl (fun h699 => ?_) (fun h699 => ?_)
          · skip
            refine ok_lq (Q := fun v => v.toInt = 0) rfl (fun v10 e700 => ?_)
            refine ok_lq (Q := fun v => v.toInt = 0) rfl (fun v11 e701 => ?_)
            exact ol_fX7_mean_l49  FU _ _ _ _ _ _ _ hK (by first | assumption | omega | exact ⟨by omega, by omega⟩ | exact Or.inl (eqm1 (by omega))) ⟨by omega, by omega⟩ (by first | assumption | omega | exact ⟨by omega, by omega⟩ | exact Or.inl (eqm1 (by omega))) (by omega)
          · skip
            exact ok_some ⟨trivial, hK⟩
theorem o_fX7_menu {σ0 σ : St} {a1 : Int32} (hK : K σ0 σ) : ok (fX7_menu σ a1) (fun p => True ∧ K σ0 p.2) := by
  have hFU : FU = 100000 := rfl
  unfold fX7_menu
  refine ok_bz ok_hasGuest ?_ (fun i702 => ?_)
  · skip
    exact ok_some ⟨trivial, hK⟩
  · skip
    have i702l := i702.1
    have i702u := i702.2
    have i702c := hK.gus
    refine ok_bs (o_fX7_menuWorth hK ⟨by omega, by omega⟩) (fun r2 σ3 q703 => ?_)
    have hK3 : K σ0 σ3 := q703.2
    exact ok_some ⟨trivial, hK3⟩
theorem o_fX7_move {σ0 σ : St} (hK : K σ0 σ) : ok (fX7_move σ) (fun p => True ∧ K σ0 p.2) := by
  have hFU : FU = 100000 := rfl
  unfold fX7_move
  refine ok_bz ok_isTold ?_ (fun i704 => ?_)
  · skip
    exact ok_some ⟨trivial, hK⟩
  · skip
    refine ok_bs (o_fX7_lengthOfDuel hK) (fun r2 σ3 q705 => ?_)
    have hK3 : K σ0 σ3 := q705.2
    refine ok_eq (n := 1) rfl rfl (fun h706e h706 => ?_) (fun h706e h706 => ?_)
    · skip
      refine ok_bp (o_fX6_allSteps hK3) (fun r4 q707 => ?_)
      have q707l := q707.1
      have q707u := q707.2
      refine ok_bp (o_fX6_firstGoing hK3) (fun r5 q708 => ?_)
      exact ok_some ⟨trivial, hK3⟩
    · skip
      exact ok_some ⟨trivial, hK3⟩
theorem o_fX7_team {σ0 σ : St} {a1 : Int32} (hK : K σ0 σ) : ok (fX7_team σ a1) (fun p => True ∧ K σ0 p.2) := by
  have hFU : FU = 100000 := rfl
  unfold fX7_team
  refine ok_bz ok_hasClaim ?_ (fun i709 => ?_)
  · skip
    exact ok_some ⟨trivial, hK⟩
  · skip
    have i709l := i709.1
    have i709u := i709.2
    have i709c := hK.cls
    refine ok_bs (o_fX7_leastTeam hK) (fun r2 σ3 q710 => ?_)
    have hK3 : K σ0 σ3 := q710.2
    exact ok_some ⟨trivial, hK3⟩
theorem o_fX7_brings {σ0 σ : St} {a1 : Int32} (hK : K σ0 σ) : ok (fX7_brings σ a1) (fun p => True ∧ K σ0 p.2) := by
  have hFU : FU = 100000 := rfl
  unfold fX7_brings
  refine ok_bz ok_hasGuest ?_ (fun i711 => ?_)
  · skip
    exact ok_some ⟨trivial, hK⟩
  · skip
    have i711l := i711.1
    have i711u := i711.2
    have i711c := hK.gus
    refine ok_bs (o_fX7_lemma hK) (fun r2 σ3 q712 => ?_)
    have hK3 : K σ0 σ3 := q712.2
    refine ok_lt ?_
    refine ok_eq (n := -1) rfl rfl (fun h713e h713 => ?_) (fun h713e h713 => ?_)
    · skip
      exact ok_some ⟨trivial, hK3⟩
    · skip
      refine ok_bs (o_fX7_worthWithLemma hK3 ⟨by omega, by omega⟩) (fun r5 σ6 q714 => ?_)
      have hK6 : K σ0 σ6 := q714.2
      refine ok_bs (o_fX7_menuWorth hK6 ⟨by omega, by omega⟩) (fun r7 σ8 q715 => ?_)
      have hK8 : K σ0 σ8 := q715.2
      exact ok_some ⟨trivial, hK8⟩
theorem ol_fX7_ask_l35 {σ0 σ : St} (hK : K σ0 σ) : ∀ (n : Nat) (x1 : Int32) (x2 : Int32) (x3 : Int32), 0 ≤ x3.toInt → x1 = -1 ∨ ir x1 12 → (12 + 1 - x3.toInt).toNat < n → ok (fX7_ask_l35 σ n x1 x2 x3) (fun r => r = -1 ∨ ir r 12) := by
  have hFU : FU = 100000 := rfl
  intro n
  induction n with
  | zero => intro x1 x2 x3 hx3 b1 hm; omega
  | succ n ih =>
    intro x1 x2 x3 hx3 b1 hm
    show ok (fX7_ask_B35 σ (fX7_ask_l35 σ n) x1 x2 x3) _
    unfold fX7_ask_B35
    have c716 := hK.cls
    refine ok_le rfl rfl (fun h717 => ?_) (fun h717 => ?_)
    · skip
      exact ok_some b1
    · skip
      refine ok_bp (o_fX6_leftAtWorst hK ⟨by omega, by omega⟩) (fun r1 q718 => ?_)
      refine ok_lt ?_
      refine ok_le rfl rfl (fun h719 => ?_) (fun h719 => ?_)
      · skip
        refine ok_lq (Q := fun v => v.toInt = x3.toInt + 1) (inc (by omega)) (fun v3 e720 => ?_)
        exact ih _ _ _ (by first | assumption | omega | exact ⟨by omega, by omega⟩ | exact Or.inl (eqm1 (by omega))) (by first | assumption | omega | exact ⟨by omega, by omega⟩ | exact Or.inl (eqm1 (by omega))) (by omega)
      · skip
        refine ok_lt ?_
        refine ok_lt ?_
        refine ok_lq (Q := fun v => v.toInt = x3.toInt + 1) (inc (by omega)) (fun v6 e721 => ?_)
        exact ih _ _ _ (by first | assumption | omega | exact ⟨by omega, by omega⟩ | exact Or.inl (eqm1 (by omega))) (by first | assumption | omega | exact ⟨by omega, by omega⟩ | exact Or.inl (eqm1 (by omega))) (by omega)
theorem ok_isToldZ {σ : St} : ok (fX6_isTold σ 3) (fun r => (r = 0 ∧ (σ.1 3 0).toInt ≤ 0) ∨ (r = 1 ∧ 0 < (σ.1 3 0).toInt)) := by
  unfold fX6_isTold
  exact ok_le (n := 0) rfl rfl (fun h => ok_gd (by decide) (ok_some (Or.inl ⟨rfl, h⟩))) (fun h => ok_gd (by decide) (ok_some (Or.inr ⟨rfl, h⟩)))
theorem o_fX7_askX {σ0 σ : St} (hK : K σ0 σ) : ok (fX7_ask σ) (fun r => 0 < (σ.1 3 0).toInt → r = -1 ∨ ir r 12) := by
  have hFU : FU = 100000 := rfl
  unfold fX7_ask
  have c1 := hK.cls
  refine ok_bp ok_isToldZ (fun r7 h7 => ?_)
  rcases h7 with ⟨rfl, h⟩ | ⟨rfl, h⟩
  · exact ok_if (fun _ => ok_some (fun q => absurd q (by omega))) (fun q => absurd rfl q)
  · refine ok_if (fun q => absurd q i10) (fun _ => ok_lt (ok_bp (o_fX6_worldsOf hK) (fun r9 _ => ok_bp ok_bc (fun r10 _ => ok_lt (ok_lt ?_)))))
    exact ok_mono (ol_fX7_ask_l35 hK FU _ _ _ (by decide) (Or.inl rfl) (by decide)) (fun a q _ => q)
theorem o_fX7_ask {σ0 σ : St} (hK : K σ0 σ) : ok (fX7_ask σ) (fun _ => True) := ok_mono (o_fX7_askX hK) (fun _ _ => trivial)
theorem o_fX7_leaves {σ0 σ : St} (hK : K σ0 σ) : ok (fX7_leaves σ) (fun _ => True) := by
  unfold fX7_leaves
  refine ok_bz ok_isTold (ok_some trivial) (fun h => ok_bp (o_fX7_askX hK) (fun r2 h2 => ok_lt ?_))
  refine ok_if (fun _ => ok_bp (o_fX6_worldsOf hK) (fun r5 _ => ok_bp ok_bc (fun r6 _ => ok_some trivial))) (fun q => ?_)
  exact ok_bp (o_fX6_leftAtWorst hK ((h2 h).resolve_left q)) (fun r4 _ => ok_some trivial)
