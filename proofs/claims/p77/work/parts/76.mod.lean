theorem o_fX8_allClaims {σ0 σ : St} (hK : K σ0 σ) : ok (fX8_allClaims σ) (fun r => ir r 4096) := by
  have hFU : FU = 100000 := rfl
  unfold fX8_allClaims
  have c100001 := hK.cl8
  refine ok_gd (by decide) ?_
  exact ok_some (ir_shm (by omega) (by omega))
theorem o_fX8_allSteps {σ0 σ : St} (hK : K σ0 σ) : ok (fX8_allSteps σ) (fun r => ir r 4096) := by
  have hFU : FU = 100000 := rfl
  unfold fX8_allSteps
  have c100002 := hK.st8
  refine ok_gd (by decide) ?_
  exact ok_some (ir_shm (by omega) (by omega))
theorem ol_fX8_count_l109 {σ0 σ : St} (hK : K σ0 σ) : ∀ (n : Nat) (x2 : Int32) (x3 : Int32), 0 ≤ x3.toInt → (4 + 1 - x3.toInt).toNat < n → ok (fX8_count_l109 σ n x2 x3) (fun _ => True) := by
  have hFU : FU = 100000 := rfl
  intro n
  induction n with
  | zero => intro x2 x3 hx3 hm; omega
  | succ n ih =>
    intro x2 x3 hx3 hm
    show ok (fX8_count_B109 σ (fX8_count_l109 σ n) x2 x3) _
    unfold fX8_count_B109
    refine ok_le (m := 4) rfl rfl (fun h100003 => ?_) (fun h100003 => ?_)
    · skip
      exact ok_some trivial
    · skip
      refine ok_gd ⟨by omega, by omega⟩ ?_
      refine ok_eq (n := -1) rfl rfl (fun h100004e h100004 => ?_) (fun h100004e h100004 => ?_)
      · skip
        unfold fX8_count_b130
        refine ok_la (fun v1 => ?_)
        refine ok_lq (Q := fun v => v.toInt = x3.toInt + 1) (inc (by omega)) (fun v2 e100006 => ?_)
        exact ih _ _ (by first | assumption | omega | exact ⟨by omega, by omega⟩ | exact Or.inl (eqm1 (by omega))) (by omega)
      · skip
        unfold fX8_count_b130
        refine ok_la (fun v1 => ?_)
        refine ok_lq (Q := fun v => v.toInt = x3.toInt + 1) (inc (by omega)) (fun v2 e100008 => ?_)
        exact ih _ _ (by first | assumption | omega | exact ⟨by omega, by omega⟩ | exact Or.inl (eqm1 (by omega))) (by omega)
theorem o_fX8_count {σ0 σ : St} {a1 : Int32} (hK : K σ0 σ) : ok (fX8_count σ a1) (fun _ => True) := by
  have hFU : FU = 100000 := rfl
  unfold fX8_count
  have c100009 := hK.cl8
  have c100010 := hK.st8
  have c100011 := hK.gu8
  have c100012 := hK.at8
  refine ok_lq (Q := fun v => v.toInt = 0) rfl (fun v3 e100013 => ?_)
  refine ok_eq (n := 0) rfl rfl (fun h100014e h100014 => ?_) (fun h100014e h100014 => ?_)
  · skip
    refine ok_gd (by decide) ?_
    exact ok_some trivial
  · skip
    refine ok_eq (n := 1) rfl rfl (fun h100015e h100015 => ?_) (fun h100015e h100015 => ?_)
    · skip
      refine ok_gd (by decide) ?_
      exact ok_some trivial
    · skip
      refine ok_eq (n := 2) rfl rfl (fun h100016e h100016 => ?_) (fun h100016e h100016 => ?_)
      · skip
        refine ok_gd (by decide) ?_
        exact ok_some trivial
      · skip
        refine ok_eq (n := 3) rfl rfl (fun h100017e h100017 => ?_) (fun h100017e h100017 => ?_)
        · skip
          refine ok_gd (by decide) ?_
          exact ok_some trivial
        · skip
          refine ok_eq (n := 4) rfl rfl (fun h100018e h100018 => ?_) (fun h100018e h100018 => ?_)
          · skip
            refine ok_gd (by decide) ?_
            exact ok_some trivial
          · skip
            refine ok_eq (n := 5) rfl rfl (fun h100019e h100019 => ?_) (fun h100019e h100019 => ?_)
            · skip
              refine ok_gd (by decide) ?_
              exact ok_some trivial
            · skip
              refine ok_eq (n := 6) rfl rfl (fun h100020e h100020 => ?_) (fun h100020e h100020 => ?_)
              · skip
                refine ok_gd (by decide) ?_
                exact ok_some trivial
              · skip
                refine ok_eq (n := 7) rfl rfl (fun h100021e h100021 => ?_) (fun h100021e h100021 => ?_)
                · skip
                  exact ok_some trivial
                · skip
                  refine ok_eq (n := 8) rfl rfl (fun h100022e h100022 => ?_) (fun h100022e h100022 => ?_)
                  · skip
                    refine ok_lq (Q := fun v => v.toInt = 0) rfl (fun v4 e100023 => ?_)
                    exact ol_fX8_count_l109 hK FU _ _ (by first | assumption | omega | exact ⟨by omega, by omega⟩ | exact Or.inl (eqm1 (by omega))) (by omega)
                  · skip
                    exact ok_some trivial
theorem ol_fX8_holesBy_l8 {σ0 σ : St} (hK : K σ0 σ) : ∀ (n : Nat) (x3 : Int64) (x5 : Int32) (x6 : Int32), 0 ≤ x6.toInt → (12 + 1 - x6.toInt).toNat < n → ok (fX8_holesBy_l8 σ n x3 x5 x6) (fun _ => True) := by
  have hFU : FU = 100000 := rfl
  intro n
  induction n with
  | zero => intro x3 x5 x6 hx6 hm; omega
  | succ n ih =>
    intro x3 x5 x6 hx6 hm
    show ok (fX8_holesBy_B8 σ (fX8_holesBy_l8 σ n) x3 x5 x6) _
    unfold fX8_holesBy_B8
    have c100024 := hK.st8
    refine ok_gd (by decide) ?_
    refine ok_le rfl rfl (fun h100025 => ?_) (fun h100025 => ?_)
    · skip
      exact ok_some trivial
    · skip
      refine ok_gd (by decide) ?_
      refine ok_la (fun v3 => ?_)
      refine ok_gd (by decide) ?_
      refine ok_gd (by decide) ?_
      refine ok_gd (by decide) ?_
      refine ok_if (fun h100027 => ?_) (fun h100027 => ?_)
      · skip
        unfold fX8_holesBy_b63
        refine ok_la (fun v1 => ?_)
        refine ok_lq (Q := fun v => v.toInt = x6.toInt + 1) (inc (by omega)) (fun v2 e100029 => ?_)
        exact ih _ _ _ (by first | assumption | omega | exact ⟨by omega, by omega⟩ | exact Or.inl (eqm1 (by omega))) (by omega)
      · skip
        unfold fX8_holesBy_b63
        refine ok_la (fun v1 => ?_)
        refine ok_lq (Q := fun v => v.toInt = x6.toInt + 1) (inc (by omega)) (fun v2 e100031 => ?_)
        exact ih _ _ _ (by first | assumption | omega | exact ⟨by omega, by omega⟩ | exact Or.inl (eqm1 (by omega))) (by omega)
theorem o_fX8_holesBy {σ0 σ : St} {a1 : Int64} (hK : K σ0 σ) : ok (fX8_holesBy σ a1) (fun _ => True) := by
  have hFU : FU = 100000 := rfl
  unfold fX8_holesBy
  refine ok_lt ?_
  refine ok_lq (Q := fun v => v.toInt = 0) rfl (fun v5 e100032 => ?_)
  refine ok_lq (Q := fun v => v.toInt = 0) rfl (fun v6 e100033 => ?_)
  exact ol_fX8_holesBy_l8 hK FU _ _ _ (by first | assumption | omega | exact ⟨by omega, by omega⟩ | exact Or.inl (eqm1 (by omega))) (by omega)
theorem o_fX8_mine {a0 : Int32} : ok (fX8_mine a0) (fun _ => True) := by
  have hFU : FU = 100000 := rfl
  unfold fX8_mine
  refine ok_le (m := 0) rfl rfl (fun h100034 => ?_) (fun h100034 => ?_)
  · skip
    exact ok_some trivial
  · skip
    exact ok_some trivial
theorem o_fX8_areClaims {σ0 σ : St} {a1 : Int32} (hK : K σ0 σ) : ok (fX8_areClaims σ a1) (tf True) := by
  have hFU : FU = 100000 := rfl
  unfold fX8_areClaims
  refine ok_bz ok_isT8 ?_ (fun i100035 => ?_)
  · skip
    refine ok_gd (by decide) ?_
    exact ok_some tf0
  · skip
    refine ok_bp (o_fX8_allClaims hK) (fun r2 q100036 => ?_)
    have q100036l := q100036.1
    have q100036u := q100036.2
    refine ok_bz (ok_in (v := 0) (Int32.toInt_toInt64 _) rfl (Int32.toInt_toInt64 _)) ?_ (fun i100037 => ?_)
    · skip
      refine ok_gd (by decide) ?_
      exact ok_some tf0
    · skip
      have i100037l := i100037.1
      have i100037u := i100037.2
      refine ok_gd (by decide) ?_
      exact ok_some (tf1 trivial)
theorem o_fX8_areGuests {σ0 σ : St} {a1 : Int32} (hK : K σ0 σ) : ok (fX8_areGuests σ a1) (tf True) := by
  have hFU : FU = 100000 := rfl
  unfold fX8_areGuests
  refine ok_bz ok_isT8 ?_ (fun i100038 => ?_)
  · skip
    refine ok_gd (by decide) ?_
    exact ok_some tf0
  · skip
    refine ok_bp (o8_allGuests hK) (fun r2 q100039 => ?_)
    have q100039l := q100039.1
    have q100039u := q100039.2
    refine ok_bz (ok_in (v := 0) (Int32.toInt_toInt64 _) rfl (Int32.toInt_toInt64 _)) ?_ (fun i100040 => ?_)
    · skip
      refine ok_gd (by decide) ?_
      exact ok_some tf0
    · skip
      have i100040l := i100040.1
      have i100040u := i100040.2
      refine ok_gd (by decide) ?_
      exact ok_some (tf1 trivial)
theorem ol_fX8_cooks_l25 {σ0 : St} : ∀ (n : Nat) (σ : St) (x1 : Int32) (x2 : Int32) (x3 : Int32) (x4 : Int32), K σ0 σ → 0 ≤ x4.toInt → ir x1 5 → ir x2 12 → (12 + 1 - x4.toInt).toNat < n → ok (fX8_cooks_l25 n σ x1 x2 x3 x4) (fun p => tf True p.1 ∧ K σ0 p.2) := by
  have hFU : FU = 100000 := rfl
  intro n
  induction n with
  | zero => intro σ x1 x2 x3 x4 hK hx4 ax1 ax2 hm; omega
  | succ n ih =>
    intro σ x1 x2 x3 x4 hK hx4 ax1 ax2 hm
    have ax1l := ax1.1
    have ax1u := ax1.2
    have ax2l := ax2.1
    have ax2u := ax2.2
    show ok (fX8_cooks_B25  (fX8_cooks_l25  n) σ x1 x2 x3 x4) _
    unfold fX8_cooks_B25
    have c100041 := hK.cl8
    refine ok_gd (by decide) ?_
    refine ok_le rfl rfl (fun h100042 => ?_) (fun h100042 => ?_)
    · skip
      refine ok_bp (o8_ofGuest ax1 (by decide) (by decide)) (fun r3 q100043 => ?_)
      refine ok_la (fun v4 => ?_)
      refine ok_gd (by decide) ?_
      refine ok_le rfl rfl (fun h100045 => ?_) (fun h100045 => ?_)
      · skip
        refine ok_gd ax1 ?_
        refine ok_lq (Q := fun τ => K σ0 τ) (hK.set rfl) (fun σ5 hK5 => ?_)
        refine ok_gd ax1 ?_
        refine ok_bp (o8_ofGuest ax1 (by decide) (by decide)) (fun r6 q100046 => ?_)
        refine ok_gd ax1 ?_
        refine ok_lq (Q := fun τ => K σ0 τ) (hK5.set rfl) (fun σ7 hK7 => ?_)
        refine ok_lq (Q := fun τ => K σ0 τ) (hK7.set rfl) (fun σ8 hK8 => ?_)
        refine ok_bp (o8_ofGives hK8 ax2) (fun r9 q100047 => ?_)
        have q100047l := q100047.1
        have q100047u := q100047.2
        refine ok_lt ?_
        refine ok_gd q100047 ?_
        refine ok_eq (n := -1) rfl rfl (fun h100048e h100048 => ?_) (fun h100048e h100048 => ?_)
        · skip
          unfold fX8_cooks_b179
          refine ok_gd q100047 ?_
          refine ok_lq (Q := fun τ => K σ0 τ) (hK8.set rfl) (fun σ1 hK1 => ?_)
          refine ok_gd q100047 ?_
          refine ok_gd q100047 ?_
          refine ok_lq (Q := fun τ => K σ0 τ) (hK1.set rfl) (fun σ2 hK2 => ?_)
          refine ok_gd (by decide) ?_
          exact ok_some ⟨(tf1 trivial), hK2⟩
        · skip
          refine ok_gd q100047 ?_
          unfold fX8_cooks_b179
          refine ok_gd q100047 ?_
          refine ok_lq (Q := fun τ => K σ0 τ) (hK8.set rfl) (fun σ1 hK1 => ?_)
          refine ok_gd q100047 ?_
          refine ok_gd q100047 ?_
          refine ok_lq (Q := fun τ => K σ0 τ) (hK1.set rfl) (fun σ2 hK2 => ?_)
          refine ok_gd (by decide) ?_
          exact ok_some ⟨(tf1 trivial), hK2⟩
      · skip
        refine ok_gd (by decide) ?_
        exact ok_some ⟨tf0, hK⟩
    · skip
      refine ok_bp (o8_ofStep ax2 (by decide) (by decide)) (fun r11 q100049 => ?_)
      refine ok_bp ok_bit8 (fun r12 q100050 => ?_)
      refine ok_eq (n := 0) rfl rfl (fun h100051e h100051 => ?_) (fun h100051e h100051 => ?_)
      · skip
        refine ok_lq (Q := fun v => v.toInt = x4.toInt + 1) (inc (by omega)) (fun v15 e100052 => ?_)
        exact ih _ _ _ _ _ hK (by first | assumption | omega | exact ⟨by omega, by omega⟩ | exact Or.inl (eqm1 (by omega))) ax1 ax2 (by omega)
      · skip
        refine ok_gd ⟨by omega, by omega⟩ ?_
        refine ok_eq (n := -1) rfl rfl (fun h100053e h100053 => ?_) (fun h100053e h100053 => ?_)
        · skip
          refine ok_gd (by decide) ?_
          exact ok_some ⟨tf0, hK⟩
        · skip
          refine ok_gd ⟨by omega, by omega⟩ ?_
          refine ok_la (fun v13 => ?_)
          refine ok_lq (Q := fun v => v.toInt = x4.toInt + 1) (inc (by omega)) (fun v14 e100055 => ?_)
          exact ih _ _ _ _ _ hK (by first | assumption | omega | exact ⟨by omega, by omega⟩ | exact Or.inl (eqm1 (by omega))) ax1 ax2 (by omega)
theorem o_fX8_cooks {σ0 σ : St} {a1 : Int32} {a2 : Int32} (hK : K σ0 σ) (pa1 : ir a1 5) (pa2 : ir a2 12) : ok (fX8_cooks σ a1 a2) (fun p => tf True p.1 ∧ K σ0 p.2) := by
  have hFU : FU = 100000 := rfl
  have pa1l := pa1.1
  have pa1u := pa1.2
  have pa2l := pa2.1
  have pa2u := pa2.2
  unfold fX8_cooks
  refine ok_bp (o8_ofGuest pa1 (by decide) (by decide)) (fun r16 q100056 => ?_)
  refine ok_bp ok_bit8 (fun r17 q100057 => ?_)
  refine ok_eq (n := 0) rfl rfl (fun h100058e h100058 => ?_) (fun h100058e h100058 => ?_)
  · skip
    refine ok_gd (by decide) ?_
    exact ok_some ⟨tf0, hK⟩
  · skip
    refine ok_gd pa1 ?_
    refine ok_la (fun v18 => ?_)
    refine ok_lq (Q := fun v => v.toInt = 0) rfl (fun v19 e100060 => ?_)
    exact ol_fX8_cooks_l25  FU _ _ _ _ _ hK (by first | assumption | omega | exact ⟨by omega, by omega⟩ | exact Or.inl (eqm1 (by omega))) pa1 pa2 (by omega)
def K27 (σ0 : St) (v : Int32) (σ : St) : Prop := K σ0 σ ∧ σ.1 62 27 = v
theorem K27.set {σ τ : St} {u : Int32} {k j : Nat} {v : Int32} (h : K27 σ u τ) (hk : cor k j = false) (hn : (k == 62 && j == 27) = false := by rfl) : K27 σ u (setI τ k j v) := by
  refine ⟨h.1.set hk, ?_⟩
  rw [setI_eq, h.2]
  rintro ⟨rfl, rfl⟩
  cases hn
theorem ol_fX8_cooks27_l25 {σ0 : St} {v0 : Int32} : ∀ (n : Nat) (σ : St) (x1 : Int32) (x2 : Int32) (x3 : Int32) (x4 : Int32), K27 σ0 v0 σ → 0 ≤ x4.toInt → ir x1 5 → ir x2 12 → (12 + 1 - x4.toInt).toNat < n → ok (fX8_cooks_l25 n σ x1 x2 x3 x4) (fun p => tf True p.1 ∧ K27 σ0 v0 p.2) := by
  have hFU : FU = 100000 := rfl
  intro n
  induction n with
  | zero => intro σ x1 x2 x3 x4 hK hx4 ax1 ax2 hm; omega
  | succ n ih =>
    intro σ x1 x2 x3 x4 hK hx4 ax1 ax2 hm
    have ax1l := ax1.1
    have ax1u := ax1.2
    have ax2l := ax2.1
    have ax2u := ax2.2
    show ok (fX8_cooks_B25  (fX8_cooks_l25  n) σ x1 x2 x3 x4) _
    unfold fX8_cooks_B25
    have c100041 := hK.1.cl8
    refine ok_gd (by decide) ?_
    refine ok_le rfl rfl (fun h100042 => ?_) (fun h100042 => ?_)
    · skip
      refine ok_bp (o8_ofGuest ax1 (by decide) (by decide)) (fun r3 q100043 => ?_)
      refine ok_la (fun v4 => ?_)
      refine ok_gd (by decide) ?_
      refine ok_le rfl rfl (fun h100045 => ?_) (fun h100045 => ?_)
      · skip
        refine ok_gd ax1 ?_
        refine ok_lq (Q := fun τ => K27 σ0 v0 τ) (hK.set rfl) (fun σ5 hK5 => ?_)
        refine ok_gd ax1 ?_
        refine ok_bp (o8_ofGuest ax1 (by decide) (by decide)) (fun r6 q100046 => ?_)
        refine ok_gd ax1 ?_
        refine ok_lq (Q := fun τ => K27 σ0 v0 τ) (hK5.set rfl) (fun σ7 hK7 => ?_)
        refine ok_lq (Q := fun τ => K27 σ0 v0 τ) (hK7.set rfl) (fun σ8 hK8 => ?_)
        refine ok_bp (o8_ofGives hK8.1 ax2) (fun r9 q100047 => ?_)
        have q100047l := q100047.1
        have q100047u := q100047.2
        refine ok_lt ?_
        refine ok_gd q100047 ?_
        refine ok_eq (n := -1) rfl rfl (fun h100048e h100048 => ?_) (fun h100048e h100048 => ?_)
        · skip
          unfold fX8_cooks_b179
          refine ok_gd q100047 ?_
          refine ok_lq (Q := fun τ => K27 σ0 v0 τ) (hK8.set rfl) (fun σ1 hK1 => ?_)
          refine ok_gd q100047 ?_
          refine ok_gd q100047 ?_
          refine ok_lq (Q := fun τ => K27 σ0 v0 τ) (hK1.set rfl) (fun σ2 hK2 => ?_)
          refine ok_gd (by decide) ?_
          exact ok_some ⟨(tf1 trivial), hK2⟩
        · skip
          refine ok_gd q100047 ?_
          unfold fX8_cooks_b179
          refine ok_gd q100047 ?_
          refine ok_lq (Q := fun τ => K27 σ0 v0 τ) (hK8.set rfl) (fun σ1 hK1 => ?_)
          refine ok_gd q100047 ?_
          refine ok_gd q100047 ?_
          refine ok_lq (Q := fun τ => K27 σ0 v0 τ) (hK1.set rfl) (fun σ2 hK2 => ?_)
          refine ok_gd (by decide) ?_
          exact ok_some ⟨(tf1 trivial), hK2⟩
      · skip
        refine ok_gd (by decide) ?_
        exact ok_some ⟨tf0, hK⟩
    · skip
      refine ok_bp (o8_ofStep ax2 (by decide) (by decide)) (fun r11 q100049 => ?_)
      refine ok_bp ok_bit8 (fun r12 q100050 => ?_)
      refine ok_eq (n := 0) rfl rfl (fun h100051e h100051 => ?_) (fun h100051e h100051 => ?_)
      · skip
        refine ok_lq (Q := fun v => v.toInt = x4.toInt + 1) (inc (by omega)) (fun v15 e100052 => ?_)
        exact ih _ _ _ _ _ hK (by first | assumption | omega | exact ⟨by omega, by omega⟩ | exact Or.inl (eqm1 (by omega))) ax1 ax2 (by omega)
      · skip
        refine ok_gd ⟨by omega, by omega⟩ ?_
        refine ok_eq (n := -1) rfl rfl (fun h100053e h100053 => ?_) (fun h100053e h100053 => ?_)
        · skip
          refine ok_gd (by decide) ?_
          exact ok_some ⟨tf0, hK⟩
        · skip
          refine ok_gd ⟨by omega, by omega⟩ ?_
          refine ok_la (fun v13 => ?_)
          refine ok_lq (Q := fun v => v.toInt = x4.toInt + 1) (inc (by omega)) (fun v14 e100055 => ?_)
          exact ih _ _ _ _ _ hK (by first | assumption | omega | exact ⟨by omega, by omega⟩ | exact Or.inl (eqm1 (by omega))) ax1 ax2 (by omega)
theorem o_fX8_cooks27 {σ0 σ : St} {v0 : Int32} {a1 : Int32} {a2 : Int32} (hK : K27 σ0 v0 σ) (pa1 : ir a1 5) (pa2 : ir a2 12) : ok (fX8_cooks σ a1 a2) (fun p => tf True p.1 ∧ K27 σ0 v0 p.2) := by
  have hFU : FU = 100000 := rfl
  have pa1l := pa1.1
  have pa1u := pa1.2
  have pa2l := pa2.1
  have pa2u := pa2.2
  unfold fX8_cooks
  refine ok_bp (o8_ofGuest pa1 (by decide) (by decide)) (fun r16 q100056 => ?_)
  refine ok_bp ok_bit8 (fun r17 q100057 => ?_)
  refine ok_eq (n := 0) rfl rfl (fun h100058e h100058 => ?_) (fun h100058e h100058 => ?_)
  · skip
    refine ok_gd (by decide) ?_
    exact ok_some ⟨tf0, hK⟩
  · skip
    refine ok_gd pa1 ?_
    refine ok_la (fun v18 => ?_)
    refine ok_lq (Q := fun v => v.toInt = 0) rfl (fun v19 e100060 => ?_)
    exact ol_fX8_cooks27_l25  FU _ _ _ _ _ hK (by first | assumption | omega | exact ⟨by omega, by omega⟩ | exact Or.inl (eqm1 (by omega))) pa1 pa2 (by omega)
theorem ok_cooks27 {σ0 σ : St} {a1 a2 : Int32} (hK : K σ0 σ) (h1 : ir a1 5) (h2 : ir a2 12) : ok (fX8_cooks σ a1 a2) (fun p => K σ0 p.2 ∧ p.2.1 62 27 = σ.1 62 27) := ok_mono (o_fX8_cooks27 (v0 := σ.1 62 27) ⟨hK, rfl⟩ h1 h2) (fun _ h => h.2)
theorem ol_fX8_eatenBy_l4 {σ0 σ : St} (hK : K σ0 σ) : ∀ (n : Nat) (x1 : Int32) (x2 : Int32) (x3 : Int32), 0 ≤ x3.toInt → ir x1 4 → (60 + 1 - x3.toInt).toNat < n → ok (fX8_eatenBy_l4 σ n x1 x2 x3) (fun _ => True) := by
  have hFU : FU = 100000 := rfl
  intro n
  induction n with
  | zero => intro x1 x2 x3 hx3 ax1 hm; omega
  | succ n ih =>
    intro x1 x2 x3 hx3 ax1 hm
    have ax1l := ax1.1
    have ax1u := ax1.2
    have cm := hK.mny ax1
    show ok (fX8_eatenBy_B4 σ (fX8_eatenBy_l4 σ n) x1 x2 x3) _
    unfold fX8_eatenBy_B4
    refine ok_gd ax1 ?_
    refine ok_le rfl rfl (fun h100061 => ?_) (fun h100061 => ?_)
    · skip
      exact ok_some trivial
    · skip
      refine ok_bp (o8_numberAt ax1 ⟨by omega, by omega⟩) (fun r1 q100062 => ?_)
      refine ok_la (fun v2 => ?_)
      refine ok_lq (Q := fun v => v.toInt = x3.toInt + 1) (inc (by omega)) (fun v3 e100064 => ?_)
      exact ih _ _ _ (by first | assumption | omega | exact ⟨by omega, by omega⟩ | exact Or.inl (eqm1 (by omega))) ax1 (by omega)
theorem o_fX8_eatenBy {σ0 σ : St} {a1 : Int32} (hK : K σ0 σ) (pa1 : ir a1 4) : ok (fX8_eatenBy σ a1) (fun _ => True) := by
  have hFU : FU = 100000 := rfl
  have pa1l := pa1.1
  have pa1u := pa1.2
  unfold fX8_eatenBy
  refine ok_lq (Q := fun v => v.toInt = 0) rfl (fun v4 e100065 => ?_)
  refine ok_lq (Q := fun v => v.toInt = 0) rfl (fun v5 e100066 => ?_)
  exact ol_fX8_eatenBy_l4 hK FU _ _ _ (by first | assumption | omega | exact ⟨by omega, by omega⟩ | exact Or.inl (eqm1 (by omega))) pa1 (by omega)
theorem ol_fX8_fillDoubt_l85 {σ0 : St} {kr62 : St → Int32 → Int32 → Option (St)} {m62 : Nat} (hkr62 : ∀ (σ : St) (x2 : Int32) (x4 : Int32), K σ0 σ → -1 ≤ x4.toInt → x4.toInt ≤ 3 → (x4.toInt + 1).toNat < m62 → ok (kr62 σ x2 x4) (fun τ => K σ0 τ)) : ∀ (n : Nat) (σ : St) (x2 : Int32) (x4 : Int32) (x5 : Int32) (x6 : Int32), K σ0 σ → 0 ≤ x6.toInt → 0 ≤ x4.toInt → x4.toInt ≤ 3 → (x4.toInt + 1).toNat < m62 + 1 → (16 + 1 - x6.toInt).toNat < n → ok (fX8_fillDoubt_l85 kr62 n σ x2 x4 x5 x6) (fun τ => K σ0 τ) := by
  have hFU : FU = 100000 := rfl
  intro n
  induction n with
  | zero => intro σ x2 x4 x5 x6 hK hx6 g0 g1 hm62 hm; omega
  | succ n ih =>
    intro σ x2 x4 x5 x6 hK hx6 g0 g1 hm62 hm
    have cE := d2 (x := x4) (by omega) (by omega)
    have cE0 := cE.1
    have cE1 := cE.2.1
    have cE2 := cE.2.2
    show ok (fX8_fillDoubt_B85 kr62 (fX8_fillDoubt_l85 kr62 n) σ x2 x4 x5 x6) _
    unfold fX8_fillDoubt_B85
    refine ok_le rfl rfl (fun h100067 => ?_) (fun h100067 => ?_)
    · skip
      refine ok_lq (Q := fun v => v.toInt = x4.toInt + (-1)) (dec (by omega)) (fun v5 e100068 => ?_)
      exact hkr62 _ _ _ hK (by first | assumption | omega | exact ⟨by omega, by omega⟩ | exact Or.inl (eqm1 (by omega))) (by first | assumption | omega | exact ⟨by omega, by omega⟩ | exact Or.inl (eqm1 (by omega))) (by omega)
    · skip
      refine ok_gd (irs ⟨by omega, by omega⟩ ⟨by omega, by omega⟩) ?_
      refine ok_la (fun v6 => ?_)
      refine ok_gd (irs ⟨by omega, by omega⟩ (or16 ⟨by omega, by omega⟩ ⟨by omega, by omega⟩)) ?_
      refine ok_la (fun v7 => ?_)
      refine ok_eq (n := 0) rfl rfl (fun h100071e h100071 => ?_) (fun h100071e h100071 => ?_)
      · skip
        refine ok_eq (n := 0) rfl rfl (fun h100072e h100072 => ?_) (fun h100072e h100072 => ?_)
        · skip
          unfold fX8_fillDoubt_b175
          refine ok_gd (irs ⟨by omega, by omega⟩ ⟨by omega, by omega⟩) ?_
          refine ok_gd (by decide) ?_
          refine ok_lq (Q := fun τ => K σ0 τ) (hK.set rfl) (fun σ1 hK1 => ?_)
          refine ok_lq (Q := fun v => v.toInt = x6.toInt + 1) (inc (by omega)) (fun v2 e100073 => ?_)
          exact ih _ _ _ _ _ hK1 (by first | assumption | omega | exact ⟨by omega, by omega⟩ | exact Or.inl (eqm1 (by omega))) (by first | assumption | omega | exact ⟨by omega, by omega⟩ | exact Or.inl (eqm1 (by omega))) (by first | assumption | omega | exact ⟨by omega, by omega⟩ | exact Or.inl (eqm1 (by omega))) (by first | assumption | omega | exact ⟨by omega, by omega⟩ | exact Or.inl (eqm1 (by omega))) (by omega)
        · skip
          refine ok_eq (n := 0) rfl rfl (fun h100074e h100074 => ?_) (fun h100074e h100074 => ?_)
          · skip
            unfold fX8_fillDoubt_b175
            refine ok_gd (irs ⟨by omega, by omega⟩ ⟨by omega, by omega⟩) ?_
            refine ok_gd (by decide) ?_
            refine ok_lq (Q := fun τ => K σ0 τ) (hK.set rfl) (fun σ1 hK1 => ?_)
            refine ok_lq (Q := fun v => v.toInt = x6.toInt + 1) (inc (by omega)) (fun v2 e100075 => ?_)
            exact ih _ _ _ _ _ hK1 (by first | assumption | omega | exact ⟨by omega, by omega⟩ | exact Or.inl (eqm1 (by omega))) (by first | assumption | omega | exact ⟨by omega, by omega⟩ | exact Or.inl (eqm1 (by omega))) (by first | assumption | omega | exact ⟨by omega, by omega⟩ | exact Or.inl (eqm1 (by omega))) (by first | assumption | omega | exact ⟨by omega, by omega⟩ | exact Or.inl (eqm1 (by omega))) (by omega)
          · skip
            refine ok_gd (irs ⟨by omega, by omega⟩ ⟨by omega, by omega⟩) ?_
            refine ok_gd (by decide) ?_
            refine ok_lq (Q := fun τ => K σ0 τ) (hK.set rfl) (fun σ8 hK8 => ?_)
            refine ok_lq (Q := fun v => v.toInt = x6.toInt + 1) (inc (by omega)) (fun v9 e100076 => ?_)
            exact ih _ _ _ _ _ hK8 (by first | assumption | omega | exact ⟨by omega, by omega⟩ | exact Or.inl (eqm1 (by omega))) (by first | assumption | omega | exact ⟨by omega, by omega⟩ | exact Or.inl (eqm1 (by omega))) (by first | assumption | omega | exact ⟨by omega, by omega⟩ | exact Or.inl (eqm1 (by omega))) (by first | assumption | omega | exact ⟨by omega, by omega⟩ | exact Or.inl (eqm1 (by omega))) (by omega)
      · skip
        refine ok_eq (n := 0) rfl rfl (fun h100077e h100077 => ?_) (fun h100077e h100077 => ?_)
        · skip
          refine ok_eq (n := 0) rfl rfl (fun h100078e h100078 => ?_) (fun h100078e h100078 => ?_)
          · skip
            refine ok_gd (irs ⟨by omega, by omega⟩ ⟨by omega, by omega⟩) ?_
            refine ok_gd (by decide) ?_
            refine ok_lq (Q := fun τ => K σ0 τ) (hK.set rfl) (fun σ10 hK10 => ?_)
            refine ok_lq (Q := fun v => v.toInt = x6.toInt + 1) (inc (by omega)) (fun v11 e100079 => ?_)
            exact ih _ _ _ _ _ hK10 (by first | assumption | omega | exact ⟨by omega, by omega⟩ | exact Or.inl (eqm1 (by omega))) (by first | assumption | omega | exact ⟨by omega, by omega⟩ | exact Or.inl (eqm1 (by omega))) (by first | assumption | omega | exact ⟨by omega, by omega⟩ | exact Or.inl (eqm1 (by omega))) (by first | assumption | omega | exact ⟨by omega, by omega⟩ | exact Or.inl (eqm1 (by omega))) (by omega)
          · skip
            unfold fX8_fillDoubt_b153
            refine ok_gd (irs ⟨by omega, by omega⟩ ⟨by omega, by omega⟩) ?_
            refine ok_gd (by decide) ?_
            refine ok_lq (Q := fun τ => K σ0 τ) (hK.set rfl) (fun σ3 hK3 => ?_)
            refine ok_lq (Q := fun v => v.toInt = x6.toInt + 1) (inc (by omega)) (fun v4 e100080 => ?_)
            exact ih _ _ _ _ _ hK3 (by first | assumption | omega | exact ⟨by omega, by omega⟩ | exact Or.inl (eqm1 (by omega))) (by first | assumption | omega | exact ⟨by omega, by omega⟩ | exact Or.inl (eqm1 (by omega))) (by first | assumption | omega | exact ⟨by omega, by omega⟩ | exact Or.inl (eqm1 (by omega))) (by first | assumption | omega | exact ⟨by omega, by omega⟩ | exact Or.inl (eqm1 (by omega))) (by omega)
        · skip
          unfold fX8_fillDoubt_b153
          refine ok_gd (irs ⟨by omega, by omega⟩ ⟨by omega, by omega⟩) ?_
          refine ok_gd (by decide) ?_
          refine ok_lq (Q := fun τ => K σ0 τ) (hK.set rfl) (fun σ3 hK3 => ?_)
          refine ok_lq (Q := fun v => v.toInt = x6.toInt + 1) (inc (by omega)) (fun v4 e100081 => ?_)
          exact ih _ _ _ _ _ hK3 (by first | assumption | omega | exact ⟨by omega, by omega⟩ | exact Or.inl (eqm1 (by omega))) (by first | assumption | omega | exact ⟨by omega, by omega⟩ | exact Or.inl (eqm1 (by omega))) (by first | assumption | omega | exact ⟨by omega, by omega⟩ | exact Or.inl (eqm1 (by omega))) (by first | assumption | omega | exact ⟨by omega, by omega⟩ | exact Or.inl (eqm1 (by omega))) (by omega)
theorem ol_fX8_fillDoubt_l62 {σ0 : St} : ∀ (n : Nat) (σ : St) (x2 : Int32) (x4 : Int32), K σ0 σ → -1 ≤ x4.toInt → x4.toInt ≤ 3 → (x4.toInt + 1).toNat < n → ok (fX8_fillDoubt_l62 n σ x2 x4) (fun τ => K σ0 τ) := by
  have hFU : FU = 100000 := rfl
  intro n
  induction n with
  | zero => intro σ x2 x4 hK g0 g1 hm; omega
  | succ n ih =>
    intro σ x2 x4 hK g0 g1 hm
    show ok (fX8_fillDoubt_B62  (fX8_fillDoubt_l62  n) σ x2 x4) _
    unfold fX8_fillDoubt_B62
    refine ok_lw (n := 0) rfl rfl (fun h100082 => ?_) (fun h100082 => ?_)
    · skip
      exact ok_some hK
    · skip
      refine ok_gd (by decide) ?_
      refine ok_eq rfl rfl (fun h100083e h100083 => ?_) (fun h100083e h100083 => ?_)
      · skip
        unfold fX8_fillDoubt_b80
        refine ok_lq (Q := fun v => v.toInt = 1) rfl (fun v12 e100084 => ?_)
        refine ok_lq (Q := fun v => v.toInt = 0) rfl (fun v13 e100085 => ?_)
        exact ol_fX8_fillDoubt_l85 ih FU _ _ _ _ _ hK (by first | assumption | omega | exact ⟨by omega, by omega⟩ | exact Or.inl (eqm1 (by omega))) (by first | assumption | omega | exact ⟨by omega, by omega⟩ | exact Or.inl (eqm1 (by omega))) (by first | assumption | omega | exact ⟨by omega, by omega⟩ | exact Or.inl (eqm1 (by omega))) (by first | assumption | omega | exact ⟨by omega, by omega⟩ | exact Or.inl (eqm1 (by omega))) (by omega)
      · skip
        unfold fX8_fillDoubt_b80
        refine ok_lq (Q := fun v => v.toInt = 0) rfl (fun v12 e100086 => ?_)
        refine ok_lq (Q := fun v => v.toInt = 0) rfl (fun v13 e100087 => ?_)
        exact ol_fX8_fillDoubt_l85 ih FU _ _ _ _ _ hK (by first | assumption | omega | exact ⟨by omega, by omega⟩ | exact Or.inl (eqm1 (by omega))) (by first | assumption | omega | exact ⟨by omega, by omega⟩ | exact Or.inl (eqm1 (by omega))) (by first | assumption | omega | exact ⟨by omega, by omega⟩ | exact Or.inl (eqm1 (by omega))) (by first | assumption | omega | exact ⟨by omega, by omega⟩ | exact Or.inl (eqm1 (by omega))) (by omega)
theorem ol_fX8_fillDoubt_l10 {σ0 : St} : ∀ (n : Nat) (σ : St) (x1 : Int32) (x2 : Int32) (x3 : Int32) (x4 : Int32), K σ0 σ → 0 ≤ x4.toInt → ir x1 12 → 0 ≤ x3.toInt → x3.toInt ≤ 4 → (16 + 1 - x4.toInt).toNat < n → ok (fX8_fillDoubt_l10 n σ x1 x2 x3 x4) (fun τ => K σ0 τ) := by
  have hFU : FU = 100000 := rfl
  intro n
  induction n with
  | zero => intro σ x1 x2 x3 x4 hK hx4 ax1 r0 r1 hm; omega
  | succ n ih =>
    intro σ x1 x2 x3 x4 hK hx4 ax1 r0 r1 hm
    have ax1l := ax1.1
    have ax1u := ax1.2
    show ok (fX8_fillDoubt_B10  (fX8_fillDoubt_l10  n) σ x1 x2 x3 x4) _
    unfold fX8_fillDoubt_B10
    refine ok_bp (o8_worlds hK) (fun r14 q100088 => ?_)
    have q100088l := q100088.1
    have q100088u := q100088.2
    refine ok_le rfl rfl (fun h100089 => ?_) (fun h100089 => ?_)
    · skip
      refine ok_lq (Q := fun v => v.toInt = (x3).toInt - 1) (dec1 (by omega)) (fun v15 e100090 => ?_)
      exact ol_fX8_fillDoubt_l62  FU _ _ _ hK (by first | assumption | omega | exact ⟨by omega, by omega⟩ | exact Or.inl (eqm1 (by omega))) (by first | assumption | omega | exact ⟨by omega, by omega⟩ | exact Or.inl (eqm1 (by omega))) (by omega)
    · skip
      refine ok_bp (o8_worlds hK) (fun r16 q100091 => ?_)
      have q100091l := q100091.1
      have q100091u := q100091.2
      refine ok_bp (o8_ofClaim ax1 (by decide) (by decide)) (fun r17 q100092 => ?_)
      refine ok_bp ok_bit8 (fun r18 q100093 => ?_)
      refine ok_eq (n := 1) rfl rfl (fun h100094e h100094 => ?_) (fun h100094e h100094 => ?_)
      · skip
        refine ok_gd (irs ⟨by omega, by omega⟩ ⟨by omega, by omega⟩) ?_
        refine ok_gd (by decide) ?_
        refine ok_lq (Q := fun τ => K σ0 τ) (hK.set rfl) (fun σ21 hK21 => ?_)
        refine ok_lq (Q := fun v => v.toInt = x4.toInt + 1) (inc (by omega)) (fun v22 e100095 => ?_)
        exact ih _ _ _ _ _ hK21 (by first | assumption | omega | exact ⟨by omega, by omega⟩ | exact Or.inl (eqm1 (by omega))) ax1 (by first | assumption | omega | exact ⟨by omega, by omega⟩ | exact Or.inl (eqm1 (by omega))) (by first | assumption | omega | exact ⟨by omega, by omega⟩ | exact Or.inl (eqm1 (by omega))) (by omega)
      · skip
        refine ok_gd (irs ⟨by omega, by omega⟩ ⟨by omega, by omega⟩) ?_
        refine ok_gd (by decide) ?_
        refine ok_lq (Q := fun τ => K σ0 τ) (hK.set rfl) (fun σ19 hK19 => ?_)
        refine ok_lq (Q := fun v => v.toInt = x4.toInt + 1) (inc (by omega)) (fun v20 e100096 => ?_)
        exact ih _ _ _ _ _ hK19 (by first | assumption | omega | exact ⟨by omega, by omega⟩ | exact Or.inl (eqm1 (by omega))) ax1 (by first | assumption | omega | exact ⟨by omega, by omega⟩ | exact Or.inl (eqm1 (by omega))) (by first | assumption | omega | exact ⟨by omega, by omega⟩ | exact Or.inl (eqm1 (by omega))) (by omega)
theorem o_fX8_fillDoubt {σ0 σ : St} {a1 : Int32} {a2 : Int32} (hK : K σ0 σ) (pa1 : ir a1 12) : ok (fX8_fillDoubt σ a1 a2) (fun τ => K σ0 τ) := by
  have hFU : FU = 100000 := rfl
  have pa1l := pa1.1
  have pa1u := pa1.2
  unfold fX8_fillDoubt
  have c100097 := hK.at8
  refine ok_gd (by decide) ?_
  refine ok_lq (Q := fun v => v.toInt = (σ.1 63 (0 : Int32).toNatClampNeg).toInt) rfl (fun v23 e100098 => ?_)
  refine ok_lq (Q := fun v => v.toInt = 0) rfl (fun v24 e100099 => ?_)
  exact ol_fX8_fillDoubt_l10  FU _ _ _ _ _ hK (by first | assumption | omega | exact ⟨by omega, by omega⟩ | exact Or.inl (eqm1 (by omega))) pa1 (by first | assumption | omega | exact ⟨by omega, by omega⟩ | exact Or.inl (eqm1 (by omega))) (by first | assumption | omega | exact ⟨by omega, by omega⟩ | exact Or.inl (eqm1 (by omega))) (by omega)
theorem ol_fX8_saltNow_l4 {σ0 σ : St} (hK : K σ0 σ) : ∀ (n : Nat) (x1 : Int32) (x2 : Int32), 0 ≤ x2.toInt → ir x1 4096 → (12 + 1 - x2.toInt).toNat < n → ok (fX8_saltNow_l4 σ n x1 x2) (fun r => ir r 4096) := by
  have hFU : FU = 100000 := rfl
  intro n
  induction n with
  | zero => intro x1 x2 hx2 ax1 hm; omega
  | succ n ih =>
    intro x1 x2 hx2 ax1 hm
    have ax1l := ax1.1
    have ax1u := ax1.2
    show ok (fX8_saltNow_B4 σ (fX8_saltNow_l4 σ n) x1 x2) _
    unfold fX8_saltNow_B4
    have c100100 := hK.cl8
    refine ok_gd (by decide) ?_
    refine ok_le rfl rfl (fun h100101 => ?_) (fun h100101 => ?_)
    · skip
      exact ok_some ax1
    · skip
      refine ok_bp (o8_ofSalt hK ⟨by omega, by omega⟩) (fun r1 q100102 => ?_)
      refine ok_lq (Q := fun v => ir v 4096) (ir_or ax1 (ir_bit q100102 ⟨by omega, by omega⟩)) (fun v2 q100103 => ?_)
      refine ok_lq (Q := fun v => v.toInt = x2.toInt + 1) (inc (by omega)) (fun v3 e100104 => ?_)
      exact ih _ _ (by first | assumption | omega | exact ⟨by omega, by omega⟩ | exact Or.inl (eqm1 (by omega))) q100103 (by omega)
theorem o_fX8_saltNow {σ0 σ : St} (hK : K σ0 σ) : ok (fX8_saltNow σ) (fun r => ir r 4096) := by
  have hFU : FU = 100000 := rfl
  unfold fX8_saltNow
  refine ok_lq (Q := fun v => v.toInt = 0) rfl (fun v4 e100105 => ?_)
  refine ok_lq (Q := fun v => v.toInt = 0) rfl (fun v5 e100106 => ?_)
  exact ol_fX8_saltNow_l4 hK FU _ _ (by first | assumption | omega | exact ⟨by omega, by omega⟩ | exact Or.inl (eqm1 (by omega))) (irl e100105 (by decide) (by decide)) (by omega)
theorem ol_fX8_unlike_l29 {σ0 σ : St} {kr14 : Int32 → Int32 → Option (Int32)} {m14 : Nat} (hK : K σ0 σ) (hkr14 : ∀ (x1 : Int32) (x2 : Int32), 0 ≤ x2.toInt → (12 + 1 - x2.toInt).toNat < m14 → ok (kr14 x1 x2) (fun _ => True)) : ∀ (n : Nat) (x1 : Int32) (x2 : Int32) (x3 : Int32) (x4 : Int32), 0 ≤ x4.toInt → x2.toInt ≤ 11 → 0 ≤ x2.toInt → (12 + 1 - x2.toInt).toNat < m14 + 1 → (12 + 1 - x4.toInt).toNat < n → ok (fX8_unlike_l29 σ kr14 n x1 x2 x3 x4) (fun _ => True) := by
  have hFU : FU = 100000 := rfl
  intro n
  induction n with
  | zero => intro x1 x2 x3 x4 hx4 u2 hx2 hm14 hm; omega
  | succ n ih =>
    intro x1 x2 x3 x4 hx4 u2 hx2 hm14 hm
    show ok (fX8_unlike_B29 σ kr14 (fX8_unlike_l29 σ kr14 n) x1 x2 x3 x4) _
    unfold fX8_unlike_B29
    refine ok_le rfl rfl (fun h100107 => ?_) (fun h100107 => ?_)
    · skip
      refine ok_eq (n := 0) rfl rfl (fun h100108e h100108 => ?_) (fun h100108e h100108 => ?_)
      · skip
        unfold fX8_unlike_b77
        refine ok_la (fun v1 => ?_)
        refine ok_lq (Q := fun v => v.toInt = x2.toInt + 1) (inc (by omega)) (fun v2 e100110 => ?_)
        exact hkr14 _ _ (by first | assumption | omega | exact ⟨by omega, by omega⟩ | exact Or.inl (eqm1 (by omega))) (by omega)
      · skip
        unfold fX8_unlike_b77
        refine ok_la (fun v1 => ?_)
        refine ok_lq (Q := fun v => v.toInt = x2.toInt + 1) (inc (by omega)) (fun v2 e100112 => ?_)
        exact hkr14 _ _ (by first | assumption | omega | exact ⟨by omega, by omega⟩ | exact Or.inl (eqm1 (by omega))) (by omega)
    · skip
      refine ok_eq (n := 0) rfl rfl (fun h100113e h100113 => ?_) (fun h100113e h100113 => ?_)
      · skip
        refine ok_bp (o8_ofClaim ⟨by omega, by omega⟩ (by decide) (by decide)) (fun r5 q100114 => ?_)
        refine ok_bp (o8_ofClaim ⟨by omega, by omega⟩ (by decide) (by decide)) (fun r6 q100115 => ?_)
        refine ok_eq rfl rfl (fun h100116e h100116 => ?_) (fun h100116e h100116 => ?_)
        · skip
          unfold fX8_unlike_b55
          refine ok_lq (Q := fun v => v.toInt = 1) rfl (fun v3 e100117 => ?_)
          refine ok_lq (Q := fun v => v.toInt = x4.toInt + 1) (inc (by omega)) (fun v4 e100118 => ?_)
          exact ih _ _ _ _ (by first | assumption | omega | exact ⟨by omega, by omega⟩ | exact Or.inl (eqm1 (by omega))) (by first | assumption | omega | exact ⟨by omega, by omega⟩ | exact Or.inl (eqm1 (by omega))) (by first | assumption | omega | exact ⟨by omega, by omega⟩ | exact Or.inl (eqm1 (by omega))) (by first | assumption | omega | exact ⟨by omega, by omega⟩ | exact Or.inl (eqm1 (by omega))) (by omega)
        · skip
          refine ok_lq (Q := fun v => v.toInt = 0) rfl (fun v7 e100119 => ?_)
          refine ok_lq (Q := fun v => v.toInt = x4.toInt + 1) (inc (by omega)) (fun v8 e100120 => ?_)
          exact ih _ _ _ _ (by first | assumption | omega | exact ⟨by omega, by omega⟩ | exact Or.inl (eqm1 (by omega))) (by first | assumption | omega | exact ⟨by omega, by omega⟩ | exact Or.inl (eqm1 (by omega))) (by first | assumption | omega | exact ⟨by omega, by omega⟩ | exact Or.inl (eqm1 (by omega))) (by first | assumption | omega | exact ⟨by omega, by omega⟩ | exact Or.inl (eqm1 (by omega))) (by omega)
      · skip
        unfold fX8_unlike_b55
        refine ok_lq (Q := fun v => v.toInt = 1) rfl (fun v3 e100121 => ?_)
        refine ok_lq (Q := fun v => v.toInt = x4.toInt + 1) (inc (by omega)) (fun v4 e100122 => ?_)
        exact ih _ _ _ _ (by first | assumption | omega | exact ⟨by omega, by omega⟩ | exact Or.inl (eqm1 (by omega))) (by first | assumption | omega | exact ⟨by omega, by omega⟩ | exact Or.inl (eqm1 (by omega))) (by first | assumption | omega | exact ⟨by omega, by omega⟩ | exact Or.inl (eqm1 (by omega))) (by first | assumption | omega | exact ⟨by omega, by omega⟩ | exact Or.inl (eqm1 (by omega))) (by omega)
theorem ol_fX8_unlike_l14 {σ0 σ : St} (hK : K σ0 σ) : ∀ (n : Nat) (x1 : Int32) (x2 : Int32), 0 ≤ x2.toInt → (12 + 1 - x2.toInt).toNat < n → ok (fX8_unlike_l14 σ n x1 x2) (fun _ => True) := by
  have hFU : FU = 100000 := rfl
  intro n
  induction n with
  | zero => intro x1 x2 hx2 hm; omega
  | succ n ih =>
    intro x1 x2 hx2 hm
    show ok (fX8_unlike_B14 σ (fX8_unlike_l14 σ n) x1 x2) _
    unfold fX8_unlike_B14
    have c100123 := hK.cl8
    refine ok_gd (by decide) ?_
    refine ok_le rfl rfl (fun h100124 => ?_) (fun h100124 => ?_)
    · skip
      exact ok_some trivial
    · skip
      refine ok_lq (Q := fun v => v.toInt = 0) rfl (fun v9 e100125 => ?_)
      refine ok_lq (Q := fun v => v.toInt = 0) rfl (fun v10 e100126 => ?_)
      exact ol_fX8_unlike_l29 hK ih FU _ _ _ _ (by first | assumption | omega | exact ⟨by omega, by omega⟩ | exact Or.inl (eqm1 (by omega))) (by first | assumption | omega | exact ⟨by omega, by omega⟩ | exact Or.inl (eqm1 (by omega))) (by first | assumption | omega | exact ⟨by omega, by omega⟩ | exact Or.inl (eqm1 (by omega))) (by first | assumption | omega | exact ⟨by omega, by omega⟩ | exact Or.inl (eqm1 (by omega))) (by omega)
theorem o_fX8_unlike {σ0 σ : St} (hK : K σ0 σ) : ok (fX8_unlike σ) (fun _ => True) := by
  have hFU : FU = 100000 := rfl
  unfold fX8_unlike
  refine ok_bz ok_isT8 ?_ (fun i100127 => ?_)
  · skip
    exact ok_some trivial
  · skip
    refine ok_lq (Q := fun v => v.toInt = 0) rfl (fun v12 e100128 => ?_)
    refine ok_lq (Q := fun v => v.toInt = 0) rfl (fun v13 e100129 => ?_)
    exact ol_fX8_unlike_l14 hK FU _ _ (by first | assumption | omega | exact ⟨by omega, by omega⟩ | exact Or.inl (eqm1 (by omega))) (by omega)
theorem ol_fX8_worthsOf_l4 {σ0 σ : St} (hK : K σ0 σ) : ∀ (n : Nat) (x1 : Int32) (x2 : Int32) (x3 : Int32), 0 ≤ x3.toInt → (12 + 1 - x3.toInt).toNat < n → ok (fX8_worthsOf_l4 σ n x1 x2 x3) (fun _ => True) := by
  have hFU : FU = 100000 := rfl
  intro n
  induction n with
  | zero => intro x1 x2 x3 hx3 hm; omega
  | succ n ih =>
    intro x1 x2 x3 hx3 hm
    show ok (fX8_worthsOf_B4 σ (fX8_worthsOf_l4 σ n) x1 x2 x3) _
    unfold fX8_worthsOf_B4
    have c100130 := hK.cl8
    refine ok_gd (by decide) ?_
    refine ok_le rfl rfl (fun h100131 => ?_) (fun h100131 => ?_)
    · skip
      exact ok_some trivial
    · skip
      refine ok_bp ok_bit8 (fun r3 q100132 => ?_)
      refine ok_eq (n := 1) rfl rfl (fun h100133e h100133 => ?_) (fun h100133e h100133 => ?_)
      · skip
        refine ok_bp (o8_ofClaim ⟨by omega, by omega⟩ (by decide) (by decide)) (fun r4 q100134 => ?_)
        unfold fX8_worthsOf_b34
        refine ok_la (fun v1 => ?_)
        refine ok_lq (Q := fun v => v.toInt = x3.toInt + 1) (inc (by omega)) (fun v2 e100136 => ?_)
        exact ih _ _ _ (by first | assumption | omega | exact ⟨by omega, by omega⟩ | exact Or.inl (eqm1 (by omega))) (by omega)
      · skip
        unfold fX8_worthsOf_b34
        refine ok_la (fun v1 => ?_)
        refine ok_lq (Q := fun v => v.toInt = x3.toInt + 1) (inc (by omega)) (fun v2 e100138 => ?_)
        exact ih _ _ _ (by first | assumption | omega | exact ⟨by omega, by omega⟩ | exact Or.inl (eqm1 (by omega))) (by omega)
theorem o_fX8_worthsOf {σ0 σ : St} {a1 : Int32} (hK : K σ0 σ) : ok (fX8_worthsOf σ a1) (fun _ => True) := by
  have hFU : FU = 100000 := rfl
  unfold fX8_worthsOf
  refine ok_lq (Q := fun v => v.toInt = 0) rfl (fun v5 e100139 => ?_)
  refine ok_lq (Q := fun v => v.toInt = 0) rfl (fun v6 e100140 => ?_)
  exact ol_fX8_worthsOf_l4 hK FU _ _ _ (by first | assumption | omega | exact ⟨by omega, by omega⟩ | exact Or.inl (eqm1 (by omega))) (by omega)
theorem ol_fX8_alike_l16 {σ0 σ : St} (hK : K σ0 σ) : ∀ (n : Nat) (x1 : Int32) (x2 : Int32) (x3 : Int32), 0 ≤ x3.toInt → ir x1 12 → (12 + 1 - x3.toInt).toNat < n → ok (fX8_alike_l16 σ n x1 x2 x3) (fun _ => True) := by
  have hFU : FU = 100000 := rfl
  intro n
  induction n with
  | zero => intro x1 x2 x3 hx3 ax1 hm; omega
  | succ n ih =>
    intro x1 x2 x3 hx3 ax1 hm
    have ax1l := ax1.1
    have ax1u := ax1.2
    show ok (fX8_alike_B16 σ (fX8_alike_l16 σ n) x1 x2 x3) _
    unfold fX8_alike_B16
    have c100141 := hK.cl8
    refine ok_gd (by decide) ?_
    refine ok_le rfl rfl (fun h100142 => ?_) (fun h100142 => ?_)
    · skip
      exact ok_some trivial
    · skip
      refine ok_eq rfl rfl (fun h100143e h100143 => ?_) (fun h100143e h100143 => ?_)
      · skip
        unfold fX8_alike_b53
        unfold fX8_alike_b54
        refine ok_la (fun v1 => ?_)
        refine ok_lq (Q := fun v => v.toInt = x3.toInt + 1) (inc (by omega)) (fun v2 e100145 => ?_)
        exact ih _ _ _ (by first | assumption | omega | exact ⟨by omega, by omega⟩ | exact Or.inl (eqm1 (by omega))) ax1 (by omega)
      · skip
        refine ok_bp (o8_ofClaim ⟨by omega, by omega⟩ (by decide) (by decide)) (fun r3 q100146 => ?_)
        refine ok_bp (o8_ofClaim ax1 (by decide) (by decide)) (fun r4 q100147 => ?_)
        refine ok_eq rfl rfl (fun h100148e h100148 => ?_) (fun h100148e h100148 => ?_)
        · skip
          unfold fX8_alike_b54
          refine ok_la (fun v1 => ?_)
          refine ok_lq (Q := fun v => v.toInt = x3.toInt + 1) (inc (by omega)) (fun v2 e100150 => ?_)
          exact ih _ _ _ (by first | assumption | omega | exact ⟨by omega, by omega⟩ | exact Or.inl (eqm1 (by omega))) ax1 (by omega)
        · skip
          unfold fX8_alike_b53
          unfold fX8_alike_b54
          refine ok_la (fun v1 => ?_)
          refine ok_lq (Q := fun v => v.toInt = x3.toInt + 1) (inc (by omega)) (fun v2 e100152 => ?_)
          exact ih _ _ _ (by first | assumption | omega | exact ⟨by omega, by omega⟩ | exact Or.inl (eqm1 (by omega))) ax1 (by omega)
theorem o_fX8_alike {σ0 σ : St} {a1 : Int32} (hK : K σ0 σ) : ok (fX8_alike σ a1) (fun _ => True) := by
  have hFU : FU = 100000 := rfl
  unfold fX8_alike
  refine ok_bz (ok_isC8 hK (Int32.toInt_toInt64 _)) ?_ (fun i100153 => ?_)
  · skip
    exact ok_some trivial
  · skip
    have i100153l := i100153.1
    have i100153u := i100153.2
    have i100153c := hK.cl8
    refine ok_lq (Q := fun v => v.toInt = 0) rfl (fun v6 e100154 => ?_)
    refine ok_lq (Q := fun v => v.toInt = 0) rfl (fun v7 e100155 => ?_)
    exact ol_fX8_alike_l16 hK FU _ _ _ (by first | assumption | omega | exact ⟨by omega, by omega⟩ | exact Or.inl (eqm1 (by omega))) ⟨by omega, by omega⟩ (by omega)
theorem o_fX8_claim {σ0 σ : St} {a1 : Int32} {a2 : Int32} (hK : K σ0 σ) : ok (fX8_claim σ a1 a2) (fun _ => True) := by
  have hFU : FU = 100000 := rfl
  unfold fX8_claim
  refine ok_bz (ok_isC8 hK (Int32.toInt_toInt64 _)) ?_ (fun i100156 => ?_)
  · skip
    exact ok_some trivial
  · skip
    have i100156l := i100156.1
    have i100156u := i100156.2
    have i100156c := hK.cl8
    refine ok_bz (ok_in (v := 0) (w := 2) (Int32.toInt_toInt64 _) rfl rfl) ?_ (fun i100157 => ?_)
    · skip
      exact ok_some trivial
    · skip
      have i100157l := i100157.1
      have i100157u := i100157.2
      refine ok_le (m := 2) rfl rfl (fun h100158 => ?_) (fun h100158 => ?_)
      · skip
        refine ok_bp (o8_ofClaim ⟨by omega, by omega⟩ (by decide) (by decide)) (fun r3 q100159 => ?_)
        refine ok_bp (o8_bits _) (fun r4 q100160 => ?_)
        have q100160l := q100160.1
        have q100160u := q100160.2
        exact ok_some trivial
      · skip
        refine ok_bp (o8_ofClaim ⟨by omega, by omega⟩ (by omega) (by omega)) (fun r5 q100161 => ?_)
        exact ok_some trivial
theorem o_fX8_claims {σ0 σ : St} {a1 : Int32} {a2 : Int32} (hK : K σ0 σ) : ok (fX8_claims σ a1 a2) (fun p => True ∧ K σ0 p.2) := by
  have hFU : FU = 100000 := rfl
  unfold fX8_claims
  refine ok_bz (ok_isC8 hK (Int32.toInt_toInt64 _)) ?_ (fun i100162 => ?_)
  · skip
    exact ok_some ⟨trivial, hK⟩
  · skip
    have i100162l := i100162.1
    have i100162u := i100162.2
    have i100162c := hK.cl8
    refine ok_bz (ok_in (v := 0) (w := 1) (Int32.toInt_toInt64 _) rfl rfl) ?_ (fun i100163 => ?_)
    · skip
      exact ok_some ⟨trivial, hK⟩
    · skip
      have i100163l := i100163.1
      have i100163u := i100163.2
      refine ok_bp (o_fX8_fillDoubt hK ⟨by omega, by omega⟩) (fun σ3 hK3 => ?_)
      refine ok_gd (by decide) ?_
      refine ok_eq (n := 0) rfl rfl (fun h100164e h100164 => ?_) (fun h100164e h100164 => ?_)
      · skip
        exact ok_some ⟨trivial, hK3⟩
      · skip
        exact ok_some ⟨trivial, hK3⟩
theorem o_fX8_drawn {σ0 σ : St} {a1 : Int32} (hK : K σ0 σ) : ok (fX8_drawn σ a1) (fun _ => True) := by
  have hFU : FU = 100000 := rfl
  unfold fX8_drawn
  refine ok_bz ok_isT8 ?_ (fun i100165 => ?_)
  · skip
    exact ok_some trivial
  · skip
    refine ok_bz ok_isSd8 ?_ (fun i100166 => ?_)
    · skip
      exact ok_some trivial
    · skip
      refine ok_bp (o_fX8_holesBy hK) (fun r3 q100167 => ?_)
      exact ok_some trivial
theorem o_fX8_entails {σ0 σ : St} {a1 : Int32} {a2 : Int32} (hK : K σ0 σ) : ok (fX8_entails σ a1 a2) (fun _ => True) := by
  have hFU : FU = 100000 := rfl
  unfold fX8_entails
  refine ok_bz (ok_isC8 hK (Int32.toInt_toInt64 _)) ?_ (fun i100168 => ?_)
  · skip
    exact ok_some trivial
  · skip
    have i100168l := i100168.1
    have i100168u := i100168.2
    have i100168c := hK.cl8
    refine ok_bz (ok_isC8 hK (Int32.toInt_toInt64 _)) ?_ (fun i100169 => ?_)
    · skip
      exact ok_some trivial
    · skip
      have i100169l := i100169.1
      have i100169u := i100169.2
      have i100169c := hK.cl8
      refine ok_bp (o8_ofClaim ⟨by omega, by omega⟩ (by decide) (by decide)) (fun r3 q100170 => ?_)
      refine ok_bp (o8_ofClaim ⟨by omega, by omega⟩ (by decide) (by decide)) (fun r4 q100171 => ?_)
      refine ok_eq (n := 0) rfl rfl (fun h100172e h100172 => ?_) (fun h100172e h100172 => ?_)
      · skip
        exact ok_some trivial
      · skip
        exact ok_some trivial
theorem ol_fX8_fillDuel_l19 {σ0 : St} {kr5 : St → Int32 → Option (St)} {m5 : Nat} (hkr5 : ∀ (σ : St) (x1 : Int32), K σ0 σ → -1 ≤ x1.toInt → x1.toInt ≤ 4095 → (x1.toInt + 1).toNat < m5 → ok (kr5 σ x1) (fun τ => K σ0 τ)) : ∀ (n : Nat) (σ : St) (x1 : Int32) (x2 : Int32), K σ0 σ → 0 ≤ x2.toInt → ir x1 4096 → 0 ≤ x1.toInt → x1.toInt ≤ 4095 → (x1.toInt + 1).toNat < m5 + 1 → (12 + 1 - x2.toInt).toNat < n → ok (fX8_fillDuel_l19 kr5 n σ x1 x2) (fun τ => K σ0 τ) := by
  have hFU : FU = 100000 := rfl
  intro n
  induction n with
  | zero => intro σ x1 x2 hK hx2 ax1 g0 g1 hm5 hm; omega
  | succ n ih =>
    intro σ x1 x2 hK hx2 ax1 g0 g1 hm5 hm
    have ax1l := ax1.1
    have ax1u := ax1.2
    show ok (fX8_fillDuel_B19 kr5 (fX8_fillDuel_l19 kr5 n) σ x1 x2) _
    unfold fX8_fillDuel_B19
    have c100173 := hK.st8
    refine ok_gd (by decide) ?_
    refine ok_le rfl rfl (fun h100174 => ?_) (fun h100174 => ?_)
    · skip
      refine ok_lq (Q := fun v => v.toInt = x1.toInt + (-1)) (dec (by omega)) (fun v1 e100175 => ?_)
      exact hkr5 _ _ hK (by first | assumption | omega | exact ⟨by omega, by omega⟩ | exact Or.inl (eqm1 (by omega))) (by first | assumption | omega | exact ⟨by omega, by omega⟩ | exact Or.inl (eqm1 (by omega))) (by omega)
    · skip
      refine ok_bz (o8_goes hK ⟨by omega, by omega⟩) ?_ (fun i100176 => ?_)
      · skip
        refine ok_lq (Q := fun v => v.toInt = x2.toInt + 1) (inc (by omega)) (fun v3 e100177 => ?_)
        exact ih _ _ _ hK (by first | assumption | omega | exact ⟨by omega, by omega⟩ | exact Or.inl (eqm1 (by omega))) ax1 (by first | assumption | omega | exact ⟨by omega, by omega⟩ | exact Or.inl (eqm1 (by omega))) (by first | assumption | omega | exact ⟨by omega, by omega⟩ | exact Or.inl (eqm1 (by omega))) (by first | assumption | omega | exact ⟨by omega, by omega⟩ | exact Or.inl (eqm1 (by omega))) (by omega)
      · skip
        refine ok_gd ax1 ?_
        refine ok_bp (o8_ofGives hK ⟨by omega, by omega⟩) (fun r4 q100178 => ?_)
        have q100178l := q100178.1
        have q100178u := q100178.2
        refine ok_gd (ir_or ax1 (ir_sh q100178)) ?_
        refine ok_bp o_fX8_mine (fun r5 q100179 => ?_)
        refine ok_gd ax1 ?_
        refine ok_lq (Q := fun τ => K σ0 τ) (hK.set rfl) (fun σ6 hK6 => ?_)
        refine ok_lq (Q := fun v => v.toInt = x2.toInt + 1) (inc (by omega)) (fun v7 e100180 => ?_)
        exact ih _ _ _ hK6 (by first | assumption | omega | exact ⟨by omega, by omega⟩ | exact Or.inl (eqm1 (by omega))) ax1 (by first | assumption | omega | exact ⟨by omega, by omega⟩ | exact Or.inl (eqm1 (by omega))) (by first | assumption | omega | exact ⟨by omega, by omega⟩ | exact Or.inl (eqm1 (by omega))) (by first | assumption | omega | exact ⟨by omega, by omega⟩ | exact Or.inl (eqm1 (by omega))) (by omega)
theorem ol_fX8_fillDuel_l5 {σ0 : St} : ∀ (n : Nat) (σ : St) (x1 : Int32), K σ0 σ → -1 ≤ x1.toInt → x1.toInt ≤ 4095 → (x1.toInt + 1).toNat < n → ok (fX8_fillDuel_l5 n σ x1) (fun τ => K σ0 τ) := by
  have hFU : FU = 100000 := rfl
  intro n
  induction n with
  | zero => intro σ x1 hK g0 g1 hm; omega
  | succ n ih =>
    intro σ x1 hK g0 g1 hm
    show ok (fX8_fillDuel_B5  (fX8_fillDuel_l5  n) σ x1) _
    unfold fX8_fillDuel_B5
    refine ok_lw (n := 0) rfl rfl (fun h100181 => ?_) (fun h100181 => ?_)
    · skip
      exact ok_some hK
    · skip
      refine ok_gd ⟨by omega, by omega⟩ ?_
      refine ok_lq (Q := fun τ => K σ0 τ) (hK.set rfl) (fun σ8 hK8 => ?_)
      refine ok_lq (Q := fun v => v.toInt = 0) rfl (fun v9 e100182 => ?_)
      exact ol_fX8_fillDuel_l19 ih FU _ _ _ hK8 (by first | assumption | omega | exact ⟨by omega, by omega⟩ | exact Or.inl (eqm1 (by omega))) ⟨by omega, by omega⟩ (by first | assumption | omega | exact ⟨by omega, by omega⟩ | exact Or.inl (eqm1 (by omega))) (by first | assumption | omega | exact ⟨by omega, by omega⟩ | exact Or.inl (eqm1 (by omega))) (by first | assumption | omega | exact ⟨by omega, by omega⟩ | exact Or.inl (eqm1 (by omega))) (by omega)
theorem o_fX8_fillDuel {σ0 σ : St} (hK : K σ0 σ) : ok (fX8_fillDuel σ) (fun τ => K σ0 τ) := by
  have hFU : FU = 100000 := rfl
  unfold fX8_fillDuel
  refine ok_bp (o_fX8_allClaims hK) (fun r10 q100183 => ?_)
  have q100183l := q100183.1
  have q100183u := q100183.2
  refine ok_lt ?_
  exact ol_fX8_fillDuel_l5  FU _ _ hK (by first | assumption | omega | exact ⟨by omega, by omega⟩ | exact Or.inl (eqm1 (by omega))) (by first | assumption | omega | exact ⟨by omega, by omega⟩ | exact Or.inl (eqm1 (by omega))) (by omega)
theorem rp8n {σ0 σ : St} {a x : Int32} {r : Int64} (hK : K σ0 σ) (hr : RP8 σ0 a.toNatClampNeg) (h0 : 0 ≤ x.toInt) (h : x.toInt < (σ.1 78 a.toNatClampNeg).toInt) (e : r = σ.2 80 (60 * a.toNatClampNeg + x.toNatClampNeg)) : (x.toInt % 2 = 0 → ir r.toInt32 5) ∧ (x.toInt % 2 = 1 → ir r.toInt32 12) := by
  rw [e, hK.n80]
  have := nN h0
  rw [hK.my0] at h
  obtain ⟨q1, q2⟩ := hr x.toNatClampNeg (by omega)
  exact ⟨fun e => q1 (by omega), fun e => q2 (by omega)⟩
theorem ol8_goKitchen_l81 {σ0 : St} {a : Int32} (ha : ir a 4) (hr : RP8 σ0 a.toNatClampNeg) (h2 : (σ0.1 78 a.toNatClampNeg).toInt % 2 = 0) : ∀ (n : Nat) (σ : St), K σ0 σ → 0 ≤ (σ.1 62 27).toInt → (σ.1 62 27).toInt ≤ 30 → (31 - (σ.1 62 27).toInt).toNat < n → ok (fX8_goKitchen_l81 n σ a) (fun τ => K σ0 τ) := by
  intro n
  induction n with
  | zero => intro σ _ _ _ h; omega
  | succ n ih =>
    intro σ hK h0 h1 hm
    show ok (fX8_goKitchen_B81 (fX8_goKitchen_l81 n) σ a) _
    unfold fX8_goKitchen_B81
    have cm := hK.mny ha
    have em : σ.1 78 a.toNatClampNeg = σ0.1 78 a.toNatClampNeg := hK.my0 _
    have d : (2 * σ.1 62 27).toInt = 2 * (σ.1 62 27).toInt := i_mul (m := 2) rfl rfl (by omega) (by omega)
    refine ok_gd ha (ok_le rfl d (fun _ => ok_some hK) (fun hlt => ?_))
    have d1 : (2 * σ.1 62 27 + 1).toInt = 2 * (σ.1 62 27).toInt + 1 := i_add d (n := 1) rfl (by omega) (by omega)
    have hi : ir (2 * σ.1 62 27) 60 := ⟨by omega, by rw [d]; show _ < (60 : Int); omega⟩
    have hj : ir (2 * σ.1 62 27 + 1) 60 := ⟨by omega, by rw [d1]; show _ < (60 : Int); rw [em] at cm hlt; omega⟩
    refine ok_bp (o8_numberAt ha hi) (fun r1 q1 => ok_bp (o8_numberAt ha hj) (fun r2 q2 => ?_))
    have g1 := (rp8n hK hr hi.1 (by omega) q1).1 (by omega)
    have g2 := (rp8n hK hr hj.1 (by rw [em] at cm hlt ⊢; omega) q2).2 (by omega)
    refine ok_bs (ok_cooks27 hK g1 g2) (fun r3 σ4 h4 => ok_if (fun _ => ok_some h4.1) (fun _ => ok_lv (fun σ5 e5 => ?_)))
    obtain ⟨hK4, e4⟩ := h4
    have e4 : σ4.1 62 27 = σ.1 62 27 := e4
    have hK5 : K σ0 σ5 := K.setv hK4 rfl e5
    have v5 : (σ5.1 62 27).toInt = (σ.1 62 27).toInt + 1 := by
      rw [e5, setI_at, e4]
      exact inc (by omega)
    rw [em] at cm hlt
    exact ih σ5 hK5 (by omega) (by omega) (by omega)
theorem ol8_goKitchen_l46 {σ0 : St} {a : Int32} (ha : ir a 4) (hr : RP8 σ0 a.toNatClampNeg) (h2 : (σ0.1 78 a.toNatClampNeg).toInt % 2 = 0) : ∀ (n : Nat) (σ : St) (x2 : Int32), K σ0 σ → 0 ≤ x2.toInt → (6 - x2.toInt).toNat < n → ok (fX8_goKitchen_l46 n σ a x2) (fun τ => K σ0 τ) := by
  intro n
  induction n with
  | zero => intro σ x2 _ _ h; omega
  | succ n ih =>
    intro σ x2 hK hx hm
    show ok (fX8_goKitchen_B46 (fX8_goKitchen_l46 n) σ a x2) _
    unfold fX8_goKitchen_B46
    refine ok_le (m := 5) rfl rfl (fun _ => ok_lv (fun σ6 e6 => ok_lv (fun σ7 e7 => ?_))) (fun hlt => ?_)
    · have hK6 : K σ0 σ6 := K.setv hK rfl e6
      have hK7 : K σ0 σ7 := K.setv hK6 rfl e7
      have v7 : σ7.1 62 27 = 0 := by rw [e7, setI_at]
      exact ol8_goKitchen_l81 ha hr h2 FU σ7 hK7 (by rw [v7]; decide) (by rw [v7]; decide) (by rw [v7]; decide)
    · have e7 := inc (x := x2) (by omega)
      have h5 : ir x2 5 := ⟨hx, by show _ < (5 : Int); omega⟩
      exact ok_gd h5 (ok_lq (Q := fun τ => K σ0 τ) (hK.set rfl) (fun σ8 hK8 => ok_gd h5 (ok_lq (Q := fun τ => K σ0 τ) (hK8.set rfl) (fun σ9 hK9 => ok_lt (ih σ9 _ hK9 (by omega) (by omega))))))
theorem ol8_goKitchen_l2 {σ0 : St} {a : Int32} (ha : ir a 4) (hr : RP8 σ0 a.toNatClampNeg) (h2 : (σ0.1 78 a.toNatClampNeg).toInt % 2 = 0) : ∀ (n : Nat) (σ : St) (x2 : Int32), K σ0 σ → 0 ≤ x2.toInt → (13 - x2.toInt).toNat < n → ok (fX8_goKitchen_l2 n σ a x2) (fun τ => K σ0 τ) := by
  intro n
  induction n with
  | zero => intro σ x2 _ _ h; omega
  | succ n ih =>
    intro σ x2 hK hx hm
    show ok (fX8_goKitchen_B2 (fX8_goKitchen_l2 n) σ a x2) _
    unfold fX8_goKitchen_B2
    refine ok_le (m := 12) rfl rfl (fun _ => ok_lt (ol8_goKitchen_l46 ha hr h2 FU σ 0 hK (by decide) (by decide))) (fun hlt => ?_)
    have e7 := inc (x := x2) (by omega)
    have h12 : ir x2 12 := ⟨hx, by show _ < (12 : Int); omega⟩
    refine ok_bp (o_fX8_saltNow hK) (fun r15 _ => ok_bp ok_bit8 (fun r16 _ => ok_if (fun _ => ?_) (fun _ => ?_))) <;> unfold fX8_goKitchen_b30 <;> exact ok_gd h12 (ok_lq (Q := fun τ => K σ0 τ) (hK.set rfl) (fun σ8 hK8 => ok_gd h12 (ok_lq (Q := fun τ => K σ0 τ) (hK8.set rfl) (fun σ9 hK9 => ok_lt (ih σ9 _ hK9 (by omega) (by omega))))))
theorem o8_goKitchen {σ0 σ : St} {a1 : Int32} (hK : K σ0 σ) (ha : ir a1 4) (hr : RP8 σ0 a1.toNatClampNeg ∧ (σ0.1 78 a1.toNatClampNeg).toInt % 2 = 0 ∧ 0 ≤ (σ0.1 78 a1.toNatClampNeg).toInt) : ok (fX8_goKitchen σ a1) (fun τ => K σ0 τ) := by
  unfold fX8_goKitchen
  exact ok_lt (ol8_goKitchen_l2 ha hr.1 hr.2.1 FU σ 0 hK (by decide) (by decide))
theorem o_fX8_guest {σ0 σ : St} {a1 : Int32} {a2 : Int32} (hK : K σ0 σ) : ok (fX8_guest σ a1 a2) (fun _ => True) := by
  have hFU : FU = 100000 := rfl
  unfold fX8_guest
  refine ok_bz (ok_isG8 hK (Int32.toInt_toInt64 _)) ?_ (fun i100184 => ?_)
  · skip
    exact ok_some trivial
  · skip
    have i100184l := i100184.1
    have i100184u := i100184.2
    have i100184c := hK.gu8
    refine ok_bz (ok_in (v := 0) (w := 2) (Int32.toInt_toInt64 _) rfl rfl) ?_ (fun i100185 => ?_)
    · skip
      exact ok_some trivial
    · skip
      have i100185l := i100185.1
      have i100185u := i100185.2
      refine ok_le (m := 2) rfl rfl (fun h100186 => ?_) (fun h100186 => ?_)
      · skip
        refine ok_bp (o8_canDo hK ⟨by omega, by omega⟩) (fun r3 q100187 => ?_)
        exact ok_some trivial
      · skip
        refine ok_bp (o8_ofGuest ⟨by omega, by omega⟩ (by omega) (by omega)) (fun r4 q100188 => ?_)
        exact ok_some trivial
theorem o_fX8_holds {σ0 σ : St} {a1 : Int32} (hK : K σ0 σ) : ok (fX8_holds σ a1) (fun _ => True) := by
  have hFU : FU = 100000 := rfl
  unfold fX8_holds
  refine ok_bz (ok_isC8 hK (Int32.toInt_toInt64 _)) ?_ (fun i100189 => ?_)
  · skip
    exact ok_some trivial
  · skip
    have i100189l := i100189.1
    have i100189u := i100189.2
    have i100189c := hK.cl8
    refine ok_bp (o8_ofClaim ⟨by omega, by omega⟩ (by decide) (by decide)) (fun r2 q100190 => ?_)
    exact ok_some trivial
theorem ol_fX8_outcome_l33 {σ0 : St} : ∀ (n : Nat) (σ : St) (x2 : Int32) (x3 : Int32) (x4 : Int32), K σ0 σ → 0 ≤ x4.toInt → ir x3 16 → (4 + 1 - x4.toInt).toNat < n → ok (fX8_outcome_l33 n σ x2 x3 x4) (fun p => True ∧ K σ0 p.2) := by
  have hFU : FU = 100000 := rfl
  intro n
  induction n with
  | zero => intro σ x2 x3 x4 hK hx4 ax3 hm; omega
  | succ n ih =>
    intro σ x2 x3 x4 hK hx4 ax3 hm
    have ax3l := ax3.1
    have ax3u := ax3.2
    have cE : x4.toInt ≤ 3 → ((2 : Int32) <<< (x4 &&& 31)).toInt = 2 * ((1 : Int32) <<< (x4 &&& 31)).toInt ∧ ((1 : Int32) <<< (x4 &&& 31)).toInt ≤ 8 ∧ 1 ≤ ((1 : Int32) <<< (x4 &&& 31)).toInt := fun h => d2 hx4 h
    show ok (fX8_outcome_B33  (fX8_outcome_l33  n) σ x2 x3 x4) _
    unfold fX8_outcome_B33
    have c100191 := hK.at8
    refine ok_gd (by decide) ?_
    refine ok_le rfl rfl (fun h100192 => ?_) (fun h100192 => ?_)
    · skip
      exact ok_some ⟨trivial, hK⟩
    · skip
      refine ok_gd (by decide) ?_
      refine ok_eq rfl rfl (fun h100193e h100193 => ?_) (fun h100193e h100193 => ?_)
      · skip
        unfold fX8_outcome_b57
        refine ok_lq (Q := fun v => v.toInt = 1) rfl (fun v3 e100194 => ?_)
        refine ok_gd (irs ⟨by omega, by omega⟩ ax3) ?_
        refine ok_la (fun v4 => ?_)
        refine ok_gd (irs ⟨by omega, by omega⟩ (or16 ax3 ⟨by omega, by omega⟩)) ?_
        refine ok_la (fun v5 => ?_)
        refine ok_eq rfl rfl (fun h100197e h100197 => ?_) (fun h100197e h100197 => ?_)
        · skip
          unfold fX8_outcome_b112
          unfold fX8_outcome_b113
          refine ok_lq (Q := fun v => ir v 16) (ir_or16 ax3 (by decide)) (fun v1 q100198 => ?_)
          refine ok_lq (Q := fun v => v.toInt = x4.toInt + 1) (inc (by omega)) (fun v2 e100199 => ?_)
          exact ih _ _ _ _ hK (by first | assumption | omega | exact ⟨by omega, by omega⟩ | exact Or.inl (eqm1 (by omega))) q100198 (by omega)
        · skip
          refine ok_eq rfl rfl (fun h100200e h100200 => ?_) (fun h100200e h100200 => ?_)
          · skip
            unfold fX8_outcome_b113
            refine ok_lq (Q := fun v => ir v 16) (or16 ax3 ⟨by omega, by omega⟩) (fun v1 q100201 => ?_)
            refine ok_lq (Q := fun v => v.toInt = x4.toInt + 1) (inc (by omega)) (fun v2 e100202 => ?_)
            exact ih _ _ _ _ hK (by first | assumption | omega | exact ⟨by omega, by omega⟩ | exact Or.inl (eqm1 (by omega))) q100201 (by omega)
          · skip
            unfold fX8_outcome_b112
            unfold fX8_outcome_b113
            refine ok_lq (Q := fun v => ir v 16) (ir_or16 ax3 (by decide)) (fun v1 q100203 => ?_)
            refine ok_lq (Q := fun v => v.toInt = x4.toInt + 1) (inc (by omega)) (fun v2 e100204 => ?_)
            exact ih _ _ _ _ hK (by first | assumption | omega | exact ⟨by omega, by omega⟩ | exact Or.inl (eqm1 (by omega))) q100203 (by omega)
      · skip
        unfold fX8_outcome_b57
        refine ok_lq (Q := fun v => v.toInt = 0) rfl (fun v3 e100205 => ?_)
        refine ok_gd (irs ⟨by omega, by omega⟩ ax3) ?_
        refine ok_la (fun v4 => ?_)
        refine ok_gd (irs ⟨by omega, by omega⟩ (or16 ax3 ⟨by omega, by omega⟩)) ?_
        refine ok_la (fun v5 => ?_)
        refine ok_eq rfl rfl (fun h100208e h100208 => ?_) (fun h100208e h100208 => ?_)
        · skip
          unfold fX8_outcome_b112
          unfold fX8_outcome_b113
          refine ok_lq (Q := fun v => ir v 16) (ir_or16 ax3 (by decide)) (fun v1 q100209 => ?_)
          refine ok_lq (Q := fun v => v.toInt = x4.toInt + 1) (inc (by omega)) (fun v2 e100210 => ?_)
          exact ih _ _ _ _ hK (by first | assumption | omega | exact ⟨by omega, by omega⟩ | exact Or.inl (eqm1 (by omega))) q100209 (by omega)
        · skip
          refine ok_eq rfl rfl (fun h100211e h100211 => ?_) (fun h100211e h100211 => ?_)
          · skip
            unfold fX8_outcome_b113
            refine ok_lq (Q := fun v => ir v 16) (or16 ax3 ⟨by omega, by omega⟩) (fun v1 q100212 => ?_)
            refine ok_lq (Q := fun v => v.toInt = x4.toInt + 1) (inc (by omega)) (fun v2 e100213 => ?_)
            exact ih _ _ _ _ hK (by first | assumption | omega | exact ⟨by omega, by omega⟩ | exact Or.inl (eqm1 (by omega))) q100212 (by omega)
          · skip
            unfold fX8_outcome_b112
            unfold fX8_outcome_b113
            refine ok_lq (Q := fun v => ir v 16) (ir_or16 ax3 (by decide)) (fun v1 q100214 => ?_)
            refine ok_lq (Q := fun v => v.toInt = x4.toInt + 1) (inc (by omega)) (fun v2 e100215 => ?_)
            exact ih _ _ _ _ hK (by first | assumption | omega | exact ⟨by omega, by omega⟩ | exact Or.inl (eqm1 (by omega))) q100214 (by omega)
theorem o_fX8_outcome {σ0 σ : St} {a1 : Int32} {a2 : Int32} (hK : K σ0 σ) : ok (fX8_outcome σ a1 a2) (fun p => True ∧ K σ0 p.2) := by
  have hFU : FU = 100000 := rfl
  unfold fX8_outcome
  refine ok_bz (ok_isC8 hK (Int32.toInt_toInt64 _)) ?_ (fun i100216 => ?_)
  · skip
    exact ok_some ⟨trivial, hK⟩
  · skip
    have i100216l := i100216.1
    have i100216u := i100216.2
    have i100216c := hK.cl8
    refine ok_bz (ok_in (v := 0) (w := 1) (Int32.toInt_toInt64 _) rfl rfl) ?_ (fun i100217 => ?_)
    · skip
      exact ok_some ⟨trivial, hK⟩
    · skip
      have i100217l := i100217.1
      have i100217u := i100217.2
      refine ok_bp (o_fX8_fillDoubt hK ⟨by omega, by omega⟩) (fun σ8 hK8 => ?_)
      refine ok_lq (Q := fun v => v.toInt = 0) rfl (fun v9 e100218 => ?_)
      refine ok_lq (Q := fun v => v.toInt = 0) rfl (fun v10 e100219 => ?_)
      exact ol_fX8_outcome_l33  FU _ _ _ _ hK8 (by first | assumption | omega | exact ⟨by omega, by omega⟩ | exact Or.inl (eqm1 (by omega))) ⟨by omega, by omega⟩ (by omega)
theorem ol8_readRow {σ0 : St} {a : Int32} (ha : ir a 4) (hr : RS8 σ0 a.toNatClampNeg) : ∀ (n : Nat) (σ : St), K σ0 σ → 0 ≤ (σ.1 62 19).toInt → (σ.1 62 19).toInt ≤ 60 → ((σ.1 62 19).toInt = 0 ∨ (σ.1 62 19).toInt ≤ (σ0.1 78 a.toNatClampNeg).toInt) → (61 - (σ.1 62 19).toInt).toNat < n → ok (fX8_readRow_l13 n σ a) (fun τ => K σ0 τ ∧ 0 ≤ (τ.1 62 19).toInt ∧ (τ.1 62 19).toInt ≤ 60 ∧ ((τ.1 62 19).toInt = 0 ∨ (τ.1 62 19).toInt ≤ (σ0.1 78 a.toNatClampNeg).toInt)) := by
  intro n
  induction n with
  | zero => intro σ _ _ _ _ h; omega
  | succ n ih =>
    intro σ hK h0 h1 h2 hm
    show ok (fX8_readRow_B13 (fX8_readRow_l13 n) σ a) _
    unfold fX8_readRow_B13
    have cm := hK.mny ha
    have em : σ.1 78 a.toNatClampNeg = σ0.1 78 a.toNatClampNeg := hK.my0 _
    refine ok_gd ha (ok_le rfl rfl (fun _ => ok_some ⟨hK, h0, h1, h2⟩) (fun hlt => ?_))
    have hi : ir (σ.1 62 19) 60 := ⟨h0, by show _ < (60 : Int); omega⟩
    refine ok_bp (o8_numberAt ha hi) (fun r1 q1 => ok_bz (o8_goes hK (rs8n hK hr h0 hlt q1)) (ok_some ⟨hK, h0, h1, h2⟩) (fun _ => ok_bp (o8_numberAt ha hi) (fun r3 q3 => ok_bp (o8_ofGives hK (rs8n hK hr h0 hlt q3)) (fun r4 q4 => ok_lv (fun σ5 e5 => ok_lv (fun σ6 e6 => ?_))))))
    have hK5 : K σ0 σ5 := hK.setv rfl e5
    have hK6 : K σ0 σ6 := hK5.setv rfl e6
    have v5 : σ5.1 62 19 = σ.1 62 19 := by rw [e5, setI_eq (by omega)]
    have v6 : (σ6.1 62 19).toInt = (σ.1 62 19).toInt + 1 := by
      rw [e6, setI_at, v5]
      exact inc (by omega)
    rw [em] at hlt cm
    exact ih σ6 hK6 (by omega) (by omega) (by omega) (by omega)
theorem o8_readRowX {σ0 σ : St} {a1 : Int32} (hK : K σ0 σ) (ha : ir a1 4) (hr : RS8 σ0 a1.toNatClampNeg) : ok (fX8_readRow σ a1) (fun τ => K σ0 τ ∧ 0 ≤ (τ.1 62 19).toInt ∧ (τ.1 62 19).toInt ≤ 60 ∧ ((τ.1 62 19).toInt = 0 ∨ (τ.1 62 19).toInt ≤ (σ0.1 78 a1.toNatClampNeg).toInt)) := by
  unfold fX8_readRow
  refine ok_bp (o_fX8_saltNow hK) (fun r7 _ => ok_lv (fun σ8 e8 => ok_lv (fun σ9 e9 => ?_)))
  have hK8 : K σ0 σ8 := hK.setv rfl e8
  have hK9 : K σ0 σ9 := hK8.setv rfl e9
  have v9 : σ9.1 62 19 = 0 := by rw [e9, setI_at]
  have z : (0 : Int32).toInt = 0 := rfl
  exact ol8_readRow ha hr FU σ9 hK9 (by rw [v9]; decide) (by rw [v9]; decide) (Or.inl (by rw [v9]; rfl)) (by rw [v9]; decide)
theorem o8_readRow {σ0 σ : St} {a1 : Int32} (hK : K σ0 σ) (ha : ir a1 4) (hr : RS8 σ0 a1.toNatClampNeg) : ok (fX8_readRow σ a1) (fun τ => K σ0 τ) := ok_mono (o8_readRowX hK ha hr) (fun _ h => h.1)
theorem ol_fX8_saltedBy_l7 {σ0 σ : St} (hK : K σ0 σ) : ∀ (n : Nat) (x1 : Int32) (x2 : Int32) (x3 : Int32), 0 ≤ x3.toInt → ir x2 65536 → (12 + 1 - x3.toInt).toNat < n → ok (fX8_saltedBy_l7 σ n x1 x2 x3) (fun r => ir r 65536) := by
  have hFU : FU = 100000 := rfl
  intro n
  induction n with
  | zero => intro x1 x2 x3 hx3 ax2 hm; omega
  | succ n ih =>
    intro x1 x2 x3 hx3 ax2 hm
    have ax2l := ax2.1
    have ax2u := ax2.2
    show ok (fX8_saltedBy_B7 σ (fX8_saltedBy_l7 σ n) x1 x2 x3) _
    unfold fX8_saltedBy_B7
    have c100220 := hK.cl8
    refine ok_gd (by decide) ?_
    refine ok_le rfl rfl (fun h100221 => ?_) (fun h100221 => ?_)
    · skip
      exact ok_some ax2
    · skip
      refine ok_bp ok_bit8 (fun r3 q100222 => ?_)
      refine ok_eq (n := 1) rfl rfl (fun h100223e h100223 => ?_) (fun h100223e h100223 => ?_)
      · skip
        refine ok_bp (o8_ofClaim ⟨by omega, by omega⟩ (by decide) (by decide)) (fun r5 q100224 => ?_)
        unfold fX8_saltedBy_b40
        refine ok_lq (Q := fun v => ir v 65536) (ir_andN' ax2) (fun v1 q100225 => ?_)
        refine ok_lq (Q := fun v => v.toInt = x3.toInt + 1) (inc (by omega)) (fun v2 e100226 => ?_)
        exact ih _ _ _ (by first | assumption | omega | exact ⟨by omega, by omega⟩ | exact Or.inl (eqm1 (by omega))) q100225 (by omega)
      · skip
        refine ok_bp (o8_allWorlds hK) (fun r4 q100227 => ?_)
        have q100227l := q100227.1
        have q100227u := q100227.2
        unfold fX8_saltedBy_b40
        refine ok_lq (Q := fun v => ir v 65536) (ir_andN q100227) (fun v1 q100228 => ?_)
        refine ok_lq (Q := fun v => v.toInt = x3.toInt + 1) (inc (by omega)) (fun v2 e100229 => ?_)
        exact ih _ _ _ (by first | assumption | omega | exact ⟨by omega, by omega⟩ | exact Or.inl (eqm1 (by omega))) q100228 (by omega)
theorem o_fX8_saltedBy {σ0 σ : St} {a1 : Int32} (hK : K σ0 σ) : ok (fX8_saltedBy σ a1) (fun r => ir r 65536) := by
  have hFU : FU = 100000 := rfl
  unfold fX8_saltedBy
  refine ok_bp (o8_allWorlds hK) (fun r6 q100230 => ?_)
  have q100230l := q100230.1
  have q100230u := q100230.2
  refine ok_lt ?_
  refine ok_lq (Q := fun v => v.toInt = 0) rfl (fun v8 e100231 => ?_)
  exact ol_fX8_saltedBy_l7 hK FU _ _ _ (by first | assumption | omega | exact ⟨by omega, by omega⟩ | exact Or.inl (eqm1 (by omega))) q100230 (by omega)
theorem ol_fX8_strengthOf_l4 {σ0 σ : St} (hK : K σ0 σ) : ∀ (n : Nat) (x1 : Int32) (x2 : Int32) (x3 : Int32), 0 ≤ x3.toInt → (5 + 1 - x3.toInt).toNat < n → ok (fX8_strengthOf_l4 σ n x1 x2 x3) (fun _ => True) := by
  have hFU : FU = 100000 := rfl
  intro n
  induction n with
  | zero => intro x1 x2 x3 hx3 hm; omega
  | succ n ih =>
    intro x1 x2 x3 hx3 hm
    show ok (fX8_strengthOf_B4 σ (fX8_strengthOf_l4 σ n) x1 x2 x3) _
    unfold fX8_strengthOf_B4
    have c100232 := hK.gu8
    refine ok_gd (by decide) ?_
    refine ok_le rfl rfl (fun h100233 => ?_) (fun h100233 => ?_)
    · skip
      exact ok_some trivial
    · skip
      refine ok_bp ok_bit8 (fun r3 q100234 => ?_)
      refine ok_eq (n := 1) rfl rfl (fun h100235e h100235 => ?_) (fun h100235e h100235 => ?_)
      · skip
        refine ok_bp (o8_canDo hK ⟨by omega, by omega⟩) (fun r4 q100236 => ?_)
        unfold fX8_strengthOf_b33
        refine ok_la (fun v1 => ?_)
        refine ok_lq (Q := fun v => v.toInt = x3.toInt + 1) (inc (by omega)) (fun v2 e100238 => ?_)
        exact ih _ _ _ (by first | assumption | omega | exact ⟨by omega, by omega⟩ | exact Or.inl (eqm1 (by omega))) (by omega)
      · skip
        unfold fX8_strengthOf_b33
        refine ok_la (fun v1 => ?_)
        refine ok_lq (Q := fun v => v.toInt = x3.toInt + 1) (inc (by omega)) (fun v2 e100240 => ?_)
        exact ih _ _ _ (by first | assumption | omega | exact ⟨by omega, by omega⟩ | exact Or.inl (eqm1 (by omega))) (by omega)
theorem o_fX8_strengthOf {σ0 σ : St} {a1 : Int32} (hK : K σ0 σ) : ok (fX8_strengthOf σ a1) (fun _ => True) := by
  have hFU : FU = 100000 := rfl
  unfold fX8_strengthOf
  refine ok_lq (Q := fun v => v.toInt = 0) rfl (fun v5 e100241 => ?_)
  refine ok_lq (Q := fun v => v.toInt = 0) rfl (fun v6 e100242 => ?_)
  exact ol_fX8_strengthOf_l4 hK FU _ _ _ (by first | assumption | omega | exact ⟨by omega, by omega⟩ | exact Or.inl (eqm1 (by omega))) (by omega)
theorem ol_fX8_borrowed_l37 {σ0 σ : St} (hK : K σ0 σ) : ∀ (n : Nat) (x1 : Int32) (x4 : Int32) (x5 : Int32), 0 ≤ x5.toInt → ir x1 4 → (60 + 1 - x5.toInt).toNat < n → ok (fX8_borrowed_l37 σ n x1 x4 x5) (fun _ => True) := by
  have hFU : FU = 100000 := rfl
  intro n
  induction n with
  | zero => intro x1 x4 x5 hx5 ax1 hm; omega
  | succ n ih =>
    intro x1 x4 x5 hx5 ax1 hm
    have ax1l := ax1.1
    have ax1u := ax1.2
    have cm := hK.mny ax1
    show ok (fX8_borrowed_B37 σ (fX8_borrowed_l37 σ n) x1 x4 x5) _
    unfold fX8_borrowed_B37
    refine ok_gd ax1 ?_
    refine ok_le rfl rfl (fun h100243 => ?_) (fun h100243 => ?_)
    · skip
      exact ok_some trivial
    · skip
      refine ok_bp (o8_numberAt ax1 ⟨by omega, by omega⟩) (fun r1 q100244 => ?_)
      refine ok_bp ok_bit8 (fun r2 q100245 => ?_)
      refine ok_eq (n := 0) rfl rfl (fun h100246e h100246 => ?_) (fun h100246e h100246 => ?_)
      · skip
        refine ok_bp (o8_numberAt ax1 ⟨by omega, by omega⟩) (fun r4 q100247 => ?_)
        exact ok_some trivial
      · skip
        refine ok_lq (Q := fun v => v.toInt = x5.toInt + 1) (inc (by omega)) (fun v3 e100248 => ?_)
        exact ih _ _ _ (by first | assumption | omega | exact ⟨by omega, by omega⟩ | exact Or.inl (eqm1 (by omega))) ax1 (by omega)
theorem o_fX8_borrowed {σ0 σ : St} {a1 : Int32} {a2 : Int32} (hK : K σ0 σ) : ok (fX8_borrowed σ a1 a2) (fun _ => True) := by
  have hFU : FU = 100000 := rfl
  unfold fX8_borrowed
  refine ok_bp (ok_isG8 hK (Int32.toInt_toInt64 _)) (fun r5 q100249 => ?_)
  refine ok_bp (o8_asksEaten hK) (fun r6 q100250 => ?_)
  refine ok_lt ?_
  refine ok_le (m := 0) rfl rfl (fun h100251 => ?_) (fun h100251 => ?_)
  · skip
    have h100251a := q100250 h100251
    have h100251s := h100251a.1
    have h100251i := ((q100249).resolve_left h100251a.2).2
    have h100251il := h100251i.1
    have h100251iu := h100251i.2
    have h100251ic := hK.gu8
    refine ok_bp (o_fX8_saltNow hK) (fun r8 q100252 => ?_)
    have q100252l := q100252.1
    have q100252u := q100252.2
    refine ok_bp (o8_ofGuest ⟨by omega, by omega⟩ (by decide) (by decide)) (fun r9 q100253 => ?_)
    refine ok_bp (o8_provedBy hK) (fun r10 q100254 => ?_)
    refine ok_lt ?_
    refine ok_lq (Q := fun v => v.toInt = 0) rfl (fun v12 e100255 => ?_)
    exact ol_fX8_borrowed_l37 hK FU _ _ _ (by first | assumption | omega | exact ⟨by omega, by omega⟩ | exact Or.inl (eqm1 (by omega))) h100251s (by omega)
  · skip
    exact ok_some trivial
theorem o_fX8_busy {σ0 σ : St} {a1 : Int32} {a2 : Int32} {a3 : Int32} (hK : K σ0 σ) : ok (fX8_busy σ a1 a2 a3) (fun p => True ∧ K σ0 p.2) := by
  have hFU : FU = 100000 := rfl
  unfold fX8_busy
  refine ok_bz (ok_isG8 hK (Int32.toInt_toInt64 _)) ?_ (fun i100256 => ?_)
  · skip
    unfold fX8_busy_b25
    unfold fX8_busy_b26
    refine ok_bp (o8_asksKitchen hK) (fun r1 q100257 => ?_)
    refine ok_lt ?_
    refine ok_le (m := 0) rfl rfl (fun h100258 => ?_) (fun h100258 => ?_)
    · skip
      have h100258a := q100257 h100258
      have h100258s := h100258a.1
      exact absurd rfl h100258a.2.1
    · skip
      exact ok_some ⟨trivial, hK⟩
  · skip
    have i100256l := i100256.1
    have i100256u := i100256.2
    have i100256c := hK.gu8
    refine ok_bz (ok_in (v := 0) (w := 1) (Int32.toInt_toInt64 _) rfl rfl) ?_ (fun i100259 => ?_)
    · skip
      unfold fX8_busy_b25
      unfold fX8_busy_b26
      refine ok_bp (o8_asksKitchen hK) (fun r1 q100260 => ?_)
      refine ok_lt ?_
      refine ok_le (m := 0) rfl rfl (fun h100261 => ?_) (fun h100261 => ?_)
      · skip
        have h100261a := q100260 h100261
        have h100261s := h100261a.1
        exact absurd rfl h100261a.2.1
      · skip
        exact ok_some ⟨trivial, hK⟩
    · skip
      have i100259l := i100259.1
      have i100259u := i100259.2
      unfold fX8_busy_b26
      refine ok_bp (o8_asksKitchen hK) (fun r1 q100262 => ?_)
      refine ok_lt ?_
      refine ok_le (m := 0) rfl rfl (fun h100263 => ?_) (fun h100263 => ?_)
      · skip
        have h100263a := q100262 h100263
        have h100263s := h100263a.1
        have h100263r := h100263a.2.2
        refine ok_bp (o8_goKitchen hK h100263s h100263r) (fun σ3 hK3 => ?_)
        refine ok_eq (n := 0) rfl rfl (fun h100264e h100264 => ?_) (fun h100264e h100264 => ?_)
        · skip
          refine ok_gd ⟨by omega, by omega⟩ ?_
          exact ok_some ⟨trivial, hK3⟩
        · skip
          refine ok_gd ⟨by omega, by omega⟩ ?_
          refine ok_gd ⟨by omega, by omega⟩ ?_
          exact ok_some ⟨trivial, hK3⟩
      · skip
        exact ok_some ⟨trivial, hK⟩
theorem ol_fX8_coreOf_l9 {σ0 σ : St} (hK : K σ0 σ) : ∀ (n : Nat) (x1 : Int32) (x2 : Int32) (x3 : Int32), 0 ≤ x3.toInt → ir x1 4096 → (4096 + 1 - x3.toInt).toNat < n → ok (fX8_coreOf_l9 σ n x1 x2 x3) (fun _ => True) := by
  have hFU : FU = 100000 := rfl
  intro n
  induction n with
  | zero => intro x1 x2 x3 hx3 ax1 hm; omega
  | succ n ih =>
    intro x1 x2 x3 hx3 ax1 hm
    have ax1l := ax1.1
    have ax1u := ax1.2
    show ok (fX8_coreOf_B9 σ (fX8_coreOf_l9 σ n) x1 x2 x3) _
    unfold fX8_coreOf_B9
    refine ok_lw rfl rfl (fun h100265 => ?_) (fun h100265 => ?_)
    · skip
      exact ok_some trivial
    · skip
      refine ok_eq (n := 0) rfl rfl (fun h100266e h100266 => ?_) (fun h100266e h100266 => ?_)
      · skip
        refine ok_eq (n := -1) rfl rfl (fun h100267e h100267 => ?_) (fun h100267e h100267 => ?_)
        · skip
          unfold fX8_coreOf_b38
          refine ok_bp (o_fX8_saltedBy hK) (fun r1 q100268 => ?_)
          have q100268l := q100268.1
          have q100268u := q100268.2
          refine ok_eq (n := 0) rfl rfl (fun h100269e h100269 => ?_) (fun h100269e h100269 => ?_)
          · skip
            refine ok_lt ?_
            refine ok_lq (Q := fun v => v.toInt = x3.toInt + 1) (inc (by omega)) (fun v4 e100270 => ?_)
            exact ih _ _ _ (by first | assumption | omega | exact ⟨by omega, by omega⟩ | exact Or.inl (eqm1 (by omega))) ax1 (by omega)
          · skip
            refine ok_lq (Q := fun v => v.toInt = x3.toInt + 1) (inc (by omega)) (fun v2 e100271 => ?_)
            exact ih _ _ _ (by first | assumption | omega | exact ⟨by omega, by omega⟩ | exact Or.inl (eqm1 (by omega))) ax1 (by omega)
        · skip
          refine ok_bp (o8_bits _) (fun r6 q100272 => ?_)
          have q100272l := q100272.1
          have q100272u := q100272.2
          refine ok_bp (o8_bits _) (fun r7 q100273 => ?_)
          have q100273l := q100273.1
          have q100273u := q100273.2
          refine ok_le rfl rfl (fun h100274 => ?_) (fun h100274 => ?_)
          · skip
            refine ok_lq (Q := fun v => v.toInt = x3.toInt + 1) (inc (by omega)) (fun v8 e100275 => ?_)
            exact ih _ _ _ (by first | assumption | omega | exact ⟨by omega, by omega⟩ | exact Or.inl (eqm1 (by omega))) ax1 (by omega)
          · skip
            unfold fX8_coreOf_b38
            refine ok_bp (o_fX8_saltedBy hK) (fun r1 q100276 => ?_)
            have q100276l := q100276.1
            have q100276u := q100276.2
            refine ok_eq (n := 0) rfl rfl (fun h100277e h100277 => ?_) (fun h100277e h100277 => ?_)
            · skip
              refine ok_lt ?_
              refine ok_lq (Q := fun v => v.toInt = x3.toInt + 1) (inc (by omega)) (fun v4 e100278 => ?_)
              exact ih _ _ _ (by first | assumption | omega | exact ⟨by omega, by omega⟩ | exact Or.inl (eqm1 (by omega))) ax1 (by omega)
            · skip
              refine ok_lq (Q := fun v => v.toInt = x3.toInt + 1) (inc (by omega)) (fun v2 e100279 => ?_)
              exact ih _ _ _ (by first | assumption | omega | exact ⟨by omega, by omega⟩ | exact Or.inl (eqm1 (by omega))) ax1 (by omega)
      · skip
        refine ok_lq (Q := fun v => v.toInt = x3.toInt + 1) (inc (by omega)) (fun v5 e100280 => ?_)
        exact ih _ _ _ (by first | assumption | omega | exact ⟨by omega, by omega⟩ | exact Or.inl (eqm1 (by omega))) ax1 (by omega)
theorem o_fX8_coreOf {σ0 σ : St} (hK : K σ0 σ) : ok (fX8_coreOf σ) (fun _ => True) := by
  have hFU : FU = 100000 := rfl
  unfold fX8_coreOf
  refine ok_bp (o_fX8_saltNow hK) (fun r9 q100281 => ?_)
  have q100281l := q100281.1
  have q100281u := q100281.2
  refine ok_lt ?_
  refine ok_lq (Q := fun v => v.toInt = -1) rfl (fun v11 e100282 => ?_)
  refine ok_lq (Q := fun v => v.toInt = 0) rfl (fun v12 e100283 => ?_)
  exact ol_fX8_coreOf_l9 hK FU _ _ _ (by first | assumption | omega | exact ⟨by omega, by omega⟩ | exact Or.inl (eqm1 (by omega))) q100281 (by omega)
theorem o_fX8_duel {σ0 σ : St} (hK : K σ0 σ) : ok (fX8_duel σ) (fun p => True ∧ K σ0 p.2) := by
  have hFU : FU = 100000 := rfl
  unfold fX8_duel
  refine ok_bz ok_isT8 ?_ (fun i100284 => ?_)
  · skip
    exact ok_some ⟨trivial, hK⟩
  · skip
    refine ok_bp (o_fX8_fillDuel hK) (fun σ2 hK2 => ?_)
    refine ok_bp (o_fX8_saltNow hK2) (fun r3 q100285 => ?_)
    have q100285l := q100285.1
    have q100285u := q100285.2
    refine ok_gd q100285 ?_
    refine ok_le (n := 0) rfl rfl (fun h100286 => ?_) (fun h100286 => ?_)
    · skip
      exact ok_some ⟨trivial, hK2⟩
    · skip
      exact ok_some ⟨trivial, hK2⟩
theorem ol_fX8_eats_l50 {σ0 σ : St} (hK : K σ0 σ) : ∀ (n : Nat) (x1 : Int32) (x2 : Int32) (x4 : Int32) (x5 : Int32) (x6 : Int32) (x7 : Int32), 0 ≤ x7.toInt → ir x1 4 → ir x2 5 → RS8 σ0 x1.toNatClampNeg → (60 + 1 - x7.toInt).toNat < n → ok (fX8_eats_l50 σ n x1 x2 x4 x5 x6 x7) (fun _ => True) := by
  have hFU : FU = 100000 := rfl
  intro n
  induction n with
  | zero => intro x1 x2 x4 x5 x6 x7 hx7 ax1 ax2 hr hm; omega
  | succ n ih =>
    intro x1 x2 x4 x5 x6 x7 hx7 ax1 ax2 hr hm
    have ax1l := ax1.1
    have ax1u := ax1.2
    have ax2l := ax2.1
    have ax2u := ax2.2
    have cm := hK.mny ax1
    show ok (fX8_eats_B50 σ (fX8_eats_l50 σ n) x1 x2 x4 x5 x6 x7) _
    unfold fX8_eats_B50
    refine ok_gd ax1 ?_
    refine ok_le rfl rfl (fun h100287 => ?_) (fun h100287 => ?_)
    · skip
      exact ok_some trivial
    · skip
      refine ok_bp (o8_numberAt ax1 ⟨by omega, by omega⟩) (fun r1 q100288 => ?_)
      refine ok_lq (Q := fun v => ir v 12) (rs8n hK hr (by omega) (by omega) q100288) (fun v2 q100289 => ?_)
      refine ok_bz (o8_goes hK q100289) ?_ (fun i100290 => ?_)
      · skip
        exact ok_some trivial
      · skip
        refine ok_bp (o8_ofGuest ax2 (by decide) (by decide)) (fun r4 q100291 => ?_)
        refine ok_bp ok_bit8 (fun r5 q100292 => ?_)
        refine ok_eq (n := 0) rfl rfl (fun h100293e h100293 => ?_) (fun h100293e h100293 => ?_)
        · skip
          exact ok_some trivial
        · skip
          refine ok_eq (n := 0) rfl rfl (fun h100294e h100294 => ?_) (fun h100294e h100294 => ?_)
          · skip
            exact ok_some trivial
          · skip
            refine ok_bp (o8_ofGives hK q100289) (fun r6 q100295 => ?_)
            have q100295l := q100295.1
            have q100295u := q100295.2
            refine ok_la (fun v7 => ?_)
            refine ok_bp (o8_ofGives hK q100289) (fun r8 q100297 => ?_)
            have q100297l := q100297.1
            have q100297u := q100297.2
            refine ok_bp (o8_ofClaim q100297 (by decide) (by decide)) (fun r9 q100298 => ?_)
            refine ok_la (fun v10 => ?_)
            refine ok_la (fun v11 => ?_)
            refine ok_lq (Q := fun v => v.toInt = x7.toInt + 1) (inc (by omega)) (fun v12 e100301 => ?_)
            exact ih _ _ _ _ _ _ (by first | assumption | omega | exact ⟨by omega, by omega⟩ | exact Or.inl (eqm1 (by omega))) ax1 ax2 (by first | assumption | omega | exact ⟨by omega, by omega⟩ | exact Or.inl (eqm1 (by omega))) (by omega)
theorem o_fX8_eats {σ0 σ : St} {a1 : Int32} {a2 : Int32} (hK : K σ0 σ) : ok (fX8_eats σ a1 a2) (fun _ => True) := by
  have hFU : FU = 100000 := rfl
  unfold fX8_eats
  refine ok_bp (ok_isG8 hK (Int32.toInt_toInt64 _)) (fun r13 q100302 => ?_)
  refine ok_bp (o8_asksRow hK) (fun r14 q100303 => ?_)
  refine ok_lt ?_
  refine ok_le (m := 0) rfl rfl (fun h100304 => ?_) (fun h100304 => ?_)
  · skip
    have h100304a := q100303 h100304
    have h100304s := h100304a.1
    have h100304r := h100304a.2.2.1
    have h100304i := ((q100302).resolve_left h100304a.2.1).2
    have h100304il := h100304i.1
    have h100304iu := h100304i.2
    have h100304ic := hK.gu8
    refine ok_bp (o_fX8_saltNow hK) (fun r16 q100305 => ?_)
    have q100305l := q100305.1
    have q100305u := q100305.2
    refine ok_lt ?_
    refine ok_lq (Q := fun v => v.toInt = 0) rfl (fun v18 e100306 => ?_)
    refine ok_bp (o8_canDo hK ⟨by omega, by omega⟩) (fun r19 q100307 => ?_)
    refine ok_lt ?_
    refine ok_lq (Q := fun v => v.toInt = 0) rfl (fun v21 e100308 => ?_)
    exact ol_fX8_eats_l50 hK FU _ _ _ _ _ _ (by first | assumption | omega | exact ⟨by omega, by omega⟩ | exact Or.inl (eqm1 (by omega))) h100304s ⟨by omega, by omega⟩ (by first | assumption | omega | exact ⟨by omega, by omega⟩ | exact Or.inl (eqm1 (by omega))) (by omega)
  · skip
    refine ok_eq (n := -6) rfl rfl (fun h100309e h100309 => ?_) (fun h100309e h100309 => ?_)
    · skip
      exact ok_some trivial
    · skip
      exact ok_some trivial
theorem o_fX8_falseIn {σ0 σ : St} {a1 : Int32} (hK : K σ0 σ) (pa1 : ir a1 12) : ok (fX8_falseIn σ a1) (fun _ => True) := by
  have hFU : FU = 100000 := rfl
  have pa1l := pa1.1
  have pa1u := pa1.2
  unfold fX8_falseIn
  refine ok_bp (o8_ofStep pa1 (by decide) (by decide)) (fun r1 q100310 => ?_)
  refine ok_bp (o_fX8_saltedBy hK) (fun r2 q100311 => ?_)
  have q100311l := q100311.1
  have q100311u := q100311.2
  refine ok_bp (o8_ofGives hK pa1) (fun r3 q100312 => ?_)
  have q100312l := q100312.1
  have q100312u := q100312.2
  refine ok_bp (o8_ofClaim q100312 (by decide) (by decide)) (fun r4 q100313 => ?_)
  exact ok_some trivial
theorem ol_fX8_fewestSteps_l6 {σ0 σ : St} (hK : K σ0 σ) : ∀ (n : Nat) (x1 : Int32) (x2 : Int32) (x3 : Int32) (x4 : Int32) (x5 : Int32), 0 ≤ x5.toInt → (4097 + 1 - x5.toInt).toNat < n → ok (fX8_fewestSteps_l6 σ n x1 x2 x3 x4 x5) (fun _ => True) := by
  have hFU : FU = 100000 := rfl
  intro n
  induction n with
  | zero => intro x1 x2 x3 x4 x5 hx5 hm; omega
  | succ n ih =>
    intro x1 x2 x3 x4 x5 hx5 hm
    show ok (fX8_fewestSteps_B6 σ (fX8_fewestSteps_l6 σ n) x1 x2 x3 x4 x5) _
    unfold fX8_fewestSteps_B6
    refine ok_bp (o_fX8_allSteps hK) (fun r6 q100314 => ?_)
    have q100314l := q100314.1
    have q100314u := q100314.2
    refine ok_lw rfl rfl (fun h100315 => ?_) (fun h100315 => ?_)
    · skip
      exact ok_some trivial
    · skip
      refine ok_eq (n := 0) rfl rfl (fun h100316e h100316 => ?_) (fun h100316e h100316 => ?_)
      · skip
        refine ok_eq (n := -1) rfl rfl (fun h100317e h100317 => ?_) (fun h100317e h100317 => ?_)
        · skip
          unfold fX8_fewestSteps_b46
          refine ok_bp (o8_provedBy hK) (fun r1 q100318 => ?_)
          refine ok_eq (n := 0) rfl rfl (fun h100319e h100319 => ?_) (fun h100319e h100319 => ?_)
          · skip
            refine ok_lt ?_
            refine ok_lq (Q := fun v => v.toInt = x5.toInt + 1) (inc (by omega)) (fun v5 e100320 => ?_)
            exact ih _ _ _ _ _ (by first | assumption | omega | exact ⟨by omega, by omega⟩ | exact Or.inl (eqm1 (by omega))) (by omega)
          · skip
            refine ok_lt ?_
            refine ok_lq (Q := fun v => v.toInt = x5.toInt + 1) (inc (by omega)) (fun v3 e100321 => ?_)
            exact ih _ _ _ _ _ (by first | assumption | omega | exact ⟨by omega, by omega⟩ | exact Or.inl (eqm1 (by omega))) (by omega)
        · skip
          refine ok_bp (o8_bits _) (fun r8 q100322 => ?_)
          have q100322l := q100322.1
          have q100322u := q100322.2
          refine ok_bp (o8_bits _) (fun r9 q100323 => ?_)
          have q100323l := q100323.1
          have q100323u := q100323.2
          refine ok_lw rfl rfl (fun h100324 => ?_) (fun h100324 => ?_)
          · skip
            unfold fX8_fewestSteps_b46
            refine ok_bp (o8_provedBy hK) (fun r1 q100325 => ?_)
            refine ok_eq (n := 0) rfl rfl (fun h100326e h100326 => ?_) (fun h100326e h100326 => ?_)
            · skip
              refine ok_lt ?_
              refine ok_lq (Q := fun v => v.toInt = x5.toInt + 1) (inc (by omega)) (fun v5 e100327 => ?_)
              exact ih _ _ _ _ _ (by first | assumption | omega | exact ⟨by omega, by omega⟩ | exact Or.inl (eqm1 (by omega))) (by omega)
            · skip
              refine ok_lt ?_
              refine ok_lq (Q := fun v => v.toInt = x5.toInt + 1) (inc (by omega)) (fun v3 e100328 => ?_)
              exact ih _ _ _ _ _ (by first | assumption | omega | exact ⟨by omega, by omega⟩ | exact Or.inl (eqm1 (by omega))) (by omega)
          · skip
            refine ok_lq (Q := fun v => v.toInt = x5.toInt + 1) (inc (by omega)) (fun v10 e100329 => ?_)
            exact ih _ _ _ _ _ (by first | assumption | omega | exact ⟨by omega, by omega⟩ | exact Or.inl (eqm1 (by omega))) (by omega)
      · skip
        refine ok_lq (Q := fun v => v.toInt = x5.toInt + 1) (inc (by omega)) (fun v7 e100330 => ?_)
        exact ih _ _ _ _ _ (by first | assumption | omega | exact ⟨by omega, by omega⟩ | exact Or.inl (eqm1 (by omega))) (by omega)
theorem o_fX8_fewestSteps {σ0 σ : St} {a1 : Int32} {a2 : Int32} {a3 : Int32} (hK : K σ0 σ) : ok (fX8_fewestSteps σ a1 a2 a3) (fun _ => True) := by
  have hFU : FU = 100000 := rfl
  unfold fX8_fewestSteps
  refine ok_lq (Q := fun v => v.toInt = -1) rfl (fun v11 e100331 => ?_)
  refine ok_lq (Q := fun v => v.toInt = 0) rfl (fun v12 e100332 => ?_)
  exact ol_fX8_fewestSteps_l6 hK FU _ _ _ _ _ (by first | assumption | omega | exact ⟨by omega, by omega⟩ | exact Or.inl (eqm1 (by omega))) (by omega)
theorem ol_fX8_idle_l14 {σ0 σ : St} (hK : K σ0 σ) : ∀ (n : Nat) (x1 : Int32) (x2 : Int32), 0 ≤ x2.toInt → (12 + 1 - x2.toInt).toNat < n → ok (fX8_idle_l14 σ n x1 x2) (fun _ => True) := by
  have hFU : FU = 100000 := rfl
  intro n
  induction n with
  | zero => intro x1 x2 hx2 hm; omega
  | succ n ih =>
    intro x1 x2 hx2 hm
    show ok (fX8_idle_B14 σ (fX8_idle_l14 σ n) x1 x2) _
    unfold fX8_idle_B14
    have c100333 := hK.cl8
    refine ok_gd (by decide) ?_
    refine ok_le rfl rfl (fun h100334 => ?_) (fun h100334 => ?_)
    · skip
      exact ok_some trivial
    · skip
      refine ok_bp (o_fX8_saltNow hK) (fun r3 q100335 => ?_)
      have q100335l := q100335.1
      have q100335u := q100335.2
      refine ok_bp ok_bit8 (fun r4 q100336 => ?_)
      refine ok_eq (n := 1) rfl rfl (fun h100337e h100337 => ?_) (fun h100337e h100337 => ?_)
      · skip
        refine ok_bp (o_fX8_saltNow hK) (fun r5 q100338 => ?_)
        have q100338l := q100338.1
        have q100338u := q100338.2
        refine ok_bp (o_fX8_saltedBy hK) (fun r6 q100339 => ?_)
        have q100339l := q100339.1
        have q100339u := q100339.2
        refine ok_bp (o8_ofClaim ⟨by omega, by omega⟩ (by decide) (by decide)) (fun r7 q100340 => ?_)
        refine ok_eq (n := 0) rfl rfl (fun h100341e h100341 => ?_) (fun h100341e h100341 => ?_)
        · skip
          unfold fX8_idle_b70
          refine ok_la (fun v1 => ?_)
          refine ok_lq (Q := fun v => v.toInt = x2.toInt + 1) (inc (by omega)) (fun v2 e100343 => ?_)
          exact ih _ _ (by first | assumption | omega | exact ⟨by omega, by omega⟩ | exact Or.inl (eqm1 (by omega))) (by omega)
        · skip
          unfold fX8_idle_b69
          unfold fX8_idle_b70
          refine ok_la (fun v1 => ?_)
          refine ok_lq (Q := fun v => v.toInt = x2.toInt + 1) (inc (by omega)) (fun v2 e100345 => ?_)
          exact ih _ _ (by first | assumption | omega | exact ⟨by omega, by omega⟩ | exact Or.inl (eqm1 (by omega))) (by omega)
      · skip
        unfold fX8_idle_b69
        unfold fX8_idle_b70
        refine ok_la (fun v1 => ?_)
        refine ok_lq (Q := fun v => v.toInt = x2.toInt + 1) (inc (by omega)) (fun v2 e100347 => ?_)
        exact ih _ _ (by first | assumption | omega | exact ⟨by omega, by omega⟩ | exact Or.inl (eqm1 (by omega))) (by omega)
theorem o_fX8_idle {σ0 σ : St} (hK : K σ0 σ) : ok (fX8_idle σ) (fun _ => True) := by
  have hFU : FU = 100000 := rfl
  unfold fX8_idle
  refine ok_bz ok_isT8 ?_ (fun i100348 => ?_)
  · skip
    exact ok_some trivial
  · skip
    refine ok_lq (Q := fun v => v.toInt = 0) rfl (fun v9 e100349 => ?_)
    refine ok_lq (Q := fun v => v.toInt = 0) rfl (fun v10 e100350 => ?_)
    exact ol_fX8_idle_l14 hK FU _ _ (by first | assumption | omega | exact ⟨by omega, by omega⟩ | exact Or.inl (eqm1 (by omega))) (by omega)
theorem o_fX8_isProvedBy {σ0 σ : St} {a1 : Int32} {a2 : Int32} (hK : K σ0 σ) : ok (fX8_isProvedBy σ a1 a2) (tf True) := by
  have hFU : FU = 100000 := rfl
  unfold fX8_isProvedBy
  refine ok_bp (o_fX8_saltNow hK) (fun r1 q100351 => ?_)
  have q100351l := q100351.1
  have q100351u := q100351.2
  refine ok_bp (o8_provedBy hK) (fun r2 q100352 => ?_)
  refine ok_bp ok_bit8 (fun r3 q100353 => ?_)
  refine ok_eq (n := 1) rfl rfl (fun h100354e h100354 => ?_) (fun h100354e h100354 => ?_)
  · skip
    refine ok_gd (by decide) ?_
    exact ok_some (tf1 trivial)
  · skip
    refine ok_gd (by decide) ?_
    exact ok_some tf0
theorem ol_fX8_kitchen_l32 {σ0 : St} : ∀ (n : Nat) (σ : St) (x2 : Int32) (x4 : Int32) (x5 : Int32), K σ0 σ → 0 ≤ x5.toInt → (12 + 1 - x5.toInt).toNat < n → ok (fX8_kitchen_l32 n σ x2 x4 x5) (fun p => True ∧ K σ0 p.2) := by
  have hFU : FU = 100000 := rfl
  intro n
  induction n with
  | zero => intro σ x2 x4 x5 hK hx5 hm; omega
  | succ n ih =>
    intro σ x2 x4 x5 hK hx5 hm
    show ok (fX8_kitchen_B32  (fX8_kitchen_l32  n) σ x2 x4 x5) _
    unfold fX8_kitchen_B32
    have c100355 := hK.cl8
    refine ok_gd (by decide) ?_
    refine ok_le rfl rfl (fun h100356 => ?_) (fun h100356 => ?_)
    · skip
      refine ok_eq (n := 0) rfl rfl (fun h100357e h100357 => ?_) (fun h100357e h100357 => ?_)
      · skip
        exact ok_some ⟨trivial, hK⟩
      · skip
        refine ok_eq (n := 1) rfl rfl (fun h100358e h100358 => ?_) (fun h100358e h100358 => ?_)
        · skip
          exact ok_some ⟨trivial, hK⟩
        · skip
          exact ok_some ⟨trivial, hK⟩
    · skip
      refine ok_gd ⟨by omega, by omega⟩ ?_
      refine ok_eq (n := -1) rfl rfl (fun h100359e h100359 => ?_) (fun h100359e h100359 => ?_)
      · skip
        unfold fX8_kitchen_b78
        unfold fX8_kitchen_b79
        refine ok_la (fun v1 => ?_)
        refine ok_lq (Q := fun v => v.toInt = x5.toInt + 1) (inc (by omega)) (fun v2 e100361 => ?_)
        exact ih _ _ _ _ hK (by first | assumption | omega | exact ⟨by omega, by omega⟩ | exact Or.inl (eqm1 (by omega))) (by omega)
      · skip
        refine ok_bp (o_fX8_saltNow hK) (fun r3 q100362 => ?_)
        have q100362l := q100362.1
        have q100362u := q100362.2
        refine ok_bp ok_bit8 (fun r4 q100363 => ?_)
        refine ok_eq (n := 0) rfl rfl (fun h100364e h100364 => ?_) (fun h100364e h100364 => ?_)
        · skip
          refine ok_bp (o8_ofClaim ⟨by omega, by omega⟩ (by decide) (by decide)) (fun r5 q100365 => ?_)
          unfold fX8_kitchen_b79
          refine ok_la (fun v1 => ?_)
          refine ok_lq (Q := fun v => v.toInt = x5.toInt + 1) (inc (by omega)) (fun v2 e100367 => ?_)
          exact ih _ _ _ _ hK (by first | assumption | omega | exact ⟨by omega, by omega⟩ | exact Or.inl (eqm1 (by omega))) (by omega)
        · skip
          unfold fX8_kitchen_b78
          unfold fX8_kitchen_b79
          refine ok_la (fun v1 => ?_)
          refine ok_lq (Q := fun v => v.toInt = x5.toInt + 1) (inc (by omega)) (fun v2 e100369 => ?_)
          exact ih _ _ _ _ hK (by first | assumption | omega | exact ⟨by omega, by omega⟩ | exact Or.inl (eqm1 (by omega))) (by omega)
theorem o_fX8_kitchen {σ0 σ : St} {a1 : Int32} {a2 : Int32} (hK : K σ0 σ) : ok (fX8_kitchen σ a1 a2) (fun p => True ∧ K σ0 p.2) := by
  have hFU : FU = 100000 := rfl
  unfold fX8_kitchen
  refine ok_bp (ok_in (v := 0) (w := 2) (Int32.toInt_toInt64 _) rfl rfl) (fun r6 q100370 => ?_)
  refine ok_bp (o8_asksKitchen hK) (fun r7 q100371 => ?_)
  refine ok_lt ?_
  refine ok_le (m := 0) rfl rfl (fun h100372 => ?_) (fun h100372 => ?_)
  · skip
    have h100372a := q100371 h100372
    have h100372s := h100372a.1
    have h100372r := h100372a.2.2
    refine ok_bp (o8_goKitchen hK h100372s h100372r) (fun σ9 hK9 => ?_)
    refine ok_lq (Q := fun v => v.toInt = 0) rfl (fun v10 e100373 => ?_)
    refine ok_lq (Q := fun v => v.toInt = 0) rfl (fun v11 e100374 => ?_)
    exact ol_fX8_kitchen_l32  FU _ _ _ _ hK9 (by first | assumption | omega | exact ⟨by omega, by omega⟩ | exact Or.inl (eqm1 (by omega))) (by omega)
  · skip
    exact ok_some ⟨trivial, hK⟩
theorem o_fX8_lasts {σ0 σ : St} (hK : K σ0 σ) : ok (fX8_lasts σ) (fun p => True ∧ K σ0 p.2) := by
  have hFU : FU = 100000 := rfl
  unfold fX8_lasts
  refine ok_bz ok_isT8 ?_ (fun i100375 => ?_)
  · skip
    exact ok_some ⟨trivial, hK⟩
  · skip
    refine ok_bp (o_fX8_fillDuel hK) (fun σ2 hK2 => ?_)
    refine ok_bp (o_fX8_saltNow hK2) (fun r3 q100376 => ?_)
    have q100376l := q100376.1
    have q100376u := q100376.2
    refine ok_gd q100376 ?_
    refine ok_la (fun v4 => ?_)
    refine ok_le (n := 0) rfl rfl (fun h100378 => ?_) (fun h100378 => ?_)
    · skip
      exact ok_some ⟨trivial, hK2⟩
    · skip
      exact ok_some ⟨trivial, hK2⟩
theorem ol_fX8_lent_l55 {σ0 σ : St} (hK : K σ0 σ) : ∀ (n : Nat) (x2 : Int32) (x4 : Int32) (x5 : Int32) (x6 : Int32), 0 ≤ x6.toInt → ir x2 5 → (5 + 1 - x6.toInt).toNat < n → ok (fX8_lent_l55 σ n x2 x4 x5 x6) (fun _ => True) := by
  have hFU : FU = 100000 := rfl
  intro n
  induction n with
  | zero => intro x2 x4 x5 x6 hx6 ax2 hm; omega
  | succ n ih =>
    intro x2 x4 x5 x6 hx6 ax2 hm
    have ax2l := ax2.1
    have ax2u := ax2.2
    show ok (fX8_lent_B55 σ (fX8_lent_l55 σ n) x2 x4 x5 x6) _
    unfold fX8_lent_B55
    have c100379 := hK.gu8
    refine ok_gd (by decide) ?_
    refine ok_le rfl rfl (fun h100380 => ?_) (fun h100380 => ?_)
    · skip
      exact ok_some trivial
    · skip
      refine ok_eq rfl rfl (fun h100381e h100381 => ?_) (fun h100381e h100381 => ?_)
      · skip
        unfold fX8_lent_b111
        unfold fX8_lent_b112
        refine ok_la (fun v1 => ?_)
        refine ok_lq (Q := fun v => v.toInt = x6.toInt + 1) (inc (by omega)) (fun v2 e100383 => ?_)
        exact ih _ _ _ _ (by first | assumption | omega | exact ⟨by omega, by omega⟩ | exact Or.inl (eqm1 (by omega))) ax2 (by omega)
      · skip
        refine ok_bp (o_fX8_saltNow hK) (fun r3 q100384 => ?_)
        have q100384l := q100384.1
        have q100384u := q100384.2
        refine ok_bp (o8_ofGuest ax2 (by decide) (by decide)) (fun r4 q100385 => ?_)
        refine ok_bp (o8_ofGuest ⟨by omega, by omega⟩ (by decide) (by decide)) (fun r5 q100386 => ?_)
        refine ok_bp (o8_provedBy hK) (fun r6 q100387 => ?_)
        refine ok_eq (n := 0) rfl rfl (fun h100388e h100388 => ?_) (fun h100388e h100388 => ?_)
        · skip
          unfold fX8_lent_b112
          refine ok_la (fun v1 => ?_)
          refine ok_lq (Q := fun v => v.toInt = x6.toInt + 1) (inc (by omega)) (fun v2 e100390 => ?_)
          exact ih _ _ _ _ (by first | assumption | omega | exact ⟨by omega, by omega⟩ | exact Or.inl (eqm1 (by omega))) ax2 (by omega)
        · skip
          unfold fX8_lent_b111
          unfold fX8_lent_b112
          refine ok_la (fun v1 => ?_)
          refine ok_lq (Q := fun v => v.toInt = x6.toInt + 1) (inc (by omega)) (fun v2 e100392 => ?_)
          exact ih _ _ _ _ (by first | assumption | omega | exact ⟨by omega, by omega⟩ | exact Or.inl (eqm1 (by omega))) ax2 (by omega)
theorem o_fX8_lent {σ0 σ : St} {a1 : Int32} {a2 : Int32} (hK : K σ0 σ) : ok (fX8_lent σ a1 a2) (fun _ => True) := by
  have hFU : FU = 100000 := rfl
  unfold fX8_lent
  refine ok_bp (ok_isG8 hK (Int32.toInt_toInt64 _)) (fun r7 q100393 => ?_)
  refine ok_bp (o8_asksEaten hK) (fun r8 q100394 => ?_)
  refine ok_lt ?_
  refine ok_le (m := 0) rfl rfl (fun h100395 => ?_) (fun h100395 => ?_)
  · skip
    have h100395a := q100394 h100395
    have h100395s := h100395a.1
    have h100395i := ((q100393).resolve_left h100395a.2).2
    have h100395il := h100395i.1
    have h100395iu := h100395i.2
    have h100395ic := hK.gu8
    refine ok_bp (o_fX8_eatenBy hK h100395s) (fun r10 q100396 => ?_)
    refine ok_lt ?_
    refine ok_bp (o_fX8_saltNow hK) (fun r12 q100397 => ?_)
    have q100397l := q100397.1
    have q100397u := q100397.2
    refine ok_bp (o8_ofGuest ⟨by omega, by omega⟩ (by decide) (by decide)) (fun r13 q100398 => ?_)
    refine ok_bp (o8_provedBy hK) (fun r14 q100399 => ?_)
    refine ok_eq (n := 0) rfl rfl (fun h100400e h100400 => ?_) (fun h100400e h100400 => ?_)
    · skip
      exact ok_some trivial
    · skip
      refine ok_lq (Q := fun v => v.toInt = 0) rfl (fun v15 e100401 => ?_)
      refine ok_lq (Q := fun v => v.toInt = 0) rfl (fun v16 e100402 => ?_)
      exact ol_fX8_lent_l55 hK FU _ _ _ _ (by first | assumption | omega | exact ⟨by omega, by omega⟩ | exact Or.inl (eqm1 (by omega))) ⟨by omega, by omega⟩ (by omega)
  · skip
    exact ok_some trivial
theorem ol_fX8_mostBy_l11 {σ0 : St} : ∀ (n : Nat) (σ : St) (x1 : Int32) (x2 : Int32) (x3 : Int32) (x4 : Int32) (x5 : Int32), K σ0 σ → 0 ≤ x5.toInt → (4097 + 1 - x5.toInt).toNat < n → ok (fX8_mostBy_l11 n σ x1 x2 x3 x4 x5) (fun p => True ∧ K σ0 p.2) := by
  have hFU : FU = 100000 := rfl
  intro n
  induction n with
  | zero => intro σ x1 x2 x3 x4 x5 hK hx5 hm; omega
  | succ n ih =>
    intro σ x1 x2 x3 x4 x5 hK hx5 hm
    show ok (fX8_mostBy_B11  (fX8_mostBy_l11  n) σ x1 x2 x3 x4 x5) _
    unfold fX8_mostBy_B11
    refine ok_bp (o_fX8_allSteps hK) (fun r4 q100403 => ?_)
    have q100403l := q100403.1
    have q100403u := q100403.2
    refine ok_lw rfl rfl (fun h100404 => ?_) (fun h100404 => ?_)
    · skip
      exact ok_some ⟨trivial, hK⟩
    · skip
      refine ok_eq (n := 0) rfl rfl (fun h100405e h100405 => ?_) (fun h100405e h100405 => ?_)
      · skip
        refine ok_bp (o8_bits _) (fun r6 q100406 => ?_)
        have q100406l := q100406.1
        have q100406u := q100406.2
        refine ok_le rfl rfl (fun h100407 => ?_) (fun h100407 => ?_)
        · skip
          refine ok_bp (o8_provedBy hK) (fun r7 q100408 => ?_)
          refine ok_bp (o_fX8_worthsOf hK) (fun r8 q100409 => ?_)
          refine ok_lt ?_
          refine ok_lw rfl rfl (fun h100410 => ?_) (fun h100410 => ?_)
          · skip
            unfold fX8_mostBy_b87
            refine ok_lt ?_
            refine ok_lq (Q := fun τ => K σ0 τ) (hK.set rfl) (fun σ2 hK2 => ?_)
            refine ok_lq (Q := fun v => v.toInt = x5.toInt + 1) (inc (by omega)) (fun v3 e100411 => ?_)
            exact ih _ _ _ _ _ _ hK2 (by first | assumption | omega | exact ⟨by omega, by omega⟩ | exact Or.inl (eqm1 (by omega))) (by omega)
          · skip
            refine ok_eq rfl rfl (fun h100412e h100412 => ?_) (fun h100412e h100412 => ?_)
            · skip
              refine ok_bp (o8_bits _) (fun r11 q100413 => ?_)
              have q100413l := q100413.1
              have q100413u := q100413.2
              refine ok_bp (o8_bits _) (fun r12 q100414 => ?_)
              have q100414l := q100414.1
              have q100414u := q100414.2
              refine ok_le rfl rfl (fun h100415 => ?_) (fun h100415 => ?_)
              · skip
                refine ok_lq (Q := fun v => v.toInt = x5.toInt + 1) (inc (by omega)) (fun v13 e100416 => ?_)
                exact ih _ _ _ _ _ _ hK (by first | assumption | omega | exact ⟨by omega, by omega⟩ | exact Or.inl (eqm1 (by omega))) (by omega)
              · skip
                unfold fX8_mostBy_b87
                refine ok_lt ?_
                refine ok_lq (Q := fun τ => K σ0 τ) (hK.set rfl) (fun σ2 hK2 => ?_)
                refine ok_lq (Q := fun v => v.toInt = x5.toInt + 1) (inc (by omega)) (fun v3 e100417 => ?_)
                exact ih _ _ _ _ _ _ hK2 (by first | assumption | omega | exact ⟨by omega, by omega⟩ | exact Or.inl (eqm1 (by omega))) (by omega)
            · skip
              refine ok_lq (Q := fun v => v.toInt = x5.toInt + 1) (inc (by omega)) (fun v10 e100418 => ?_)
              exact ih _ _ _ _ _ _ hK (by first | assumption | omega | exact ⟨by omega, by omega⟩ | exact Or.inl (eqm1 (by omega))) (by omega)
        · skip
          refine ok_lq (Q := fun v => v.toInt = x5.toInt + 1) (inc (by omega)) (fun v14 e100419 => ?_)
          exact ih _ _ _ _ _ _ hK (by first | assumption | omega | exact ⟨by omega, by omega⟩ | exact Or.inl (eqm1 (by omega))) (by omega)
      · skip
        refine ok_lq (Q := fun v => v.toInt = x5.toInt + 1) (inc (by omega)) (fun v5 e100420 => ?_)
        exact ih _ _ _ _ _ _ hK (by first | assumption | omega | exact ⟨by omega, by omega⟩ | exact Or.inl (eqm1 (by omega))) (by omega)
theorem o_fX8_mostBy {σ0 σ : St} {a1 : Int32} {a2 : Int32} {a3 : Int32} (hK : K σ0 σ) : ok (fX8_mostBy σ a1 a2 a3) (fun p => True ∧ K σ0 p.2) := by
  have hFU : FU = 100000 := rfl
  unfold fX8_mostBy
  refine ok_lq (Q := fun v => v.toInt = -1) rfl (fun v15 e100421 => ?_)
  refine ok_lq (Q := fun τ => K σ0 τ) (hK.set rfl) (fun σ16 hK16 => ?_)
  refine ok_lq (Q := fun v => v.toInt = 0) rfl (fun v17 e100422 => ?_)
  exact ol_fX8_mostBy_l11  FU _ _ _ _ _ _ hK16 (by first | assumption | omega | exact ⟨by omega, by omega⟩ | exact Or.inl (eqm1 (by omega))) (by omega)
theorem ol_fX8_move_l16 {σ0 : St} : ∀ (n : Nat) (σ : St) (x1 : Int32), K σ0 σ → 0 ≤ x1.toInt → (12 + 1 - x1.toInt).toNat < n → ok (fX8_move_l16 n σ x1) (fun p => True ∧ K σ0 p.2) := by
  have hFU : FU = 100000 := rfl
  intro n
  induction n with
  | zero => intro σ x1 hK hx1 hm; omega
  | succ n ih =>
    intro σ x1 hK hx1 hm
    show ok (fX8_move_B16  (fX8_move_l16  n) σ x1) _
    unfold fX8_move_B16
    have c100423 := hK.st8
    refine ok_gd (by decide) ?_
    refine ok_le rfl rfl (fun h100424 => ?_) (fun h100424 => ?_)
    · skip
      exact ok_some ⟨trivial, hK⟩
    · skip
      refine ok_bp (o_fX8_saltNow hK) (fun r1 q100425 => ?_)
      have q100425l := q100425.1
      have q100425u := q100425.2
      refine ok_bz (o8_goes hK ⟨by omega, by omega⟩) ?_ (fun i100426 => ?_)
      · skip
        refine ok_lq (Q := fun v => v.toInt = x1.toInt + 1) (inc (by omega)) (fun v3 e100427 => ?_)
        exact ih _ _ hK (by first | assumption | omega | exact ⟨by omega, by omega⟩ | exact Or.inl (eqm1 (by omega))) (by omega)
      · skip
        refine ok_bp (o_fX8_saltNow hK) (fun r4 q100428 => ?_)
        have q100428l := q100428.1
        have q100428u := q100428.2
        refine ok_bp (o8_ofGives hK ⟨by omega, by omega⟩) (fun r5 q100429 => ?_)
        have q100429l := q100429.1
        have q100429u := q100429.2
        refine ok_gd (ir_or q100428 (ir_sh q100429)) ?_
        refine ok_le (m := 0) rfl rfl (fun h100430 => ?_) (fun h100430 => ?_)
        · skip
          refine ok_lq (Q := fun v => v.toInt = x1.toInt + 1) (inc (by omega)) (fun v6 e100431 => ?_)
          exact ih _ _ hK (by first | assumption | omega | exact ⟨by omega, by omega⟩ | exact Or.inl (eqm1 (by omega))) (by omega)
        · skip
          exact ok_some ⟨trivial, hK⟩
theorem o_fX8_move {σ0 σ : St} (hK : K σ0 σ) : ok (fX8_move σ) (fun p => True ∧ K σ0 p.2) := by
  have hFU : FU = 100000 := rfl
  unfold fX8_move
  refine ok_bz ok_isT8 ?_ (fun i100432 => ?_)
  · skip
    exact ok_some ⟨trivial, hK⟩
  · skip
    refine ok_bp (o_fX8_fillDuel hK) (fun σ8 hK8 => ?_)
    refine ok_lq (Q := fun v => v.toInt = 0) rfl (fun v9 e100433 => ?_)
    exact ol_fX8_move_l16  FU _ _ hK8 (by first | assumption | omega | exact ⟨by omega, by omega⟩ | exact Or.inl (eqm1 (by omega))) (by omega)
theorem o_fX8_provedNow {σ0 σ : St} (hK : K σ0 σ) : ok (fX8_provedNow σ) (fun _ => True) := by
  have hFU : FU = 100000 := rfl
  unfold fX8_provedNow
  refine ok_bp (o_fX8_saltNow hK) (fun r1 q100434 => ?_)
  have q100434l := q100434.1
  have q100434u := q100434.2
  refine ok_bp (o_fX8_allSteps hK) (fun r2 q100435 => ?_)
  have q100435l := q100435.1
  have q100435u := q100435.2
  refine ok_bp (o8_provedBy hK) (fun r3 q100436 => ?_)
  exact ok_some trivial
theorem o_fX8_reached {σ0 σ : St} {a1 : Int32} (hK : K σ0 σ) : ok (fX8_reached σ a1) (fun p => True ∧ K σ0 p.2) := by
  have hFU : FU = 100000 := rfl
  unfold fX8_reached
  refine ok_bp (o8_asksRow hK) (fun r1 q100437 => ?_)
  refine ok_lt ?_
  refine ok_le (m := 0) rfl rfl (fun h100438 => ?_) (fun h100438 => ?_)
  · skip
    have h100438a := q100437 h100438
    have h100438s := h100438a.1
    have h100438r := h100438a.2.2.1
    refine ok_bp (o8_readRow hK h100438s h100438r) (fun σ3 hK3 => ?_)
    exact ok_some ⟨trivial, hK3⟩
  · skip
    exact ok_some ⟨trivial, hK⟩
theorem o_fX8_reads {σ0 σ : St} {a1 : Int32} (hK : K σ0 σ) : ok (fX8_reads σ a1) (fun p => True ∧ K σ0 p.2) := by
  have hFU : FU = 100000 := rfl
  unfold fX8_reads
  refine ok_bp (o8_asksRow hK) (fun r1 q100439 => ?_)
  refine ok_lt ?_
  refine ok_le (m := 0) rfl rfl (fun h100440 => ?_) (fun h100440 => ?_)
  · skip
    have h100440a := q100439 h100440
    have h100440s := h100440a.1
    have h100440r := h100440a.2.2.1
    refine ok_bp (o8_readRow hK h100440s h100440r) (fun σ3 hK3 => ?_)
    exact ok_some ⟨trivial, hK3⟩
  · skip
    exact ok_some ⟨trivial, hK⟩
theorem o_fX8_saltedNow {σ0 σ : St} (hK : K σ0 σ) : ok (fX8_saltedNow σ) (fun r => ir r 65536) := by
  have hFU : FU = 100000 := rfl
  unfold fX8_saltedNow
  refine ok_bp (o_fX8_saltNow hK) (fun r1 q100441 => ?_)
  have q100441l := q100441.1
  have q100441u := q100441.2
  refine ok_bp (o_fX8_saltedBy hK) (fun r2 q100442 => ?_)
  have q100442l := q100442.1
  have q100442u := q100442.2
  exact ok_some q100442
theorem o_fX8_shares {σ0 σ : St} {a1 : Int32} {a2 : Int32} (hK : K σ0 σ) : ok (fX8_shares σ a1 a2) (fun p => True ∧ K σ0 p.2) := by
  have hFU : FU = 100000 := rfl
  unfold fX8_shares
  refine ok_bp (ok_isC8 hK (Int32.toInt_toInt64 _)) (fun r1 q100443 => ?_)
  refine ok_bp (o8_asksKitchen hK) (fun r2 q100444 => ?_)
  refine ok_lt ?_
  refine ok_le (m := 0) rfl rfl (fun h100445 => ?_) (fun h100445 => ?_)
  · skip
    have h100445a := q100444 h100445
    have h100445s := h100445a.1
    have h100445r := h100445a.2.2
    have h100445i := ((q100443).resolve_left h100445a.2.1).2
    have h100445il := h100445i.1
    have h100445iu := h100445i.2
    have h100445ic := hK.cl8
    refine ok_bp (o8_goKitchen hK h100445s h100445r) (fun σ4 hK4 => ?_)
    refine ok_gd ⟨by omega, by omega⟩ ?_
    exact ok_some ⟨trivial, hK4⟩
  · skip
    exact ok_some ⟨trivial, hK⟩
theorem ol_fX8_spareOf_l10 {σ0 σ : St} (hK : K σ0 σ) : ∀ (n : Nat) (x1 : Int32) (x2 : Int32) (x3 : Int32) (x4 : Int32), 0 ≤ x4.toInt → ir x2 4096 → (4096 + 1 - x4.toInt).toNat < n → ok (fX8_spareOf_l10 σ n x1 x2 x3 x4) (fun _ => True) := by
  have hFU : FU = 100000 := rfl
  intro n
  induction n with
  | zero => intro x1 x2 x3 x4 hx4 ax2 hm; omega
  | succ n ih =>
    intro x1 x2 x3 x4 hx4 ax2 hm
    have ax2l := ax2.1
    have ax2u := ax2.2
    show ok (fX8_spareOf_B10 σ (fX8_spareOf_l10 σ n) x1 x2 x3 x4) _
    unfold fX8_spareOf_B10
    refine ok_lw rfl rfl (fun h100446 => ?_) (fun h100446 => ?_)
    · skip
      exact ok_some trivial
    · skip
      refine ok_eq (n := 0) rfl rfl (fun h100447e h100447 => ?_) (fun h100447e h100447 => ?_)
      · skip
        refine ok_eq (n := -1) rfl rfl (fun h100448e h100448 => ?_) (fun h100448e h100448 => ?_)
        · skip
          unfold fX8_spareOf_b42
          refine ok_bp (o_fX8_allSteps hK) (fun r1 q100449 => ?_)
          have q100449l := q100449.1
          have q100449u := q100449.2
          refine ok_bp (o8_provedBy hK) (fun r2 q100450 => ?_)
          refine ok_eq (n := 0) rfl rfl (fun h100451e h100451 => ?_) (fun h100451e h100451 => ?_)
          · skip
            refine ok_lt ?_
            refine ok_lq (Q := fun v => v.toInt = x4.toInt + 1) (inc (by omega)) (fun v5 e100452 => ?_)
            exact ih _ _ _ _ (by first | assumption | omega | exact ⟨by omega, by omega⟩ | exact Or.inl (eqm1 (by omega))) ax2 (by omega)
          · skip
            refine ok_lq (Q := fun v => v.toInt = x4.toInt + 1) (inc (by omega)) (fun v3 e100453 => ?_)
            exact ih _ _ _ _ (by first | assumption | omega | exact ⟨by omega, by omega⟩ | exact Or.inl (eqm1 (by omega))) ax2 (by omega)
        · skip
          refine ok_bp (o8_bits _) (fun r7 q100454 => ?_)
          have q100454l := q100454.1
          have q100454u := q100454.2
          refine ok_bp (o8_bits _) (fun r8 q100455 => ?_)
          have q100455l := q100455.1
          have q100455u := q100455.2
          refine ok_le rfl rfl (fun h100456 => ?_) (fun h100456 => ?_)
          · skip
            refine ok_lq (Q := fun v => v.toInt = x4.toInt + 1) (inc (by omega)) (fun v9 e100457 => ?_)
            exact ih _ _ _ _ (by first | assumption | omega | exact ⟨by omega, by omega⟩ | exact Or.inl (eqm1 (by omega))) ax2 (by omega)
          · skip
            unfold fX8_spareOf_b42
            refine ok_bp (o_fX8_allSteps hK) (fun r1 q100458 => ?_)
            have q100458l := q100458.1
            have q100458u := q100458.2
            refine ok_bp (o8_provedBy hK) (fun r2 q100459 => ?_)
            refine ok_eq (n := 0) rfl rfl (fun h100460e h100460 => ?_) (fun h100460e h100460 => ?_)
            · skip
              refine ok_lt ?_
              refine ok_lq (Q := fun v => v.toInt = x4.toInt + 1) (inc (by omega)) (fun v5 e100461 => ?_)
              exact ih _ _ _ _ (by first | assumption | omega | exact ⟨by omega, by omega⟩ | exact Or.inl (eqm1 (by omega))) ax2 (by omega)
            · skip
              refine ok_lq (Q := fun v => v.toInt = x4.toInt + 1) (inc (by omega)) (fun v3 e100462 => ?_)
              exact ih _ _ _ _ (by first | assumption | omega | exact ⟨by omega, by omega⟩ | exact Or.inl (eqm1 (by omega))) ax2 (by omega)
      · skip
        refine ok_lq (Q := fun v => v.toInt = x4.toInt + 1) (inc (by omega)) (fun v6 e100463 => ?_)
        exact ih _ _ _ _ (by first | assumption | omega | exact ⟨by omega, by omega⟩ | exact Or.inl (eqm1 (by omega))) ax2 (by omega)
theorem o_fX8_spareOf {σ0 σ : St} {a1 : Int32} (hK : K σ0 σ) : ok (fX8_spareOf σ a1) (fun _ => True) := by
  have hFU : FU = 100000 := rfl
  unfold fX8_spareOf
  refine ok_bp (o_fX8_saltNow hK) (fun r10 q100464 => ?_)
  have q100464l := q100464.1
  have q100464u := q100464.2
  refine ok_lt ?_
  refine ok_lq (Q := fun v => v.toInt = -1) rfl (fun v12 e100465 => ?_)
  refine ok_lq (Q := fun v => v.toInt = 0) rfl (fun v13 e100466 => ?_)
  exact ol_fX8_spareOf_l10 hK FU _ _ _ _ (by first | assumption | omega | exact ⟨by omega, by omega⟩ | exact Or.inl (eqm1 (by omega))) q100464 (by omega)
theorem o_fX8_strength {σ0 σ : St} {a1 : Int32} (hK : K σ0 σ) : ok (fX8_strength σ a1) (fun _ => True) := by
  have hFU : FU = 100000 := rfl
  unfold fX8_strength
  refine ok_bz (o_fX8_areGuests hK) ?_ (fun i100467 => ?_)
  · skip
    exact ok_some trivial
  · skip
    refine ok_bp (o_fX8_strengthOf hK) (fun r2 q100468 => ?_)
    exact ok_some trivial
theorem ol8_usedBy {σ0 : St} {a : Int32} (ha : ir a 4) (hr : RS8 σ0 a.toNatClampNeg) : ∀ (n : Nat) (σ : St) (x3 x4 x5 : Int32), K σ0 σ → -1 ≤ x5.toInt → x5.toInt ≤ 59 → (x5.toInt < 0 ∨ x5.toInt < (σ0.1 78 a.toNatClampNeg).toInt) → (x5.toInt + 1).toNat < n → ok (fX8_usedBy_l20 n σ a x3 x4 x5) (fun p => True ∧ K σ0 p.2) := by
  intro n
  induction n with
  | zero => intro σ x3 x4 x5 _ _ _ _ h; omega
  | succ n ih =>
    intro σ x3 x4 x5 hK h0 h1 h2 hm
    show ok (fX8_usedBy_B20 (fX8_usedBy_l20 n) σ a x3 x4 x5) _
    unfold fX8_usedBy_B20
    refine ok_lw (n := 0) rfl rfl (fun _ => ok_some ⟨trivial, hK⟩) (fun hge => ?_)
    have hi : ir x5 60 := ⟨hge, by show _ < (60 : Int); omega⟩
    have e7 := dec (x := x5) (by omega)
    have em : σ.1 78 a.toNatClampNeg = σ0.1 78 a.toNatClampNeg := hK.my0 _
    refine ok_bp (o8_numberAt ha hi) (fun r1 q1 => ?_)
    have h12 : ir r1.toInt32 12 := rs8n hK hr hge (by rw [em]; omega) q1
    refine ok_lt (ok_bp (o8_ofGives hK h12) (fun r3 _ => ok_bp ok_bit8 (fun r4 _ => ok_if (fun _ => ok_lt (ih σ _ _ _ hK (by omega) (by omega) (by omega) (by omega))) (fun _ => ok_lt (ok_bp (o8_ofStep h12 (by decide) (by decide)) (fun r6 _ => ok_lt (ok_lt (ih σ _ _ _ hK (by omega) (by omega) (by omega) (by omega)))))))))
theorem o8_usedBy {σ0 σ : St} {a1 a2 : Int32} (hK : K σ0 σ) (ha : ir a1 4) (hr : RS8 σ0 a1.toNatClampNeg) : ok (fX8_usedBy σ a1 a2) (fun p => True ∧ K σ0 p.2) := by
  unfold fX8_usedBy
  refine ok_bp (o8_readRowX hK ha hr) (fun σ10 ⟨hK10, q1, q2, q3⟩ => ok_lt (ok_lt (ok_lt ?_)))
  have e : (σ10.1 62 19 - 1).toInt = (σ10.1 62 19).toInt - 1 := dec1 (by omega)
  exact ol8_usedBy ha hr FU σ10 _ _ _ hK10 (by omega) (by omega) (by omega) (by unfold FU; omega)
theorem o_fX8_when {σ0 σ : St} {a1 : Int32} {a2 : Int32} (hK : K σ0 σ) : ok (fX8_when σ a1 a2) (fun p => True ∧ K σ0 p.2) := by
  have hFU : FU = 100000 := rfl
  unfold fX8_when
  refine ok_bp (ok_isC8 hK (Int32.toInt_toInt64 _)) (fun r1 q100469 => ?_)
  refine ok_bp (o8_asksKitchen hK) (fun r2 q100470 => ?_)
  refine ok_lt ?_
  refine ok_le (m := 0) rfl rfl (fun h100471 => ?_) (fun h100471 => ?_)
  · skip
    have h100471a := q100470 h100471
    have h100471s := h100471a.1
    have h100471r := h100471a.2.2
    have h100471i := ((q100469).resolve_left h100471a.2.1).2
    have h100471il := h100471i.1
    have h100471iu := h100471i.2
    have h100471ic := hK.cl8
    refine ok_bp (o8_goKitchen hK h100471s h100471r) (fun σ4 hK4 => ?_)
    refine ok_gd ⟨by omega, by omega⟩ ?_
    exact ok_some ⟨trivial, hK4⟩
  · skip
    exact ok_some ⟨trivial, hK⟩
theorem o8_why {σ0 σ : St} {a1 : Int32} (hK : K σ0 σ) : ok (fX8_why σ a1) (fun p => True ∧ K σ0 p.2) := by
  unfold fX8_why
  refine ok_bp (o8_asksRow hK) (fun r1 q1 => ok_lt (ok_le (m := 0) rfl rfl (fun h => ?_) (fun _ => ok_some ⟨trivial, hK⟩)))
  obtain ⟨ha, _, hr, hmn⟩ := q1 h
  refine ok_bp (o8_readRowX hK ha hr) (fun σ3 ⟨hK3, h0, h1, h2⟩ => ok_gd ha (ok_eq rfl rfl (fun _ _ => ok_some ⟨trivial, hK3⟩) (fun _ hne => ?_)))
  have em : σ3.1 78 a1.toNatClampNeg = σ0.1 78 a1.toNatClampNeg := hK3.my0 _
  have cm := hK3.mny ha
  have hlt : (σ3.1 62 19).toInt < (σ3.1 78 a1.toNatClampNeg).toInt := by
    rw [em] at hne ⊢
    omega
  have hi : ir (σ3.1 62 19) 60 := ⟨h0, by show _ < (60 : Int); omega⟩
  exact ok_bp (o8_numberAt ha hi) (fun r4 q4 => ok_bp (o8_ofStep (rs8n hK3 hr h0 hlt q4) (by decide) (by decide)) (fun r5 _ => ok_if (fun _ => ok_some ⟨trivial, hK3⟩) (fun _ => ok_some ⟨trivial, hK3⟩)))
theorem o_fX8_canProve {σ0 σ : St} {a1 : Int32} {a2 : Int32} (hK : K σ0 σ) (hg : 0 ≤ a1.toInt ∧ a1.toInt < (σ0.1 63 (5 : Int32).toNatClampNeg).toInt) : ok (fX8_canProve σ a1 a2) (tf True) := by
  have hFU : FU = 100000 := rfl
  have hgl := hg.1
  have hgu := hg.2
  have hgc := hK.gu8
  unfold fX8_canProve
  refine ok_bp (o_fX8_saltNow hK) (fun r1 q100472 => ?_)
  have q100472l := q100472.1
  have q100472u := q100472.2
  refine ok_bp (o8_ofGuest ⟨by omega, by omega⟩ (by decide) (by decide)) (fun r2 q100473 => ?_)
  refine ok_bp (o_fX8_fewestSteps hK) (fun r3 q100474 => ?_)
  refine ok_lt ?_
  refine ok_eq (n := -1) rfl rfl (fun h100475e h100475 => ?_) (fun h100475e h100475 => ?_)
  · skip
    refine ok_gd (by decide) ?_
    exact ok_some tf0
  · skip
    refine ok_bp (o8_bits _) (fun r5 q100476 => ?_)
    have q100476l := q100476.1
    have q100476u := q100476.2
    refine ok_bp (o8_canDo hK ⟨by omega, by omega⟩) (fun r6 q100477 => ?_)
    refine ok_lw rfl rfl (fun h100478 => ?_) (fun h100478 => ?_)
    · skip
      refine ok_gd (by decide) ?_
      exact ok_some tf0
    · skip
      refine ok_gd (by decide) ?_
      exact ok_some (tf1 trivial)
theorem ol_fX8_canTogether_l5 {σ0 σ : St} (hK : K σ0 σ) : ∀ (n : Nat) (x1 : Int32) (x2 : Int32) (x3 : Int32) (x4 : Int32), 0 ≤ x4.toInt → (5 + 1 - x4.toInt).toNat < n → ok (fX8_canTogether_l5 σ n x1 x2 x3 x4) (tf True) := by
  have hFU : FU = 100000 := rfl
  intro n
  induction n with
  | zero => intro x1 x2 x3 x4 hx4 hm; omega
  | succ n ih =>
    intro x1 x2 x3 x4 hx4 hm
    show ok (fX8_canTogether_B5 σ (fX8_canTogether_l5 σ n) x1 x2 x3 x4) _
    unfold fX8_canTogether_B5
    have c100479 := hK.gu8
    refine ok_gd (by decide) ?_
    refine ok_le rfl rfl (fun h100480 => ?_) (fun h100480 => ?_)
    · skip
      refine ok_bp (o_fX8_saltNow hK) (fun r3 q100481 => ?_)
      have q100481l := q100481.1
      have q100481u := q100481.2
      refine ok_bp (o_fX8_fewestSteps hK) (fun r4 q100482 => ?_)
      refine ok_lt ?_
      refine ok_eq (n := -1) rfl rfl (fun h100483e h100483 => ?_) (fun h100483e h100483 => ?_)
      · skip
        refine ok_gd (by decide) ?_
        exact ok_some tf0
      · skip
        refine ok_bp (o8_bits _) (fun r6 q100484 => ?_)
        have q100484l := q100484.1
        have q100484u := q100484.2
        refine ok_bp (o_fX8_strengthOf hK) (fun r7 q100485 => ?_)
        refine ok_lw rfl rfl (fun h100486 => ?_) (fun h100486 => ?_)
        · skip
          refine ok_gd (by decide) ?_
          exact ok_some tf0
        · skip
          refine ok_gd (by decide) ?_
          exact ok_some (tf1 trivial)
    · skip
      refine ok_bp ok_bit8 (fun r8 q100487 => ?_)
      refine ok_eq (n := 1) rfl rfl (fun h100488e h100488 => ?_) (fun h100488e h100488 => ?_)
      · skip
        refine ok_bp (o8_ofGuest ⟨by omega, by omega⟩ (by decide) (by decide)) (fun r9 q100489 => ?_)
        unfold fX8_canTogether_b38
        refine ok_la (fun v1 => ?_)
        refine ok_lq (Q := fun v => v.toInt = x4.toInt + 1) (inc (by omega)) (fun v2 e100491 => ?_)
        exact ih _ _ _ _ (by first | assumption | omega | exact ⟨by omega, by omega⟩ | exact Or.inl (eqm1 (by omega))) (by omega)
      · skip
        unfold fX8_canTogether_b38
        refine ok_la (fun v1 => ?_)
        refine ok_lq (Q := fun v => v.toInt = x4.toInt + 1) (inc (by omega)) (fun v2 e100493 => ?_)
        exact ih _ _ _ _ (by first | assumption | omega | exact ⟨by omega, by omega⟩ | exact Or.inl (eqm1 (by omega))) (by omega)
theorem o_fX8_canTogether {σ0 σ : St} {a1 : Int32} {a2 : Int32} (hK : K σ0 σ) : ok (fX8_canTogether σ a1 a2) (tf True) := by
  have hFU : FU = 100000 := rfl
  unfold fX8_canTogether
  refine ok_lq (Q := fun v => v.toInt = 0) rfl (fun v10 e100494 => ?_)
  refine ok_lq (Q := fun v => v.toInt = 0) rfl (fun v11 e100495 => ?_)
  exact ol_fX8_canTogether_l5 hK FU _ _ _ _ (by first | assumption | omega | exact ⟨by omega, by omega⟩ | exact Or.inl (eqm1 (by omega))) (by omega)
theorem o_fX8_core {σ0 σ : St} (hK : K σ0 σ) : ok (fX8_core σ) (fun _ => True) := by
  have hFU : FU = 100000 := rfl
  unfold fX8_core
  refine ok_bz ok_isT8 ?_ (fun i100496 => ?_)
  · skip
    exact ok_some trivial
  · skip
    refine ok_bp (o_fX8_coreOf hK) (fun r2 q100497 => ?_)
    refine ok_lt ?_
    refine ok_eq (n := -1) rfl rfl (fun h100498e h100498 => ?_) (fun h100498e h100498 => ?_)
    · skip
      exact ok_some trivial
    · skip
      refine ok_bp (o8_bits _) (fun r4 q100499 => ?_)
      have q100499l := q100499.1
      have q100499u := q100499.2
      exact ok_some trivial
theorem o_fX8_cored {σ0 σ : St} (hK : K σ0 σ) : ok (fX8_cored σ) (fun _ => True) := by
  have hFU : FU = 100000 := rfl
  unfold fX8_cored
  refine ok_bz ok_isT8 ?_ (fun i100500 => ?_)
  · skip
    exact ok_some trivial
  · skip
    refine ok_bp (o_fX8_coreOf hK) (fun r2 q100501 => ?_)
    exact ok_some trivial
theorem o_fX8_counter {σ0 σ : St} {a1 : Int32} (hK : K σ0 σ) : ok (fX8_counter σ a1) (fun _ => True) := by
  have hFU : FU = 100000 := rfl
  unfold fX8_counter
  refine ok_bz (ok_isC8 hK (Int32.toInt_toInt64 _)) ?_ (fun i100502 => ?_)
  · skip
    exact ok_some trivial
  · skip
    have i100502l := i100502.1
    have i100502u := i100502.2
    have i100502c := hK.cl8
    refine ok_bp (o_fX8_saltedNow hK) (fun r2 q100503 => ?_)
    have q100503l := q100503.1
    have q100503u := q100503.2
    refine ok_bp (o8_ofClaim ⟨by omega, by omega⟩ (by decide) (by decide)) (fun r3 q100504 => ?_)
    refine ok_bp o8_lowest (fun r4 q100505 => ?_)
    exact ok_some trivial
theorem o_fX8_falls {σ0 σ : St} {a1 : Int32} (hK : K σ0 σ) : ok (fX8_falls σ a1) (fun _ => True) := by
  have hFU : FU = 100000 := rfl
  unfold fX8_falls
  refine ok_bz (ok_isC8 hK (Int32.toInt_toInt64 _)) ?_ (fun i100506 => ?_)
  · skip
    exact ok_some trivial
  · skip
    have i100506l := i100506.1
    have i100506u := i100506.2
    have i100506c := hK.cl8
    refine ok_bp (o8_ofSalt hK ⟨by omega, by omega⟩) (fun r2 q100507 => ?_)
    refine ok_eq (n := 0) rfl rfl (fun h100508e h100508 => ?_) (fun h100508e h100508 => ?_)
    · skip
      exact ok_some trivial
    · skip
      refine ok_bp (o_fX8_provedNow hK) (fun r3 q100509 => ?_)
      refine ok_bp (o_fX8_saltNow hK) (fun r4 q100510 => ?_)
      have q100510l := q100510.1
      have q100510u := q100510.2
      refine ok_bp (o_fX8_allSteps hK) (fun r5 q100511 => ?_)
      have q100511l := q100511.1
      have q100511u := q100511.2
      refine ok_bp (o8_provedBy hK) (fun r6 q100512 => ?_)
      exact ok_some trivial
theorem o_fX8_falsity {σ0 σ : St} {a1 : Int32} (hK : K σ0 σ) : ok (fX8_falsity σ a1) (fun _ => True) := by
  have hFU : FU = 100000 := rfl
  unfold fX8_falsity
  refine ok_bz (ok_isS8 hK (Int32.toInt_toInt64 _)) ?_ (fun i100513 => ?_)
  · skip
    exact ok_some trivial
  · skip
    have i100513l := i100513.1
    have i100513u := i100513.2
    have i100513c := hK.st8
    refine ok_bp (o_fX8_falseIn hK ⟨by omega, by omega⟩) (fun r2 q100514 => ?_)
    refine ok_bp o8_lowest (fun r3 q100515 => ?_)
    exact ok_some trivial
theorem o_fX8_feastOf {σ0 σ : St} {a1 : Int64} {a3 : Int32} (hK : K σ0 σ) (hg : 0 ≤ a3.toInt ∧ a3.toInt < (σ0.1 63 (5 : Int32).toNatClampNeg).toInt) : ok (fX8_feastOf σ a1 a3) (fun p => True ∧ K σ0 p.2) := by
  have hFU : FU = 100000 := rfl
  have hgl := hg.1
  have hgu := hg.2
  have hgc := hK.gu8
  unfold fX8_feastOf
  refine ok_bp (o_fX8_saltNow hK) (fun r1 q100516 => ?_)
  have q100516l := q100516.1
  have q100516u := q100516.2
  refine ok_bp (o8_ofGuest ⟨by omega, by omega⟩ (by decide) (by decide)) (fun r2 q100517 => ?_)
  refine ok_bp (o_fX8_holesBy hK) (fun r3 q100518 => ?_)
  refine ok_bp (o8_canDo hK ⟨by omega, by omega⟩) (fun r4 q100519 => ?_)
  refine ok_bs (o_fX8_mostBy hK) (fun r5 σ6 q100520 => ?_)
  have hK6 : K σ0 σ6 := q100520.2
  exact ok_some ⟨trivial, hK6⟩
theorem o_fX8_isFollowing {σ0 σ : St} {a1 : Int32} (hK : K σ0 σ) (pa1 : ir a1 12) : ok (fX8_isFollowing σ a1) (tf True) := by
  have hFU : FU = 100000 := rfl
  have pa1l := pa1.1
  have pa1u := pa1.2
  unfold fX8_isFollowing
  refine ok_bp (o_fX8_saltedNow hK) (fun r1 q100521 => ?_)
  have q100521l := q100521.1
  have q100521u := q100521.2
  refine ok_bp (o8_ofClaim pa1 (by decide) (by decide)) (fun r2 q100522 => ?_)
  refine ok_eq (n := 0) rfl rfl (fun h100523e h100523 => ?_) (fun h100523e h100523 => ?_)
  · skip
    refine ok_gd (by decide) ?_
    exact ok_some (tf1 trivial)
  · skip
    refine ok_gd (by decide) ?_
    exact ok_some tf0
theorem ol_fX8_isLeastProof_l13 {σ0 σ : St} (hK : K σ0 σ) : ∀ (n : Nat) (x1 : Int32) (x2 : Int32) (x3 : Int32), 0 ≤ x3.toInt → (12 + 1 - x3.toInt).toNat < n → ok (fX8_isLeastProof_l13 σ n x1 x2 x3) (tf True) := by
  have hFU : FU = 100000 := rfl
  intro n
  induction n with
  | zero => intro x1 x2 x3 hx3 hm; omega
  | succ n ih =>
    intro x1 x2 x3 hx3 hm
    show ok (fX8_isLeastProof_B13 σ (fX8_isLeastProof_l13 σ n) x1 x2 x3) _
    unfold fX8_isLeastProof_B13
    have c100524 := hK.st8
    refine ok_gd (by decide) ?_
    refine ok_le rfl rfl (fun h100525 => ?_) (fun h100525 => ?_)
    · skip
      refine ok_gd (by decide) ?_
      exact ok_some (tf1 trivial)
    · skip
      refine ok_bp ok_bit8 (fun r1 q100526 => ?_)
      refine ok_eq (n := 1) rfl rfl (fun h100527e h100527 => ?_) (fun h100527e h100527 => ?_)
      · skip
        refine ok_bz (o_fX8_isProvedBy hK) ?_ (fun i100528 => ?_)
        · skip
          refine ok_lq (Q := fun v => v.toInt = x3.toInt + 1) (inc (by omega)) (fun v4 e100529 => ?_)
          exact ih _ _ _ (by first | assumption | omega | exact ⟨by omega, by omega⟩ | exact Or.inl (eqm1 (by omega))) (by omega)
        · skip
          refine ok_gd (by decide) ?_
          exact ok_some tf0
      · skip
        refine ok_lq (Q := fun v => v.toInt = x3.toInt + 1) (inc (by omega)) (fun v2 e100530 => ?_)
        exact ih _ _ _ (by first | assumption | omega | exact ⟨by omega, by omega⟩ | exact Or.inl (eqm1 (by omega))) (by omega)
theorem o_fX8_isLeastProof {σ0 σ : St} {a1 : Int32} {a2 : Int32} (hK : K σ0 σ) : ok (fX8_isLeastProof σ a1 a2) (tf True) := by
  have hFU : FU = 100000 := rfl
  unfold fX8_isLeastProof
  refine ok_bz (o_fX8_isProvedBy hK) ?_ (fun i100531 => ?_)
  · skip
    refine ok_gd (by decide) ?_
    exact ok_some tf0
  · skip
    refine ok_lq (Q := fun v => v.toInt = 0) rfl (fun v6 e100532 => ?_)
    exact ol_fX8_isLeastProof_l13 hK FU _ _ _ (by first | assumption | omega | exact ⟨by omega, by omega⟩ | exact Or.inl (eqm1 (by omega))) (by omega)
theorem o8_likely {σ0 σ : St} {a1 a2 : Int32} (hK : K σ0 σ) : ok (fX8_likely σ a1 a2) (fun _ => True) := by
  unfold fX8_likely
  refine ok_bz (ok_isC8 hK (Int32.toInt_toInt64 _)) (ok_some trivial) (fun h => ?_)
  have c := hK.cl8
  have h12 : ir a1 12 := ⟨h.1, by show _ < (12 : Int); omega⟩
  refine ok_bz (ok_in (v := 0) (w := 1) rfl rfl rfl) (ok_some trivial) (fun _ => ok_bp (o_fX8_saltedNow hK) (fun r3 h3 => ok_lt (ok_if (fun _ => ok_some trivial) (fun hz => ?_))))
  exact ok_bp (o8_ofClaim h12 (by decide) (by decide)) (fun r5 _ => ok_bp (o8_bits _) (fun r6 _ => ok_bp (bits_pos h3 hz) (fun r7 h7 => ok_bp (o8_part h7) (fun r8 _ => ok_some trivial))))
theorem o_fX8_menuOf {σ0 σ : St} {a1 : Int32} (hK : K σ0 σ) (hg : 0 ≤ a1.toInt ∧ a1.toInt < (σ0.1 63 (5 : Int32).toNatClampNeg).toInt) : ok (fX8_menuOf σ a1) (fun p => True ∧ K σ0 p.2) := by
  have hFU : FU = 100000 := rfl
  have hgl := hg.1
  have hgu := hg.2
  have hgc := hK.gu8
  unfold fX8_menuOf
  refine ok_bp (o_fX8_saltNow hK) (fun r1 q100533 => ?_)
  have q100533l := q100533.1
  have q100533u := q100533.2
  refine ok_bp (o8_ofGuest ⟨by omega, by omega⟩ (by decide) (by decide)) (fun r2 q100534 => ?_)
  refine ok_bp (o8_canDo hK ⟨by omega, by omega⟩) (fun r3 q100535 => ?_)
  refine ok_bs (o_fX8_mostBy hK) (fun r4 σ5 q100536 => ?_)
  have hK5 : K σ0 σ5 := q100536.2
  exact ok_some ⟨trivial, hK5⟩
theorem ol_fX8_needs__l30 {σ0 σ : St} (hK : K σ0 σ) : ∀ (n : Nat) (x1 : Int32) (x2 : Int32) (x3 : Int32), 0 ≤ x3.toInt → (12 + 1 - x3.toInt).toNat < n → ok (fX8_needs__l30 σ n x1 x2 x3) (fun _ => True) := by
  have hFU : FU = 100000 := rfl
  intro n
  induction n with
  | zero => intro x1 x2 x3 hx3 hm; omega
  | succ n ih =>
    intro x1 x2 x3 hx3 hm
    show ok (fX8_needs__B30 σ (fX8_needs__l30 σ n) x1 x2 x3) _
    unfold fX8_needs__B30
    have c100537 := hK.st8
    refine ok_gd (by decide) ?_
    refine ok_le rfl rfl (fun h100538 => ?_) (fun h100538 => ?_)
    · skip
      exact ok_some trivial
    · skip
      refine ok_bp (o_fX8_allSteps hK) (fun r3 q100539 => ?_)
      have q100539l := q100539.1
      have q100539u := q100539.2
      refine ok_bz (o_fX8_isProvedBy hK) ?_ (fun i100540 => ?_)
      · skip
        unfold fX8_needs__b66
        refine ok_la (fun v1 => ?_)
        refine ok_lq (Q := fun v => v.toInt = x3.toInt + 1) (inc (by omega)) (fun v2 e100542 => ?_)
        exact ih _ _ _ (by first | assumption | omega | exact ⟨by omega, by omega⟩ | exact Or.inl (eqm1 (by omega))) (by omega)
      · skip
        unfold fX8_needs__b66
        refine ok_la (fun v1 => ?_)
        refine ok_lq (Q := fun v => v.toInt = x3.toInt + 1) (inc (by omega)) (fun v2 e100544 => ?_)
        exact ih _ _ _ (by first | assumption | omega | exact ⟨by omega, by omega⟩ | exact Or.inl (eqm1 (by omega))) (by omega)
theorem o_fX8_needs_ {σ0 σ : St} {a1 : Int32} (hK : K σ0 σ) : ok (fX8_needs_ σ a1) (fun _ => True) := by
  have hFU : FU = 100000 := rfl
  unfold fX8_needs_
  refine ok_bz (ok_isC8 hK (Int32.toInt_toInt64 _)) ?_ (fun i100545 => ?_)
  · skip
    exact ok_some trivial
  · skip
    have i100545l := i100545.1
    have i100545u := i100545.2
    have i100545c := hK.cl8
    refine ok_bp (o_fX8_allSteps hK) (fun r6 q100546 => ?_)
    have q100546l := q100546.1
    have q100546u := q100546.2
    refine ok_bz (o_fX8_isProvedBy hK) ?_ (fun i100547 => ?_)
    · skip
      exact ok_some trivial
    · skip
      refine ok_lq (Q := fun v => v.toInt = 0) rfl (fun v8 e100548 => ?_)
      refine ok_lq (Q := fun v => v.toInt = 0) rfl (fun v9 e100549 => ?_)
      exact ol_fX8_needs__l30 hK FU _ _ _ (by first | assumption | omega | exact ⟨by omega, by omega⟩ | exact Or.inl (eqm1 (by omega))) (by omega)
theorem o_fX8_proofOf {σ0 σ : St} {a1 : Int32} (hK : K σ0 σ) : ok (fX8_proofOf σ a1) (fun _ => True) := by
  have hFU : FU = 100000 := rfl
  unfold fX8_proofOf
  refine ok_bp (o_fX8_saltNow hK) (fun r1 q100550 => ?_)
  have q100550l := q100550.1
  have q100550u := q100550.2
  refine ok_bp (o_fX8_allSteps hK) (fun r2 q100551 => ?_)
  have q100551l := q100551.1
  have q100551u := q100551.2
  refine ok_bp (o_fX8_fewestSteps hK) (fun r3 q100552 => ?_)
  exact ok_some trivial
theorem o_fX8_proved {σ0 σ : St} (hK : K σ0 σ) : ok (fX8_proved σ) (fun _ => True) := by
  have hFU : FU = 100000 := rfl
  unfold fX8_proved
  refine ok_bz ok_isT8 ?_ (fun i100553 => ?_)
  · skip
    exact ok_some trivial
  · skip
    refine ok_bp (o_fX8_provedNow hK) (fun r2 q100554 => ?_)
    exact ok_some trivial
theorem o_fX8_rests {σ0 σ : St} {a1 : Int32} (hK : K σ0 σ) : ok (fX8_rests σ a1) (fun _ => True) := by
  have hFU : FU = 100000 := rfl
  unfold fX8_rests
  refine ok_bz (ok_isS8 hK (Int32.toInt_toInt64 _)) ?_ (fun i100555 => ?_)
  · skip
    exact ok_some trivial
  · skip
    have i100555l := i100555.1
    have i100555u := i100555.2
    have i100555c := hK.st8
    refine ok_bp (o_fX8_provedNow hK) (fun r2 q100556 => ?_)
    refine ok_bp (o_fX8_saltNow hK) (fun r3 q100557 => ?_)
    have q100557l := q100557.1
    have q100557u := q100557.2
    refine ok_bp (o_fX8_allSteps hK) (fun r4 q100558 => ?_)
    have q100558l := q100558.1
    have q100558u := q100558.2
    refine ok_bp (o8_provedBy hK) (fun r5 q100559 => ?_)
    exact ok_some trivial
theorem o_fX8_salted {σ0 σ : St} (hK : K σ0 σ) : ok (fX8_salted σ) (fun _ => True) := by
  have hFU : FU = 100000 := rfl
  unfold fX8_salted
  refine ok_bz ok_isT8 ?_ (fun i100560 => ?_)
  · skip
    exact ok_some trivial
  · skip
    refine ok_bp (o_fX8_saltedNow hK) (fun r2 q100561 => ?_)
    have q100561l := q100561.1
    have q100561u := q100561.2
    exact ok_some trivial
theorem o_fX8_same {σ0 σ : St} {a1 : Int32} {a2 : Int32} {a3 : Int32} (hK : K σ0 σ) : ok (fX8_same σ a1 a2 a3) (fun p => True ∧ K σ0 p.2) := by
  have hFU : FU = 100000 := rfl
  unfold fX8_same
  refine ok_bz ok_isSl8 ?_ (fun i100562 => ?_)
  · skip
    unfold fX8_same_b34
    unfold fX8_same_b35
    refine ok_lq (Q := fun v => v.toInt = 0) rfl (fun v1 e100563 => ?_)
    refine ok_eq (n := 0) rfl rfl (fun h100564e h100564 => ?_) (fun h100564e h100564 => ?_)
    · skip
      exact ok_some ⟨trivial, hK⟩
    · exact absurd h100564 (by omega)
  · skip
    refine ok_bz ok_isSl8 ?_ (fun i100565 => ?_)
    · skip
      unfold fX8_same_b34
      unfold fX8_same_b35
      refine ok_lq (Q := fun v => v.toInt = 0) rfl (fun v1 e100566 => ?_)
      refine ok_eq (n := 0) rfl rfl (fun h100567e h100567 => ?_) (fun h100567e h100567 => ?_)
      · skip
        exact ok_some ⟨trivial, hK⟩
      · exact absurd h100567 (by omega)
    · skip
      refine ok_bz ok_isT8 ?_ (fun i100568 => ?_)
      · skip
        unfold fX8_same_b34
        unfold fX8_same_b35
        refine ok_lq (Q := fun v => v.toInt = 0) rfl (fun v1 e100569 => ?_)
        refine ok_eq (n := 0) rfl rfl (fun h100570e h100570 => ?_) (fun h100570e h100570 => ?_)
        · skip
          exact ok_some ⟨trivial, hK⟩
        · exact absurd h100570 (by omega)
      · skip
        refine ok_bz (ok_isC8 hK (Int32.toInt_toInt64 _)) ?_ (fun i100571 => ?_)
        · skip
          unfold fX8_same_b34
          unfold fX8_same_b35
          refine ok_lq (Q := fun v => v.toInt = 0) rfl (fun v1 e100572 => ?_)
          refine ok_eq (n := 0) rfl rfl (fun h100573e h100573 => ?_) (fun h100573e h100573 => ?_)
          · skip
            exact ok_some ⟨trivial, hK⟩
          · exact absurd h100573 (by omega)
        · skip
          have i100571l := i100571.1
          have i100571u := i100571.2
          have i100571c := hK.cl8
          unfold fX8_same_b35
          refine ok_lq (Q := fun v => v.toInt = 1) rfl (fun v1 e100574 => ?_)
          refine ok_eq (n := 0) rfl rfl (fun h100575e h100575 => ?_) (fun h100575e h100575 => ?_)
          · skip
            exact absurd h100575 (by omega)
          · skip
            refine ok_gd i100562 ?_
            refine ok_eq (n := -1) rfl rfl (fun h100576e h100576 => ?_) (fun h100576e h100576 => ?_)
            · skip
              exact ok_some ⟨trivial, hK⟩
            · skip
              refine ok_gd i100565 ?_
              refine ok_eq (n := -1) rfl rfl (fun h100577e h100577 => ?_) (fun h100577e h100577 => ?_)
              · skip
                exact ok_some ⟨trivial, hK⟩
              · skip
                refine ok_bp (o8_asksRow hK) (fun r2 q100578 => ?_)
                refine ok_lw (n := 0) rfl rfl (fun h100579 => ?_) (fun h100579 => ?_)
                · skip
                  exact ok_some ⟨trivial, hK⟩
                · skip
                  have h100579a := q100578 h100579
                  have h100579s := h100579a.1
                  have h100579r := h100579a.2.2.1
                  refine ok_bp (o8_asksRow hK) (fun r3 q100580 => ?_)
                  refine ok_le (m := 0) rfl rfl (fun h100581 => ?_) (fun h100581 => ?_)
                  · skip
                    have h100581a := q100580 h100581
                    have h100581s := h100581a.1
                    have h100581r := h100581a.2.2.1
                    refine ok_bs (o8_usedBy hK h100579s h100579r) (fun r4 σ5 q100582 => ?_)
                    have hK5 : K σ0 σ5 := q100582.2
                    refine ok_bs (o8_usedBy hK5 h100581s h100581r) (fun r6 σ7 q100583 => ?_)
                    have hK7 : K σ0 σ7 := q100583.2
                    refine ok_eq rfl rfl (fun h100584e h100584 => ?_) (fun h100584e h100584 => ?_)
                    · skip
                      exact ok_some ⟨trivial, hK7⟩
                    · skip
                      exact ok_some ⟨trivial, hK7⟩
                  · skip
                    exact ok_some ⟨trivial, hK⟩
theorem o_fX8_spare {σ0 σ : St} {a1 : Int32} (hK : K σ0 σ) : ok (fX8_spare σ a1) (fun _ => True) := by
  have hFU : FU = 100000 := rfl
  unfold fX8_spare
  refine ok_bz (o_fX8_areClaims hK) ?_ (fun i100585 => ?_)
  · skip
    exact ok_some trivial
  · skip
    refine ok_bp (o_fX8_spareOf hK) (fun r2 q100586 => ?_)
    refine ok_lt ?_
    refine ok_eq (n := -1) rfl rfl (fun h100587e h100587 => ?_) (fun h100587e h100587 => ?_)
    · skip
      exact ok_some trivial
    · skip
      refine ok_bp (o8_bits _) (fun r4 q100588 => ?_)
      have q100588l := q100588.1
      have q100588u := q100588.2
      exact ok_some trivial
theorem o_fX8_spared {σ0 σ : St} {a1 : Int32} (hK : K σ0 σ) : ok (fX8_spared σ a1) (fun _ => True) := by
  have hFU : FU = 100000 := rfl
  unfold fX8_spared
  refine ok_bz (o_fX8_areClaims hK) ?_ (fun i100589 => ?_)
  · skip
    exact ok_some trivial
  · skip
    refine ok_bp (o_fX8_spareOf hK) (fun r2 q100590 => ?_)
    exact ok_some trivial
theorem o_fX8_step {σ0 σ : St} {a1 : Int32} {a2 : Int32} (hK : K σ0 σ) : ok (fX8_step σ a1 a2) (fun _ => True) := by
  have hFU : FU = 100000 := rfl
  unfold fX8_step
  refine ok_bz (ok_isS8 hK (Int32.toInt_toInt64 _)) ?_ (fun i100591 => ?_)
  · skip
    exact ok_some trivial
  · skip
    have i100591l := i100591.1
    have i100591u := i100591.2
    have i100591c := hK.st8
    refine ok_bz (ok_in (v := 0) (w := 2) (Int32.toInt_toInt64 _) rfl rfl) ?_ (fun i100592 => ?_)
    · skip
      exact ok_some trivial
    · skip
      have i100592l := i100592.1
      have i100592u := i100592.2
      refine ok_le (m := 2) rfl rfl (fun h100593 => ?_) (fun h100593 => ?_)
      · skip
        refine ok_bp (o_fX8_falseIn hK ⟨by omega, by omega⟩) (fun r3 q100594 => ?_)
        refine ok_eq (n := 0) rfl rfl (fun h100595e h100595 => ?_) (fun h100595e h100595 => ?_)
        · skip
          exact ok_some trivial
        · skip
          exact ok_some trivial
      · skip
        refine ok_bp (o8_ofStep ⟨by omega, by omega⟩ (by omega) (by omega)) (fun r4 q100596 => ?_)
        exact ok_some trivial
theorem o_fX8_takes_ {σ0 σ : St} {a1 : Int32} {a2 : Int32} (hK : K σ0 σ) : ok (fX8_takes_ σ a1 a2) (fun _ => True) := by
  have hFU : FU = 100000 := rfl
  unfold fX8_takes_
  refine ok_bz (ok_isG8 hK (Int32.toInt_toInt64 _)) ?_ (fun i100597 => ?_)
  · skip
    exact ok_some trivial
  · skip
    have i100597l := i100597.1
    have i100597u := i100597.2
    have i100597c := hK.gu8
    refine ok_bz (o_fX8_areClaims hK) ?_ (fun i100598 => ?_)
    · skip
      exact ok_some trivial
    · skip
      refine ok_bp (o_fX8_saltNow hK) (fun r3 q100599 => ?_)
      have q100599l := q100599.1
      have q100599u := q100599.2
      refine ok_bp (o8_ofGuest ⟨by omega, by omega⟩ (by decide) (by decide)) (fun r4 q100600 => ?_)
      refine ok_bp (o_fX8_fewestSteps hK) (fun r5 q100601 => ?_)
      refine ok_lt ?_
      refine ok_eq (n := -1) rfl rfl (fun h100602e h100602 => ?_) (fun h100602e h100602 => ?_)
      · skip
        exact ok_some trivial
      · skip
        refine ok_bp (o8_bits _) (fun r7 q100603 => ?_)
        have q100603l := q100603.1
        have q100603u := q100603.2
        refine ok_bp (o8_ofGuest ⟨by omega, by omega⟩ (by decide) (by decide)) (fun r8 q100604 => ?_)
        exact ok_some trivial
theorem o_fX8_used {σ0 σ : St} {a1 : Int32} {a2 : Int32} (hK : K σ0 σ) : ok (fX8_used σ a1 a2) (fun p => True ∧ K σ0 p.2) := by
  have hFU : FU = 100000 := rfl
  unfold fX8_used
  refine ok_bp (ok_isC8 hK (Int32.toInt_toInt64 _)) (fun r1 q100605 => ?_)
  refine ok_bp (o8_asksRow hK) (fun r2 q100606 => ?_)
  refine ok_lt ?_
  refine ok_le (m := 0) rfl rfl (fun h100607 => ?_) (fun h100607 => ?_)
  · skip
    have h100607a := q100606 h100607
    have h100607s := h100607a.1
    have h100607r := h100607a.2.2.1
    have h100607i := ((q100605).resolve_left h100607a.2.1).2
    have h100607il := h100607i.1
    have h100607iu := h100607i.2
    have h100607ic := hK.cl8
    refine ok_bs (o8_usedBy hK h100607s h100607r) (fun r4 σ5 q100608 => ?_)
    have hK5 : K σ0 σ5 := q100608.2
    exact ok_some ⟨trivial, hK5⟩
  · skip
    exact ok_some ⟨trivial, hK⟩
theorem o_fX8_worstOf {σ0 σ : St} {a1 : Int32} (hK : K σ0 σ) (pa1 : ir a1 12) : ok (fX8_worstOf σ a1) (fun _ => True) := by
  have hFU : FU = 100000 := rfl
  have pa1l := pa1.1
  have pa1u := pa1.2
  unfold fX8_worstOf
  refine ok_bp (o_fX8_saltedNow hK) (fun r1 q100609 => ?_)
  have q100609l := q100609.1
  have q100609u := q100609.2
  refine ok_bp (o8_ofClaim pa1 (by decide) (by decide)) (fun r2 q100610 => ?_)
  refine ok_bp (o8_bits _) (fun r3 q100611 => ?_)
  have q100611l := q100611.1
  have q100611u := q100611.2
  refine ok_lt ?_
  refine ok_bp (o_fX8_saltedNow hK) (fun r5 q100612 => ?_)
  have q100612l := q100612.1
  have q100612u := q100612.2
  refine ok_bp (o8_bits _) (fun r6 q100613 => ?_)
  have q100613l := q100613.1
  have q100613u := q100613.2
  exact ok_some trivial
theorem ol_fX8_askOf_l12 {σ0 σ : St} (hK : K σ0 σ) : ∀ (n : Nat) (x1 : Int32) (x2 : Int32) (x3 : Int32), 0 ≤ x3.toInt → x1 = -1 ∨ ir x1 12 → (12 + 1 - x3.toInt).toNat < n → ok (fX8_askOf_l12 σ n x1 x2 x3) (fun r => r = -1 ∨ ir r 12) := by
  have hFU : FU = 100000 := rfl
  intro n
  induction n with
  | zero => intro x1 x2 x3 hx3 b1 hm; omega
  | succ n ih =>
    intro x1 x2 x3 hx3 b1 hm
    show ok (fX8_askOf_B12 σ (fX8_askOf_l12 σ n) x1 x2 x3) _
    unfold fX8_askOf_B12
    have c100614 := hK.cl8
    refine ok_gd (by decide) ?_
    refine ok_le rfl rfl (fun h100615 => ?_) (fun h100615 => ?_)
    · skip
      exact ok_some b1
    · skip
      refine ok_bp (o_fX8_worstOf hK ⟨by omega, by omega⟩) (fun r1 q100616 => ?_)
      refine ok_lw rfl rfl (fun h100617 => ?_) (fun h100617 => ?_)
      · skip
        refine ok_bp (o_fX8_worstOf hK ⟨by omega, by omega⟩) (fun r2 q100618 => ?_)
        refine ok_lt ?_
        refine ok_lt ?_
        refine ok_lq (Q := fun v => v.toInt = x3.toInt + 1) (inc (by omega)) (fun v5 e100619 => ?_)
        exact ih _ _ _ (by first | assumption | omega | exact ⟨by omega, by omega⟩ | exact Or.inl (eqm1 (by omega))) (by first | assumption | omega | exact ⟨by omega, by omega⟩ | exact Or.inl (eqm1 (by omega))) (by omega)
      · skip
        refine ok_lq (Q := fun v => v.toInt = x3.toInt + 1) (inc (by omega)) (fun v6 e100620 => ?_)
        exact ih _ _ _ (by first | assumption | omega | exact ⟨by omega, by omega⟩ | exact Or.inl (eqm1 (by omega))) (by first | assumption | omega | exact ⟨by omega, by omega⟩ | exact Or.inl (eqm1 (by omega))) (by omega)
theorem o_fX8_askOf {σ0 σ : St} (hK : K σ0 σ) : ok (fX8_askOf σ) (fun r => r = -1 ∨ ir r 12) := by
  have hFU : FU = 100000 := rfl
  unfold fX8_askOf
  refine ok_lq (Q := fun v => v.toInt = -1) rfl (fun v7 e100621 => ?_)
  refine ok_bp (o_fX8_saltedNow hK) (fun r8 q100622 => ?_)
  have q100622l := q100622.1
  have q100622u := q100622.2
  refine ok_bp (o8_bits _) (fun r9 q100623 => ?_)
  have q100623l := q100623.1
  have q100623u := q100623.2
  refine ok_lt ?_
  refine ok_lq (Q := fun v => v.toInt = 0) rfl (fun v11 e100624 => ?_)
  exact ol_fX8_askOf_l12 hK FU _ _ _ (by first | assumption | omega | exact ⟨by omega, by omega⟩ | exact Or.inl (eqm1 (by omega))) (by first | assumption | omega | exact ⟨by omega, by omega⟩ | exact Or.inl (eqm1 (by omega))) (by omega)
theorem ol_fX8_ate_l18 {σ0 σ : St} (hK : K σ0 σ) : ∀ (n : Nat) (x1 : Int32) (x3 : Int32) (x4 : Int32), 0 ≤ x4.toInt → ir x1 4 → (5 + 1 - x4.toInt).toNat < n → ok (fX8_ate_l18 σ n x1 x3 x4) (fun _ => True) := by
  have hFU : FU = 100000 := rfl
  intro n
  induction n with
  | zero => intro x1 x3 x4 hx4 ax1 hm; omega
  | succ n ih =>
    intro x1 x3 x4 hx4 ax1 hm
    have ax1l := ax1.1
    have ax1u := ax1.2
    show ok (fX8_ate_B18 σ (fX8_ate_l18 σ n) x1 x3 x4) _
    unfold fX8_ate_B18
    have c100625 := hK.gu8
    refine ok_gd (by decide) ?_
    refine ok_le rfl rfl (fun h100626 => ?_) (fun h100626 => ?_)
    · skip
      exact ok_some trivial
    · skip
      refine ok_bp (o_fX8_eatenBy hK ax1) (fun r3 q100627 => ?_)
      refine ok_bz (o_fX8_canProve hK ⟨by omega, by omega⟩) ?_ (fun i100628 => ?_)
      · skip
        unfold fX8_ate_b52
        refine ok_la (fun v1 => ?_)
        refine ok_lq (Q := fun v => v.toInt = x4.toInt + 1) (inc (by omega)) (fun v2 e100630 => ?_)
        exact ih _ _ _ (by first | assumption | omega | exact ⟨by omega, by omega⟩ | exact Or.inl (eqm1 (by omega))) ax1 (by omega)
      · skip
        unfold fX8_ate_b52
        refine ok_la (fun v1 => ?_)
        refine ok_lq (Q := fun v => v.toInt = x4.toInt + 1) (inc (by omega)) (fun v2 e100632 => ?_)
        exact ih _ _ _ (by first | assumption | omega | exact ⟨by omega, by omega⟩ | exact Or.inl (eqm1 (by omega))) ax1 (by omega)
theorem o_fX8_ate {σ0 σ : St} {a1 : Int32} (hK : K σ0 σ) : ok (fX8_ate σ a1) (fun _ => True) := by
  have hFU : FU = 100000 := rfl
  unfold fX8_ate
  refine ok_bp (o8_asksEaten hK) (fun r5 q100633 => ?_)
  refine ok_lt ?_
  refine ok_le (m := 0) rfl rfl (fun h100634 => ?_) (fun h100634 => ?_)
  · skip
    have h100634a := q100633 h100634
    have h100634s := h100634a.1
    refine ok_lq (Q := fun v => v.toInt = 0) rfl (fun v7 e100635 => ?_)
    refine ok_lq (Q := fun v => v.toInt = 0) rfl (fun v8 e100636 => ?_)
    exact ol_fX8_ate_l18 hK FU _ _ _ (by first | assumption | omega | exact ⟨by omega, by omega⟩ | exact Or.inl (eqm1 (by omega))) h100634s (by omega)
  · skip
    exact ok_some trivial
theorem ol_fX8_bite_l62 {σ0 σ : St} {kr53 : Int32 → Int32 → Int32 → Int32 → Int32 → Option (Int32)} {m53 : Nat} (hK : K σ0 σ) (hkr53 : ∀ (x2 : Int32) (x3 : Int32) (x4 : Int32) (x5 : Int32) (x6 : Int32), 0 ≤ x6.toInt → x2.toInt ≤ 254 → (256 + 1 - x6.toInt).toNat < m53 → ok (kr53 x2 x3 x4 x5 x6) (fun _ => True)) : ∀ (n : Nat) (x2 : Int32) (x3 : Int32) (x4 : Int32) (x5 : Int32) (x6 : Int32), 0 ≤ x5.toInt → x5.toInt ≤ (σ.1 63 (4 : Int32).toNatClampNeg).toInt → x2.toInt ≤ 254 → x6.toInt ≤ x2.toInt → 0 ≤ x6.toInt → (256 + 1 - x6.toInt).toNat < m53 + 1 → (12 + 1 - x5.toInt).toNat < n → ok (fX8_bite_l62 σ kr53 n x2 x3 x4 x5 x6) (fun _ => True) := by
  have hFU : FU = 100000 := rfl
  intro n
  induction n with
  | zero => intro x2 x3 x4 x5 x6 hx5 u5 b2 b6 hx6 hm53 hm; omega
  | succ n ih =>
    intro x2 x3 x4 x5 x6 hx5 u5 b2 b6 hx6 hm53 hm
    show ok (fX8_bite_B62 σ kr53 (fX8_bite_l62 σ kr53 n) x2 x3 x4 x5 x6) _
    unfold fX8_bite_B62
    have c100637 := hK.st8
    refine ok_gd (by decide) ?_
    refine ok_le rfl rfl (fun h100638 => ?_) (fun h100638 => ?_)
    · skip
      unfold fX8_bite_b99
      refine ok_gd (by decide) ?_
      refine ok_eq rfl rfl (fun h100639e h100639 => ?_) (fun h100639e h100639 => ?_)
      · skip
        exact ok_some trivial
      · skip
        refine ok_bp (o8_ofGives hK ⟨by omega, by omega⟩) (fun r1 q100640 => ?_)
        have q100640l := q100640.1
        have q100640u := q100640.2
        refine ok_la (fun v2 => ?_)
        refine ok_lq (Q := fun v => v.toInt = x6.toInt + 1) (inc (by omega)) (fun v3 e100642 => ?_)
        exact hkr53 _ _ _ _ _ (by first | assumption | omega | exact ⟨by omega, by omega⟩ | exact Or.inl (eqm1 (by omega))) (by first | assumption | omega | exact ⟨by omega, by omega⟩ | exact Or.inl (eqm1 (by omega))) (by omega)
    · skip
      refine ok_bp ok_bit8 (fun r4 q100643 => ?_)
      refine ok_eq (n := 0) rfl rfl (fun h100644e h100644 => ?_) (fun h100644e h100644 => ?_)
      · skip
        refine ok_lq (Q := fun v => v.toInt = x5.toInt + 1) (inc (by omega)) (fun v5 e100645 => ?_)
        exact ih _ _ _ _ _ (by first | assumption | omega | exact ⟨by omega, by omega⟩ | exact Or.inl (eqm1 (by omega))) (by first | assumption | omega | exact ⟨by omega, by omega⟩ | exact Or.inl (eqm1 (by omega))) (by first | assumption | omega | exact ⟨by omega, by omega⟩ | exact Or.inl (eqm1 (by omega))) (by first | assumption | omega | exact ⟨by omega, by omega⟩ | exact Or.inl (eqm1 (by omega))) (by first | assumption | omega | exact ⟨by omega, by omega⟩ | exact Or.inl (eqm1 (by omega))) (by first | assumption | omega | exact ⟨by omega, by omega⟩ | exact Or.inl (eqm1 (by omega))) (by omega)
      · skip
        refine ok_bz (o8_goes hK ⟨by omega, by omega⟩) ?_ (fun i100646 => ?_)
        · skip
          refine ok_lq (Q := fun v => v.toInt = x5.toInt + 1) (inc (by omega)) (fun v7 e100647 => ?_)
          exact ih _ _ _ _ _ (by first | assumption | omega | exact ⟨by omega, by omega⟩ | exact Or.inl (eqm1 (by omega))) (by first | assumption | omega | exact ⟨by omega, by omega⟩ | exact Or.inl (eqm1 (by omega))) (by first | assumption | omega | exact ⟨by omega, by omega⟩ | exact Or.inl (eqm1 (by omega))) (by first | assumption | omega | exact ⟨by omega, by omega⟩ | exact Or.inl (eqm1 (by omega))) (by first | assumption | omega | exact ⟨by omega, by omega⟩ | exact Or.inl (eqm1 (by omega))) (by first | assumption | omega | exact ⟨by omega, by omega⟩ | exact Or.inl (eqm1 (by omega))) (by omega)
        · skip
          unfold fX8_bite_b99
          refine ok_gd (by decide) ?_
          refine ok_eq rfl rfl (fun h100648e h100648 => ?_) (fun h100648e h100648 => ?_)
          · skip
            exact ok_some trivial
          · skip
            refine ok_bp (o8_ofGives hK ⟨by omega, by omega⟩) (fun r1 q100649 => ?_)
            have q100649l := q100649.1
            have q100649u := q100649.2
            refine ok_la (fun v2 => ?_)
            refine ok_lq (Q := fun v => v.toInt = x6.toInt + 1) (inc (by omega)) (fun v3 e100651 => ?_)
            exact hkr53 _ _ _ _ _ (by first | assumption | omega | exact ⟨by omega, by omega⟩ | exact Or.inl (eqm1 (by omega))) (by first | assumption | omega | exact ⟨by omega, by omega⟩ | exact Or.inl (eqm1 (by omega))) (by omega)
theorem ol_fX8_bite_l53 {σ0 σ : St} (hK : K σ0 σ) : ∀ (n : Nat) (x2 : Int32) (x3 : Int32) (x4 : Int32) (x5 : Int32) (x6 : Int32), 0 ≤ x6.toInt → x2.toInt ≤ 254 → (256 + 1 - x6.toInt).toNat < n → ok (fX8_bite_l53 σ n x2 x3 x4 x5 x6) (fun _ => True) := by
  have hFU : FU = 100000 := rfl
  intro n
  induction n with
  | zero => intro x2 x3 x4 x5 x6 hx6 b2 hm; omega
  | succ n ih =>
    intro x2 x3 x4 x5 x6 hx6 b2 hm
    have cst := hK.st8
    show ok (fX8_bite_B53 σ (fX8_bite_l53 σ n) x2 x3 x4 x5 x6) _
    unfold fX8_bite_B53
    refine ok_lw rfl rfl (fun h100652 => ?_) (fun h100652 => ?_)
    · skip
      exact ok_some trivial
    · skip
      refine ok_lq (Q := fun v => v.toInt = 0) rfl (fun v8 e100653 => ?_)
      exact ol_fX8_bite_l62 hK ih FU _ _ _ _ _ (by first | assumption | omega | exact ⟨by omega, by omega⟩ | exact Or.inl (eqm1 (by omega))) (by first | assumption | omega | exact ⟨by omega, by omega⟩ | exact Or.inl (eqm1 (by omega))) (by first | assumption | omega | exact ⟨by omega, by omega⟩ | exact Or.inl (eqm1 (by omega))) (by first | assumption | omega | exact ⟨by omega, by omega⟩ | exact Or.inl (eqm1 (by omega))) (by first | assumption | omega | exact ⟨by omega, by omega⟩ | exact Or.inl (eqm1 (by omega))) (by first | assumption | omega | exact ⟨by omega, by omega⟩ | exact Or.inl (eqm1 (by omega))) (by omega)
theorem o_fX8_bite {σ0 σ : St} {a1 : Int32} {a2 : Int32} (hK : K σ0 σ) : ok (fX8_bite σ a1 a2) (fun _ => True) := by
  have hFU : FU = 100000 := rfl
  unfold fX8_bite
  refine ok_bz (ok_isC8 hK (Int32.toInt_toInt64 _)) ?_ (fun i100654 => ?_)
  · skip
    exact ok_some trivial
  · skip
    have i100654l := i100654.1
    have i100654u := i100654.2
    have i100654c := hK.cl8
    refine ok_bp (o_fX8_proofOf hK) (fun r10 q100655 => ?_)
    refine ok_lt ?_
    refine ok_eq (n := -1) rfl rfl (fun h100656e h100656 => ?_) (fun h100656e h100656 => ?_)
    · skip
      exact ok_some trivial
    · skip
      refine ok_bp (o8_bits _) (fun r12 q100657 => ?_)
      have q100657l := q100657.1
      have q100657u := q100657.2
      refine ok_bz (ok_in (v := 0) (Int32.toInt_toInt64 _) rfl ((Int32.toInt_toInt64 _).trans (dec1 (by omega)))) ?_ (fun i100658 => ?_)
      · skip
        exact ok_some trivial
      · skip
        have i100658l := i100658.1
        have i100658u := i100658.2
        refine ok_bp (o_fX8_saltNow hK) (fun r14 q100659 => ?_)
        have q100659l := q100659.1
        have q100659u := q100659.2
        refine ok_lt ?_
        refine ok_lq (Q := fun v => v.toInt = 0) rfl (fun v16 e100660 => ?_)
        refine ok_lq (Q := fun v => v.toInt = 0) rfl (fun v17 e100661 => ?_)
        exact ol_fX8_bite_l53 hK FU _ _ _ _ _ (by first | assumption | omega | exact ⟨by omega, by omega⟩ | exact Or.inl (eqm1 (by omega))) (by first | assumption | omega | exact ⟨by omega, by omega⟩ | exact Or.inl (eqm1 (by omega))) (by omega)
theorem o_fX8_course {σ0 σ : St} {a1 : Int32} (hK : K σ0 σ) : ok (fX8_course σ a1) (fun p => True ∧ K σ0 p.2) := by
  have hFU : FU = 100000 := rfl
  unfold fX8_course
  refine ok_bz (ok_isG8 hK (Int32.toInt_toInt64 _)) ?_ (fun i100662 => ?_)
  · skip
    exact ok_some ⟨trivial, hK⟩
  · skip
    have i100662l := i100662.1
    have i100662u := i100662.2
    have i100662c := hK.gu8
    refine ok_bs (o_fX8_menuOf hK ⟨by omega, by omega⟩) (fun r2 σ3 q100663 => ?_)
    have hK3 : K σ0 σ3 := q100663.2
    exact ok_some ⟨trivial, hK3⟩
theorem o_fX8_dishes {σ0 σ : St} {a1 : Int32} (hK : K σ0 σ) : ok (fX8_dishes σ a1) (fun p => True ∧ K σ0 p.2) := by
  have hFU : FU = 100000 := rfl
  unfold fX8_dishes
  refine ok_bz (ok_isG8 hK (Int32.toInt_toInt64 _)) ?_ (fun i100664 => ?_)
  · skip
    exact ok_some ⟨trivial, hK⟩
  · skip
    have i100664l := i100664.1
    have i100664u := i100664.2
    have i100664c := hK.gu8
    refine ok_bs (o_fX8_menuOf hK ⟨by omega, by omega⟩) (fun r2 σ3 q100665 => ?_)
    have hK3 : K σ0 σ3 := q100665.2
    refine ok_bp (o_fX8_saltNow hK3) (fun r4 q100666 => ?_)
    have q100666l := q100666.1
    have q100666u := q100666.2
    refine ok_bp (o8_provedBy hK3) (fun r5 q100667 => ?_)
    refine ok_bp (o_fX8_saltNow hK3) (fun r6 q100668 => ?_)
    have q100668l := q100668.1
    have q100668u := q100668.2
    exact ok_some ⟨trivial, hK3⟩
theorem o_fX8_feast {σ0 σ : St} {a1 : Int32} {a2 : Int32} (hK : K σ0 σ) : ok (fX8_feast σ a1 a2) (fun p => True ∧ K σ0 p.2) := by
  have hFU : FU = 100000 := rfl
  unfold fX8_feast
  refine ok_bz ok_isSd8 ?_ (fun i100669 => ?_)
  · skip
    exact ok_some ⟨trivial, hK⟩
  · skip
    refine ok_bz (ok_isG8 hK (Int32.toInt_toInt64 _)) ?_ (fun i100670 => ?_)
    · skip
      exact ok_some ⟨trivial, hK⟩
    · skip
      have i100670l := i100670.1
      have i100670u := i100670.2
      have i100670c := hK.gu8
      refine ok_bs (o_fX8_feastOf hK ⟨by omega, by omega⟩) (fun r3 σ4 q100671 => ?_)
      have hK4 : K σ0 σ4 := q100671.2
      exact ok_some ⟨trivial, hK4⟩
theorem ol_fX8_following_l4 {σ0 σ : St} (hK : K σ0 σ) : ∀ (n : Nat) (x1 : Int32) (x2 : Int32), 0 ≤ x2.toInt → (12 + 1 - x2.toInt).toNat < n → ok (fX8_following_l4 σ n x1 x2) (fun _ => True) := by
  have hFU : FU = 100000 := rfl
  intro n
  induction n with
  | zero => intro x1 x2 hx2 hm; omega
  | succ n ih =>
    intro x1 x2 hx2 hm
    show ok (fX8_following_B4 σ (fX8_following_l4 σ n) x1 x2) _
    unfold fX8_following_B4
    have c100672 := hK.cl8
    refine ok_gd (by decide) ?_
    refine ok_le rfl rfl (fun h100673 => ?_) (fun h100673 => ?_)
    · skip
      exact ok_some trivial
    · skip
      refine ok_bz (o_fX8_isFollowing hK ⟨by omega, by omega⟩) ?_ (fun i100674 => ?_)
      · skip
        unfold fX8_following_b30
        refine ok_la (fun v1 => ?_)
        refine ok_lq (Q := fun v => v.toInt = x2.toInt + 1) (inc (by omega)) (fun v2 e100676 => ?_)
        exact ih _ _ (by first | assumption | omega | exact ⟨by omega, by omega⟩ | exact Or.inl (eqm1 (by omega))) (by omega)
      · skip
        unfold fX8_following_b30
        refine ok_la (fun v1 => ?_)
        refine ok_lq (Q := fun v => v.toInt = x2.toInt + 1) (inc (by omega)) (fun v2 e100678 => ?_)
        exact ih _ _ (by first | assumption | omega | exact ⟨by omega, by omega⟩ | exact Or.inl (eqm1 (by omega))) (by omega)
theorem o_fX8_following {σ0 σ : St} (hK : K σ0 σ) : ok (fX8_following σ) (fun _ => True) := by
  have hFU : FU = 100000 := rfl
  unfold fX8_following
  refine ok_lq (Q := fun v => v.toInt = 0) rfl (fun v4 e100679 => ?_)
  refine ok_lq (Q := fun v => v.toInt = 0) rfl (fun v5 e100680 => ?_)
  exact ol_fX8_following_l4 hK FU _ _ (by first | assumption | omega | exact ⟨by omega, by omega⟩ | exact Or.inl (eqm1 (by omega))) (by omega)
theorem o_fX8_follows {σ0 σ : St} {a1 : Int32} (hK : K σ0 σ) : ok (fX8_follows σ a1) (fun _ => True) := by
  have hFU : FU = 100000 := rfl
  unfold fX8_follows
  refine ok_bz (ok_isC8 hK (Int32.toInt_toInt64 _)) ?_ (fun i100681 => ?_)
  · skip
    exact ok_some trivial
  · skip
    have i100681l := i100681.1
    have i100681u := i100681.2
    have i100681c := hK.cl8
    refine ok_bz (o_fX8_isFollowing hK ⟨by omega, by omega⟩) ?_ (fun i100682 => ?_)
    · skip
      exact ok_some trivial
    · skip
      exact ok_some trivial
theorem ol_fX8_lemmaOf_l11 {σ0 : St} : ∀ (n : Nat) (σ : St) (x1 : Int32) (x2 : Int32) (x3 : Int32) (x4 : Int32), K σ0 σ → 0 ≤ x4.toInt → 0 ≤ x1.toInt → x1.toInt < (σ0.1 63 (5 : Int32).toNatClampNeg).toInt → (12 + 1 - x4.toInt).toNat < n → ok (fX8_lemmaOf_l11 n σ x1 x2 x3 x4) (fun p => True ∧ K σ0 p.2) := by
  have hFU : FU = 100000 := rfl
  intro n
  induction n with
  | zero => intro σ x1 x2 x3 x4 hK hx4 gl gu hm; omega
  | succ n ih =>
    intro σ x1 x2 x3 x4 hK hx4 gl gu hm
    have cG := hK.gu8
    show ok (fX8_lemmaOf_B11  (fX8_lemmaOf_l11  n) σ x1 x2 x3 x4) _
    unfold fX8_lemmaOf_B11
    have c100683 := hK.cl8
    refine ok_gd (by decide) ?_
    refine ok_le rfl rfl (fun h100684 => ?_) (fun h100684 => ?_)
    · skip
      exact ok_some ⟨trivial, hK⟩
    · skip
      refine ok_bp (o_fX8_saltNow hK) (fun r1 q100685 => ?_)
      have q100685l := q100685.1
      have q100685u := q100685.2
      refine ok_bp (o8_ofGuest ⟨by omega, by omega⟩ (by decide) (by decide)) (fun r2 q100686 => ?_)
      refine ok_bp (o8_canDo hK ⟨by omega, by omega⟩) (fun r3 q100687 => ?_)
      refine ok_bs (o_fX8_mostBy hK) (fun r4 σ5 q100688 => ?_)
      have hK5 : K σ0 σ5 := q100688.2
      refine ok_lt ?_
      refine ok_lw rfl rfl (fun h100689 => ?_) (fun h100689 => ?_)
      · skip
        refine ok_lt ?_
        refine ok_lt ?_
        refine ok_lq (Q := fun v => v.toInt = x4.toInt + 1) (inc (by omega)) (fun v9 e100690 => ?_)
        exact ih _ _ _ _ _ hK5 (by first | assumption | omega | exact ⟨by omega, by omega⟩ | exact Or.inl (eqm1 (by omega))) (by first | assumption | omega | exact ⟨by omega, by omega⟩ | exact Or.inl (eqm1 (by omega))) (by first | assumption | omega | exact ⟨by omega, by omega⟩ | exact Or.inl (eqm1 (by omega))) (by omega)
      · skip
        refine ok_lq (Q := fun v => v.toInt = x4.toInt + 1) (inc (by omega)) (fun v10 e100691 => ?_)
        exact ih _ _ _ _ _ hK5 (by first | assumption | omega | exact ⟨by omega, by omega⟩ | exact Or.inl (eqm1 (by omega))) (by first | assumption | omega | exact ⟨by omega, by omega⟩ | exact Or.inl (eqm1 (by omega))) (by first | assumption | omega | exact ⟨by omega, by omega⟩ | exact Or.inl (eqm1 (by omega))) (by omega)
theorem o_fX8_lemmaOf {σ0 σ : St} {a1 : Int32} (hK : K σ0 σ) (hg : 0 ≤ a1.toInt ∧ a1.toInt < (σ0.1 63 (5 : Int32).toNatClampNeg).toInt) : ok (fX8_lemmaOf σ a1) (fun p => True ∧ K σ0 p.2) := by
  have hFU : FU = 100000 := rfl
  have hgl := hg.1
  have hgu := hg.2
  have hgc := hK.gu8
  unfold fX8_lemmaOf
  refine ok_lq (Q := fun v => v.toInt = -1) rfl (fun v11 e100692 => ?_)
  refine ok_bs (o_fX8_menuOf hK ⟨by omega, by omega⟩) (fun r12 σ13 q100693 => ?_)
  have hK13 : K σ0 σ13 := q100693.2
  refine ok_lt ?_
  refine ok_lq (Q := fun v => v.toInt = 0) rfl (fun v15 e100694 => ?_)
  exact ol_fX8_lemmaOf_l11  FU _ _ _ _ _ hK13 (by first | assumption | omega | exact ⟨by omega, by omega⟩ | exact Or.inl (eqm1 (by omega))) (by first | assumption | omega | exact ⟨by omega, by omega⟩ | exact Or.inl (eqm1 (by omega))) (by first | assumption | omega | exact ⟨by omega, by omega⟩ | exact Or.inl (eqm1 (by omega))) (by omega)
theorem ol_fX8_mean_l48 {σ0 : St} : ∀ (n : Nat) (σ : St) (x1 : Int32) (x2 : Int32) (x3 : Int32) (x4 : Int32) (x5 : Int32) (x6 : Int32), K σ0 σ → 0 ≤ x6.toInt → 1 ≤ x2.toInt → x2.toInt ≤ 20 → 0 ≤ x3.toInt → x3.toInt < (σ0.1 63 (5 : Int32).toNatClampNeg).toInt → (20 + 1 - x6.toInt).toNat < n → ok (fX8_mean_l48 n σ x1 x2 x3 x4 x5 x6) (fun p => True ∧ K σ0 p.2) := by
  have hFU : FU = 100000 := rfl
  intro n
  induction n with
  | zero => intro σ x1 x2 x3 x4 x5 x6 hK hx6 b1 b2 gl gu hm; omega
  | succ n ih =>
    intro σ x1 x2 x3 x4 x5 x6 hK hx6 b1 b2 gl gu hm
    show ok (fX8_mean_B48  (fX8_mean_l48  n) σ x1 x2 x3 x4 x5 x6) _
    unfold fX8_mean_B48
    refine ok_le rfl rfl (fun h100695 => ?_) (fun h100695 => ?_)
    · skip
      refine ok_bp (o8_part ⟨by omega, by omega⟩) (fun r1 q100696 => ?_)
      exact ok_some ⟨trivial, hK⟩
    · skip
      refine ok_bs (o_fX8_feastOf hK ⟨by omega, by omega⟩) (fun r2 σ3 q100697 => ?_)
      have hK3 : K σ0 σ3 := q100697.2
      refine ok_la (fun v4 => ?_)
      refine ok_lq (Q := fun v => v.toInt = x6.toInt + 1) (inc (by omega)) (fun v5 e100699 => ?_)
      exact ih _ _ _ _ _ _ _ hK3 (by first | assumption | omega | exact ⟨by omega, by omega⟩ | exact Or.inl (eqm1 (by omega))) (by first | assumption | omega | exact ⟨by omega, by omega⟩ | exact Or.inl (eqm1 (by omega))) (by first | assumption | omega | exact ⟨by omega, by omega⟩ | exact Or.inl (eqm1 (by omega))) (by first | assumption | omega | exact ⟨by omega, by omega⟩ | exact Or.inl (eqm1 (by omega))) (by first | assumption | omega | exact ⟨by omega, by omega⟩ | exact Or.inl (eqm1 (by omega))) (by omega)
theorem o_fX8_mean {σ0 σ : St} {a1 : Int32} {a2 : Int32} {a3 : Int32} {a4 : Int32} (hK : K σ0 σ) : ok (fX8_mean σ a1 a2 a3 a4) (fun p => True ∧ K σ0 p.2) := by
  have hFU : FU = 100000 := rfl
  unfold fX8_mean
  refine ok_bz ok_isSd8 ?_ (fun i100700 => ?_)
  · skip
    exact ok_some ⟨trivial, hK⟩
  · skip
    refine ok_bz (ok_in (v := 1) (w := 20) (Int32.toInt_toInt64 _) rfl rfl) ?_ (fun i100701 => ?_)
    · skip
      exact ok_some ⟨trivial, hK⟩
    · skip
      have i100701l := i100701.1
      have i100701u := i100701.2
      refine ok_bz (ok_isG8 hK (Int32.toInt_toInt64 _)) ?_ (fun i100702 => ?_)
      · skip
        exact ok_some ⟨trivial, hK⟩
      · skip
        have i100702l := i100702.1
        have i100702u := i100702.2
        have i100702c := hK.gu8
        refine ok_bz (ok_in (v := 0) (w := 1) (Int32.toInt_toInt64 _) rfl rfl) ?_ (fun i100703 => ?_)
        · skip
          exact ok_some ⟨trivial, hK⟩
        · skip
          have i100703l := i100703.1
          have i100703u := i100703.2
          refine ok_lq (Q := fun v => v.toInt = 0) rfl (fun v10 e100704 => ?_)
          refine ok_lq (Q := fun v => v.toInt = 0) rfl (fun v11 e100705 => ?_)
          exact ol_fX8_mean_l48  FU _ _ _ _ _ _ _ hK (by first | assumption | omega | exact ⟨by omega, by omega⟩ | exact Or.inl (eqm1 (by omega))) (by first | assumption | omega | exact ⟨by omega, by omega⟩ | exact Or.inl (eqm1 (by omega))) (by first | assumption | omega | exact ⟨by omega, by omega⟩ | exact Or.inl (eqm1 (by omega))) (by first | assumption | omega | exact ⟨by omega, by omega⟩ | exact Or.inl (eqm1 (by omega))) (by first | assumption | omega | exact ⟨by omega, by omega⟩ | exact Or.inl (eqm1 (by omega))) (by omega)
theorem o_fX8_menu {σ0 σ : St} {a1 : Int32} (hK : K σ0 σ) : ok (fX8_menu σ a1) (fun p => True ∧ K σ0 p.2) := by
  have hFU : FU = 100000 := rfl
  unfold fX8_menu
  refine ok_bz (ok_isG8 hK (Int32.toInt_toInt64 _)) ?_ (fun i100706 => ?_)
  · skip
    exact ok_some ⟨trivial, hK⟩
  · skip
    have i100706l := i100706.1
    have i100706u := i100706.2
    have i100706c := hK.gu8
    refine ok_bs (o_fX8_menuOf hK ⟨by omega, by omega⟩) (fun r2 σ3 q100707 => ?_)
    have hK3 : K σ0 σ3 := q100707.2
    exact ok_some ⟨trivial, hK3⟩
theorem o_fX8_proof {σ0 σ : St} {a1 : Int32} (hK : K σ0 σ) : ok (fX8_proof σ a1) (fun _ => True) := by
  have hFU : FU = 100000 := rfl
  unfold fX8_proof
  refine ok_bz (ok_isC8 hK (Int32.toInt_toInt64 _)) ?_ (fun i100708 => ?_)
  · skip
    exact ok_some trivial
  · skip
    have i100708l := i100708.1
    have i100708u := i100708.2
    have i100708c := hK.cl8
    refine ok_bp (o_fX8_proofOf hK) (fun r2 q100709 => ?_)
    exact ok_some trivial
theorem ol_fX8_proofs_l16 {σ0 σ : St} (hK : K σ0 σ) : ∀ (n : Nat) (x1 : Int32) (x2 : Int32) (x3 : Int32), 0 ≤ x3.toInt → (4097 + 1 - x3.toInt).toNat < n → ok (fX8_proofs_l16 σ n x1 x2 x3) (fun _ => True) := by
  have hFU : FU = 100000 := rfl
  intro n
  induction n with
  | zero => intro x1 x2 x3 hx3 hm; omega
  | succ n ih =>
    intro x1 x2 x3 hx3 hm
    show ok (fX8_proofs_B16 σ (fX8_proofs_l16 σ n) x1 x2 x3) _
    unfold fX8_proofs_B16
    refine ok_bp (o_fX8_allSteps hK) (fun r3 q100710 => ?_)
    have q100710l := q100710.1
    have q100710u := q100710.2
    refine ok_lw rfl rfl (fun h100711 => ?_) (fun h100711 => ?_)
    · skip
      exact ok_some trivial
    · skip
      refine ok_bz (o_fX8_isLeastProof hK) ?_ (fun i100712 => ?_)
      · skip
        unfold fX8_proofs_b39
        refine ok_la (fun v1 => ?_)
        refine ok_lq (Q := fun v => v.toInt = x3.toInt + 1) (inc (by omega)) (fun v2 e100714 => ?_)
        exact ih _ _ _ (by first | assumption | omega | exact ⟨by omega, by omega⟩ | exact Or.inl (eqm1 (by omega))) (by omega)
      · skip
        unfold fX8_proofs_b39
        refine ok_la (fun v1 => ?_)
        refine ok_lq (Q := fun v => v.toInt = x3.toInt + 1) (inc (by omega)) (fun v2 e100716 => ?_)
        exact ih _ _ _ (by first | assumption | omega | exact ⟨by omega, by omega⟩ | exact Or.inl (eqm1 (by omega))) (by omega)
theorem o_fX8_proofs {σ0 σ : St} {a1 : Int32} (hK : K σ0 σ) : ok (fX8_proofs σ a1) (fun _ => True) := by
  have hFU : FU = 100000 := rfl
  unfold fX8_proofs
  refine ok_bz (ok_isC8 hK (Int32.toInt_toInt64 _)) ?_ (fun i100717 => ?_)
  · skip
    exact ok_some trivial
  · skip
    have i100717l := i100717.1
    have i100717u := i100717.2
    have i100717c := hK.cl8
    refine ok_lq (Q := fun v => v.toInt = 0) rfl (fun v6 e100718 => ?_)
    refine ok_lq (Q := fun v => v.toInt = 0) rfl (fun v7 e100719 => ?_)
    exact ol_fX8_proofs_l16 hK FU _ _ _ (by first | assumption | omega | exact ⟨by omega, by omega⟩ | exact Or.inl (eqm1 (by omega))) (by omega)
theorem o_fX8_shortest {σ0 σ : St} {a1 : Int32} (hK : K σ0 σ) : ok (fX8_shortest σ a1) (fun _ => True) := by
  have hFU : FU = 100000 := rfl
  unfold fX8_shortest
  refine ok_bz (ok_isC8 hK (Int32.toInt_toInt64 _)) ?_ (fun i100720 => ?_)
  · skip
    exact ok_some trivial
  · skip
    have i100720l := i100720.1
    have i100720u := i100720.2
    have i100720c := hK.cl8
    refine ok_bp (o_fX8_proofOf hK) (fun r2 q100721 => ?_)
    refine ok_lt ?_
    refine ok_eq (n := -1) rfl rfl (fun h100722e h100722 => ?_) (fun h100722e h100722 => ?_)
    · skip
      exact ok_some trivial
    · skip
      refine ok_bp (o8_bits _) (fun r4 q100723 => ?_)
      have q100723l := q100723.1
      have q100723u := q100723.2
      exact ok_some trivial
theorem ol_fX8_teamOf_l4 {σ0 σ : St} (hK : K σ0 σ) : ∀ (n : Nat) (x1 : Int32) (x2 : Int32) (x3 : Int32), 0 ≤ x3.toInt → (32 + 1 - x3.toInt).toNat < n → ok (fX8_teamOf_l4 σ n x1 x2 x3) (fun _ => True) := by
  have hFU : FU = 100000 := rfl
  intro n
  induction n with
  | zero => intro x1 x2 x3 hx3 hm; omega
  | succ n ih =>
    intro x1 x2 x3 hx3 hm
    show ok (fX8_teamOf_B4 σ (fX8_teamOf_l4 σ n) x1 x2 x3) _
    unfold fX8_teamOf_B4
    refine ok_bp (o8_allGuests hK) (fun r5 q100724 => ?_)
    have q100724l := q100724.1
    have q100724u := q100724.2
    refine ok_lw rfl rfl (fun h100725 => ?_) (fun h100725 => ?_)
    · skip
      exact ok_some trivial
    · skip
      refine ok_eq (n := -1) rfl rfl (fun h100726e h100726 => ?_) (fun h100726e h100726 => ?_)
      · skip
        unfold fX8_teamOf_b28
        refine ok_bz (o_fX8_canTogether hK) ?_ (fun i100727 => ?_)
        · skip
          refine ok_lq (Q := fun v => v.toInt = x3.toInt + 1) (inc (by omega)) (fun v2 e100728 => ?_)
          exact ih _ _ _ (by first | assumption | omega | exact ⟨by omega, by omega⟩ | exact Or.inl (eqm1 (by omega))) (by omega)
        · skip
          refine ok_lt ?_
          refine ok_lq (Q := fun v => v.toInt = x3.toInt + 1) (inc (by omega)) (fun v4 e100729 => ?_)
          exact ih _ _ _ (by first | assumption | omega | exact ⟨by omega, by omega⟩ | exact Or.inl (eqm1 (by omega))) (by omega)
      · skip
        refine ok_bp (o8_bits _) (fun r6 q100730 => ?_)
        have q100730l := q100730.1
        have q100730u := q100730.2
        refine ok_bp (o8_bits _) (fun r7 q100731 => ?_)
        have q100731l := q100731.1
        have q100731u := q100731.2
        refine ok_le rfl rfl (fun h100732 => ?_) (fun h100732 => ?_)
        · skip
          refine ok_lq (Q := fun v => v.toInt = x3.toInt + 1) (inc (by omega)) (fun v8 e100733 => ?_)
          exact ih _ _ _ (by first | assumption | omega | exact ⟨by omega, by omega⟩ | exact Or.inl (eqm1 (by omega))) (by omega)
        · skip
          unfold fX8_teamOf_b28
          refine ok_bz (o_fX8_canTogether hK) ?_ (fun i100734 => ?_)
          · skip
            refine ok_lq (Q := fun v => v.toInt = x3.toInt + 1) (inc (by omega)) (fun v2 e100735 => ?_)
            exact ih _ _ _ (by first | assumption | omega | exact ⟨by omega, by omega⟩ | exact Or.inl (eqm1 (by omega))) (by omega)
          · skip
            refine ok_lt ?_
            refine ok_lq (Q := fun v => v.toInt = x3.toInt + 1) (inc (by omega)) (fun v4 e100736 => ?_)
            exact ih _ _ _ (by first | assumption | omega | exact ⟨by omega, by omega⟩ | exact Or.inl (eqm1 (by omega))) (by omega)
theorem o_fX8_teamOf {σ0 σ : St} {a1 : Int32} (hK : K σ0 σ) : ok (fX8_teamOf σ a1) (fun _ => True) := by
  have hFU : FU = 100000 := rfl
  unfold fX8_teamOf
  refine ok_lq (Q := fun v => v.toInt = -1) rfl (fun v9 e100737 => ?_)
  refine ok_lq (Q := fun v => v.toInt = 0) rfl (fun v10 e100738 => ?_)
  exact ol_fX8_teamOf_l4 hK FU _ _ _ (by first | assumption | omega | exact ⟨by omega, by omega⟩ | exact Or.inl (eqm1 (by omega))) (by omega)
theorem o_fX8_together {σ0 σ : St} {a1 : Int32} {a2 : Int32} (hK : K σ0 σ) : ok (fX8_together σ a1 a2) (fun _ => True) := by
  have hFU : FU = 100000 := rfl
  unfold fX8_together
  refine ok_bz (o_fX8_areGuests hK) ?_ (fun i100739 => ?_)
  · skip
    exact ok_some trivial
  · skip
    refine ok_bz (ok_isC8 hK (Int32.toInt_toInt64 _)) ?_ (fun i100740 => ?_)
    · skip
      exact ok_some trivial
    · skip
      have i100740l := i100740.1
      have i100740u := i100740.2
      have i100740c := hK.cl8
      refine ok_bz (o_fX8_canTogether hK) ?_ (fun i100741 => ?_)
      · skip
        exact ok_some trivial
      · skip
        exact ok_some trivial
theorem ol_fX8_whoOf_l4 {σ0 σ : St} (hK : K σ0 σ) : ∀ (n : Nat) (x1 : Int32) (x2 : Int32) (x3 : Int32), 0 ≤ x3.toInt → (5 + 1 - x3.toInt).toNat < n → ok (fX8_whoOf_l4 σ n x1 x2 x3) (fun _ => True) := by
  have hFU : FU = 100000 := rfl
  intro n
  induction n with
  | zero => intro x1 x2 x3 hx3 hm; omega
  | succ n ih =>
    intro x1 x2 x3 hx3 hm
    show ok (fX8_whoOf_B4 σ (fX8_whoOf_l4 σ n) x1 x2 x3) _
    unfold fX8_whoOf_B4
    have c100742 := hK.gu8
    refine ok_gd (by decide) ?_
    refine ok_le rfl rfl (fun h100743 => ?_) (fun h100743 => ?_)
    · skip
      exact ok_some trivial
    · skip
      refine ok_bz (o_fX8_canProve hK ⟨by omega, by omega⟩) ?_ (fun i100744 => ?_)
      · skip
        unfold fX8_whoOf_b33
        refine ok_la (fun v1 => ?_)
        refine ok_lq (Q := fun v => v.toInt = x3.toInt + 1) (inc (by omega)) (fun v2 e100746 => ?_)
        exact ih _ _ _ (by first | assumption | omega | exact ⟨by omega, by omega⟩ | exact Or.inl (eqm1 (by omega))) (by omega)
      · skip
        unfold fX8_whoOf_b33
        refine ok_la (fun v1 => ?_)
        refine ok_lq (Q := fun v => v.toInt = x3.toInt + 1) (inc (by omega)) (fun v2 e100748 => ?_)
        exact ih _ _ _ (by first | assumption | omega | exact ⟨by omega, by omega⟩ | exact Or.inl (eqm1 (by omega))) (by omega)
theorem o_fX8_whoOf {σ0 σ : St} {a1 : Int32} (hK : K σ0 σ) : ok (fX8_whoOf σ a1) (fun _ => True) := by
  have hFU : FU = 100000 := rfl
  unfold fX8_whoOf
  refine ok_lq (Q := fun v => v.toInt = 0) rfl (fun v4 e100749 => ?_)
  refine ok_lq (Q := fun v => v.toInt = 0) rfl (fun v5 e100750 => ?_)
  exact ol_fX8_whoOf_l4 hK FU _ _ _ (by first | assumption | omega | exact ⟨by omega, by omega⟩ | exact Or.inl (eqm1 (by omega))) (by omega)
theorem o_fX8_ask {σ0 σ : St} (hK : K σ0 σ) : ok (fX8_ask σ) (fun _ => True) := by
  have hFU : FU = 100000 := rfl
  unfold fX8_ask
  refine ok_bz ok_isT8 ?_ (fun i100751 => ?_)
  · skip
    exact ok_some trivial
  · skip
    refine ok_bp (o_fX8_askOf hK) (fun r2 q100752 => ?_)
    exact ok_some trivial
theorem o_fX8_brings {σ0 σ : St} {a1 : Int32} (hK : K σ0 σ) : ok (fX8_brings σ a1) (fun p => True ∧ K σ0 p.2) := by
  have hFU : FU = 100000 := rfl
  unfold fX8_brings
  refine ok_bz (ok_isG8 hK (Int32.toInt_toInt64 _)) ?_ (fun i100753 => ?_)
  · skip
    exact ok_some ⟨trivial, hK⟩
  · skip
    have i100753l := i100753.1
    have i100753u := i100753.2
    have i100753c := hK.gu8
    refine ok_bs (o_fX8_lemmaOf hK ⟨by omega, by omega⟩) (fun r2 σ3 q100754 => ?_)
    have hK3 : K σ0 σ3 := q100754.2
    refine ok_lt ?_
    refine ok_eq (n := -1) rfl rfl (fun h100755e h100755 => ?_) (fun h100755e h100755 => ?_)
    · skip
      exact ok_some ⟨trivial, hK3⟩
    · skip
      refine ok_bp (o_fX8_saltNow hK3) (fun r5 q100756 => ?_)
      have q100756l := q100756.1
      have q100756u := q100756.2
      refine ok_bp (o8_ofGuest ⟨by omega, by omega⟩ (by decide) (by decide)) (fun r6 q100757 => ?_)
      refine ok_bp (o8_canDo hK3 ⟨by omega, by omega⟩) (fun r7 q100758 => ?_)
      refine ok_bs (o_fX8_mostBy hK3) (fun r8 σ9 q100759 => ?_)
      have hK9 : K σ0 σ9 := q100759.2
      refine ok_bs (o_fX8_menuOf hK9 ⟨by omega, by omega⟩) (fun r10 σ11 q100760 => ?_)
      have hK11 : K σ0 σ11 := q100760.2
      exact ok_some ⟨trivial, hK11⟩
theorem o_fX8_covered {σ0 σ : St} (hK : K σ0 σ) : ok (fX8_covered σ) (fun _ => True) := by
  have hFU : FU = 100000 := rfl
  unfold fX8_covered
  refine ok_bz ok_isT8 ?_ (fun i100761 => ?_)
  · skip
    exact ok_some trivial
  · skip
    refine ok_bp (o_fX8_following hK) (fun r2 q100762 => ?_)
    refine ok_bp (o_fX8_provedNow hK) (fun r3 q100763 => ?_)
    exact ok_some trivial
theorem o_fX8_fewest {σ0 σ : St} {a1 : Int32} (hK : K σ0 σ) : ok (fX8_fewest σ a1) (fun _ => True) := by
  have hFU : FU = 100000 := rfl
  unfold fX8_fewest
  refine ok_bz (ok_isC8 hK (Int32.toInt_toInt64 _)) ?_ (fun i100764 => ?_)
  · skip
    exact ok_some trivial
  · skip
    have i100764l := i100764.1
    have i100764u := i100764.2
    have i100764c := hK.cl8
    refine ok_bp (o_fX8_teamOf hK) (fun r2 q100765 => ?_)
    refine ok_lt ?_
    refine ok_eq (n := -1) rfl rfl (fun h100766e h100766 => ?_) (fun h100766e h100766 => ?_)
    · skip
      exact ok_some trivial
    · skip
      refine ok_bp (o8_bits _) (fun r4 q100767 => ?_)
      have q100767l := q100767.1
      have q100767u := q100767.2
      exact ok_some trivial
theorem ol_fX8_host_l13 {σ0 σ : St} (hK : K σ0 σ) : ∀ (n : Nat) (x1 : Int32) (x2 : Int32), 0 ≤ x2.toInt → (12 + 1 - x2.toInt).toNat < n → ok (fX8_host_l13 σ n x1 x2) (fun _ => True) := by
  have hFU : FU = 100000 := rfl
  intro n
  induction n with
  | zero => intro x1 x2 hx2 hm; omega
  | succ n ih =>
    intro x1 x2 hx2 hm
    show ok (fX8_host_B13 σ (fX8_host_l13 σ n) x1 x2) _
    unfold fX8_host_B13
    have c100768 := hK.cl8
    refine ok_gd (by decide) ?_
    refine ok_le rfl rfl (fun h100769 => ?_) (fun h100769 => ?_)
    · skip
      exact ok_some trivial
    · skip
      refine ok_bp (o_fX8_whoOf hK) (fun r1 q100770 => ?_)
      refine ok_eq rfl rfl (fun h100771e h100771 => ?_) (fun h100771e h100771 => ?_)
      · skip
        exact ok_some trivial
      · skip
        refine ok_lq (Q := fun v => v.toInt = x2.toInt + 1) (inc (by omega)) (fun v2 e100772 => ?_)
        exact ih _ _ (by first | assumption | omega | exact ⟨by omega, by omega⟩ | exact Or.inl (eqm1 (by omega))) (by omega)
theorem o_fX8_host {σ0 σ : St} {a1 : Int32} (hK : K σ0 σ) : ok (fX8_host σ a1) (fun _ => True) := by
  have hFU : FU = 100000 := rfl
  unfold fX8_host
  refine ok_bz (o_fX8_areGuests hK) ?_ (fun i100773 => ?_)
  · skip
    exact ok_some trivial
  · skip
    refine ok_lq (Q := fun v => v.toInt = 0) rfl (fun v4 e100774 => ?_)
    exact ol_fX8_host_l13 hK FU _ _ (by first | assumption | omega | exact ⟨by omega, by omega⟩ | exact Or.inl (eqm1 (by omega))) (by omega)
theorem o_fX8_leaves {σ0 σ : St} (hK : K σ0 σ) : ok (fX8_leaves σ) (fun _ => True) := by
  have hFU : FU = 100000 := rfl
  unfold fX8_leaves
  refine ok_bz ok_isT8 ?_ (fun i100775 => ?_)
  · skip
    exact ok_some trivial
  · skip
    refine ok_bp (o_fX8_askOf hK) (fun r2 q100776 => ?_)
    refine ok_lt ?_
    refine ok_eq (n := -1) rfl rfl (fun h100777e h100777 => ?_) (fun h100777e h100777 => ?_)
    · skip
      refine ok_bp (o_fX8_saltedNow hK) (fun r5 q100778 => ?_)
      have q100778l := q100778.1
      have q100778u := q100778.2
      refine ok_bp (o8_bits _) (fun r6 q100779 => ?_)
      have q100779l := q100779.1
      have q100779u := q100779.2
      exact ok_some trivial
    · skip
      refine ok_bp (o_fX8_worstOf hK (q100776.resolve_left h100777e)) (fun r4 q100780 => ?_)
      exact ok_some trivial
theorem o_fX8_lemma {σ0 σ : St} {a1 : Int32} (hK : K σ0 σ) : ok (fX8_lemma σ a1) (fun p => True ∧ K σ0 p.2) := by
  have hFU : FU = 100000 := rfl
  unfold fX8_lemma
  refine ok_bz (ok_isG8 hK (Int32.toInt_toInt64 _)) ?_ (fun i100781 => ?_)
  · skip
    exact ok_some ⟨trivial, hK⟩
  · skip
    have i100781l := i100781.1
    have i100781u := i100781.2
    have i100781c := hK.gu8
    refine ok_bs (o_fX8_lemmaOf hK ⟨by omega, by omega⟩) (fun r2 σ3 q100782 => ?_)
    have hK3 : K σ0 σ3 := q100782.2
    exact ok_some ⟨trivial, hK3⟩
theorem o_fX8_team {σ0 σ : St} {a1 : Int32} (hK : K σ0 σ) : ok (fX8_team σ a1) (fun _ => True) := by
  have hFU : FU = 100000 := rfl
  unfold fX8_team
  refine ok_bz (ok_isC8 hK (Int32.toInt_toInt64 _)) ?_ (fun i100783 => ?_)
  · skip
    exact ok_some trivial
  · skip
    have i100783l := i100783.1
    have i100783u := i100783.2
    have i100783c := hK.cl8
    refine ok_bp (o_fX8_teamOf hK) (fun r2 q100784 => ?_)
    exact ok_some trivial
theorem o_fX8_who {σ0 σ : St} {a1 : Int32} (hK : K σ0 σ) : ok (fX8_who σ a1) (fun _ => True) := by
  have hFU : FU = 100000 := rfl
  unfold fX8_who
  refine ok_bz (ok_isC8 hK (Int32.toInt_toInt64 _)) ?_ (fun i100785 => ?_)
  · skip
    exact ok_some trivial
  · skip
    have i100785l := i100785.1
    have i100785u := i100785.2
    have i100785c := hK.cl8
    refine ok_bp (o_fX8_whoOf hK) (fun r2 q100786 => ?_)
    exact ok_some trivial
theorem o_fX8_wrong {σ0 σ : St} (hK : K σ0 σ) : ok (fX8_wrong σ) (fun _ => True) := by
  have hFU : FU = 100000 := rfl
  unfold fX8_wrong
  refine ok_bz ok_isT8 ?_ (fun i100787 => ?_)
  · skip
    exact ok_some trivial
  · skip
    refine ok_bp (o_fX8_provedNow hK) (fun r2 q100788 => ?_)
    refine ok_bp (o_fX8_following hK) (fun r3 q100789 => ?_)
    exact ok_some trivial
