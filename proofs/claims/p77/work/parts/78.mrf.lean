def MS (σ τ : St) : Prop := MF σ τ ∧ WV 68 0 τ
theorem WV.at68 {σ : St} (h : WV 68 0 σ) : 0 ≤ (σ.1 68 (0 : Int32).toNatClampNeg).toInt ∧ (σ.1 68 (0 : Int32).toNatClampNeg).toInt ≤ 4 := h.1
theorem WV.c68 {σ : St} (h : WV 68 0 σ) : 0 ≤ (σ.1 68 (3 : Int32).toNatClampNeg).toInt ∧ (σ.1 68 (3 : Int32).toNatClampNeg).toInt ≤ 12 := h.2.1
theorem WV.s68 {σ : St} (h : WV 68 0 σ) : 0 ≤ (σ.1 68 (4 : Int32).toNatClampNeg).toInt ∧ (σ.1 68 (4 : Int32).toNatClampNeg).toInt ≤ 12 := h.2.2.1
theorem WV.g68 {σ : St} (h : WV 68 0 σ) : 0 ≤ (σ.1 68 (5 : Int32).toNatClampNeg).toInt ∧ (σ.1 68 (5 : Int32).toNatClampNeg).toInt ≤ 5 := h.2.2.2.1
theorem WV.set {σ : St} {j : Nat} {v : Int32} (h : WV 68 0 σ) (h0 : j = 0 → 0 ≤ v.toInt ∧ v.toInt ≤ 4) (h3 : j = 3 → 0 ≤ v.toInt ∧ v.toInt ≤ 12) (h4 : j = 4 → 0 ≤ v.toInt ∧ v.toInt ≤ 12) (h5 : j = 5 → (0 ≤ v.toInt ∧ v.toInt ≤ 5) ∧ ∀ g : Nat, g < 5 → (g : Int) < v.toInt → σ.1 68 (67 + 2 * g) ≠ 0) (hs : ∀ c : Nat, c < 12 → j = 7 + 3 * c + 1 → v = 0 ∨ v = 1) (hg : ∀ s : Nat, s < 12 → j = 43 + 2 * s → ir v 12) (hp : ∀ g : Nat, g < 5 → j = 67 + 2 * g → (g : Int) < (σ.1 68 5).toInt → v ≠ 0) : WV 68 0 (setI σ 68 j v) := by
  unfold WV at h ⊢
  simp only [Nat.zero_add] at h ⊢
  obtain ⟨q0, q3, q4, q5, qs, qg, qp⟩ := h
  have cell : ∀ i, (setI σ 68 j v).1 68 i = if i = j then v else σ.1 68 i := fun i => by
    by_cases e : i = j
    · rw [if_pos e, e, setI_at]
    · rw [if_neg e, setI_eq (by omega)]
  refine ⟨?_, ?_, ?_, ?_, fun c hc => ?_, fun s hs' => ?_, fun g hg' => ?_⟩
  · rw [cell]; split
    · rename_i e; exact h0 e.symm
    · exact q0
  · rw [cell]; split
    · rename_i e; exact h3 e.symm
    · exact q3
  · rw [cell]; split
    · rename_i e; exact h4 e.symm
    · exact q4
  · rw [cell]; split
    · rename_i e; exact (h5 e.symm).1
    · exact q5
  · rw [cell]; split
    · rename_i e; exact hs c hc e.symm
    · exact qs c hc
  · rw [cell]; split
    · rename_i e; exact hg s hs' e.symm
    · exact qg s hs'
  · intro hl
    rw [cell] at hl ⊢
    by_cases e5 : 5 = j
    · rw [if_pos e5] at hl
      rw [if_neg (by omega)]
      exact (h5 e5.symm).2 g hg' hl
    · rw [if_neg e5] at hl
      split
      · rename_i e; exact hp g hg' e.symm hl
      · exact qp g hg' hl
theorem WV.mr {σ τ : St} (h : WV 68 0 σ) (q : MR σ τ) : WV 68 0 τ := h.co q.2
theorem MF.set68 {σ τ : St} {j : Nat} {v : Int32} (h : MF σ τ) : MF σ (setI τ 68 j v) := by
  refine ⟨h.1.setF (by omega), h.2.1.set (Or.inl (by omega)), ?_, fun e => h.2.2.2 ?_⟩
  · rw [setI_eq (by omega)]; exact h.2.2.1
  · rw [setI_eq (by omega)] at e; exact e
theorem ok_freshClaim {σ : St} (h : MT σ) (w : WV 68 0 σ) : ok (fX8_freshClaim σ) (NU σ 0 ((σ.1 68 (3 : Int32).toNatClampNeg).toInt - 1)) := by
  unfold fX8_freshClaim
  have c := w.c68
  have e : (σ.1 68 (3 : Int32).toNatClampNeg - 1).toInt = (σ.1 68 (3 : Int32).toNatClampNeg).toInt - 1 := dec1 (by omega)
  refine ok_gd (by decide) (ok_bs (ok_number h (a := 0) (b := σ.1 68 (3 : Int32).toNatClampNeg - 1)) (fun r τ q => ok_some ?_))
  rw [e] at q
  exact q
theorem ok_readSalt8 {σ : St} (h : MT σ) (w : WV 68 0 σ) : ok (fX8_readSalt σ) (MS σ) := by
  have c := w.c68
  have b38 : ∀ σ1, MR σ σ1 → ok (fX8_readSalt_b38 σ1) (MS σ) := fun σ1 m => by
    unfold fX8_readSalt_b38
    have w1 := w.mr m
    refine ok_bs (ok_freshClaim m.mt w1) (fun r1 σ2 q => ok_lt ?_)
    have m2 : MR σ σ2 := m.trans q.1
    have w2 := w.mr m2
    refine ok_gz (fun _ => ok_some ⟨m2.1, w2⟩) (fun g => ?_)
    rcases q.2 with ⟨_, h1, h2, _⟩ | ⟨hn, _⟩
    · have h1 : 0 ≤ r1.toInt := h1
      have h2 : r1.toInt ≤ _ := h2
      rw [m.2] at h2
      have i12 : ir r1 12 := ⟨h1, by show _ < (12 : Int); omega⟩
      obtain ⟨i1, i2⟩ := ix_cl (k := 1) i12 (by decide) (by decide)
      refine ok_gd i1 (ok_lt (ok_some ⟨m2.1.set68, ?_⟩))
      have n1 := nN h1
      have i12u := i12.2
      rw [i2]
      have k1 : (1 : Int32).toNatClampNeg = 1 := rfl
      exact w2.set (fun e => by omega) (fun e => by omega) (fun e => by omega) (fun e => by omega) (fun _ _ _ => Or.inr rfl) (fun s hs e => by omega) (fun g hg e => by omega)
    · exact absurd g hn
  unfold fX8_readSalt
  refine ok_gd (by decide) (ok_bz (ok_isNext h) (b38 σ (MR.rf h)) (fun q => ?_))
  have i12 : ir (σ.1 62 11) 12 := ⟨q.2.1, by show _ < (12 : Int); omega⟩
  exact ok_gd (ix_cl (k := 1) i12 (by decide) (by decide)).1 (ok_if (fun _ => ok_bp (ok_errs h (by decide)) (fun τ q => b38 τ q.1)) (fun _ => b38 σ (MR.rf h)))
theorem ok_readClaim8 {σ : St} (h : MT σ) (w : WV 68 0 σ) (hc : (σ.1 68 (3 : Int32).toNatClampNeg).toInt < 12) : ok (fX8_readClaim σ) (MS σ) := by
  unfold fX8_readClaim
  have c := w.c68
  have i12 : ir (σ.1 68 (3 : Int32).toNatClampNeg) 12 := ⟨c.1, by show _ < (12 : Int); omega⟩
  obtain ⟨i0, j0⟩ := ix_cl (k := 0) i12 (by decide) (by decide)
  obtain ⟨i1, j1⟩ := ix_cl (k := 1) i12 (by decide) (by decide)
  obtain ⟨i2, j2⟩ := ix_cl (k := 2) i12 (by decide) (by decide)
  have k0 : (0 : Int32).toNatClampNeg = 0 := rfl
  have k1 : (1 : Int32).toNatClampNeg = 1 := rfl
  have k2 : (2 : Int32).toNatClampNeg = 2 := rfl
  have k3 : (3 : Int32).toNatClampNeg = 3 := rfl
  have nc := nN i12.1
  refine ok_gd (by decide) (ok_lt (ok_bs (ok_told h (by decide)) (fun r2 σ3 q3 => ok_lt (ok_bs (ok_form q3.1.mt (w.mr q3.1).at68) (fun r5 σ6 q6 => ok_lt ?_)))))
  have m6 : MR σ σ6 := q3.1.trans q6
  have w6 := w.mr m6
  have e6 : σ6.1 68 (3 : Int32).toNatClampNeg = σ.1 68 (3 : Int32).toNatClampNeg := m6.2 _
  refine ok_gz (fun _ => ok_some ⟨m6.1, w6⟩) (fun _ => ok_gd i0 (ok_lv (fun σ9 e9 => ok_gd i1 (ok_lv (fun σ10 e10 => ok_gd i2 (ok_lv (fun σ11 e11 => ok_gd (by decide) (ok_gd (by decide) (ok_lv (fun σ12 e12 => ok_some ?_))))))))))
  have w9 : WV 68 0 σ9 := by
    rw [e9, j0]
    exact w6.set (fun e => by omega) (fun e => by omega) (fun e => by omega) (fun e => by omega) (fun c hc e => by omega) (fun s hs e => by omega) (fun g hg e => by omega)
  have w10 : WV 68 0 σ10 := by
    rw [e10, j1]
    exact w9.set (fun e => by omega) (fun e => by omega) (fun e => by omega) (fun e => by omega) (fun _ _ _ => Or.inl rfl) (fun s hs e => by omega) (fun g hg e => by omega)
  have w11 : WV 68 0 σ11 := by
    rw [e11, j2]
    exact w10.set (fun e => by omega) (fun e => by omega) (fun e => by omega) (fun e => by omega) (fun c hc e => by omega) (fun s hs e => by omega) (fun g hg e => by omega)
  have c11 : σ11.1 68 (3 : Int32).toNatClampNeg = σ.1 68 (3 : Int32).toNatClampNeg := by
    rw [e11, setI_eq (by omega), e10, setI_eq (by omega), e9, setI_eq (by omega), e6]
  have e7 : (σ11.1 68 (3 : Int32).toNatClampNeg + 1).toInt = (σ.1 68 (3 : Int32).toNatClampNeg).toInt + 1 := by rw [c11]; exact inc (by omega)
  refine ⟨?_, ?_⟩
  · rw [e12, e11, e10, e9]
    exact m6.1.set68.set68.set68.set68
  · rw [e12]
    exact w11.set (fun e => by omega) (fun _ => by omega) (fun e => by omega) (fun e => by omega) (fun c hc e => by omega) (fun s hs e => by omega) (fun g hg e => by omega)
theorem ol_readStep8 {σ0 : St} (w : WV 68 0 σ0) (hc : (σ0.1 68 (4 : Int32).toNatClampNeg).toInt < 12) {x1 x2 : Int32} (hx1 : x1 = 43 + 2 * σ0.1 68 (4 : Int32).toNatClampNeg) (hx2 : ir x2 12) : ∀ (n : Nat) (σ : St) (x3 x4 : Int32), MR σ0 σ → (1602 - (σ.1 62 9).toInt).toNat < n → ok (fX8_readStep_l28 n σ x1 x2 x3 x4) (MS σ0) := by
  have c := w.s68
  have i12 : ir (σ0.1 68 (4 : Int32).toNatClampNeg) 12 := ⟨c.1, by show _ < (12 : Int); omega⟩
  obtain ⟨i0, j0⟩ := ix_st (k := 0) i12 (by decide) (by decide)
  obtain ⟨i1, j1⟩ := ix_st (k := 1) i12 (by decide) (by decide)
  have k0 : (0 : Int32).toNatClampNeg = 0 := rfl
  have k1 : (1 : Int32).toNatClampNeg = 1 := rfl
  have k4 : (4 : Int32).toNatClampNeg = 4 := rfl
  have nc := nN i12.1
  intro n
  induction n with
  | zero =>
    intro σ x3 x4 m h
    have := m.mt
    unfold MT at this
    omega
  | succ n ih =>
    intro σ x3 x4 m hm
    have b52 : ∀ σ1, MR σ0 σ1 → (σ.1 62 9).toInt ≤ (σ1.1 62 9).toInt → ok (fX8_readStep_b52 (fX8_readStep_l28 n) σ1 x1 x2 x3 x4) (MS σ0) := fun σ1 m1 hs => by
      unfold fX8_readStep_b52
      refine ok_bs (ok_freshClaim m1.mt (w.mr m1)) (fun r1 σ2 q => ok_lt ?_)
      have m2 : MR σ0 σ2 := m1.trans q.1
      have w2 := w.mr m2
      refine ok_gz (fun _ => ok_some ⟨m2.1, w2⟩) (fun g => ok_lt (ok_lt (ok_if (fun _ => ?_) (fun _ => ih σ2 _ _ m2 ?_))))
      · subst hx1
        refine ok_gd i0 (ok_lv (fun σ7 e7 => ok_gd i1 (ok_lv (fun σ8 e8 => ok_gd (by decide) (ok_gd (by decide) (ok_lv (fun σ9 e9 => ok_some ?_)))))))
        have w7 : WV 68 0 σ7 := by
          rw [e7, j0]
          exact w2.set (fun e => by omega) (fun e => by omega) (fun e => by omega) (fun e => by omega) (fun c hc e => by omega) (fun _ _ _ => hx2) (fun g hg e => by omega)
        have w8 : WV 68 0 σ8 := by
          rw [e8, j1]
          exact w7.set (fun e => by omega) (fun e => by omega) (fun e => by omega) (fun e => by omega) (fun c hc e => by omega) (fun s hs e => by omega) (fun g hg e => by omega)
        have c8 : σ8.1 68 (4 : Int32).toNatClampNeg = σ0.1 68 (4 : Int32).toNatClampNeg := by
          rw [e8, setI_eq (by omega), e7, setI_eq (by omega)]
          exact m2.2 _
        have e10 : (σ8.1 68 (4 : Int32).toNatClampNeg + 1).toInt = (σ0.1 68 (4 : Int32).toNatClampNeg).toInt + 1 := by rw [c8]; exact inc (by omega)
        refine ⟨?_, ?_⟩
        · rw [e9, e8, e7]
          exact m2.1.set68.set68.set68
        · rw [e9]
          exact w8.set (fun e => by omega) (fun e => by omega) (fun _ => by omega) (fun e => by omega) (fun c hc e => by omega) (fun s hs e => by omega) (fun g hg e => by omega)
      · rcases q.2 with ⟨_, _, _, h4⟩ | ⟨hn, _⟩
        · have h4 : (σ1.1 62 9).toInt < (σ2.1 62 9).toInt := h4
          have L := m2.mt
          unfold MT at L
          omega
        · exact absurd g hn
    show ok (fX8_readStep_B28 (fX8_readStep_l28 n) σ x1 x2 x3 x4) _
    unfold fX8_readStep_B28
    refine ok_if (fun _ => ok_gd (by decide) (ok_bz (ok_isNext m.mt) (b52 σ m (Int.le_refl _)) (fun _ => ok_bp (ok_errs m.mt (by decide)) (fun τ q => b52 τ (m.trans q.1) q.1.1.2.2.1)))) (fun _ => b52 σ m (Int.le_refl _))
theorem ok_readStep8 {σ : St} (h : MT σ) (w : WV 68 0 σ) (hc : (σ.1 68 (4 : Int32).toNatClampNeg).toInt < 12) : ok (fX8_readStep σ) (MS σ) := by
  unfold fX8_readStep
  refine ok_gd (by decide) (ok_lt (ok_bs (ok_freshClaim h w) (fun r13 σ14 q => ok_lt (ok_bp (ok_needs q.1.mt (by decide)) (fun σ16 q16 => ok_lt (ok_lt ?_))))))
  have m16 : MR σ σ16 := q.1.trans q16
  have hx2 : ir r13 12 := by
    have c := w.c68
    rcases q.2 with ⟨_, h1, h2, _⟩ | ⟨_, h1⟩
    · have h1 : 0 ≤ r13.toInt := h1
      have h2 : r13.toInt ≤ _ := h2
      exact ⟨h1, by show _ < (12 : Int); omega⟩
    · have h1 : r13 = 0 := h1
      rw [h1]
      decide
  refine ol_readStep8 w hc rfl hx2 FU σ16 _ _ m16 ?_
  have := m16.mt.1
  unfold FU
  omega
theorem ol_readGuest8 {σ0 : St} (w : WV 68 0 σ0) (hc : (σ0.1 68 (5 : Int32).toNatClampNeg).toInt < 5) {x1 x2 : Int32} (hx1 : x1 = 67 + 2 * σ0.1 68 (5 : Int32).toNatClampNeg) : ∀ (n : Nat) (σ : St) (x3 : Int32), MR σ0 σ → (GO σ → ¬ x2 = 0) → (1602 - (σ.1 62 9).toInt).toNat < n → ok (fX8_readGuest_l30 n σ x1 x2 x3) (MS σ0) := by
  have c := w.g68
  have i5 : ir (σ0.1 68 (5 : Int32).toNatClampNeg) 5 := ⟨c.1, by show _ < (5 : Int); omega⟩
  obtain ⟨i0, j0⟩ := ix_gu (k := 0) i5 (by decide) (by decide)
  obtain ⟨i1, j1⟩ := ix_gu (k := 1) i5 (by decide) (by decide)
  have k0 : (0 : Int32).toNatClampNeg = 0 := rfl
  have k1 : (1 : Int32).toNatClampNeg = 1 := rfl
  have k5 : (5 : Int32).toNatClampNeg = 5 := rfl
  have nc := nN i5.1
  intro n
  induction n with
  | zero =>
    intro σ x3 m _ h
    have := m.mt
    unfold MT at this
    omega
  | succ n ih =>
    intro σ x3 m hg2 hm
    show ok (fX8_readGuest_B30 (fX8_readGuest_l30 n) σ x1 x2 x3) _
    unfold fX8_readGuest_B30
    refine ok_gd (by decide) (ok_bs (ok_number m.mt) (fun r1 σ2 q => ok_lt ?_))
    have m2 : MR σ0 σ2 := m.trans q.1
    have w2 := w.mr m2
    refine ok_gz (fun _ => ok_some ⟨m2.1, w2⟩) (fun g => ok_lt (ok_if (fun _ => ?_) (fun _ => ih σ2 _ m2 (fun g => hg2 (q.1.1.2.2.2 g)) ?_)))
    · have h2 : ¬ x2 = 0 := hg2 (q.1.1.2.2.2 g)
      subst hx1
      refine ok_gd i0 (ok_lv (fun σ7 e7 => ok_gd i1 (ok_lv (fun σ8 e8 => ok_gd (by decide) (ok_gd (by decide) (ok_lv (fun σ9 e9 => ok_some ?_)))))))
      have w7 : WV 68 0 σ7 := by
        rw [e7, j0]
        exact w2.set (fun e => by omega) (fun e => by omega) (fun e => by omega) (fun e => by omega) (fun c hc e => by omega) (fun s hs e => by omega) (fun _ _ _ _ => h2)
      have w8 : WV 68 0 σ8 := by
        rw [e8, j1]
        exact w7.set (fun e => by omega) (fun e => by omega) (fun e => by omega) (fun e => by omega) (fun c hc e => by omega) (fun s hs e => by omega) (fun g hg e => by omega)
      have c8 : σ8.1 68 (5 : Int32).toNatClampNeg = σ0.1 68 (5 : Int32).toNatClampNeg := by
        rw [e8, setI_eq (by omega), e7, setI_eq (by omega)]
        exact m2.2 _
      have e10 : (σ8.1 68 (5 : Int32).toNatClampNeg + 1).toInt = (σ0.1 68 (5 : Int32).toNatClampNeg).toInt + 1 := by rw [c8]; exact inc (by omega)
      refine ⟨?_, ?_⟩
      · rw [e9, e8, e7]
        exact m2.1.set68.set68.set68
      · rw [e9]
        refine w8.set (fun e => by omega) (fun e => by omega) (fun e => by omega) (fun _ => ⟨by omega, fun g hg hl => ?_⟩) (fun c hc e => by omega) (fun s hs e => by omega) (fun g hg e => by omega)
        by_cases eg : g = (σ0.1 68 (5 : Int32).toNatClampNeg).toNatClampNeg
        · rw [e8, setI_eq (by omega), e7, eg, j0, k0, Nat.add_zero, setI_at]
          exact h2
        · rw [e8, setI_eq (by omega), e7, setI_eq (by omega)]
          have q7 := w2.2.2.2.2.2.2 g hg
          simp only [Nat.zero_add] at q7
          refine q7 ?_
          have e5 : σ2.1 68 5 = σ0.1 68 (5 : Int32).toNatClampNeg := m2.2 5
          rw [e5]
          omega
    · rcases q.2 with ⟨_, _, _, h4⟩ | ⟨hn, _⟩
      · have h4 : (σ.1 62 9).toInt < (σ2.1 62 9).toInt := h4
        have L := m2.mt
        unfold MT at L
        omega
      · exact absurd g hn
theorem ok_readGuest8 {σ : St} (h : MT σ) (w : WV 68 0 σ) (hc : (σ.1 68 (5 : Int32).toNatClampNeg).toInt < 5) : ok (fX8_readGuest σ) (MS σ) := by
  unfold fX8_readGuest
  refine ok_gd (by decide) (ok_lt (ok_bs (ok_told h (by decide)) (fun r10 σ11 q => ok_lt (ok_bp (ok_needs q.1.mt (by decide)) (fun σ13 q13 => ok_lt ?_)))))
  have m13 : MR σ σ13 := q.1.trans q13
  refine ol_readGuest8 w hc rfl FU σ13 _ m13 (fun g => ?_) ?_
  · rcases q.2 with ⟨_, h1, _, _⟩ | ⟨hn, _⟩
    · have h1 : (1 : Int32).toInt ≤ r10.toInt := h1
      intro e
      have e : r10 = 0 := e
      rw [e] at h1
      exact absurd h1 (by decide)
    · exact absurd (q13.1.2.2.2 g) hn
  · have := m13.mt.1
    unfold FU
    omega
theorem MS.of {σ τ υ : St} (m : MF σ τ) (q : MS τ υ) : MS σ υ := ⟨m.trans q.1, q.2⟩
theorem takes_eq {σ : St} {w : Nat} : fX8_takes σ w = bp (fX8_is σ w) (fun r1 => lt r1 (fun v2 => if v2 = 0 then gd (v2 = 0 ∨ v2 = 1) (some (v2, σ)) else bp (fX8_advance σ) (fun σ3 => gd (v2 = 0 ∨ v2 = 1) (some (v2, σ3))))) := rfl
theorem takes0 {σ : St} {w : Nat} (e : fX8_is σ w = some 0) : fX8_takes σ w = some (0, σ) := by rw [takes_eq, e]; rfl
theorem takes1 {σ : St} {w : Nat} (h : MT σ) (e : fX8_is σ w = some 1) : ok (fX8_takes σ w) (fun p => p.1 = 1 ∧ MR σ p.2) := by
  rw [takes_eq, e, bp_s]
  exact ok_lt (ok_if (fun e => absurd e i10) (fun _ => ok_bp h.adv (fun τ q => ok_gd (by decide) (ok_some ⟨rfl, q.1⟩))))
theorem b115_bad {σ : St} (h : MT σ) (w : WV 68 0 σ) (hn : ¬ GO σ) : ok (fX8_readNext_b115 σ) (MS σ) := by
  unfold fX8_readNext_b115
  exact ok_gz (fun _ => ok_some ⟨MF.rf h, w⟩) (fun g => absurd g hn)
theorem b110 {σ : St} (h : MT σ) (w : WV 68 0 σ) : ok (fX8_readNext_b110 σ) (MS σ) := by
  unfold fX8_readNext_b110
  exact ok_bp (ok_errs h (by decide)) (fun τ q => ok_mono (b115_bad q.1.mt (w.mr q.1) q.2) (fun υ m => MS.of q.1.1 m))
theorem is_two {σ : St} (h : MT σ) {w : Nat} (hw : w < 18) : fX8_is σ w = some 0 ∨ fX8_is σ w = some 1 := by
  obtain ⟨r, e, q⟩ := ok_is h hw
  rcases q with rfl | ⟨rfl, _⟩
  · exact Or.inl e
  · exact Or.inr e
theorem ok_readNext8 {σ : St} (h : MT σ) (w : WV 68 0 σ) : ok (fX8_readNext σ) (MS σ) := by
  have c3 := w.c68
  have c4 := w.s68
  have c5 := w.g68
  have z12 : (12 : Int32).toInt = 12 := rfl
  have z5 : (5 : Int32).toInt = 5 := rfl
  have b115 : ¬ GO σ ∨ ((fX8_is σ 4 = some 1 → (σ.1 68 (3 : Int32).toNatClampNeg).toInt < 12) ∧ (fX8_is σ 13 = some 1 → (σ.1 68 (4 : Int32).toNatClampNeg).toInt < 12) ∧ (fX8_is σ 4 = some 0 → fX8_is σ 12 = some 0 → fX8_is σ 13 = some 0 → (σ.1 68 (5 : Int32).toNatClampNeg).toInt < 5)) → ok (fX8_readNext_b115 σ) (MS σ) := fun hq => by
    rcases hq with hn | ⟨q3, q4, q5⟩
    · exact b115_bad h w hn
    · unfold fX8_readNext_b115
      refine ok_gz (fun _ => ok_some ⟨MF.rf h, w⟩) (fun _ => ?_)
      rcases is_two h (w := 4) (by decide) with e4 | e4
      · rw [takes0 e4, bs_s, if_pos rfl]
        rcases is_two h (w := 12) (by decide) with e12 | e12
        · rw [takes0 e12, bs_s, if_pos rfl]
          rcases is_two h (w := 13) (by decide) with e13 | e13
          · rw [takes0 e13, bs_s, if_pos rfl]
            refine ok_bp h.adv (fun σ8 q8 => ok_bp (ok_readGuest8 q8.1.mt (w.mr q8.1) (by rw [q8.1.2]; exact q5 e4 e12 e13)) (fun σ9 q9 => ok_some (MS.of q8.1.1 q9)))
          · refine ok_bs (takes1 h e13) (fun r σ7 q7 => ?_)
            have hr : r = 1 := q7.1
            subst hr
            exact ok_if (fun e => absurd e i10) (fun _ => ok_bp (ok_readStep8 q7.2.mt (w.mr q7.2) (by rw [q7.2.2]; exact q4 e13)) (fun σ9 q9 => ok_some (MS.of q7.2.1 q9)))
        · refine ok_bs (takes1 h e12) (fun r σ7 q7 => ?_)
          have hr : r = 1 := q7.1
          subst hr
          exact ok_if (fun e => absurd e i10) (fun _ => ok_bp (ok_readSalt8 q7.2.mt (w.mr q7.2)) (fun σ9 q9 => ok_some (MS.of q7.2.1 q9)))
      · refine ok_bs (takes1 h e4) (fun r σ7 q7 => ?_)
        have hr : r = 1 := q7.1
        subst hr
        exact ok_if (fun e => absurd e i10) (fun _ => ok_bp (ok_readClaim8 q7.2.mt (w.mr q7.2) (by rw [q7.2.2]; exact q3 e4)) (fun σ9 q9 => ok_some (MS.of q7.2.1 q9)))
  have b91 : ¬ GO σ ∨ ((fX8_is σ 4 = some 1 → (σ.1 68 (3 : Int32).toNatClampNeg).toInt < 12) ∧ (fX8_is σ 13 = some 1 → (σ.1 68 (4 : Int32).toNatClampNeg).toInt < 12) ∧ (fX8_is σ 4 = some 0 → fX8_is σ 12 = some 0 → fX8_is σ 13 = some 0 → fX8_is σ 15 = some 1)) → ok (fX8_readNext_b91 σ) (MS σ) := fun hq => by
    unfold fX8_readNext_b91
    rcases is_two h (w := 15) (by decide) with e15 | e15
    · rw [e15, bp_s, if_pos rfl]
      refine b115 (hq.imp_right (fun q => ⟨q.1, q.2.1, fun a b c => ?_⟩))
      have := q.2.2 a b c
      rw [e15] at this
      cases this
    · rw [e15, bp_s, if_neg i10]
      refine ok_gd (by decide) (ok_eq (n := 5) rfl rfl (fun _ _ => b110 h w) (fun _ hne => b115 (hq.imp_right (fun q => ⟨q.1, q.2.1, fun _ _ _ => by omega⟩))))
  have b71 : ¬ GO σ ∨ ((fX8_is σ 4 = some 1 → (σ.1 68 (3 : Int32).toNatClampNeg).toInt < 12) ∧ (fX8_is σ 4 = some 0 → fX8_is σ 12 = some 0 → fX8_is σ 13 = some 0 → fX8_is σ 15 = some 1)) → ok (fX8_readNext_b71 σ) (MS σ) := fun hq => by
    unfold fX8_readNext_b71
    rcases is_two h (w := 13) (by decide) with e13 | e13
    · rw [e13, bp_s, if_pos rfl]
      refine b91 (hq.imp_right (fun q => ⟨q.1, fun e => ?_, q.2⟩))
      rw [e13] at e
      cases e
    · rw [e13, bp_s, if_neg i10]
      exact ok_gd (by decide) (ok_eq (n := 12) rfl rfl (fun _ _ => b110 h w) (fun _ hne => b91 (hq.imp_right (fun q => ⟨q.1, fun _ => by omega, q.2⟩))))
  have b51 : ¬ GO σ ∨ (fX8_is σ 4 = some 0 → fX8_is σ 12 = some 0 → fX8_is σ 13 = some 0 → fX8_is σ 15 = some 1) → ok (fX8_readNext_b51 σ) (MS σ) := fun hq => by
    unfold fX8_readNext_b51
    rcases is_two h (w := 4) (by decide) with e4 | e4
    · rw [e4, bp_s, if_pos rfl]
      refine b71 (hq.imp_right (fun q => ⟨fun e => ?_, q⟩))
      rw [e4] at e
      cases e
    · rw [e4, bp_s, if_neg i10]
      exact ok_gd (by decide) (ok_eq (n := 12) rfl rfl (fun _ _ => b110 h w) (fun _ hne => b71 (hq.imp_right (fun q => ⟨fun _ => by omega, q⟩))))
  have b36 : (fX8_is σ 4 = some 0 → fX8_is σ 12 = some 0 → fX8_is σ 13 = some 0 → fX8_is σ 15 = some 1) → ok (fX8_readNext_b36 σ) (MS σ) := fun hq => by
    unfold fX8_readNext_b36 fX8_readNext_b41
    exact ok_lt (ok_if (fun e => absurd e i10) (fun _ => b51 (Or.inr hq)))
  unfold fX8_readNext
  rcases is_two h (w := 4) (by decide) with e4 | e4
  · rw [e4, bp_s, if_pos rfl]
    rcases is_two h (w := 12) (by decide) with e12 | e12
    · rw [e12, bp_s, if_pos rfl]
      rcases is_two h (w := 13) (by decide) with e13 | e13
      · rw [e13, bp_s, if_pos rfl]
        rcases is_two h (w := 15) (by decide) with e15 | e15
        · rw [e15, bp_s, if_pos rfl]
          unfold fX8_readNext_b41
          refine ok_lt (ok_if (fun _ => ok_bp (ok_errs h (by decide)) (fun τ q => ?_)) (fun e => absurd rfl e))
          -- the fault stands: nothing more is read
          have hw := w.mr q.1
          have ht := q.1.mt
          have fin : ok (fX8_readNext_b51 τ) (MS τ) := by
            unfold fX8_readNext_b51
            rw [is_no ht q.2 (by decide), bp_s, if_pos rfl]
            unfold fX8_readNext_b71
            rw [is_no ht q.2 (by decide), bp_s, if_pos rfl]
            unfold fX8_readNext_b91
            rw [is_no ht q.2 (by decide), bp_s, if_pos rfl]
            exact b115_bad ht hw q.2
          exact ok_mono fin (fun υ m => MS.of q.1.1 m)
        · rw [e15, bp_s, if_neg i10]
          exact b36 (fun _ _ _ => e15)
      · rw [e13, bp_s, if_neg i10]
        exact b36 (fun _ _ e => by rw [e13] at e; cases e)
    · rw [e12, bp_s, if_neg i10]
      exact b36 (fun _ e _ => by rw [e12] at e; cases e)
  · rw [e4, bp_s, if_neg i10]
    exact b36 (fun e _ _ => by rw [e4] at e; cases e)
/-- a LINE: without a fault the place goes on -/
theorem ok_b67 {σ τ : St} (m : MS σ τ) : ok (fX8_readLine_b67 τ) (fun υ => MS σ υ ∧ (GO υ → (σ.1 62 9).toInt < (υ.1 62 9).toInt)) := by
  have b98 : ∀ υ, MS σ υ → (GO υ → (σ.1 62 9).toInt < (υ.1 62 9).toInt) → ok (fX8_readLine_b98 υ) (fun υ => MS σ υ ∧ (GO υ → (σ.1 62 9).toInt < (υ.1 62 9).toInt)) := fun υ q hp => by
    unfold fX8_readLine_b98
    refine ok_gd (by decide) (ok_gd (by decide) (ok_lv (fun σ1 e1 => ok_some ⟨⟨?_, ?_⟩, fun g => ?_⟩)))
    · rw [e1]; exact q.1.set68
    · rw [e1]
      have k6 : (6 : Int32).toNatClampNeg = 6 := rfl
      exact q.2.set (fun e => by omega) (fun e => by omega) (fun e => by omega) (fun e => by omega) (fun c hc e => by omega) (fun s hs e => by omega) (fun g hg e => by omega)
    · rw [e1, setI_eq (by omega)]
      refine hp ?_
      unfold GO at g ⊢
      rw [e1, setI_eq (by omega)] at g
      exact g
  have bad : ∀ υ, MS σ υ → ¬ GO υ → ok (fX8_readLine_b87 υ) (fun υ => MS σ υ ∧ (GO υ → (σ.1 62 9).toInt < (υ.1 62 9).toInt)) := fun υ q hn => by
    unfold fX8_readLine_b87
    exact ok_gz (fun _ => b98 υ q (fun g => absurd g hn)) (fun g => absurd g hn)
  have ht := m.1.2.1
  unfold fX8_readLine_b67
  refine ok_gz (fun hn => bad τ m hn) (fun hg => ok_if (fun h3 => ?_) (fun _ => ok_bp (ok_errs ht (by decide)) (fun υ q => bad υ ⟨m.1.trans q.1.1, m.2.mr q.1⟩ q.2)))
  unfold fX8_readLine_b87
  refine ok_gz (fun hn => absurd hg hn) (fun _ => ok_bp ht.adv (fun υ q => b98 υ ⟨m.1.trans q.1.1, m.2.mr q.1⟩ (fun _ => ?_)))
  have hp := ht.2.2.2.2.2 (by rw [h3]; decide)
  have h1 := m.1.2.2.1
  have h2 := q.2.1
  omega
theorem ok_readLine8 {σ : St} (h : MT σ) (w : WV 68 0 σ) : ok (fX8_readLine σ) (fun υ => MS σ υ ∧ (GO υ → (σ.1 62 9).toInt < (υ.1 62 9).toInt)) := by
  unfold fX8_readLine
  have k0 : (0 : Int32).toNatClampNeg = 0 := rfl
  have k1 : (1 : Int32).toNatClampNeg = 1 := rfl
  have k2 : (2 : Int32).toNatClampNeg = 2 := rfl
  refine ok_gd (by decide) (ok_if (fun _ => ok_bp (ok_needs h (by decide)) (fun σ7 q7 => ok_bs (ok_told q7.mt (by decide)) (fun r8 σ9 q9 => ok_gd (by decide) (ok_lv (fun σ10 e10 => ?_))))) (fun _ => ok_bp (ok_readNext8 h w) (fun τ q => ok_b67 q)))
  have m9 : MR σ σ9 := q7.trans q9.1
  have w9 := w.mr m9
  have s10 : MS σ σ10 := by
    refine ⟨by rw [e10]; exact m9.1.set68, ?_⟩
    rw [e10]
    refine w9.set (fun _ => ?_) (fun e => by omega) (fun e => by omega) (fun e => by omega) (fun c hc e => by omega) (fun s hs e => by omega) (fun g hg e => by omega)
    rcases q9.2 with ⟨_, h1, h2, _⟩ | ⟨_, h1⟩
    · have h1 : (2 : Int32).toInt ≤ r8.toInt := h1
      have h2 : r8.toInt ≤ (4 : Int32).toInt := h2
      have z2 : (2 : Int32).toInt = 2 := rfl
      have z4 : (4 : Int32).toInt = 4 := rfl
      omega
    · have h1 : r8 = 0 := h1
      rw [h1]
      decide
  refine ok_bs (ok_told s10.1.2.1 (by decide)) (fun r11 σ12 q12 => ok_gd (by decide) (ok_lv (fun σ13 e13 => ?_)))
  have w12 := s10.2.mr q12.1
  have s13 : MS σ σ13 := by
    refine ⟨by rw [e13]; exact (s10.1.trans q12.1.1).set68, ?_⟩
    rw [e13]
    exact w12.set (fun e => by omega) (fun e => by omega) (fun e => by omega) (fun e => by omega) (fun c hc e => by omega) (fun s hs e => by omega) (fun g hg e => by omega)
  refine ok_bs (ok_told s13.1.2.1 (by decide)) (fun r14 σ15 q15 => ok_gd (by decide) (ok_lv (fun σ16 e16 => ?_)))
  have w15 := s13.2.mr q15.1
  have s16 : MS σ σ16 := by
    refine ⟨by rw [e16]; exact (s13.1.trans q15.1.1).set68, ?_⟩
    rw [e16]
    exact w15.set (fun e => by omega) (fun e => by omega) (fun e => by omega) (fun e => by omega) (fun c hc e => by omega) (fun s hs e => by omega) (fun g hg e => by omega)
  exact ok_b67 s16
def TB (σ0 : St) (p : Int32 × St) : Prop := (∀ k j, k ≠ 62 → k ≠ 63 → (k < 68 ∨ 71 < k) → p.2.1 k j = σ0.1 k j) ∧ p.2.1 62 5 = σ0.1 62 5 ∧ p.2.2 = σ0.2 ∧ WV 63 0 p.2
theorem ol_table86 {σ0 σ1 : St} (w : WV 68 0 σ1) (hb : MB σ0 σ1) : ∀ (n : Nat) (σ : St) (x : Int32), 0 ≤ x.toInt → x.toInt ≤ 77 → (∀ k j, k ≠ 63 → σ.1 k j = σ1.1 k j) → σ.2 = σ1.2 → (∀ j : Nat, (j : Int) < x.toInt → σ.1 63 j = σ1.1 68 j) → (78 - x.toInt).toNat < n → ok (fX8_table_l86 n σ x) (TB σ0) := by
  intro n
  induction n with
  | zero => intro σ x _ _ _ _ _ h; omega
  | succ n ih =>
    intro σ x h0 h1 hf hg hc hm
    show ok (fX8_table_B86 (fX8_table_l86 n) σ x) _
    unfold fX8_table_B86
    have nx := nN h0
    refine ok_le (m := 77) rfl rfl (fun h => ok_gd (by decide) (ok_some ⟨fun k j a b c => ?_, ?_, ?_, ?_⟩)) (fun hlt => ?_)
    · exact (hf k j b).trans (hb.1 k j a c)
    · exact (hf 62 5 (by decide)).trans hb.2.2.1
    · exact hg.trans hb.2.2.2
    · refine w.cp (fun j hj => ?_)
      rw [Nat.zero_add]
      exact hc j (by omega)
    · have e7 := inc (x := x) (by omega)
      have i77 : ir x 77 := ⟨h0, by show _ < (77 : Int); omega⟩
      refine ok_gd i77 (ok_gd i77 (ok_lv (fun σ2 e2 => ok_lt (ih σ2 _ (by omega) (by omega) (fun k j hk => ?_) ?_ (fun j hj => ?_) (by omega)))))
      · rw [e2, setI_eq (fun e => hk e.1)]; exact hf k j hk
      · rw [e2]; exact hg
      · rw [e2]
        by_cases ej : j = x.toNatClampNeg
        · rw [ej, setI_at]; exact hf 68 _ (by decide)
        · rw [setI_eq (by omega)]; exact hc j (by omega)
theorem ok_b74 {σ0 σ : St} (w : WV 68 0 σ) (w63 : WV 63 0 σ0) (hb : MB σ0 σ) : ok (fX8_table_b74 σ) (TB σ0) := by
  unfold fX8_table_b74
  refine ok_gz (fun _ => ok_some ⟨fun k j a _ c => hb.1 k j a c, hb.2.2.1, hb.2.2.2, w63.co (fun j => hb.1 63 j (by decide) (by decide))⟩) (fun _ => ok_lt ?_)
  exact ol_table86 w hb FU σ 0 (by decide) (by decide) (fun _ _ _ => rfl) rfl (fun j hj => absurd hj (by have : (0 : Int32).toInt = 0 := rfl; omega)) (by decide)
theorem ol_table53 {σ0 : St} (w63 : WV 63 0 σ0) : ∀ (n : Nat) (σ : St), MB σ0 σ → MT σ → WV 68 0 σ → (1 < n ∨ ¬ GO σ) → (1603 - (σ.1 62 9).toInt).toNat < n ∨ (¬ GO σ ∧ 0 < n) → ok (fX8_table_l53 n σ) (TB σ0) := by
  intro n
  induction n with
  | zero => intro σ _ ht _ _ h; have := ht; unfold MT at this; omega
  | succ n ih =>
    intro σ hb ht w _ hm
    show ok (fX8_table_B53 (fX8_table_l53 n) σ) _
    unfold fX8_table_B53
    refine ok_gz (fun _ => ok_b74 w w63 hb) (fun hg => ok_if (fun _ => ok_b74 w w63 hb) (fun _ => ok_bp (ok_readLine8 ht w) (fun υ q => ?_)))
    have L := ht
    have L' := q.1.1.2.1
    unfold MT at L L'
    have hm : (1603 - (σ.1 62 9).toInt).toNat < n + 1 := hm.resolve_right (fun q => q.1 hg)
    by_cases hgu : GO υ
    · have := q.2 hgu
      exact ih υ (hb.trans q.1.1.1) q.1.1.2.1 q.1.2 (Or.inl (by omega)) (Or.inl (by omega))
    · exact ih υ (hb.trans q.1.1.1) q.1.1.2.1 q.1.2 (Or.inr hgu) (Or.inr ⟨hgu, by omega⟩)
theorem wv_zero {σ : St} (h : ∀ j, j < 77 → σ.1 68 j = 0) : WV 68 0 σ := by
  unfold WV
  simp only [Nat.zero_add]
  rw [h 0 (by omega), h 3 (by omega), h 4 (by omega), h 5 (by omega)]
  refine ⟨by decide, by decide, by decide, by decide, fun c hc => Or.inl (h _ (by omega)), fun s hs => ?_, fun g hg hl => absurd hl ?_⟩
  · rw [h _ (by omega)]; decide
  · have : (0 : Int32).toInt = 0 := rfl
    omega
theorem ol_table30 {σ0 : St} (w63 : WV 63 0 σ0) (h7 : 0 ≤ (σ0.1 62 7).toInt ∧ (σ0.1 62 7).toInt ≤ 1600) (h8 : σ0.1 62 8 = 0) : ∀ (n : Nat) (σ : St) (x : Int32), 0 ≤ x.toInt → x.toInt ≤ 77 → MB σ0 σ → (∀ j, σ.1 62 j = σ0.1 62 j) → (∀ j : Nat, (j : Int) < x.toInt → σ.1 68 j = 0) → (78 - x.toInt).toNat < n → ok (fX8_table_l30 n σ x) (TB σ0) := by
  intro n
  induction n with
  | zero => intro σ x _ _ _ _ _ h; omega
  | succ n ih =>
    intro σ x h0 h1 hb hj hc hm
    show ok (fX8_table_B30 (fX8_table_l30 n) σ x) _
    unfold fX8_table_B30
    have nx := nN h0
    refine ok_le (m := 77) rfl rfl (fun h => ?_) (fun hlt => ?_)
    · have z : (0 : Int32).toInt = 0 := rfl
      refine ok_bp (ok_adv8 (by rw [hj, h8]; decide) (by rw [hj, hj, h8, z]; exact h7.1) (by rw [hj]; exact h7.2)) (fun σ7 ⟨a, t, _⟩ => ?_)
      have t0 := t.1
      refine ol_table53 w63 FU σ7 (hb.trans a.1) t ?_ (Or.inl (by unfold FU; omega)) (Or.inl (by unfold FU; omega))
      exact (wv_zero (fun j hj' => hc j (by omega))).co a.2.1
    · have e7 := inc (x := x) (by omega)
      have i77 : ir x 77 := ⟨h0, by show _ < (77 : Int); omega⟩
      refine ok_gd i77 (ok_lv (fun σ8 e8 => ok_lt (ih σ8 _ (by omega) (by omega) ?_ (fun j => ?_) (fun j hj' => ?_) (by omega))))
      · rw [e8]; exact hb.setF (by decide)
      · rw [e8, setI_eq (by omega)]; exact hj j
      · rw [e8]
        by_cases ej : j = x.toNatClampNeg
        · rw [ej, setI_at]
        · rw [setI_eq (by omega)]; exact hc j (by omega)
theorem o8_table {σ : St} (h : MI σ) : ok (fX8_table σ) (fun p => MI p.2 ∧ p.2.1 62 5 = 0 ∧ (∀ k j, k ≠ 62 → k ≠ 63 → (k < 68 ∨ 71 < k) → p.2.1 k j = σ.1 k j) ∧ p.2.2 = σ.2) := by
  unfold fX8_table
  refine ok_lv (fun σ10 e10 => ok_lv (fun σ11 e11 => ok_lv (fun σ12 e12 => ok_lv (fun σ13 e13 => ok_lv (fun σ14 e14 => ok_lt ?_)))))
  have N : ∀ k j, k ≠ 62 → σ14.1 k j = σ.1 k j := fun k j hk => by
    rw [e14, setI_eq (fun e => hk e.1), e13, setI_eq (fun e => hk e.1), e12, setI_eq (fun e => hk e.1), e11, setI_eq (fun e => hk e.1), e10, setI_eq (fun e => hk e.1)]
  have c7 : σ14.1 62 7 = σ.1 62 5 := by rw [e14, setI_eq (by decide), e13, setI_eq (by decide), e12, setI_eq (by decide), e11, setI_eq (by decide), e10, setI_at]
  have c5 : σ14.1 62 5 = 0 := by rw [e14, setI_eq (by decide), e13, setI_eq (by decide), e12, setI_eq (by decide), e11, setI_at]
  have c8 : σ14.1 62 8 = 0 := by rw [e14, setI_eq (by decide), e13, setI_eq (by decide), e12, setI_at]
  have g : σ14.2 = σ.2 := by rw [e14, e13, e12, e11, e10]; rfl
  obtain ⟨q1, q2, q3, q4⟩ := h
  refine ok_mono (ol_table30 (q2.co (fun j => N 63 j (by decide))) (by rw [c7]; exact q1) c8 FU σ14 0 (by decide) (by decide) (MB.rf σ14) (fun _ => rfl) (fun j hj => absurd hj (by have : (0 : Int32).toInt = 0 := rfl; omega)) (by decide)) (fun p ⟨t1, t2, t3, t4⟩ => ⟨⟨?_, t4, fun i hi => (q3 i hi).co (fun j => ?_), fun s hs => ?_⟩, t2.trans c5, fun k j a b c => (t1 k j a b c).trans (N k j a), t3.trans g⟩)
  · rw [t2, c5]; decide
  · rw [t1 64 j (by decide) (by decide) (by decide), N 64 j (by decide)]
  · rw [t1 78 s (by decide) (by decide) (by decide), N 78 s (by decide)]; exact q4 s hs
