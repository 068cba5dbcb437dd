/-! the reference's reader -/
def MT (σ : St) : Prop := 0 ≤ (σ.1 62 9).toInt ∧ (σ.1 62 9).toInt ≤ (σ.1 62 8).toInt ∧ (σ.1 62 8).toInt ≤ (σ.1 62 7).toInt ∧ (σ.1 62 7).toInt ≤ 1600 ∧ (σ.1 62 10 = 2 → 0 ≤ (σ.1 62 11).toInt ∧ (σ.1 62 11).toInt ≤ 99999) ∧ (¬ σ.1 62 10 = 0 → (σ.1 62 9).toInt < (σ.1 62 8).toInt)
/-- the frame of reading: tape, table and rows stay, the place goes on, a fault stays -/
def MB (σ τ : St) : Prop := (∀ k j, k ≠ 62 → (k < 68 ∨ 71 < k) → τ.1 k j = σ.1 k j) ∧ τ.1 62 7 = σ.1 62 7 ∧ τ.1 62 5 = σ.1 62 5 ∧ τ.2 = σ.2
def MF (σ τ : St) : Prop := MB σ τ ∧ MT τ ∧ (σ.1 62 9).toInt ≤ (τ.1 62 9).toInt ∧ (τ.1 62 12 = 0 → σ.1 62 12 = 0)
def MR (σ τ : St) : Prop := MF σ τ ∧ ∀ j, τ.1 68 j = σ.1 68 j
theorem MB.rf (σ : St) : MB σ σ := ⟨fun _ _ _ _ => rfl, rfl, rfl, rfl⟩
theorem MB.trans {σ τ υ : St} (h : MB σ τ) (q : MB τ υ) : MB σ υ := ⟨fun k j h1 h2 => (q.1 k j h1 h2).trans (h.1 k j h1 h2), q.2.1.trans h.2.1, q.2.2.1.trans h.2.2.1, q.2.2.2.trans h.2.2.2⟩
theorem MF.rf {σ : St} (h : MT σ) : MF σ σ := ⟨MB.rf σ, h, Int.le_refl _, fun e => e⟩
theorem MF.trans {σ τ υ : St} (h : MF σ τ) (q : MF τ υ) : MF σ υ := ⟨h.1.trans q.1, q.2.1, Int.le_trans h.2.2.1 q.2.2.1, fun e => h.2.2.2 (q.2.2.2 e)⟩
theorem MR.rf {σ : St} (h : MT σ) : MR σ σ := ⟨MF.rf h, fun _ => rfl⟩
theorem MR.trans {σ τ υ : St} (h : MR σ τ) (q : MR τ υ) : MR σ υ := ⟨h.1.trans q.1, fun j => (q.2 j).trans (h.2 j)⟩
theorem MR.mt {σ τ : St} (h : MR σ τ) : MT τ := h.1.2.1
theorem MB.set62 {σ τ : St} {j : Nat} {v : Int32} (h : MB σ τ) (h7 : j ≠ 7) (h5 : j ≠ 5) : MB σ (setI τ 62 j v) := by
  refine ⟨fun k i hk hr => ?_, ?_, ?_, h.2.2.2⟩
  · rw [setI_eq (fun e => hk e.1)]; exact h.1 k i hk hr
  · rw [setI_eq (fun e => h7 e.2.symm)]; exact h.2.1
  · rw [setI_eq (fun e => h5 e.2.symm)]; exact h.2.2.1
theorem MB.setF {σ τ : St} {k j : Nat} {v : Int32} (h : MB σ τ) (hk : 68 ≤ k ∧ k ≤ 71) : MB σ (setI τ k j v) := by
  refine ⟨fun p i hp hr => ?_, ?_, ?_, h.2.2.2⟩
  · rw [setI_eq (by omega)]; exact h.1 p i hp hr
  · rw [setI_eq (by omega)]; exact h.2.1
  · rw [setI_eq (by omega)]; exact h.2.2.1
theorem MT.set {σ : St} {k j : Nat} {v : Int32} (h : MT σ) (hk : k ≠ 62 ∨ 12 ≤ j) : MT (setI σ k j v) := by
  unfold MT at h ⊢
  rw [setI_eq (show ¬ (62 = k ∧ 9 = j) by omega), setI_eq (show ¬ (62 = k ∧ 8 = j) by omega), setI_eq (show ¬ (62 = k ∧ 7 = j) by omega), setI_eq (show ¬ (62 = k ∧ 10 = j) by omega), setI_eq (show ¬ (62 = k ∧ 11 = j) by omega)]
  exact h
theorem ok_see {σ : St} {a : Int32} (h0 : 0 ≤ a.toInt) (hl : (σ.1 62 7).toInt ≤ 1600) : ok (fX8_see σ a) (fun r => (r = -1 ∧ (σ.1 62 7).toInt ≤ a.toInt) ∨ (a.toInt < (σ.1 62 7).toInt ∧ 0 ≤ r.toInt ∧ r.toInt ≤ 255)) := by
  unfold fX8_see
  refine ok_le rfl rfl (fun h => ok_some (Or.inl ⟨rfl, h⟩)) (fun h => ok_gd ⟨h0, by show _ < (1600 : Int); omega⟩ (ok_some (Or.inr ⟨h, ?_⟩)))
  generalize σ.1 66 a.toNatClampNeg = y
  have hy : (y &&& 255).toBitVec.toNat ≤ 255 := by
    rw [Int32.toBitVec_and, BitVec.toNat_and]
    exact Nat.and_le_right
  have := ofnat (x := y &&& 255) (by omega)
  omega
theorem MT.tok {σ : St} {t : Int32} (h9 : 0 ≤ (σ.1 62 9).toInt) (h98 : (σ.1 62 9).toInt ≤ (σ.1 62 8).toInt) (h87 : (σ.1 62 8).toInt ≤ (σ.1 62 7).toInt) (h7 : (σ.1 62 7).toInt ≤ 1600) (hv : t = 2 → 0 ≤ (σ.1 62 11).toInt ∧ (σ.1 62 11).toInt ≤ 99999) (hp : ¬ t = 0 → (σ.1 62 9).toInt < (σ.1 62 8).toInt) : MT (setI σ 62 10 t) := by
  unfold MT
  rw [setI_eq (show ¬ (62 = 62 ∧ 9 = 10) by decide), setI_eq (show ¬ (62 = 62 ∧ 8 = 10) by decide), setI_eq (show ¬ (62 = 62 ∧ 7 = 10) by decide), setI_at, setI_eq (show ¬ (62 = 62 ∧ 11 = 10) by decide)]
  exact ⟨h9, h98, h87, h7, hv, hp⟩
/-- what advance keeps beside the place -/
def AV (σ τ : St) : Prop := MB σ τ ∧ (∀ j, τ.1 68 j = σ.1 68 j) ∧ τ.1 62 12 = σ.1 62 12
theorem AV.set {σ τ : St} {j : Nat} {v : Int32} (h : AV σ τ) (h7 : j ≠ 7) (h5 : j ≠ 5) (h12 : j ≠ 12) : AV σ (setI τ 62 j v) := ⟨h.1.set62 h7 h5, fun i => by rw [setI_eq (by omega)]; exact h.2.1 i, by rw [setI_eq (by omega)]; exact h.2.2⟩
theorem ok_a144 {σ0 : St} : ∀ (n : Nat) (σ : St), AV σ0 σ → 0 ≤ (σ.1 62 9).toInt → (σ.1 62 9).toInt ≤ (σ.1 62 8).toInt → (σ.1 62 8).toInt ≤ (σ.1 62 7).toInt → (σ.1 62 7).toInt ≤ 1600 → 0 ≤ (σ.1 62 11).toInt → (σ.1 62 11).toInt ≤ 99999 → ((σ.1 62 9).toInt < (σ.1 62 8).toInt ∨ ∃ r, fX8_see σ (σ.1 62 8) = some r ∧ 48 ≤ r.toInt ∧ r.toInt ≤ 57) → (1601 - (σ.1 62 8).toInt).toNat < n → ok (fX8_advance_l144 n σ) (fun τ => AV σ0 τ ∧ MT τ ∧ τ.1 62 9 = σ.1 62 9) := by
  intro n
  induction n with
  | zero => intro σ _ _ _ _ _ _ _ _ h; omega
  | succ n ih =>
    intro σ hA h9 h98 h87 h7 hv hv' hP hm
    show ok (fX8_advance_B144 (fX8_advance_l144 n) σ) _
    unfold fX8_advance_B144
    obtain ⟨r3, e3, q3⟩ := ok_see (σ := σ) (a := σ.1 62 8) (by omega) h7
    rw [e3, bp_s]
    have hdig : ok (fX8_in r3.toInt64 48 57) (fun r => (r = 0 ∧ ¬ (48 ≤ r3.toInt ∧ r3.toInt ≤ 57)) ∨ (r = 1 ∧ 48 ≤ r3.toInt ∧ r3.toInt ≤ 57)) := by
      rcases o8_in (a := r3.toInt64) (b := 48) (c := 57) (Int32.toInt_toInt64 r3) (v := 48) rfl (w := 57) rfl with ⟨h1, h2, e⟩ | ⟨h, e⟩
      · exact ⟨1, e, Or.inr ⟨rfl, h1, h2⟩⟩
      · exact ⟨0, e, Or.inl ⟨rfl, h⟩⟩
    refine ok_bp hdig (fun r4 q4 => ?_)
    rcases q4 with ⟨rfl, hn⟩ | ⟨rfl, hd, hd'⟩
    · refine ok_if (fun _ => ok_lv (fun σ5 e5 => ok_some ⟨?_, ?_, ?_⟩)) (fun q => absurd rfl q)
      · rw [e5]; exact hA.set (by decide) (by decide) (by decide)
      · have hlt : (σ.1 62 9).toInt < (σ.1 62 8).toInt := by
          rcases hP with h | ⟨r, er, h1, h2⟩
          · exact h
          · rw [e3] at er
            cases er
            exact absurd ⟨h1, h2⟩ hn
        rw [e5]
        exact MT.tok h9 h98 h87 h7 (fun _ => ⟨hv, hv'⟩) (fun _ => hlt)
      · rw [e5, setI_eq (by decide)]
    · refine ok_if (fun q => absurd q i10) (fun _ => ?_)
      rw [bp_s]
      have hlt : (σ.1 62 8).toInt < (σ.1 62 7).toInt := by
        rcases q3 with ⟨rfl, _⟩ | ⟨h, _⟩
        · exact absurd hd (by decide)
        · exact h
      refine ok_lv (fun σ7 e7 => ok_lv (fun σ8 e8 => ?_))
      have a7 : AV σ0 σ7 := by rw [e7]; exact hA.set (by decide) (by decide) (by decide)
      have a8 : AV σ0 σ8 := by rw [e8]; exact a7.set (by decide) (by decide) (by decide)
      have c8 : (σ8.1 62 8).toInt = (σ.1 62 8).toInt + 1 := by
        rw [e8, setI_at, e7, setI_eq (by decide)]
        exact inc (by omega)
      have c9 : σ8.1 62 9 = σ.1 62 9 := by rw [e8, setI_eq (by decide), e7, setI_eq (by decide)]
      have c7 : σ8.1 62 7 = σ.1 62 7 := by rw [e8, setI_eq (by decide), e7, setI_eq (by decide)]
      have m1 : (10 * σ.1 62 11).toInt = 10 * (σ.1 62 11).toInt := i_mul (m := 10) rfl rfl (by omega) (by omega)
      have m2 : (10 * σ.1 62 11 + r3).toInt = 10 * (σ.1 62 11).toInt + r3.toInt := i_add m1 rfl (by omega) (by omega)
      have m3 : (10 * σ.1 62 11 + r3 - 48).toInt = 10 * (σ.1 62 11).toInt + r3.toInt - 48 := i_sub m2 (n := 48) rfl (by omega) (by omega)
      have v8 : 0 ≤ (σ8.1 62 11).toInt ∧ (σ8.1 62 11).toInt ≤ 99999 := by
        rw [e8, setI_eq (by decide), e7, setI_at]
        split
        · rename_i hs
          have := ilt hs
          have z : (99999 : Int32).toInt = 99999 := rfl
          omega
        · decide
      refine ok_mono (ih σ8 a8 (by rw [c9]; exact h9) (by rw [c9]; omega) (by rw [c7]; omega) (by rw [c7]; exact h7) v8.1 v8.2 (Or.inl (by rw [c9]; omega)) (by omega)) (fun τ q => ⟨q.1, q.2.1, q.2.2.trans c9⟩)
theorem ok_a83 {σ0 : St} : ∀ (n : Nat) (σ : St), AV σ0 σ → 0 ≤ (σ.1 62 9).toInt → (σ.1 62 9).toInt ≤ (σ.1 62 8).toInt → (σ.1 62 8).toInt ≤ (σ.1 62 7).toInt → (σ.1 62 7).toInt ≤ 1600 → ((σ.1 62 9).toInt < (σ.1 62 8).toInt ∨ ∃ r, fX8_see σ (σ.1 62 8) = some r ∧ 97 ≤ r.toInt ∧ r.toInt ≤ 122) → (1601 - (σ.1 62 8).toInt).toNat < n → ok (fX8_advance_l83 n σ) (fun τ => AV σ0 τ ∧ MT τ ∧ τ.1 62 9 = σ.1 62 9) := by
  intro n
  induction n with
  | zero => intro σ _ _ _ _ _ _ h; omega
  | succ n ih =>
    intro σ hA h9 h98 h87 h7 hP hm
    show ok (fX8_advance_B83 (fX8_advance_l83 n) σ) _
    unfold fX8_advance_B83
    obtain ⟨r3, e3, q3⟩ := ok_see (σ := σ) (a := σ.1 62 8) (by omega) h7
    rw [e3, bp_s]
    have hlet : ok (fX8_in r3.toInt64 97 122) (fun r => (r = 0 ∧ ¬ (97 ≤ r3.toInt ∧ r3.toInt ≤ 122)) ∨ (r = 1 ∧ 97 ≤ r3.toInt ∧ r3.toInt ≤ 122)) := by
      rcases o8_in (a := r3.toInt64) (b := 97) (c := 122) (Int32.toInt_toInt64 r3) (v := 97) rfl (w := 122) rfl with ⟨h1, h2, e⟩ | ⟨h, e⟩
      · exact ⟨1, e, Or.inr ⟨rfl, h1, h2⟩⟩
      · exact ⟨0, e, Or.inl ⟨rfl, h⟩⟩
    refine ok_bp hlet (fun r4 q4 => ?_)
    rcases q4 with ⟨rfl, hn⟩ | ⟨rfl, hd, hd'⟩
    · refine ok_if (fun _ => ok_lv (fun σ5 e5 => ok_some ⟨?_, ?_, ?_⟩)) (fun q => absurd rfl q)
      · rw [e5]; exact hA.set (by decide) (by decide) (by decide)
      · have hlt : (σ.1 62 9).toInt < (σ.1 62 8).toInt := by
          rcases hP with h | ⟨r, er, h1, h2⟩
          · exact h
          · rw [e3] at er
            cases er
            exact absurd ⟨h1, h2⟩ hn
        rw [e5]
        exact MT.tok h9 h98 h87 h7 (fun e => absurd e (by decide)) (fun _ => hlt)
      · rw [e5, setI_eq (by decide)]
    · refine ok_if (fun q => absurd q i10) (fun _ => ?_)
      have hlt : (σ.1 62 8).toInt < (σ.1 62 7).toInt := by
        rcases q3 with ⟨rfl, _⟩ | ⟨h, _⟩
        · exact absurd hd (by decide)
        · exact h
      refine ok_lv (fun σ8 e8 => ?_)
      have a8 : AV σ0 σ8 := by rw [e8]; exact hA.set (by decide) (by decide) (by decide)
      have c8 : (σ8.1 62 8).toInt = (σ.1 62 8).toInt + 1 := by
        rw [e8, setI_at]
        exact inc (by omega)
      have c9 : σ8.1 62 9 = σ.1 62 9 := by rw [e8, setI_eq (by decide)]
      have c7 : σ8.1 62 7 = σ.1 62 7 := by rw [e8, setI_eq (by decide)]
      exact ok_mono (ih σ8 a8 (by rw [c9]; exact h9) (by rw [c9]; omega) (by rw [c7]; omega) (by rw [c7]; exact h7) (Or.inl (by rw [c9]; omega)) (by omega)) (fun τ q => ⟨q.1, q.2.1, q.2.2.trans c9⟩)
theorem see_set {σ : St} {j : Nat} {v a : Int32} (hj : j ≠ 7) : fX8_see (setI σ 62 j v) a = fX8_see σ a := by
  unfold fX8_see
  rw [setI_eq (by omega), setI_eq (by omega)]
theorem ok_a0 {σ0 : St} : ∀ (n : Nat) (σ : St), AV σ0 σ → 0 ≤ (σ.1 62 8).toInt → (σ.1 62 8).toInt ≤ (σ.1 62 7).toInt → (σ.1 62 7).toInt ≤ 1600 → (1601 - (σ.1 62 8).toInt).toNat < n → ok (fX8_advance_l0 n σ) (fun τ => AV σ0 τ ∧ MT τ ∧ (σ.1 62 8).toInt ≤ (τ.1 62 9).toInt) := by
  intro n
  induction n with
  | zero => intro σ _ _ _ _ h; omega
  | succ n ih =>
    intro σ hA h8 h87 h7 hm
    show ok (fX8_advance_B0 (fX8_advance_l0 n) σ) _
    unfold fX8_advance_B0
    obtain ⟨r3, e3, q3⟩ := ok_see (σ := σ) (a := σ.1 62 8) h8 h7
    have blank : ¬ r3 = -1 → ok (fX8_advance_b26 (fX8_advance_l0 n) σ) (fun τ => AV σ0 τ ∧ MT τ ∧ (σ.1 62 8).toInt ≤ (τ.1 62 9).toInt) := fun hr => by
      unfold fX8_advance_b26
      have hlt : (σ.1 62 8).toInt < (σ.1 62 7).toInt := by
        rcases q3 with ⟨h, _⟩ | ⟨h, _⟩
        · exact absurd h hr
        · exact h
      refine ok_lv (fun σ8 e8 => ?_)
      have a8 : AV σ0 σ8 := by rw [e8]; exact hA.set (by decide) (by decide) (by decide)
      have c8 : (σ8.1 62 8).toInt = (σ.1 62 8).toInt + 1 := by
        rw [e8, setI_at]
        exact inc (by omega)
      have c7 : σ8.1 62 7 = σ.1 62 7 := by rw [e8, setI_eq (by decide)]
      exact ok_mono (ih σ8 a8 (by omega) (by rw [c7]; omega) (by rw [c7]; exact h7) (by omega)) (fun τ q => ⟨q.1, q.2.1, by omega⟩)
    rw [e3, bp_s]
    refine ok_if (fun h => blank (by rw [h]; decide)) (fun _ => ?_)
    rw [bp_s]
    refine ok_if (fun h => blank (by rw [h]; decide)) (fun _ => ok_lv (fun σ16 e16 => ?_))
    have a16 : AV σ0 σ16 := by rw [e16]; exact hA.set (by decide) (by decide) (by decide)
    have c8 : σ16.1 62 8 = σ.1 62 8 := by rw [e16, setI_eq (by decide)]
    have c9 : σ16.1 62 9 = σ.1 62 8 := by rw [e16, setI_at]
    have c7 : σ16.1 62 7 = σ.1 62 7 := by rw [e16, setI_eq (by decide)]
    have es : fX8_see σ16 (σ16.1 62 8) = some r3 := by rw [c8, e16, see_set (by decide)]; exact e3
    rw [es, bp_s]
    refine ok_lt (ok_if (fun _ => ok_lv (fun σ22 e22 => ok_some ⟨?_, ?_, ?_⟩)) (fun hr => ?_))
    · rw [e22]; exact a16.set (by decide) (by decide) (by decide)
    · rw [e22]
      exact MT.tok (by rw [c9]; exact h8) (by rw [c9, c8]; exact Int.le_refl _) (by rw [c8, c7]; exact h87) (by rw [c7]; exact h7) (fun e => absurd e (by decide)) (fun e => absurd rfl e)
    · rw [e22, setI_eq (by decide), c9]; exact Int.le_refl _
    · have hlt : (σ.1 62 8).toInt < (σ.1 62 7).toInt := by
        rcases q3 with ⟨h, _⟩ | ⟨h, _⟩
        · exact absurd h hr
        · exact h
      have sign : ∀ t : Int32, ¬ t = 2 → ok (fX8_advance_b226 σ16 t) (fun τ => AV σ0 τ ∧ MT τ ∧ (σ.1 62 8).toInt ≤ (τ.1 62 9).toInt) := fun t ht => by
        unfold fX8_advance_b226
        refine ok_lv (fun σ1 e1 => ok_lv (fun σ2 e2 => ok_some ⟨?_, ?_, ?_⟩))
        · rw [e2, e1]; exact (a16.set (by decide) (by decide) (by decide)).set (by decide) (by decide) (by decide)
        · have d8 : (σ2.1 62 8).toInt = (σ.1 62 8).toInt + 1 := by
            rw [e2, setI_at, e1, setI_eq (by decide), c8]
            exact inc (by omega)
          have d9 : σ2.1 62 9 = σ.1 62 8 := by rw [e2, setI_eq (by decide), e1, setI_eq (by decide), c9]
          have d7 : σ2.1 62 7 = σ.1 62 7 := by rw [e2, setI_eq (by decide), e1, setI_eq (by decide), c7]
          have dt : σ2.1 62 10 = t := by rw [e2, setI_eq (by decide), e1, setI_at]
          unfold MT
          rw [d8, d9, d7, dt]
          exact ⟨h8, by omega, by omega, h7, fun e => absurd e ht, fun _ => by omega⟩
        · rw [e2, setI_eq (by decide), e1, setI_eq (by decide), c9]; exact Int.le_refl _
      rcases o8_in (a := r3.toInt64) (b := 97) (c := 122) (Int32.toInt_toInt64 r3) (v := 97) rfl (w := 122) rfl with ⟨h1, h2, e⟩ | ⟨_, e⟩
      · rw [e, bp_s, if_neg i10]
        refine ok_mono (ok_a83 FU σ16 a16 (by rw [c9]; exact h8) (by rw [c8, c9]; exact Int.le_refl _) (by rw [c8, c7]; exact h87) (by rw [c7]; exact h7) (Or.inr ⟨r3, es, h1, h2⟩) (by rw [c8]; unfold FU; omega)) (fun τ q => ⟨q.1, q.2.1, by rw [q.2.2, c9]; exact Int.le_refl _⟩)
      · rw [e, bp_s, if_pos rfl]
        rcases o8_in (a := r3.toInt64) (b := 48) (c := 57) (Int32.toInt_toInt64 r3) (v := 48) rfl (w := 57) rfl with ⟨h1, h2, e⟩ | ⟨_, e⟩
        · rw [e, bp_s, if_neg i10]
          refine ok_lv (fun σ21 e21 => ?_)
          have a21 : AV σ0 σ21 := by rw [e21]; exact a16.set (by decide) (by decide) (by decide)
          have d8 : σ21.1 62 8 = σ.1 62 8 := by rw [e21, setI_eq (by decide), c8]
          have d9 : σ21.1 62 9 = σ.1 62 8 := by rw [e21, setI_eq (by decide), c9]
          have d7 : σ21.1 62 7 = σ.1 62 7 := by rw [e21, setI_eq (by decide), c7]
          have dv : σ21.1 62 11 = 0 := by rw [e21, setI_at]
          have es' : fX8_see σ21 (σ21.1 62 8) = some r3 := by rw [d8, e21, see_set (by decide), ← c8]; exact es
          refine ok_mono (ok_a144 FU σ21 a21 (by rw [d9]; exact h8) (by rw [d8, d9]; exact Int.le_refl _) (by rw [d8, d7]; exact h87) (by rw [d7]; exact h7) (by rw [dv]; decide) (by rw [dv]; decide) (Or.inr ⟨r3, es', h1, h2⟩) (by rw [d8]; unfold FU; omega)) (fun τ q => ⟨q.1, q.2.1, by rw [q.2.2, d9]; exact Int.le_refl _⟩)
        · rw [e, bp_s, if_pos rfl]
          exact ok_if (fun _ => sign 3 (by decide)) (fun _ => sign 4 (by decide))
theorem AV.rf (σ : St) : AV σ σ := ⟨MB.rf σ, fun _ => rfl, rfl⟩
/-- the next TOKEN -/
theorem ok_adv8 {σ : St} (h8 : 0 ≤ (σ.1 62 8).toInt) (h87 : (σ.1 62 8).toInt ≤ (σ.1 62 7).toInt) (h7 : (σ.1 62 7).toInt ≤ 1600) : ok (fX8_advance σ) (fun τ => AV σ τ ∧ MT τ ∧ (σ.1 62 8).toInt ≤ (τ.1 62 9).toInt) := by
  unfold fX8_advance
  exact ok_a0 FU σ (AV.rf σ) h8 h87 h7 (by unfold FU; omega)
theorem MT.adv {σ : St} (h : MT σ) : ok (fX8_advance σ) (fun τ => MR σ τ ∧ (σ.1 62 8).toInt ≤ (τ.1 62 9).toInt ∧ τ.1 62 12 = σ.1 62 12) := by
  obtain ⟨h9, h98, h87, h7, _, _⟩ := h
  exact ok_mono (ok_adv8 (by omega) h87 h7) (fun τ q => ⟨⟨⟨q.1.1, q.2.1, by omega, fun e => by rw [← q.1.2.2]; exact e⟩, q.1.2.1⟩, q.2.2, q.1.2.2⟩)
