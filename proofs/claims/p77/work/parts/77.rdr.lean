/-! the class's reader -/
def Qb (σ0 σ : St) : Prop := (0 ≤ (σ0.1 1 1).toInt ∧ (σ0.1 1 1).toInt ≤ 1600) ∧ (∀ k j, k ≠ 1 → σ.1 k j = σ0.1 k j) ∧ σ.1 1 1 = σ0.1 1 1 ∧ σ.2 = σ0.2
def TOK (σ : St) : Prop := 0 ≤ (σ.1 1 5).toInt ∧ (σ.1 1 5).toInt ≤ (σ.1 1 6).toInt ∧ (σ.1 1 6).toInt ≤ (σ.1 1 1).toInt ∧ 0 ≤ (σ.1 1 7).toInt ∧ (σ.1 1 7).toInt ≤ 100000
def Q (σ0 σ : St) : Prop := Qb σ0 σ ∧ TOK σ
theorem Qb.set {σ0 σ : St} {j : Nat} {v : Int32} (h : Qb σ0 σ) (hj : j ≠ 1) : Qb σ0 (setI σ 1 j v) := by
  refine ⟨h.1, fun k i hk => ?_, ?_, h.2.2.2⟩
  · rw [setI_eq (fun e => hk e.1)]; exact h.2.1 k i hk
  · rw [setI_eq (fun e => hj e.2.symm)]; exact h.2.2.1
theorem Qb.len {σ0 σ : St} (h : Qb σ0 σ) : 0 ≤ (σ.1 1 1).toInt ∧ (σ.1 1 1).toInt ≤ 1600 := by rw [h.2.2.1]; exact h.1
theorem ok_kindAt {σ : St} {a : Int32} (h0 : 0 ≤ a.toInt) (hl : (σ.1 1 1).toInt ≤ 1600) : ok (fX2_kindAt σ a) (fun r => (r = 0 ∨ a.toInt < (σ.1 1 1).toInt) ∧ (r = 2 → 48 ≤ (σ.1 2 a.toNatClampNeg).toInt ∧ (σ.1 2 a.toNatClampNeg).toInt ≤ 57)) := by
  unfold fX2_kindAt
  refine ok_lw rfl rfl (fun h => ok_gd ⟨h0, by show _ < (1600 : Int); omega⟩ (ok_lt ?_)) (fun _ => ok_some ⟨Or.inl rfl, fun e => absurd e (by decide)⟩)
  have k45 : ok (fX2_kindAt_b45 σ (σ.1 2 a.toNatClampNeg)) (fun r => (r = 0 ∨ a.toInt < (σ.1 1 1).toInt) ∧ (r = 2 → 48 ≤ (σ.1 2 a.toNatClampNeg).toInt ∧ (σ.1 2 a.toNatClampNeg).toInt ≤ 57)) := by
    unfold fX2_kindAt_b45
    exact ok_if (fun _ => ok_some ⟨Or.inr h, fun e => absurd e (by decide)⟩) (fun _ => ok_some ⟨Or.inr h, fun e => absurd e (by decide)⟩)
  have k31 : ok (fX2_kindAt_b31 σ (σ.1 2 a.toNatClampNeg)) (fun r => (r = 0 ∨ a.toInt < (σ.1 1 1).toInt) ∧ (r = 2 → 48 ≤ (σ.1 2 a.toNatClampNeg).toInt ∧ (σ.1 2 a.toNatClampNeg).toInt ≤ 57)) := by
    unfold fX2_kindAt_b31
    exact ok_lw (n := 48) rfl rfl (fun _ => k45) (fun h1 => ok_lw (m := 57) rfl rfl (fun _ => k45) (fun h2 => ok_some ⟨Or.inr h, fun _ => ⟨h1, h2⟩⟩))
  exact ok_lw (n := 97) rfl rfl (fun _ => k31) (fun _ => ok_lw (m := 122) rfl rfl (fun _ => k31) (fun _ => ok_some ⟨Or.inr h, fun e => absurd e (by decide)⟩))
theorem ok_adv_l76 {σ0 : St} : ∀ (n : Nat) (σ : St) (x : Int32), Qb σ0 σ → 0 ≤ (σ.1 1 5).toInt → (σ.1 1 5).toInt ≤ x.toInt → x.toInt ≤ (σ.1 1 1).toInt → 0 ≤ (σ.1 1 7).toInt → (σ.1 1 7).toInt ≤ 100000 → (1601 - x.toInt).toNat < n → ok (fX2_advance_l76 n σ x) (fun τ => Q σ0 τ) := by
  intro n
  induction n with
  | zero => intro σ x _ _ _ _ _ _ h; omega
  | succ n ih =>
    intro σ x hQ h5 hx hl h7 h7' hm
    show ok (fX2_advance_B76 (fX2_advance_l76 n) σ x) _
    unfold fX2_advance_B76
    have hL := hQ.len
    have fin : Q σ0 (setI σ 1 6 x) := by
      refine ⟨hQ.set (by decide), ?_⟩
      unfold TOK
      rw [setI_eq (by decide), setI_at, setI_eq (by decide), setI_eq (by decide)]
      exact ⟨h5, hx, hl, h7, h7'⟩
    refine ok_le rfl rfl (fun _ => ok_lt (ok_some fin)) (fun hlt => ok_bp (ok_kindAt (by omega) hL.2) (fun r2 q2 => ok_if (fun e2 => ?_) (fun _ => ok_lt (ok_some fin))))
    have e7 := inc (x := x) (by omega)
    refine ok_if (fun ek => ok_gd ⟨by omega, by show _ < (1600 : Int); omega⟩ (ok_lv (fun σ6 e6 => ok_lt (ih σ6 _ ?_ ?_ ?_ ?_ ?_ ?_ (by omega))))) (fun _ => ok_lv (fun σ4 e4 => ok_lt (ih σ4 _ ?_ ?_ ?_ ?_ ?_ ?_ (by omega))))
    · rw [e6]; exact hQ.set (by decide)
    · rw [e6, setI_eq (by decide)]; exact h5
    · rw [e6, setI_eq (by decide)]; omega
    · rw [e6, setI_eq (by decide)]; omega
    · rw [e6, setI_at]
      have hb := q2.2 (by rw [e2, ek])
      have m1 : (σ.1 1 7 * 10).toInt = (σ.1 1 7).toInt * 10 := i_mul rfl (n := 10) rfl (by omega) (by omega)
      have m2 : (σ.1 1 7 * 10 + σ.1 2 x.toNatClampNeg).toInt = (σ.1 1 7).toInt * 10 + (σ.1 2 x.toNatClampNeg).toInt := i_add m1 rfl (by omega) (by omega)
      have m3 : (σ.1 1 7 * 10 + σ.1 2 x.toNatClampNeg - 48).toInt = (σ.1 1 7).toInt * 10 + (σ.1 2 x.toNatClampNeg).toInt - 48 := i_sub m2 (n := 48) rfl (by omega) (by omega)
      split
      · omega
      · decide
    · rw [e6, setI_at]
      split
      · rename_i hs
        have := ilt hs
        have z : (100000 : Int32).toInt = 100000 := rfl
        omega
      · decide
    · rw [e4]; exact hQ.set (by decide)
    · rw [e4, setI_eq (by decide)]; exact h5
    · rw [e4, setI_eq (by decide)]; omega
    · rw [e4, setI_eq (by decide)]; omega
    · rw [e4, setI_at]; decide
    · rw [e4, setI_at]; decide
theorem ok_adv_b41 {σ0 σ : St} {x : Int32} (hQ : Qb σ0 σ) (h0 : 0 ≤ x.toInt) (hl : x.toInt ≤ (σ.1 1 1).toInt) : ok (fX2_advance_b41 σ x) (fun τ => Q σ0 τ) := by
  unfold fX2_advance_b41
  refine ok_lv (fun σ8 e8 => ?_)
  have q8 : Qb σ0 σ8 := by rw [e8]; exact hQ.set (by decide)
  have l8 : σ8.1 1 1 = σ.1 1 1 := by rw [e8, setI_eq (by decide)]
  have s8 : σ8.1 1 5 = x := by rw [e8, setI_at]
  have hL := q8.len
  have hL' := hL
  rw [l8] at hL'
  refine ok_bp (ok_kindAt h0 hL.2) (fun r9 q9 => ok_lv (fun σ10 e10 => ok_lv (fun σ11 e11 => ?_)))
  have q10 : Qb σ0 σ10 := by rw [e10]; exact q8.set (by decide)
  have q11 : Qb σ0 σ11 := by rw [e11]; exact q10.set (by decide)
  have l11 : σ11.1 1 1 = σ.1 1 1 := by rw [e11, setI_eq (by decide), e10, setI_eq (by decide), l8]
  have s11 : σ11.1 1 5 = x := by rw [e11, setI_eq (by decide), e10, setI_eq (by decide), s8]
  have v11 : σ11.1 1 7 = 0 := by rw [e11, setI_at]
  have k11 : σ11.1 1 4 = r9 := by rw [e11, setI_eq (by decide), e10, setI_at]
  have z : (0 : Int32).toInt = 0 := rfl
  have go : ok (fX2_advance_l76 FU σ11 x) (fun τ => Q σ0 τ) := ok_adv_l76 FU σ11 x q11 (by rw [s11]; exact h0) (by rw [s11]; omega) (by rw [l11]; exact hl) (by rw [v11]; decide) (by rw [v11]; decide) (by unfold FU; omega)
  refine ok_if (fun _ => go) (fun _ => ok_if (fun _ => go) (fun _ => ok_if (fun _ => ok_lt (ok_some ?_)) (fun hk => ?_)))
  · refine ⟨q11.set (by decide), ?_⟩
    unfold TOK
    rw [setI_eq (by decide), setI_at, setI_eq (by decide), setI_eq (by decide), s11, v11, l11]
    exact ⟨h0, by omega, hl, by decide, by decide⟩
  · rw [k11] at hk
    have hlt := q9.1.resolve_left hk
    rw [l8] at hlt
    have e7 := inc (x := x) (by omega)
    refine ok_lt (ok_lt (ok_some ⟨q11.set (by decide), ?_⟩))
    unfold TOK
    rw [setI_eq (by decide), setI_at, setI_eq (by decide), setI_eq (by decide), s11, v11, l11]
    exact ⟨h0, by omega, by omega, by decide, by decide⟩
theorem ok_adv_l5 {σ0 σ : St} (hQ : Qb σ0 σ) : ∀ (n : Nat) (x : Int32), 0 ≤ x.toInt → x.toInt ≤ (σ.1 1 1).toInt → (1601 - x.toInt).toNat < n → ok (fX2_advance_l5 n σ x) (fun τ => Q σ0 τ) := by
  have hL := hQ.len
  intro n
  induction n with
  | zero => intro x _ _ h; omega
  | succ n ih =>
    intro x h0 hl hm
    show ok (fX2_advance_B5 (fX2_advance_l5 n) σ x) _
    unfold fX2_advance_B5
    have hb := ok_adv_b41 hQ h0 hl
    refine ok_le rfl rfl (fun _ => hb) (fun hlt => ?_)
    have h16 : ir x 1600 := ⟨h0, by show _ < (1600 : Int); omega⟩
    have e7 := inc (x := x) (by omega)
    exact ok_gd h16 (ok_if (fun _ => ok_lt (ih _ (by omega) (by omega) (by omega))) (fun _ => ok_gd h16 (ok_if (fun _ => ok_lt (ih _ (by omega) (by omega) (by omega))) (fun _ => hb))))
theorem ok_advance {σ0 σ : St} (hQ : Qb σ0 σ) (h0 : 0 ≤ (σ.1 1 6).toInt) (hl : (σ.1 1 6).toInt ≤ (σ.1 1 1).toInt) : ok (fX2_advance σ) (fun τ => Q σ0 τ) := by
  unfold fX2_advance
  exact ok_lt (ok_adv_l5 hQ FU _ h0 hl (by unfold FU; omega))
theorem Q.adv {σ0 σ : St} (h : Q σ0 σ) : ok (fX2_advance σ) (fun τ => Q σ0 τ) := ok_advance h.1 (by have := h.2; unfold TOK at this; omega) h.2.2.2.1
theorem Q.fail {σ0 σ : St} (h : Q σ0 σ) {w : Int32} : ok (fX2_fail σ w) (fun p => p.1 = 0 ∧ Q σ0 p.2) := by
  unfold fX2_fail
  refine ok_lt (ok_lt (ok_gd (by decide) (ok_some ⟨rfl, (h.1.set (by decide)).set (by decide), ?_⟩)))
  have q := h.2
  unfold TOK at q ⊢
  simp only [setI_eq (show ¬ ((1 : Nat) = 1 ∧ (5 : Nat) = 3) by decide), setI_eq (show ¬ ((1 : Nat) = 1 ∧ (5 : Nat) = 2) by decide), setI_eq (show ¬ ((1 : Nat) = 1 ∧ (6 : Nat) = 3) by decide), setI_eq (show ¬ ((1 : Nat) = 1 ∧ (6 : Nat) = 2) by decide), setI_eq (show ¬ ((1 : Nat) = 1 ∧ (1 : Nat) = 3) by decide), setI_eq (show ¬ ((1 : Nat) = 1 ∧ (1 : Nat) = 2) by decide), setI_eq (show ¬ ((1 : Nat) = 1 ∧ (7 : Nat) = 3) by decide), setI_eq (show ¬ ((1 : Nat) = 1 ∧ (7 : Nat) = 2) by decide)]
  exact q
theorem slen_b : ∀ w, w < 18 → (slenI w).toInt = (slen.getD w 0 : Int) ∧ slen.getD w 0 ≤ 5 := by decide
theorem ok_isWord_l28 {σ : St} {w : Nat} (hw : w < 18) (h5 : 0 ≤ (σ.1 1 5).toInt) (hs : (σ.1 1 5).toInt + (slen.getD w 0 : Int) ≤ 1600) : ∀ (n : Nat) (x : Int32), 0 ≤ x.toInt → (10 - x.toInt).toNat < n → ok (fX2_isWord_l28 σ w n x) (tf True) := by
  obtain ⟨b1, b2⟩ := slen_b w hw
  intro n
  induction n with
  | zero => intro x _ h; omega
  | succ n ih =>
    intro x h0 hm
    show ok (fX2_isWord_B28 σ w (fX2_isWord_l28 σ w n) x) _
    unfold fX2_isWord_B28
    refine ok_le b1 rfl (fun _ => ok_gd (by decide) (ok_some (tf1 trivial))) (fun hlt => ?_)
    have e1 : (σ.1 1 5 + x).toInt = (σ.1 1 5).toInt + x.toInt := i_add rfl rfl (by omega) (by omega)
    have e7 := inc (x := x) (by omega)
    exact ok_gd ⟨by omega, by rw [e1]; show _ < (1600 : Int); omega⟩ (ok_gd ⟨h0, hlt⟩ (ok_if (fun _ => ok_lt (ih _ (by omega) (by omega))) (fun _ => ok_gd (by decide) (ok_some tf0))))
theorem Q.isWord {σ0 σ : St} (h : Q σ0 σ) {w : Nat} (hw : w < 18) : ok (fX2_isWord σ w) (tf True) := by
  obtain ⟨b1, b2⟩ := slen_b w hw
  have hL := h.1.len
  obtain ⟨q1, q2, q3, q4, q5⟩ := h.2
  unfold fX2_isWord
  refine ok_if (fun _ => ok_eq (i_sub rfl rfl (by omega) (by omega)) b1 (fun _ he => ?_) (fun _ _ => ok_gd (by decide) (ok_some tf0))) (fun _ => ok_gd (by decide) (ok_some tf0))
  exact ok_lt (ok_isWord_l28 hw q1 (by omega) FU 0 (by decide) (by decide))
theorem Q.isNum {σ0 σ : St} (h : Q σ0 σ) {b : Int32} : ok (fX2_isNumberOf σ b) (tf (0 ≤ (σ.1 1 7).toInt ∧ (σ.1 1 7).toInt < b.toInt)) := by
  unfold fX2_isNumberOf
  exact ok_if (fun _ => ok_le rfl rfl (fun _ => ok_gd (by decide) (ok_some tf0)) (fun hlt => ok_gd (by decide) (ok_some (tf1 ⟨h.2.2.2.2.1, hlt⟩)))) (fun _ => ok_gd (by decide) (ok_some tf0))
theorem Q.op {σ0 σ : St} (h : Q σ0 σ) : ok (fX2_operatorHere σ) (fun _ => True) := by
  unfold fX2_operatorHere
  exact ok_bz (h.isWord (by decide)) (ok_bz (h.isWord (by decide)) (ok_bz (h.isWord (by decide)) (ok_bz (h.isWord (by decide)) (ok_some trivial) (fun _ => ok_some trivial)) (fun _ => ok_some trivial)) (fun _ => ok_some trivial)) (fun _ => ok_some trivial)
theorem ol_worldsOfAtom {σ : St} (ha : 0 ≤ (σ.1 10 1).toInt ∧ (σ.1 10 1).toInt ≤ 4) : ∀ (n : Nat) (x1 x2 x3 : Int32), 0 ≤ x3.toInt → (17 - x3.toInt).toNat < n → ok (fX6_worldsOfAtom_l4 σ 10 n x1 x2 x3) (fun _ => True) := by
  have c := sh_b4 ha.1 ha.2
  intro n
  induction n with
  | zero => intro x1 x2 x3 _ h; omega
  | succ n ih =>
    intro x1 x2 x3 h0 hm
    show ok (fX6_worldsOfAtom_B4 σ 10 (fX6_worldsOfAtom_l4 σ 10 n) x1 x2 x3) _
    unfold fX6_worldsOfAtom_B4
    refine ok_le rfl rfl (fun _ => ok_some trivial) (fun hlt => ?_)
    have e7 := inc (x := x3) (by omega)
    exact ok_if (fun _ => ok_lt (ok_lt (ih _ _ _ (by omega) (by omega)))) (fun _ => ok_lt (ih _ _ _ (by omega) (by omega)))
theorem Q.leaf {σ0 σ : St} (h : Q σ0 σ) (ha : 0 ≤ (σ0.1 10 1).toInt ∧ (σ0.1 10 1).toInt ≤ 4) : ok (fX2_worldsOfLeaf σ 10) (fun _ => True) := by
  have hL := h.1.len
  obtain ⟨q1, q2, q3, q4, q5⟩ := h.2
  have ha' : 0 ≤ (σ.1 10 1).toInt ∧ (σ.1 10 1).toInt ≤ 4 := by rw [h.1.2.1 10 1 (by decide)]; exact ha
  unfold fX2_worldsOfLeaf
  refine ok_bz (h.isWord (by decide)) (ok_bz (h.isWord (by decide)) (ok_if (fun _ => ok_eq (i_sub rfl rfl (by omega) (by omega)) (n := 1) rfl (fun _ he => ?_) (fun _ _ => ok_some trivial)) (fun _ => ok_some trivial)) (fun _ => ok_some trivial)) (fun _ => ?_)
  · refine ok_gd ⟨q1, by show _ < (1600 : Int); omega⟩ (ok_la (fun v3 => ok_if (fun _ => ok_some trivial) (fun _ => ok_bp ?_ (fun _ (_ : True) => ok_some trivial))))
    unfold fX6_worldsOfAtom
    exact ok_lt (ok_lt (ol_worldsOfAtom ha' FU _ _ _ (by decide) (by decide)))
  · unfold fX6_allWorlds
    exact ok_bp (ok_some (P := fun _ => True) trivial) (fun _ _ => ok_some trivial)
theorem Q.num {σ0 σ : St} (h : Q σ0 σ) {a b : Int32} (ha : 0 ≤ a.toInt) : ok (fX2_readNumber σ a b) (fun p => (p.1 = -1 ∨ (a.toInt ≤ p.1.toInt ∧ p.1.toInt ≤ b.toInt)) ∧ Q σ0 p.2) := by
  have no : ∀ w, ok (bs (fX2_fail σ w) (fun r1 σ2 => some ((-1 : Int32), σ2))) (fun p => (p.1 = -1 ∨ (a.toInt ≤ p.1.toInt ∧ p.1.toInt ≤ b.toInt)) ∧ Q σ0 p.2) := fun w => ok_bs h.fail (fun r s q => ok_some ⟨Or.inl rfl, q.2⟩)
  unfold fX2_readNumber
  refine ok_if (fun _ => ok_lt (ok_lw rfl rfl (fun _ => ?_) (fun h1 => ok_le rfl rfl (fun h2 => ok_bp h.adv (fun τ q => ok_some ⟨Or.inr ⟨h1, h2⟩, q⟩)) (fun _ => ?_)))) (fun _ => no 1)
  · unfold fX2_readNumber_b31; exact no 2
  · unfold fX2_readNumber_b31; exact no 2
theorem Q.sign {σ0 σ : St} (h : Q σ0 σ) : ok (fX2_readSign σ) (fun p => (p.1 = 0 ∨ p.1 = 1) ∧ Q σ0 p.2) := by
  unfold fX2_readSign
  exact ok_if (fun _ => ok_bp h.adv (fun τ q => ok_gd (by decide) (ok_some ⟨Or.inr rfl, q⟩))) (fun _ => ok_bs h.fail (fun r s q => ok_gd (Or.inl q.1) (ok_some ⟨Or.inl q.1, q.2⟩)))
theorem Q.word {σ0 σ : St} (h : Q σ0 σ) {w : Nat} (hw : w < 18) : ok (fX2_readWord σ w) (fun p => (p.1 = 0 ∨ p.1 = 1) ∧ Q σ0 p.2) := by
  unfold fX2_readWord
  exact ok_bz (h.isWord hw) (ok_bs h.fail (fun r s q => ok_gd (Or.inl q.1) (ok_some ⟨Or.inl q.1, q.2⟩))) (fun _ => ok_bp h.adv (fun τ q => ok_gd (by decide) (ok_some ⟨Or.inr rfl, q⟩)))
theorem Q.named {σ0 σ : St} (h : Q σ0 σ) {w : Nat} (hw : w < 18) {a b : Int32} (ha : 0 ≤ a.toInt) : ok (fX2_readNamed σ w a b) (fun p => (p.1 = -1 ∨ (a.toInt ≤ p.1.toInt ∧ p.1.toInt ≤ b.toInt)) ∧ Q σ0 p.2) := by
  unfold fX2_readNamed
  exact ok_bs (h.word hw) (fun r s q => ok_if (fun _ => ok_some ⟨Or.inl rfl, q.2⟩) (fun _ => ok_bs (q.2.num ha) (fun r' s' q' => ok_some q')))
theorem ol_readSet {σ0 : St} {b m : Int32} (hb : 0 ≤ b.toInt ∧ b.toInt ≤ 12) : ∀ (n : Nat) (σ : St) (x3 x4 : Int32), Q σ0 σ → ir x3 4096 → 0 ≤ x4.toInt → (1601 - x4.toInt).toNat < n → ok (fX2_readSet_l5 n σ b m x3 x4) (fun p => (p.1 = -1 ∨ ir p.1 4096) ∧ Q σ0 p.2) := by
  intro n
  induction n with
  | zero => intro σ x3 x4 _ _ _ h; omega
  | succ n ih =>
    intro σ x3 x4 hQ h3 h0 hm
    show ok (fX2_readSet_B5 (fX2_readSet_l5 n) σ b m x3 x4) _
    unfold fX2_readSet_B5
    refine ok_le (m := 1600) rfl rfl (fun _ => ok_some ⟨Or.inr h3, hQ⟩) (fun hlt => ?_)
    have e7 := inc (x := x4) (by omega)
    have eb : (b - 1).toInt = b.toInt - 1 := dec1 (by omega)
    have k57 : ok (fX2_readSet_b57 (fX2_readSet_l5 n) σ b m x3 x4) (fun p => (p.1 = -1 ∨ ir p.1 4096) ∧ Q σ0 p.2) := by
      unfold fX2_readSet_b57
      refine ok_bs (hQ.num (by decide)) (fun r1 σ2 q => ok_lt (ok_if (fun _ => ok_some ⟨Or.inl rfl, q.2⟩) (fun hr => ?_)))
      have q1 := q.1.resolve_left hr
      have q2 : r1.toInt ≤ (b - 1).toInt := q1.2
      have q0 : 0 ≤ r1.toInt := q1.1
      exact ok_lt (ok_lt (ih σ2 _ _ q.2 (ir_or h3 (ir_sh ⟨q0, by show _ < (12 : Int); omega⟩)) (by omega) (by omega)))
    have k26 : ok (fX2_readSet_b26 (fX2_readSet_l5 n) σ b m x3 x4) (fun p => (p.1 = -1 ∨ ir p.1 4096) ∧ Q σ0 p.2) := by
      unfold fX2_readSet_b26
      exact ok_bz hQ.isNum k57 (fun _ => ok_bp ok_bc (fun r7 _ => ok_if (fun _ => k57) (fun _ => ok_bs hQ.fail (fun r s q => ok_some ⟨Or.inl rfl, q.2⟩))))
    exact ok_if (fun _ => k26) (fun _ => ok_if (fun _ => k26) (fun _ => ok_some ⟨Or.inr h3, hQ⟩))
theorem Q.rset {σ0 σ : St} (h : Q σ0 σ) {b m : Int32} (hb : 0 ≤ b.toInt ∧ b.toInt ≤ 12) : ok (fX2_readSet σ b m) (fun p => (p.1 = -1 ∨ ir p.1 4096) ∧ Q σ0 p.2) := by
  unfold fX2_readSet
  exact ok_lt (ok_lt (ol_readSet hb FU σ 0 0 h (by decide) (by decide) (by decide)))
theorem ol_readForm {σ0 : St} (ha : 0 ≤ (σ0.1 10 1).toInt ∧ (σ0.1 10 1).toInt ≤ 4) : ∀ (d : Nat) (σ : St) (x : Int32), Q σ0 σ → 0 ≤ x.toInt → x.toInt ≤ 8 → 9 ≤ d + x.toInt → ok (fX2_readForm d σ 10 x) (fun p => True ∧ Q σ0 p.2) := by
  intro d
  induction d with
  | zero => intro σ x _ _ _ h; omega
  | succ d ih =>
    intro σ x hQ h0 h8 hd
    show ok (fX2_readForm_B (fX2_readParts_B (fX2_readForm d)) σ 10 x) _
    unfold fX2_readForm_B
    have k30 : ∀ x3 x4 : Int32, ok (fX2_readForm_b30 (fX2_readParts_B (fX2_readForm d)) 10 σ x x3 x4) (fun p => True ∧ Q σ0 p.2) := fun x3 x4 => by
      unfold fX2_readForm_b30
      refine ok_lw (n := 8) rfl rfl (fun hlt => ok_bp hQ.adv (fun σ1 q1 => ok_if (fun _ => ok_some ⟨trivial, q1⟩) (fun _ => ok_bs (Q := fun p => True ∧ Q σ0 p.2) ?_ (fun r2 σ3 q3 => ok_some q3)))) (fun _ => ok_bs hQ.fail (fun r s q => ok_some ⟨trivial, q.2⟩))
      have e7 := inc (x := x) (by omega)
      unfold fX2_readParts_B
      have k19 : ∀ (σ : St) (y : Int32), Q σ0 σ → ok (fX2_readParts_b19 (fX2_readForm d) 10 σ y) (fun p => True ∧ Q σ0 p.2) := fun σ y hq => by
        unfold fX2_readParts_b19 fX6_allWorlds
        exact ok_if (fun _ => ok_some ⟨trivial, hq⟩) (fun _ => ok_bp (ok_some (P := fun _ => True) trivial) (fun _ _ => ok_some ⟨trivial, hq⟩))
      refine ok_bs (ih σ1 _ q1 (by omega) (by omega) (by omega)) (fun r2 σ3 q3 => ok_lt (ok_if (fun _ => k19 _ _ q3.2) (fun _ => ok_if (fun _ => k19 _ _ q3.2) (fun _ => ok_bs (ih σ3 _ q3.2 (by omega) (by omega) (by omega)) (fun r5 σ6 q6 => ok_lt (ok_if (fun _ => ok_some ⟨trivial, q6.2⟩) (fun _ => ok_if (fun _ => ok_some ⟨trivial, q6.2⟩) (fun _ => ok_if (fun _ => ok_some ⟨trivial, q6.2⟩) (fun _ => ?_)))))))))
      unfold fX6_allWorlds
      exact ok_bp (ok_some (P := fun _ => True) trivial) (fun _ _ => ok_some ⟨trivial, q6.2⟩)
    exact ok_bp (hQ.leaf ha) (fun r6 _ => ok_lt (ok_bp hQ.op (fun r8 _ => ok_lt (ok_if (fun _ => ok_if (fun _ => ok_bs hQ.fail (fun r s q => ok_some ⟨trivial, q.2⟩)) (fun _ => k30 _ _)) (fun _ => k30 _ _)))))
/-! the draft -/
def DPb (σ0 σ : St) : Prop := XI σ0 ∧ (∀ k j, cor k j = true → (k < 10 ∨ 16 < k) → σ.1 k j = σ0.1 k j) ∧ (∀ k j, k ≠ 81 → σ.2 k j = σ0.2 k j) ∧ (0 ≤ (σ.1 10 4).toInt ∧ (σ.1 10 4).toInt ≤ 12) ∧ (0 ≤ (σ.1 10 5).toInt ∧ (σ.1 10 5).toInt ≤ 12) ∧ (0 ≤ (σ.1 10 6).toInt ∧ (σ.1 10 6).toInt ≤ 5) ∧ ir (σ.1 10 7) 4096 ∧ TA 10 σ
def DP (σ0 σ : St) : Prop := DPb σ0 σ ∧ TOK σ
def AT (σ : St) : Prop := 0 ≤ (σ.1 10 1).toInt ∧ (σ.1 10 1).toInt ≤ 4
theorem DPb.len {σ0 σ : St} (h : DPb σ0 σ) : 0 ≤ (σ.1 1 1).toInt ∧ (σ.1 1 1).toInt ≤ 1600 := by
  rw [h.2.1 1 1 rfl (by decide)]
  exact h.1.1
theorem DPb.qb {σ0 σ : St} (h : DPb σ0 σ) : Qb σ σ := ⟨h.len, fun _ _ _ => rfl, rfl, rfl⟩
theorem DP.q {σ0 σ : St} (h : DP σ0 σ) : Q σ σ := ⟨h.1.qb, h.2⟩
theorem DPb.go {σ0 σ τ : St} (h : DPb σ0 σ) (q : Qb σ τ) : DPb σ0 τ := by
  obtain ⟨h1, h2, h3, h4, h5, h6, h7, h8⟩ := h
  obtain ⟨-, q2, q3, q4⟩ := q
  refine ⟨h1, fun k j hk hr => ?_, fun k j hk => ?_, ?_, ?_, ?_, ?_, fun j => ?_, fun j => ?_⟩
  · rw [← h2 k j hk hr]
    by_cases e : k = 1
    · subst e
      have : j = 1 := by simpa [cor] using hk
      subst this
      exact q3
    · exact q2 k j e
  · rw [q4]; exact h3 k j hk
  · rw [q2 10 4 (by decide)]; exact h4
  · rw [q2 10 5 (by decide)]; exact h5
  · rw [q2 10 6 (by decide)]; exact h6
  · rw [q2 10 7 (by decide)]; exact h7
  · rw [q2 (10 + 3) j (by decide)]; exact h8.1 j
  · rw [q2 (10 + 6) j (by decide)]; exact h8.2 j
theorem DP.go {σ0 σ τ : St} (h : DP σ0 σ) (q : Q σ τ) : DP σ0 τ := ⟨h.1.go q.1, q.2⟩
theorem AT.go {σ τ : St} (h : AT σ) (q : Q σ τ) : AT τ := by
  unfold AT at h ⊢
  rw [q.1.2.1 10 1 (by decide)]
  exact h
theorem TOK.set {σ : St} {k j : Nat} {v : Int32} (h : TOK σ) (hk : k ≠ 1) : TOK (setI σ k j v) := by
  unfold TOK at h ⊢
  rw [setI_eq (fun e => hk e.1.symm), setI_eq (fun e => hk e.1.symm), setI_eq (fun e => hk e.1.symm), setI_eq (fun e => hk e.1.symm)]
  exact h
theorem AT.set {σ : St} {k j : Nat} {v : Int32} (h : AT σ) (hk : ¬ (10 = k ∧ 1 = j)) : AT (setI σ k j v) := by
  unfold AT at h ⊢
  rw [setI_eq hk]
  exact h
/-- a cell of the draft is told anew -/
theorem DPb.set {σ0 σ : St} {k j : Nat} {v : Int32} (h : DPb σ0 σ) (hk : 10 ≤ k ∧ k ≤ 16) (h4 : k = 10 → j = 4 → 0 ≤ v.toInt ∧ v.toInt ≤ 12) (h5 : k = 10 → j = 5 → 0 ≤ v.toInt ∧ v.toInt ≤ 12) (h6 : k = 10 → j = 6 → 0 ≤ v.toInt ∧ v.toInt ≤ 5) (h7 : k = 10 → j = 7 → ir v 4096) (hg : k = 13 → ir v 12) (hn : k = 16 → ir v 4096) : DPb σ0 (setI σ k j v) := by
  obtain ⟨q1, q2, q3, q4, q5, q6, q7, q8⟩ := h
  refine ⟨q1, fun p i hp hr => ?_, q3, ?_, ?_, ?_, ?_, fun i => ?_, fun i => ?_⟩
  · rw [setI_eq (by omega)]; exact q2 p i hp hr
  · by_cases e : 10 = k ∧ 4 = j
    · obtain ⟨rfl, rfl⟩ := e; rw [setI_at]; exact h4 rfl rfl
    · rw [setI_eq e]; exact q4
  · by_cases e : 10 = k ∧ 5 = j
    · obtain ⟨rfl, rfl⟩ := e; rw [setI_at]; exact h5 rfl rfl
    · rw [setI_eq e]; exact q5
  · by_cases e : 10 = k ∧ 6 = j
    · obtain ⟨rfl, rfl⟩ := e; rw [setI_at]; exact h6 rfl rfl
    · rw [setI_eq e]; exact q6
  · by_cases e : 10 = k ∧ 7 = j
    · obtain ⟨rfl, rfl⟩ := e; rw [setI_at]; exact h7 rfl rfl
    · rw [setI_eq e]; exact q7
  · by_cases e : 10 + 3 = k ∧ i = j
    · obtain ⟨rfl, rfl⟩ := e; rw [setI_at]; exact hg rfl
    · rw [setI_eq e]; exact q8.1 i
  · by_cases e : 10 + 6 = k ∧ i = j
    · obtain ⟨rfl, rfl⟩ := e; rw [setI_at]; exact hn rfl
    · rw [setI_eq e]; exact q8.2 i
theorem DP.head {σ0 σ : St} (h : DP σ0 σ) {j : Nat} {v : Int32} (hj : j < 4) : DP σ0 (setI σ 10 j v) := ⟨h.1.set (by decide) (fun _ e => by omega) (fun _ e => by omega) (fun _ e => by omega) (fun _ e => by omega) (fun e => by omega) (fun e => by omega), h.2.set (by decide)⟩
theorem o_readHead {σ0 σ : St} (h : DP σ0 σ) : ok (fX2_readHead σ 10) (fun p => (p.1 = 0 ∨ p.1 = 1) ∧ DP σ0 p.2 ∧ (p.1 = 1 → AT p.2)) := by
  have no : ∀ s, DP σ0 s → ok (gd ((0 : Int32) = 0 ∨ (0 : Int32) = 1) (some ((0 : Int32), s))) (fun p => (p.1 = 0 ∨ p.1 = 1) ∧ DP σ0 p.2 ∧ (p.1 = 1 → AT p.2)) := fun s hs => ok_gd (by decide) (ok_some ⟨Or.inl rfl, hs, fun e => absurd (show (0 : Int32) = 1 from e) (by decide)⟩)
  unfold fX2_readHead
  refine ok_bs (h.q.word (by decide)) (fun r1 σ2 q2 => ok_if (fun _ => no _ (h.go q2.2)) (fun _ => ?_))
  have d2 := h.go q2.2
  refine ok_bs (d2.q.named (by decide) (a := 2) (by decide)) (fun r3 σ4 q4 => ok_lv (fun σ5 e5 => ?_))
  have d4 := d2.go q4.2
  have d5 : DP σ0 σ5 := by rw [e5]; exact d4.head (by decide)
  have v5 : σ5.1 10 1 = r3 := by rw [e5, setI_at]
  refine ok_if (fun _ => no _ d5) (fun hr => ?_)
  rw [v5] at hr
  have a5 : AT σ5 := by
    unfold AT
    rw [v5]
    have t : (2 : Int32).toInt ≤ r3.toInt ∧ r3.toInt ≤ (4 : Int32).toInt := q4.1.resolve_left hr
    have z2 : (2 : Int32).toInt = 2 := rfl
    have z4 : (4 : Int32).toInt = 4 := rfl
    omega
  refine ok_bs (d5.q.named (by decide) (a := 1) (by decide)) (fun r6 σ7 q7 => ok_lv (fun σ8 e8 => ?_))
  have d7 := d5.go q7.2
  have a7 := a5.go q7.2
  have d8 : DP σ0 σ8 := by rw [e8]; exact d7.head (by decide)
  have a8 : AT σ8 := by rw [e8]; exact a7.set (by decide)
  refine ok_if (fun _ => no _ d8) (fun _ => ?_)
  refine ok_bs (d8.q.named (by decide) (a := 0) (by decide)) (fun r9 σ10 q10 => ok_lv (fun σ11 e11 => ?_))
  have d10 := d8.go q10.2
  have a10 := a8.go q10.2
  have d11 : DP σ0 σ11 := by rw [e11]; exact d10.head (by decide)
  have a11 : AT σ11 := by rw [e11]; exact a10.set (by decide)
  exact ok_if (fun _ => no _ d11) (fun _ => ok_gd (by decide) (ok_some ⟨Or.inr rfl, d11, fun _ => a11⟩))
def ND (σ0 : St) (p : Int32 × St) : Prop := (p.1 = 0 ∨ p.1 = 1) ∧ DP σ0 p.2 ∧ AT p.2
theorem nd0 {σ0 s : St} (h : DP σ0 s) (a : AT s) : ok (gd ((0 : Int32) = 0 ∨ (0 : Int32) = 1) (some ((0 : Int32), s))) (ND σ0) := ok_gd (by decide) (ok_some ⟨Or.inl rfl, h, a⟩)
theorem nd1 {σ0 s : St} (h : DP σ0 s) (a : AT s) : ok (gd ((1 : Int32) = 0 ∨ (1 : Int32) = 1) (some ((1 : Int32), s))) (ND σ0) := ok_gd (by decide) (ok_some ⟨Or.inr rfl, h, a⟩)
theorem ndf {σ0 s : St} {w : Int32} (h : DP σ0 s) (a : AT s) : ok (bs (fX2_fail s w) (fun r11 σ12 => gd (r11 = 0 ∨ r11 = 1) (some (r11, σ12)))) (ND σ0) := ok_bs h.q.fail (fun r τ q => ok_gd (Or.inl q.1) (ok_some ⟨Or.inl q.1, h.go q.2, a.go q.2⟩))
theorem o_readClaim {σ0 σ : St} (h : DP σ0 σ) (a : AT σ) : ok (fX2_readClaim σ 10) (ND σ0) := by
  unfold fX2_readClaim
  refine ok_lw (n := 12) rfl rfl (fun hc => ok_bp h.q.adv (fun σ1 q1 => ?_)) (fun _ => ndf h a)
  have d1 := h.go q1
  have a1 := a.go q1
  refine ok_bs (d1.q.named (by decide) (a := 0) (by decide)) (fun r2 σ3 q3 => ok_lt (ok_if (fun _ => nd0 (d1.go q3.2) (a1.go q3.2)) (fun _ => ?_)))
  have d3 := d1.go q3.2
  have a3 := a1.go q3.2
  refine ok_bs (ol_readForm a3 FD σ3 0 d3.q (by decide) (by decide) (by decide)) (fun r5 σ6 q6 => ok_lt (ok_if (fun _ => nd0 (d3.go q6.2) (a3.go q6.2)) (fun _ => ?_)))
  have d6 := d3.go q6.2
  have a6 := a3.go q6.2
  have e4 : σ6.1 10 4 = σ.1 10 4 := by rw [q6.2.1.2.1 10 4 (by decide), q3.2.1.2.1 10 4 (by decide), q1.1.2.1 10 4 (by decide)]
  have c6 := d6.1.2.2.2.1
  have i6 : ir (σ6.1 10 4) 12 := ⟨c6.1, by rw [e4]; show _ < (12 : Int); omega⟩
  refine ok_gd i6 (ok_lv (fun σ8 e8 => ?_))
  have d8 : DP σ0 σ8 := by
    rw [e8]
    exact ⟨d6.1.set (by decide) (fun e => by omega) (fun e => by omega) (fun e => by omega) (fun e => by omega) (fun e => by omega) (fun e => by omega), d6.2.set (by decide)⟩
  have a8 : AT σ8 := by rw [e8]; exact a6.set (by omega)
  have v8 : σ8.1 10 4 = σ6.1 10 4 := by rw [e8, setI_eq (by omega)]
  refine ok_gd (by rw [v8]; exact i6) (ok_lv (fun σ9 e9 => ?_))
  have d9 : DP σ0 σ9 := by
    rw [e9]
    exact ⟨d8.1.set (by decide) (fun e => by omega) (fun e => by omega) (fun e => by omega) (fun e => by omega) (fun e => by omega) (fun e => by omega), d8.2.set (by decide)⟩
  have a9 : AT σ9 := by rw [e9]; exact a8.set (by omega)
  have v9 : σ9.1 10 4 = σ6.1 10 4 := by rw [e9, setI_eq (by omega), v8]
  refine ok_lv (fun σ10 e10 => ?_)
  have e7 : (σ9.1 10 4 + 1).toInt = (σ9.1 10 4).toInt + 1 := inc (by rw [v9, e4]; omega)
  have d10 : DP σ0 σ10 := by
    rw [e10]
    refine ⟨d9.1.set (by decide) (fun _ _ => ?_) (fun _ e => by omega) (fun _ e => by omega) (fun _ e => by omega) (fun e => by omega) (fun e => by omega), d9.2.set (by decide)⟩
    rw [e7, v9]
    rw [e4] at c6 ⊢
    omega
  exact nd1 d10 (by rw [e10]; exact a9.set (by omega))
theorem o_readSalt {σ0 σ : St} (h : DP σ0 σ) (a : AT σ) : ok (fX2_readSalt σ 10) (ND σ0) := by
  unfold fX2_readSalt
  refine ok_bp h.q.adv (fun σ5 q5 => ?_)
  have d5 := h.go q5
  have a5 := a.go q5
  have k36 : ok (fX2_readSalt_b36 10 σ5) (ND σ0) := by
    unfold fX2_readSalt_b36
    refine ok_bs (d5.q.num (a := 0) (by decide)) (fun r1 σ2 q2 => ok_lt (ok_if (fun _ => nd0 (d5.go q2.2) (a5.go q2.2)) (fun hr => ok_lv (fun σ4 e4 => ?_))))
    have d2 := d5.go q2.2
    have a2 := a5.go q2.2
    have b := q2.1.resolve_left hr
    have c5 := d5.1.2.2.2.1
    have eb : (σ5.1 10 4 - 1).toInt = (σ5.1 10 4).toInt - 1 := dec1 (by omega)
    have b0 : 0 ≤ r1.toInt := b.1
    have b1 : r1.toInt ≤ (σ5.1 10 4 - 1).toInt := b.2
    have d4 : DP σ0 σ4 := by
      rw [e4]
      exact ⟨d2.1.set (by decide) (fun _ e => by omega) (fun _ e => by omega) (fun _ e => by omega) (fun _ _ => ir_or d2.1.2.2.2.2.2.2.1 (ir_sh ⟨b0, by show _ < (12 : Int); omega⟩)) (fun e => by omega) (fun e => by omega), d2.2.set (by decide)⟩
    exact nd1 d4 (by rw [e4]; exact a2.set (by decide))
  exact ok_bz d5.q.isNum k36 (fun _ => ok_if (fun _ => ndf d5 a5) (fun _ => k36))
theorem o_addStep10 {σ0 σ : St} {g s : Int32} (h : DP σ0 σ) (a : AT σ) (hg : ir g 12) : ok (fX6_addStep σ 10 g s) (fun τ => DP σ0 τ ∧ AT τ) := by
  unfold fX6_addStep
  have c := h.1.2.2.2.2.1
  refine ok_le (m := 12) rfl rfl (fun _ => ok_some ⟨h, a⟩) (fun hlt => ?_)
  have i5 : ir (σ.1 10 5) 12 := ⟨c.1, by show _ < (12 : Int); omega⟩
  refine ok_gd i5 (ok_lv (fun σ1 e1 => ?_))
  have d1 : DP σ0 σ1 := by
    rw [e1]
    exact ⟨h.1.set (by decide) (fun e => by omega) (fun e => by omega) (fun e => by omega) (fun e => by omega) (fun _ => hg) (fun e => by omega), h.2.set (by decide)⟩
  have a1 : AT σ1 := by rw [e1]; exact a.set (by omega)
  have v1 : σ1.1 10 5 = σ.1 10 5 := by rw [e1, setI_eq (by omega)]
  refine ok_gd (by rw [v1]; exact i5) (ok_lv (fun σ2 e2 => ?_))
  have d2 : DP σ0 σ2 := by
    rw [e2]
    exact ⟨d1.1.set (by decide) (fun e => by omega) (fun e => by omega) (fun e => by omega) (fun e => by omega) (fun e => by omega) (fun e => by omega), d1.2.set (by decide)⟩
  have a2 : AT σ2 := by rw [e2]; exact a1.set (by omega)
  have v2 : σ2.1 10 5 = σ.1 10 5 := by rw [e2, setI_eq (by omega), v1]
  refine ok_lv (fun σ3 e3 => ok_some ?_)
  have e7 : (σ2.1 10 5 + 1).toInt = (σ2.1 10 5).toInt + 1 := inc (by rw [v2]; omega)
  refine ⟨?_, by rw [e3]; exact a2.set (by omega)⟩
  rw [e3]
  refine ⟨d2.1.set (by decide) (fun _ e => by omega) (fun _ _ => ?_) (fun _ e => by omega) (fun _ e => by omega) (fun e => by omega) (fun e => by omega), d2.2.set (by decide)⟩
  rw [e7, v2]
  omega
theorem o_readStep {σ0 σ : St} (h : DP σ0 σ) (a : AT σ) : ok (fX2_readStep σ 10) (ND σ0) := by
  unfold fX2_readStep
  refine ok_lw (n := 12) rfl rfl (fun hc => ok_bp h.q.adv (fun σ1 q1 => ?_)) (fun _ => ndf h a)
  have d1 := h.go q1
  have a1 := a.go q1
  refine ok_bs (d1.q.num (a := 0) (by decide)) (fun r2 σ3 q3 => ok_lt (ok_if (fun _ => nd0 (d1.go q3.2) (a1.go q3.2)) (fun hr => ?_)))
  have d3 := d1.go q3.2
  have a3 := a1.go q3.2
  have b := q3.1.resolve_left hr
  have c1 := d1.1.2.2.2.1
  have eb : (σ1.1 10 4 - 1).toInt = (σ1.1 10 4).toInt - 1 := dec1 (by omega)
  have b0 : 0 ≤ r2.toInt := b.1
  have b1 : r2.toInt ≤ (σ1.1 10 4 - 1).toInt := b.2
  refine ok_bs (d3.q.word (by decide)) (fun r5 σ6 q6 => ok_if (fun _ => nd0 (d3.go q6.2) (a3.go q6.2)) (fun _ => ?_))
  have d6 := d3.go q6.2
  have a6 := a3.go q6.2
  refine ok_bs (d6.q.rset d6.1.2.2.2.1) (fun r7 σ8 q8 => ok_lt (ok_if (fun _ => nd0 (d6.go q8.2) (a6.go q8.2)) (fun _ => ?_)))
  exact ok_bp (o_addStep10 (d6.go q8.2) (a6.go q8.2) ⟨b0, by show _ < (12 : Int); omega⟩) (fun τ q => nd1 q.1 q.2)
theorem o_readGuest {σ0 σ : St} (h : DP σ0 σ) (a : AT σ) : ok (fX2_readGuest σ 10) (ND σ0) := by
  unfold fX2_readGuest
  refine ok_lw (n := 5) rfl rfl (fun hc => ok_bp h.q.adv (fun σ1 q1 => ?_)) (fun _ => ndf h a)
  have d1 := h.go q1
  have a1 := a.go q1
  refine ok_bs (d1.q.named (by decide) (a := 1) (by decide)) (fun r2 σ3 q3 => ok_lt (ok_if (fun _ => nd0 (d1.go q3.2) (a1.go q3.2)) (fun _ => ?_)))
  have d3 := d1.go q3.2
  have a3 := a1.go q3.2
  refine ok_bs (d3.q.word (by decide)) (fun r5 σ6 q6 => ok_if (fun _ => nd0 (d3.go q6.2) (a3.go q6.2)) (fun _ => ?_))
  have d6 := d3.go q6.2
  have a6 := a3.go q6.2
  refine ok_bs (d6.q.rset d6.1.2.2.2.2.1) (fun r7 σ8 q8 => ok_lt (ok_if (fun _ => nd0 (d6.go q8.2) (a6.go q8.2)) (fun hr => ?_)))
  have d8 := d6.go q8.2
  have a8 := a6.go q8.2
  have hs := q8.1.resolve_left hr
  have e6 : σ8.1 10 6 = σ.1 10 6 := by rw [q8.2.1.2.1 10 6 (by decide), q6.2.1.2.1 10 6 (by decide), q3.2.1.2.1 10 6 (by decide), q1.1.2.1 10 6 (by decide)]
  have c8 := d8.1.2.2.2.2.2.1
  have i8 : ir (σ8.1 10 6) 5 := ⟨c8.1, by rw [e6]; show _ < (5 : Int); omega⟩
  refine ok_gd i8 (ok_lv (fun σ10 e10 => ?_))
  have d10 : DP σ0 σ10 := by
    rw [e10]
    exact ⟨d8.1.set (by decide) (fun e => by omega) (fun e => by omega) (fun e => by omega) (fun e => by omega) (fun e => by omega) (fun e => by omega), d8.2.set (by decide)⟩
  have a10 : AT σ10 := by rw [e10]; exact a8.set (by omega)
  have v10 : σ10.1 10 6 = σ8.1 10 6 := by rw [e10, setI_eq (by omega)]
  refine ok_gd (by rw [v10]; exact i8) (ok_lv (fun σ11 e11 => ?_))
  have d11 : DP σ0 σ11 := by
    rw [e11]
    exact ⟨d10.1.set (by decide) (fun e => by omega) (fun e => by omega) (fun e => by omega) (fun e => by omega) (fun e => by omega) (fun _ => hs), d10.2.set (by decide)⟩
  have a11 : AT σ11 := by rw [e11]; exact a10.set (by omega)
  have v11 : σ11.1 10 6 = σ8.1 10 6 := by rw [e11, setI_eq (by omega), v10]
  refine ok_lv (fun σ12 e12 => ?_)
  have e7 : (σ11.1 10 6 + 1).toInt = (σ11.1 10 6).toInt + 1 := inc (by rw [v11, e6]; omega)
  have d12 : DP σ0 σ12 := by
    rw [e12]
    refine ⟨d11.1.set (by decide) (fun _ e => by omega) (fun _ e => by omega) (fun _ _ => ?_) (fun _ e => by omega) (fun e => by omega) (fun e => by omega), d11.2.set (by decide)⟩
    rw [e7, v11]
    rw [e6] at c8 ⊢
    omega
  exact nd1 d12 (by rw [e12]; exact a11.set (by omega))
theorem o_readLine {σ0 σ : St} (h : DP σ0 σ) (a : AT σ) : ok (fX2_readLine σ 10) (fun p => (p.1 = 0 ∨ p.1 = 1) ∧ DP σ0 p.2 ∧ (p.1 = 1 → AT p.2)) := by
  have wk : ∀ {x : Option (Int32 × St)}, ok x (ND σ0) → ok (bs x (fun r σ6 => gd (r = 0 ∨ r = 1) (some (r, σ6)))) (fun p => (p.1 = 0 ∨ p.1 = 1) ∧ DP σ0 p.2 ∧ (p.1 = 1 → AT p.2)) := fun hx => ok_bs hx (fun r s q => ok_gd q.1 (ok_some ⟨q.1, q.2.1, fun _ => q.2.2⟩))
  unfold fX2_readLine
  refine ok_if (fun _ => ok_bs (o_readHead h) (fun r s q => ok_gd q.1 (ok_some q))) (fun _ => ?_)
  refine ok_bz (h.q.isWord (by decide)) (ok_bz (h.q.isWord (by decide)) (ok_bz (h.q.isWord (by decide)) (ok_bz (h.q.isWord (by decide)) ?_ (fun _ => wk (o_readGuest h a))) (fun _ => wk (o_readStep h a))) (fun _ => wk (o_readSalt h a))) (fun _ => wk (o_readClaim h a))
  exact ok_bs h.q.fail (fun r s q => ok_gd (Or.inl q.1) (ok_some ⟨Or.inl q.1, h.go q.2, fun _ => a.go q.2⟩))
theorem ol_readTable {σ0 : St} : ∀ (n : Nat) (σ : St) (x : Int32), DP σ0 σ → AT σ → 0 ≤ x.toInt → (1601 - x.toInt).toNat < n → ok (fX2_readTable_l25 10 n σ x) (fun p => (p.1 = 0 ∨ p.1 = 1) ∧ DP σ0 p.2 ∧ (p.1 = 1 → AT p.2)) := by
  intro n
  induction n with
  | zero => intro σ x _ _ _ h; omega
  | succ n ih =>
    intro σ x h a h0 hm
    show ok (fX2_readTable_B25 10 (fX2_readTable_l25 10 n) σ x) _
    unfold fX2_readTable_B25
    have yes : ok (gd ((1 : Int32) = 0 ∨ (1 : Int32) = 1) (some ((1 : Int32), σ))) (fun p => (p.1 = 0 ∨ p.1 = 1) ∧ DP σ0 p.2 ∧ (p.1 = 1 → AT p.2)) := ok_gd (by decide) (ok_some ⟨Or.inr rfl, h, fun _ => a⟩)
    have no : ∀ s, DP σ0 s → ok (gd ((0 : Int32) = 0 ∨ (0 : Int32) = 1) (some ((0 : Int32), s))) (fun p => (p.1 = 0 ∨ p.1 = 1) ∧ DP σ0 p.2 ∧ (p.1 = 1 → AT p.2)) := fun s hs => ok_gd (by decide) (ok_some ⟨Or.inl rfl, hs, fun e => absurd (show (0 : Int32) = 1 from e) (by decide)⟩)
    refine ok_le (m := 1600) rfl rfl (fun _ => yes) (fun hlt => ok_if (fun _ => yes) (fun _ => ok_bs (o_readLine h a) (fun r1 σ2 q2 => ok_if (fun _ => no _ q2.2.1) (fun hr => ?_))))
    have a2 := q2.2.2 (q2.1.resolve_left hr)
    refine ok_bs q2.2.1.q.sign (fun r3 σ4 q4 => ok_if (fun _ => no _ (q2.2.1.go q4.2)) (fun _ => ok_lv (fun σ5 e5 => ok_lt ?_)))
    have e7 := inc (x := x) (by omega)
    refine ih σ5 _ ?_ ?_ (by omega) (by omega)
    · rw [e5]; exact (q2.2.1.go q4.2).head (by decide)
    · rw [e5]; exact (AT.go a2 q4.2).set (by decide)
theorem o_readTable {σ : St} (h : XI σ) : ok (fX2_readTable σ 10) (fun p => (p.1 = 0 ∨ p.1 = 1) ∧ DP σ p.2 ∧ (p.1 = 1 → AT p.2)) := by
  unfold fX2_readTable fX6_clear
  refine ok_bp (Q := fun τ => DPb σ τ ∧ AT τ) ?_ (fun σ7 q7 => ?_)
  · refine ok_lv (fun σ1 e1 => ok_lv (fun σ2 e2 => ok_lv (fun σ3 e3 => ok_lv (fun σ4 e4 => ok_lv (fun σ5 e5 => ok_lv (fun σ6 e6 => ok_lv (fun σ7 e7 => ok_lv (fun σ8 e8 => ok_some ?_))))))))
    have N : ∀ k j, k ≠ 10 → σ8.1 k j = σ.1 k j := fun k j hk => by
      rw [e8, setI_eq (fun e => hk e.1), e7, setI_eq (fun e => hk e.1), e6, setI_eq (fun e => hk e.1), e5, setI_eq (fun e => hk e.1), e4, setI_eq (fun e => hk e.1), e3, setI_eq (fun e => hk e.1), e2, setI_eq (fun e => hk e.1), e1, setI_eq (fun e => hk e.1)]
    have g1 : σ8.1 10 1 = 0 := by rw [e8, setI_eq (by decide), e7, setI_eq (by decide), e6, setI_eq (by decide), e5, setI_eq (by decide), e4, setI_eq (by decide), e3, setI_eq (by decide), e2, setI_at]
    have g4 : σ8.1 10 4 = 0 := by rw [e8, setI_eq (by decide), e7, setI_eq (by decide), e6, setI_eq (by decide), e5, setI_at]
    have g5 : σ8.1 10 5 = 0 := by rw [e8, setI_eq (by decide), e7, setI_eq (by decide), e6, setI_at]
    have g6 : σ8.1 10 6 = 0 := by rw [e8, setI_eq (by decide), e7, setI_at]
    have g7 : σ8.1 10 7 = 0 := by rw [e8, setI_at]
    refine ⟨⟨h, fun k j _ hr => N k j (by omega), fun k j _ => ?_, by rw [g4]; decide, by rw [g5]; decide, by rw [g6]; decide, by rw [g7]; decide, fun j => ?_, fun j => ?_⟩, ?_⟩
    · rw [e8, e7, e6, e5, e4, e3, e2, e1]; rfl
    · rw [N _ _ (by decide)]; exact h.2.2.1.1 j
    · rw [N _ _ (by decide)]; exact h.2.2.1.2 j
    · unfold AT; rw [g1]; decide
  · obtain ⟨d7, a7⟩ := q7
    refine ok_lv (fun σ8 e8 => ok_lv (fun σ9 e9 => ok_lv (fun σ10 e10 => ?_)))
    have b8 : Qb σ7 σ8 := by rw [e8]; exact d7.qb.set (by decide)
    have b9 : Qb σ7 σ9 := by rw [e9]; exact b8.set (by decide)
    have b10 : Qb σ7 σ10 := by rw [e10]; exact b9.set (by decide)
    have s10 : σ10.1 1 6 = 0 := by rw [e10, setI_at]
    have L := b10.len
    refine ok_bp (ok_advance b10 (by rw [s10]; decide) (by rw [s10]; exact L.1)) (fun σ11 q11 => ok_lt ?_)
    have d11 : DP σ σ11 := ⟨d7.go q11.1, q11.2⟩
    have a11 : AT σ11 := by
      unfold AT at a7 ⊢
      rw [q11.1.2.1 10 1 (by decide)]
      exact a7
    exact ol_readTable FU σ11 0 d11 a11 (by decide) (by decide)
theorem o_table {σ : St} (h : XI σ) : ok (fX7_table σ) (fun p => XI p.2 ∧ p.2.1 1 1 = 0 ∧ (∀ k j, cor k j = true → k ≠ 1 → 16 < k → p.2.1 k j = σ.1 k j) ∧ (∀ k j, k ≠ 81 → p.2.2 k j = σ.2 k j)) := by
  unfold fX7_table
  refine ok_bs (o_readTable h) (fun r1 σ2 ⟨h01, d2, a2⟩ => ok_lt (ok_lv (fun σ4 e4 => ?_)))
  have a2 : r1 = 1 → AT σ2 := a2
  have d2 : DP σ σ2 := d2
  have N4 : ∀ k j, cor k j = true → k ≠ 1 → (k < 10 ∨ 16 < k) → σ4.1 k j = σ.1 k j := fun k j hk h1 hr => by
    rw [e4, setI_eq (fun e => h1 e.1)]; exact d2.1.2.1 k j hk hr
  have M4 : ∀ k j, k ≠ 81 → σ4.2 k j = σ.2 k j := fun k j hk => by rw [e4]; exact d2.1.2.2.1 k j hk
  have l4 : σ4.1 1 1 = 0 := by rw [e4, setI_at]
  have c4 : ∀ k j, 3 ≤ k → k ≤ 9 ∨ (17 ≤ k ∧ k ≤ 48) → σ4.1 k j = σ.1 k j := fun k j h1 h2 => N4 k j (by simp [cor, h1]; omega) (by omega) (by omega)
  have X4 : XI σ4 := by
    obtain ⟨q1, q2, q3, q4, q5⟩ := h
    refine ⟨by rw [l4]; decide, q2.of (fun k h1 h2 j => c4 k j (by omega) (by omega)), ⟨fun j => ?_, fun j => ?_⟩, fun i hi => (q4 i hi).of (fun k h1 h2 j => ?_), fun s hs => ?_⟩
    · rw [e4, setI_eq (by omega)]; exact d2.1.2.2.2.2.2.2.2.1 j
    · rw [e4, setI_eq (by omega)]; exact d2.1.2.2.2.2.2.2.2.2 j
    · simp only [imgp] at h1 h2
      exact c4 k j (by omega) (by omega)
    · unfold RV
      rw [c4 (rowp s) 2 (by simp only [rowp]; omega) (by simp only [rowp]; omega)]
      exact q5 s hs
  refine ok_if (fun _ => ok_some ⟨X4, l4, fun k j hk h1 hr => N4 k j hk h1 (by omega), M4⟩) (fun hr => ?_)
  have a4 : AT σ4 := by rw [e4]; exact (a2 (h01.resolve_left hr)).set (by omega)
  have T4 : TV 10 σ4 := by
    have e : ∀ k j, k ≠ 1 → σ4.1 k j = σ2.1 k j := fun k j hk => by rw [e4, setI_eq (fun e => hk e.1)]
    refine ⟨a4, ?_, ?_, ?_, ?_, X4.2.2.1.1, X4.2.2.1.2⟩
    · rw [e 10 4 (by decide)]; exact d2.1.2.2.2.1
    · rw [e 10 5 (by decide)]; exact d2.1.2.2.2.2.1
    · rw [e 10 6 (by decide)]; exact d2.1.2.2.2.2.2.1
    · rw [e 10 7 (by decide)]; exact d2.1.2.2.2.2.2.2.1
  refine ok_bp (o_copyFrom (t := 3) (t2 := 10) X4.2.1.ta T4 (by omega)) (fun σ5 ⟨T5, f5, g5⟩ => ok_gd (by decide) (ok_lv (fun σ6 e6 => ok_some ?_)))
  have N6 : ∀ k j, k ≠ 0 → (k < 3 ∨ 9 < k) → σ6.1 k j = σ4.1 k j := fun k j h1 h2 => by
    rw [e6, setI_eq (fun e => h1 e.1), f5 k j (by omega)]
  refine ⟨?_, ?_, fun k j hk h1 hr => ?_, fun k j hk => ?_⟩
  · show XI σ6
    obtain ⟨q1, q2, q3, q4, q5⟩ := X4
    refine ⟨?_, T5.of (fun k h1 h2 j => ?_), ⟨fun j => ?_, fun j => ?_⟩, fun i hi => (q4 i hi).of (fun k h1 h2 j => ?_), fun s hs => ?_⟩
    · rw [N6 1 1 (by omega) (by omega)]; exact q1
    · rw [e6, setI_eq (by omega)]
    · rw [N6 _ _ (by omega) (by omega)]; exact q3.1 j
    · rw [N6 _ _ (by omega) (by omega)]; exact q3.2 j
    · simp only [imgp] at h1 h2
      exact N6 k j (by omega) (by omega)
    · unfold RV
      rw [N6 (rowp s) 2 (by simp only [rowp]; omega) (by simp only [rowp]; omega)]
      exact q5 s hs
  · show σ6.1 1 1 = 0
    rw [N6 1 1 (by omega) (by omega), l4]
  · show σ6.1 k j = _
    rw [N6 k j (by omega) (by omega), N4 k j hk h1 (by omega)]
  · show σ6.2 k j = _
    rw [e6]
    show σ5.2 k j = _
    rw [g5]
    exact M4 k j hk
