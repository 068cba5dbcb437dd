def GO (σ : St) : Prop := σ.1 62 12 = 0
theorem ok_good (σ : St) : ok (fX8_good σ) (fun r => (r = 1 ∧ GO σ) ∨ (r = 0 ∧ ¬ GO σ)) := by
  unfold fX8_good
  exact ok_if (fun h => ok_gd (by decide) (ok_some (Or.inl ⟨rfl, h⟩))) (fun h => ok_gd (by decide) (ok_some (Or.inr ⟨rfl, h⟩)))
/-- good or not, then on -/
theorem ok_gz {α : Type} {σ : St} {A B : Int32 → Option α} {d : ∀ r : Int32, Decidable (r = 0)} {P : α → Prop} (kA : ¬ GO σ → ok (A 0) P) (kB : GO σ → ok (B 1) P) : ok (bp (fX8_good σ) (fun r => @ite _ (r = 0) (d r) (A r) (B r))) P := by
  refine ok_bp (ok_good σ) (fun r hr => ?_)
  rcases hr with ⟨rfl, h⟩ | ⟨rfl, h⟩
  · exact ok_if (fun e => absurd e i10) (fun _ => kB h)
  · exact ok_if (fun _ => kA h) (fun e => absurd rfl e)
theorem MR.tok {σ τ : St} {j : Nat} {v : Int32} (h : MR σ τ) (hj : 12 ≤ j) (hk : τ.1 62 12 = 0 ∨ ¬ v = 0 ∨ j ≠ 12) (hv : j = 12 → ¬ v = 0) : MR σ (setI τ 62 j v) := by
  refine ⟨⟨h.1.1.set62 (by omega) (by omega), h.1.2.1.set (Or.inr hj), ?_, fun e => h.1.2.2.2 ?_⟩, fun i => ?_⟩
  · rw [setI_eq (by omega)]; exact h.1.2.2.1
  · by_cases e12 : j = 12
    · subst e12
      rw [setI_at] at e
      exact absurd e (hv rfl)
    · rw [setI_eq (by omega)] at e
      exact e
  · rw [setI_eq (by omega)]; exact h.2 i
theorem ok_errs {σ : St} (h : MT σ) {k : Int32} (hk : ¬ k = 0) : ok (fX8_errs σ k) (fun τ => MR σ τ ∧ ¬ GO τ) := by
  unfold fX8_errs
  refine ok_gz (fun hn => ok_some ⟨MR.rf h, hn⟩) (fun hg => ok_lt (ok_lt (ok_some ⟨?_, ?_⟩)))
  · refine MR.tok (MR.tok (MR.rf h) (by decide) (Or.inr (Or.inl hk)) (fun _ => hk)) (by decide) (Or.inr (Or.inr (by decide))) (fun e => absurd e (by decide))
  · unfold GO
    rw [setI_eq (by decide), setI_at]
    exact hk
theorem ol_is {σ : St} {w : Nat} (hw : w < 18) (h9 : 0 ≤ (σ.1 62 9).toInt) (hs : (σ.1 62 9).toInt + (slen.getD w 0 : Int) ≤ 1600) {I : Prop} (hI : I) : ∀ (n : Nat) (x2 x3 : Int32), (x2 = 0 ∨ x2 = 1) → 0 ≤ x3.toInt → (10 - x3.toInt).toNat < n → ok (fX8_is_l39 σ w n x2 x3) (tf I) := by
  obtain ⟨b1, b2⟩ := slen_b w hw
  intro n
  induction n with
  | zero => intro x2 x3 _ _ h; omega
  | succ n ih =>
    intro x2 x3 h2 h0 hm
    show ok (fX8_is_B39 σ w (fX8_is_l39 σ w n) x2 x3) _
    unfold fX8_is_B39
    have fin : ok (gd (x2 = 0 ∨ x2 = 1) (some x2)) (tf I) := ok_gd h2 (ok_some (h2.elim Or.inl (fun e => Or.inr ⟨e, hI⟩)))
    refine ok_le b1 rfl (fun _ => fin) (fun hlt => ok_if (fun _ => fin) (fun _ => ?_))
    have e1 : (σ.1 62 9 + x3).toInt = (σ.1 62 9).toInt + x3.toInt := i_add rfl rfl (by omega) (by omega)
    have e7 := inc (x := x3) (by omega)
    exact ok_gd ⟨by omega, by rw [e1]; show _ < (1600 : Int); omega⟩ (ok_gd ⟨h0, hlt⟩ (ok_if (fun _ => ok_lt (ok_lt (ih _ _ (Or.inr rfl) (by omega) (by omega)))) (fun _ => ok_lt (ok_lt (ih _ _ (Or.inl rfl) (by omega) (by omega))))))
theorem ol_is0 {σ : St} {w : Nat} {I : Prop} : ok (fX8_is_b35 σ w) (tf I) := by
  unfold fX8_is_b35 fX8_is_b36
  refine ok_lt (ok_lt ?_)
  show ok (fX8_is_B39 σ w (fX8_is_l39 σ w 99999) 0 0) _
  unfold fX8_is_B39
  exact ok_if (fun _ => ok_gd (by decide) (ok_some tf0)) (fun _ => ok_if (fun _ => ok_gd (by decide) (ok_some tf0)) (fun e => absurd rfl e))
theorem ok_is {σ : St} (h : MT σ) {w : Nat} (hw : w < 18) : ok (fX8_is σ w) (tf (GO σ ∧ σ.1 62 10 = 1)) := by
  obtain ⟨b1, b2⟩ := slen_b w hw
  obtain ⟨h9, h98, h87, h7, _, _⟩ := h
  unfold fX8_is
  refine ok_gz (fun _ => ol_is0) (fun hg => ok_if (fun ht => ok_eq (i_sub rfl rfl (by omega) (by omega)) b1 (fun _ he => ?_) (fun _ _ => ol_is0)) (fun _ => ol_is0))
  unfold fX8_is_b36
  exact ok_lt (ok_lt (ol_is hw h9 (by omega) ⟨hg, ht⟩ FU 1 0 (Or.inr rfl) (by decide) (by decide)))
theorem is_no {σ : St} (h : MT σ) (hg : ¬ GO σ) {w : Nat} (hw : w < 18) : fX8_is σ w = some 0 := by
  obtain ⟨r, e, q⟩ := ok_is h hw
  rcases q with rfl | ⟨_, q, _⟩
  · exact e
  · exact absurd q hg
/-- a word that is wanted: the place goes on where it stands there -/
theorem ok_needs {σ : St} (h : MT σ) {w : Nat} (hw : w < 18) : ok (fX8_needs σ w) (fun τ => MR σ τ) := by
  unfold fX8_needs fX8_takes
  obtain ⟨r, e, q⟩ := ok_is h hw
  rw [e, bp_s]
  rcases q with rfl | ⟨rfl, hg, ht⟩
  · refine ok_bs (Q := fun p => p = (0, σ)) (ok_lt (ok_if (fun _ => ok_gd (by decide) (ok_some rfl)) (fun e => absurd rfl e))) (fun r2 σ2 e2 => ?_)
    cases e2
    exact ok_if (fun _ => ok_bp (ok_errs h (by decide)) (fun τ q => ok_some q.1)) (fun e => absurd rfl e)
  · refine ok_bs (Q := fun p => p.1 = 1 ∧ MR σ p.2) (ok_lt (ok_if (fun e => absurd e i10) (fun _ => ok_bp h.adv (fun τ q => ok_gd (by decide) (ok_some ⟨rfl, q.1⟩))))) (fun r2 σ2 q2 => ?_)
    have e2 : r2 = 1 := q2.1
    subst e2
    exact ok_if (fun e => absurd e i10) (fun _ => ok_some q2.2)
/-- a number within bounds, or a fault -/
def NU (σ : St) (a b : Int) (p : Int32 × St) : Prop := MR σ p.2 ∧ ((GO p.2 ∧ a ≤ p.1.toInt ∧ p.1.toInt ≤ b ∧ (σ.1 62 9).toInt < (p.2.1 62 9).toInt) ∨ (¬ GO p.2 ∧ p.1 = 0))
theorem num_bad {σ τ : St} {a b : Int} (h : MR σ τ) (hn : ¬ GO τ) : ok (fX8_number_b47 τ) (NU σ a b) := by
  unfold fX8_number_b47
  exact ok_gz (fun _ => ok_some ⟨h, Or.inr ⟨hn, rfl⟩⟩) (fun hg => absurd hg hn)
theorem num_bad2 {σ τ : St} {a b : Int} {x y : Int32} (h : MR σ τ) (hn : ¬ GO τ) : ok (fX8_number_b20 τ x y) (NU σ a b) := by
  unfold fX8_number_b20
  exact ok_gz (fun _ => num_bad h hn) (fun hg => absurd hg hn)
theorem ok_number {σ : St} (h : MT σ) {a b : Int32} : ok (fX8_number σ a b) (NU σ a.toInt b.toInt) := by
  unfold fX8_number
  refine ok_gz (fun hn => num_bad2 (MR.rf h) hn) (fun hg => ok_if (fun ht => ?_) (fun _ => ok_bp (ok_errs h (by decide)) (fun τ q => num_bad2 q.1 q.2)))
  unfold fX8_number_b20
  refine ok_gz (fun hn => absurd hg hn) (fun _ => ok_bz (ok_in (Int32.toInt_toInt64 _) (Int32.toInt_toInt64 _) (Int32.toInt_toInt64 _)) (ok_bp (ok_errs h (by decide)) (fun τ q => num_bad q.1 q.2)) (fun hv => ?_))
  unfold fX8_number_b47
  refine ok_gz (fun hn => absurd hg hn) (fun _ => ok_lt (ok_bp h.adv (fun τ q => ok_some ⟨q.1, Or.inl ⟨?_, hv.1, hv.2, ?_⟩⟩)))
  · unfold GO
    rw [q.2.2]
    exact hg
  · have hp := h.2.2.2.2.2 (by rw [ht]; decide)
    have := q.2.1
    show (σ.1 62 9).toInt < (τ.1 62 9).toInt
    omega
theorem ok_told {σ : St} (h : MT σ) {w : Nat} (hw : w < 18) {a b : Int32} : ok (fX8_told σ w a b) (NU σ a.toInt b.toInt) := by
  unfold fX8_told
  refine ok_bp (ok_needs h hw) (fun σ1 q1 => ok_bs (ok_number q1.mt) (fun r τ q => ok_some ⟨q1.trans q.1, ?_⟩))
  rcases q.2 with ⟨g, h1, h2, h3⟩ | hb
  · exact Or.inl ⟨g, h1, h2, Int.lt_of_le_of_lt q1.1.2.2.1 h3⟩
  · exact Or.inr hb
theorem ok_isNext {σ : St} (h : MT σ) {m : Int32} : ok (fX8_isNextIn σ m) (tf (GO σ ∧ 0 ≤ (σ.1 62 11).toInt ∧ (σ.1 62 11).toInt < m.toInt)) := by
  unfold fX8_isNextIn
  exact ok_gz (fun _ => ok_gd (by decide) (ok_some tf0)) (fun hg => ok_if (fun ht => ok_le rfl rfl (fun _ => ok_gd (by decide) (ok_some tf0)) (fun hlt => ok_gd (by decide) (ok_some (tf1 ⟨hg, (h.2.2.2.2.1 ht).1, hlt⟩)))) (fun _ => ok_gd (by decide) (ok_some tf0)))
theorem ok_freshAll (σ : St) : ok (fX8_freshAll σ) (fun _ => True) := ok_gd (by decide) (ok_some trivial)
theorem ol_atomW {σ : St} (ha : 0 ≤ (σ.1 68 (0 : Int32).toNatClampNeg).toInt ∧ (σ.1 68 (0 : Int32).toNatClampNeg).toInt ≤ 4) : ∀ (n : Nat) (x1 x2 x3 : Int32), 0 ≤ x3.toInt → (17 - x3.toInt).toNat < n → ok (fX8_atomWorlds_l4 σ n x1 x2 x3) (fun _ => True) := by
  have c := sh_b4 ha.1 ha.2
  intro n
  induction n with
  | zero => intro x1 x2 x3 _ h; omega
  | succ n ih =>
    intro x1 x2 x3 h0 hm
    show ok (fX8_atomWorlds_B4 σ (fX8_atomWorlds_l4 σ n) x1 x2 x3) _
    unfold fX8_atomWorlds_B4
    refine ok_gd (by decide) (ok_le rfl rfl (fun _ => ok_some trivial) (fun hlt => ?_))
    have e7 := inc (x := x3) (by omega)
    exact ok_bp ok_bit8 (fun r1 _ => ok_lt (ok_lt (ih _ _ _ (by omega) (by omega))))
/-- what the next word of a FORM is: none but words are -/
def FW (σ : St) (p : Int32 × St) : Prop := MR σ p.2 ∧ p.2.1 62 9 = σ.1 62 9 ∧ p.2.1 62 8 = σ.1 62 8 ∧ (GO σ → GO p.2) ∧ (p.1 = 5 ∨ σ.1 62 10 = 1)
theorem fw_b75 {σ : St} (h : MT σ) (ha : 0 ≤ (σ.1 68 (0 : Int32).toNatClampNeg).toInt ∧ (σ.1 68 (0 : Int32).toNatClampNeg).toInt ≤ 4) {y : Int32} (hy : y = -1 ∨ σ.1 62 10 = 1) : ok (fX8_formWord_b75 σ y) (FW σ) := by
  unfold fX8_formWord_b75
  refine ok_lv (fun σ1 e1 => ?_)
  have m1 : MR σ σ1 := by rw [e1]; exact MR.tok (MR.rf h) (by decide) (Or.inr (Or.inr (by decide))) (fun e => absurd e (by decide))
  have c9 : σ1.1 62 9 = σ.1 62 9 := by rw [e1, setI_eq (by decide)]
  have c8 : σ1.1 62 8 = σ.1 62 8 := by rw [e1, setI_eq (by decide)]
  have c10 : σ1.1 62 10 = σ.1 62 10 := by rw [e1, setI_eq (by decide)]
  have c18 : σ1.1 62 18 = y := by rw [e1, setI_at]
  have cg : GO σ → GO σ1 := fun g => by unfold GO at g ⊢; rw [e1, setI_eq (by decide)]; exact g
  have ca : ∀ j, σ1.1 68 j = σ.1 68 j := m1.2
  have stray : ok (some ((5 : Int32), σ1)) (FW σ) := ok_some ⟨m1, c9, c8, cg, Or.inl rfl⟩
  obtain ⟨h9, h98, h87, h7, _, _⟩ := m1.mt
  refine ok_if (fun _ => ok_gz (fun _ => stray) (fun _ => ok_if (fun ht => ok_eq (i_sub rfl rfl (by omega) (by omega)) (n := 1) rfl (fun _ he => ?_) (fun _ _ => stray)) (fun _ => stray))) (fun hn => ok_some ⟨m1, c9, c8, cg, Or.inr (hy.resolve_left (fun e => hn (by rw [c18]; exact e)))⟩)
  have i9 : ir (σ1.1 62 9) 1600 := ⟨h9, by show _ < (1600 : Int); omega⟩
  refine ok_gd i9 (ok_gd (by decide) (ok_bz (ok_in rfl rfl rfl) stray (fun _ => ok_gd i9 ?_)))
  unfold fX8_atomWorlds
  refine ok_bp (ok_lt (ok_lt (ol_atomW (by rw [ca]; exact ha) FU _ _ _ (by decide) (by decide)))) (fun r4 _ => ok_lv (fun σ5 e5 => ok_some ⟨?_, ?_, ?_, fun g => ?_, Or.inr (by rw [← c10]; exact ht)⟩))
  · rw [e5]; exact MR.tok m1 (by decide) (Or.inr (Or.inr (by decide))) (fun e => absurd e (by decide))
  · show σ5.1 62 9 = _
    rw [e5, setI_eq (by decide), c9]
  · show σ5.1 62 8 = _
    rw [e5, setI_eq (by decide), c8]
  · have g1 := cg g
    show σ5.1 62 12 = 0
    rw [e5, setI_eq (by decide)]
    exact g1
theorem ok_formWord {σ : St} (h : MT σ) (ha : 0 ≤ (σ.1 68 (0 : Int32).toNatClampNeg).toInt ∧ (σ.1 68 (0 : Int32).toNatClampNeg).toInt ≤ 4) : ok (fX8_formWord σ) (FW σ) := by
  have w : ∀ {c : Int32}, (GO σ ∧ σ.1 62 10 = 1) → ok (some (c, σ)) (FW σ) := fun q => ok_some ⟨MR.rf h, rfl, rfl, fun g => g, Or.inr q.2⟩
  unfold fX8_formWord
  refine ok_bz (ok_is h (by decide)) (ok_bz (ok_is h (by decide)) (ok_bz (ok_is h (by decide)) (ok_bz (ok_is h (by decide)) (ok_bz (ok_is h (by decide)) (ok_bz (ok_is h (by decide)) (fw_b75 h ha (Or.inl rfl)) (fun q => fw_b75 h ha (Or.inr q.2))) (fun q => ok_bp (ok_freshAll σ) (fun r _ => fw_b75 h ha (Or.inr q.2)))) w) w) w) w
theorem MR.setF {σ τ : St} {k j : Nat} {v : Int32} (h : MR σ τ) (hk : 69 ≤ k ∧ k ≤ 71) : MR σ (setI τ k j v) := by
  refine ⟨⟨h.1.1.setF (by omega), h.1.2.1.set (Or.inl (by omega)), ?_, fun e => h.1.2.2.2 ?_⟩, fun i => ?_⟩
  · rw [setI_eq (by omega)]; exact h.1.2.2.1
  · rw [setI_eq (by omega)] at e; exact e
  · rw [setI_eq (by omega)]; exact h.2 i
theorem ok_joined {σ : St} {a b c : Int32} : ok (fX8_joined σ a b c) (fun _ => True) := by
  unfold fX8_joined
  exact ok_if (fun _ => ok_some trivial) (fun _ => ok_if (fun _ => ok_some trivial) (fun _ => ok_bp (ok_freshAll σ) (fun _ _ => ok_some trivial)))
theorem ol_form87 {σ0 : St} {kr2 : St → Int32 → Option (Int32 × St)} {s m : Int} (hk : ∀ (σ : St) (x : Int32), MR σ0 σ → s ≤ (σ.1 62 9).toInt → 0 ≤ x.toInt → x.toInt ≤ 8 → ok (kr2 σ x) (fun p => MR σ0 p.2)) : ∀ (n : Nat) (σ : St) (x1 x3 : Int32), MR σ0 σ → s ≤ (σ.1 62 9).toInt → 0 ≤ x1.toInt → x1.toInt ≤ 8 → x1.toInt.toNat < n → ok (fX8_form_l87 kr2 n σ x1 x3) (fun p => MR σ0 p.2) := by
  intro n
  induction n with
  | zero => intro σ x1 x3 _ _ _ _ h; omega
  | succ n ih =>
    intro σ x1 x3 hR hs h0 h8 hm
    show ok (fX8_form_B87 kr2 (fX8_form_l87 kr2 n) σ x1 x3) _
    unfold fX8_form_B87
    have b147 : ok (fX8_form_b147 kr2 σ x1 x3) (fun p => MR σ0 p.2) := by
      unfold fX8_form_b147
      refine ok_eq (n := 0) rfl rfl (fun _ _ => ok_some hR) (fun _ hz => ?_)
      have e1 : (x1 - 1).toInt = x1.toInt - 1 := dec1 (by omega)
      have i8 : ir (x1 - 1) 8 := ⟨by omega, by rw [e1]; show _ < (8 : Int); omega⟩
      refine ok_gd i8 (ok_gd (by decide) (ok_lv (fun σ1 q1 => ok_gd i8 (ok_lv (fun σ2 q2 => hk σ2 x1 ?_ ?_ h0 h8)))))
      · rw [q2, q1]; exact (hR.setF (by decide)).setF (by decide)
      · rw [q2, setI_eq (by omega), q1, setI_eq (by omega)]; exact hs
    refine ok_le (n := 0) rfl rfl (fun _ => b147) (fun hp => ?_)
    have e1 : (x1 - 1).toInt = x1.toInt - 1 := dec1 (by omega)
    have i8 : ir (x1 - 1) 8 := ⟨by omega, by rw [e1]; show _ < (8 : Int); omega⟩
    have e2 := dec (x := x1) (by omega)
    have j8 : ir (x1 + -1) 8 := ⟨by omega, by rw [e2]; show _ < (8 : Int); omega⟩
    refine ok_gd i8 (ok_if (fun _ => b147) (fun _ => ok_lt (ok_gd j8 (ok_if (fun _ => ok_bp (ok_freshAll σ) (fun r6 _ => ok_lt (ih σ _ _ hR hs (by omega) (by omega) (by omega)))) (fun _ => ok_gd j8 (ok_gd j8 (ok_bp ok_joined (fun r4 _ => ok_lt (ih σ _ _ hR hs (by omega) (by omega) (by omega))))))))))
theorem ol_form {σ0 : St} (ha : 0 ≤ (σ0.1 68 (0 : Int32).toNatClampNeg).toInt ∧ (σ0.1 68 (0 : Int32).toNatClampNeg).toInt ≤ 4) : ∀ (n : Nat) (σ : St) (x1 : Int32), MR σ0 σ → 0 ≤ x1.toInt → x1.toInt ≤ 8 → (1602 - (σ.1 62 9).toInt).toNat < n → ok (fX8_form_l2 n σ x1) (fun p => MR σ0 p.2) := by
  intro n
  induction n with
  | zero =>
    intro σ x1 hR _ _ h
    have := hR.mt
    unfold MT at this
    omega
  | succ n ih =>
    intro σ x1 hR h0 h8 hm
    show ok (fX8_form_B2 (fX8_form_l2 n) σ x1) _
    unfold fX8_form_B2
    refine ok_gz (fun _ => ok_some hR) (fun hg => ?_)
    have ha' : 0 ≤ (σ.1 68 (0 : Int32).toNatClampNeg).toInt ∧ (σ.1 68 (0 : Int32).toNatClampNeg).toInt ≤ 4 := by rw [hR.2]; exact ha
    refine ok_bs (ok_formWord hR.mt ha') (fun r18 σ19 ⟨q1, q9, q8, qg, qw⟩ => ok_lt ?_)
    have q9 : σ19.1 62 9 = σ.1 62 9 := q9
    have q8 : σ19.1 62 8 = σ.1 62 8 := q8
    have R19 := hR.trans q1
    have bad : ∀ (σ : St) (x w : Int32), MR σ0 σ → ¬ GO σ → ok (fX8_form_b35 (fX8_form_l2 n) σ x w) (fun p => MR σ0 p.2) := fun σ x w h hn => by
      unfold fX8_form_b35
      exact ok_gz (fun _ => ok_some h) (fun g => absurd g hn)
    have bad24 : ∀ (σ : St) (x w : Int32), MR σ0 σ → ¬ GO σ → ok (fX8_form_b24 (fX8_form_l2 n) σ x w) (fun p => MR σ0 p.2) := fun σ x w h hn => by
      unfold fX8_form_b24
      exact ok_if (fun _ => ok_bp (ok_errs h.mt (by decide)) (fun τ q => bad τ _ _ (h.trans q.1) q.2)) (fun _ => bad _ _ _ h hn)
    refine ok_if (fun _ => ok_bp (ok_errs R19.mt (by decide)) (fun τ q => bad24 τ _ _ (R19.trans q.1) q.2)) (fun hs => ?_)
    unfold fX8_form_b24
    refine ok_eq (n := 8) rfl rfl (fun _ _ => ok_bp (ok_errs R19.mt (by decide)) (fun τ q => bad τ _ _ (R19.trans q.1) q.2)) (fun _ hne => ?_)
    unfold fX8_form_b35
    refine ok_gz (fun hn => ok_some R19) (fun _ => ok_bp R19.mt.adv (fun σ9 ⟨a1, a2, a3⟩ => ?_))
    have R9 := R19.trans a1
    have htok : σ.1 62 10 = 1 := qw.resolve_left hs
    have hlt := hR.mt.2.2.2.2.2 (by rw [htok]; decide)
    have L := R9.mt
    unfold MT at L
    have prog : (σ.1 62 9).toInt < (σ9.1 62 9).toInt := by
      rw [q8] at a2
      omega
    have hx8 : ir x1 8 := ⟨h0, by show _ < (8 : Int); omega⟩
    have e7 := inc (x := x1) (by omega)
    refine ok_if (fun _ => ok_lt ?_) (fun _ => ok_gd hx8 (ok_lv (fun σ11 e11 => ?_)))
    · refine ol_form87 (s := (σ9.1 62 9).toInt) (m := 0) (fun τ x hR' hs' hx0 hx8' => ih τ x hR' hx0 hx8' (by omega)) FU σ9 x1 _ R9 (Int.le_refl _) h0 h8 (by unfold FU; omega)
    · have R11 : MR σ0 σ11 := by rw [e11]; exact R9.setF (by decide)
      have c11 : σ11.1 62 9 = σ9.1 62 9 := by rw [e11, setI_eq (by omega)]
      refine ok_if (fun _ => ok_gd hx8 (ok_gd (by decide) (ok_lv (fun σ14 e14 => ok_lt (ih σ14 _ ?_ (by omega) (by omega) ?_))))) (fun _ => ok_gd hx8 (ok_gd (by decide) (ok_lv (fun σ12 e12 => ok_lt (ih σ12 _ ?_ (by omega) (by omega) ?_)))))
      · rw [e14]; exact R11.setF (by decide)
      · rw [e14, setI_eq (by omega), c11]; omega
      · rw [e12]; exact R11.setF (by decide)
      · rw [e12, setI_eq (by omega), c11]; omega
theorem ok_form {σ : St} (h : MT σ) (ha : 0 ≤ (σ.1 68 (0 : Int32).toNatClampNeg).toInt ∧ (σ.1 68 (0 : Int32).toNatClampNeg).toInt ≤ 4) : ok (fX8_form σ) (fun p => MR σ p.2) := by
  unfold fX8_form
  refine ok_lt (ol_form ha FU σ 0 (MR.rf h) (by decide) (by decide) ?_)
  have := h.1
  unfold FU
  omega
