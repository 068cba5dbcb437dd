/-! feed, end, image, back, row, write, paste: what they do -/
theorem ap_step {σ : St} {a x : Int32} {n : Nat} {P : St → Prop} (hx : 0 ≤ x.toInt) (h0 : 0 ≤ (σ.1 1 1).toInt) (h1 : (σ.1 1 1).toInt < 1600) (k : ∀ τ : St, (τ.1 1 1).toInt = (σ.1 1 1).toInt + 1 → (∀ k j, ¬ (k = 1 ∧ j = 1) → k ≠ 2 → τ.1 k j = σ.1 k j) → τ.2 = σ.2 → ok (fX2_append_l3 n τ a (x + -8)) P) : ok (fX2_append_l3 (n + 1) σ a x) P := by
  show ok (fX2_append_B3 (fX2_append_l3 n) σ a x) P
  unfold fX2_append_B3
  refine ok_lw (n := 0) rfl rfl (fun h => absurd h (by omega)) (fun _ => ?_)
  refine ok_le (m := 1600) rfl rfl (fun h => absurd h (by omega)) (fun _ => ?_)
  refine ok_gd ⟨h0, h1⟩ (ok_lv (fun σ1 e1 => ok_lv (fun σ2 e2 => ok_lt (k _ ?_ (fun k j hk hj => ?_) ?_))))
  · rw [e2, setI_at, e1, setI_eq (by omega)]
    exact inc (by omega)
  · rw [e2, setI_eq hk, e1, setI_eq (fun h => hj h.1)]
  · rw [e2, e1]
    rfl
theorem o_append {σ : St} {a : Int32} (h0 : 0 ≤ (σ.1 1 1).toInt) (h1 : (σ.1 1 1).toInt ≤ 1596) : ok (fX2_append σ a) (fun τ => (τ.1 1 1).toInt = (σ.1 1 1).toInt + 4 ∧ (∀ k j, ¬ (k = 1 ∧ j = 1) → k ≠ 2 → τ.1 k j = σ.1 k j) ∧ τ.2 = σ.2) := by
  unfold fX2_append
  refine ok_lt ?_
  show ok (fX2_append_l3 (99999 + 1) σ a 24) _
  refine ap_step (by decide) h0 (by omega) (fun τ1 e1 f1 g1 => ?_)
  show ok (fX2_append_l3 (99998 + 1) τ1 a (24 + -8)) _
  refine ap_step (by decide) (by omega) (by omega) (fun τ2 e2 f2 g2 => ?_)
  show ok (fX2_append_l3 (99997 + 1) τ2 a (24 + -8 + -8)) _
  refine ap_step (by decide) (by omega) (by omega) (fun τ3 e3 f3 g3 => ?_)
  show ok (fX2_append_l3 (99996 + 1) τ3 a (24 + -8 + -8 + -8)) _
  refine ap_step (by decide) (by omega) (by omega) (fun τ4 e4 f4 g4 => ?_)
  show ok (fX2_append_B3 (fX2_append_l3 99995) τ4 a (24 + -8 + -8 + -8 + -8)) _
  unfold fX2_append_B3
  refine ok_lw (m := -8) (n := 0) rfl rfl (fun _ => ?_) (fun h => absurd h (by omega))
  refine ok_some ⟨by omega, fun k j hk hj => ?_, ?_⟩
  · rw [f4 k j hk hj, f3 k j hk hj, f2 k j hk hj, f1 k j hk hj]
  · rw [g4, g3, g2, g1]
theorem o_feed {σ : St} {a b c d e : Int32} (h0 : 0 ≤ (σ.1 1 1).toInt) (h1 : (σ.1 1 1).toInt ≤ 1580) : ok (fX7_feed σ a b c d e) (fun p => p.1.toInt = (σ.1 1 1).toInt + 20 ∧ (p.2.1 1 1).toInt = (σ.1 1 1).toInt + 20 ∧ (∀ k j, ¬ (k = 1 ∧ j = 1) → k ≠ 2 → p.2.1 k j = σ.1 k j) ∧ p.2.2 = σ.2) := by
  unfold fX7_feed
  refine ok_le (i_add rfl (n := 20) rfl (by omega) (by omega)) (n := 1600) rfl (fun _ => ?_) (fun h => absurd h (by omega))
  refine ok_bp (o_append h0 (by omega)) (fun τ1 ⟨e1, f1, g1⟩ => ?_)
  refine ok_bp (o_append (by omega) (by omega)) (fun τ2 ⟨e2, f2, g2⟩ => ?_)
  refine ok_bp (o_append (by omega) (by omega)) (fun τ3 ⟨e3, f3, g3⟩ => ?_)
  refine ok_bp (o_append (by omega) (by omega)) (fun τ4 ⟨e4, f4, g4⟩ => ?_)
  refine ok_bp (o_append (by omega) (by omega)) (fun τ5 ⟨e5, f5, g5⟩ => ?_)
  refine ok_some ⟨?_, ?_, fun k j hk hj => ?_, ?_⟩
  · show (τ5.1 1 1).toInt = _
    omega
  · show (τ5.1 1 1).toInt = _
    omega
  · show τ5.1 k j = _
    rw [f5 k j hk hj, f4 k j hk hj, f3 k j hk hj, f2 k j hk hj, f1 k j hk hj]
  · show τ5.2 = _
    rw [g5, g4, g3, g2, g1]
theorem o_feed_no {σ : St} {a b c d e : Int32} (h0 : 1580 < (σ.1 1 1).toInt) (h1 : (σ.1 1 1).toInt ≤ 1600) : fX7_feed σ a b c d e = some (-1, σ) := by
  unfold fX7_feed
  refine if_neg (fun h => ?_)
  have h := ile h
  rw [i_add (a := σ.1 1 1) rfl (n := 20) rfl (by omega) (by omega)] at h
  have h2 : (1600 : Int32).toInt = 1600 := rfl
  omega
theorem div4 : ∀ k, k < 20 → ir (Int32.ofNat k / 4) 5 := by decide +kernel
theorem o8_feed_l55 {σ0 : St} : ∀ (n : Nat) (σ : St) (x : Int32), 0 ≤ x.toInt → x.toInt ≤ 20 → (20 - x.toInt).toNat < n → 0 ≤ (σ.1 62 5).toInt → (σ.1 62 5).toInt ≤ 1580 → (∀ k j, k ≠ 66 → k ≠ 67 → σ.1 k j = σ0.1 k j) → σ.2 = σ0.2 → ok (fX8_feed_l55 n σ x) (fun p => p.1.toInt = (σ0.1 62 5).toInt + 20 ∧ (p.2.1 62 5).toInt = (σ0.1 62 5).toInt + 20 ∧ (∀ k j, ¬ (k = 62 ∧ j = 5) → k ≠ 66 → k ≠ 67 → p.2.1 k j = σ0.1 k j) ∧ p.2.2 = σ0.2) := by
  intro n
  induction n with
  | zero => intro σ x _ _ h; omega
  | succ n ih =>
    intro σ x hx0 hx1 hn h0 h1 hf hg
    show ok (fX8_feed_B55 (fX8_feed_l55 n) σ x) _
    unfold fX8_feed_B55
    have e5 : σ.1 62 5 = σ0.1 62 5 := hf 62 5 (by decide) (by decide)
    refine ok_le (m := 20) rfl rfl (fun h => ?_) (fun h => ?_)
    · refine ok_lv (fun σ1 e1 => ok_some ?_)
      have e2 : (σ1.1 62 5).toInt = (σ0.1 62 5).toInt + 20 := by
        rw [e1, setI_at, e5]
        rw [e5] at h0 h1
        exact i_add rfl rfl (by show _ ≤ _ + (20 : Int); omega) (by show _ + (20 : Int) < _; omega)
      refine ⟨e2, e2, fun k j hk h6 h7 => ?_, ?_⟩
      · show σ1.1 k j = _
        rw [e1, setI_eq hk, hf k j h6 h7]
      · show σ1.2 = _
        rw [e1]
        exact hg
    · obtain ⟨k, hk, ek⟩ := small (x := x) (n := 20) ⟨hx0, by omega⟩
      have e6 : (σ.1 62 5 + x).toInt = (σ.1 62 5).toInt + x.toInt := i_add rfl rfl (by omega) (by omega)
      refine ok_gd (by decide) (ok_gd (by rw [ek]; exact div4 k hk) (ok_gd (by decide) (ok_gd ⟨by omega, by rw [e6]; show _ < (1600 : Int); omega⟩ (ok_lv (fun σ2 e2 => ok_lt ?_)))))
      have e7 := inc (x := x) (by omega)
      refine ih σ2 (x + 1) (by omega) (by omega) (by omega) ?_ ?_ (fun k j h6 h7 => ?_) ?_
      · rw [e2, setI_eq (by omega)]; exact h0
      · rw [e2, setI_eq (by omega)]; exact h1
      · rw [e2, setI_eq (fun h => h6 h.1)]; exact hf k j h6 h7
      · rw [e2]; exact hg
theorem o8_feed {σ : St} {a b c d e : Int32} (h0 : 0 ≤ (σ.1 62 5).toInt) (h1 : (σ.1 62 5).toInt ≤ 1580) : ok (fX8_feed σ a b c d e) (fun p => p.1.toInt = (σ.1 62 5).toInt + 20 ∧ (p.2.1 62 5).toInt = (σ.1 62 5).toInt + 20 ∧ (∀ k j, ¬ (k = 62 ∧ j = 5) → k ≠ 66 → k ≠ 67 → p.2.1 k j = σ.1 k j) ∧ p.2.2 = σ.2) := by
  unfold fX8_feed
  refine ok_le (i_add rfl (n := 20) rfl (by omega) (by omega)) (n := 1600) rfl (fun _ => ?_) (fun h => absurd h (by omega))
  refine ok_gd (by decide) (ok_lv (fun σ1 e1 => ok_gd (by decide) (ok_lv (fun σ2 e2 => ok_gd (by decide) (ok_lv (fun σ3 e3 => ok_gd (by decide) (ok_lv (fun σ4 e4 => ok_gd (by decide) (ok_lv (fun σ5 e5 => ok_lt ?_))))))))))
  have hf : ∀ k j, k ≠ 66 → k ≠ 67 → σ5.1 k j = σ.1 k j := fun k j _ h7 => by
    rw [e5, setI_eq (fun h => h7 h.1), e4, setI_eq (fun h => h7 h.1), e3, setI_eq (fun h => h7 h.1), e2, setI_eq (fun h => h7 h.1), e1, setI_eq (fun h => h7 h.1)]
  have hg : σ5.2 = σ.2 := by rw [e5, e4, e3, e2, e1]; rfl
  exact o8_feed_l55 FU σ5 0 (by decide) (by decide) (by decide) (by rw [hf 62 5 (by decide) (by decide)]; exact h0) (by rw [hf 62 5 (by decide) (by decide)]; exact h1) hf hg
theorem o8_feed_no {σ : St} {a b c d e : Int32} (h0 : 1580 < (σ.1 62 5).toInt) (h1 : (σ.1 62 5).toInt ≤ 1600) : fX8_feed σ a b c d e = some (-1, σ) := by
  unfold fX8_feed
  refine if_neg (fun h => ?_)
  have h := ile h
  rw [i_add (a := σ.1 62 5) rfl (n := 20) rfl (by omega) (by omega)] at h
  have h2 : (1600 : Int32).toInt = 1600 := rfl
  omega
theorem l_in {a b c : Int64} : (b ≤ a ∧ a ≤ c ∧ fX8_in a b c = some 1) ∨ (¬ (b ≤ a ∧ a ≤ c) ∧ fX8_in a b c = some 0) := by
  unfold fX8_in
  by_cases h : lg_cmp a b < 0
  · right
    rw [if_pos h]
    refine ⟨fun q => ?_, rfl⟩
    have := (lg_cmp_lt a b).mp h
    rw [Int64.lt_iff_toInt_lt] at this
    have := q.1
    rw [Int64.le_iff_toInt_le] at this
    omega
  · rw [if_neg h]
    have h := mt (lg_cmp_lt a b).mpr h
    by_cases h' : 0 < lg_cmp a c
    · right
      rw [if_pos h']
      refine ⟨fun q => ?_, rfl⟩
      have := (lg_cmp_gt a c).mp h'
      rw [Int64.lt_iff_toInt_lt] at this
      have := q.2
      rw [Int64.le_iff_toInt_le] at this
      omega
    · left
      rw [if_neg h']
      have h' := mt (lg_cmp_gt a c).mpr h'
      rw [Int64.lt_iff_toInt_lt] at h h'
      refine ⟨?_, ?_, rfl⟩ <;> rw [Int64.le_iff_toInt_le] <;> omega
/-- a number between two -/
theorem o8_in {a b c : Int64} {u v w : Int} (ha : a.toInt = u) (hb : b.toInt = v) (hc : c.toInt = w) : (v ≤ u ∧ u ≤ w ∧ fX8_in a b c = some 1) ∨ (¬ (v ≤ u ∧ u ≤ w) ∧ fX8_in a b c = some 0) := by
  subst ha; subst hb; subst hc
  have h := @l_in a b c
  rwa [Int64.le_iff_toInt_le, Int64.le_iff_toInt_le] at h
theorem o8_isSlot (a : Int32) : (ir a 4 ∧ fX8_isSlot a = some 1) ∨ (¬ ir a 4 ∧ fX8_isSlot a = some 0) := by
  unfold fX8_isSlot
  rcases o8_in (a := a.toInt64) (b := 0) (c := 3) (Int32.toInt_toInt64 a) (v := 0) rfl (w := 3) rfl with ⟨h1, h2, e⟩ | ⟨h, e⟩
  · left
    rw [e]
    exact ⟨⟨h1, by omega⟩, rfl⟩
  · right
    rw [e]
    exact ⟨fun q => h ⟨q.1, by have := q.2; omega⟩, rfl⟩
theorem o_isSlot (a : Int32) : (ir a 4 ∧ fX7_isSlot a = some 1) ∨ (¬ ir a 4 ∧ fX7_isSlot a = some 0) := by
  unfold fX7_isSlot
  by_cases h : a < 0
  · right
    rw [if_pos h]
    refine ⟨fun q => ?_, rfl⟩
    have := ilt h
    have := q.1
    have e : (0 : Int32).toInt = 0 := rfl
    omega
  · rw [if_neg h]
    have h := nlt h
    have e : (0 : Int32).toInt = 0 := rfl
    have e4 : (4 : Int32).toInt = 4 := rfl
    by_cases h' : 4 ≤ a
    · right
      rw [if_pos h']
      refine ⟨fun q => ?_, rfl⟩
      have := ile h'
      have := q.2
      omega
    · left
      rw [if_neg h']
      have h' := nle h'
      exact ⟨⟨by omega, by omega⟩, rfl⟩
theorem bp_s {α β : Type} {a : α} {k : α → Option β} : bp (some a) k = k a := rfl
theorem bs_s {α β : Type} {a : α} {s : St} {k : α → St → Option β} : bs (some (a, s)) k = k a s := rfl
theorem gd_t {β : Type} {c : Prop} {d : Decidable c} {x : Option β} (h : c) : @gd β c d x = x := if_pos h
theorem l_end (σ : St) (a : Int32) : (0 ≤ a.toInt ∧ a.toInt ≤ (σ.1 1 1).toInt ∧ fX7_end σ a = some (a, setI σ 1 1 a)) ∨ (¬ (0 ≤ a.toInt ∧ a.toInt ≤ (σ.1 1 1).toInt) ∧ fX7_end σ a = some (-1, σ)) := by
  unfold fX7_end
  have e : (0 : Int32).toInt = 0 := rfl
  by_cases h : a < 0
  · right
    rw [if_pos h]
    have := ilt h
    exact ⟨by omega, rfl⟩
  · rw [if_neg h]
    have h := nlt h
    by_cases h' : a ≤ σ.1 1 1
    · left
      rw [if_pos h']
      have := ile h'
      exact ⟨by omega, by omega, rfl⟩
    · right
      rw [if_neg h']
      have := nle h'
      exact ⟨by omega, rfl⟩
theorem l8_end (σ : St) (a : Int32) : (0 ≤ a.toInt ∧ a.toInt ≤ (σ.1 62 5).toInt ∧ fX8_end σ a = some (a, setI σ 62 5 a)) ∨ (¬ (0 ≤ a.toInt ∧ a.toInt ≤ (σ.1 62 5).toInt) ∧ fX8_end σ a = some (-1, σ)) := by
  unfold fX8_end
  rcases o8_in (a := a.toInt64) (b := 0) (c := (σ.1 62 5).toInt64) (Int32.toInt_toInt64 a) (v := 0) rfl (Int32.toInt_toInt64 _) with ⟨h1, h2, e⟩ | ⟨h, e⟩
  · left
    rw [e, bp_s]
    exact ⟨h1, h2, rfl⟩
  · right
    rw [e, bp_s]
    exact ⟨h, rfl⟩
theorem o_cut (σ : St) (w : Nat) (v : Int64) : ∃ r, fX4_cut σ w v = some r := by
  unfold fX4_cut
  split
  · exact ⟨_, rfl⟩
  · split
    · exact ⟨_, rfl⟩
    · split
      · exact ⟨_, rfl⟩
      · exact ⟨_, rfl⟩
theorem o_begin_l17 {w : Nat} {σ0 : St} : ∀ (n : Nat) (σ : St) (x : Int32), 0 ≤ x.toInt → (60 - x.toInt).toNat < n → σ.1 = σ0.1 → (∀ k j, k ≠ w + 1 → σ.2 k j = σ0.2 k j) → ok (fX4_begin_l17 w n σ x) (fun τ => τ.1 = σ0.1 ∧ (∀ k j, k ≠ w + 1 → τ.2 k j = σ0.2 k j)) := by
  intro n
  induction n with
  | zero => intro σ x _ h; omega
  | succ n ih =>
    intro σ x hx hn hf hg
    show ok (fX4_begin_B17 w (fX4_begin_l17 w n) σ x) _
    unfold fX4_begin_B17
    refine ok_le (m := 60) rfl rfl (fun h => ok_some ⟨hf, hg⟩) (fun h => ?_)
    have e7 := inc (x := x) (by omega)
    refine ok_gd ⟨hx, by show _ < (60 : Int); omega⟩ (ok_lv (fun σ1 e1 => ok_lt (ih σ1 _ (by omega) (by omega) ?_ (fun k j hk => ?_))))
    · rw [e1]; exact hf
    · rw [e1, setL_eq (fun h => hk h.1)]; exact hg k j hk
theorem o_begin {w : Nat} {σ : St} {a n : Int32} : ok (fX4_begin σ w a n) (fun τ => τ.1 w 0 = 1 ∧ τ.1 w 1 = a ∧ τ.1 w 2 = n ∧ (∀ k j, k ≠ w → τ.1 k j = σ.1 k j) ∧ (∀ k j, k ≠ w + 1 → τ.2 k j = σ.2 k j)) := by
  unfold fX4_begin
  refine ok_gd (by decide) (ok_lv (fun σ1 e1 => ok_lv (fun σ2 e2 => ok_lv (fun σ3 e3 => ok_lt ?_))))
  refine ok_mono (o_begin_l17 (σ0 := σ3) FU σ3 0 (by decide) (by decide) rfl (fun _ _ _ => rfl)) (fun τ ⟨h1, h2⟩ => ?_)
  have g : σ3.2 = σ.2 := by rw [e3, e2, e1]; rfl
  refine ⟨?_, ?_, ?_, fun k j hk => ?_, fun k j hk => ?_⟩
  · rw [h1, e3, setI_eq (by omega), e2, setI_eq (by omega), e1, setI_at]
  · rw [h1, e3, setI_eq (by omega), e2, setI_at]
  · rw [h1, e3, setI_at]
  · rw [h1, e3, setI_eq (fun h => hk h.1), e2, setI_eq (fun h => hk h.1), e1, setI_eq (fun h => hk h.1)]
  · rw [h2 k j hk, g]
theorem o8_row_l52 {σ0 : St} {a : Int32} (ha : ir a 4) : ∀ (n : Nat) (σ : St) (x : Int32), 0 ≤ x.toInt → (60 - x.toInt).toNat < n → σ.1 = σ0.1 → (∀ k j, k ≠ 80 → σ.2 k j = σ0.2 k j) → ok (fX8_row_l52 n σ a x) (fun p => p.1 = 0 ∧ p.2.1 = σ0.1 ∧ (∀ k j, k ≠ 80 → p.2.2 k j = σ0.2 k j)) := by
  intro n
  induction n with
  | zero => intro σ x _ h; omega
  | succ n ih =>
    intro σ x hx hn hf hg
    show ok (fX8_row_B52 (fX8_row_l52 n) σ a x) _
    unfold fX8_row_B52
    refine ok_le (m := 60) rfl rfl (fun h => ok_some ⟨rfl, hf, hg⟩) (fun h => ?_)
    have e7 := inc (x := x) (by omega)
    have ha1 := ha.1
    have ha2 := ha.2
    have e8 : (60 * a).toInt = 60 * a.toInt := i_mul (m := 60) rfl rfl (by omega) (by omega)
    have e9 : (60 * a + x).toInt = 60 * a.toInt + x.toInt := i_add e8 rfl (by omega) (by omega)
    refine ok_gd ⟨by omega, by rw [e9]; show _ < (240 : Int); omega⟩ (ok_lv (fun σ1 e1 => ok_lt (ih σ1 _ (by omega) (by omega) ?_ (fun k j hk => ?_))))
    · rw [e1]; exact hf
    · rw [e1, setL_eq (fun h => hk h.1)]; exact hg k j hk
def INV (σ : St) : Prop := XI σ ∧ MI σ ∧ REL σ
theorem REL.of {σ τ : St} (e : ∀ k j, 3 ≤ k → k ≤ 48 → τ.1 k j = σ.1 k j) (e1 : ∀ j, τ.1 65 j = σ.1 65 j) (e2 : ∀ j, τ.1 78 j = σ.1 78 j) (e3 : ∀ j, τ.1 79 j = σ.1 79 j) (hl : τ.1 1 1 = τ.1 62 5) (q : REL σ) : REL τ := by
  obtain ⟨-, q2, q3⟩ := q
  refine ⟨hl, fun k hk => ?_, fun s hs => ?_⟩
  · rw [e 18 k (by omega) (by omega), e1]; exact q2 k hk
  · have h1 : 3 ≤ rowp s := by simp only [rowp]; omega
    have h2 : rowp s ≤ 48 := by simp only [rowp]; omega
    rw [e _ 0 h1 h2, e _ 1 h1 h2, e _ 2 h1 h2, e2, e3]
    exact q3 s hs
theorem INV.tape {σ τ : St} (h : INV σ) (e : ∀ k j, cor k j = true → ¬ (k = 1 ∧ j = 1) → ¬ (k = 62 ∧ j = 5) → τ.1 k j = σ.1 k j) (hl : τ.1 1 1 = τ.1 62 5) (hb : 0 ≤ (τ.1 1 1).toInt ∧ (τ.1 1 1).toInt ≤ 1600) : INV τ := by
  have e0 : ∀ k j, 3 ≤ k → k ≤ 48 → τ.1 k j = σ.1 k j := fun k j h1 h2 => e k j (by simp [cor, h1, h2]) (by omega) (by omega)
  have eK : ∀ k j, k = 63 ∨ k = 64 ∨ k = 65 ∨ k = 78 ∨ k = 79 → τ.1 k j = σ.1 k j := fun k j hk => e k j (by rcases hk with rfl | rfl | rfl | rfl | rfl <;> rfl) (by omega) (by omega)
  refine ⟨h.1.of e0 hb, h.2.1.of (fun j => eK 63 j (by omega)) (fun j => eK 64 j (by omega)) (fun s hs => ?_) (by rw [← hl]; exact hb), h.2.2.of e0 (fun j => eK 65 j (by omega)) (fun j => eK 78 j (by omega)) (fun j => eK 79 j (by omega)) hl⟩
  rw [eK 78 s (by omega)]
  exact h.2.1.2.2.2 s hs
theorem INV.congr {σ τ : St} (h : INV σ) (e : τ.1 = σ.1) : INV τ := by
  refine h.tape (fun k j _ _ _ => by rw [e]) ?_ ?_
  · rw [e]; exact h.2.2.1
  · rw [e]; exact h.1.1
theorem t_feed {σ : St} (h : INV σ) (a b c d e : Int32) : ∃ r σ1 σ2, fX7_feed σ a b c d e = some (r, σ1) ∧ fX8_feed σ1 a b c d e = some (r, σ2) ∧ INV σ2 := by
  have hl := h.2.2.1
  have hb := h.1.1
  by_cases hc : (σ.1 1 1).toInt ≤ 1580
  · obtain ⟨⟨r, τ⟩, e1, r1, l1, f1, g1⟩ := o_feed (a := a) (b := b) (c := c) (d := d) (e := e) hb.1 hc
    have ht : τ.1 62 5 = σ.1 1 1 := (f1 62 5 (by omega) (by omega)).trans hl.symm
    obtain ⟨⟨r', υ⟩, e2, r2, l2, f2, g2⟩ := o8_feed (σ := τ) (a := a) (b := b) (c := c) (d := d) (e := e) (by rw [ht]; exact hb.1) (by rw [ht]; exact hc)
    have r1 : r.toInt = _ := r1
    have r2 : r'.toInt = _ := r2
    have l1 : (τ.1 1 1).toInt = _ := l1
    have l2 : (υ.1 62 5).toInt = _ := l2
    have hr : r' = r := Int32.toInt_inj.mp (by rw [r2, r1, ht])
    subst hr
    have l3 : υ.1 1 1 = τ.1 1 1 := f2 1 1 (by omega) (by omega) (by omega)
    refine ⟨r', τ, υ, e1, e2, h.tape (fun k j hk h1 h2 => ?_) ?_ ?_⟩
    · rw [show υ.1 k j = τ.1 k j from f2 k j h2 (by rintro rfl; cases hk) (by rintro rfl; cases hk)]
      refine f1 k j h1 ?_
      rintro rfl
      cases hk
    · rw [l3]
      exact Int32.toInt_inj.mp (by rw [l1, l2, ht])
    · rw [l3, l1]
      omega
  · have hc : 1580 < (σ.1 1 1).toInt := by omega
    exact ⟨-1, σ, σ, o_feed_no hc hb.2, o8_feed_no (by rw [← hl]; exact hc) (by rw [← hl]; exact hb.2), h⟩
theorem t_end {σ : St} (h : INV σ) (a : Int32) : ∃ r σ1 σ2, fX7_end σ a = some (r, σ1) ∧ fX8_end σ1 a = some (r, σ2) ∧ INV σ2 := by
  have hl := h.2.2.1
  have hb := h.1.1
  rcases l_end σ a with ⟨h1, h2, e1⟩ | ⟨h1, e1⟩
  · have ht : (setI σ 1 1 a).1 62 5 = σ.1 62 5 := setI_eq (by omega)
    rcases l8_end (setI σ 1 1 a) a with ⟨-, -, e2⟩ | ⟨h3, e2⟩
    · refine ⟨_, _, _, e1, e2, h.tape (fun k j _ h4 h5 => ?_) ?_ ?_⟩
      · rw [setI_eq h5, setI_eq h4]
      · rw [setI_at, setI_eq (by omega), setI_at]
      · rw [setI_eq (by omega), setI_at]
        omega
    · rw [ht, ← hl] at h3
      exact absurd ⟨h1, h2⟩ h3
  · rcases l8_end σ a with ⟨h3, h4, e2⟩ | ⟨h3, e2⟩
    · rw [← hl] at h4
      exact absurd ⟨h3, h4⟩ h1
    · exact ⟨_, _, _, e1, e2, h⟩
theorem t_row {σ : St} (h : INV σ) (a w n : Int32) : ∃ r σ1 σ2, fX7_row σ a w n = some (r, σ1) ∧ fX8_row σ1 a w n = some (r, σ2) ∧ INV σ2 := by
  have z0 : (0 : Int32).toInt = 0 := rfl
  have z3 : (3 : Int32).toInt = 3 := rfl
  have z60 : (60 : Int32).toInt = 60 := rfl
  have refu : ∀ (σ1 : St), ¬ ir a 4 ∨ ¬ (0 ≤ w.toInt ∧ w.toInt ≤ 3) ∨ 60 < n.toInt → fX7_row σ1 a w n = some (-2, σ1) ∧ fX8_row σ1 a w n = some (-2, σ1) := fun σ1 hq => by
    constructor
    · unfold fX7_row
      rcases o_isSlot a with ⟨h1, e⟩ | ⟨h1, e⟩
      · rw [e, bp_s, if_neg (by decide)]
        by_cases hw : w < 0
        · rw [if_pos hw]
        · rw [if_neg hw]
          have := nlt hw
          by_cases hw3 : 3 < w
          · rw [if_pos hw3]
          · rw [if_neg hw3]
            have := nlt hw3
            rw [if_neg (fun hn => ?_)]
            have := ile hn
            rcases hq with hq | hq | hq
            · exact hq h1
            · omega
            · omega
      · rw [e, bp_s, if_pos rfl]
    · unfold fX8_row
      rcases o8_isSlot a with ⟨h1, e⟩ | ⟨h1, e⟩
      · rw [e, bp_s, if_neg (by decide)]
        rcases o8_in (a := w.toInt64) (b := 0) (c := 3) (Int32.toInt_toInt64 w) (v := 0) rfl (w := 3) rfl with ⟨h2, h3, e2⟩ | ⟨h2, e2⟩
        · rw [e2, bp_s, if_neg (by decide), if_neg (fun hn => ?_)]
          have := ile hn
          rcases hq with hq | hq | hq
          · exact hq h1
          · omega
          · omega
        · rw [e2, bp_s, if_pos rfl]
      · rw [e, bp_s, if_pos rfl]
  by_cases hq : ¬ ir a 4 ∨ ¬ (0 ≤ w.toInt ∧ w.toInt ≤ 3) ∨ 60 < n.toInt
  · exact ⟨_, _, _, (refu σ hq).1, (refu σ hq).2, h⟩
  have ha : ir a 4 := Classical.not_not.mp (fun q => hq (Or.inl q))
  have hw : 0 ≤ w.toInt ∧ w.toInt ≤ 3 := Classical.not_not.mp (fun q => hq (Or.inr (Or.inl q)))
  have hn : n.toInt ≤ 60 := by
    refine Classical.not_not.mp (fun q => hq (Or.inr (Or.inr ?_)))
    omega
  have ex : ∀ σ1, fX7_row σ1 a w n = if 0 ≤ n then gd (ir a 4) (lt (rowp a.toNatClampNeg) (fun k2 => bp (fX4_begin σ1 k2 w n) (fun σ3 => some ((0 : Int32), σ3)))) else some (-3, σ1) := fun σ1 => by
    unfold fX7_row
    rcases o_isSlot a with ⟨h1, e⟩ | ⟨h1, e⟩
    · rw [e, bp_s, if_neg (by decide), if_neg (fun q => by have := ilt q; omega), if_neg (fun q => by have := ilt q; omega), if_pos (Int32.le_iff_toInt_le.mpr (by omega))]
    · exact absurd ha h1
  have em : ∀ σ1, fX8_row σ1 a w n = if 0 ≤ n then gd (ir a 4) (lt (setI σ1 78 a.toNatClampNeg n) (fun σ5 => gd (ir a 4) (lt (setI σ5 79 a.toNatClampNeg w) (fun σ6 => lt (0 : Int32) (fun v7 => fX8_row_l52 FU σ6 a v7))))) else some (-3, σ1) := fun σ1 => by
    unfold fX8_row
    rcases o8_isSlot a with ⟨h1, e⟩ | ⟨h1, e⟩
    · rw [e, bp_s, if_neg (by decide)]
      rcases o8_in (a := w.toInt64) (b := 0) (c := 3) (Int32.toInt_toInt64 w) (v := 0) rfl (w := 3) rfl with ⟨h2, h3, e2⟩ | ⟨h2, e2⟩
      · rw [e2, bp_s, if_neg (by decide), if_pos (Int32.le_iff_toInt_le.mpr (by omega))]
      · exact absurd hw h2
    · exact absurd ha h1
  by_cases h0 : 0 ≤ n
  · have hn0 := ile h0
    obtain ⟨τ, e1, w0, w1, w2, f1, g1⟩ := o_begin (w := rowp a.toNatClampNeg) (σ := σ) (a := w) (n := n)
    have E1 : fX7_row σ a w n = some (0, τ) := by
      rw [ex, if_pos h0, gd_t ha]
      simp only [lt, e1, bp_s]
    obtain ⟨⟨r, υ⟩, e2, rr, ff, gg⟩ := o8_row_l52 (σ0 := setI (setI τ 78 a.toNatClampNeg n) 79 a.toNatClampNeg w) ha FU (setI (setI τ 78 a.toNatClampNeg n) 79 a.toNatClampNeg w) 0 (by decide) (by decide) rfl (fun _ _ _ => rfl)
    have E2 : fX8_row τ a w n = some (r, υ) := by
      rw [em, if_pos h0, gd_t ha]
      show gd (ir a 4) (fX8_row_l52 FU (setI (setI τ 78 a.toNatClampNeg n) 79 a.toNatClampNeg w) a 0) = _
      rw [gd_t ha]
      exact e2
    have rr : r = 0 := rr
    subst rr
    have ff : υ.1 = _ := ff
    have hs := slot_lt ha
    have V : ∀ k j, ¬ (k = 78 ∧ j = a.toNatClampNeg) → ¬ (k = 79 ∧ j = a.toNatClampNeg) → k ≠ rowp a.toNatClampNeg → υ.1 k j = σ.1 k j := fun k j h1 h2 h3 => by
      rw [ff, setI_eq h2, setI_eq h1, f1 k j h3]
    have hrp : 41 ≤ rowp a.toNatClampNeg ∧ rowp a.toNatClampNeg ≤ 47 := by simp only [rowp]; omega
    refine ⟨0, τ, υ, E1, E2, ?_, ?_, ?_⟩
    · obtain ⟨q1, q2, q3, q4, q5⟩ := h.1
      refine ⟨?_, q2.of (fun k h1 h2 j => V k j (by omega) (by omega) (by omega)), ⟨fun j => ?_, fun j => ?_⟩, fun i hi => (q4 i hi).of (fun k h1 h2 j => ?_), fun s hs' => ?_⟩
      · rw [V 1 1 (by omega) (by omega) (by omega)]; exact q1
      · rw [V (10 + 3) j (by omega) (by omega) (by omega)]; exact q3.1 j
      · rw [V (10 + 6) j (by omega) (by omega) (by omega)]; exact q3.2 j
      · simp only [imgp] at h1 h2
        exact V k j (by omega) (by omega) (by omega)
      · unfold RV
        by_cases es : s = a.toNatClampNeg
        · have : υ.1 (rowp s) 2 = n := by
            rw [es, ff, setI_eq (by omega), setI_eq (by omega), w2]
          rw [this]
          omega
        · rw [V (rowp s) 2 (by simp only [rowp]; omega) (by simp only [rowp]; omega) (by simp only [rowp]; omega)]
          exact q5 s hs'
    · refine h.2.1.of (fun j => V 63 j (by omega) (by omega) (by omega)) (fun j => V 64 j (by omega) (by omega) (by omega)) (fun s hs' => ?_) (by rw [V 62 5 (by omega) (by omega) (by omega)]; exact h.2.1.1)
      by_cases es : s = a.toNatClampNeg
      · have : υ.1 78 s = n := by
          rw [es, ff, setI_eq (by omega), setI_at]
        rw [this]
        omega
      · rw [V 78 s (by omega) (by omega) (by omega)]
        exact h.2.1.2.2.2 s hs'
    · obtain ⟨q1, q2, q3⟩ := h.2.2
      refine ⟨?_, fun k hk => ?_, fun s hs' => ?_⟩
      · rw [V 1 1 (by omega) (by omega) (by omega), V 62 5 (by omega) (by omega) (by omega)]; exact q1
      · rw [V 18 k (by omega) (by omega) (by omega), V 65 k (by omega) (by omega) (by omega)]; exact q2 k hk
      · by_cases es : s = a.toNatClampNeg
        · have x0 : υ.1 (rowp s) 0 = 1 := by rw [es, ff, setI_eq (by omega), setI_eq (by omega), w0]
          have x1 : υ.1 (rowp s) 1 = w := by rw [es, ff, setI_eq (by omega), setI_eq (by omega), w1]
          have x2 : υ.1 (rowp s) 2 = n := by rw [es, ff, setI_eq (by omega), setI_eq (by omega), w2]
          have y1 : υ.1 78 s = n := by rw [es, ff, setI_eq (by omega), setI_at]
          have y2 : υ.1 79 s = w := by rw [es, ff, setI_at]
          rw [x0, x1, x2, y1, y2]
          refine ⟨⟨fun q => absurd q (by decide), fun q => ?_⟩, fun _ => ⟨rfl, rfl⟩⟩
          subst q
          have : (-1 : Int32).toInt = -1 := rfl
          omega
        · have hr2 : rowp s ≠ rowp a.toNatClampNeg := by simp only [rowp]; omega
          have hr3 : rowp s ≠ 78 ∧ rowp s ≠ 79 := by simp only [rowp]; omega
          rw [V (rowp s) 0 (by omega) (by omega) hr2, V (rowp s) 1 (by omega) (by omega) hr2, V (rowp s) 2 (by omega) (by omega) hr2, V 78 s (by omega) (by omega) (by omega), V 79 s (by omega) (by omega) (by omega)]
          exact q3 s hs'
  · have E1 : fX7_row σ a w n = some (-3, σ) := by rw [ex, if_neg h0]
    have E2 : fX8_row σ a w n = some (-3, σ) := by rw [em, if_neg h0]
    exact ⟨_, _, _, E1, E2, h⟩
theorem o8_cut (v : Int64) (w : Int32) : ∃ r, fX8_cut v w = some r := ⟨_, rfl⟩
theorem t_write {σ : St} (h : INV σ) (a i : Int32) (v : Int64) : ∃ r σ1 σ2, fX7_write σ a i v = some (r, σ1) ∧ fX8_write σ1 a i v = some (r, σ2) ∧ INV σ2 := by
  have z0 : (0 : Int32).toInt = 0 := rfl
  unfold fX7_write fX8_write
  rcases o_isSlot a with ⟨ha, e⟩ | ⟨ha, e⟩
  · rcases o8_isSlot a with ⟨_, e'⟩ | ⟨h1, _⟩
    · have hs := slot_lt ha
      obtain ⟨q1, q2⟩ := h.2.2.2.2 _ hs
      have hR := h.1.2.2.2.2 _ hs
      unfold RV at hR
      simp only [e, e', bp_s, gd_t ha, lt, if_neg i10]
      by_cases hz : σ.1 (rowp a.toNatClampNeg) 0 = 0
      · rw [if_pos hz]
        refine ⟨_, _, _, rfl, ?_, h⟩
        rw [if_pos (q1.mp hz)]
      · rw [if_neg hz]
        obtain ⟨q3, q4⟩ := q2 hz
        have hm : ¬ σ.1 78 a.toNatClampNeg = -1 := fun q => hz (q1.mpr q)
        by_cases hi : i < 0
        · rw [if_pos hi]
          refine ⟨_, _, _, rfl, ?_, h⟩
          rw [if_neg hm]
          have := ilt hi
          rcases o8_in (a := i.toInt64) (b := 0) (c := (σ.1 78 a.toNatClampNeg - 1).toInt64) (Int32.toInt_toInt64 i) (v := 0) rfl (Int32.toInt_toInt64 _) with ⟨h2, h3, e2⟩ | ⟨h2, e2⟩
          · omega
          · rw [e2, bp_s, if_pos rfl]
        · rw [if_neg hi]
          have hi0 := nlt hi
          have hd : (σ.1 78 a.toNatClampNeg - 1).toInt = (σ.1 78 a.toNatClampNeg).toInt - 1 := dec1 (by rw [← q3]; omega)
          by_cases hin : i < σ.1 (rowp a.toNatClampNeg) 2
          · have hin' := ilt hin
            obtain ⟨r, er⟩ := o_cut σ (rowp a.toNatClampNeg) v
            have hi60 : ir i 60 := ⟨by omega, by show _ < (60 : Int); omega⟩
            rw [if_pos hin, er, bp_s, gd_t hi60]
            obtain ⟨r8, e8⟩ := o8_cut v (σ.1 79 a.toNatClampNeg)
            refine ⟨0, setL σ (rowp a.toNatClampNeg + 1) i.toNatClampNeg r, setL (setL σ (rowp a.toNatClampNeg + 1) i.toNatClampNeg r) 80 (60 * a + i).toNatClampNeg r8, rfl, ?_, h.congr rfl⟩
            have ef : (setL σ (rowp a.toNatClampNeg + 1) i.toNatClampNeg r).1 = σ.1 := rfl
            rw [ef, if_neg hm]
            rcases o8_in (a := i.toInt64) (b := 0) (c := (σ.1 78 a.toNatClampNeg - 1).toInt64) (Int32.toInt_toInt64 i) (v := 0) rfl (Int32.toInt_toInt64 _) with ⟨h2, h3, e2⟩ | ⟨h2, e2⟩
            · have ha1 := ha.1
              have ha2 := ha.2
              have m1 : (60 * a).toInt = 60 * a.toInt := i_mul (m := 60) rfl rfl (by omega) (by omega)
              have m2 : (60 * a + i).toInt = 60 * a.toInt + i.toInt := i_add m1 rfl (by omega) (by omega)
              have hix : ir (60 * a + i) 240 := ⟨by omega, by rw [m2]; show _ < (240 : Int); omega⟩
              rw [e2, bp_s, if_neg i10, e8, bp_s, gd_t hix]
            · rw [hd] at h2
              rw [← q3] at h2
              omega
          · rw [if_neg hin]
            have hin' := nlt hin
            refine ⟨_, _, _, rfl, ?_, h⟩
            rw [if_neg hm]
            rcases o8_in (a := i.toInt64) (b := 0) (c := (σ.1 78 a.toNatClampNeg - 1).toInt64) (Int32.toInt_toInt64 i) (v := 0) rfl (Int32.toInt_toInt64 _) with ⟨h2, h3, e2⟩ | ⟨h2, e2⟩
            · rw [hd] at h3
              rw [← q3] at h3
              omega
            · rw [e2, bp_s, if_pos rfl]
    · exact absurd ha h1
  · rcases o8_isSlot a with ⟨h1, _⟩ | ⟨_, e'⟩
    · exact absurd h1 ha
    · refine ⟨-2, σ, σ, ?_, ?_, h⟩
      · rw [e, bp_s, if_pos rfl]
      · rw [e', bp_s, if_pos rfl]
theorem l_add64 (a b : Int32) : (a.toInt64 + b.toInt64).toInt = a.toInt + b.toInt := by
  have h1 := Int32.le_toInt a
  have h2 := Int32.toInt_lt a
  have h3 := Int32.le_toInt b
  have h4 := Int32.toInt_lt b
  rw [Int64.toInt_add, Int32.toInt_toInt64, Int32.toInt_toInt64, Int.bmod_eq_of_le (by omega) (by omega)]
theorem o8_paste_l150 {f : Nat → Nat → Int32} {a i n : Int32} (ha : ir a 4) (hi : 0 ≤ i.toInt) (hn : i.toInt + n.toInt ≤ 60) : ∀ (m : Nat) (σ : St) (x : Int32), 0 ≤ x.toInt → (n.toInt - x.toInt).toNat < m → σ.1 = f → ok (fX8_paste_l150 m σ a i n x) (fun p => p.1 = 0 ∧ p.2.1 = f) := by
  intro m
  induction m with
  | zero => intro σ x _ h; omega
  | succ m ih =>
    intro σ x hx hm hf
    show ok (fX8_paste_B150 (fX8_paste_l150 m) σ a i n x) _
    unfold fX8_paste_B150
    refine ok_le rfl rfl (fun h => ok_some ⟨rfl, hf⟩) (fun h => ?_)
    have e7 := incB (x := x) (b := n) h
    have ha1 := ha.1
    have ha2 := ha.2
    have m1 : (60 * a).toInt = 60 * a.toInt := i_mul (m := 60) rfl rfl (by omega) (by omega)
    have m2 : (60 * a + i).toInt = 60 * a.toInt + i.toInt := i_add m1 rfl (by omega) (by omega)
    have m3 : (60 * a + i + x).toInt = 60 * a.toInt + i.toInt + x.toInt := i_add m2 rfl (by omega) (by omega)
    refine ok_gd ⟨hx, by show _ < (60 : Int); omega⟩ (ok_gd ⟨by omega, by rw [m3]; show _ < (240 : Int); omega⟩ (ok_lv (fun σ1 e1 => ok_lt (ih σ1 _ (by omega) (by omega) ?_))))
    rw [e1]
    exact hf
theorem o8_paste_l113 {f : Nat → Nat → Int32} {a i b k n : Int32} (ha : ir a 4) (hb : ir b 4) (hi : 0 ≤ i.toInt) (hk : 0 ≤ k.toInt) (hn : i.toInt + n.toInt ≤ 60) (hn' : k.toInt + n.toInt ≤ 60) : ∀ (m : Nat) (σ : St) (x : Int32), 0 ≤ x.toInt → (n.toInt - x.toInt).toNat < m → σ.1 = f → ok (fX8_paste_l113 m σ a i b k n x) (fun p => p.1 = 0 ∧ p.2.1 = f) := by
  intro m
  induction m with
  | zero => intro σ x _ h; omega
  | succ m ih =>
    intro σ x hx hm hf
    show ok (fX8_paste_B113 (fX8_paste_l113 m) σ a i b k n x) _
    unfold fX8_paste_B113
    have z0 : (0 : Int32).toInt = 0 := rfl
    refine ok_le rfl rfl (fun h => ok_lt (o8_paste_l150 hb hk hn' FU σ 0 (by decide) (by unfold FU; omega) hf)) (fun h => ?_)
    have e7 := incB (x := x) (b := n) h
    have ha1 := ha.1
    have ha2 := ha.2
    have m1 : (60 * a).toInt = 60 * a.toInt := i_mul (m := 60) rfl rfl (by omega) (by omega)
    have m2 : (60 * a + i).toInt = 60 * a.toInt + i.toInt := i_add m1 rfl (by omega) (by omega)
    have m3 : (60 * a + i + x).toInt = 60 * a.toInt + i.toInt + x.toInt := i_add m2 rfl (by omega) (by omega)
    refine ok_gd ⟨by omega, by rw [m3]; show _ < (240 : Int); omega⟩ (ok_gd ⟨hx, by show _ < (60 : Int); omega⟩ (ok_lv (fun σ1 e1 => ok_lt (ih σ1 _ (by omega) (by omega) ?_))))
    rw [e1]
    exact hf
theorem t_paste {σ : St} (h : INV σ) (a i b k n : Int32) : ∃ r σ1 σ2, fX7_paste σ a i b k n = some (r, σ1) ∧ fX8_paste σ1 a i b k n = some (r, σ2) ∧ INV σ2 := by
  have z0 : (0 : Int32).toInt = 0 := rfl
  unfold fX7_paste fX8_paste
  rcases o_isSlot a with ⟨ha, e⟩ | ⟨ha, e⟩
  · rcases o8_isSlot a with ⟨_, e'⟩ | ⟨h1, _⟩
    · rcases o_isSlot b with ⟨hb, f⟩ | ⟨hb, f⟩
      · rcases o8_isSlot b with ⟨_, f'⟩ | ⟨h1, _⟩
        · have hs := slot_lt ha
          have hs' := slot_lt hb
          obtain ⟨q1, q2⟩ := h.2.2.2.2 _ hs
          obtain ⟨p1, p2⟩ := h.2.2.2.2 _ hs'
          have hR := h.1.2.2.2.2 _ hs
          have hR' := h.1.2.2.2.2 _ hs'
          unfold RV at hR hR'
          simp only [e, e', f, f', bp_s, gd_t ha, gd_t hb, lt, if_neg i10]
          by_cases hz : σ.1 (rowp a.toNatClampNeg) 0 = 0
          · rw [if_pos hz]
            refine ⟨_, _, _, rfl, ?_, h⟩
            rw [if_pos (q1.mp hz)]
          rw [if_neg hz]
          have hm : ¬ σ.1 78 a.toNatClampNeg = -1 := fun q => hz (q1.mpr q)
          by_cases hz' : σ.1 (rowp b.toNatClampNeg) 0 = 0
          · rw [if_pos hz']
            refine ⟨_, _, _, rfl, ?_, h⟩
            rw [if_neg hm, if_pos (p1.mp hz')]
          rw [if_neg hz']
          have hm' : ¬ σ.1 78 b.toNatClampNeg = -1 := fun q => hz' (p1.mpr q)
          obtain ⟨q3, q4⟩ := q2 hz
          obtain ⟨p3, p4⟩ := p2 hz'
          by_cases hw : σ.1 (rowp a.toNatClampNeg) 1 = σ.1 (rowp b.toNatClampNeg) 1
          · rw [if_pos hw]
            have hw' : σ.1 79 a.toNatClampNeg = σ.1 79 b.toNatClampNeg := by rw [← q4, ← p4, hw]
            by_cases hi : i < 0
            · rw [if_pos hi]
              refine ⟨_, _, _, rfl, ?_, h⟩
              rw [if_neg hm, if_neg hm', if_pos hw', if_pos hi]
            rw [if_neg hi]
            by_cases hk : k < 0
            · rw [if_pos hk]
              refine ⟨_, _, _, rfl, ?_, h⟩
              rw [if_neg hm, if_neg hm', if_pos hw', if_neg hi, if_pos hk]
            rw [if_neg hk]
            by_cases hn : n < 0
            · rw [if_pos hn]
              refine ⟨_, _, _, rfl, ?_, h⟩
              rw [if_neg hm, if_neg hm', if_pos hw', if_neg hi, if_neg hk, if_pos hn]
            rw [if_neg hn]
            have gi := nlt hi
            have gk := nlt hk
            have gn := nlt hn
            have i1 := Int32.toInt_lt i
            have k1 := Int32.toInt_lt k
            have s1 : (σ.1 (rowp a.toNatClampNeg) 2 - i).toInt = (σ.1 (rowp a.toNatClampNeg) 2).toInt - i.toInt := i_sub rfl rfl (by omega) (by omega)
            have s2 : (σ.1 (rowp b.toNatClampNeg) 2 - k).toInt = (σ.1 (rowp b.toNatClampNeg) 2).toInt - k.toInt := i_sub rfl rfl (by omega) (by omega)
            have c1 : 0 < lg_cmp (i.toInt64 + n.toInt64) (σ.1 78 a.toNatClampNeg).toInt64 ↔ σ.1 (rowp a.toNatClampNeg) 2 - i < n := by
              rw [lg_cmp_gt, Int64.lt_iff_toInt_lt, l_add64, Int32.toInt_toInt64, Int32.lt_iff_toInt_lt, s1, ← q3]
              constructor <;> intro q <;> omega
            have c2 : lg_cmp (k.toInt64 + n.toInt64) (σ.1 78 b.toNatClampNeg).toInt64 ≤ 0 ↔ n ≤ σ.1 (rowp b.toNatClampNeg) 2 - k := by
              rw [lg_cmp_le, Int64.le_iff_toInt_le, l_add64, Int32.toInt_toInt64, Int32.le_iff_toInt_le, s2, ← p3]
              constructor <;> intro q <;> omega
            by_cases d1 : σ.1 (rowp a.toNatClampNeg) 2 - i < n
            · rw [if_pos d1]
              refine ⟨_, _, _, rfl, ?_, h⟩
              rw [if_neg hm, if_neg hm', if_pos hw', if_neg hi, if_neg hk, if_neg hn, if_pos (c1.mpr d1)]
            rw [if_neg d1]
            by_cases d2 : n ≤ σ.1 (rowp b.toNatClampNeg) 2 - k
            · rw [if_pos d2]
              have v1 := nlt d1
              have v2 := ile d2
              rw [s1] at v1
              rw [s2] at v2
              have hcp : cpokD i k n 60 60 := ⟨by omega, by omega, by omega, by show _ ≤ (60 : Int); omega, by show _ ≤ (60 : Int); omega⟩
              rw [gd_t hcp]
              have ef : (cpyJ σ (rowp a.toNatClampNeg + 1) (rowp b.toNatClampNeg + 1) i.toNatClampNeg k.toNatClampNeg n.toNatClampNeg).1 = σ.1 := rfl
              obtain ⟨⟨r, υ⟩, e2, rr, ff⟩ := o8_paste_l113 (f := σ.1) (a := a) (i := i) (b := b) (k := k) (n := n) ha hb (by omega) (by omega) (by omega) (by omega) FU (cpyJ σ (rowp a.toNatClampNeg + 1) (rowp b.toNatClampNeg + 1) i.toNatClampNeg k.toNatClampNeg n.toNatClampNeg) 0 (by decide) (by unfold FU; omega) rfl
              have rr : r = 0 := rr
              subst rr
              refine ⟨0, _, υ, rfl, ?_, h.congr ff⟩
              rw [ef, if_neg hm, if_neg hm', if_pos hw', if_neg hi, if_neg hk, if_neg hn, if_neg (fun q => d1 (c1.mp q)), if_pos (c2.mpr d2)]
              exact e2
            · rw [if_neg d2]
              refine ⟨_, _, _, rfl, ?_, h⟩
              rw [if_neg hm, if_neg hm', if_pos hw', if_neg hi, if_neg hk, if_neg hn, if_neg (fun q => d1 (c1.mp q)), if_neg (fun q => d2 (c2.mp q))]
          · rw [if_neg hw]
            refine ⟨_, _, _, rfl, ?_, h⟩
            rw [if_neg hm, if_neg hm', if_neg (fun q => hw (by rw [q4, p4, q]))]
        · exact absurd hb h1
      · rcases o8_isSlot b with ⟨h1, _⟩ | ⟨_, f'⟩
        · exact absurd h1 hb
        · refine ⟨-2, σ, σ, ?_, ?_, h⟩
          · rw [e, bp_s, if_neg (by decide), f, bp_s, if_pos rfl]
          · rw [e', bp_s, if_neg (by decide), f', bp_s, if_pos rfl]
    · exact absurd ha h1
  · rcases o8_isSlot a with ⟨h1, _⟩ | ⟨_, e'⟩
    · exact absurd h1 ha
    · refine ⟨-2, σ, σ, ?_, ?_, h⟩
      · rw [e, bp_s, if_pos rfl]
      · rw [e', bp_s, if_pos rfl]
theorem cpyI_ne {σ : St} {q0 q1 sp dp n k : Nat} (h : k ≠ q1) : (cpyI σ q0 q1 sp dp n).1 k = σ.1 k := if_neg h
theorem cpyI_at {σ : St} {q0 q1 sp dp n : Nat} : (cpyI σ q0 q1 sp dp n).1 q1 = va_cpy (σ.1 q0) (σ.1 q1) sp dp n := if_pos rfl
theorem cpy_ir {f g : Nat → Int32} {sp dp m n : Nat} (hf : ∀ j, ir (f j) n) (hg : ∀ j, ir (g j) n) (j : Nat) : ir (va_cpy f g sp dp m j) n := by
  unfold va_cpy
  split
  · exact hf _
  · exact hg _
theorem o_copyFrom {σ : St} {t t2 : Nat} (ht : TA t σ) (h2 : TV t2 σ) (hne : t + 6 < t2 ∨ t2 + 6 < t) : ok (fX6_copyFrom σ t t2) (fun τ => TV t τ ∧ (∀ k j, (k < t ∨ t + 6 < k) → τ.1 k j = σ.1 k j) ∧ τ.2 = σ.2) := by
  unfold fX6_copyFrom
  refine ok_lv (fun σ1 e1 => ok_lv (fun σ2 e2 => ok_lv (fun σ3 e3 => ok_lv (fun σ4 e4 => ok_lv (fun σ5 e5 => ok_lv (fun σ6 e6 => ok_lv (fun σ7 e7 => ok_lv (fun σ8 e8 => ?_))))))))
  refine ok_gd (by decide) (ok_lv (fun σ9 e9 => ok_gd (by decide) (ok_lv (fun σ10 e10 => ok_gd (by decide) (ok_lv (fun σ11 e11 => ok_gd (by decide) (ok_lv (fun σ12 e12 => ok_gd (by decide) (ok_lv (fun σ13 e13 => ok_gd (by decide) (ok_lv (fun σ14 e14 => ok_some ?_))))))))))))
  have n8 : ∀ k j, k ≠ t → σ8.1 k j = σ.1 k j := fun k j hk => by
    rw [e8, setI_eq (fun h => hk h.1), e7, setI_eq (fun h => hk h.1), e6, setI_eq (fun h => hk h.1), e5, setI_eq (fun h => hk h.1), e4, setI_eq (fun h => hk h.1), e3, setI_eq (fun h => hk h.1), e2, setI_eq (fun h => hk h.1), e1, setI_eq (fun h => hk h.1)]
  have n7 : ∀ k j, k ≠ t → σ7.1 k j = σ.1 k j := fun k j hk => by rw [← n8 k j hk, e8, setI_eq (fun h => hk h.1)]
  have n6 : ∀ k j, k ≠ t → σ6.1 k j = σ.1 k j := fun k j hk => by rw [← n7 k j hk, e7, setI_eq (fun h => hk h.1)]
  have n5 : ∀ k j, k ≠ t → σ5.1 k j = σ.1 k j := fun k j hk => by rw [← n6 k j hk, e6, setI_eq (fun h => hk h.1)]
  have n4 : ∀ k j, k ≠ t → σ4.1 k j = σ.1 k j := fun k j hk => by rw [← n5 k j hk, e5, setI_eq (fun h => hk h.1)]
  have n1 : ∀ k j, k ≠ t → σ1.1 k j = σ.1 k j := fun k j hk => by rw [e1, setI_eq (fun h => hk h.1)]
  have hd : t2 ≠ t := by omega
  have g1 : σ8.1 t 1 = σ.1 t2 1 := by
    rw [e8, setI_eq (by omega), e7, setI_eq (by omega), e6, setI_eq (by omega), e5, setI_eq (by omega), e4, setI_eq (by omega), e3, setI_eq (by omega), e2, setI_at, n1 _ _ hd]
  have g4 : σ8.1 t 4 = σ.1 t2 4 := by
    rw [e8, setI_eq (by omega), e7, setI_eq (by omega), e6, setI_eq (by omega), e5, setI_at, n4 _ _ hd]
  have g5 : σ8.1 t 5 = σ.1 t2 5 := by
    rw [e8, setI_eq (by omega), e7, setI_eq (by omega), e6, setI_at, n5 _ _ hd]
  have g6 : σ8.1 t 6 = σ.1 t2 6 := by
    rw [e8, setI_eq (by omega), e7, setI_at, n6 _ _ hd]
  have g7 : σ8.1 t 7 = σ.1 t2 7 := by
    rw [e8, setI_at, n7 _ _ hd]
  have N : ∀ k, k ≤ t ∨ t + 6 < k → σ14.1 k = σ8.1 k := fun k hk => by
    rw [e14, cpyI_ne (by omega), e13, cpyI_ne (by omega), e12, cpyI_ne (by omega), e11, cpyI_ne (by omega), e10, cpyI_ne (by omega), e9, cpyI_ne (by omega)]
  have G3 : ∀ j, ir (σ14.1 (t + 3) j) 12 := fun j => by
    rw [e14, cpyI_ne (by omega), e13, cpyI_ne (by omega), e12, cpyI_ne (by omega), e11, cpyI_at]
    refine cpy_ir (fun j => ?_) (fun j => ?_) j
    · rw [e10, cpyI_ne (by omega), e9, cpyI_ne (by omega), n8 _ _ (by omega)]
      exact h2.2.2.2.2.2.1 j
    · rw [e10, cpyI_ne (by omega), e9, cpyI_ne (by omega), n8 _ _ (by omega)]
      exact ht.1 j
  have G6 : ∀ j, ir (σ14.1 (t + 6) j) 4096 := fun j => by
    rw [e14, cpyI_at]
    refine cpy_ir (fun j => ?_) (fun j => ?_) j
    · rw [e13, cpyI_ne (by omega), e12, cpyI_ne (by omega), e11, cpyI_ne (by omega), e10, cpyI_ne (by omega), e9, cpyI_ne (by omega), n8 _ _ (by omega)]
      exact h2.2.2.2.2.2.2 j
    · rw [e13, cpyI_ne (by omega), e12, cpyI_ne (by omega), e11, cpyI_ne (by omega), e10, cpyI_ne (by omega), e9, cpyI_ne (by omega), n8 _ _ (by omega)]
      exact ht.2 j
  refine ⟨?_, fun k j hk => ?_, ?_⟩
  · unfold TV
    rw [N t (by omega), g1, g4, g5, g6, g7]
    exact ⟨h2.1, h2.2.1, h2.2.2.1, h2.2.2.2.1, h2.2.2.2.2.1, G3, G6⟩
  · rw [N k (by omega), n8 _ _ (by omega)]
  · rw [e14, e13, e12, e11, e10, e9, e8, e7, e6, e5, e4, e3, e2, e1]
    rfl
theorem TV.ta {t : Nat} {σ : St} (h : TV t σ) : TA t σ := h.2.2.2.2.2
theorem WV.cp {p o p' o' : Nat} {σ τ : St} (e : ∀ j, j < 77 → τ.1 p' (o' + j) = σ.1 p (o + j)) (q : WV p o σ) : WV p' o' τ := by
  obtain ⟨q1, q2, q3, q4, q5, q6, q7⟩ := q
  unfold WV
  rw [e 0 (by omega), e 3 (by omega), e 4 (by omega), e 5 (by omega)]
  refine ⟨q1, q2, q3, q4, fun c hc => ?_, fun s hs => ?_, fun g hg => ?_⟩
  · rw [e _ (by omega)]; exact q5 c hc
  · rw [e _ (by omega)]; exact q6 s hs
  · rw [e _ (by omega)]; exact q7 g hg
theorem o8_image_l17 {σ0 : St} {a : Int32} (ha : ir a 3) : ∀ (n : Nat) (σ : St) (x : Int32), 0 ≤ x.toInt → x.toInt ≤ 77 → (77 - x.toInt).toNat < n → (∀ j : Nat, (j : Int) < x.toInt → σ.1 64 (77 * a.toNatClampNeg + j) = σ0.1 63 j) → (∀ k j, ¬ (k = 64 ∧ 77 * a.toNatClampNeg ≤ j ∧ j < 77 * a.toNatClampNeg + 77) → σ.1 k j = σ0.1 k j) → ok (fX8_image_l17 n σ a x) (fun p => p.1 = 0 ∧ p.2.1 65 a.toNatClampNeg = 1 ∧ (∀ j, j < 77 → p.2.1 64 (77 * a.toNatClampNeg + j) = σ0.1 63 j) ∧ (∀ k j, ¬ (k = 64 ∧ 77 * a.toNatClampNeg ≤ j ∧ j < 77 * a.toNatClampNeg + 77) → ¬ (k = 65 ∧ j = a.toNatClampNeg) → p.2.1 k j = σ0.1 k j)) := by
  have na := nN ha.1
  have ha1 := ha.1
  have ha2 := ha.2
  intro n
  induction n with
  | zero => intro σ x _ _ h; omega
  | succ n ih =>
    intro σ x hx hx1 hn hf hg
    show ok (fX8_image_B17 (fX8_image_l17 n) σ a x) _
    unfold fX8_image_B17
    have nx := nN hx
    refine ok_le (m := 77) rfl rfl (fun h => ok_gd ha (ok_gd (by decide) (ok_lv (fun σ1 e1 => ok_some ⟨rfl, ?_, fun j hj => ?_, fun k j h1 h2 => ?_⟩)))) (fun h => ?_)
    · show σ1.1 65 _ = _
      rw [e1, setI_at]
    · show σ1.1 64 _ = _
      rw [e1, setI_eq (by omega)]
      exact hf j (by omega)
    · show σ1.1 k j = _
      rw [e1, setI_eq h2]
      exact hg k j h1
    · have m1 : (77 * a).toInt = 77 * a.toInt := i_mul (m := 77) rfl rfl (by omega) (by omega)
      have m2 : (77 * a + x).toInt = 77 * a.toInt + x.toInt := i_add m1 rfl (by omega) (by omega)
      have m3 := nN (x := 77 * a + x) (by omega)
      have m4 : (77 * a + x).toNatClampNeg = 77 * a.toNatClampNeg + x.toNatClampNeg := by omega
      have e7 := inc (x := x) (by omega)
      refine ok_gd ⟨hx, by show _ < (77 : Int); omega⟩ (ok_gd ⟨by omega, by rw [m2]; show _ < (231 : Int); omega⟩ (ok_lv (fun σ1 e1 => ok_lt (ih σ1 _ (by omega) (by omega) (by omega) (fun j hj => ?_) (fun k j hk => ?_)))))
      · rw [e1, m4]
        by_cases hjx : j = x.toNatClampNeg
        · subst hjx
          rw [setI_at]
          exact hg 63 _ (by omega)
        · rw [setI_eq (by omega)]
          exact hf j (by omega)
      · rw [e1, m4, setI_eq (by omega)]
        exact hg k j hk
theorem o8_back_l29 {σ0 : St} {a : Int32} (ha : ir a 3) : ∀ (n : Nat) (σ : St) (x : Int32), 0 ≤ x.toInt → x.toInt ≤ 77 → (77 - x.toInt).toNat < n → (∀ j : Nat, (j : Int) < x.toInt → σ.1 63 j = σ0.1 64 (77 * a.toNatClampNeg + j)) → (∀ k j, k ≠ 63 → σ.1 k j = σ0.1 k j) → ok (fX8_back_l29 n σ a x) (fun p => p.1 = 0 ∧ (∀ j, j < 77 → p.2.1 63 j = σ0.1 64 (77 * a.toNatClampNeg + j)) ∧ (∀ k j, k ≠ 63 → p.2.1 k j = σ0.1 k j)) := by
  have na := nN ha.1
  have ha1 := ha.1
  have ha2 := ha.2
  intro n
  induction n with
  | zero => intro σ x _ _ h; omega
  | succ n ih =>
    intro σ x hx hx1 hn hf hg
    show ok (fX8_back_B29 (fX8_back_l29 n) σ a x) _
    unfold fX8_back_B29
    have nx := nN hx
    refine ok_le (m := 77) rfl rfl (fun h => ok_some ⟨rfl, fun j hj => hf j (by omega), hg⟩) (fun h => ?_)
    have m1 : (77 * a).toInt = 77 * a.toInt := i_mul (m := 77) rfl rfl (by omega) (by omega)
    have m2 : (77 * a + x).toInt = 77 * a.toInt + x.toInt := i_add m1 rfl (by omega) (by omega)
    have m3 := nN (x := 77 * a + x) (by omega)
    have m4 : (77 * a + x).toNatClampNeg = 77 * a.toNatClampNeg + x.toNatClampNeg := by omega
    have e7 := inc (x := x) (by omega)
    refine ok_gd ⟨by omega, by rw [m2]; show _ < (231 : Int); omega⟩ (ok_gd ⟨hx, by show _ < (77 : Int); omega⟩ (ok_lv (fun σ1 e1 => ok_lt (ih σ1 _ (by omega) (by omega) (by omega) (fun j hj => ?_) (fun k j hk => ?_)))))
    · rw [e1, m4]
      by_cases hjx : j = x.toNatClampNeg
      · subst hjx
        rw [setI_at]
        exact hg 64 _ (by omega)
      · rw [setI_eq (by omega)]
        exact hf j (by omega)
    · rw [e1, setI_eq (fun h => hk h.1)]
      exact hg k j hk
theorem t_image {σ : St} (h : INV σ) (a : Int32) : ∃ r σ1 σ2, fX7_image σ a = some (r, σ1) ∧ fX8_image σ1 a = some (r, σ2) ∧ INV σ2 := by
  have z0 : (0 : Int32).toInt = 0 := rfl
  have z3 : (3 : Int32).toInt = 3 := rfl
  unfold fX7_image fX8_image
  by_cases ha : ir a 3
  · have ha1 := ha.1
    have ha2 := ha.2
    have hs := slot_lt3 ha
    obtain ⟨τ, e1, T, f1, g1⟩ := o_copyFrom (σ := σ) (t := imgp a.toNatClampNeg) (t2 := 3) (h.1.2.2.2.1 _ hs).ta h.1.2.1 (by simp only [imgp]; omega)
    have hi : 19 ≤ imgp a.toNatClampNeg ∧ imgp a.toNatClampNeg ≤ 33 := by simp only [imgp]; omega
    rw [if_neg (fun q => by have := ilt q; omega), if_pos (Int32.lt_iff_toInt_lt.mpr (by omega)), gd_t ha]
    simp only [lt]
    rw [e1, bp_s, gd_t ha, gd_t (by decide)]
    obtain ⟨⟨r, υ⟩, e2, rr, w1, w2, w3⟩ := o8_image_l17 (σ0 := setI τ 18 a.toNatClampNeg 1) ha FU (setI τ 18 a.toNatClampNeg 1) 0 (by decide) (by decide) (by decide) (fun j hj => absurd hj (by omega)) (fun _ _ _ => rfl)
    have rr : r = 0 := rr
    subst rr
    have w1 : υ.1 65 _ = 1 := w1
    have w2 : ∀ j, j < 77 → υ.1 64 _ = _ := w2
    have w3 : ∀ k j, _ → _ → υ.1 k j = _ := w3
    refine ⟨0, _, υ, rfl, ?_, ?_⟩
    · rcases o8_in (a := a.toInt64) (b := 0) (c := 2) (Int32.toInt_toInt64 a) (v := 0) rfl (w := 2) rfl with ⟨h2, h3, e3⟩ | ⟨h2, e3⟩
      · rw [e3, bp_s, if_neg (by decide)]
        exact e2
      · omega
    · have V : ∀ k j, k ≠ 64 → k ≠ 65 → k ≠ 18 → (k < imgp a.toNatClampNeg ∨ imgp a.toNatClampNeg + 6 < k) → υ.1 k j = σ.1 k j := fun k j h1 h2 h3 h4 => by
        rw [w3 k j (by omega) (by omega), setI_eq (by omega), f1 k j h4]
      have tau : ∀ k j, k ≠ 64 → k ≠ 65 → k ≠ 18 → υ.1 k j = τ.1 k j := fun k j h1 h2 h3 => by
        rw [w3 k j (by omega) (by omega), setI_eq (by omega)]
      refine ⟨?_, ?_, ?_⟩
      · obtain ⟨q1, q2, q3, q4, q5⟩ := h.1
        refine ⟨?_, q2.of (fun k h1 h2 j => V k j (by omega) (by omega) (by omega) (by omega)), ⟨fun j => ?_, fun j => ?_⟩, fun i hi' => ?_, fun s hs' => ?_⟩
        · rw [V 1 1 (by omega) (by omega) (by omega) (by omega)]; exact q1
        · rw [V (10 + 3) j (by omega) (by omega) (by omega) (by omega)]; exact q3.1 j
        · rw [V (10 + 6) j (by omega) (by omega) (by omega) (by omega)]; exact q3.2 j
        · by_cases ei : i = a.toNatClampNeg
          · rw [ei]
            exact T.of (fun k h1 h2 j => tau k j (by omega) (by omega) (by omega))
          · refine (q4 i hi').of (fun k h1 h2 j => V k j ?_ ?_ ?_ ?_) <;> simp only [imgp] at h1 h2 ⊢ <;> omega
        · unfold RV
          rw [V (rowp s) 2 (by simp only [rowp]; omega) (by simp only [rowp]; omega) (by simp only [rowp]; omega) (by simp only [rowp]; omega)]
          exact q5 s hs'
      · obtain ⟨q1, q2, q3, q4⟩ := h.2.1
        refine ⟨?_, q2.co (fun j => V 63 j (by omega) (by omega) (by omega) (by omega)), fun i hi' => ?_, fun s hs' => ?_⟩
        · rw [V 62 5 (by omega) (by omega) (by omega) (by omega)]; exact q1
        · by_cases ei : i = a.toNatClampNeg
          · rw [ei]
            refine q2.cp (fun j hj => ?_)
            rw [w2 j hj, setI_eq (by omega), f1 63 j (by omega), Nat.zero_add]
          · refine (q3 i hi').cp (fun j hj => ?_)
            rw [w3 64 _ (by omega) (by omega), setI_eq (by omega), f1 64 _ (by omega)]
        · rw [V 78 s (by omega) (by omega) (by omega) (by omega)]; exact q4 s hs'
      · obtain ⟨q1, q2, q3⟩ := h.2.2
        refine ⟨?_, fun k hk => ?_, fun s hs' => ?_⟩
        · rw [V 1 1 (by omega) (by omega) (by omega) (by omega), V 62 5 (by omega) (by omega) (by omega) (by omega)]; exact q1
        · by_cases ek : k = a.toNatClampNeg
          · rw [ek, w1, w3 18 _ (by omega) (by omega), setI_at]
          · rw [w3 18 k (by omega) (by omega), w3 65 k (by omega) (by omega), setI_eq (by omega), setI_eq (by omega), f1 18 k (by omega), f1 65 k (by omega)]
            exact q2 k hk
        · have hr : 41 ≤ rowp s ∧ rowp s ≤ 47 := by simp only [rowp]; omega
          rw [V (rowp s) 0 (by omega) (by omega) (by omega) (by omega), V (rowp s) 1 (by omega) (by omega) (by omega) (by omega), V (rowp s) 2 (by omega) (by omega) (by omega) (by omega), V 78 s (by omega) (by omega) (by omega) (by omega), V 79 s (by omega) (by omega) (by omega) (by omega)]
          exact q3 s hs'
  · refine ⟨-2, σ, σ, ?_, ?_, h⟩
    · by_cases h0 : a < 0
      · rw [if_pos h0]
      · rw [if_neg h0, if_neg (fun q => ha ⟨by have := nlt h0; omega, by have := ilt q; show _ < (3 : Int); omega⟩)]
    · rcases o8_in (a := a.toInt64) (b := 0) (c := 2) (Int32.toInt_toInt64 a) (v := 0) rfl (w := 2) rfl with ⟨h2, h3, e3⟩ | ⟨h2, e3⟩
      · exact absurd ⟨h2, by show _ < (3 : Int); omega⟩ ha
      · rw [e3, bp_s, if_pos rfl]
theorem t_back {σ : St} (h : INV σ) (a : Int32) : ∃ r σ1 σ2, fX7_back σ a = some (r, σ1) ∧ fX8_back σ1 a = some (r, σ2) ∧ INV σ2 := by
  have z0 : (0 : Int32).toInt = 0 := rfl
  have z3 : (3 : Int32).toInt = 3 := rfl
  unfold fX7_back fX8_back
  by_cases ha : ir a 3
  · have ha1 := ha.1
    have ha2 := ha.2
    have hs := slot_lt3 ha
    have hi : 19 ≤ imgp a.toNatClampNeg ∧ imgp a.toNatClampNeg ≤ 33 := by simp only [imgp]; omega
    have hin : ∀ σ1 : St, bp (fX8_in a.toInt64 0 2) (fun r3 => if r3 = 0 then some ((-2 : Int32), σ1) else gd (ir a 3) (if σ1.1 65 a.toNatClampNeg = 0 then some ((-6 : Int32), σ1) else lt (0 : Int32) (fun v4 => fX8_back_l29 FU σ1 a v4))) = (if σ1.1 65 a.toNatClampNeg = 0 then some ((-6 : Int32), σ1) else fX8_back_l29 FU σ1 a 0) := fun σ1 => by
      rcases o8_in (a := a.toInt64) (b := 0) (c := 2) (Int32.toInt_toInt64 a) (v := 0) rfl (w := 2) rfl with ⟨h2, h3, e3⟩ | ⟨h2, e3⟩
      · rw [e3, bp_s, if_neg (by decide), gd_t ha]
        rfl
      · omega
    have rk := h.2.2.2.1 _ hs
    rw [if_neg (fun q => by have := ilt q; omega), if_pos (Int32.lt_iff_toInt_lt.mpr (by omega)), gd_t ha]
    by_cases hz : σ.1 18 a.toNatClampNeg = 0
    · rw [if_pos hz]
      refine ⟨-6, σ, σ, rfl, ?_, h⟩
      rw [hin, if_pos (rk.mp hz)]
    · rw [if_neg hz, gd_t ha]
      obtain ⟨τ, e1, T, f1, g1⟩ := o_copyFrom (σ := σ) (t := 3) (t2 := imgp a.toNatClampNeg) h.1.2.1.ta (h.1.2.2.2.1 _ hs) (by simp only [imgp]; omega)
      simp only [lt] at hin ⊢
      rw [e1, bp_s, gd_t (by decide)]
      obtain ⟨⟨r, υ⟩, e2, rr, w2, w3⟩ := o8_back_l29 (σ0 := setI τ 0 7 1) ha FU (setI τ 0 7 1) 0 (by decide) (by decide) (by decide) (fun j hj => absurd hj (by omega)) (fun _ _ _ => rfl)
      have rr : r = 0 := rr
      subst rr
      have w2 : ∀ j, j < 77 → υ.1 63 _ = _ := w2
      have w3 : ∀ k j, _ → υ.1 k j = _ := w3
      refine ⟨0, _, υ, rfl, ?_, ?_⟩
      · rw [hin, if_neg (fun q => hz (rk.mpr ?_))]
        · exact e2
        · rw [setI_eq (by omega), f1 65 _ (by omega)] at q
          exact q
      · have V : ∀ k j, k ≠ 63 → k ≠ 0 → (k < 3 ∨ 3 + 6 < k) → υ.1 k j = σ.1 k j := fun k j h1 h2 h4 => by
          rw [w3 k j h1, setI_eq (by omega), f1 k j h4]
        refine ⟨?_, ?_, ?_⟩
        · obtain ⟨q1, q2, q3, q4, q5⟩ := h.1
          refine ⟨?_, T.of (fun k h1 h2 j => ?_), ⟨fun j => ?_, fun j => ?_⟩, fun i hi' => ?_, fun s hs' => ?_⟩
          · rw [V 1 1 (by omega) (by omega) (by omega)]; exact q1
          · rw [w3 k j (by omega), setI_eq (by omega)]
          · rw [V (10 + 3) j (by omega) (by omega) (by omega)]; exact q3.1 j
          · rw [V (10 + 6) j (by omega) (by omega) (by omega)]; exact q3.2 j
          · refine (q4 i hi').of (fun k h1 h2 j => V k j ?_ ?_ ?_) <;> simp only [imgp] at h1 h2 <;> omega
          · unfold RV
            rw [V (rowp s) 2 (by simp only [rowp]; omega) (by simp only [rowp]; omega) (by simp only [rowp]; omega)]
            exact q5 s hs'
        · obtain ⟨q1, q2, q3, q4⟩ := h.2.1
          refine ⟨?_, ?_, fun i hi' => (q3 i hi').co (fun j => V 64 j (by omega) (by omega) (by omega)), fun s hs' => ?_⟩
          · rw [V 62 5 (by omega) (by omega) (by omega)]; exact q1
          · refine (q3 _ hs).cp (fun j hj => ?_)
            rw [Nat.zero_add, w2 j hj, setI_eq (by omega), f1 64 _ (by omega)]
          · rw [V 78 s (by omega) (by omega) (by omega)]; exact q4 s hs'
        · refine ⟨?_, fun k hk => ?_, fun s hs' => ?_⟩
          · rw [V 1 1 (by omega) (by omega) (by omega), V 62 5 (by omega) (by omega) (by omega)]; exact h.2.2.1
          · rw [V 18 k (by omega) (by omega) (by omega), V 65 k (by omega) (by omega) (by omega)]; exact h.2.2.2.1 k hk
          · have hr : 41 ≤ rowp s ∧ rowp s ≤ 47 := by simp only [rowp]; omega
            rw [V (rowp s) 0 (by omega) (by omega) (by omega), V (rowp s) 1 (by omega) (by omega) (by omega), V (rowp s) 2 (by omega) (by omega) (by omega), V 78 s (by omega) (by omega) (by omega), V 79 s (by omega) (by omega) (by omega)]
            exact h.2.2.2.2 s hs'
  · refine ⟨-2, σ, σ, ?_, ?_, h⟩
    · by_cases h0 : a < 0
      · rw [if_pos h0]
      · rw [if_neg h0, if_neg (fun q => ha ⟨by have := nlt h0; omega, by have := ilt q; show _ < (3 : Int); omega⟩)]
    · rcases o8_in (a := a.toInt64) (b := 0) (c := 2) (Int32.toInt_toInt64 a) (v := 0) rfl (w := 2) rfl with ⟨h2, h3, e3⟩ | ⟨h2, e3⟩
      · exact absurd ⟨h2, by show _ < (3 : Int); omega⟩ ha
      · rw [e3, bp_s, if_pos rfl]
