theorem z_lo (t j : Nat) (h : 2 ≤ t) (h' : t ≤ 61) : sig0.1 t j = 0 := by
  show (if t = 0 then _ else if t = 1 then _ else if t = 62 then _ else if t = 78 then _ else (0 : Int32)) = 0
  rw [if_neg (by omega), if_neg (by omega), if_neg (by omega), if_neg (by omega)]
theorem z_hi (t j : Nat) (h : 63 ≤ t) (h' : t ≠ 78) : sig0.1 t j = 0 := by
  show (if t = 0 then _ else if t = 1 then _ else if t = 62 then _ else if t = 78 then _ else (0 : Int32)) = 0
  rw [if_neg (by omega), if_neg (by omega), if_neg (by omega), if_neg (by omega)]
theorem ir0 {n : Nat} (h : 0 < n) : ir (0 : Int32) n := ⟨by decide, by show (0 : Int) < _; omega⟩
theorem tv0 (t : Nat) (h : 3 ≤ t) (h' : t ≤ 50) : TV t sig0 := by
  unfold TV
  rw [z_lo t 1 (by omega) (by omega), z_lo t 4 (by omega) (by omega), z_lo t 5 (by omega) (by omega), z_lo t 6 (by omega) (by omega), z_lo t 7 (by omega) (by omega)]
  refine ⟨by decide, by decide, by decide, by decide, ir0 (by decide), fun j => ?_, fun j => ?_⟩
  · rw [z_lo _ _ (by omega) (by omega)]; exact ir0 (by decide)
  · rw [z_lo _ _ (by omega) (by omega)]; exact ir0 (by decide)
theorem wv0 (p o : Nat) (h : 63 ≤ p) (h' : p ≠ 78) : WV p o sig0 := by
  unfold WV
  simp only [z_hi p _ h h']
  refine ⟨by decide, by decide, by decide, by decide, fun _ _ => Or.inl trivial, fun _ _ => ir0 (by decide), fun g _ hg => absurd hg ?_⟩
  have : (0 : Int32).toInt = 0 := rfl
  omega
theorem inv0 : INV sig0 := by
  refine ⟨⟨by decide, tv0 3 (by omega) (by omega), (tv0 10 (by omega) (by omega)).ta, fun i hi => tv0 _ (by simp only [imgp]; omega) (by simp only [imgp]; omega), fun s hs => ?_⟩, ⟨by decide, wv0 63 0 (by omega) (by omega), fun i hi => wv0 64 _ (by omega) (by omega), by decide⟩, ⟨rfl, fun k hk => ?_, fun s hs => ?_⟩⟩
  · unfold RV
    rw [z_lo _ _ (by simp only [rowp]; omega) (by simp only [rowp]; omega)]
    decide
  · rw [z_lo _ _ (by omega) (by omega), z_hi _ _ (by omega) (by omega)]
  · rw [z_lo _ 0 (by simp only [rowp]; omega) (by simp only [rowp]; omega)]
    refine ⟨⟨fun _ => ?_, fun _ => rfl⟩, fun q => absurd rfl q⟩
    have : s = 0 ∨ s = 1 ∨ s = 2 ∨ s = 3 := by omega
    rcases this with rfl | rfl | rfl | rfl <;> rfl
theorem g_k {L : Nat} {x k : Int32} {n : Int} (ek : k.toInt = n) (h0 : 0 ≤ x.toInt) (hl : x.toInt + 6 ≤ (L : Int)) (hL : L ≤ 3072) (hn : 0 ≤ n) (hn' : n < 6) : ir (x + k) L := by
  unfold ir
  rw [i_add rfl ek (by omega) (by omega)]
  omega
def LK (kr : St → Int32 → Option Int32) (x : Int32) : Prop := ∀ τ, INV τ → ok (kr τ (x + 6)) (fun r => r = 1)
theorem ok_bsE {α β : Type} {x : Option (β × St)} {r : β} {s : St} {f : β → St → Option α} {P : α → Prop} (e : x = some (r, s)) (h : ok (f r s) P) : ok (bs x f) P := by
  rw [e]; exact h
theorem c_352 {L : Nat} {xs : Nat → Int32} {kr : St → Int32 → Option Int32} {σ : St} {x3 : Int32} (h : INV σ) (h0 : 0 ≤ x3.toInt) (hl : x3.toInt + 6 ≤ (L : Int)) (hL : L ≤ 3072) (k : LK kr x3) : ok (fL_b352 L xs kr σ x3) (fun r => r = 1) := by
  unfold fL_b352
  obtain ⟨r, σ1, σ2, e1, e2, h2⟩ := t_feed h (xs (x3 + (1 : Int32)).toNatClampNeg) (xs (x3 + (2 : Int32)).toNatClampNeg) (xs (x3 + (3 : Int32)).toNatClampNeg) (xs (x3 + (4 : Int32)).toNatClampNeg) (xs (x3 + (5 : Int32)).toNatClampNeg)
  refine ok_gd (g_k (n := 1) rfl h0 hl hL (by decide) (by decide)) ?_
  refine ok_gd (g_k (n := 2) rfl h0 hl hL (by decide) (by decide)) ?_
  refine ok_gd (g_k (n := 3) rfl h0 hl hL (by decide) (by decide)) ?_
  refine ok_gd (g_k (n := 4) rfl h0 hl hL (by decide) (by decide)) ?_
  refine ok_gd (g_k (n := 5) rfl h0 hl hL (by decide) (by decide)) ?_
  refine ok_bsE e1 ?_
  refine ok_gd (g_k (n := 1) rfl h0 hl hL (by decide) (by decide)) ?_
  refine ok_gd (g_k (n := 2) rfl h0 hl hL (by decide) (by decide)) ?_
  refine ok_gd (g_k (n := 3) rfl h0 hl hL (by decide) (by decide)) ?_
  refine ok_gd (g_k (n := 4) rfl h0 hl hL (by decide) (by decide)) ?_
  refine ok_gd (g_k (n := 5) rfl h0 hl hL (by decide) (by decide)) ?_
  refine ok_bsE e2 ?_
  exact ok_lt (k _ h2)
theorem c_415 {L : Nat} {xs : Nat → Int32} {kr : St → Int32 → Option Int32} {σ : St} {x3 : Int32} (h : INV σ) (h0 : 0 ≤ x3.toInt) (hl : x3.toInt + 6 ≤ (L : Int)) (hL : L ≤ 3072) (k : LK kr x3) : ok (fL_b415 L xs kr σ x3) (fun r => r = 1) := by
  unfold fL_b415
  obtain ⟨r, σ1, σ2, e1, e2, h2⟩ := t_end h (xs (x3 + (1 : Int32)).toNatClampNeg)
  refine ok_gd (g_k (n := 1) rfl h0 hl hL (by decide) (by decide)) ?_
  refine ok_bsE e1 ?_
  refine ok_gd (g_k (n := 1) rfl h0 hl hL (by decide) (by decide)) ?_
  refine ok_bsE e2 ?_
  exact ok_lt (k _ h2)
theorem c_438 {L : Nat} {xs : Nat → Int32} {kr : St → Int32 → Option Int32} {σ : St} {x3 : Int32} (h : INV σ) (h0 : 0 ≤ x3.toInt) (hl : x3.toInt + 6 ≤ (L : Int)) (hL : L ≤ 3072) (k : LK kr x3) : ok (fL_b438 L xs kr σ x3) (fun r => r = 1) := by
  unfold fL_b438
  obtain ⟨r, σ1, r2, σ2, e1, e2, h2⟩ := t_table h 
  replace e2 : fX8_table σ1  = some (r2, σ2) := e2
  refine ok_bsE e1 ?_
  refine ok_bsE e2 ?_
  exact ok_lt (k _ h2)
theorem c_451 {L : Nat} {xs : Nat → Int32} {kr : St → Int32 → Option Int32} {σ : St} {x3 : Int32} (h : INV σ) (h0 : 0 ≤ x3.toInt) (hl : x3.toInt + 6 ≤ (L : Int)) (hL : L ≤ 3072) (k : LK kr x3) : ok (fL_b451 L xs kr σ x3) (fun r => r = 1) := by
  unfold fL_b451
  refine ok_gd (g_k (n := 1) rfl h0 hl hL (by decide) (by decide)) ?_
  refine ok_bp (o_fault7) (fun r7 _ => ?_)
  refine ok_gd (g_k (n := 1) rfl h0 hl hL (by decide) (by decide)) ?_
  refine ok_bp (o8_fault8) (fun r8 _ => ?_)
  exact ok_lt (k _ h)
theorem c_474 {L : Nat} {xs : Nat → Int32} {kr : St → Int32 → Option Int32} {σ : St} {x3 : Int32} (h : INV σ) (h0 : 0 ≤ x3.toInt) (hl : x3.toInt + 6 ≤ (L : Int)) (hL : L ≤ 3072) (k : LK kr x3) : ok (fL_b474 L xs kr σ x3) (fun r => r = 1) := by
  unfold fL_b474
  refine ok_gd (g_k (n := 1) rfl h0 hl hL (by decide) (by decide)) ?_
  refine ok_gd (g_k (n := 2) rfl h0 hl hL (by decide) (by decide)) ?_
  refine ok_bp (o_fX7_claim h.k) (fun r7 _ => ?_)
  refine ok_gd (g_k (n := 1) rfl h0 hl hL (by decide) (by decide)) ?_
  refine ok_gd (g_k (n := 2) rfl h0 hl hL (by decide) (by decide)) ?_
  refine ok_bp (o_fX8_claim h.k) (fun r8 _ => ?_)
  exact ok_lt (k _ h)
theorem c_507 {L : Nat} {xs : Nat → Int32} {kr : St → Int32 → Option Int32} {σ : St} {x3 : Int32} (h : INV σ) (h0 : 0 ≤ x3.toInt) (hl : x3.toInt + 6 ≤ (L : Int)) (hL : L ≤ 3072) (k : LK kr x3) : ok (fL_b507 L xs kr σ x3) (fun r => r = 1) := by
  unfold fL_b507
  refine ok_gd (g_k (n := 1) rfl h0 hl hL (by decide) (by decide)) ?_
  refine ok_bp (o_fX7_holds h.k) (fun r7 _ => ?_)
  refine ok_gd (g_k (n := 1) rfl h0 hl hL (by decide) (by decide)) ?_
  refine ok_bp (o_fX8_holds h.k) (fun r8 _ => ?_)
  exact ok_lt (k _ h)
theorem c_530 {L : Nat} {xs : Nat → Int32} {kr : St → Int32 → Option Int32} {σ : St} {x3 : Int32} (h : INV σ) (h0 : 0 ≤ x3.toInt) (hl : x3.toInt + 6 ≤ (L : Int)) (hL : L ≤ 3072) (k : LK kr x3) : ok (fL_b530 L xs kr σ x3) (fun r => r = 1) := by
  unfold fL_b530
  refine ok_gd (g_k (n := 1) rfl h0 hl hL (by decide) (by decide)) ?_
  refine ok_gd (g_k (n := 2) rfl h0 hl hL (by decide) (by decide)) ?_
  refine ok_bp (o_fX7_step h.k) (fun r7 _ => ?_)
  refine ok_gd (g_k (n := 1) rfl h0 hl hL (by decide) (by decide)) ?_
  refine ok_gd (g_k (n := 2) rfl h0 hl hL (by decide) (by decide)) ?_
  refine ok_bp (o_fX8_step h.k) (fun r8 _ => ?_)
  exact ok_lt (k _ h)
theorem c_563 {L : Nat} {xs : Nat → Int32} {kr : St → Int32 → Option Int32} {σ : St} {x3 : Int32} (h : INV σ) (h0 : 0 ≤ x3.toInt) (hl : x3.toInt + 6 ≤ (L : Int)) (hL : L ≤ 3072) (k : LK kr x3) : ok (fL_b563 L xs kr σ x3) (fun r => r = 1) := by
  unfold fL_b563
  refine ok_gd (g_k (n := 1) rfl h0 hl hL (by decide) (by decide)) ?_
  refine ok_gd (g_k (n := 2) rfl h0 hl hL (by decide) (by decide)) ?_
  refine ok_bp (o_fX7_guest h.k) (fun r7 _ => ?_)
  refine ok_gd (g_k (n := 1) rfl h0 hl hL (by decide) (by decide)) ?_
  refine ok_gd (g_k (n := 2) rfl h0 hl hL (by decide) (by decide)) ?_
  refine ok_bp (o_fX8_guest h.k) (fun r8 _ => ?_)
  exact ok_lt (k _ h)
theorem c_596 {L : Nat} {xs : Nat → Int32} {kr : St → Int32 → Option Int32} {σ : St} {x3 : Int32} (h : INV σ) (h0 : 0 ≤ x3.toInt) (hl : x3.toInt + 6 ≤ (L : Int)) (hL : L ≤ 3072) (k : LK kr x3) : ok (fL_b596 L xs kr σ x3) (fun r => r = 1) := by
  unfold fL_b596
  refine ok_bp (o_fX7_salted h.k) (fun r7 _ => ?_)
  refine ok_bp (o_fX8_salted h.k) (fun r8 _ => ?_)
  exact ok_lt (k _ h)
theorem c_609 {L : Nat} {xs : Nat → Int32} {kr : St → Int32 → Option Int32} {σ : St} {x3 : Int32} (h : INV σ) (h0 : 0 ≤ x3.toInt) (hl : x3.toInt + 6 ≤ (L : Int)) (hL : L ≤ 3072) (k : LK kr x3) : ok (fL_b609 L xs kr σ x3) (fun r => r = 1) := by
  unfold fL_b609
  refine ok_gd (g_k (n := 1) rfl h0 hl hL (by decide) (by decide)) ?_
  refine ok_bp (o_fX7_follows h.k) (fun r7 _ => ?_)
  refine ok_gd (g_k (n := 1) rfl h0 hl hL (by decide) (by decide)) ?_
  refine ok_bp (o_fX8_follows h.k) (fun r8 _ => ?_)
  exact ok_lt (k _ h)
theorem c_632 {L : Nat} {xs : Nat → Int32} {kr : St → Int32 → Option Int32} {σ : St} {x3 : Int32} (h : INV σ) (h0 : 0 ≤ x3.toInt) (hl : x3.toInt + 6 ≤ (L : Int)) (hL : L ≤ 3072) (k : LK kr x3) : ok (fL_b632 L xs kr σ x3) (fun r => r = 1) := by
  unfold fL_b632
  refine ok_gd (g_k (n := 1) rfl h0 hl hL (by decide) (by decide)) ?_
  refine ok_bp (o_fX7_counter h.k) (fun r7 _ => ?_)
  refine ok_gd (g_k (n := 1) rfl h0 hl hL (by decide) (by decide)) ?_
  refine ok_bp (o_fX8_counter h.k) (fun r8 _ => ?_)
  exact ok_lt (k _ h)
theorem c_655 {L : Nat} {xs : Nat → Int32} {kr : St → Int32 → Option Int32} {σ : St} {x3 : Int32} (h : INV σ) (h0 : 0 ≤ x3.toInt) (hl : x3.toInt + 6 ≤ (L : Int)) (hL : L ≤ 3072) (k : LK kr x3) : ok (fL_b655 L xs kr σ x3) (fun r => r = 1) := by
  unfold fL_b655
  refine ok_gd (g_k (n := 1) rfl h0 hl hL (by decide) (by decide)) ?_
  refine ok_gd (g_k (n := 2) rfl h0 hl hL (by decide) (by decide)) ?_
  refine ok_bp (o_fX7_entails h.k) (fun r7 _ => ?_)
  refine ok_gd (g_k (n := 1) rfl h0 hl hL (by decide) (by decide)) ?_
  refine ok_gd (g_k (n := 2) rfl h0 hl hL (by decide) (by decide)) ?_
  refine ok_bp (o_fX8_entails h.k) (fun r8 _ => ?_)
  exact ok_lt (k _ h)
theorem c_688 {L : Nat} {xs : Nat → Int32} {kr : St → Int32 → Option Int32} {σ : St} {x3 : Int32} (h : INV σ) (h0 : 0 ≤ x3.toInt) (hl : x3.toInt + 6 ≤ (L : Int)) (hL : L ≤ 3072) (k : LK kr x3) : ok (fL_b688 L xs kr σ x3) (fun r => r = 1) := by
  unfold fL_b688
  refine ok_gd (g_k (n := 1) rfl h0 hl hL (by decide) (by decide)) ?_
  refine ok_bp (o_fX7_alike h.k) (fun r7 _ => ?_)
  refine ok_gd (g_k (n := 1) rfl h0 hl hL (by decide) (by decide)) ?_
  refine ok_bp (o_fX8_alike h.k) (fun r8 _ => ?_)
  exact ok_lt (k _ h)
theorem c_711 {L : Nat} {xs : Nat → Int32} {kr : St → Int32 → Option Int32} {σ : St} {x3 : Int32} (h : INV σ) (h0 : 0 ≤ x3.toInt) (hl : x3.toInt + 6 ≤ (L : Int)) (hL : L ≤ 3072) (k : LK kr x3) : ok (fL_b711 L xs kr σ x3) (fun r => r = 1) := by
  unfold fL_b711
  refine ok_gd (g_k (n := 1) rfl h0 hl hL (by decide) (by decide)) ?_
  refine ok_bp (o_fX7_falsity h.k) (fun r7 _ => ?_)
  refine ok_gd (g_k (n := 1) rfl h0 hl hL (by decide) (by decide)) ?_
  refine ok_bp (o_fX8_falsity h.k) (fun r8 _ => ?_)
  exact ok_lt (k _ h)
theorem c_734 {L : Nat} {xs : Nat → Int32} {kr : St → Int32 → Option Int32} {σ : St} {x3 : Int32} (h : INV σ) (h0 : 0 ≤ x3.toInt) (hl : x3.toInt + 6 ≤ (L : Int)) (hL : L ≤ 3072) (k : LK kr x3) : ok (fL_b734 L xs kr σ x3) (fun r => r = 1) := by
  unfold fL_b734
  refine ok_bs (o_fX7_proved h.k) (fun r7 s7 q7 => ?_)
  have h7 := h.co q7.2
  refine ok_bp (o_fX8_proved h7.k) (fun r8 _ => ?_)
  exact ok_lt (k _ h7)
theorem c_747 {L : Nat} {xs : Nat → Int32} {kr : St → Int32 → Option Int32} {σ : St} {x3 : Int32} (h : INV σ) (h0 : 0 ≤ x3.toInt) (hl : x3.toInt + 6 ≤ (L : Int)) (hL : L ≤ 3072) (k : LK kr x3) : ok (fL_b747 L xs kr σ x3) (fun r => r = 1) := by
  unfold fL_b747
  refine ok_bs (o_fX7_wrong h.k) (fun r7 s7 q7 => ?_)
  have h7 := h.co q7.2
  refine ok_bp (o_fX8_wrong h7.k) (fun r8 _ => ?_)
  exact ok_lt (k _ h7)
theorem c_760 {L : Nat} {xs : Nat → Int32} {kr : St → Int32 → Option Int32} {σ : St} {x3 : Int32} (h : INV σ) (h0 : 0 ≤ x3.toInt) (hl : x3.toInt + 6 ≤ (L : Int)) (hL : L ≤ 3072) (k : LK kr x3) : ok (fL_b760 L xs kr σ x3) (fun r => r = 1) := by
  unfold fL_b760
  refine ok_bs (o_fX7_covered h.k) (fun r7 s7 q7 => ?_)
  have h7 := h.co q7.2
  refine ok_bp (o_fX8_covered h7.k) (fun r8 _ => ?_)
  exact ok_lt (k _ h7)
theorem c_773 {L : Nat} {xs : Nat → Int32} {kr : St → Int32 → Option Int32} {σ : St} {x3 : Int32} (h : INV σ) (h0 : 0 ≤ x3.toInt) (hl : x3.toInt + 6 ≤ (L : Int)) (hL : L ≤ 3072) (k : LK kr x3) : ok (fL_b773 L xs kr σ x3) (fun r => r = 1) := by
  unfold fL_b773
  refine ok_gd (g_k (n := 1) rfl h0 hl hL (by decide) (by decide)) ?_
  refine ok_bs (o_fX7_reads h.k) (fun r7 s7 q7 => ?_)
  have h7 := h.co q7.2
  refine ok_gd (g_k (n := 1) rfl h0 hl hL (by decide) (by decide)) ?_
  refine ok_bs (o_fX8_reads h7.k) (fun r8 s8 q8 => ?_)
  have h8 := h7.co q8.2
  exact ok_lt (k _ h8)
theorem c_796 {L : Nat} {xs : Nat → Int32} {kr : St → Int32 → Option Int32} {σ : St} {x3 : Int32} (h : INV σ) (h0 : 0 ≤ x3.toInt) (hl : x3.toInt + 6 ≤ (L : Int)) (hL : L ≤ 3072) (k : LK kr x3) : ok (fL_b796 L xs kr σ x3) (fun r => r = 1) := by
  unfold fL_b796
  refine ok_gd (g_k (n := 1) rfl h0 hl hL (by decide) (by decide)) ?_
  refine ok_bs (o_fX7_why h.k) (fun r7 s7 q7 => ?_)
  have h7 := h.co q7.2
  refine ok_gd (g_k (n := 1) rfl h0 hl hL (by decide) (by decide)) ?_
  refine ok_bs (o8_why h7.k) (fun r8 s8 q8 => ?_)
  have h8 := h7.co q8.2
  exact ok_lt (k _ h8)
theorem c_819 {L : Nat} {xs : Nat → Int32} {kr : St → Int32 → Option Int32} {σ : St} {x3 : Int32} (h : INV σ) (h0 : 0 ≤ x3.toInt) (hl : x3.toInt + 6 ≤ (L : Int)) (hL : L ≤ 3072) (k : LK kr x3) : ok (fL_b819 L xs kr σ x3) (fun r => r = 1) := by
  unfold fL_b819
  refine ok_gd (g_k (n := 1) rfl h0 hl hL (by decide) (by decide)) ?_
  refine ok_bs (o_fX7_reached h.k) (fun r7 s7 q7 => ?_)
  have h7 := h.co q7.2
  refine ok_gd (g_k (n := 1) rfl h0 hl hL (by decide) (by decide)) ?_
  refine ok_bs (o_fX8_reached h7.k) (fun r8 s8 q8 => ?_)
  have h8 := h7.co q8.2
  exact ok_lt (k _ h8)
theorem c_842 {L : Nat} {xs : Nat → Int32} {kr : St → Int32 → Option Int32} {σ : St} {x3 : Int32} (h : INV σ) (h0 : 0 ≤ x3.toInt) (hl : x3.toInt + 6 ≤ (L : Int)) (hL : L ≤ 3072) (k : LK kr x3) : ok (fL_b842 L xs kr σ x3) (fun r => r = 1) := by
  unfold fL_b842
  refine ok_gd (g_k (n := 1) rfl h0 hl hL (by decide) (by decide)) ?_
  refine ok_gd (g_k (n := 2) rfl h0 hl hL (by decide) (by decide)) ?_
  refine ok_bp (o_fX7_eats h.k) (fun r7 _ => ?_)
  refine ok_gd (g_k (n := 1) rfl h0 hl hL (by decide) (by decide)) ?_
  refine ok_gd (g_k (n := 2) rfl h0 hl hL (by decide) (by decide)) ?_
  refine ok_bp (o_fX8_eats h.k) (fun r8 _ => ?_)
  exact ok_lt (k _ h)
theorem c_875 {L : Nat} {xs : Nat → Int32} {kr : St → Int32 → Option Int32} {σ : St} {x3 : Int32} (h : INV σ) (h0 : 0 ≤ x3.toInt) (hl : x3.toInt + 6 ≤ (L : Int)) (hL : L ≤ 3072) (k : LK kr x3) : ok (fL_b875 L xs kr σ x3) (fun r => r = 1) := by
  unfold fL_b875
  refine ok_gd (g_k (n := 1) rfl h0 hl hL (by decide) (by decide)) ?_
  refine ok_gd (g_k (n := 2) rfl h0 hl hL (by decide) (by decide)) ?_
  refine ok_bs (o_fX7_used h.k) (fun r7 s7 q7 => ?_)
  have h7 := h.co q7.2
  refine ok_gd (g_k (n := 1) rfl h0 hl hL (by decide) (by decide)) ?_
  refine ok_gd (g_k (n := 2) rfl h0 hl hL (by decide) (by decide)) ?_
  refine ok_bs (o_fX8_used h7.k) (fun r8 s8 q8 => ?_)
  have h8 := h7.co q8.2
  exact ok_lt (k _ h8)
theorem c_908 {L : Nat} {xs : Nat → Int32} {kr : St → Int32 → Option Int32} {σ : St} {x3 : Int32} (h : INV σ) (h0 : 0 ≤ x3.toInt) (hl : x3.toInt + 6 ≤ (L : Int)) (hL : L ≤ 3072) (k : LK kr x3) : ok (fL_b908 L xs kr σ x3) (fun r => r = 1) := by
  unfold fL_b908
  refine ok_gd (g_k (n := 1) rfl h0 hl hL (by decide) (by decide)) ?_
  refine ok_gd (g_k (n := 2) rfl h0 hl hL (by decide) (by decide)) ?_
  refine ok_gd (g_k (n := 3) rfl h0 hl hL (by decide) (by decide)) ?_
  refine ok_bs (o_fX7_same h.k) (fun r7 s7 q7 => ?_)
  have h7 := h.co q7.2
  refine ok_gd (g_k (n := 1) rfl h0 hl hL (by decide) (by decide)) ?_
  refine ok_gd (g_k (n := 2) rfl h0 hl hL (by decide) (by decide)) ?_
  refine ok_gd (g_k (n := 3) rfl h0 hl hL (by decide) (by decide)) ?_
  refine ok_bs (o_fX8_same h7.k) (fun r8 s8 q8 => ?_)
  have h8 := h7.co q8.2
  exact ok_lt (k _ h8)
theorem c_951 {L : Nat} {xs : Nat → Int32} {kr : St → Int32 → Option Int32} {σ : St} {x3 : Int32} (h : INV σ) (h0 : 0 ≤ x3.toInt) (hl : x3.toInt + 6 ≤ (L : Int)) (hL : L ≤ 3072) (k : LK kr x3) : ok (fL_b951 L xs kr σ x3) (fun r => r = 1) := by
  unfold fL_b951
  refine ok_gd (g_k (n := 1) rfl h0 hl hL (by decide) (by decide)) ?_
  refine ok_bs (o_fX7_shortest h.k) (fun r7 s7 q7 => ?_)
  have h7 := h.co q7.2
  refine ok_gd (g_k (n := 1) rfl h0 hl hL (by decide) (by decide)) ?_
  refine ok_bp (o_fX8_shortest h7.k) (fun r8 _ => ?_)
  exact ok_lt (k _ h7)
theorem c_974 {L : Nat} {xs : Nat → Int32} {kr : St → Int32 → Option Int32} {σ : St} {x3 : Int32} (h : INV σ) (h0 : 0 ≤ x3.toInt) (hl : x3.toInt + 6 ≤ (L : Int)) (hL : L ≤ 3072) (k : LK kr x3) : ok (fL_b974 L xs kr σ x3) (fun r => r = 1) := by
  unfold fL_b974
  refine ok_gd (g_k (n := 1) rfl h0 hl hL (by decide) (by decide)) ?_
  refine ok_bs (o_fX7_proof h.k) (fun r7 s7 q7 => ?_)
  have h7 := h.co q7.2
  refine ok_gd (g_k (n := 1) rfl h0 hl hL (by decide) (by decide)) ?_
  refine ok_bp (o_fX8_proof h7.k) (fun r8 _ => ?_)
  exact ok_lt (k _ h7)
theorem c_997 {L : Nat} {xs : Nat → Int32} {kr : St → Int32 → Option Int32} {σ : St} {x3 : Int32} (h : INV σ) (h0 : 0 ≤ x3.toInt) (hl : x3.toInt + 6 ≤ (L : Int)) (hL : L ≤ 3072) (k : LK kr x3) : ok (fL_b997 L xs kr σ x3) (fun r => r = 1) := by
  unfold fL_b997
  refine ok_gd (g_k (n := 1) rfl h0 hl hL (by decide) (by decide)) ?_
  refine ok_gd (g_k (n := 2) rfl h0 hl hL (by decide) (by decide)) ?_
  refine ok_bs (o_fX7_bite h.k) (fun r7 s7 q7 => ?_)
  have h7 := h.co q7.2
  refine ok_gd (g_k (n := 1) rfl h0 hl hL (by decide) (by decide)) ?_
  refine ok_gd (g_k (n := 2) rfl h0 hl hL (by decide) (by decide)) ?_
  refine ok_bp (o_fX8_bite h7.k) (fun r8 _ => ?_)
  exact ok_lt (k _ h7)
theorem c_1030 {L : Nat} {xs : Nat → Int32} {kr : St → Int32 → Option Int32} {σ : St} {x3 : Int32} (h : INV σ) (h0 : 0 ≤ x3.toInt) (hl : x3.toInt + 6 ≤ (L : Int)) (hL : L ≤ 3072) (k : LK kr x3) : ok (fL_b1030 L xs kr σ x3) (fun r => r = 1) := by
  unfold fL_b1030
  refine ok_gd (g_k (n := 1) rfl h0 hl hL (by decide) (by decide)) ?_
  refine ok_bs (o_fX7_proofs h.k) (fun r7 s7 q7 => ?_)
  have h7 := h.co q7.2
  refine ok_gd (g_k (n := 1) rfl h0 hl hL (by decide) (by decide)) ?_
  refine ok_bp (o_fX8_proofs h7.k) (fun r8 _ => ?_)
  exact ok_lt (k _ h7)
theorem c_1053 {L : Nat} {xs : Nat → Int32} {kr : St → Int32 → Option Int32} {σ : St} {x3 : Int32} (h : INV σ) (h0 : 0 ≤ x3.toInt) (hl : x3.toInt + 6 ≤ (L : Int)) (hL : L ≤ 3072) (k : LK kr x3) : ok (fL_b1053 L xs kr σ x3) (fun r => r = 1) := by
  unfold fL_b1053
  refine ok_gd (g_k (n := 1) rfl h0 hl hL (by decide) (by decide)) ?_
  refine ok_bs (o_fX7_needs h.k) (fun r7 s7 q7 => ?_)
  have h7 := h.co q7.2
  refine ok_gd (g_k (n := 1) rfl h0 hl hL (by decide) (by decide)) ?_
  refine ok_bp (o_fX8_needs_ h7.k) (fun r8 _ => ?_)
  exact ok_lt (k _ h7)
theorem c_1076 {L : Nat} {xs : Nat → Int32} {kr : St → Int32 → Option Int32} {σ : St} {x3 : Int32} (h : INV σ) (h0 : 0 ≤ x3.toInt) (hl : x3.toInt + 6 ≤ (L : Int)) (hL : L ≤ 3072) (k : LK kr x3) : ok (fL_b1076 L xs kr σ x3) (fun r => r = 1) := by
  unfold fL_b1076
  refine ok_gd (g_k (n := 1) rfl h0 hl hL (by decide) (by decide)) ?_
  refine ok_bs (o_fX7_rests h.k) (fun r7 s7 q7 => ?_)
  have h7 := h.co q7.2
  refine ok_gd (g_k (n := 1) rfl h0 hl hL (by decide) (by decide)) ?_
  refine ok_bp (o_fX8_rests h7.k) (fun r8 _ => ?_)
  exact ok_lt (k _ h7)
theorem c_1099 {L : Nat} {xs : Nat → Int32} {kr : St → Int32 → Option Int32} {σ : St} {x3 : Int32} (h : INV σ) (h0 : 0 ≤ x3.toInt) (hl : x3.toInt + 6 ≤ (L : Int)) (hL : L ≤ 3072) (k : LK kr x3) : ok (fL_b1099 L xs kr σ x3) (fun r => r = 1) := by
  unfold fL_b1099
  refine ok_gd (g_k (n := 1) rfl h0 hl hL (by decide) (by decide)) ?_
  refine ok_bs (o_fX7_menu h.k) (fun r7 s7 q7 => ?_)
  have h7 := h.co q7.2
  refine ok_gd (g_k (n := 1) rfl h0 hl hL (by decide) (by decide)) ?_
  refine ok_bs (o_fX8_menu h7.k) (fun r8 s8 q8 => ?_)
  have h8 := h7.co q8.2
  exact ok_lt (k _ h8)
theorem c_1122 {L : Nat} {xs : Nat → Int32} {kr : St → Int32 → Option Int32} {σ : St} {x3 : Int32} (h : INV σ) (h0 : 0 ≤ x3.toInt) (hl : x3.toInt + 6 ≤ (L : Int)) (hL : L ≤ 3072) (k : LK kr x3) : ok (fL_b1122 L xs kr σ x3) (fun r => r = 1) := by
  unfold fL_b1122
  refine ok_gd (g_k (n := 1) rfl h0 hl hL (by decide) (by decide)) ?_
  refine ok_bs (o_fX7_course h.k) (fun r7 s7 q7 => ?_)
  have h7 := h.co q7.2
  refine ok_gd (g_k (n := 1) rfl h0 hl hL (by decide) (by decide)) ?_
  refine ok_bs (o_fX8_course h7.k) (fun r8 s8 q8 => ?_)
  have h8 := h7.co q8.2
  exact ok_lt (k _ h8)
theorem c_1145 {L : Nat} {xs : Nat → Int32} {kr : St → Int32 → Option Int32} {σ : St} {x3 : Int32} (h : INV σ) (h0 : 0 ≤ x3.toInt) (hl : x3.toInt + 6 ≤ (L : Int)) (hL : L ≤ 3072) (k : LK kr x3) : ok (fL_b1145 L xs kr σ x3) (fun r => r = 1) := by
  unfold fL_b1145
  refine ok_gd (g_k (n := 1) rfl h0 hl hL (by decide) (by decide)) ?_
  refine ok_bs (o_fX7_dishes h.k) (fun r7 s7 q7 => ?_)
  have h7 := h.co q7.2
  refine ok_gd (g_k (n := 1) rfl h0 hl hL (by decide) (by decide)) ?_
  refine ok_bs (o_fX8_dishes h7.k) (fun r8 s8 q8 => ?_)
  have h8 := h7.co q8.2
  exact ok_lt (k _ h8)
theorem c_1168 {L : Nat} {xs : Nat → Int32} {kr : St → Int32 → Option Int32} {σ : St} {x3 : Int32} (h : INV σ) (h0 : 0 ≤ x3.toInt) (hl : x3.toInt + 6 ≤ (L : Int)) (hL : L ≤ 3072) (k : LK kr x3) : ok (fL_b1168 L xs kr σ x3) (fun r => r = 1) := by
  unfold fL_b1168
  refine ok_gd (g_k (n := 1) rfl h0 hl hL (by decide) (by decide)) ?_
  refine ok_gd (g_k (n := 2) rfl h0 hl hL (by decide) (by decide)) ?_
  refine ok_bs (o_fX7_takes h.k) (fun r7 s7 q7 => ?_)
  have h7 := h.co q7.2
  refine ok_gd (g_k (n := 1) rfl h0 hl hL (by decide) (by decide)) ?_
  refine ok_gd (g_k (n := 2) rfl h0 hl hL (by decide) (by decide)) ?_
  refine ok_bp (o_fX8_takes_ h7.k) (fun r8 _ => ?_)
  exact ok_lt (k _ h7)
theorem c_1201 {L : Nat} {xs : Nat → Int32} {kr : St → Int32 → Option Int32} {σ : St} {x3 : Int32} (h : INV σ) (h0 : 0 ≤ x3.toInt) (hl : x3.toInt + 6 ≤ (L : Int)) (hL : L ≤ 3072) (k : LK kr x3) : ok (fL_b1201 L xs kr σ x3) (fun r => r = 1) := by
  unfold fL_b1201
  refine ok_gd (g_k (n := 1) rfl h0 hl hL (by decide) (by decide)) ?_
  refine ok_bs (o_fX7_who h.k) (fun r7 s7 q7 => ?_)
  have h7 := h.co q7.2
  refine ok_gd (g_k (n := 1) rfl h0 hl hL (by decide) (by decide)) ?_
  refine ok_bp (o_fX8_who h7.k) (fun r8 _ => ?_)
  exact ok_lt (k _ h7)
theorem c_1224 {L : Nat} {xs : Nat → Int32} {kr : St → Int32 → Option Int32} {σ : St} {x3 : Int32} (h : INV σ) (h0 : 0 ≤ x3.toInt) (hl : x3.toInt + 6 ≤ (L : Int)) (hL : L ≤ 3072) (k : LK kr x3) : ok (fL_b1224 L xs kr σ x3) (fun r => r = 1) := by
  unfold fL_b1224
  refine ok_gd (g_k (n := 1) rfl h0 hl hL (by decide) (by decide)) ?_
  refine ok_bs (o_fX7_host h.k) (fun r7 s7 q7 => ?_)
  have h7 := h.co q7.2
  refine ok_gd (g_k (n := 1) rfl h0 hl hL (by decide) (by decide)) ?_
  refine ok_bp (o_fX8_host h7.k) (fun r8 _ => ?_)
  exact ok_lt (k _ h7)
theorem c_1247 {L : Nat} {xs : Nat → Int32} {kr : St → Int32 → Option Int32} {σ : St} {x3 : Int32} (h : INV σ) (h0 : 0 ≤ x3.toInt) (hl : x3.toInt + 6 ≤ (L : Int)) (hL : L ≤ 3072) (k : LK kr x3) : ok (fL_b1247 L xs kr σ x3) (fun r => r = 1) := by
  unfold fL_b1247
  refine ok_gd (g_k (n := 1) rfl h0 hl hL (by decide) (by decide)) ?_
  refine ok_bs (o_fX7_lemma h.k) (fun r7 s7 q7 => ?_)
  have h7 := h.co q7.2
  refine ok_gd (g_k (n := 1) rfl h0 hl hL (by decide) (by decide)) ?_
  refine ok_bs (o_fX8_lemma h7.k) (fun r8 s8 q8 => ?_)
  have h8 := h7.co q8.2
  exact ok_lt (k _ h8)
theorem c_1270 {L : Nat} {xs : Nat → Int32} {kr : St → Int32 → Option Int32} {σ : St} {x3 : Int32} (h : INV σ) (h0 : 0 ≤ x3.toInt) (hl : x3.toInt + 6 ≤ (L : Int)) (hL : L ≤ 3072) (k : LK kr x3) : ok (fL_b1270 L xs kr σ x3) (fun r => r = 1) := by
  unfold fL_b1270
  refine ok_gd (g_k (n := 1) rfl h0 hl hL (by decide) (by decide)) ?_
  refine ok_bs (o_fX7_brings h.k) (fun r7 s7 q7 => ?_)
  have h7 := h.co q7.2
  refine ok_gd (g_k (n := 1) rfl h0 hl hL (by decide) (by decide)) ?_
  refine ok_bs (o_fX8_brings h7.k) (fun r8 s8 q8 => ?_)
  have h8 := h7.co q8.2
  exact ok_lt (k _ h8)
theorem c_1293 {L : Nat} {xs : Nat → Int32} {kr : St → Int32 → Option Int32} {σ : St} {x3 : Int32} (h : INV σ) (h0 : 0 ≤ x3.toInt) (hl : x3.toInt + 6 ≤ (L : Int)) (hL : L ≤ 3072) (k : LK kr x3) : ok (fL_b1293 L xs kr σ x3) (fun r => r = 1) := by
  unfold fL_b1293
  refine ok_gd (g_k (n := 1) rfl h0 hl hL (by decide) (by decide)) ?_
  refine ok_bp (o_fX7_strength h.k) (fun r7 _ => ?_)
  refine ok_gd (g_k (n := 1) rfl h0 hl hL (by decide) (by decide)) ?_
  refine ok_bp (o_fX8_strength h.k) (fun r8 _ => ?_)
  exact ok_lt (k _ h)
theorem c_1316 {L : Nat} {xs : Nat → Int32} {kr : St → Int32 → Option Int32} {σ : St} {x3 : Int32} (h : INV σ) (h0 : 0 ≤ x3.toInt) (hl : x3.toInt + 6 ≤ (L : Int)) (hL : L ≤ 3072) (k : LK kr x3) : ok (fL_b1316 L xs kr σ x3) (fun r => r = 1) := by
  unfold fL_b1316
  refine ok_gd (g_k (n := 1) rfl h0 hl hL (by decide) (by decide)) ?_
  refine ok_gd (g_k (n := 2) rfl h0 hl hL (by decide) (by decide)) ?_
  refine ok_bs (o_fX7_together h.k) (fun r7 s7 q7 => ?_)
  have h7 := h.co q7.2
  refine ok_gd (g_k (n := 1) rfl h0 hl hL (by decide) (by decide)) ?_
  refine ok_gd (g_k (n := 2) rfl h0 hl hL (by decide) (by decide)) ?_
  refine ok_bp (o_fX8_together h7.k) (fun r8 _ => ?_)
  exact ok_lt (k _ h7)
theorem c_1349 {L : Nat} {xs : Nat → Int32} {kr : St → Int32 → Option Int32} {σ : St} {x3 : Int32} (h : INV σ) (h0 : 0 ≤ x3.toInt) (hl : x3.toInt + 6 ≤ (L : Int)) (hL : L ≤ 3072) (k : LK kr x3) : ok (fL_b1349 L xs kr σ x3) (fun r => r = 1) := by
  unfold fL_b1349
  refine ok_gd (g_k (n := 1) rfl h0 hl hL (by decide) (by decide)) ?_
  refine ok_bs (o_fX7_fewest h.k) (fun r7 s7 q7 => ?_)
  have h7 := h.co q7.2
  refine ok_gd (g_k (n := 1) rfl h0 hl hL (by decide) (by decide)) ?_
  refine ok_bp (o_fX8_fewest h7.k) (fun r8 _ => ?_)
  exact ok_lt (k _ h7)
theorem c_1372 {L : Nat} {xs : Nat → Int32} {kr : St → Int32 → Option Int32} {σ : St} {x3 : Int32} (h : INV σ) (h0 : 0 ≤ x3.toInt) (hl : x3.toInt + 6 ≤ (L : Int)) (hL : L ≤ 3072) (k : LK kr x3) : ok (fL_b1372 L xs kr σ x3) (fun r => r = 1) := by
  unfold fL_b1372
  refine ok_gd (g_k (n := 1) rfl h0 hl hL (by decide) (by decide)) ?_
  refine ok_bs (o_fX7_team h.k) (fun r7 s7 q7 => ?_)
  have h7 := h.co q7.2
  refine ok_gd (g_k (n := 1) rfl h0 hl hL (by decide) (by decide)) ?_
  refine ok_bp (o_fX8_team h7.k) (fun r8 _ => ?_)
  exact ok_lt (k _ h7)
theorem c_1395 {L : Nat} {xs : Nat → Int32} {kr : St → Int32 → Option Int32} {σ : St} {x3 : Int32} (h : INV σ) (h0 : 0 ≤ x3.toInt) (hl : x3.toInt + 6 ≤ (L : Int)) (hL : L ≤ 3072) (k : LK kr x3) : ok (fL_b1395 L xs kr σ x3) (fun r => r = 1) := by
  unfold fL_b1395
  refine ok_gd (g_k (n := 1) rfl h0 hl hL (by decide) (by decide)) ?_
  refine ok_gd (g_k (n := 2) rfl h0 hl hL (by decide) (by decide)) ?_
  refine ok_bs (o_fX7_claims h.k) (fun r7 s7 q7 => ?_)
  have h7 := h.co q7.2
  refine ok_gd (g_k (n := 1) rfl h0 hl hL (by decide) (by decide)) ?_
  refine ok_gd (g_k (n := 2) rfl h0 hl hL (by decide) (by decide)) ?_
  refine ok_bs (o_fX8_claims h7.k) (fun r8 s8 q8 => ?_)
  have h8 := h7.co q8.2
  exact ok_lt (k _ h8)
theorem c_1428 {L : Nat} {xs : Nat → Int32} {kr : St → Int32 → Option Int32} {σ : St} {x3 : Int32} (h : INV σ) (h0 : 0 ≤ x3.toInt) (hl : x3.toInt + 6 ≤ (L : Int)) (hL : L ≤ 3072) (k : LK kr x3) : ok (fL_b1428 L xs kr σ x3) (fun r => r = 1) := by
  unfold fL_b1428
  refine ok_gd (g_k (n := 1) rfl h0 hl hL (by decide) (by decide)) ?_
  refine ok_gd (g_k (n := 2) rfl h0 hl hL (by decide) (by decide)) ?_
  refine ok_bs (o_fX7_outcome h.k) (fun r7 s7 q7 => ?_)
  have h7 := h.co q7.2
  refine ok_gd (g_k (n := 1) rfl h0 hl hL (by decide) (by decide)) ?_
  refine ok_gd (g_k (n := 2) rfl h0 hl hL (by decide) (by decide)) ?_
  refine ok_bs (o_fX8_outcome h7.k) (fun r8 s8 q8 => ?_)
  have h8 := h7.co q8.2
  exact ok_lt (k _ h8)
theorem c_1461 {L : Nat} {xs : Nat → Int32} {kr : St → Int32 → Option Int32} {σ : St} {x3 : Int32} (h : INV σ) (h0 : 0 ≤ x3.toInt) (hl : x3.toInt + 6 ≤ (L : Int)) (hL : L ≤ 3072) (k : LK kr x3) : ok (fL_b1461 L xs kr σ x3) (fun r => r = 1) := by
  unfold fL_b1461
  refine ok_gd (g_k (n := 1) rfl h0 hl hL (by decide) (by decide)) ?_
  refine ok_gd (g_k (n := 2) rfl h0 hl hL (by decide) (by decide)) ?_
  refine ok_bs (o_fX7_kitchen h.k) (fun r7 s7 q7 => ?_)
  have h7 := h.co q7.2
  refine ok_gd (g_k (n := 1) rfl h0 hl hL (by decide) (by decide)) ?_
  refine ok_gd (g_k (n := 2) rfl h0 hl hL (by decide) (by decide)) ?_
  refine ok_bs (o_fX8_kitchen h7.k) (fun r8 s8 q8 => ?_)
  have h8 := h7.co q8.2
  exact ok_lt (k _ h8)
theorem c_1494 {L : Nat} {xs : Nat → Int32} {kr : St → Int32 → Option Int32} {σ : St} {x3 : Int32} (h : INV σ) (h0 : 0 ≤ x3.toInt) (hl : x3.toInt + 6 ≤ (L : Int)) (hL : L ≤ 3072) (k : LK kr x3) : ok (fL_b1494 L xs kr σ x3) (fun r => r = 1) := by
  unfold fL_b1494
  refine ok_gd (g_k (n := 1) rfl h0 hl hL (by decide) (by decide)) ?_
  refine ok_gd (g_k (n := 2) rfl h0 hl hL (by decide) (by decide)) ?_
  refine ok_bs (o_fX7_when h.k) (fun r7 s7 q7 => ?_)
  have h7 := h.co q7.2
  refine ok_gd (g_k (n := 1) rfl h0 hl hL (by decide) (by decide)) ?_
  refine ok_gd (g_k (n := 2) rfl h0 hl hL (by decide) (by decide)) ?_
  refine ok_bs (o_fX8_when h7.k) (fun r8 s8 q8 => ?_)
  have h8 := h7.co q8.2
  exact ok_lt (k _ h8)
theorem c_1527 {L : Nat} {xs : Nat → Int32} {kr : St → Int32 → Option Int32} {σ : St} {x3 : Int32} (h : INV σ) (h0 : 0 ≤ x3.toInt) (hl : x3.toInt + 6 ≤ (L : Int)) (hL : L ≤ 3072) (k : LK kr x3) : ok (fL_b1527 L xs kr σ x3) (fun r => r = 1) := by
  unfold fL_b1527
  refine ok_gd (g_k (n := 1) rfl h0 hl hL (by decide) (by decide)) ?_
  refine ok_gd (g_k (n := 2) rfl h0 hl hL (by decide) (by decide)) ?_
  refine ok_bs (o_fX7_shares h.k) (fun r7 s7 q7 => ?_)
  have h7 := h.co q7.2
  refine ok_gd (g_k (n := 1) rfl h0 hl hL (by decide) (by decide)) ?_
  refine ok_gd (g_k (n := 2) rfl h0 hl hL (by decide) (by decide)) ?_
  refine ok_bs (o_fX8_shares h7.k) (fun r8 s8 q8 => ?_)
  have h8 := h7.co q8.2
  exact ok_lt (k _ h8)
theorem c_1560 {L : Nat} {xs : Nat → Int32} {kr : St → Int32 → Option Int32} {σ : St} {x3 : Int32} (h : INV σ) (h0 : 0 ≤ x3.toInt) (hl : x3.toInt + 6 ≤ (L : Int)) (hL : L ≤ 3072) (k : LK kr x3) : ok (fL_b1560 L xs kr σ x3) (fun r => r = 1) := by
  unfold fL_b1560
  refine ok_gd (g_k (n := 1) rfl h0 hl hL (by decide) (by decide)) ?_
  refine ok_gd (g_k (n := 2) rfl h0 hl hL (by decide) (by decide)) ?_
  refine ok_gd (g_k (n := 3) rfl h0 hl hL (by decide) (by decide)) ?_
  refine ok_bs (o_fX7_busy h.k) (fun r7 s7 q7 => ?_)
  have h7 := h.co q7.2
  refine ok_gd (g_k (n := 1) rfl h0 hl hL (by decide) (by decide)) ?_
  refine ok_gd (g_k (n := 2) rfl h0 hl hL (by decide) (by decide)) ?_
  refine ok_gd (g_k (n := 3) rfl h0 hl hL (by decide) (by decide)) ?_
  refine ok_bs (o_fX8_busy h7.k) (fun r8 s8 q8 => ?_)
  have h8 := h7.co q8.2
  exact ok_lt (k _ h8)
theorem c_1603 {L : Nat} {xs : Nat → Int32} {kr : St → Int32 → Option Int32} {σ : St} {x3 : Int32} (h : INV σ) (h0 : 0 ≤ x3.toInt) (hl : x3.toInt + 6 ≤ (L : Int)) (hL : L ≤ 3072) (k : LK kr x3) : ok (fL_b1603 L xs kr σ x3) (fun r => r = 1) := by
  unfold fL_b1603
  refine ok_bs (o_fX7_duel h.k) (fun r7 s7 q7 => ?_)
  have h7 := h.co q7.2
  refine ok_bs (o_fX8_duel h7.k) (fun r8 s8 q8 => ?_)
  have h8 := h7.co q8.2
  exact ok_lt (k _ h8)
theorem c_1616 {L : Nat} {xs : Nat → Int32} {kr : St → Int32 → Option Int32} {σ : St} {x3 : Int32} (h : INV σ) (h0 : 0 ≤ x3.toInt) (hl : x3.toInt + 6 ≤ (L : Int)) (hL : L ≤ 3072) (k : LK kr x3) : ok (fL_b1616 L xs kr σ x3) (fun r => r = 1) := by
  unfold fL_b1616
  refine ok_bs (o_fX7_move h.k) (fun r7 s7 q7 => ?_)
  have h7 := h.co q7.2
  refine ok_bs (o_fX8_move h7.k) (fun r8 s8 q8 => ?_)
  have h8 := h7.co q8.2
  exact ok_lt (k _ h8)
theorem c_1629 {L : Nat} {xs : Nat → Int32} {kr : St → Int32 → Option Int32} {σ : St} {x3 : Int32} (h : INV σ) (h0 : 0 ≤ x3.toInt) (hl : x3.toInt + 6 ≤ (L : Int)) (hL : L ≤ 3072) (k : LK kr x3) : ok (fL_b1629 L xs kr σ x3) (fun r => r = 1) := by
  unfold fL_b1629
  refine ok_bs (o_fX7_lasts h.k) (fun r7 s7 q7 => ?_)
  have h7 := h.co q7.2
  refine ok_bs (o_fX8_lasts h7.k) (fun r8 s8 q8 => ?_)
  have h8 := h7.co q8.2
  exact ok_lt (k _ h8)
theorem c_1642 {L : Nat} {xs : Nat → Int32} {kr : St → Int32 → Option Int32} {σ : St} {x3 : Int32} (h : INV σ) (h0 : 0 ≤ x3.toInt) (hl : x3.toInt + 6 ≤ (L : Int)) (hL : L ≤ 3072) (k : LK kr x3) : ok (fL_b1642 L xs kr σ x3) (fun r => r = 1) := by
  unfold fL_b1642
  refine ok_bp (o_fX7_idle h.k) (fun r7 _ => ?_)
  refine ok_bp (o_fX8_idle h.k) (fun r8 _ => ?_)
  exact ok_lt (k _ h)
theorem c_1655 {L : Nat} {xs : Nat → Int32} {kr : St → Int32 → Option Int32} {σ : St} {x3 : Int32} (h : INV σ) (h0 : 0 ≤ x3.toInt) (hl : x3.toInt + 6 ≤ (L : Int)) (hL : L ≤ 3072) (k : LK kr x3) : ok (fL_b1655 L xs kr σ x3) (fun r => r = 1) := by
  unfold fL_b1655
  refine ok_bs (o_fX7_core h.k) (fun r7 s7 q7 => ?_)
  have h7 := h.co q7.2
  refine ok_bp (o_fX8_core h7.k) (fun r8 _ => ?_)
  exact ok_lt (k _ h7)
theorem c_1668 {L : Nat} {xs : Nat → Int32} {kr : St → Int32 → Option Int32} {σ : St} {x3 : Int32} (h : INV σ) (h0 : 0 ≤ x3.toInt) (hl : x3.toInt + 6 ≤ (L : Int)) (hL : L ≤ 3072) (k : LK kr x3) : ok (fL_b1668 L xs kr σ x3) (fun r => r = 1) := by
  unfold fL_b1668
  refine ok_bs (o_fX7_cored h.k) (fun r7 s7 q7 => ?_)
  have h7 := h.co q7.2
  refine ok_bp (o_fX8_cored h7.k) (fun r8 _ => ?_)
  exact ok_lt (k _ h7)
theorem c_1681 {L : Nat} {xs : Nat → Int32} {kr : St → Int32 → Option Int32} {σ : St} {x3 : Int32} (h : INV σ) (h0 : 0 ≤ x3.toInt) (hl : x3.toInt + 6 ≤ (L : Int)) (hL : L ≤ 3072) (k : LK kr x3) : ok (fL_b1681 L xs kr σ x3) (fun r => r = 1) := by
  unfold fL_b1681
  refine ok_gd (g_k (n := 1) rfl h0 hl hL (by decide) (by decide)) ?_
  refine ok_gd (g_k (n := 2) rfl h0 hl hL (by decide) (by decide)) ?_
  refine ok_bp (o_fX7_likely h.k) (fun r7 _ => ?_)
  refine ok_gd (g_k (n := 1) rfl h0 hl hL (by decide) (by decide)) ?_
  refine ok_gd (g_k (n := 2) rfl h0 hl hL (by decide) (by decide)) ?_
  refine ok_bp (o8_likely h.k) (fun r8 _ => ?_)
  exact ok_lt (k _ h)
theorem c_1714 {L : Nat} {xs : Nat → Int32} {kr : St → Int32 → Option Int32} {σ : St} {x3 : Int32} (h : INV σ) (h0 : 0 ≤ x3.toInt) (hl : x3.toInt + 6 ≤ (L : Int)) (hL : L ≤ 3072) (k : LK kr x3) : ok (fL_b1714 L xs kr σ x3) (fun r => r = 1) := by
  unfold fL_b1714
  refine ok_bp (o_fX7_ask h.k) (fun r7 _ => ?_)
  refine ok_bp (o_fX8_ask h.k) (fun r8 _ => ?_)
  exact ok_lt (k _ h)
theorem c_1727 {L : Nat} {xs : Nat → Int32} {kr : St → Int32 → Option Int32} {σ : St} {x3 : Int32} (h : INV σ) (h0 : 0 ≤ x3.toInt) (hl : x3.toInt + 6 ≤ (L : Int)) (hL : L ≤ 3072) (k : LK kr x3) : ok (fL_b1727 L xs kr σ x3) (fun r => r = 1) := by
  unfold fL_b1727
  refine ok_bp (o_fX7_leaves h.k) (fun r7 _ => ?_)
  refine ok_bp (o_fX8_leaves h.k) (fun r8 _ => ?_)
  exact ok_lt (k _ h)
theorem c_1740 {L : Nat} {xs : Nat → Int32} {kr : St → Int32 → Option Int32} {σ : St} {x3 : Int32} (h : INV σ) (h0 : 0 ≤ x3.toInt) (hl : x3.toInt + 6 ≤ (L : Int)) (hL : L ≤ 3072) (k : LK kr x3) : ok (fL_b1740 L xs kr σ x3) (fun r => r = 1) := by
  unfold fL_b1740
  refine ok_bp (o_fX7_unlike h.k) (fun r7 _ => ?_)
  refine ok_bp (o_fX8_unlike h.k) (fun r8 _ => ?_)
  exact ok_lt (k _ h)
theorem c_1753 {L : Nat} {xs : Nat → Int32} {kr : St → Int32 → Option Int32} {σ : St} {x3 : Int32} (h : INV σ) (h0 : 0 ≤ x3.toInt) (hl : x3.toInt + 6 ≤ (L : Int)) (hL : L ≤ 3072) (k : LK kr x3) : ok (fL_b1753 L xs kr σ x3) (fun r => r = 1) := by
  unfold fL_b1753
  refine ok_gd (g_k (n := 1) rfl h0 hl hL (by decide) (by decide)) ?_
  refine ok_bs (o_fX7_falls h.k) (fun r7 s7 q7 => ?_)
  have h7 := h.co q7.2
  refine ok_gd (g_k (n := 1) rfl h0 hl hL (by decide) (by decide)) ?_
  refine ok_bp (o_fX8_falls h7.k) (fun r8 _ => ?_)
  exact ok_lt (k _ h7)
theorem c_1776 {L : Nat} {xs : Nat → Int32} {kr : St → Int32 → Option Int32} {σ : St} {x3 : Int32} (h : INV σ) (h0 : 0 ≤ x3.toInt) (hl : x3.toInt + 6 ≤ (L : Int)) (hL : L ≤ 3072) (k : LK kr x3) : ok (fL_b1776 L xs kr σ x3) (fun r => r = 1) := by
  unfold fL_b1776
  refine ok_gd (g_k (n := 1) rfl h0 hl hL (by decide) (by decide)) ?_
  refine ok_bs (o_fX7_spare h.k) (fun r7 s7 q7 => ?_)
  have h7 := h.co q7.2
  refine ok_gd (g_k (n := 1) rfl h0 hl hL (by decide) (by decide)) ?_
  refine ok_bp (o_fX8_spare h7.k) (fun r8 _ => ?_)
  exact ok_lt (k _ h7)
theorem c_1799 {L : Nat} {xs : Nat → Int32} {kr : St → Int32 → Option Int32} {σ : St} {x3 : Int32} (h : INV σ) (h0 : 0 ≤ x3.toInt) (hl : x3.toInt + 6 ≤ (L : Int)) (hL : L ≤ 3072) (k : LK kr x3) : ok (fL_b1799 L xs kr σ x3) (fun r => r = 1) := by
  unfold fL_b1799
  refine ok_gd (g_k (n := 1) rfl h0 hl hL (by decide) (by decide)) ?_
  refine ok_bs (o_fX7_spared h.k) (fun r7 s7 q7 => ?_)
  have h7 := h.co q7.2
  refine ok_gd (g_k (n := 1) rfl h0 hl hL (by decide) (by decide)) ?_
  refine ok_bp (o_fX8_spared h7.k) (fun r8 _ => ?_)
  exact ok_lt (k _ h7)
theorem c_1822 {L : Nat} {xs : Nat → Int32} {kr : St → Int32 → Option Int32} {σ : St} {x3 : Int32} (h : INV σ) (h0 : 0 ≤ x3.toInt) (hl : x3.toInt + 6 ≤ (L : Int)) (hL : L ≤ 3072) (k : LK kr x3) : ok (fL_b1822 L xs kr σ x3) (fun r => r = 1) := by
  unfold fL_b1822
  obtain ⟨r, σ1, r2, σ2, e1, e2, h2⟩ := t_salt h (xs (x3 + (1 : Int32)).toNatClampNeg) (xs (x3 + (2 : Int32)).toNatClampNeg)
  replace e2 : fX8_salt σ1 (xs (x3 + (1 : Int32)).toNatClampNeg) (xs (x3 + (2 : Int32)).toNatClampNeg) = some (r2, σ2) := e2
  refine ok_gd (g_k (n := 1) rfl h0 hl hL (by decide) (by decide)) ?_
  refine ok_gd (g_k (n := 2) rfl h0 hl hL (by decide) (by decide)) ?_
  refine ok_bsE e1 ?_
  refine ok_gd (g_k (n := 1) rfl h0 hl hL (by decide) (by decide)) ?_
  refine ok_gd (g_k (n := 2) rfl h0 hl hL (by decide) (by decide)) ?_
  refine ok_bsE e2 ?_
  exact ok_lt (k _ h2)
theorem c_1855 {L : Nat} {xs : Nat → Int32} {kr : St → Int32 → Option Int32} {σ : St} {x3 : Int32} (h : INV σ) (h0 : 0 ≤ x3.toInt) (hl : x3.toInt + 6 ≤ (L : Int)) (hL : L ≤ 3072) (k : LK kr x3) : ok (fL_b1855 L xs kr σ x3) (fun r => r = 1) := by
  unfold fL_b1855
  refine ok_gd (g_k (n := 1) rfl h0 hl hL (by decide) (by decide)) ?_
  refine ok_bs (o_fX7_ate h.k) (fun r7 s7 q7 => ?_)
  have h7 := h.co q7.2
  refine ok_gd (g_k (n := 1) rfl h0 hl hL (by decide) (by decide)) ?_
  refine ok_bp (o_fX8_ate h7.k) (fun r8 _ => ?_)
  exact ok_lt (k _ h7)
theorem c_1878 {L : Nat} {xs : Nat → Int32} {kr : St → Int32 → Option Int32} {σ : St} {x3 : Int32} (h : INV σ) (h0 : 0 ≤ x3.toInt) (hl : x3.toInt + 6 ≤ (L : Int)) (hL : L ≤ 3072) (k : LK kr x3) : ok (fL_b1878 L xs kr σ x3) (fun r => r = 1) := by
  unfold fL_b1878
  refine ok_gd (g_k (n := 1) rfl h0 hl hL (by decide) (by decide)) ?_
  refine ok_gd (g_k (n := 2) rfl h0 hl hL (by decide) (by decide)) ?_
  refine ok_bs (o_fX7_borrowed h.k) (fun r7 s7 q7 => ?_)
  have h7 := h.co q7.2
  refine ok_gd (g_k (n := 1) rfl h0 hl hL (by decide) (by decide)) ?_
  refine ok_gd (g_k (n := 2) rfl h0 hl hL (by decide) (by decide)) ?_
  refine ok_bp (o_fX8_borrowed h7.k) (fun r8 _ => ?_)
  exact ok_lt (k _ h7)
theorem c_1911 {L : Nat} {xs : Nat → Int32} {kr : St → Int32 → Option Int32} {σ : St} {x3 : Int32} (h : INV σ) (h0 : 0 ≤ x3.toInt) (hl : x3.toInt + 6 ≤ (L : Int)) (hL : L ≤ 3072) (k : LK kr x3) : ok (fL_b1911 L xs kr σ x3) (fun r => r = 1) := by
  unfold fL_b1911
  refine ok_gd (g_k (n := 1) rfl h0 hl hL (by decide) (by decide)) ?_
  refine ok_gd (g_k (n := 2) rfl h0 hl hL (by decide) (by decide)) ?_
  refine ok_bs (o_fX7_lent h.k) (fun r7 s7 q7 => ?_)
  have h7 := h.co q7.2
  refine ok_gd (g_k (n := 1) rfl h0 hl hL (by decide) (by decide)) ?_
  refine ok_gd (g_k (n := 2) rfl h0 hl hL (by decide) (by decide)) ?_
  refine ok_bp (o_fX8_lent h7.k) (fun r8 _ => ?_)
  exact ok_lt (k _ h7)
theorem c_1944 {L : Nat} {xs : Nat → Int32} {kr : St → Int32 → Option Int32} {σ : St} {x3 : Int32} (h : INV σ) (h0 : 0 ≤ x3.toInt) (hl : x3.toInt + 6 ≤ (L : Int)) (hL : L ≤ 3072) (k : LK kr x3) : ok (fL_b1944 L xs kr σ x3) (fun r => r = 1) := by
  unfold fL_b1944
  obtain ⟨r, σ1, r2, σ2, e1, e2, h2⟩ := t_adds h (xs (x3 + (1 : Int32)).toNatClampNeg) (xs (x3 + (2 : Int32)).toNatClampNeg)
  replace e2 : fX8_adds σ1 (xs (x3 + (1 : Int32)).toNatClampNeg) (xs (x3 + (2 : Int32)).toNatClampNeg) = some (r2, σ2) := e2
  refine ok_gd (g_k (n := 1) rfl h0 hl hL (by decide) (by decide)) ?_
  refine ok_gd (g_k (n := 2) rfl h0 hl hL (by decide) (by decide)) ?_
  refine ok_bsE e1 ?_
  refine ok_gd (g_k (n := 1) rfl h0 hl hL (by decide) (by decide)) ?_
  refine ok_gd (g_k (n := 2) rfl h0 hl hL (by decide) (by decide)) ?_
  refine ok_bsE e2 ?_
  exact ok_lt (k _ h2)
theorem c_1977 {L : Nat} {xs : Nat → Int32} {kr : St → Int32 → Option Int32} {σ : St} {x3 : Int32} (h : INV σ) (h0 : 0 ≤ x3.toInt) (hl : x3.toInt + 6 ≤ (L : Int)) (hL : L ≤ 3072) (k : LK kr x3) : ok (fL_b1977 L xs kr σ x3) (fun r => r = 1) := by
  unfold fL_b1977
  obtain ⟨r, σ1, r2, σ2, e1, e2, h2⟩ := t_drops h 
  replace e2 : fX8_drops σ1  = some (r2, σ2) := e2
  refine ok_bsE e1 ?_
  refine ok_bsE e2 ?_
  exact ok_lt (k _ h2)
theorem c_1990 {L : Nat} {xs : Nat → Int32} {kr : St → Int32 → Option Int32} {σ : St} {x3 : Int32} (h : INV σ) (h0 : 0 ≤ x3.toInt) (hl : x3.toInt + 6 ≤ (L : Int)) (hL : L ≤ 3072) (k : LK kr x3) : ok (fL_b1990 L xs kr σ x3) (fun r => r = 1) := by
  unfold fL_b1990
  obtain ⟨r, σ1, r2, σ2, e1, e2, h2⟩ := t_teach h (xs (x3 + (1 : Int32)).toNatClampNeg) (xs (x3 + (2 : Int32)).toNatClampNeg) (xs (x3 + (3 : Int32)).toNatClampNeg)
  replace e2 : fX8_teach σ1 (xs (x3 + (1 : Int32)).toNatClampNeg) (xs (x3 + (2 : Int32)).toNatClampNeg) (xs (x3 + (3 : Int32)).toNatClampNeg) = some (r2, σ2) := e2
  refine ok_gd (g_k (n := 1) rfl h0 hl hL (by decide) (by decide)) ?_
  refine ok_gd (g_k (n := 2) rfl h0 hl hL (by decide) (by decide)) ?_
  refine ok_gd (g_k (n := 3) rfl h0 hl hL (by decide) (by decide)) ?_
  refine ok_bsE e1 ?_
  refine ok_gd (g_k (n := 1) rfl h0 hl hL (by decide) (by decide)) ?_
  refine ok_gd (g_k (n := 2) rfl h0 hl hL (by decide) (by decide)) ?_
  refine ok_gd (g_k (n := 3) rfl h0 hl hL (by decide) (by decide)) ?_
  refine ok_bsE e2 ?_
  exact ok_lt (k _ h2)
theorem c_2033 {L : Nat} {xs : Nat → Int32} {kr : St → Int32 → Option Int32} {σ : St} {x3 : Int32} (h : INV σ) (h0 : 0 ≤ x3.toInt) (hl : x3.toInt + 6 ≤ (L : Int)) (hL : L ≤ 3072) (k : LK kr x3) : ok (fL_b2033 L xs kr σ x3) (fun r => r = 1) := by
  unfold fL_b2033
  refine ok_gd (g_k (n := 1) rfl h0 hl hL (by decide) (by decide)) ?_
  refine ok_bp (o_fX7_drawn h.k) (fun r7 _ => ?_)
  refine ok_gd (g_k (n := 1) rfl h0 hl hL (by decide) (by decide)) ?_
  refine ok_bp (o_fX8_drawn h.k) (fun r8 _ => ?_)
  exact ok_lt (k _ h)
theorem c_2056 {L : Nat} {xs : Nat → Int32} {kr : St → Int32 → Option Int32} {σ : St} {x3 : Int32} (h : INV σ) (h0 : 0 ≤ x3.toInt) (hl : x3.toInt + 6 ≤ (L : Int)) (hL : L ≤ 3072) (k : LK kr x3) : ok (fL_b2056 L xs kr σ x3) (fun r => r = 1) := by
  unfold fL_b2056
  refine ok_gd (g_k (n := 1) rfl h0 hl hL (by decide) (by decide)) ?_
  refine ok_gd (g_k (n := 2) rfl h0 hl hL (by decide) (by decide)) ?_
  refine ok_bs (o_fX7_feast h.k) (fun r7 s7 q7 => ?_)
  have h7 := h.co q7.2
  refine ok_gd (g_k (n := 1) rfl h0 hl hL (by decide) (by decide)) ?_
  refine ok_gd (g_k (n := 2) rfl h0 hl hL (by decide) (by decide)) ?_
  refine ok_bs (o_fX8_feast h7.k) (fun r8 s8 q8 => ?_)
  have h8 := h7.co q8.2
  exact ok_lt (k _ h8)
theorem c_2089 {L : Nat} {xs : Nat → Int32} {kr : St → Int32 → Option Int32} {σ : St} {x3 : Int32} (h : INV σ) (h0 : 0 ≤ x3.toInt) (hl : x3.toInt + 6 ≤ (L : Int)) (hL : L ≤ 3072) (k : LK kr x3) : ok (fL_b2089 L xs kr σ x3) (fun r => r = 1) := by
  unfold fL_b2089
  refine ok_gd (g_k (n := 1) rfl h0 hl hL (by decide) (by decide)) ?_
  refine ok_gd (g_k (n := 2) rfl h0 hl hL (by decide) (by decide)) ?_
  refine ok_gd (g_k (n := 3) rfl h0 hl hL (by decide) (by decide)) ?_
  refine ok_gd (g_k (n := 4) rfl h0 hl hL (by decide) (by decide)) ?_
  refine ok_bs (o_fX7_mean h.k) (fun r7 s7 q7 => ?_)
  have h7 := h.co q7.2
  refine ok_gd (g_k (n := 1) rfl h0 hl hL (by decide) (by decide)) ?_
  refine ok_gd (g_k (n := 2) rfl h0 hl hL (by decide) (by decide)) ?_
  refine ok_gd (g_k (n := 3) rfl h0 hl hL (by decide) (by decide)) ?_
  refine ok_gd (g_k (n := 4) rfl h0 hl hL (by decide) (by decide)) ?_
  refine ok_bs (o_fX8_mean h7.k) (fun r8 s8 q8 => ?_)
  have h8 := h7.co q8.2
  exact ok_lt (k _ h8)
theorem c_2142 {L : Nat} {xs : Nat → Int32} {kr : St → Int32 → Option Int32} {σ : St} {x3 : Int32} (h : INV σ) (h0 : 0 ≤ x3.toInt) (hl : x3.toInt + 6 ≤ (L : Int)) (hL : L ≤ 3072) (k : LK kr x3) : ok (fL_b2142 L xs kr σ x3) (fun r => r = 1) := by
  unfold fL_b2142
  refine ok_gd (g_k (n := 1) rfl h0 hl hL (by decide) (by decide)) ?_
  refine ok_bp (o_fX7_count h.k) (fun r7 _ => ?_)
  refine ok_gd (g_k (n := 1) rfl h0 hl hL (by decide) (by decide)) ?_
  refine ok_bp (o_fX8_count h.k) (fun r8 _ => ?_)
  exact ok_lt (k _ h)
theorem c_2165 {L : Nat} {xs : Nat → Int32} {kr : St → Int32 → Option Int32} {σ : St} {x3 : Int32} (h : INV σ) (h0 : 0 ≤ x3.toInt) (hl : x3.toInt + 6 ≤ (L : Int)) (hL : L ≤ 3072) (k : LK kr x3) : ok (fL_b2165 L xs kr σ x3) (fun r => r = 1) := by
  unfold fL_b2165
  obtain ⟨r, σ1, σ2, e1, e2, h2⟩ := t_image h (xs (x3 + (1 : Int32)).toNatClampNeg)
  refine ok_gd (g_k (n := 1) rfl h0 hl hL (by decide) (by decide)) ?_
  refine ok_bsE e1 ?_
  refine ok_gd (g_k (n := 1) rfl h0 hl hL (by decide) (by decide)) ?_
  refine ok_bsE e2 ?_
  exact ok_lt (k _ h2)
theorem c_2188 {L : Nat} {xs : Nat → Int32} {kr : St → Int32 → Option Int32} {σ : St} {x3 : Int32} (h : INV σ) (h0 : 0 ≤ x3.toInt) (hl : x3.toInt + 6 ≤ (L : Int)) (hL : L ≤ 3072) (k : LK kr x3) : ok (fL_b2188 L xs kr σ x3) (fun r => r = 1) := by
  unfold fL_b2188
  obtain ⟨r, σ1, σ2, e1, e2, h2⟩ := t_back h (xs (x3 + (1 : Int32)).toNatClampNeg)
  refine ok_gd (g_k (n := 1) rfl h0 hl hL (by decide) (by decide)) ?_
  refine ok_bsE e1 ?_
  refine ok_gd (g_k (n := 1) rfl h0 hl hL (by decide) (by decide)) ?_
  refine ok_bsE e2 ?_
  exact ok_lt (k _ h2)
theorem c_2211 {L : Nat} {xs : Nat → Int32} {kr : St → Int32 → Option Int32} {σ : St} {x3 : Int32} (h : INV σ) (h0 : 0 ≤ x3.toInt) (hl : x3.toInt + 6 ≤ (L : Int)) (hL : L ≤ 3072) (k : LK kr x3) : ok (fL_b2211 L xs kr σ x3) (fun r => r = 1) := by
  unfold fL_b2211
  obtain ⟨r, σ1, σ2, e1, e2, h2⟩ := t_row h (xs (x3 + (1 : Int32)).toNatClampNeg) (xs (x3 + (2 : Int32)).toNatClampNeg) (xs (x3 + (3 : Int32)).toNatClampNeg)
  refine ok_gd (g_k (n := 1) rfl h0 hl hL (by decide) (by decide)) ?_
  refine ok_gd (g_k (n := 2) rfl h0 hl hL (by decide) (by decide)) ?_
  refine ok_gd (g_k (n := 3) rfl h0 hl hL (by decide) (by decide)) ?_
  refine ok_bsE e1 ?_
  refine ok_gd (g_k (n := 1) rfl h0 hl hL (by decide) (by decide)) ?_
  refine ok_gd (g_k (n := 2) rfl h0 hl hL (by decide) (by decide)) ?_
  refine ok_gd (g_k (n := 3) rfl h0 hl hL (by decide) (by decide)) ?_
  refine ok_bsE e2 ?_
  exact ok_lt (k _ h2)
theorem c_2254 {L : Nat} {xs : Nat → Int32} {kr : St → Int32 → Option Int32} {σ : St} {x3 : Int32} (h : INV σ) (h0 : 0 ≤ x3.toInt) (hl : x3.toInt + 6 ≤ (L : Int)) (hL : L ≤ 3072) (k : LK kr x3) : ok (fL_b2254 L xs kr σ x3) (fun r => r = 1) := by
  unfold fL_b2254
  obtain ⟨r, σ1, σ2, e1, e2, h2⟩ := t_write h (xs (x3 + (1 : Int32)).toNatClampNeg) (xs (x3 + (2 : Int32)).toNatClampNeg) ((((xs (x3 + (3 : Int32)).toNatClampNeg).toInt64) <<< ((32 : Int32).toInt64 &&& 63)) ||| (((xs (x3 + (4 : Int32)).toNatClampNeg).toInt64) &&& (4294967295 : Int64)))
  refine ok_gd (g_k (n := 1) rfl h0 hl hL (by decide) (by decide)) ?_
  refine ok_gd (g_k (n := 2) rfl h0 hl hL (by decide) (by decide)) ?_
  refine ok_gd (g_k (n := 3) rfl h0 hl hL (by decide) (by decide)) ?_
  refine ok_gd (g_k (n := 4) rfl h0 hl hL (by decide) (by decide)) ?_
  refine ok_bsE e1 ?_
  refine ok_gd (g_k (n := 1) rfl h0 hl hL (by decide) (by decide)) ?_
  refine ok_gd (g_k (n := 2) rfl h0 hl hL (by decide) (by decide)) ?_
  refine ok_gd (g_k (n := 3) rfl h0 hl hL (by decide) (by decide)) ?_
  refine ok_gd (g_k (n := 4) rfl h0 hl hL (by decide) (by decide)) ?_
  refine ok_bsE e2 ?_
  exact ok_lt (k _ h2)
theorem c_2327 {L : Nat} {xs : Nat → Int32} {kr : St → Int32 → Option Int32} {σ : St} {x3 : Int32} (h : INV σ) (h0 : 0 ≤ x3.toInt) (hl : x3.toInt + 6 ≤ (L : Int)) (hL : L ≤ 3072) (k : LK kr x3) : ok (fL_b2327 L xs kr σ x3) (fun r => r = 1) := by
  unfold fL_b2327
  obtain ⟨r, σ1, σ2, e1, e2, h2⟩ := t_paste h (xs (x3 + (1 : Int32)).toNatClampNeg) (xs (x3 + (2 : Int32)).toNatClampNeg) (xs (x3 + (3 : Int32)).toNatClampNeg) (xs (x3 + (4 : Int32)).toNatClampNeg) (xs (x3 + (5 : Int32)).toNatClampNeg)
  refine ok_gd (g_k (n := 1) rfl h0 hl hL (by decide) (by decide)) ?_
  refine ok_gd (g_k (n := 2) rfl h0 hl hL (by decide) (by decide)) ?_
  refine ok_gd (g_k (n := 3) rfl h0 hl hL (by decide) (by decide)) ?_
  refine ok_gd (g_k (n := 4) rfl h0 hl hL (by decide) (by decide)) ?_
  refine ok_gd (g_k (n := 5) rfl h0 hl hL (by decide) (by decide)) ?_
  refine ok_bsE e1 ?_
  refine ok_gd (g_k (n := 1) rfl h0 hl hL (by decide) (by decide)) ?_
  refine ok_gd (g_k (n := 2) rfl h0 hl hL (by decide) (by decide)) ?_
  refine ok_gd (g_k (n := 3) rfl h0 hl hL (by decide) (by decide)) ?_
  refine ok_gd (g_k (n := 4) rfl h0 hl hL (by decide) (by decide)) ?_
  refine ok_gd (g_k (n := 5) rfl h0 hl hL (by decide) (by decide)) ?_
  refine ok_bsE e2 ?_
  exact ok_if (fun _ => ok_lt (k _ h2)) (fun q => absurd rfl q)
set_option maxRecDepth 20000 in
set_option maxHeartbeats 4000000 in
theorem law_run {L : Nat} {xs : Nat → Int32} (hL : L ≤ 3072) : ∀ (n : Nat) (σ : St) (x3 : Int32), INV σ → 0 ≤ x3.toInt → ((L : Int) + 1 - x3.toInt).toNat < n → ok (fL_l18 L xs n σ x3) (fun r => r = 1) := by
  intro n
  induction n with
  | zero => intro σ x3 h h0 hm; omega
  | succ n ih =>
    intro σ x3 h h0 hm
    show ok (fL_B18 L xs (fL_l18 L xs n) σ x3) _
    unfold fL_B18
    have eL : (Int32.ofNat L).toInt = (L : Int) := nI_toInt (by omega)
    have e6 : (Int32.ofNat L - (6 : Int32)).toInt = (L : Int) - 6 := i_sub eL rfl (by omega) (by omega)
    refine ok_lw e6 rfl (fun _ => ok_some rfl) (fun c => ?_)
    have hl : x3.toInt + 6 ≤ (L : Int) := by omega
    have ex : (x3 + (6 : Int32)).toInt = x3.toInt + 6 := i_add rfl rfl (by omega) (by omega)
    have k : LK (fL_l18 L xs n) x3 := fun τ i => ih τ _ i (by rw [ex]; omega) (by rw [ex]; omega)
    refine ok_gd ⟨h0, by omega⟩ ?_
    refine ok_if (fun _ => c_352 h h0 hl hL k) (fun _ => ?_)
    refine ok_if (fun _ => c_415 h h0 hl hL k) (fun _ => ?_)
    refine ok_if (fun _ => c_438 h h0 hl hL k) (fun _ => ?_)
    refine ok_if (fun _ => c_451 h h0 hl hL k) (fun _ => ?_)
    refine ok_if (fun _ => c_474 h h0 hl hL k) (fun _ => ?_)
    refine ok_if (fun _ => c_507 h h0 hl hL k) (fun _ => ?_)
    refine ok_if (fun _ => c_530 h h0 hl hL k) (fun _ => ?_)
    refine ok_if (fun _ => c_563 h h0 hl hL k) (fun _ => ?_)
    refine ok_if (fun _ => c_596 h h0 hl hL k) (fun _ => ?_)
    refine ok_if (fun _ => c_609 h h0 hl hL k) (fun _ => ?_)
    refine ok_if (fun _ => c_632 h h0 hl hL k) (fun _ => ?_)
    refine ok_if (fun _ => c_655 h h0 hl hL k) (fun _ => ?_)
    refine ok_if (fun _ => c_688 h h0 hl hL k) (fun _ => ?_)
    refine ok_if (fun _ => c_711 h h0 hl hL k) (fun _ => ?_)
    refine ok_if (fun _ => c_734 h h0 hl hL k) (fun _ => ?_)
    refine ok_if (fun _ => c_747 h h0 hl hL k) (fun _ => ?_)
    refine ok_if (fun _ => c_760 h h0 hl hL k) (fun _ => ?_)
    refine ok_if (fun _ => c_773 h h0 hl hL k) (fun _ => ?_)
    refine ok_if (fun _ => c_796 h h0 hl hL k) (fun _ => ?_)
    refine ok_if (fun _ => c_819 h h0 hl hL k) (fun _ => ?_)
    refine ok_if (fun _ => c_842 h h0 hl hL k) (fun _ => ?_)
    refine ok_if (fun _ => c_875 h h0 hl hL k) (fun _ => ?_)
    refine ok_if (fun _ => c_908 h h0 hl hL k) (fun _ => ?_)
    refine ok_if (fun _ => c_951 h h0 hl hL k) (fun _ => ?_)
    refine ok_if (fun _ => c_974 h h0 hl hL k) (fun _ => ?_)
    refine ok_if (fun _ => c_997 h h0 hl hL k) (fun _ => ?_)
    refine ok_if (fun _ => c_1030 h h0 hl hL k) (fun _ => ?_)
    refine ok_if (fun _ => c_1053 h h0 hl hL k) (fun _ => ?_)
    refine ok_if (fun _ => c_1076 h h0 hl hL k) (fun _ => ?_)
    refine ok_if (fun _ => c_1099 h h0 hl hL k) (fun _ => ?_)
    refine ok_if (fun _ => c_1122 h h0 hl hL k) (fun _ => ?_)
    refine ok_if (fun _ => c_1145 h h0 hl hL k) (fun _ => ?_)
    refine ok_if (fun _ => c_1168 h h0 hl hL k) (fun _ => ?_)
    refine ok_if (fun _ => c_1201 h h0 hl hL k) (fun _ => ?_)
    refine ok_if (fun _ => c_1224 h h0 hl hL k) (fun _ => ?_)
    refine ok_if (fun _ => c_1247 h h0 hl hL k) (fun _ => ?_)
    refine ok_if (fun _ => c_1270 h h0 hl hL k) (fun _ => ?_)
    refine ok_if (fun _ => c_1293 h h0 hl hL k) (fun _ => ?_)
    refine ok_if (fun _ => c_1316 h h0 hl hL k) (fun _ => ?_)
    refine ok_if (fun _ => c_1349 h h0 hl hL k) (fun _ => ?_)
    refine ok_if (fun _ => c_1372 h h0 hl hL k) (fun _ => ?_)
    refine ok_if (fun _ => c_1395 h h0 hl hL k) (fun _ => ?_)
    refine ok_if (fun _ => c_1428 h h0 hl hL k) (fun _ => ?_)
    refine ok_if (fun _ => c_1461 h h0 hl hL k) (fun _ => ?_)
    refine ok_if (fun _ => c_1494 h h0 hl hL k) (fun _ => ?_)
    refine ok_if (fun _ => c_1527 h h0 hl hL k) (fun _ => ?_)
    refine ok_if (fun _ => c_1560 h h0 hl hL k) (fun _ => ?_)
    refine ok_if (fun _ => c_1603 h h0 hl hL k) (fun _ => ?_)
    refine ok_if (fun _ => c_1616 h h0 hl hL k) (fun _ => ?_)
    refine ok_if (fun _ => c_1629 h h0 hl hL k) (fun _ => ?_)
    refine ok_if (fun _ => c_1642 h h0 hl hL k) (fun _ => ?_)
    refine ok_if (fun _ => c_1655 h h0 hl hL k) (fun _ => ?_)
    refine ok_if (fun _ => c_1668 h h0 hl hL k) (fun _ => ?_)
    refine ok_if (fun _ => c_1681 h h0 hl hL k) (fun _ => ?_)
    refine ok_if (fun _ => c_1714 h h0 hl hL k) (fun _ => ?_)
    refine ok_if (fun _ => c_1727 h h0 hl hL k) (fun _ => ?_)
    refine ok_if (fun _ => c_1740 h h0 hl hL k) (fun _ => ?_)
    refine ok_if (fun _ => c_1753 h h0 hl hL k) (fun _ => ?_)
    refine ok_if (fun _ => c_1776 h h0 hl hL k) (fun _ => ?_)
    refine ok_if (fun _ => c_1799 h h0 hl hL k) (fun _ => ?_)
    refine ok_if (fun _ => c_1822 h h0 hl hL k) (fun _ => ?_)
    refine ok_if (fun _ => c_1855 h h0 hl hL k) (fun _ => ?_)
    refine ok_if (fun _ => c_1878 h h0 hl hL k) (fun _ => ?_)
    refine ok_if (fun _ => c_1911 h h0 hl hL k) (fun _ => ?_)
    refine ok_if (fun _ => c_1944 h h0 hl hL k) (fun _ => ?_)
    refine ok_if (fun _ => c_1977 h h0 hl hL k) (fun _ => ?_)
    refine ok_if (fun _ => c_1990 h h0 hl hL k) (fun _ => ?_)
    refine ok_if (fun _ => c_2033 h h0 hl hL k) (fun _ => ?_)
    refine ok_if (fun _ => c_2056 h h0 hl hL k) (fun _ => ?_)
    refine ok_if (fun _ => c_2089 h h0 hl hL k) (fun _ => ?_)
    refine ok_if (fun _ => c_2142 h h0 hl hL k) (fun _ => ?_)
    refine ok_if (fun _ => c_2165 h h0 hl hL k) (fun _ => ?_)
    refine ok_if (fun _ => c_2188 h h0 hl hL k) (fun _ => ?_)
    refine ok_if (fun _ => c_2211 h h0 hl hL k) (fun _ => ?_)
    refine ok_if (fun _ => c_2254 h h0 hl hL k) (fun _ => ?_)
    refine ok_if (fun _ => c_2327 h h0 hl hL k) (fun _ => ?_)
    exact ok_lt (k _ h)
theorem law_pure {L : Nat} {xs : Nat → Int32} (hL : L ≤ 3072) : ∃ n, fL_l18 L xs n sig0 0 = some 1 := by
  obtain ⟨r, e, rfl⟩ := law_run (xs := xs) hL (L + 2) sig0 0 inv0 (by decide) (by show ((L : Int) + 1 - 0).toNat < _; omega)
  exact ⟨_, e⟩
