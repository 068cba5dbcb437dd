theorem WV.setp {p : Nat} {σ : St} {j : Nat} {v : Int32} (h : WV p 0 σ) (h0 : j = 0 → 0 ≤ v.toInt ∧ v.toInt ≤ 4) (h3 : j = 3 → 0 ≤ v.toInt ∧ v.toInt ≤ 12) (h4 : j = 4 → 0 ≤ v.toInt ∧ v.toInt ≤ 12) (h5 : j = 5 → (0 ≤ v.toInt ∧ v.toInt ≤ 5) ∧ ∀ g : Nat, g < 5 → (g : Int) < v.toInt → σ.1 p (67 + 2 * g) ≠ 0) (hs : ∀ c : Nat, c < 12 → j = 7 + 3 * c + 1 → v = 0 ∨ v = 1) (hg : ∀ s : Nat, s < 12 → j = 43 + 2 * s → ir v 12) (hp : ∀ g : Nat, g < 5 → j = 67 + 2 * g → (g : Int) < (σ.1 p 5).toInt → v ≠ 0) : WV p 0 (setI σ p j v) := by
  unfold WV at h ⊢
  simp only [Nat.zero_add] at h ⊢
  obtain ⟨q0, q3, q4, q5, qs, qg, qp⟩ := h
  have cell : ∀ i, (setI σ p j v).1 p i = if i = j then v else σ.1 p i := fun i => by
    by_cases e : i = j
    · rw [if_pos e, e, setI_at]
    · rw [if_neg e, setI_eq (by omega)]
  refine ⟨?_, ?_, ?_, ?_, fun c hc => ?_, fun s hs' => ?_, fun g hg' => ?_⟩
  · rw [cell]; split
    · rename_i e; exact h0 e.symm
    · exact q0
  · rw [cell]; split
    · rename_i e; exact h3 e.symm
    · exact q3
  · rw [cell]; split
    · rename_i e; exact h4 e.symm
    · exact q4
  · rw [cell]; split
    · rename_i e; exact (h5 e.symm).1
    · exact q5
  · rw [cell]; split
    · rename_i e; exact hs c hc e.symm
    · exact qs c hc
  · rw [cell]; split
    · rename_i e; exact hg s hs' e.symm
    · exact qg s hs'
  · intro hl
    rw [cell] at hl ⊢
    by_cases e5 : 5 = j
    · rw [if_pos e5] at hl
      rw [if_neg (by omega)]
      exact (h5 e5.symm).2 g hg' hl
    · rw [if_neg e5] at hl
      split
      · rename_i e; exact hp g hg' e.symm hl
      · exact qp g hg' hl
/-! what is told anew, by both -/
theorem INV.x3 {σ τ : St} (h : INV σ) (hx : XI τ) (f : ∀ k j, cor k j = true → ¬ (3 ≤ k ∧ k ≤ 9) → τ.1 k j = σ.1 k j) : INV τ := by
  have e0 : ∀ k j, 10 ≤ k → k ≤ 48 → τ.1 k j = σ.1 k j := fun k j h1 h2 => f k j (by simp [cor, show 3 ≤ k by omega, h2]) (by omega)
  refine ⟨hx, h.2.1.of (fun j => f 63 j rfl (by decide)) (fun j => f 64 j rfl (by decide)) (fun s hs => ?_) (by rw [f 62 5 rfl (by decide)]; exact h.2.1.1), ?_, fun k hk => ?_, fun s hs => ?_⟩
  · rw [f 78 s rfl (by decide)]; exact h.2.1.2.2.2 s hs
  · rw [f 1 1 rfl (by decide), f 62 5 rfl (by decide)]; exact h.2.2.1
  · rw [e0 18 k (by decide) (by decide), f 65 k rfl (by decide)]; exact h.2.2.2.1 k hk
  · have h1 : 10 ≤ rowp s := by simp only [rowp]; omega
    have h2 : rowp s ≤ 48 := by simp only [rowp]; omega
    rw [e0 _ 0 h1 h2, e0 _ 1 h1 h2, e0 _ 2 h1 h2, f 78 s rfl (by decide), f 79 s rfl (by decide)]
    exact h.2.2.2.2 s hs
theorem INV.m63 {τ υ : St} (h : INV τ) (hw : WV 63 0 υ) (f : ∀ k j, k ≠ 63 → υ.1 k j = τ.1 k j) : INV υ := by
  refine ⟨h.1.of (fun k j h1 h2 => f k j (by omega)) (by rw [f 1 1 (by decide)]; exact h.1.1), ⟨by rw [f 62 5 (by decide)]; exact h.2.1.1, hw, fun i hi => (h.2.1.2.2.1 i hi).co (fun j => f 64 j (by decide)), fun s hs => ?_⟩, h.2.2.of (fun k j h1 h2 => f k j (by omega)) (fun j => f 65 j (by decide)) (fun j => f 78 j (by decide)) (fun j => f 79 j (by decide)) (by rw [f 1 1 (by decide), f 62 5 (by decide)]; exact h.2.2.1)⟩
  rw [f 78 s (by decide)]
  exact h.2.1.2.2.2 s hs
/-- both are asked, whatever they answer -/
def TT (σ : St) (x : Option (Int32 × St)) (m : St → Option (Int32 × St)) : Prop := ∃ r σ1 r' σ2, x = some (r, σ1) ∧ m σ1 = some (r', σ2) ∧ INV σ2
theorem TT.mk {σ : St} {x : Option (Int32 × St)} {m : St → Option (Int32 × St)} {Q : St → Prop} (hx : ok x (fun p => Q p.2)) (hm : ∀ τ, Q τ → ok (m τ) (fun p => INV p.2)) : TT σ x m := by
  obtain ⟨⟨r, τ⟩, e, q⟩ := hx
  obtain ⟨⟨r', υ⟩, e', q'⟩ := hm τ q
  exact ⟨r, τ, r', υ, e, e', q'⟩
theorem INV.k {σ : St} (h : INV σ) : K σ σ := K.rf h.1 h.2.1
theorem INV.co {σ τ : St} (h : INV σ) (q : K σ τ) : INV τ := ⟨q.xi, q.mi, h.2.2.co q.2.2⟩
theorem t_table {σ : St} (h : INV σ) : TT σ (fX7_table σ) fX8_table := by
  refine TT.mk (Q := fun τ => XI τ ∧ τ.1 1 1 = 0 ∧ (∀ k j, cor k j = true → k ≠ 1 → 16 < k → τ.1 k j = σ.1 k j)) (ok_mono (o_table h.1) (fun p q => ⟨q.1, q.2.1, q.2.2.1⟩)) (fun τ ⟨hx, h1, f⟩ => ?_)
  have e0 : ∀ k j, 17 ≤ k → k ≤ 48 → τ.1 k j = σ.1 k j := fun k j a b => f k j (by simp [cor, show 3 ≤ k by omega, b]) (by omega) (by omega)
  have hm : MI τ := h.2.1.of (fun j => f 63 j rfl (by decide) (by decide)) (fun j => f 64 j rfl (by decide) (by decide)) (fun s hs => by rw [f 78 s rfl (by decide) (by decide)]; exact h.2.1.2.2.2 s hs) (by rw [f 62 5 rfl (by decide) (by decide)]; exact h.2.1.1)
  refine ok_mono (o8_table hm) (fun p ⟨q1, q2, q3, _⟩ => ?_)
  have N : ∀ k j, k ≤ 48 → p.2.1 k j = τ.1 k j := fun k j hk => q3 k j (by omega) (by omega) (by omega)
  refine ⟨hx.of (fun k j _ b => N k j b) (by rw [N 1 1 (by decide)]; exact hx.1), q1, ?_, fun k hk => ?_, fun s hs => ?_⟩
  · rw [N 1 1 (by decide), h1, q2]
  · rw [N 18 k (by decide), e0 18 k (by decide) (by decide), q3 65 k (by decide) (by decide) (by decide), f 65 k rfl (by decide) (by decide)]
    exact h.2.2.2.1 k hk
  · have h1 : 17 ≤ rowp s := by simp only [rowp]; omega
    have h2 : rowp s ≤ 48 := by simp only [rowp]; omega
    rw [N _ 0 h2, N _ 1 h2, N _ 2 h2, e0 _ 0 h1 h2, e0 _ 1 h1 h2, e0 _ 2 h1 h2, q3 78 s (by decide) (by decide) (by decide), f 78 s rfl (by decide) (by decide), q3 79 s (by decide) (by decide) (by decide), f 79 s rfl (by decide) (by decide)]
    exact h.2.2.2.2 s hs
/-- a cell of the TABLE is told anew -/
theorem XI.set3 {σ : St} {k j : Nat} {v : Int32} (h : XI σ) (hk : 3 ≤ k ∧ k ≤ 9) (h1 : k = 3 → j ≠ 1) (h4 : k = 3 → j ≠ 4) (h5 : k = 3 → j = 5 → 0 ≤ v.toInt ∧ v.toInt ≤ 12) (h6 : k = 3 → j ≠ 6) (h7 : k = 3 → j = 7 → ir v 4096) (hg : k = 6 → ir v 12) (hn : k = 9 → ir v 4096) : XI (setI σ k j v) := by
  obtain ⟨q1, q2, q3, q4, q5⟩ := h
  have N : ∀ p i, p < 3 ∨ 9 < p → (setI σ k j v).1 p i = σ.1 p i := fun p i hp => setI_eq (by omega)
  refine ⟨?_, ?_, ⟨fun i => ?_, fun i => ?_⟩, fun i hi => (q4 i hi).of (fun p a b i => ?_), fun s hs => ?_⟩
  · rw [N 1 1 (by omega)]; exact q1
  · obtain ⟨t1, t4, t5, t6, t7, tg, tn⟩ := q2
    refine ⟨?_, ?_, ?_, ?_, ?_, fun i => ?_, fun i => ?_⟩
    · rw [setI_eq (fun e => h1 e.1.symm e.2.symm)]; exact t1
    · rw [setI_eq (fun e => h4 e.1.symm e.2.symm)]; exact t4
    · by_cases e : 3 = k ∧ 5 = j
      · obtain ⟨rfl, rfl⟩ := e; rw [setI_at]; exact h5 rfl rfl
      · rw [setI_eq e]; exact t5
    · rw [setI_eq (fun e => h6 e.1.symm e.2.symm)]; exact t6
    · by_cases e : 3 = k ∧ 7 = j
      · obtain ⟨rfl, rfl⟩ := e; rw [setI_at]; exact h7 rfl rfl
      · rw [setI_eq e]; exact t7
    · by_cases e : 3 + 3 = k ∧ i = j
      · obtain ⟨rfl, rfl⟩ := e; rw [setI_at]; exact hg rfl
      · rw [setI_eq e]; exact tg i
    · by_cases e : 3 + 6 = k ∧ i = j
      · obtain ⟨rfl, rfl⟩ := e; rw [setI_at]; exact hn rfl
      · rw [setI_eq e]; exact tn i
  · rw [N _ _ (by omega)]; exact q3.1 i
  · rw [N _ _ (by omega)]; exact q3.2 i
  · rw [N _ _ (by simp only [imgp] at a b; omega)]
  · unfold RV
    rw [N _ _ (by simp only [rowp]; omega)]
    exact q5 s hs
def X3 (σ τ : St) : Prop := XI τ ∧ ∀ k j, cor k j = true → ¬ (3 ≤ k ∧ k ≤ 9) → τ.1 k j = σ.1 k j
theorem X3.rf {σ : St} (h : XI σ) : X3 σ σ := ⟨h, fun _ _ _ _ => rfl⟩
theorem X3.set {σ τ : St} {k j : Nat} {v : Int32} (h : X3 σ τ) (hk : 3 ≤ k ∧ k ≤ 9) (h1 : k = 3 → j ≠ 1) (h4 : k = 3 → j ≠ 4) (h5 : k = 3 → j = 5 → 0 ≤ v.toInt ∧ v.toInt ≤ 12) (h6 : k = 3 → j ≠ 6) (h7 : k = 3 → j = 7 → ir v 4096) (hg : k = 6 → ir v 12) (hn : k = 9 → ir v 4096) : X3 σ (setI τ k j v) := ⟨h.1.set3 hk h1 h4 h5 h6 h7 hg hn, fun p i hp hr => by rw [setI_eq (by omega)]; exact h.2 p i hp hr⟩
theorem X3.st {σ τ : St} {v : Int32} (h : X3 σ τ) : X3 σ (setI τ 0 7 v) := by
  refine ⟨h.1.of (fun k j a b => setI_eq (by omega)) (by rw [setI_eq (by decide)]; exact h.1.1), fun p i hp hr => ?_⟩
  rw [setI_eq]
  · exact h.2 p i hp hr
  · rintro ⟨rfl, rfl⟩
    cases hp
theorem INV.x {σ τ : St} (h : INV σ) (q : X3 σ τ) : INV τ := h.x3 q.1 q.2
theorem o_salt {σ : St} {a1 a2 : Int32} (h : INV σ) : ok (fX7_salt σ a1 a2) (fun p => X3 σ p.2) := by
  have hK := h.k
  have c := hK.cls
  unfold fX7_salt
  refine ok_bz ok_hasClaim (ok_some (X3.rf h.1)) (fun q => ok_bz o_fX7_isBit (ok_some (X3.rf h.1)) (fun _ => ok_lt (ok_bp (o_fX7_withBit hK.salt ⟨q.1, by show _ < (12 : Int); omega⟩) (fun r4 q4 => ok_lt (ok_gd (by decide) (ok_lt (ok_some ?_)))))))
  exact ((X3.rf h.1).set (by decide) (fun _ => by decide) (fun _ => by decide) (fun _ e => absurd e (by decide)) (fun _ => by decide) (fun _ _ => q4) (fun e => absurd e (by decide)) (fun e => absurd e (by decide))).st
theorem o_addStep3 {σ : St} {g s : Int32} (h : XI σ) (hg : ir g 12) : ok (fX6_addStep σ 3 g s) (fun τ => X3 σ τ) := by
  unfold fX6_addStep
  have c := h.2.1.2.2.1
  refine ok_le (m := 12) rfl rfl (fun _ => ok_some (X3.rf h)) (fun hlt => ?_)
  have i5 : ir (σ.1 3 5) 12 := ⟨c.1, by show _ < (12 : Int); omega⟩
  refine ok_gd i5 (ok_lv (fun σ1 e1 => ?_))
  have d1 : X3 σ σ1 := by rw [e1]; exact (X3.rf h).set (by decide) (fun e => absurd e (by decide)) (fun e => absurd e (by decide)) (fun e => absurd e (by decide)) (fun e => absurd e (by decide)) (fun e => absurd e (by decide)) (fun _ => hg) (fun e => absurd e (by decide))
  have v1 : σ1.1 3 5 = σ.1 3 5 := by rw [e1, setI_eq (by omega)]
  refine ok_gd (by rw [v1]; exact i5) (ok_lv (fun σ2 e2 => ?_))
  have d2 : X3 σ σ2 := by rw [e2]; exact d1.set (by decide) (fun e => absurd e (by decide)) (fun e => absurd e (by decide)) (fun e => absurd e (by decide)) (fun e => absurd e (by decide)) (fun e => absurd e (by decide)) (fun e => absurd e (by decide)) (fun e => absurd e (by decide))
  have v2 : σ2.1 3 5 = σ.1 3 5 := by rw [e2, setI_eq (by omega), v1]
  refine ok_lv (fun σ3 e3 => ok_some ?_)
  have e7 : (σ2.1 3 5 + 1).toInt = (σ2.1 3 5).toInt + 1 := inc (by rw [v2]; omega)
  rw [e3]
  exact d2.set (by decide) (fun _ => by decide) (fun _ => by decide) (fun _ _ => by rw [e7, v2]; omega) (fun _ => by decide) (fun _ e => absurd e (by decide)) (fun e => absurd e (by decide)) (fun e => absurd e (by decide))
theorem o_adds {σ : St} {a1 a2 : Int32} (h : INV σ) : ok (fX7_adds σ a1 a2) (fun p => X3 σ p.2) := by
  have c := h.k.cls
  have rf : ∀ r : Int32, ok (some (r, σ)) (fun p => X3 σ p.2) := fun r => ok_some (X3.rf h.1)
  unfold fX7_adds
  refine ok_bp ok_bc (fun r1 _ => ok_lt (ok_bz ok_hasClaim (rf _) (fun q => ok_bz (o_fX6_isClaimSet h.k) (rf _) (fun _ => ok_if (fun _ => rf _) (fun _ => ok_if (fun _ => ok_if (fun _ => ok_bp (o_addStep3 h.1 ⟨q.1, by show _ < (12 : Int); omega⟩) (fun τ q => ok_gd (by decide) (ok_lt (ok_some q.st)))) (fun _ => rf _)) (fun _ => rf _))))))
theorem ol_dropStep {σ0 : St} : ∀ (n : Nat) (σ : St) (x : Int32), X3 σ0 σ → 0 ≤ x.toInt → (6 - x.toInt).toNat < n → ok (fX6_dropStep_l19 3 n σ x) (fun τ => X3 σ0 τ) := by
  intro n
  induction n with
  | zero => intro σ x _ _ h; omega
  | succ n ih =>
    intro σ x h h0 hm
    show ok (fX6_dropStep_B19 3 (fX6_dropStep_l19 3 n) σ x) _
    unfold fX6_dropStep_B19
    have c := h.1.2.1.2.2.2.1
    refine ok_le rfl rfl (fun _ => ok_some h) (fun hlt => ?_)
    have i5 : ir x 5 := ⟨h0, by show _ < (5 : Int); omega⟩
    have e7 := inc (x := x) (by omega)
    refine ok_gd i5 (ok_gd i5 (ok_lv (fun σ1 e1 => ok_lt (ih σ1 _ ?_ (by omega) (by omega)))))
    rw [e1]
    exact h.set (by decide) (fun e => absurd e (by decide)) (fun e => absurd e (by decide)) (fun e => absurd e (by decide)) (fun e => absurd e (by decide)) (fun e => absurd e (by decide)) (fun e => absurd e (by decide)) (fun _ => ir_and' (h.1.2.1.2.2.2.2.2.2 _))
theorem o_drops {σ : St} (h : INV σ) : ok (fX7_drops σ) (fun p => X3 σ p.2) := by
  have c := h.k.sts
  unfold fX7_drops fX6_dropStep
  refine ok_bz ok_isTold (ok_some (X3.rf h.1)) (fun _ => ok_if (fun _ => ok_some (X3.rf h.1)) (fun _ => ok_bp (Q := fun τ => X3 σ τ) (ok_le (n := 0) rfl rfl (fun _ => ok_some (X3.rf h.1)) (fun hp => ok_lv (fun σ3 e3 => ok_lt (ol_dropStep FU σ3 0 ?_ (by decide) (by decide))))) (fun τ q => ok_gd (by decide) (ok_lt (ok_some q.st)))))
  have e7 : (σ.1 3 5 - 1).toInt = (σ.1 3 5).toInt - 1 := dec1 (by omega)
  rw [e3]
  exact (X3.rf h.1).set (by decide) (fun _ => by decide) (fun _ => by decide) (fun _ _ => by rw [e7]; omega) (fun _ => by decide) (fun _ e => absurd e (by decide)) (fun e => absurd e (by decide)) (fun e => absurd e (by decide))
theorem o_teach {σ : St} {a1 a2 a3 : Int32} (h : INV σ) : ok (fX7_teach σ a1 a2 a3) (fun p => X3 σ p.2) := by
  have hK := h.k
  have c := hK.sts
  have c' := hK.gus
  unfold fX7_teach
  refine ok_bz ok_hasGuest (ok_some (X3.rf h.1)) (fun q => ok_bz ok_hasStep (ok_some (X3.rf h.1)) (fun q' => ok_bz o_fX7_isBit (ok_some (X3.rf h.1)) (fun _ => ?_)))
  have i5 : ir a1 5 := ⟨q.1, by show _ < (5 : Int); omega⟩
  refine ok_gd i5 (ok_lt (ok_gd i5 (ok_bp (o_fX7_withBit (hK.kno _) ⟨q'.1, by show _ < (12 : Int); omega⟩) (fun r5 q5 => ok_gd i5 (ok_lt (ok_some ?_))))))
  exact (X3.rf h.1).set (by decide) (fun e => absurd e (by decide)) (fun e => absurd e (by decide)) (fun e => absurd e (by decide)) (fun e => absurd e (by decide)) (fun e => absurd e (by decide)) (fun e => absurd e (by decide)) (fun _ => q5)
def M3 (σ τ : St) : Prop := WV 63 0 τ ∧ ∀ k j, k ≠ 63 → τ.1 k j = σ.1 k j
theorem M3.rf {σ : St} (h : INV σ) : M3 σ σ := ⟨h.2.1.2.1, fun _ _ _ => rfl⟩
theorem M3.set {σ τ : St} {j : Nat} {v : Int32} (h : M3 σ τ) (w : WV 63 0 (setI τ 63 j v)) : M3 σ (setI τ 63 j v) := ⟨w, fun k i hk => by rw [setI_eq (fun e => hk e.1)]; exact h.2 k i hk⟩
theorem INV.m {σ τ : St} (h : INV σ) (q : M3 σ τ) : INV τ := h.m63 q.1 q.2
theorem o8_salt {σ : St} {a1 a2 : Int32} (h : INV σ) : ok (fX8_salt σ a1 a2) (fun p => M3 σ p.2) := by
  have hK := h.k
  have c := hK.cl8
  unfold fX8_salt
  refine ok_bz (ok_isC8 hK (Int32.toInt_toInt64 _)) (ok_some (M3.rf h)) (fun q => ok_bz (ok_in (Int32.toInt_toInt64 _) (v := 0) rfl (w := 1) rfl) (ok_some (M3.rf h)) (fun q' => ?_))
  have i12 : ir a1 12 := ⟨q.1, by show _ < (12 : Int); omega⟩
  obtain ⟨i1, i2⟩ := ix_cl (k := 1) i12 (by decide) (by decide)
  refine ok_bp (o8_ofClaim i12 (by decide) (by decide)) (fun r3 _ => ok_lt (ok_gd i1 (ok_lt (ok_some ((M3.rf h).set ?_)))))
  have n1 := nN q.1
  have hu := i12.2
  have k1 : (1 : Int32).toNatClampNeg = 1 := rfl
  rw [i2]
  refine WV.setp h.2.1.2.1 (fun e => by omega) (fun e => by omega) (fun e => by omega) (fun e => by omega) (fun _ _ _ => ?_) (fun s hs e => by omega) (fun g hg e => by omega)
  have z0 : (0 : Int32).toInt = 0 := rfl
  have z1 : (1 : Int32).toInt = 1 := rfl
  by_cases e0 : a2.toInt = 0
  · exact Or.inl (Int32.toInt_inj.mp e0)
  · exact Or.inr (Int32.toInt_inj.mp (by omega))
theorem o8_adds {σ : St} {a1 a2 : Int32} (h : INV σ) : ok (fX8_adds σ a1 a2) (fun p => M3 σ p.2) := by
  have hK := h.k
  have c := hK.cl8
  have c4 := hK.st8
  have rf : ∀ r : Int32, ok (some (r, σ)) (fun p => M3 σ p.2) := fun r => ok_some (M3.rf h)
  unfold fX8_adds
  refine ok_bz (ok_isC8 hK (Int32.toInt_toInt64 _)) (rf _) (fun q => ok_bz (o_fX8_areClaims hK) (rf _) (fun _ => ok_bp (o8_bits _) (fun r3 _ => ok_bz (ok_in (Int32.toInt_toInt64 _) rfl rfl) (rf _) (fun _ => ok_gd (by decide) (ok_eq (n := 12) rfl rfl (fun _ _ => rf _) (fun _ hne => ?_))))))
  have k0 : (0 : Int32).toNatClampNeg = 0 := rfl
  have k1 : (1 : Int32).toNatClampNeg = 1 := rfl
  have k4 : (4 : Int32).toNatClampNeg = 4 := rfl
  have i12 : ir (σ.1 63 (4 : Int32).toNatClampNeg) 12 := ⟨c4.1, by show _ < (12 : Int); omega⟩
  obtain ⟨i0, j0⟩ := ix_st (k := 0) i12 (by decide) (by decide)
  obtain ⟨i1, j1⟩ := ix_st (k := 1) i12 (by decide) (by decide)
  have n4 := nN i12.1
  have ha : ir a1 12 := ⟨q.1, by show _ < (12 : Int); omega⟩
  refine ok_gd (by decide) (ok_gd i0 (ok_lv (fun σ5 e5 => ?_)))
  have m5 : M3 σ σ5 := by
    rw [e5]
    refine (M3.rf h).set ?_
    rw [j0]
    exact WV.setp h.2.1.2.1 (fun e => by omega) (fun e => by omega) (fun e => by omega) (fun e => by omega) (fun c hc e => by omega) (fun _ _ _ => ha) (fun g hg e => by omega)
  have v5 : σ5.1 63 (4 : Int32).toNatClampNeg = σ.1 63 (4 : Int32).toNatClampNeg := by rw [e5, setI_eq (by omega)]
  refine ok_gd (by decide) (ok_gd (by rw [v5]; exact i1) (ok_lv (fun σ6 e6 => ?_)))
  have m6 : M3 σ σ6 := by
    rw [e6, v5]
    refine m5.set ?_
    rw [j1]
    exact WV.setp m5.1 (fun e => by omega) (fun e => by omega) (fun e => by omega) (fun e => by omega) (fun c hc e => by omega) (fun s hs e => by omega) (fun g hg e => by omega)
  have v6 : σ6.1 63 (4 : Int32).toNatClampNeg = σ.1 63 (4 : Int32).toNatClampNeg := by rw [e6, v5, setI_eq (by omega), v5]
  have e7 : (σ6.1 63 (4 : Int32).toNatClampNeg + 1).toInt = (σ.1 63 (4 : Int32).toNatClampNeg).toInt + 1 := by rw [v6]; exact inc (by omega)
  refine ok_gd (by decide) (ok_gd (by decide) (ok_lv (fun σ7 q7 => ok_gd (by decide) (ok_some ?_))))
  rw [q7]
  exact m6.set (WV.setp m6.1 (fun e => by omega) (fun e => by omega) (fun _ => by omega) (fun e => by omega) (fun c hc e => by omega) (fun s hs e => by omega) (fun g hg e => by omega))
theorem ol8_drops {σ0 : St} (h : INV σ0) : ∀ (n : Nat) (σ : St) (x : Int32), M3 σ0 σ → 0 ≤ x.toInt → (6 - x.toInt).toNat < n → ok (fX8_drops_l34 n σ x) (fun p => M3 σ0 p.2) := by
  intro n
  induction n with
  | zero => intro σ x _ _ h; omega
  | succ n ih =>
    intro σ x m h0 hm
    show ok (fX8_drops_B34 (fX8_drops_l34 n) σ x) _
    unfold fX8_drops_B34
    have c : 0 ≤ (σ.1 63 (5 : Int32).toNatClampNeg).toInt ∧ (σ.1 63 (5 : Int32).toNatClampNeg).toInt ≤ 5 := m.1.2.2.2.1
    refine ok_gd (by decide) (ok_le rfl rfl (fun _ => ok_gd (by decide) (ok_some m)) (fun hlt => ?_))
    have i5 : ir x 5 := ⟨h0, by show _ < (5 : Int); omega⟩
    obtain ⟨i1, j1⟩ := ix_gu (k := 1) i5 (by decide) (by decide)
    have e7 := inc (x := x) (by omega)
    have n1 := nN h0
    have k1 : (1 : Int32).toNatClampNeg = 1 := rfl
    refine ok_gd i1 (ok_bp (o_fX8_allSteps (h.m m).k) (fun r1 _ => ok_gd i1 (ok_lv (fun σ2 e2 => ok_lt (ih σ2 _ ?_ (by omega) (by omega))))))
    rw [e2]
    refine m.set ?_
    rw [j1]
    exact WV.setp m.1 (fun e => by omega) (fun e => by omega) (fun e => by omega) (fun e => by omega) (fun c hc e => by omega) (fun s hs e => by omega) (fun g hg e => by omega)
theorem o8_drops {σ : St} (h : INV σ) : ok (fX8_drops σ) (fun p => M3 σ p.2) := by
  have c4 := h.k.st8
  have k4 : (4 : Int32).toNatClampNeg = 4 := rfl
  unfold fX8_drops
  refine ok_bz ok_isT8 (ok_some (M3.rf h)) (fun _ => ok_gd (by decide) (ok_eq (n := 0) rfl rfl (fun _ _ => ok_some (M3.rf h)) (fun _ hne => ok_gd (by decide) (ok_gd (by decide) (ok_lv (fun σ5 e5 => ok_lt (ol8_drops h FU σ5 0 ?_ (by decide) (by decide))))))))
  have e7 : (σ.1 63 (4 : Int32).toNatClampNeg - 1).toInt = (σ.1 63 (4 : Int32).toNatClampNeg).toInt - 1 := dec1 (by omega)
  rw [e5]
  exact (M3.rf h).set (WV.setp h.2.1.2.1 (fun e => by omega) (fun e => by omega) (fun _ => by omega) (fun e => by omega) (fun c hc e => by omega) (fun s hs e => by omega) (fun g hg e => by omega))
theorem o8_teach {σ : St} {a1 a2 a3 : Int32} (h : INV σ) : ok (fX8_teach σ a1 a2 a3) (fun p => M3 σ p.2) := by
  have hK := h.k
  have cg := hK.gu8
  unfold fX8_teach
  refine ok_bz (ok_isG8 hK (Int32.toInt_toInt64 _)) (ok_some (M3.rf h)) (fun q => ok_bz (ok_isS8 hK (Int32.toInt_toInt64 _)) (ok_some (M3.rf h)) (fun _ => ok_bz (ok_in (Int32.toInt_toInt64 _) rfl rfl) (ok_some (M3.rf h)) (fun _ => ?_)))
  have i5 : ir a1 5 := ⟨q.1, by show _ < (5 : Int); omega⟩
  obtain ⟨i1, j1⟩ := ix_gu (k := 1) i5 (by decide) (by decide)
  have n1 := nN q.1
  have hu := i5.2
  have k1 : (1 : Int32).toNatClampNeg = 1 := rfl
  refine ok_lt (ok_gd i1 (ok_bp ok_bit8 (fun r5 _ => ok_lt (ok_gd i1 (ok_gd i1 (ok_lt (ok_some ((M3.rf h).set ?_))))))))
  rw [j1]
  exact WV.setp h.2.1.2.1 (fun e => by omega) (fun e => by omega) (fun e => by omega) (fun e => by omega) (fun c hc e => by omega) (fun s hs e => by omega) (fun g hg e => by omega)
theorem t_salt {σ : St} (h : INV σ) (a b : Int32) : TT σ (fX7_salt σ a b) (fun τ => fX8_salt τ a b) := TT.mk (o_salt h) (fun τ q => ok_mono (o8_salt (h.x q)) (fun _ m => (h.x q).m m))
theorem t_adds {σ : St} (h : INV σ) (a b : Int32) : TT σ (fX7_adds σ a b) (fun τ => fX8_adds τ a b) := TT.mk (o_adds h) (fun τ q => ok_mono (o8_adds (h.x q)) (fun _ m => (h.x q).m m))
theorem t_drops {σ : St} (h : INV σ) : TT σ (fX7_drops σ) fX8_drops := TT.mk (o_drops h) (fun τ q => ok_mono (o8_drops (h.x q)) (fun _ m => (h.x q).m m))
theorem t_teach {σ : St} (h : INV σ) (a b c : Int32) : TT σ (fX7_teach σ a b c) (fun τ => fX8_teach τ a b c) := TT.mk (o_teach h) (fun τ q => ok_mono (o8_teach (h.x q)) (fun _ m => (h.x q).m m))
theorem o8_fault8 {σ : St} {a1 : Int32} : ok (fX8_fault σ a1) (fun _ => True) := by
  unfold fX8_fault
  exact ok_if (fun _ => ok_some trivial) (fun _ => ok_if (fun _ => ok_some trivial) (fun _ => ok_some trivial))
theorem o_fault7 {σ : St} {a1 : Int32} : ok (fX7_fault σ a1) (fun _ => True) := by
  unfold fX7_fault
  exact ok_if (fun _ => ok_some trivial) (fun _ => ok_if (fun _ => ok_some trivial) (fun _ => ok_some trivial))
