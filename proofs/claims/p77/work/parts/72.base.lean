theorem ok_lq {α β : Type} {Q : β → Prop} {a : β} {f : β → Option α} {P : α → Prop} (q : Q a) (k : ∀ v, Q v → ok (f v) P) : ok (lt a f) P := k a q
theorem ok_la {α β : Type} {a : β} {f : β → Option α} {P : α → Prop} (k : ∀ v, ok (f v) P) : ok (lt a f) P := k a
theorem ne0 {x : Int32} (h : 0 < x.toInt) : ¬ x = 0 := fun e => by
  subst e
  have : (0 : Int32).toInt = 0 := rfl
  omega
theorem irl {x : Int32} {m : Int} {n : Nat} (e : x.toInt = m) (h0 : 0 ≤ m) (h : m < (n : Int)) : ir x n := by
  subst e
  exact ⟨h0, h⟩
theorem eqm1 {x : Int32} (h : x.toInt = -1) : x = -1 := Int32.toInt_inj.mp h
theorem irw {x : Int32} {m n : Nat} (h : ir x m) (hm : m ≤ n) : ir x n := ⟨h.1, by have := h.2; omega⟩
theorem K.setH {σ τ : St} {h j : Nat} {v : Int32} (q : K σ τ) (hh : h = 49 ∨ h = 51) : K σ (setI τ (h + 1) j v) := by
  rcases hh with rfl | rfl
  · exact q.set rfl
  · exact q.set rfl
theorem K.rwx {σ τ : St} {w : Nat} (h : K σ τ) (hw : ∃ s, s < 4 ∧ w = rowp s) : 0 ≤ (τ.1 w 2).toInt ∧ (τ.1 w 2).toInt ≤ 60 := by
  obtain ⟨s, hs, rfl⟩ := hw
  exact h.rw hs
theorem K.num {σ τ : St} (h : K σ τ) {k j : Nat} (hk : k ≠ 81) : τ.2 k j = σ.2 k j := h.2.2.2 k j hk
theorem K.mid {σ τ : St} (h : K σ τ) (k j : Nat) (h1 : 3 ≤ k) (h2 : k ≤ 48) : τ.1 k j = σ.1 k j := h.2.2.mid k j h1 h2
theorem ok_isSlot {a : Int32} : ok (fX7_isSlot a) (tf (ir a 4)) := by
  rcases o_isSlot a with ⟨h, e⟩ | ⟨_, e⟩
  · exact ⟨1, e, tf1 h⟩
  · exact ⟨0, e, tf0⟩
theorem ok_hasClaim {σ : St} {a : Int32} : ok (fX6_hasClaim σ 3 a) (tf (0 ≤ a.toInt ∧ a.toInt < (σ.1 3 4).toInt)) := by
  unfold fX6_hasClaim
  exact ok_lw (n := 0) rfl rfl (fun _ => ok_gd (by decide) (ok_some tf0)) (fun h => ok_le rfl rfl (fun _ => ok_gd (by decide) (ok_some tf0)) (fun h' => ok_gd (by decide) (ok_some (tf1 ⟨h, h'⟩))))
theorem ok_hasStep {σ : St} {a : Int32} : ok (fX6_hasStep σ 3 a) (tf (0 ≤ a.toInt ∧ a.toInt < (σ.1 3 5).toInt)) := by
  unfold fX6_hasStep
  exact ok_lw (n := 0) rfl rfl (fun _ => ok_gd (by decide) (ok_some tf0)) (fun h => ok_le rfl rfl (fun _ => ok_gd (by decide) (ok_some tf0)) (fun h' => ok_gd (by decide) (ok_some (tf1 ⟨h, h'⟩))))
theorem ok_hasGuest {σ : St} {a : Int32} : ok (fX6_hasGuest σ 3 a) (tf (0 ≤ a.toInt ∧ a.toInt < (σ.1 3 6).toInt)) := by
  unfold fX6_hasGuest
  exact ok_lw (n := 0) rfl rfl (fun _ => ok_gd (by decide) (ok_some tf0)) (fun h => ok_le rfl rfl (fun _ => ok_gd (by decide) (ok_some tf0)) (fun h' => ok_gd (by decide) (ok_some (tf1 ⟨h, h'⟩))))
theorem ok_isTold {σ : St} : ok (fX6_isTold σ 3) (tf (0 < (σ.1 3 0).toInt)) := by
  unfold fX6_isTold
  exact ok_le (n := 0) rfl rfl (fun _ => ok_gd (by decide) (ok_some tf0)) (fun h => ok_gd (by decide) (ok_some (tf1 h)))
theorem two64 {P : Nat → Prop} (h : ∀ a, a < 64 → ∀ b, b < 64 → P (64 * a + b)) (k : Nat) (hk : k < 4096) : P k := by
  have := h (k / 64) (by omega) (k % 64) (by omega)
  rwa [show 64 * (k / 64) + k % 64 = k by omega] at this
theorem bc_13a : ∀ a, a < 64 → ∀ b, b < 64 → 0 ≤ (bcN (Int32.ofNat (64 * a + b))).toInt ∧ (bcN (Int32.ofNat (64 * a + b))).toInt ≤ 12 := by decide +kernel
theorem bc_13 (k : Nat) (hk : k < 4096) : 0 ≤ (bcN (Int32.ofNat k)).toInt ∧ (bcN (Int32.ofNat k)).toInt ≤ 12 := two64 (P := fun k => 0 ≤ (bcN (Int32.ofNat k)).toInt ∧ (bcN (Int32.ofNat k)).toInt ≤ 12) bc_13a k hk
theorem bcn_63 (x : Int32) : 0 ≤ (bcN x).toInt ∧ (bcN x).toInt ≤ 63 := by
  obtain ⟨y, hy⟩ : ∃ y : Int32, bcN x = y &&& 63 := ⟨_, rfl⟩
  rw [hy]
  have h : (y &&& 63).toBitVec.toNat ≤ 63 := by
    rw [Int32.toBitVec_and, BitVec.toNat_and]
    exact Nat.and_le_right
  have := ofnat (x := y &&& 63) (by omega)
  omega
theorem ok_bc {x : Int32} : ok (fJ6_bitCount_0f7a4 x) (fun r => 0 ≤ r.toInt ∧ r.toInt ≤ 63) := ⟨_, bc_eq x, bcn_63 x⟩
theorem bc_le {x : Int32} (h : ir x 4096) : 0 ≤ (bcN x).toInt ∧ (bcN x).toInt ≤ 12 := by
  obtain ⟨k, hk, rfl⟩ := small h
  exact bc_13 k hk
theorem ok_subsetsOf {a : Int32} (h : ir a 4096) : ok (fX5_subsetsOf a) (fun r => 1 ≤ r.toInt ∧ r.toInt ≤ 4096) := by
  unfold fX5_subsetsOf
  rw [bc_eq]
  have q := bc_le h
  exact ok_some (sh_bd q.1 q.2)
theorem run_all {w : Nat} (h : w < 4096) : runN w (2 ^ pcN w - 1) 0 = true := by
  by_cases h0 : w < 512
  · exact run_0 w h0
  by_cases h1 : w < 1024
  · have := run_1 (w - 512) (by omega)
    rwa [show 512 + (w - 512) = w by omega] at this
  by_cases h2 : w < 1536
  · have := run_2 (w - 1024) (by omega)
    rwa [show 1024 + (w - 1024) = w by omega] at this
  by_cases h3 : w < 2048
  · have := run_3 (w - 1536) (by omega)
    rwa [show 1536 + (w - 1536) = w by omega] at this
  by_cases h4 : w < 2560
  · have := run_4 (w - 2048) (by omega)
    rwa [show 2048 + (w - 2048) = w by omega] at this
  by_cases h5 : w < 3072
  · have := run_5 (w - 2560) (by omega)
    rwa [show 2560 + (w - 2560) = w by omega] at this
  by_cases h6 : w < 3584
  · have := run_6 (w - 3072) (by omega)
    rwa [show 3072 + (w - 3072) = w by omega] at this
  · have := run_7 (w - 3584) (by omega)
    rwa [show 3584 + (w - 3584) = w by omega] at this
theorem nxt_lt {w s : Nat} (h : w < 4096) : nxt w s < 4096 := Nat.lt_of_le_of_lt Nat.and_le_right h
theorem subs_eq {w s : Nat} (hw : w < 4096) (hs : s < 4096) : ((Int32.ofNat s - Int32.ofNat w) &&& Int32.ofNat w) = Int32.ofNat (nxt w s) := by
  apply Int32.toBitVec.inj
  apply BitVec.eq_of_toNat_eq
  have e1 : (Int32.ofNat s).toBitVec.toNat = s := by
    show (BitVec.ofNat 32 s).toNat = s
    rw [BitVec.toNat_ofNat]
    exact Nat.mod_eq_of_lt (by omega)
  have e2 : (Int32.ofNat w).toBitVec.toNat = w := by
    show (BitVec.ofNat 32 w).toNat = w
    rw [BitVec.toNat_ofNat]
    exact Nat.mod_eq_of_lt (by omega)
  have e3 : (Int32.ofNat (nxt w s)).toBitVec.toNat = nxt w s := by
    show (BitVec.ofNat 32 (nxt w s)).toNat = _
    rw [BitVec.toNat_ofNat]
    have := nxt_lt (s := s) hw
    exact Nat.mod_eq_of_lt (by omega)
  rw [Int32.toBitVec_and, Int32.toBitVec_sub, BitVec.toNat_and, BitVec.toNat_sub, e1, e2, e3]
  unfold nxt
  rw [show 2 ^ 32 - w + s = s + (4294967296 - w) by omega]
theorem lb_12a : ∀ a, a < 64 → ∀ b, b < 64 → 64 * a + b ≠ 0 → (fX7_lowestBit (Int32.ofNat (64 * a + b))).any (fun r => decide (ir r 12)) = true := by decide +kernel
theorem lb_12 (k : Nat) (hk : k < 4096) : k ≠ 0 → (fX7_lowestBit (Int32.ofNat k)).any (fun r => decide (ir r 12)) = true := two64 (P := fun k => k ≠ 0 → (fX7_lowestBit (Int32.ofNat k)).any (fun r => decide (ir r 12)) = true) lb_12a k hk
theorem ok_lowestBit {k : Nat} (h : k < 4096) (h0 : k ≠ 0) : ok (fX7_lowestBit (Int32.ofNat k)) (fun r => ir r 12) := by
  have q := lb_12 k h h0
  cases e : fX7_lowestBit (Int32.ofNat k) with
  | none => rw [e] at q; cases q
  | some r =>
    rw [e] at q
    exact ok_some (of_decide_eq_true q)
theorem o_fX7_lowestBit {a : Int32} : ok (fX7_lowestBit a) (fun _ => True) := by
  unfold fX7_lowestBit
  exact ok_if (fun _ => ok_some trivial) (fun _ => ok_bp ok_bc (fun _ _ => ok_some trivial))
theorem ofN_lt {k n : Nat} (h : k < n) (hn : n ≤ 2147483648) : ir (Int32.ofNat k) n := by
  have e : (Int32.ofNat k).toInt = (k : Int) := Int32.toInt_ofNat_of_lt (by omega)
  constructor <;> omega
theorem two_pc {w : Nat} (h : w < 4096) : ok (fX5_subsetsOf (Int32.ofNat w)) (fun r => r.toInt = ((2 ^ pcN w : Nat) : Int) ∧ 1 ≤ r.toInt ∧ r.toInt ≤ 4096) := by
  unfold fX5_subsetsOf
  rw [bc_eq]
  have q := bc_13 w h
  refine ok_some ⟨?_, sh_bd q.1 q.2⟩
  obtain ⟨k, hk, e, es⟩ := sh_num (x := bcN (Int32.ofNat w)) (n := 13) ⟨q.1, by show _ < (13 : Int); omega⟩ (by decide)
  rw [es]
  have : pcN w = k := by
    unfold pcN
    rw [e, Int32.toInt_ofNat_of_lt (by omega)]
    rfl
  rw [this]
  exact (Int.natCast_pow 2 k).symm
