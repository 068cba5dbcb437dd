theorem ir_andN {a b : Int32} (h : ir b 65536) : ir (a &&& b) 65536 := by
  refine ir_ofNat (by decide) ?_
  rw [Int32.toBitVec_and, BitVec.toNat_and]
  exact Nat.lt_of_le_of_lt Nat.and_le_right (ir_toNat h)
theorem ir_andN' {a b : Int32} (h : ir a 65536) : ir (a &&& b) 65536 := by
  refine ir_ofNat (by decide) ?_
  rw [Int32.toBitVec_and, BitVec.toNat_and]
  exact Nat.lt_of_le_of_lt Nat.and_le_left (ir_toNat h)
theorem ir_or16 {a b : Int32} (h : ir a 16) (h' : ir b 16) : ir (a ||| b) 16 := by
  refine ir_ofNat (by decide) ?_
  rw [Int32.toBitVec_or, BitVec.toNat_or]
  exact Nat.or_lt_two_pow (n := 4) (ir_toNat h) (ir_toNat h')
theorem sh31 : ∀ k, k < 6 → 0 ≤ (((1 : Int32) <<< (Int32.ofNat k &&& 31)) - 1).toInt ∧ (((1 : Int32) <<< (Int32.ofNat k &&& 31)) - 1).toInt ≤ 31 := by decide +kernel
theorem o8_allGuests {σ0 σ : St} (hK : K σ0 σ) : ok (fX8_allGuests σ) (fun r => 0 ≤ r.toInt ∧ r.toInt ≤ 31) := by
  unfold fX8_allGuests
  refine ok_gd (by decide) (ok_some ?_)
  have c := hK.gu8.1
  obtain ⟨k, hk, e⟩ := small (x := σ.1 63 (5 : Int32).toNatClampNeg) (n := 6) ⟨c.1, by show _ < (6 : Int); omega⟩
  rw [e]
  exact sh31 k hk
theorem o8_worlds {σ0 σ : St} (hK : K σ0 σ) : ok (fX8_worlds σ) (fun r => 1 ≤ r.toInt ∧ r.toInt ≤ 16) := by
  unfold fX8_worlds
  have c := hK.at8
  exact ok_gd (by decide) (ok_some (sh_b4 c.1 c.2))
theorem aw_k : ∀ k, k < 5 → ir (((1 : Int32) <<< (((1 : Int32) <<< (Int32.ofNat k &&& 31)) &&& 31)) - 1) 65536 := by decide +kernel
theorem o8_allWorlds {σ0 σ : St} (hK : K σ0 σ) : ok (fX8_allWorlds σ) (fun r => ir r 65536) := by
  unfold fX8_allWorlds fX8_worlds
  have c := hK.at8
  rw [gd_t (by decide), bp_s]
  refine ok_some ?_
  obtain ⟨k, hk, e⟩ := small (x := σ.1 63 (0 : Int32).toNatClampNeg) (n := 5) ⟨c.1, by show _ < (5 : Int); omega⟩
  rw [e]
  exact aw_k k hk
/-- the count of bits, told of plain numbers -/
def bA (k : Nat) : Nat := (4294967296 - ((k >>> 1) &&& 1431655765) + k) % 4294967296
def bB (a : Nat) : Nat := ((a &&& 858993459) + ((a >>> 2) &&& 858993459)) % 4294967296
def bC (b : Nat) : Nat := (((((b + (b >>> 4)) % 4294967296) &&& 252645135) * 16843009) % 4294967296) >>> 24
def bitsN (k : Nat) : Nat := bC (bB (bA k))
theorem ush_n {y c : Int32} {k : Nat} (hk : ((c.toUInt32 &&& Int32.toUInt32 31).toBitVec % 32).toNat = k) : ((y.toUInt32 >>> (c.toUInt32 &&& Int32.toUInt32 31)).toInt32).toBitVec.toNat = y.toBitVec.toNat >>> k := by
  show (y.toUInt32 >>> (c.toUInt32 &&& Int32.toUInt32 31)).toBitVec.toNat = _
  rw [UInt32.toBitVec_shiftRight]
  show (y.toUInt32.toBitVec >>> ((c.toUInt32 &&& Int32.toUInt32 31).toBitVec % 32).toNat).toNat = _
  rw [hk, BitVec.toNat_ushiftRight]
  rfl
theorem bits_nat (x : Int32) : ok (fX8_bits x) (fun r => r.toBitVec.toNat = bitsN x.toBitVec.toNat) := by
  unfold fX8_bits
  refine ok_lv (fun v1 e1 => ok_lv (fun v2 e2 => ok_some ?_))
  have m5 : (1431655765 : Int32).toBitVec.toNat = 1431655765 := by decide
  have m3 : (858993459 : Int32).toBitVec.toNat = 858993459 := by decide
  have mf : (252645135 : Int32).toBitVec.toNat = 252645135 := by decide
  have m1 : (16843009 : Int32).toBitVec.toNat = 16843009 := by decide
  have w1 : v1.toBitVec.toNat = bA x.toBitVec.toNat := by
    rw [e1, Int32.toBitVec_sub, BitVec.toNat_sub, Int32.toBitVec_and, BitVec.toNat_and, ush_n (k := 1) (by decide), m5]
    rfl
  have w2 : v2.toBitVec.toNat = bB v1.toBitVec.toNat := by
    rw [e2, Int32.toBitVec_add, BitVec.toNat_add, Int32.toBitVec_and, BitVec.toNat_and, Int32.toBitVec_and, BitVec.toNat_and, ush_n (k := 2) (by decide), m3]
    rfl
  rw [ush_n (k := 24) (by decide), Int32.toBitVec_mul, BitVec.toNat_mul, Int32.toBitVec_and, BitVec.toNat_and, Int32.toBitVec_add, BitVec.toNat_add, ush_n (k := 4) (by decide), mf, m1]
  show bC v2.toBitVec.toNat = bC (bB (bA x.toBitVec.toNat))
  rw [w2, w1]
def chkB (o : Nat) : Nat → Bool
  | 0 => true
  | n + 1 => if bitsN (o + n) = 0 then false else chkB o n
theorem chk_0 : ∀ a, a < 32 → chkB (1024 * a + 1) 1024 = true := by decide +kernel
theorem chk_1 : ∀ a, a < 32 → chkB (1024 * (32 + a) + 1) 1024 = true := by decide +kernel
theorem chk_of {o : Nat} : ∀ n, chkB o n = true → ∀ j, j < n → bitsN (o + j) ≠ 0 := by
  intro n
  induction n with
  | zero => intro _ j h; omega
  | succ n ih =>
    intro h j hj
    have h : (if bitsN (o + n) = 0 then false else chkB o n) = true := h
    by_cases hz : bitsN (o + n) = 0
    · rw [if_pos hz] at h; cases h
    · rw [if_neg hz] at h
      by_cases hjn : j = n
      · rw [hjn]; exact hz
      · exact ih h j (by omega)
theorem bitsN_pos {k : Nat} (h0 : k ≠ 0) (h : k < 65536) : bitsN k ≠ 0 := by
  have q : chkB (1024 * ((k - 1) / 1024) + 1) 1024 = true := by
    by_cases hs : (k - 1) / 1024 < 32
    · exact chk_0 _ hs
    · have := chk_1 ((k - 1) / 1024 - 32) (by omega)
      rwa [show 32 + ((k - 1) / 1024 - 32) = (k - 1) / 1024 by omega] at this
  have := chk_of 1024 q ((k - 1) % 1024) (Nat.mod_lt _ (by decide))
  rwa [show 1024 * ((k - 1) / 1024) + 1 + (k - 1) % 1024 = k by omega] at this
theorem bits_pos {x : Int32} (h : ir x 65536) (h0 : ¬ x = 0) : ok (fX8_bits x) (fun r => 1 ≤ r.toInt ∧ r.toInt ≤ 255) := by
  obtain ⟨r, e, q⟩ := bits_nat x
  obtain ⟨r', e', q1, q2⟩ := o8_bits x
  rw [e] at e'
  cases e'
  have hx := ir_toNat h
  have hp := bitsN_pos (k := x.toBitVec.toNat) (fun z => h0 (Int32.toBitVec.inj (BitVec.eq_of_toNat_eq z))) hx
  rw [← q] at hp
  have := tonat (x := r) q1
  exact ⟨r, e, by omega, q2⟩
theorem rs8n {σ0 σ : St} {a x : Int32} {r : Int64} (hK : K σ0 σ) (hr : RS8 σ0 a.toNatClampNeg) (h0 : 0 ≤ x.toInt) (h : x.toInt < (σ.1 78 a.toNatClampNeg).toInt) (e : r = σ.2 80 (60 * a.toNatClampNeg + x.toNatClampNeg)) : ir r.toInt32 12 := by
  rw [e, hK.n80]
  have := nN h0
  rw [hK.my0] at h
  exact hr _ (by omega)
theorem K.setv {σ τ : St} {k j : Nat} {v : Int32} (h : K σ τ) (hk : cor k j = false) {υ : St} (e : υ = setI τ k j v) : K σ υ := e ▸ h.set hk
