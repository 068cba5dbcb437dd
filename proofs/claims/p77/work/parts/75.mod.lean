/-! single bits -/
theorem sm_k : ∀ k, k < 32 → ((Int32.ofNat k &&& 31).toBitVec.smod 32).toNat = k := by decide +kernel
theorem bg (x : Int32) {k : Nat} (hk : k < 32) : ((x >>> (Int32.ofNat k &&& 31)) &&& 1) = 0 ↔ x.toBitVec.getLsbD k = false := by
  have e : ∀ i, i < 32 → ((x >>> (Int32.ofNat k &&& 31)) &&& 1).toBitVec.getLsbD i = (x.toBitVec.getLsbD k && decide (i = 0)) := fun i hi => by
    rw [Int32.toBitVec_and, Int32.toBitVec_shiftRight]
    show ((x.toBitVec.sshiftRight ((Int32.ofNat k &&& 31).toBitVec.smod 32).toNat) &&& 1#32).getLsbD i = _
    rw [sm_k k hk, BitVec.getLsbD_and, BitVec.getLsbD_one]
    by_cases h0 : i = 0
    · subst h0
      rw [BitVec.getLsbD_sshiftRight]
      simp [hk]
    · simp [h0]
  constructor
  · intro h
    have h1 := e 0 (by decide)
    rw [h] at h1
    have h2 : (0 : Int32).toBitVec.getLsbD 0 = false := by decide
    rw [h2] at h1
    simpa using h1.symm
  · intro h
    apply Int32.toBitVec.inj
    apply BitVec.eq_of_getLsbD_eq
    intro i hi
    rw [e i hi, h]
    show false = (0#32).getLsbD i
    rw [BitVec.getLsbD_zero]
/-- how much of the twelve lowest bits is wanting -/
def mu (x : Int32) : Nat := 4095 - x.toBitVec.toNat % 4096
theorem mu_le (x : Int32) : mu x ≤ 4095 := by unfold mu; omega
theorem pw_k : ∀ k, k < 12 → ((1 : Int32) <<< (Int32.ofNat k &&& 31)).toBitVec.toNat = 2 ^ k := by decide +kernel
theorem mu_lt {x g : Int32} (hg : ir g 12) (h : ((x >>> (g &&& 31)) &&& 1) = 0) : mu (x ||| ((1 : Int32) <<< (g &&& 31))) < mu x := by
  obtain ⟨k, hk, rfl⟩ := small hg
  have h := (bg x (by omega)).mp h
  have hb : x.toBitVec.toNat.testBit k = false := h
  unfold mu
  rw [Int32.toBitVec_or, BitVec.toNat_or, pw_k k hk]
  have e1 : (x.toBitVec.toNat ||| 2 ^ k) % 4096 = (x.toBitVec.toNat % 4096) ||| 2 ^ k := by
    have := Nat.or_mod_two_pow (a := x.toBitVec.toNat) (b := 2 ^ k) (n := 12)
    rw [show (4096 : Nat) = 2 ^ 12 from rfl, this, Nat.mod_eq_of_lt (a := 2 ^ k) (Nat.pow_lt_pow_right (by decide) hk)]
  rw [e1]
  have hlt : (x.toBitVec.toNat % 4096) ||| 2 ^ k < 4096 := Nat.or_lt_two_pow (n := 12) (Nat.mod_lt _ (by decide)) (Nat.pow_lt_pow_right (by decide) hk)
  have hge : x.toBitVec.toNat % 4096 ≤ (x.toBitVec.toNat % 4096) ||| 2 ^ k := Nat.left_le_or
  have hne : x.toBitVec.toNat % 4096 ≠ (x.toBitVec.toNat % 4096) ||| 2 ^ k := fun q => by
    have q1 : (x.toBitVec.toNat % 4096).testBit k = false := by
      rw [show (4096 : Nat) = 2 ^ 12 from rfl, Nat.testBit_mod_two_pow, hb]
      simp
    have q2 : ((x.toBitVec.toNat % 4096) ||| 2 ^ k).testBit k = true := by
      rw [Nat.testBit_or, Nat.testBit_two_pow_self]
      simp
    rw [← q, q1] at q2
    cases q2
  omega
/-! the reference's cells -/
theorem K.at8 {σ τ : St} (h : K σ τ) : 0 ≤ (τ.1 63 (0 : Int32).toNatClampNeg).toInt ∧ (τ.1 63 (0 : Int32).toNatClampNeg).toInt ≤ 4 := h.mi.2.1.1
theorem K.cl8 {σ τ : St} (h : K σ τ) : 0 ≤ (τ.1 63 (3 : Int32).toNatClampNeg).toInt ∧ (τ.1 63 (3 : Int32).toNatClampNeg).toInt ≤ 12 := h.mi.2.1.2.1
theorem K.st8 {σ τ : St} (h : K σ τ) : 0 ≤ (τ.1 63 (4 : Int32).toNatClampNeg).toInt ∧ (τ.1 63 (4 : Int32).toNatClampNeg).toInt ≤ 12 := h.mi.2.1.2.2.1
theorem K.gu8 {σ τ : St} (h : K σ τ) : (0 ≤ (τ.1 63 (5 : Int32).toNatClampNeg).toInt ∧ (τ.1 63 (5 : Int32).toNatClampNeg).toInt ≤ 5) ∧ (τ.1 63 (5 : Int32).toNatClampNeg).toInt = (σ.1 63 (5 : Int32).toNatClampNeg).toInt := ⟨h.mi.2.1.2.2.2.1, by rw [h.2.2.1 63 _ rfl]⟩
theorem K.mny {σ τ : St} (h : K σ τ) {a : Int32} (ha : ir a 4) : -1 ≤ (τ.1 78 a.toNatClampNeg).toInt ∧ (τ.1 78 a.toNatClampNeg).toInt ≤ 60 := h.mi.2.2.2 _ (slot_lt ha)
theorem ix_cl {a k : Int32} (ha : ir a 12) (h0 : 0 ≤ k.toInt) (h1 : k.toInt ≤ 2) : ir (7 + 3 * a + k) 77 ∧ (7 + 3 * a + k).toNatClampNeg = 7 + 3 * a.toNatClampNeg + k.toNatClampNeg := by
  have a1 := ha.1
  have a2 := ha.2
  have m1 : (3 * a).toInt = 3 * a.toInt := i_mul (m := 3) rfl rfl (by omega) (by omega)
  have m2 : (7 + 3 * a).toInt = 7 + 3 * a.toInt := i_add (m := 7) rfl m1 (by omega) (by omega)
  have m3 : (7 + 3 * a + k).toInt = 7 + 3 * a.toInt + k.toInt := i_add m2 rfl (by omega) (by omega)
  have n1 := nN a1
  have n2 := nN h0
  have n3 := nN (x := 7 + 3 * a + k) (by omega)
  exact ⟨⟨by omega, by rw [m3]; show _ < (77 : Int); omega⟩, by omega⟩
theorem ix_st {a k : Int32} (ha : ir a 12) (h0 : 0 ≤ k.toInt) (h1 : k.toInt ≤ 1) : ir (43 + 2 * a + k) 77 ∧ (43 + 2 * a + k).toNatClampNeg = 43 + 2 * a.toNatClampNeg + k.toNatClampNeg := by
  have a1 := ha.1
  have a2 := ha.2
  have m1 : (2 * a).toInt = 2 * a.toInt := i_mul (m := 2) rfl rfl (by omega) (by omega)
  have m2 : (43 + 2 * a).toInt = 43 + 2 * a.toInt := i_add (m := 43) rfl m1 (by omega) (by omega)
  have m3 : (43 + 2 * a + k).toInt = 43 + 2 * a.toInt + k.toInt := i_add m2 rfl (by omega) (by omega)
  have n1 := nN a1
  have n2 := nN h0
  have n3 := nN (x := 43 + 2 * a + k) (by omega)
  exact ⟨⟨by omega, by rw [m3]; show _ < (77 : Int); omega⟩, by omega⟩
theorem ix_gu {a k : Int32} (ha : ir a 5) (h0 : 0 ≤ k.toInt) (h1 : k.toInt ≤ 1) : ir (67 + 2 * a + k) 77 ∧ (67 + 2 * a + k).toNatClampNeg = 67 + 2 * a.toNatClampNeg + k.toNatClampNeg := by
  have a1 := ha.1
  have a2 := ha.2
  have m1 : (2 * a).toInt = 2 * a.toInt := i_mul (m := 2) rfl rfl (by omega) (by omega)
  have m2 : (67 + 2 * a).toInt = 67 + 2 * a.toInt := i_add (m := 67) rfl m1 (by omega) (by omega)
  have m3 : (67 + 2 * a + k).toInt = 67 + 2 * a.toInt + k.toInt := i_add m2 rfl (by omega) (by omega)
  have n1 := nN a1
  have n2 := nN h0
  have n3 := nN (x := 67 + 2 * a + k) (by omega)
  exact ⟨⟨by omega, by rw [m3]; show _ < (77 : Int); omega⟩, by omega⟩
theorem o8_ofClaim {σ : St} {a k : Int32} (ha : ir a 12) (h0 : 0 ≤ k.toInt) (h1 : k.toInt ≤ 2) : ok (fX8_ofClaim σ a k) (fun _ => True) := ok_gd (ix_cl ha h0 h1).1 (ok_some trivial)
theorem o8_ofSalt {σ0 σ : St} {a : Int32} (hK : K σ0 σ) (ha : ir a 12) : ok (fX8_ofClaim σ a 1) (fun r => r = 0 ∨ r = 1) := by
  obtain ⟨i1, i2⟩ := ix_cl (k := 1) ha (by decide) (by decide)
  refine ok_gd i1 (ok_some ?_)
  rw [i2]
  have n1 := nN ha.1
  have := ha.2
  have q := hK.mi.2.1.2.2.2.2.1 a.toNatClampNeg (by omega)
  rwa [Nat.zero_add] at q
theorem o8_ofStep {σ : St} {a k : Int32} (ha : ir a 12) (h0 : 0 ≤ k.toInt) (h1 : k.toInt ≤ 1) : ok (fX8_ofStep σ a k) (fun _ => True) := ok_gd (ix_st ha h0 h1).1 (ok_some trivial)
/-- what a STEP gives -/
def gv (σ : St) (a : Int32) : Int32 := σ.1 63 (43 + 2 * a + 0).toNatClampNeg
theorem gv_eq {σ : St} {a : Int32} (ha : ir a 12) : fX8_ofStep σ a 0 = some (gv σ a) := gd_t (ix_st ha (by decide) (by decide)).1
theorem gv_ir {σ0 σ : St} {a : Int32} (hK : K σ0 σ) (ha : ir a 12) : ir (gv σ a) 12 := by
  obtain ⟨i1, i2⟩ := ix_st (k := 0) ha (by decide) (by decide)
  unfold gv
  rw [i2]
  have n1 := nN ha.1
  have := ha.2
  have q := hK.mi.2.1.2.2.2.2.2.1 a.toNatClampNeg (by omega)
  rwa [Nat.zero_add] at q
theorem o8_ofGives {σ0 σ : St} {a : Int32} (hK : K σ0 σ) (ha : ir a 12) : ok (fX8_ofStep σ a 0) (fun r => ir r 12) := ⟨_, gv_eq ha, gv_ir hK ha⟩
theorem o8_ofGuest {σ : St} {a k : Int32} (ha : ir a 5) (h0 : 0 ≤ k.toInt) (h1 : k.toInt ≤ 1) : ok (fX8_ofGuest σ a k) (fun _ => True) := ok_gd (ix_gu ha h0 h1).1 (ok_some trivial)
theorem o8_ofSpeed {σ0 σ : St} {a : Int32} (hK : K σ0 σ) (ha : 0 ≤ a.toInt ∧ a.toInt < (σ0.1 63 (5 : Int32).toNatClampNeg).toInt) : ok (fX8_ofGuest σ a 0) (fun r => ¬ r = 0) := by
  have hg := hK.gu8
  have hh : ir a 5 := ⟨ha.1, by show _ < (5 : Int); omega⟩
  obtain ⟨i1, i2⟩ := ix_gu (k := 0) hh (by decide) (by decide)
  refine ok_gd i1 (ok_some ?_)
  rw [i2]
  have n1 := nN ha.1
  have hl : ((a.toNatClampNeg : Nat) : Int) < (σ.1 63 5).toInt := by
    have : (σ.1 63 5).toInt = (σ.1 63 (5 : Int32).toNatClampNeg).toInt := rfl
    omega
  have q := hK.mi.2.1.2.2.2.2.2.2 a.toNatClampNeg (by omega) hl
  rwa [Nat.zero_add] at q
theorem o8_canDo {σ0 σ : St} {a : Int32} (hK : K σ0 σ) (ha : 0 ≤ a.toInt ∧ a.toInt < (σ0.1 63 (5 : Int32).toNatClampNeg).toInt) : ok (fX8_canDo σ a) (fun _ => True) := by
  unfold fX8_canDo
  exact ok_gd (by decide) (ok_bp (o8_ofSpeed hK ha) (fun r h => ok_gd h (ok_some trivial)))
theorem o8_numberAt {σ : St} {a i : Int32} (ha : ir a 4) (hi : ir i 60) : ok (fX8_numberAt σ a i) (fun r => r = σ.2 80 (60 * a.toNatClampNeg + i.toNatClampNeg)) := by
  have a1 := ha.1
  have a2 := ha.2
  have b1 := hi.1
  have b2 := hi.2
  have m1 : (60 * a).toInt = 60 * a.toInt := i_mul (m := 60) rfl rfl (by omega) (by omega)
  have m2 : (60 * a + i).toInt = 60 * a.toInt + i.toInt := i_add m1 rfl (by omega) (by omega)
  have n1 := nN a1
  have n2 := nN b1
  have n3 := nN (x := 60 * a + i) (by omega)
  refine ok_gd ⟨by omega, by rw [m2]; show _ < (240 : Int); omega⟩ (ok_some ?_)
  rw [show (60 * a + i).toNatClampNeg = 60 * a.toNatClampNeg + i.toNatClampNeg by omega]
theorem ok_in {a b c : Int64} {u v w : Int} (ha : a.toInt = u) (hb : b.toInt = v) (hc : c.toInt = w) : ok (fX8_in a b c) (tf (v ≤ u ∧ u ≤ w)) := by
  rcases o8_in ha hb hc with ⟨h1, h2, e⟩ | ⟨_, e⟩
  · exact ⟨1, e, tf1 ⟨h1, h2⟩⟩
  · exact ⟨0, e, tf0⟩
theorem ok_isC8 {σ0 σ : St} {a : Int64} {u : Int} (hK : K σ0 σ) (ha : a.toInt = u) : ok (fX8_isClaim σ a) (tf (0 ≤ u ∧ u < (σ.1 63 (3 : Int32).toNatClampNeg).toInt)) := by
  have hc := hK.cl8
  unfold fX8_isClaim
  refine ok_gd (by decide) (ok_bp (ok_in ha (v := 0) rfl ((Int32.toInt_toInt64 _).trans (dec1 (by omega)))) (fun r h => ?_))
  refine ok_gd (tf01 h) (ok_some ?_)
  rcases h with h | ⟨h, h1, h2⟩
  · exact Or.inl h
  · exact Or.inr ⟨h, h1, by omega⟩
theorem ok_isS8 {σ0 σ : St} {a : Int64} {u : Int} (hK : K σ0 σ) (ha : a.toInt = u) : ok (fX8_isStep σ a) (tf (0 ≤ u ∧ u < (σ.1 63 (4 : Int32).toNatClampNeg).toInt)) := by
  have hc := hK.st8
  unfold fX8_isStep
  refine ok_gd (by decide) (ok_bp (ok_in ha (v := 0) rfl ((Int32.toInt_toInt64 _).trans (dec1 (by omega)))) (fun r h => ?_))
  refine ok_gd (tf01 h) (ok_some ?_)
  rcases h with h | ⟨h, h1, h2⟩
  · exact Or.inl h
  · exact Or.inr ⟨h, h1, by omega⟩
theorem ok_isG8 {σ0 σ : St} {a : Int64} {u : Int} (hK : K σ0 σ) (ha : a.toInt = u) : ok (fX8_isGuest σ a) (tf (0 ≤ u ∧ u < (σ0.1 63 (5 : Int32).toNatClampNeg).toInt)) := by
  have hc := hK.gu8
  unfold fX8_isGuest
  refine ok_gd (by decide) (ok_bp (ok_in ha (v := 0) rfl ((Int32.toInt_toInt64 _).trans (dec1 (by omega)))) (fun r h => ?_))
  refine ok_gd (tf01 h) (ok_some ?_)
  rcases h with h | ⟨h, h1, h2⟩
  · exact Or.inl h
  · exact Or.inr ⟨h, h1, by omega⟩
theorem ok_isSl8 {a : Int32} : ok (fX8_isSlot a) (tf (ir a 4)) := by
  rcases o8_isSlot a with ⟨h, e⟩ | ⟨_, e⟩
  · exact ⟨1, e, tf1 h⟩
  · exact ⟨0, e, tf0⟩
theorem ok_isSd8 {a : Int32} : ok (fX8_isSeed a) (tf True) := by
  unfold fX8_isSeed
  exact ok_bp (ok_in rfl rfl rfl) (fun r h => ok_gd (tf01 h) (ok_some (h.elim Or.inl (fun q => Or.inr ⟨q.1, trivial⟩))))
theorem ok_isT8 {σ : St} : ok (fX8_isTable σ) (tf True) := by
  unfold fX8_isTable
  exact ok_gd (by decide) (ok_if (fun _ => ok_gd (by decide) (ok_some tf0)) (fun _ => ok_gd (by decide) (ok_some (tf1 trivial))))
theorem ok_bit8 {a b : Int32} : ok (fX8_bit a b) (fun r => r = ((a >>> (b &&& 31)) &&& 1)) := ok_some rfl
theorem o8_bits (x : Int32) : ok (fX8_bits x) (fun r => 0 ≤ r.toInt ∧ r.toInt ≤ 255) := by
  unfold fX8_bits
  refine ok_la (fun v1 => ok_la (fun v2 => ok_some ?_))
  generalize ((v2 + ((v2.toUInt32 >>> ((4 : Int32).toUInt32 &&& Int32.toUInt32 31)).toInt32)) &&& (252645135 : Int32)) * (16843009 : Int32) = y
  have h : ((y.toUInt32 >>> ((24 : Int32).toUInt32 &&& Int32.toUInt32 31)).toInt32).toBitVec.toNat ≤ 255 := by
    show (y.toUInt32 >>> ((24 : Int32).toUInt32 &&& Int32.toUInt32 31)).toBitVec.toNat ≤ 255
    rw [UInt32.toBitVec_shiftRight]
    show (y.toUInt32.toBitVec >>> (((24 : Int32).toUInt32 &&& Int32.toUInt32 31).toBitVec % 32).toNat).toNat ≤ 255
    rw [show (((24 : Int32).toUInt32 &&& Int32.toUInt32 31).toBitVec % 32).toNat = 24 from by decide, BitVec.toNat_ushiftRight, Nat.shiftRight_eq_div_pow]
    have := y.toUInt32.toBitVec.isLt
    omega
  have := ofnat (x := (y.toUInt32 >>> ((24 : Int32).toUInt32 &&& Int32.toUInt32 31)).toInt32) (by omega)
  omega
theorem ir_bit {r x : Int32} (hr : r = 0 ∨ r = 1) (hx : ir x 12) : ir (r <<< (x &&& 31)) 4096 := by
  obtain ⟨k, hk, rfl⟩ := small hx
  rcases hr with rfl | rfl
  · have : ∀ k, k < 12 → ir ((0 : Int32) <<< (Int32.ofNat k &&& 31)) 4096 := by decide +kernel
    exact this k hk
  · exact sh_lt k hk
theorem irs {a b : Int32} (ha : ir a 17) (hb : ir b 16) : ir (a + b) 32 := by
  have a1 := ha.1
  have a2 := ha.2
  have b1 := hb.1
  have b2 := hb.2
  have e : (a + b).toInt = a.toInt + b.toInt := i_add rfl rfl (by omega) (by omega)
  constructor
  · omega
  · rw [e]
    show _ < (32 : Int)
    omega
theorem d2_k : ∀ k, k < 4 → ((2 : Int32) <<< (Int32.ofNat k &&& 31)).toInt = 2 * ((1 : Int32) <<< (Int32.ofNat k &&& 31)).toInt ∧ ((1 : Int32) <<< (Int32.ofNat k &&& 31)).toInt ≤ 8 ∧ 1 ≤ ((1 : Int32) <<< (Int32.ofNat k &&& 31)).toInt := by decide +kernel
theorem d2 {x : Int32} (h0 : 0 ≤ x.toInt) (h1 : x.toInt ≤ 3) : ((2 : Int32) <<< (x &&& 31)).toInt = 2 * ((1 : Int32) <<< (x &&& 31)).toInt ∧ ((1 : Int32) <<< (x &&& 31)).toInt ≤ 8 ∧ 1 ≤ ((1 : Int32) <<< (x &&& 31)).toInt := by
  obtain ⟨k, hk, rfl⟩ := small (x := x) (n := 4) ⟨h0, by omega⟩
  exact d2_k k hk
/-! steps that go, on and on -/
theorem o8_goesI {σ0 σ : St} {a p : Int32} (hK : K σ0 σ) (ha : ir a 12) : ok (fX8_goes σ a p) (tf (((p >>> (gv σ a &&& 31)) &&& 1) = 0)) := by
  unfold fX8_goes
  refine ok_bp (o8_ofStep ha (by decide) (by decide)) (fun r1 _ => ok_if (fun _ => ?_) (fun _ => ok_gd (by decide) (ok_some tf0)))
  rw [gv_eq ha, bp_s]
  exact ok_bp ok_bit8 (fun r3 h3 => ok_if (fun h => ok_gd (by decide) (ok_some (tf1 (h3 ▸ h)))) (fun _ => ok_gd (by decide) (ok_some tf0)))
theorem o8_goes {σ0 σ : St} {a p : Int32} (hK : K σ0 σ) (ha : ir a 12) : ok (fX8_goes σ a p) (tf True) := ok_mono (o8_goesI hK ha) (fun r h => h.elim Or.inl (fun q => Or.inr ⟨q.1, trivial⟩))
theorem ol8_provedBy_l16 {σ0 σ : St} (hK : K σ0 σ) {kr5 : Int32 → Int32 → Int32 → Option Int32} {m : Nat} (hk : ∀ x2 x3 x4 : Int32, (if x4 = 0 then 0 else mu x3 + 1) < m → ok (kr5 x2 x3 x4) (fun _ => True)) : ∀ (n : Nat) (x2 x3 x4 x5 : Int32), 0 ≤ x5.toInt → ((x4 = 0 ∧ mu x3 < m) ∨ (x4 = 1 ∧ mu x3 + 1 < m)) → (13 - x5.toInt).toNat < n → ok (fX8_provedBy_l16 σ kr5 n x2 x3 x4 x5) (fun _ => True) := by
  intro n
  induction n with
  | zero => intro x2 x3 x4 x5 _ _ h; omega
  | succ n ih =>
    intro x2 x3 x4 x5 h0 hI hm
    show ok (fX8_provedBy_B16 σ kr5 (fX8_provedBy_l16 σ kr5 n) x2 x3 x4 x5) _
    unfold fX8_provedBy_B16
    have c := hK.st8
    refine ok_gd (by decide) (ok_le rfl rfl (fun _ => hk _ _ _ ?_) (fun hlt => ?_))
    · rcases hI with ⟨rfl, h⟩ | ⟨rfl, h⟩
      · rw [if_pos rfl]; omega
      · rw [if_neg i10]; exact h
    · have h5 : ir x5 12 := ⟨h0, by show _ < (12 : Int); omega⟩
      have e7 := inc (x := x5) (by omega)
      refine ok_bp ok_bit8 (fun r1 _ => ok_if (fun _ => ok_lt (ih _ _ _ _ (by omega) hI (by omega))) (fun _ => ok_bz (o8_goesI hK h5) (ok_lt (ih _ _ _ _ (by omega) hI (by omega))) (fun hg => ?_)))
      rw [gv_eq h5, bp_s]
      refine ok_lt (ok_lt (ok_lt (ih _ _ _ _ (by omega) (Or.inr ⟨rfl, ?_⟩) (by omega))))
      have := mu_lt (gv_ir hK h5) hg
      rcases hI with ⟨_, h⟩ | ⟨_, h⟩ <;> omega
theorem ol8_provedBy_l5 {σ0 σ : St} (hK : K σ0 σ) : ∀ (n : Nat) (x2 x3 x4 : Int32), (if x4 = 0 then 0 else mu x3 + 1) < n → ok (fX8_provedBy_l5 σ n x2 x3 x4) (fun _ => True) := by
  intro n
  induction n with
  | zero => intro x2 x3 x4 h; omega
  | succ n ih =>
    intro x2 x3 x4 h
    show ok (fX8_provedBy_B5 σ (fX8_provedBy_l5 σ n) x2 x3 x4) _
    unfold fX8_provedBy_B5
    refine ok_if (fun _ => ok_some trivial) (fun h4 => ok_lt (ok_lt ?_))
    rw [if_neg h4] at h
    exact ol8_provedBy_l16 hK ih FU _ _ _ _ (by decide) (Or.inl ⟨rfl, by omega⟩) (by decide)
theorem o8_provedBy {σ0 σ : St} {a b : Int32} (hK : K σ0 σ) : ok (fX8_provedBy σ a b) (fun _ => True) := by
  unfold fX8_provedBy
  refine ok_lt (ok_lt (ol8_provedBy_l5 hK FU _ _ _ ?_))
  have := mu_le a
  rw [if_neg i10]
  unfold FU
  omega
/-! the lowest bit, divisors -/
theorem ol8_lowest {x : Int32} (hx : ¬ x = 0) : ∀ (n : Nat) (k : Nat), k ≤ 32 → (∀ j, j < k → x.toBitVec.getLsbD j = false) → 33 - k < n → ok (fX8_lowest_l8 n x (Int32.ofNat k)) (fun _ => True) := by
  intro n
  induction n with
  | zero => intro k _ _ h; omega
  | succ n ih =>
    intro k hk hI hm
    show ok (fX8_lowest_B8 (fX8_lowest_l8 n) x (Int32.ofNat k)) _
    unfold fX8_lowest_B8
    by_cases h32 : k = 32
    · refine absurd (Int32.toBitVec.inj (BitVec.eq_of_getLsbD_eq (fun i hi => ?_))) hx
      rw [hI i (by omega)]
      show false = (0#32).getLsbD i
      rw [BitVec.getLsbD_zero]
    · refine ok_bp ok_bit8 (fun r1 h1 => ok_if (fun h => ?_) (fun _ => ok_some trivial))
      have hb := (bg x (k := k) (by omega)).mp (h1 ▸ h)
      have e : Int32.ofNat k + 1 = Int32.ofNat (k + 1) := by
        have h1 : (Int32.ofNat k).toInt = (k : Int) := Int32.toInt_ofNat_of_lt (by omega)
        have h2 : (Int32.ofNat (k + 1)).toInt = ((k + 1 : Nat) : Int) := Int32.toInt_ofNat_of_lt (by omega)
        apply Int32.toInt_inj.mp
        rw [inc (by omega), h1, h2]
        omega
      refine ok_lt ?_
      rw [e]
      refine ih (k + 1) (by omega) (fun j hj => ?_) (by omega)
      by_cases hjk : j = k
      · rw [hjk]; exact hb
      · exact hI j (by omega)
theorem o8_lowest {x : Int32} : ok (fX8_lowest x) (fun _ => True) := by
  unfold fX8_lowest
  exact ok_if (fun _ => ok_some trivial) (fun h => ok_lt (ol8_lowest h FU 0 (by decide) (fun j hj => absurd hj (by omega)) (by decide)))
theorem ol8_divisor : ∀ (n : Nat) (x y : Int32), (¬ x = 0 ∨ ¬ y = 0) → y.toInt.natAbs < n → ok (fX8_divisor_l4 n x y) (fun r => ¬ r = 0) := by
  intro n
  induction n with
  | zero => intro x y _ h; omega
  | succ n ih =>
    intro x y hI hm
    show ok (fX8_divisor_B4 (fX8_divisor_l4 n) x y) _
    unfold fX8_divisor_B4
    refine ok_if (fun h => ok_some (hI.resolve_right (fun q => q h))) (fun h => ok_gd h (ok_lt (ok_lt (ok_lt (ih _ _ (Or.inl h) ?_)))))
    rw [rem_toInt, Int.natAbs_tmod]
    have : 0 < y.toInt.natAbs := by
      have : y.toInt ≠ 0 := fun q => h (Int32.toInt_inj.mp q)
      omega
    have := Nat.mod_lt x.toInt.natAbs this
    omega
theorem o8_part {a b w : Int32} (hb : 1 ≤ b.toInt ∧ b.toInt ≤ 255) : ok (fX8_part a b w) (fun _ => True) := by
  have d : ok (fX8_divisor a b) (fun r => ¬ r = 0) := by
    unfold fX8_divisor
    refine ok_lt (ok_lt (ol8_divisor FU _ _ (Or.inr (fun e => ?_)) ?_))
    · subst e
      have : (0 : Int32).toInt = 0 := rfl
      omega
    · unfold FU
      omega
  unfold fX8_part
  refine ok_if (fun _ => ?_) (fun _ => ?_) <;> unfold fX8_part_b9 <;> exact ok_bp d (fun r h => ok_gd h (ok_some trivial))
/-! rows of numbers -/
def RS8 (σ : St) (s : Nat) : Prop := ∀ j : Nat, (j : Int) < (σ.1 78 s).toInt → ir ((σ.2 80 (60 * s + j)).toInt32) 12
def RP8 (σ : St) (s : Nat) : Prop := ∀ j : Nat, (j : Int) < (σ.1 78 s).toInt → (j % 2 = 0 → ir ((σ.2 80 (60 * s + j)).toInt32) 5) ∧ (j % 2 = 1 → ir ((σ.2 80 (60 * s + j)).toInt32) 12)
theorem K.my0 {σ0 σ : St} (hK : K σ0 σ) (s : Nat) : σ.1 78 s = σ0.1 78 s := hK.2.2.1 78 s rfl
theorem K.n80 {σ0 σ : St} (hK : K σ0 σ) (j : Nat) : σ.2 80 j = σ0.2 80 j := hK.2.2.2 80 j (by decide)
theorem ol8_asksRow {σ0 σ : St} (hK : K σ0 σ) {a : Int32} (ha : ir a 4) : ∀ (n : Nat) (x : Int32), 0 ≤ x.toInt → (∀ j : Nat, (j : Int) < x.toInt → ir ((σ0.2 80 (60 * a.toNatClampNeg + j)).toInt32) 12) → (61 - x.toInt).toNat < n → ok (fX8_asksRow_l36 σ n a x) (fun r => 0 ≤ r.toInt → RS8 σ0 a.toNatClampNeg) := by
  intro n
  induction n with
  | zero => intro x _ _ h; omega
  | succ n ih =>
    intro x hx hI hm
    show ok (fX8_asksRow_B36 σ (fX8_asksRow_l36 σ n) a x) _
    unfold fX8_asksRow_B36
    have cm := hK.mny ha
    have nx := nN hx
    refine ok_gd ha (ok_le rfl rfl (fun h => ok_some (fun _ j hj => hI j ?_)) (fun h => ?_))
    · rw [hK.my0] at h
      omega
    · have hx60 : ir x 60 := ⟨hx, by show _ < (60 : Int); omega⟩
      refine ok_bp (o8_numberAt ha hx60) (fun r1 h1 => ok_bz (ok_isS8 hK rfl) (ok_some (fun q => absurd q (by decide))) (fun hs => ?_))
      have e7 := inc (x := x) (by omega)
      have cs := hK.st8
      refine ok_lt (ih _ (by omega) (fun j hj => ?_) (by omega))
      by_cases hjx : j = x.toNatClampNeg
      · subst hjx
        rw [← hK.n80, ← h1]
        exact t32 hs.1 (by show _ < (12 : Int); omega) (by decide)
      · exact hI j (by omega)
theorem o8_asksRow {σ0 σ : St} {a b : Int32} (hK : K σ0 σ) : ok (fX8_asksRow σ a b) (fun r => 0 ≤ r.toInt → ir a 4 ∧ ¬ b = 0 ∧ RS8 σ0 a.toNatClampNeg ∧ 0 ≤ (σ0.1 78 a.toNatClampNeg).toInt) := by
  unfold fX8_asksRow
  refine ok_bz ok_isSl8 (ok_some (fun q => absurd q (by decide))) (fun ha => ok_bz ok_isT8 (ok_some (fun q => absurd q (by decide))) (fun _ => ok_if (fun _ => ok_some (fun q => absurd q (by decide))) (fun hb => ok_gd ha (ok_if (fun _ => ok_some (fun q => absurd q (by decide))) (fun hm => ok_lt ?_)))))
  have cm := hK.mny ha
  have hm' : (σ.1 78 a.toNatClampNeg).toInt ≠ -1 := ine hm
  rw [hK.my0] at cm hm'
  exact ok_mono (ol8_asksRow hK ha FU 0 (by decide) (fun j hj => absurd hj (by have : (0 : Int32).toInt = 0 := rfl; omega)) (by decide)) (fun r q h => ⟨ha, hb, q h, by omega⟩)
theorem ol8_asksEaten {σ0 σ : St} (hK : K σ0 σ) {a : Int32} (ha : ir a 4) : ∀ (n : Nat) (x : Int32), 0 ≤ x.toInt → (61 - x.toInt).toNat < n → ok (fX8_asksEaten_l36 σ n a x) (fun _ => True) := by
  intro n
  induction n with
  | zero => intro x _ h; omega
  | succ n ih =>
    intro x hx hm
    show ok (fX8_asksEaten_B36 σ (fX8_asksEaten_l36 σ n) a x) _
    unfold fX8_asksEaten_B36
    have cm := hK.mny ha
    refine ok_gd ha (ok_le rfl rfl (fun h => ok_some trivial) (fun h => ?_))
    have hx60 : ir x 60 := ⟨hx, by show _ < (60 : Int); omega⟩
    have cs := hK.cl8
    refine ok_bp (o8_numberAt ha hx60) (fun r1 h1 => ok_bz (ok_isC8 hK rfl) (ok_some trivial) (fun hs => ok_bp (o8_numberAt ha hx60) (fun r3 h3 => ?_)))
    have e7 := inc (x := x) (by omega)
    have h12 : ir r3.toInt32 12 := by
      rw [h3, ← h1]
      exact t32 hs.1 (by show _ < (12 : Int); omega) (by decide)
    exact ok_bp (o8_ofClaim h12 (by decide) (by decide)) (fun r4 _ => ok_if (fun _ => ok_some trivial) (fun _ => ok_lt (ih _ (by omega) (by omega))))
theorem o8_asksEaten {σ0 σ : St} {a b : Int32} (hK : K σ0 σ) : ok (fX8_asksEaten σ a b) (fun r => 0 ≤ r.toInt → ir a 4 ∧ ¬ b = 0) := by
  unfold fX8_asksEaten
  refine ok_bz ok_isSl8 (ok_some (fun q => absurd q (by decide))) (fun ha => ok_bz ok_isT8 (ok_some (fun q => absurd q (by decide))) (fun _ => ok_if (fun _ => ok_some (fun q => absurd q (by decide))) (fun hb => ok_gd ha (ok_if (fun _ => ok_some (fun q => absurd q (by decide))) (fun _ => ok_lt ?_)))))
  exact ok_mono (ol8_asksEaten hK ha FU 0 (by decide) (by decide)) (fun r q h => ⟨ha, hb⟩)
theorem par_2 : ∀ k, k < 61 → (Int32.ofNat k - Int32.ofNat k / 2 * 2 = 0 ↔ k % 2 = 0) := by decide +kernel
theorem ol8_asksKitchen {σ0 σ : St} (hK : K σ0 σ) {a : Int32} (ha : ir a 4) (he : (σ.1 78 a.toNatClampNeg).toInt % 2 = 0) : ∀ (n : Nat) (x : Int32), 0 ≤ x.toInt → x.toInt % 2 = 0 → x.toInt ≤ 60 → (∀ j : Nat, (j : Int) < x.toInt → (j % 2 = 0 → ir ((σ0.2 80 (60 * a.toNatClampNeg + j)).toInt32) 5) ∧ (j % 2 = 1 → ir ((σ0.2 80 (60 * a.toNatClampNeg + j)).toInt32) 12)) → (61 - x.toInt).toNat < n → ok (fX8_asksKitchen_l50 σ n a x) (fun r => 0 ≤ r.toInt → RP8 σ0 a.toNatClampNeg) := by
  intro n
  induction n with
  | zero => intro x _ _ _ _ h; omega
  | succ n ih =>
    intro x hx hx2 hx60 hI hm
    show ok (fX8_asksKitchen_B50 σ (fX8_asksKitchen_l50 σ n) a x) _
    unfold fX8_asksKitchen_B50
    have cm := hK.mny ha
    have nx := nN hx
    refine ok_gd ha (ok_le rfl rfl (fun h => ok_some (fun _ j hj => hI j ?_)) (fun h => ?_))
    · rw [hK.my0] at h
      omega
    · have hx60 : ir x 60 := ⟨hx, by show _ < (60 : Int); omega⟩
      have e7 := inc (x := x) (by omega)
      have hy60 : ir (x + 1) 60 := ⟨by omega, by rw [e7]; show _ < (60 : Int); omega⟩
      have ny := nN hy60.1
      refine ok_bp (o8_numberAt ha hx60) (fun r1 h1 => ok_bz (ok_isG8 hK rfl) (ok_some (fun q => absurd q (by decide))) (fun hs => ok_bp (o8_numberAt ha hy60) (fun r3 h3 => ok_bz (ok_isS8 hK rfl) (ok_some (fun q => absurd q (by decide))) (fun ht => ?_))))
      have e8 := inc2 (x := x) (by omega)
      have cs := hK.st8
      have cg := hK.gu8
      refine ok_lt (ih _ (by omega) (by omega) (by omega) (fun j hj => ?_) (by omega))
      by_cases hjx : j = x.toNatClampNeg
      · subst hjx
        refine ⟨fun _ => ?_, fun q => absurd q (by omega)⟩
        rw [← hK.n80, ← h1]
        exact t32 hs.1 (by show _ < (5 : Int); omega) (by decide)
      · by_cases hjy : j = (x + 1).toNatClampNeg
        · subst hjy
          refine ⟨fun q => absurd q (by omega), fun _ => ?_⟩
          rw [← hK.n80, ← h3]
          exact t32 ht.1 (by show _ < (12 : Int); omega) (by decide)
        · exact hI j (by omega)
theorem o8_asksKitchen {σ0 σ : St} {a b : Int32} (hK : K σ0 σ) : ok (fX8_asksKitchen σ a b) (fun r => 0 ≤ r.toInt → ir a 4 ∧ ¬ b = 0 ∧ RP8 σ0 a.toNatClampNeg ∧ (σ0.1 78 a.toNatClampNeg).toInt % 2 = 0 ∧ 0 ≤ (σ0.1 78 a.toNatClampNeg).toInt) := by
  unfold fX8_asksKitchen
  refine ok_bz ok_isSl8 (ok_some (fun q => absurd q (by decide))) (fun ha => ok_bz ok_isT8 (ok_some (fun q => absurd q (by decide))) (fun _ => ok_if (fun _ => ok_some (fun q => absurd q (by decide))) (fun hb => ok_gd ha (ok_if (fun _ => ok_some (fun q => absurd q (by decide))) (fun hm => ok_gd ha (ok_gd (by decide) (ok_if (fun h2 => ok_lt ?_) (fun _ => ok_some (fun q => absurd q (by decide))))))))))
  have cm := hK.mny ha
  have hm' : (σ.1 78 a.toNatClampNeg).toInt ≠ -1 := ine hm
  obtain ⟨k, hk, ek⟩ := small (x := σ.1 78 a.toNatClampNeg) (n := 61) ⟨by omega, by show _ < (61 : Int); omega⟩
  rw [ek] at h2
  have h3 := (par_2 k hk).mp h2
  have e3 : (σ.1 78 a.toNatClampNeg).toInt = (k : Int) := by rw [ek]; exact Int32.toInt_ofNat_of_lt (by omega)
  refine ok_mono (ol8_asksKitchen hK ha (by omega) FU 0 (by decide) (by decide) (by decide) (fun j hj => absurd hj (by have : (0 : Int32).toInt = 0 := rfl; omega)) (by decide)) (fun r q h => ⟨ha, hb, q h, ?_, ?_⟩)
  · rw [← hK.my0]; omega
  · rw [← hK.my0]; omega
