/-! how many bits -/
def bcN (x : Int32) : Int32 := (fJ6_bitCount_0f7a4 x).getD 0
theorem bc_eq (x : Int32) : fJ6_bitCount_0f7a4 x = some (bcN x) := rfl
/-! the subsets, one behind the other -/
def nxt (w s : Nat) : Nat := ((s + (4294967296 - w)) % 4294967296) &&& w
def runN (w : Nat) : Nat → Nat → Bool
  | 0, _ => true
  | n + 1, s => if nxt w s = 0 then false else runN w n (nxt w s)
def pcN (w : Nat) : Nat := (bcN (Int32.ofNat w)).toInt.toNat
theorem run_0 : ∀ w, w < 512 → runN w (2 ^ pcN w - 1) 0 = true := by decide +kernel
theorem run_1 : ∀ w, w < 512 → runN (512 + w) (2 ^ pcN (512 + w) - 1) 0 = true := by decide +kernel
theorem run_2 : ∀ w, w < 512 → runN (1024 + w) (2 ^ pcN (1024 + w) - 1) 0 = true := by decide +kernel
theorem run_3 : ∀ w, w < 512 → runN (1536 + w) (2 ^ pcN (1536 + w) - 1) 0 = true := by decide +kernel
theorem run_4 : ∀ w, w < 512 → runN (2048 + w) (2 ^ pcN (2048 + w) - 1) 0 = true := by decide +kernel
theorem run_5 : ∀ w, w < 512 → runN (2560 + w) (2 ^ pcN (2560 + w) - 1) 0 = true := by decide +kernel
theorem run_6 : ∀ w, w < 512 → runN (3072 + w) (2 ^ pcN (3072 + w) - 1) 0 = true := by decide +kernel
theorem run_7 : ∀ w, w < 512 → runN (3584 + w) (2 ^ pcN (3584 + w) - 1) 0 = true := by decide +kernel
