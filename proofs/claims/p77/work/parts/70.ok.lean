theorem i10 : ¬ (1 : Int32) = 0 := by decide
def ok {α : Type} (x : Option α) (P : α → Prop) : Prop := ∃ a, x = some a ∧ P a
theorem ok_some {α : Type} {a : α} {P : α → Prop} (h : P a) : ok (some a) P := ⟨a, rfl, h⟩
theorem ok_gd {α : Type} {c : Prop} {d : Decidable c} {x : Option α} {P : α → Prop} (h : c) (k : ok x P) : ok (@gd α c d x) P := by
  unfold gd
  rw [if_pos h]
  exact k
theorem ok_lt {α β : Type} {a : β} {f : β → Option α} {P : α → Prop} (k : ok (f a) P) : ok (lt a f) P := k
theorem ok_lv {α β : Type} {a : β} {f : β → Option α} {P : α → Prop} (k : ∀ v, v = a → ok (f v) P) : ok (lt a f) P := k a rfl
theorem ok_if {α : Type} {c : Prop} {d : Decidable c} {x y : Option α} {P : α → Prop} (h1 : c → ok x P) (h2 : ¬ c → ok y P) : ok (@ite _ c d x y) P := by
  by_cases h : c
  · rw [if_pos h]; exact h1 h
  · rw [if_neg h]; exact h2 h
theorem nle {a b : Int32} (h : ¬ a ≤ b) : b.toInt < a.toInt := by
  rw [Int32.le_iff_toInt_le] at h; omega
theorem nlt {a b : Int32} (h : ¬ a < b) : b.toInt ≤ a.toInt := by
  rw [Int32.lt_iff_toInt_lt] at h; omega
theorem ile {a b : Int32} (h : a ≤ b) : a.toInt ≤ b.toInt := Int32.le_iff_toInt_le.mp h
theorem ilt {a b : Int32} (h : a < b) : a.toInt < b.toInt := Int32.lt_iff_toInt_lt.mp h
theorem ine {a b : Int32} (h : ¬ a = b) : a.toInt ≠ b.toInt := fun e => h (Int32.toInt_inj.mp e)
/-- a comparison, its sides known as numbers -/
theorem ok_le {α : Type} {a b : Int32} {m n : Int} {d : Decidable (a ≤ b)} {x y : Option α} {P : α → Prop} (ea : a.toInt = m) (eb : b.toInt = n) (h1 : m ≤ n → ok x P) (h2 : n < m → ok y P) : ok (@ite _ (a ≤ b) d x y) P := by
  subst ea; subst eb
  exact ok_if (fun h => h1 (ile h)) (fun h => h2 (nle h))
theorem ok_lw {α : Type} {a b : Int32} {m n : Int} {d : Decidable (a < b)} {x y : Option α} {P : α → Prop} (ea : a.toInt = m) (eb : b.toInt = n) (h1 : m < n → ok x P) (h2 : n ≤ m → ok y P) : ok (@ite _ (a < b) d x y) P := by
  subst ea; subst eb
  exact ok_if (fun h => h1 (ilt h)) (fun h => h2 (nlt h))
theorem ok_eq {α : Type} {a b : Int32} {m n : Int} {d : Decidable (a = b)} {x y : Option α} {P : α → Prop} (ea : a.toInt = m) (eb : b.toInt = n) (h1 : a = b → m = n → ok x P) (h2 : ¬ a = b → m ≠ n → ok y P) : ok (@ite _ (a = b) d x y) P := by
  subst ea; subst eb
  exact ok_if (fun h => h1 h (h ▸ rfl)) (fun h => h2 h (ine h))
theorem ok_bp {α β : Type} {x : Option β} {Q : β → Prop} {f : β → Option α} {P : α → Prop} (h : ok x Q) (k : ∀ a, Q a → ok (f a) P) : ok (bp x f) P := by
  obtain ⟨a, e, q⟩ := h
  subst e
  exact k a q
theorem ok_bs {α β : Type} {x : Option (β × St)} {Q : β × St → Prop} {f : β → St → Option α} {P : α → Prop} (h : ok x Q) (k : ∀ a s, Q (a, s) → ok (f a s) P) : ok (bs x f) P := by
  obtain ⟨⟨a, s⟩, e, q⟩ := h
  subst e
  exact k a s q
theorem ok_mono {α : Type} {x : Option α} {P Q : α → Prop} (h : ok x P) (k : ∀ a, P a → Q a) : ok x Q := by
  obtain ⟨a, e, q⟩ := h
  exact ⟨a, e, k a q⟩
/-- an answer 0 or 1; what 1 says -/
def tf (I : Prop) (r : Int32) : Prop := r = 0 ∨ (r = 1 ∧ I)
theorem ok_bz {α : Type} {x : Option Int32} {I : Prop} {A B : Int32 → Option α} {d : ∀ r : Int32, Decidable (r = 0)} {P : α → Prop} (h : ok x (tf I)) (kA : ok (A 0) P) (kB : I → ok (B 1) P) : ok (bp x (fun r => @ite _ (r = 0) (d r) (A r) (B r))) P := by
  refine ok_bp h (fun r hr => ?_)
  rcases hr with rfl | ⟨rfl, hI⟩
  · exact ok_if (fun _ => kA) (fun h => absurd rfl h)
  · exact ok_if (fun h => absurd h i10) (fun _ => kB hI)
theorem ok_bzs {α : Type} {x : Option (Int32 × St)} {I : St → Prop} {A B : Int32 → St → Option α} {d : ∀ r : Int32, Decidable (r = 0)} {P : α → Prop} (h : ok x (fun p => (p.1 = 0 ∨ p.1 = 1) ∧ I p.2)) (kA : ∀ s, I s → ok (A 0 s) P) (kB : ∀ s, I s → ok (B 1 s) P) : ok (bs x (fun r s => @ite _ (r = 0) (d r) (A r s) (B r s))) P := by
  refine ok_bs h (fun r s hr => ?_)
  obtain ⟨h0, hI⟩ := hr
  rcases h0 with h0 | h0
  · have h0 : r = 0 := h0
    subst h0
    exact ok_if (fun _ => kA s hI) (fun h => absurd rfl h)
  · have h0 : r = 1 := h0
    subst h0
    exact ok_if (fun h => absurd h i10) (fun _ => kB s hI)
theorem tf0 {I : Prop} : tf I 0 := Or.inl rfl
theorem tf1 {I : Prop} (h : I) : tf I 1 := Or.inr ⟨rfl, h⟩
theorem tf01 {I : Prop} {r : Int32} (h : tf I r) : r = 0 ∨ r = 1 := h.elim Or.inl (fun q => Or.inr q.1)
/-! numbers -/
theorem i_add {a b : Int32} {m n : Int} (ea : a.toInt = m) (eb : b.toInt = n) (h1 : -2147483648 ≤ m + n) (h2 : m + n < 2147483648) : (a + b).toInt = m + n := by
  subst ea; subst eb
  rw [Int32.toInt_add, Int.bmod_eq_of_le (by omega) (by omega)]
theorem i_sub {a b : Int32} {m n : Int} (ea : a.toInt = m) (eb : b.toInt = n) (h1 : -2147483648 ≤ m - n) (h2 : m - n < 2147483648) : (a - b).toInt = m - n := by
  subst ea; subst eb
  rw [Int32.toInt_sub, Int.bmod_eq_of_le (by omega) (by omega)]
theorem i_mul {a b : Int32} {m n : Int} (ea : a.toInt = m) (eb : b.toInt = n) (h1 : -2147483648 ≤ m * n) (h2 : m * n < 2147483648) : (a * b).toInt = m * n := by
  subst ea; subst eb
  rw [Int32.toInt_mul, Int.bmod_eq_of_le (by omega) (by omega)]
theorem inc {x : Int32} (h : x.toInt < 2147483647) : (x + 1).toInt = x.toInt + 1 := i_add rfl rfl (by have := Int32.le_toInt x; show -2147483648 ≤ x.toInt + 1; omega) (by show x.toInt + 1 < _; omega)
theorem inc2 {x : Int32} (h : x.toInt < 2147483646) : (x + 2).toInt = x.toInt + 2 := i_add rfl rfl (by have := Int32.le_toInt x; show -2147483648 ≤ x.toInt + 2; omega) (by show x.toInt + 2 < _; omega)
theorem incB {x b : Int32} (h : x.toInt < b.toInt) : (x + 1).toInt = x.toInt + 1 := inc (by have := Int32.toInt_lt b; omega)
theorem dec {x : Int32} (h : -2147483648 < x.toInt) : (x + (-1)).toInt = x.toInt + (-1) := i_add rfl rfl (by show -2147483648 ≤ x.toInt + -1; omega) (by have := Int32.toInt_lt x; show x.toInt + -1 < _; omega)
theorem dec1 {x : Int32} (h : -2147483648 < x.toInt) : (x - 1).toInt = x.toInt - 1 := i_sub rfl rfl (by show -2147483648 ≤ x.toInt - 1; omega) (by have := Int32.toInt_lt x; show x.toInt - 1 < _; omega)
theorem nN {x : Int32} (h : 0 ≤ x.toInt) : (x.toNatClampNeg : Int) = x.toInt := Int.toNat_of_nonneg h
theorem tonat {x : Int32} (h : 0 ≤ x.toInt) : (x.toBitVec.toNat : Int) = x.toInt := by
  have e : x.toInt = x.toBitVec.toInt := rfl
  rw [e] at h ⊢
  have := x.toBitVec.isLt
  rw [BitVec.toInt_eq_toNat_cond] at h ⊢
  split at h
  · rw [if_pos (by assumption)]
  · omega
theorem ofnat {x : Int32} (h : x.toBitVec.toNat < 2147483648) : x.toInt = (x.toBitVec.toNat : Int) := by
  have e : x.toInt = x.toBitVec.toInt := rfl
  rw [e, BitVec.toInt_eq_toNat_cond, if_pos (by omega)]
theorem ir_toNat {x : Int32} {n : Nat} (h : ir x n) : x.toBitVec.toNat < n := by
  have := tonat h.1
  have := h.2
  omega
theorem ir_ofNat {x : Int32} {n : Nat} (hn : n ≤ 2147483648) (h : x.toBitVec.toNat < n) : ir x n := by
  have := ofnat (x := x) (by omega)
  constructor <;> omega
theorem ir_and {a b : Int32} (h : ir b 4096) : ir (a &&& b) 4096 := by
  refine ir_ofNat (by decide) ?_
  rw [Int32.toBitVec_and, BitVec.toNat_and]
  exact Nat.lt_of_le_of_lt Nat.and_le_right (ir_toNat h)
theorem ir_and' {a b : Int32} (h : ir a 4096) : ir (a &&& b) 4096 := by
  refine ir_ofNat (by decide) ?_
  rw [Int32.toBitVec_and, BitVec.toNat_and]
  exact Nat.lt_of_le_of_lt Nat.and_le_left (ir_toNat h)
theorem ir_or {a b : Int32} (h : ir a 4096) (h' : ir b 4096) : ir (a ||| b) 4096 := by
  refine ir_ofNat (by decide) ?_
  rw [Int32.toBitVec_or, BitVec.toNat_or]
  exact Nat.or_lt_two_pow (n := 12) (ir_toNat h) (ir_toNat h')
theorem small {x : Int32} {n : Nat} (h : ir x n) : ∃ k, k < n ∧ x = Int32.ofNat k := by
  refine ⟨x.toInt.toNat, ?_, ?_⟩
  · have := h.1; have := h.2; omega
  · apply Int32.toInt_inj.mp
    have h0 := h.1
    have h1 := Int32.toInt_lt x
    rw [Int32.toInt_ofNat_of_lt (by omega)]
    omega
theorem sh_fact : ∀ k, k < 17 → ((1 : Int32) <<< (Int32.ofNat k &&& 31)).toInt = 2 ^ k := by decide +kernel
theorem sh_num {x : Int32} {n : Nat} (h : ir x n) (hn : n ≤ 17) : ∃ k, k < n ∧ x = Int32.ofNat k ∧ ((1 : Int32) <<< (x &&& 31)).toInt = 2 ^ k := by
  obtain ⟨k, hk, rfl⟩ := small h
  exact ⟨k, hk, rfl, sh_fact k (by omega)⟩
theorem sh_lt : ∀ k, k < 12 → ir ((1 : Int32) <<< (Int32.ofNat k &&& 31)) 4096 := by decide +kernel
theorem ir_sh {x : Int32} (h : ir x 12) : ir ((1 : Int32) <<< (x &&& 31)) 4096 := by
  obtain ⟨k, hk, rfl⟩ := small h
  exact sh_lt k hk
theorem shm_lt : ∀ k, k < 13 → ir (((1 : Int32) <<< (Int32.ofNat k &&& 31)) - 1) 4096 ∧ (((1 : Int32) <<< (Int32.ofNat k &&& 31))).toInt = (((1 : Int32) <<< (Int32.ofNat k &&& 31)) - 1).toInt + 1 := by decide +kernel
theorem ir_shm {x : Int32} (h0 : 0 ≤ x.toInt) (h1 : x.toInt ≤ 12) : ir (((1 : Int32) <<< (x &&& 31)) - 1) 4096 := by
  obtain ⟨k, hk, rfl⟩ := small (x := x) (n := 13) ⟨h0, by omega⟩
  exact (shm_lt k hk).1
theorem sh_13x : ∀ k, k < 13 → 1 ≤ ((1 : Int32) <<< (Int32.ofNat k &&& 31)).toInt ∧ ((1 : Int32) <<< (Int32.ofNat k &&& 31)).toInt ≤ 4096 := by decide +kernel
theorem sh_bd {x : Int32} (h0 : 0 ≤ x.toInt) (h1 : x.toInt ≤ 12) : 1 ≤ ((1 : Int32) <<< (x &&& 31)).toInt ∧ ((1 : Int32) <<< (x &&& 31)).toInt ≤ 4096 := by
  obtain ⟨k, hk, rfl⟩ := small (x := x) (n := 13) ⟨h0, by omega⟩
  exact sh_13x k hk
theorem sh_5x : ∀ k, k < 5 → 1 ≤ ((1 : Int32) <<< (Int32.ofNat k &&& 31)).toInt ∧ ((1 : Int32) <<< (Int32.ofNat k &&& 31)).toInt ≤ 16 := by decide +kernel
theorem sh_b4 {x : Int32} (h0 : 0 ≤ x.toInt) (h1 : x.toInt ≤ 4) : 1 ≤ ((1 : Int32) <<< (x &&& 31)).toInt ∧ ((1 : Int32) <<< (x &&& 31)).toInt ≤ 16 := by
  obtain ⟨k, hk, rfl⟩ := small (x := x) (n := 5) ⟨h0, by omega⟩
  exact sh_5x k hk
theorem sh_32x : ∀ k, k < 6 → 1 ≤ ((1 : Int32) <<< (Int32.ofNat k &&& 31)).toInt ∧ ((1 : Int32) <<< (Int32.ofNat k &&& 31)).toInt ≤ 32 := by decide +kernel
theorem sh_b5 {x : Int32} (h0 : 0 ≤ x.toInt) (h1 : x.toInt ≤ 5) : 1 ≤ ((1 : Int32) <<< (x &&& 31)).toInt ∧ ((1 : Int32) <<< (x &&& 31)).toInt ≤ 32 := by
  obtain ⟨k, hk, rfl⟩ := small (x := x) (n := 6) ⟨h0, by omega⟩
  exact sh_32x k hk
/-! the state -/
def TV (t : Nat) (σ : St) : Prop := (0 ≤ (σ.1 t 1).toInt ∧ (σ.1 t 1).toInt ≤ 4) ∧ (0 ≤ (σ.1 t 4).toInt ∧ (σ.1 t 4).toInt ≤ 12) ∧ (0 ≤ (σ.1 t 5).toInt ∧ (σ.1 t 5).toInt ≤ 12) ∧ (0 ≤ (σ.1 t 6).toInt ∧ (σ.1 t 6).toInt ≤ 5) ∧ ir (σ.1 t 7) 4096 ∧ (∀ j, ir (σ.1 (t + 3) j) 12) ∧ (∀ j, ir (σ.1 (t + 6) j) 4096)
def TA (t : Nat) (σ : St) : Prop := (∀ j, ir (σ.1 (t + 3) j) 12) ∧ (∀ j, ir (σ.1 (t + 6) j) 4096)
def RV (w : Nat) (σ : St) : Prop := 0 ≤ (σ.1 w 2).toInt ∧ (σ.1 w 2).toInt ≤ 60
def XI (σ : St) : Prop := (0 ≤ (σ.1 1 1).toInt ∧ (σ.1 1 1).toInt ≤ 1600) ∧ TV 3 σ ∧ TA 10 σ ∧ (∀ i : Nat, i < 3 → TV (imgp i) σ) ∧ (∀ s : Nat, s < 4 → RV (rowp s) σ)
def WV (p o : Nat) (σ : St) : Prop := (0 ≤ (σ.1 p (o + 0)).toInt ∧ (σ.1 p (o + 0)).toInt ≤ 4) ∧ (0 ≤ (σ.1 p (o + 3)).toInt ∧ (σ.1 p (o + 3)).toInt ≤ 12) ∧ (0 ≤ (σ.1 p (o + 4)).toInt ∧ (σ.1 p (o + 4)).toInt ≤ 12) ∧ (0 ≤ (σ.1 p (o + 5)).toInt ∧ (σ.1 p (o + 5)).toInt ≤ 5) ∧ (∀ c : Nat, c < 12 → σ.1 p (o + (7 + 3 * c + 1)) = 0 ∨ σ.1 p (o + (7 + 3 * c + 1)) = 1) ∧ (∀ s : Nat, s < 12 → ir (σ.1 p (o + (43 + 2 * s))) 12) ∧ (∀ g : Nat, g < 5 → (g : Int) < (σ.1 p (o + 5)).toInt → σ.1 p (o + (67 + 2 * g)) ≠ 0)
def MI (σ : St) : Prop := (0 ≤ (σ.1 62 5).toInt ∧ (σ.1 62 5).toInt ≤ 1600) ∧ WV 63 0 σ ∧ (∀ i : Nat, i < 3 → WV 64 (77 * i) σ) ∧ (∀ s : Nat, s < 4 → -1 ≤ (σ.1 78 s).toInt ∧ (σ.1 78 s).toInt ≤ 60)
def REL (σ : St) : Prop := σ.1 1 1 = σ.1 62 5 ∧ (∀ k : Nat, k < 3 → (σ.1 18 k = 0 ↔ σ.1 65 k = 0)) ∧ (∀ s : Nat, s < 4 → (σ.1 (rowp s) 0 = 0 ↔ σ.1 78 s = -1) ∧ (σ.1 (rowp s) 0 ≠ 0 → σ.1 (rowp s) 2 = σ.1 78 s ∧ σ.1 (rowp s) 1 = σ.1 79 s))
/-- the cells that a question leaves as they are -/
def cor (k j : Nat) : Bool := (k == 1 && j == 1) || (decide (3 ≤ k) && decide (k ≤ 48)) || (k == 62 && j == 5) || k == 63 || k == 64 || k == 65 || k == 78 || k == 79
def co (σ τ : St) : Prop := (∀ k j, cor k j = true → τ.1 k j = σ.1 k j) ∧ (∀ k j, k ≠ 81 → τ.2 k j = σ.2 k j)
theorem co.rf (σ : St) : co σ σ := ⟨fun _ _ _ => rfl, fun _ _ _ => rfl⟩
theorem co.trans {σ τ υ : St} (h : co σ τ) (h' : co τ υ) : co σ υ := ⟨fun k j q => (h'.1 k j q).trans (h.1 k j q), fun k j q => (h'.2 k j q).trans (h.2 k j q)⟩
theorem setI_eq {σ : St} {k j : Nat} {v : Int32} {p q : Nat} (h : ¬ (p = k ∧ q = j)) : (setI σ k j v).1 p q = σ.1 p q := if_neg h
theorem setI_at {σ : St} {k j : Nat} {v : Int32} : (setI σ k j v).1 k j = v := if_pos ⟨rfl, rfl⟩
theorem setL_eq {σ : St} {k j : Nat} {v : Int64} {p q : Nat} (h : ¬ (p = k ∧ q = j)) : (setL σ k j v).2 p q = σ.2 p q := if_neg h
theorem setL_at {σ : St} {k j : Nat} {v : Int64} : (setL σ k j v).2 k j = v := if_pos ⟨rfl, rfl⟩
theorem co.set {σ τ : St} {k j : Nat} {v : Int32} (h : co σ τ) (hk : cor k j = false) : co σ (setI τ k j v) := by
  refine ⟨fun p q hp => ?_, h.2⟩
  rw [setI_eq, h.1 p q hp]
  rintro ⟨rfl, rfl⟩
  rw [hk] at hp
  cases hp
theorem co.setJ {σ τ : St} {j : Nat} {v : Int64} (h : co σ τ) : co σ (setL τ 81 j v) := by
  refine ⟨h.1, fun p q hp => ?_⟩
  rw [setL_eq (fun e => hp e.1), h.2 p q hp]
theorem TV.of {t : Nat} {σ τ : St} (e : ∀ k, t ≤ k → k ≤ t + 6 → ∀ j, τ.1 k j = σ.1 k j) (q : TV t σ) : TV t τ := by
  unfold TV at q ⊢
  rw [e t (by omega) (by omega) 1, e t (by omega) (by omega) 4, e t (by omega) (by omega) 5, e t (by omega) (by omega) 6, e t (by omega) (by omega) 7]
  refine ⟨q.1, q.2.1, q.2.2.1, q.2.2.2.1, q.2.2.2.2.1, fun j => ?_, fun j => ?_⟩
  · rw [e (t + 3) (by omega) (by omega) j]; exact q.2.2.2.2.2.1 j
  · rw [e (t + 6) (by omega) (by omega) j]; exact q.2.2.2.2.2.2 j
theorem XI.of {σ τ : St} (e : ∀ k j, 3 ≤ k → k ≤ 48 → τ.1 k j = σ.1 k j) (hl : 0 ≤ (τ.1 1 1).toInt ∧ (τ.1 1 1).toInt ≤ 1600) (q : XI σ) : XI τ := by
  obtain ⟨q1, q2, q3, q4, q5⟩ := q
  refine ⟨hl, q2.of (fun k h1 h2 j => e k j (by omega) (by omega)), ?_, fun i hi => (q4 i hi).of (fun k h1 h2 j => e k j (by simp only [imgp] at h1; omega) (by simp only [imgp] at h2; omega)), fun s hs => ?_⟩
  · refine ⟨fun j => ?_, fun j => ?_⟩
    · rw [e (10 + 3) j (by omega) (by omega)]; exact q3.1 j
    · rw [e (10 + 6) j (by omega) (by omega)]; exact q3.2 j
  · unfold RV
    rw [e (rowp s) 2 (by simp only [rowp]; omega) (by simp only [rowp]; omega)]
    exact q5 s hs
theorem co.mid {σ τ : St} (h : co σ τ) (k j : Nat) (h1 : 3 ≤ k) (h2 : k ≤ 48) : τ.1 k j = σ.1 k j := h.1 k j (by simp [cor, h1, h2])
theorem XI.co {σ τ : St} (h : co σ τ) (q : XI σ) : XI τ := q.of h.mid (by rw [h.1 1 1 rfl]; exact q.1)
theorem WV.co {p o : Nat} {σ τ : St} (e : ∀ j, τ.1 p j = σ.1 p j) (q : WV p o σ) : WV p o τ := by
  unfold WV at q ⊢
  simp only [e]
  exact q
theorem MI.of {σ τ : St} (e1 : ∀ j, τ.1 63 j = σ.1 63 j) (e2 : ∀ j, τ.1 64 j = σ.1 64 j) (e3 : ∀ s, s < 4 → -1 ≤ (τ.1 78 s).toInt ∧ (τ.1 78 s).toInt ≤ 60) (hl : 0 ≤ (τ.1 62 5).toInt ∧ (τ.1 62 5).toInt ≤ 1600) (q : MI σ) : MI τ := ⟨hl, q.2.1.co e1, fun i hi => (q.2.2.1 i hi).co e2, e3⟩
theorem MI.co {σ τ : St} (h : co σ τ) (q : MI σ) : MI τ := q.of (fun j => h.1 63 j rfl) (fun j => h.1 64 j rfl) (fun s hs => by rw [h.1 78 s rfl]; exact q.2.2.2 s hs) (by rw [h.1 62 5 rfl]; exact q.1)
theorem REL.co {σ τ : St} (h : co σ τ) (q : REL σ) : REL τ := by
  obtain ⟨q1, q2, q3⟩ := q
  have e : ∀ k j, 3 ≤ k → k ≤ 48 → τ.1 k j = σ.1 k j := fun k j h1 h2 => h.1 k j (by simp [cor, h1, h2])
  refine ⟨?_, fun k hk => ?_, fun s hs => ?_⟩
  · rw [h.1 1 1 rfl, h.1 62 5 rfl]; exact q1
  · rw [e 18 k (by omega) (by omega), h.1 65 k rfl]; exact q2 k hk
  · have hr : 3 ≤ rowp s ∧ rowp s ≤ 48 := by simp [rowp]; omega
    rw [e _ 0 hr.1 hr.2, e _ 1 hr.1 hr.2, e _ 2 hr.1 hr.2, h.1 78 s rfl, h.1 79 s rfl]
    exact q3 s hs
/-- from σ0, of valid cells, what was asked since left all as it was -/
def K (σ0 σ : St) : Prop := XI σ0 ∧ MI σ0 ∧ co σ0 σ
theorem K.rf {σ : St} (h : XI σ) (h' : MI σ) : K σ σ := ⟨h, h', co.rf σ⟩
theorem K.set {σ τ : St} {k j : Nat} {v : Int32} (h : K σ τ) (hk : cor k j = false) : K σ (setI τ k j v) := ⟨h.1, h.2.1, h.2.2.set hk⟩
theorem K.setJ {σ τ : St} {j : Nat} {v : Int64} (h : K σ τ) : K σ (setL τ 81 j v) := ⟨h.1, h.2.1, h.2.2.setJ⟩
theorem K.xi {σ τ : St} (h : K σ τ) : XI τ := h.1.co h.2.2
theorem K.mi {σ τ : St} (h : K σ τ) : MI τ := h.2.1.co h.2.2
theorem K.ats {σ τ : St} (h : K σ τ) : 0 ≤ (τ.1 3 1).toInt ∧ (τ.1 3 1).toInt ≤ 4 := h.xi.2.1.1
theorem K.cls {σ τ : St} (h : K σ τ) : 0 ≤ (τ.1 3 4).toInt ∧ (τ.1 3 4).toInt ≤ 12 := h.xi.2.1.2.1
theorem K.sts {σ τ : St} (h : K σ τ) : 0 ≤ (τ.1 3 5).toInt ∧ (τ.1 3 5).toInt ≤ 12 := h.xi.2.1.2.2.1
theorem K.gus {σ τ : St} (h : K σ τ) : 0 ≤ (τ.1 3 6).toInt ∧ (τ.1 3 6).toInt ≤ 5 := h.xi.2.1.2.2.2.1
theorem K.salt {σ τ : St} (h : K σ τ) : ir (τ.1 3 7) 4096 := h.xi.2.1.2.2.2.2.1
theorem K.giv {σ τ : St} (h : K σ τ) (j : Nat) : ir (τ.1 (3 + 3) j) 12 := h.xi.2.1.2.2.2.2.2.1 j
theorem K.kno {σ τ : St} (h : K σ τ) (j : Nat) : ir (τ.1 (3 + 6) j) 4096 := h.xi.2.1.2.2.2.2.2.2 j
theorem K.rw {σ τ : St} (h : K σ τ) {s : Nat} (hs : s < 4) : 0 ≤ (τ.1 (rowp s) 2).toInt ∧ (τ.1 (rowp s) 2).toInt ≤ 60 := h.xi.2.2.2.2 s hs
theorem slot_lt {a : Int32} (h : ir a 4) : a.toNatClampNeg < 4 := by
  have := nN h.1
  have := h.2
  omega
theorem slot_lt3 {a : Int32} (h : ir a 3) : a.toNatClampNeg < 3 := by
  have := nN h.1
  have := h.2
  omega
