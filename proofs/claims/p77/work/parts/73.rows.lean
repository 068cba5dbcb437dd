theorem or_16 : ∀ a, a < 16 → ∀ b, b < 4 → ir (Int32.ofNat a ||| ((1 : Int32) <<< (Int32.ofNat b &&& 31))) 16 := by decide +kernel
theorem or16 {x y : Int32} (hx : ir x 16) (hy : ir y 4) : ir (x ||| ((1 : Int32) <<< (y &&& 31))) 16 := by
  obtain ⟨a, ha, rfl⟩ := small hx
  obtain ⟨b, hb, rfl⟩ := small hy
  exact or_16 a ha b hb
theorem min_le (a b : Int32) : (if a < b then a else b).toInt ≤ b.toInt := by
  split
  · rename_i h
    have := ilt h
    omega
  · omega
def RS (σ : St) (w : Nat) : Prop := ∀ j : Nat, (j : Int) < (σ.1 w 2).toInt → ir ((σ.2 (w + 1) j).toInt32) 12
def RP (σ : St) (w : Nat) : Prop := ∀ j : Nat, (j : Int) < (σ.1 w 2).toInt → (j % 2 = 0 → ir ((σ.2 (w + 1) j).toInt32) 5) ∧ (j % 2 = 1 → ir ((σ.2 (w + 1) j).toInt32) 12)
theorem t32 {x : Int64} {n : Nat} (h0 : 0 ≤ x.toInt) (h : x.toInt < (n : Int)) (hn : n ≤ 2147483648) : ir x.toInt32 n := by
  have e : x.toInt32.toInt = x.toInt := by
    rw [Int64.toInt_toInt32, Int.bmod_eq_of_le (by omega) (by omega)]
  constructor <;> omega
theorem rowp_bd {w : Nat} (hw : ∃ s, s < 4 ∧ w = rowp s) : 41 ≤ w ∧ w ≤ 47 := by
  obtain ⟨s, hs, rfl⟩ := hw
  simp only [rowp]
  omega
theorem K.cnt {σ0 σ : St} (hK : K σ0 σ) {w : Nat} (hw : ∃ s, s < 4 ∧ w = rowp s) : σ.1 w 2 = σ0.1 w 2 := by
  have := rowp_bd hw
  exact hK.mid w 2 (by omega) (by omega)
theorem K.nm {σ0 σ : St} (hK : K σ0 σ) {w : Nat} (hw : ∃ s, s < 4 ∧ w = rowp s) (j : Nat) : σ.2 (w + 1) j = σ0.2 (w + 1) j := by
  have := rowp_bd hw
  exact hK.num (by omega)
theorem ol_areAll {σ : St} {w : Nat} {b : Int32} (hn : 0 ≤ (σ.1 w 2).toInt ∧ (σ.1 w 2).toInt ≤ 60) : ∀ (n : Nat) (x : Int32), 0 ≤ x.toInt → (∀ j : Nat, (j : Int) < x.toInt → 0 ≤ (σ.2 (w + 1) j).toInt ∧ (σ.2 (w + 1) j).toInt < b.toInt) → (61 - x.toInt).toNat < n → ok (fX4_areAllBelow_l2 σ w n b x) (tf (∀ j : Nat, (j : Int) < (σ.1 w 2).toInt → 0 ≤ (σ.2 (w + 1) j).toInt ∧ (σ.2 (w + 1) j).toInt < b.toInt)) := by
  intro n
  induction n with
  | zero => intro x _ _ h; omega
  | succ n ih =>
    intro x hx hI hm
    show ok (fX4_areAllBelow_B2 σ w (fX4_areAllBelow_l2 σ w n) b x) _
    unfold fX4_areAllBelow_B2
    have nx := nN hx
    refine ok_le rfl rfl (fun h => ok_gd (by decide) (ok_some (tf1 (fun j hj => hI j (by omega))))) (fun h => ?_)
    have hx60 : ir x 60 := ⟨hx, by show _ < (60 : Int); omega⟩
    refine ok_gd hx60 (ok_if (fun _ => ok_gd (by decide) (ok_some tf0)) (fun h1 => ok_gd hx60 (ok_if (fun h2 => ?_) (fun _ => ok_gd (by decide) (ok_some tf0)))))
    have h1 := mt (lg_cmp_lt _ _).mpr h1
    have h2 := (lg_cmp_lt _ _).mp h2
    rw [Int64.lt_iff_toInt_lt] at h1 h2
    rw [Int32.toInt_toInt64] at h2
    have z : (0 : Int64).toInt = 0 := rfl
    have e7 := inc (x := x) (by omega)
    refine ok_lt (ih _ (by omega) (fun j hj => ?_) (by omega))
    by_cases hjx : j = x.toNatClampNeg
    · subst hjx
      exact ⟨by omega, h2⟩
    · exact hI j (by omega)
theorem o_fX4_areAllBelow {σ0 σ : St} {w : Nat} {a1 : Int32} (hK : K σ0 σ) (hw : ∃ s, s < 4 ∧ w = rowp s) : ok (fX4_areAllBelow σ w a1) (tf (∀ j : Nat, (j : Int) < (σ.1 w 2).toInt → 0 ≤ (σ.2 (w + 1) j).toInt ∧ (σ.2 (w + 1) j).toInt < a1.toInt)) := by
  unfold fX4_areAllBelow
  exact ok_lt (ol_areAll (hK.rwx hw) FU 0 (by decide) (fun j hj => absurd hj (by have : (0 : Int32).toInt = 0 := rfl; omega)) (by decide))
theorem and_1 : ∀ k, k < 60 → ((Int32.ofNat k &&& 1 = 0 ↔ k % 2 = 0)) := by decide +kernel
theorem ol_arePairs {σ : St} {w : Nat} {a b : Int32} (hn : 0 ≤ (σ.1 w 2).toInt ∧ (σ.1 w 2).toInt ≤ 60) : ∀ (n : Nat) (x : Int32), 0 ≤ x.toInt → (∀ j : Nat, (j : Int) < x.toInt → 0 ≤ (σ.2 (w + 1) j).toInt ∧ (j % 2 = 0 → (σ.2 (w + 1) j).toInt < a.toInt) ∧ (j % 2 = 1 → (σ.2 (w + 1) j).toInt < b.toInt)) → (61 - x.toInt).toNat < n → ok (fX4_arePairsBelow_l2 σ w n a b x) (tf (∀ j : Nat, (j : Int) < (σ.1 w 2).toInt → 0 ≤ (σ.2 (w + 1) j).toInt ∧ (j % 2 = 0 → (σ.2 (w + 1) j).toInt < a.toInt) ∧ (j % 2 = 1 → (σ.2 (w + 1) j).toInt < b.toInt))) := by
  intro n
  induction n with
  | zero => intro x _ _ h; omega
  | succ n ih =>
    intro x hx hI hm
    show ok (fX4_arePairsBelow_B2 σ w (fX4_arePairsBelow_l2 σ w n) a b x) _
    unfold fX4_arePairsBelow_B2
    have nx := nN hx
    refine ok_le rfl rfl (fun h => ok_if (fun _ => ok_gd (by decide) (ok_some (tf1 (fun j hj => hI j (by omega))))) (fun _ => ok_gd (by decide) (ok_some tf0))) (fun h => ?_)
    have hx60 : ir x 60 := ⟨hx, by show _ < (60 : Int); omega⟩
    have key : ∀ y : Int32, ((x.toNatClampNeg % 2 = 0 → y = a) ∧ (x.toNatClampNeg % 2 = 1 → y = b)) → ok (fX4_arePairsBelow_b21 σ w (fX4_arePairsBelow_l2 σ w n) a b x y) (tf (∀ j : Nat, (j : Int) < (σ.1 w 2).toInt → 0 ≤ (σ.2 (w + 1) j).toInt ∧ (j % 2 = 0 → (σ.2 (w + 1) j).toInt < a.toInt) ∧ (j % 2 = 1 → (σ.2 (w + 1) j).toInt < b.toInt))) := fun y hy => by
      unfold fX4_arePairsBelow_b21
      refine ok_lt (ok_gd hx60 (ok_if (fun _ => ok_gd (by decide) (ok_some tf0)) (fun h1 => ok_gd hx60 (ok_if (fun h2 => ?_) (fun _ => ok_gd (by decide) (ok_some tf0))))))
      have h1 := mt (lg_cmp_lt _ _).mpr h1
      have h2 := (lg_cmp_lt _ _).mp h2
      rw [Int64.lt_iff_toInt_lt] at h1 h2
      rw [Int32.toInt_toInt64] at h2
      have z : (0 : Int64).toInt = 0 := rfl
      have e7 := inc (x := x) (by omega)
      refine ok_lt (ih _ (by omega) (fun j hj => ?_) (by omega))
      by_cases hjx : j = x.toNatClampNeg
      · subst hjx
        exact ⟨by omega, fun q => (hy.1 q) ▸ h2, fun q => (hy.2 q) ▸ h2⟩
      · exact hI j (by omega)
    obtain ⟨k, hk, ek⟩ := small hx60
    have ek' : x.toNatClampNeg = k := by
      rw [ek, Int32.toNatClampNeg_ofNat_of_lt (by omega)]
    have par := and_1 k hk
    rw [← ek] at par
    refine ok_if (fun h0 => key a ⟨fun _ => rfl, fun q => ?_⟩) (fun h0 => key b ⟨fun q => ?_, fun _ => rfl⟩)
    · have := par.mp h0
      omega
    · exact absurd (par.mpr (by omega)) h0
theorem o_fX4_arePairsBelow {σ0 σ : St} {w : Nat} {a1 a2 : Int32} (hK : K σ0 σ) (hw : ∃ s, s < 4 ∧ w = rowp s) : ok (fX4_arePairsBelow σ w a1 a2) (tf (∀ j : Nat, (j : Int) < (σ.1 w 2).toInt → 0 ≤ (σ.2 (w + 1) j).toInt ∧ (j % 2 = 0 → (σ.2 (w + 1) j).toInt < a1.toInt) ∧ (j % 2 = 1 → (σ.2 (w + 1) j).toInt < a2.toInt))) := by
  unfold fX4_arePairsBelow
  exact ok_lt (ol_arePairs (hK.rwx hw) FU 0 (by decide) (fun j hj => absurd hj (by have : (0 : Int32).toInt = 0 := rfl; omega)) (by decide))
theorem rs_of {σ0 σ : St} {w : Nat} (hK : K σ0 σ) (hw : ∃ s, s < 4 ∧ w = rowp s) (h : ∀ j : Nat, (j : Int) < (σ.1 w 2).toInt → 0 ≤ (σ.2 (w + 1) j).toInt ∧ (σ.2 (w + 1) j).toInt < (σ.1 3 5).toInt) : RS σ0 w := fun j hj => by
  rw [← hK.cnt hw] at hj
  rw [← hK.nm hw]
  have q := h j hj
  have := hK.sts
  exact t32 q.1 (by show _ < (12 : Int); omega) (by decide)
theorem rp_of {σ0 σ : St} {w : Nat} (hK : K σ0 σ) (hw : ∃ s, s < 4 ∧ w = rowp s) (h : ∀ j : Nat, (j : Int) < (σ.1 w 2).toInt → 0 ≤ (σ.2 (w + 1) j).toInt ∧ (j % 2 = 0 → (σ.2 (w + 1) j).toInt < (σ.1 3 6).toInt) ∧ (j % 2 = 1 → (σ.2 (w + 1) j).toInt < (σ.1 3 5).toInt)) : RP σ0 w := fun j hj => by
  rw [← hK.cnt hw] at hj
  rw [← hK.nm hw]
  obtain ⟨q1, q2, q3⟩ := h j hj
  have := hK.sts
  have := hK.gus
  refine ⟨fun e => t32 q1 ?_ (by decide), fun e => t32 q1 ?_ (by decide)⟩
  · have := q2 e
    show _ < (5 : Int)
    omega
  · have := q3 e
    show _ < (12 : Int)
    omega
theorem rsn {σ0 σ : St} {w : Nat} {x : Int32} (hK : K σ0 σ) (hw : ∃ s, s < 4 ∧ w = rowp s) (hr : RS σ0 w) (h0 : 0 ≤ x.toInt) (h : x.toInt < (σ.1 w 2).toInt) : ir ((σ.2 (w + 1) x.toNatClampNeg).toInt32) 12 := by
  rw [hK.nm hw]
  rw [hK.cnt hw] at h
  have := nN h0
  exact hr _ (by omega)
theorem rpn {σ0 σ : St} {w : Nat} {x : Int32} (hK : K σ0 σ) (hw : ∃ s, s < 4 ∧ w = rowp s) (hr : RP σ0 w) (h0 : 0 ≤ x.toInt) (h : x.toInt < (σ.1 w 2).toInt) : (x.toInt % 2 = 0 → ir ((σ.2 (w + 1) x.toNatClampNeg).toInt32) 5) ∧ (x.toInt % 2 = 1 → ir ((σ.2 (w + 1) x.toNatClampNeg).toInt32) 12) := by
  rw [hK.nm hw]
  rw [hK.cnt hw] at h
  have := nN h0
  obtain ⟨q1, q2⟩ := hr x.toNatClampNeg (by omega)
  exact ⟨fun e => q1 (by omega), fun e => q2 (by omega)⟩
