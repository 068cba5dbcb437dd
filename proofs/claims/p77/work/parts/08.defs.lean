def FD : Nat := 10
def fX7_bit (a0 : Int32) : Option (Int32) :=
  if a0 = 0 then some (0 : Int32) else some (1 : Int32)
def fX7_end (σ : St) (a1 : Int32) : Option (Int32 × St) :=
  if a1 < 0 then some ((-1 : Int32), σ) else if a1 ≤ (σ.1 1 1) then lt (setI σ 1 1 a1) (fun σ1 => some (a1, σ1)) else some ((-1 : Int32), σ)
def fX7_fault (σ : St) (a1 : Int32) : Option (Int32) :=
  if a1 = 0 then some (σ.1 1 2) else if a1 = 1 then some (σ.1 1 3) else some (-1 : Int32)
def fX7_greatestDivisor_B7 (kr7 : Int32 → Int32 → Int32 → Option (Int32)) (x2 : Int32) (x3 : Int32) (x4 : Int32) : Option (Int32) :=
  if (64 : Int32) ≤ x4 then some x2 else if x3 = 0 then some x2 else gd (¬ x3 = 0) (lt (x2 - x2 / x3 * x3) (fun v1 => lt x3 (fun v2 => lt v1 (fun v3 => lt (x4 + 1) (fun v4 => kr7 v2 v3 v4)))))
def fX7_greatestDivisor_l7 : Nat → Int32 → Int32 → Int32 → Option (Int32)
  | 0 => fun _ _ _ => none
  | n + 1 => fX7_greatestDivisor_B7 (fX7_greatestDivisor_l7 n)
def fX7_greatestDivisor (a0 : Int32) (a1 : Int32) : Option (Int32) :=
  lt a0 (fun v5 => lt a1 (fun v6 => lt (0 : Int32) (fun v7 => fX7_greatestDivisor_l7 FU v5 v6 v7)))
def fX7_isBit_b9 : Option (Int32) :=
  gd ((1 : Int32) = 0 ∨ (1 : Int32) = 1) (some (1 : Int32))
def fX7_isBit (a0 : Int32) : Option (Int32) :=
  if a0 = 0 then fX7_isBit_b9 else if a0 = (1 : Int32) then fX7_isBit_b9 else gd ((0 : Int32) = 0 ∨ (0 : Int32) = 1) (some (0 : Int32))
def fX7_isSeed (a0 : Int32) : Option (Int32) :=
  if a0 < 0 then gd ((0 : Int32) = 0 ∨ (0 : Int32) = 1) (some (0 : Int32)) else if (2000000000 : Int32) < a0 then gd ((0 : Int32) = 0 ∨ (0 : Int32) = 1) (some (0 : Int32)) else gd ((1 : Int32) = 0 ∨ (1 : Int32) = 1) (some (1 : Int32))
def fX7_isSlot (a0 : Int32) : Option (Int32) :=
  if a0 < 0 then gd ((0 : Int32) = 0 ∨ (0 : Int32) = 1) (some (0 : Int32)) else if (4 : Int32) ≤ a0 then gd ((0 : Int32) = 0 ∨ (0 : Int32) = 1) (some (0 : Int32)) else gd ((1 : Int32) = 0 ∨ (1 : Int32) = 1) (some (1 : Int32))
def fX7_rowsThere_B4 (σ : St) (kr4 : Int32 → Int32 → Option (Int32)) (x1 : Int32) (x2 : Int32) : Option (Int32) :=
  if (4 : Int32) ≤ x2 then some x1 else gd (ir x2 4) (lt (rowp x2.toNatClampNeg) (fun k1 => if (σ.1 k1 0) = 0 then lt (x2 + 1) (fun v2 => kr4 x1 v2) else lt (x1 + 1) (fun v3 => lt (x2 + 1) (fun v4 => kr4 v3 v4))))
def fX7_rowsThere_l4 (σ : St) : Nat → Int32 → Int32 → Option (Int32)
  | 0 => fun _ _ => none
  | n + 1 => fX7_rowsThere_B4 σ (fX7_rowsThere_l4 σ n)
def fX7_rowsThere (σ : St) : Option (Int32) :=
  lt (0 : Int32) (fun v5 => lt (0 : Int32) (fun v6 => fX7_rowsThere_l4 σ FU v5 v6))
def fX7_withBit (a0 : Int32) (a1 : Int32) (a2 : Int32) : Option (Int32) :=
  if a2 = (1 : Int32) then some (a0 ||| ((1 : Int32) <<< (a1 &&& 31))) else some (a0 &&& (((1 : Int32) <<< (a1 &&& 31)) ^^^ (-1 : Int32)))
def fX0_worldThatComes_b155 (t : Nat) (kr33 : St → Int32 → Int32 → Int32 → Option (Int32 × St)) (kr56 : St → Int32 → Int32 → Int32 → Int32 → Int32 → Option (Int32 × St)) (σ : St) (x2 : Int32) (x3 : Int32) (x4 : Int32) (x5 : Int32) (x6 : Int32) (x7 : Int32) (y1 : Int32) : Option (Int32 × St) :=
  gd (ir y1 16) (lt (setI σ 61 y1.toNatClampNeg x7) (fun σ1 => lt (x6 + 1) (fun v2 => kr56 σ1 x2 x3 x4 x5 v2)))
def fX0_worldThatComes_b132 (t : Nat) (kr33 : St → Int32 → Int32 → Int32 → Option (Int32 × St)) (kr56 : St → Int32 → Int32 → Int32 → Int32 → Int32 → Option (Int32 × St)) (σ : St) (x2 : Int32) (x3 : Int32) (x4 : Int32) (x5 : Int32) (x6 : Int32) (x7 : Int32) (x8 : Int32) (x9 : Int32) (y0 : Int32) : Option (Int32 × St) :=
  lt y0 (fun v3 => if x9 = 0 then if v3 = 0 then fX0_worldThatComes_b155 t kr33 kr56 σ x2 x3 x4 x5 x6 x7 x6 else gd (ir x6 16) (lt (setI σ 61 x6.toNatClampNeg x8) (fun σ4 => lt (x6 + 1) (fun v5 => kr56 σ4 x2 x3 x4 x5 v5))) else fX0_worldThatComes_b155 t kr33 kr56 σ x2 x3 x4 x5 x6 x7 x6)
def fX0_worldThatComes_b109 (t : Nat) (kr33 : St → Int32 → Int32 → Int32 → Option (Int32 × St)) (kr56 : St → Int32 → Int32 → Int32 → Int32 → Int32 → Option (Int32 × St)) (σ : St) (x2 : Int32) (x3 : Int32) (x4 : Int32) (x5 : Int32) (x6 : Int32) (x7 : Int32) (x8 : Int32) (y0 : Int32) : Option (Int32 × St) :=
  lt y0 (fun v6 => gd (ir x2 12) (if (((σ.1 (t + 2) x2.toNatClampNeg) >>> (x8 &&& 31)) &&& (1 : Int32)) = x5 then fX0_worldThatComes_b132 t kr33 kr56 σ x2 x3 x4 x5 x6 x7 x8 v6 (1 : Int32) else fX0_worldThatComes_b132 t kr33 kr56 σ x2 x3 x4 x5 x6 x7 x8 v6 (0 : Int32)))
def fX0_worldThatComes_B56 (t : Nat) (kr33 : St → Int32 → Int32 → Int32 → Option (Int32 × St)) (kr56 : St → Int32 → Int32 → Int32 → Int32 → Int32 → Option (Int32 × St)) (σ : St) (x2 : Int32) (x3 : Int32) (x4 : Int32) (x5 : Int32) (x6 : Int32) : Option (Int32 × St) :=
  if ((1 : Int32) <<< (x4 &&& 31)) ≤ x6 then lt (x4 + (-1)) (fun v7 => kr33 σ x2 x3 v7) else gd (ir x6 16) (lt (σ.1 61 x6.toNatClampNeg) (fun v8 => gd (ir (x6 ||| ((1 : Int32) <<< (x4 &&& 31))) 16) (lt (σ.1 61 (x6 ||| ((1 : Int32) <<< (x4 &&& 31))).toNatClampNeg) (fun v9 => gd (ir x2 12) (if (((σ.1 (t + 2) x2.toNatClampNeg) >>> (v8 &&& 31)) &&& (1 : Int32)) = x5 then fX0_worldThatComes_b109 t kr33 kr56 σ x2 x3 x4 x5 x6 v8 v9 (1 : Int32) else fX0_worldThatComes_b109 t kr33 kr56 σ x2 x3 x4 x5 x6 v8 v9 (0 : Int32))))))
def fX0_worldThatComes_l56 (t : Nat) (kr33 : St → Int32 → Int32 → Int32 → Option (Int32 × St)) : Nat → St → Int32 → Int32 → Int32 → Int32 → Int32 → Option (Int32 × St)
  | 0 => fun _ _ _ _ _ _ => none
  | n + 1 => fX0_worldThatComes_B56 t kr33 (fX0_worldThatComes_l56 t kr33 n)
def fX0_worldThatComes_b51 (t : Nat) (kr33 : St → Int32 → Int32 → Int32 → Option (Int32 × St)) (σ : St) (x2 : Int32) (x3 : Int32) (x4 : Int32) (y0 : Int32) : Option (Int32 × St) :=
  lt y0 (fun v10 => lt (0 : Int32) (fun v11 => fX0_worldThatComes_l56 t kr33 FU σ x2 x3 x4 v10 v11))
def fX0_worldThatComes_B33 (t : Nat) (kr33 : St → Int32 → Int32 → Int32 → Option (Int32 × St)) (σ : St) (x2 : Int32) (x3 : Int32) (x4 : Int32) : Option (Int32 × St) :=
  if x4 < 0 then gd (ir (0 : Int32) 16) (some ((σ.1 61 (0 : Int32).toNatClampNeg), σ)) else if (x4 &&& (1 : Int32)) = x3 then fX0_worldThatComes_b51 t kr33 σ x2 x3 x4 (1 : Int32) else fX0_worldThatComes_b51 t kr33 σ x2 x3 x4 (0 : Int32)
def fX0_worldThatComes_l33 (t : Nat) : Nat → St → Int32 → Int32 → Int32 → Option (Int32 × St)
  | 0 => fun _ _ _ _ => none
  | n + 1 => fX0_worldThatComes_B33 t (fX0_worldThatComes_l33 t n)
def fX0_worldThatComes_B3 (t : Nat) (kr3 : St → Int32 → Int32 → Int32 → Option (Int32 × St)) (σ : St) (x2 : Int32) (x3 : Int32) (x4 : Int32) : Option (Int32 × St) :=
  if (16 : Int32) ≤ x4 then lt ((σ.1 t 1) - (1 : Int32)) (fun v12 => fX0_worldThatComes_l33 t FU σ x2 x3 v12) else gd (ir x4 16) (lt (setI σ 61 x4.toNatClampNeg x4) (fun σ13 => lt (x4 + 1) (fun v14 => kr3 σ13 x2 x3 v14)))
def fX0_worldThatComes_l3 (t : Nat) : Nat → St → Int32 → Int32 → Int32 → Option (Int32 × St)
  | 0 => fun _ _ _ _ => none
  | n + 1 => fX0_worldThatComes_B3 t (fX0_worldThatComes_l3 t n)
def fX0_worldThatComes (σ : St) (t : Nat) (a2 : Int32) (a3 : Int32) : Option (Int32 × St) :=
  lt (0 : Int32) (fun v15 => fX0_worldThatComes_l3 t FU σ a2 a3 v15)
def fX1_give_b44 (σ : St) (x1 : Int32) (x3 : Int32) : Option (St) :=
  gd (ir x1 12) (lt (setI σ 56 x1.toNatClampNeg x3) (fun σ1 => some σ1))
def fX1_give (σ : St) (a1 : Int32) (a2 : Int32) (a3 : Int32) : Option (St) :=
  lt (setI σ 55 2 ((σ.1 55 2) ||| ((1 : Int32) <<< (a1 &&& 31)))) (fun σ2 => gd (ir a1 12) (gd (ir a1 12) (lt (setI σ2 57 a1.toNatClampNeg ((σ2.1 57 a1.toNatClampNeg) ||| ((1 : Int32) <<< (a2 &&& 31)))) (fun σ3 => gd (ir a1 12) (if (σ3.1 56 a1.toNatClampNeg) = (-1 : Int32) then fX1_give_b44 σ3 a1 a3 else gd (ir a1 12) (if (σ3.1 56 a1.toNatClampNeg) ≤ a3 then some σ3 else fX1_give_b44 σ3 a1 a3))))))
def fX1_open_B61 (t : Nat) (kr61 : St → Int32 → Option (St)) (σ : St) (x2 : Int32) : Option (St) :=
  if (5 : Int32) ≤ x2 then some σ else gd (ir x2 5) (lt (setI σ 58 x2.toNatClampNeg (0 : Int32)) (fun σ1 => gd (ir x2 5) (lt (setI σ1 59 x2.toNatClampNeg (0 : Int32)) (fun σ2 => lt (x2 + 1) (fun v3 => kr61 σ2 v3)))))
def fX1_open_l61 (t : Nat) : Nat → St → Int32 → Option (St)
  | 0 => fun _ _ => none
  | n + 1 => fX1_open_B61 t (fX1_open_l61 t n)
def fX1_open_b45 (t : Nat) (kr17 : St → Int32 → Option (St)) (σ : St) (x2 : Int32) (y1 : Int32) (y2 : Int32) : Option (St) :=
  gd (ir y1 12) (lt (setI σ 56 y1.toNatClampNeg y2) (fun σ4 => gd (ir x2 12) (lt (setI σ4 57 x2.toNatClampNeg (0 : Int32)) (fun σ5 => lt (x2 + 1) (fun v6 => kr17 σ5 v6)))))
def fX1_open_B17 (t : Nat) (kr17 : St → Int32 → Option (St)) (σ : St) (x2 : Int32) : Option (St) :=
  if (12 : Int32) ≤ x2 then lt (0 : Int32) (fun v7 => fX1_open_l61 t FU σ v7) else if (((σ.1 t 7) >>> (x2 &&& 31)) &&& (1 : Int32)) = (1 : Int32) then fX1_open_b45 t kr17 σ x2 x2 (0 : Int32) else fX1_open_b45 t kr17 σ x2 x2 (-1 : Int32)
def fX1_open_l17 (t : Nat) : Nat → St → Int32 → Option (St)
  | 0 => fun _ _ => none
  | n + 1 => fX1_open_B17 t (fX1_open_l17 t n)
def fX1_open (σ : St) (t : Nat) : Option (St) :=
  lt (setI σ 55 0 (0 : Int32)) (fun σ8 => lt (setI σ8 55 1 (0 : Int32)) (fun σ9 => lt (setI σ9 55 2 (0 : Int32)) (fun σ10 => lt (0 : Int32) (fun v11 => fX1_open_l17 t FU σ10 v11))))
def fX2_append_B3 (kr3 : St → Int32 → Int32 → Option (St)) (σ : St) (x1 : Int32) (x2 : Int32) : Option (St) :=
  if x2 < 0 then some σ else if (1600 : Int32) ≤ (σ.1 1 1) then some σ else gd (ir (σ.1 1 1) 1600) (lt (setI σ 2 (σ.1 1 1).toNatClampNeg ((x1 >>> (x2 &&& 31)).toInt8.toInt32).toInt8.toInt32) (fun σ1 => lt (setI σ1 1 1 ((σ1.1 1 1) + (1 : Int32))) (fun σ2 => lt (x2 + (-8)) (fun v3 => kr3 σ2 x1 v3))))
def fX2_append_l3 : Nat → St → Int32 → Int32 → Option (St)
  | 0 => fun _ _ _ => none
  | n + 1 => fX2_append_B3 (fX2_append_l3 n)
def fX2_append (σ : St) (a1 : Int32) : Option (St) :=
  lt (24 : Int32) (fun v4 => fX2_append_l3 FU σ a1 v4)
def fX2_fail (σ : St) (a1 : Int32) : Option (Int32 × St) :=
  lt (setI σ 1 2 a1) (fun σ1 => lt (setI σ1 1 3 (σ1.1 1 5)) (fun σ2 => gd ((0 : Int32) = 0 ∨ (0 : Int32) = 1) (some ((0 : Int32), σ2))))
def fX2_isNumberOf (σ : St) (a1 : Int32) : Option (Int32) :=
  if (σ.1 1 4) = (2 : Int32) then if a1 ≤ (σ.1 1 7) then gd ((0 : Int32) = 0 ∨ (0 : Int32) = 1) (some (0 : Int32)) else gd ((1 : Int32) = 0 ∨ (1 : Int32) = 1) (some (1 : Int32)) else gd ((0 : Int32) = 0 ∨ (0 : Int32) = 1) (some (0 : Int32))
def fX2_kindAt_b45 (σ : St) (x2 : Int32) : Option (Int32) :=
  if x2 = (59 : Int32) then some (3 : Int32) else some (4 : Int32)
def fX2_kindAt_b31 (σ : St) (x2 : Int32) : Option (Int32) :=
  if x2 < (48 : Int32) then fX2_kindAt_b45 σ x2 else if (57 : Int32) < x2 then fX2_kindAt_b45 σ x2 else some (2 : Int32)
def fX2_kindAt (σ : St) (a1 : Int32) : Option (Int32) :=
  if a1 < (σ.1 1 1) then gd (ir a1 1600) (lt (σ.1 2 a1.toNatClampNeg) (fun v1 => if v1 < (97 : Int32) then fX2_kindAt_b31 σ v1 else if (122 : Int32) < v1 then fX2_kindAt_b31 σ v1 else some (1 : Int32))) else some (0 : Int32)
def fX3_reasonAgainst (σ : St) (t : Nat) (a2 : Int32) : Option (Int32) :=
  gd (ir a2 12) (if ((σ.1 (t + 4) a2.toNatClampNeg) &&& ((σ.1 53 2) ^^^ (-1 : Int32))) = 0 then gd (ir a2 12) (if (((σ.1 53 2) >>> ((σ.1 (t + 3) a2.toNatClampNeg) &&& 31)) &&& (1 : Int32)) = (1 : Int32) then some (2 : Int32) else some (0 : Int32)) else some (1 : Int32))
def fX3_usedForAll_B5 (σ : St) (t : Nat) (kr5 : Int32 → Int32 → Int32 → Option (Int32)) (x2 : Int32) (x3 : Int32) (x4 : Int32) : Option (Int32) :=
  if (σ.1 t 4) ≤ x4 then some x3 else if ((x2 >>> (x4 &&& 31)) &&& (1 : Int32)) = (1 : Int32) then gd (ir x4 12) (lt (x3 ||| (σ.1 54 x4.toNatClampNeg)) (fun v2 => lt (x4 + 1) (fun v3 => kr5 x2 v2 v3))) else lt (x4 + 1) (fun v1 => kr5 x2 x3 v1)
def fX3_usedForAll_l5 (σ : St) (t : Nat) : Nat → Int32 → Int32 → Int32 → Option (Int32)
  | 0 => fun _ _ _ => none
  | n + 1 => fX3_usedForAll_B5 σ t (fX3_usedForAll_l5 σ t n)
def fX3_usedForAll (σ : St) (t : Nat) (a2 : Int32) : Option (Int32) :=
  lt (0 : Int32) (fun v4 => lt (0 : Int32) (fun v5 => fX3_usedForAll_l5 σ t FU a2 v4 v5))
def fX4_areAllBelow_B2 (σ : St) (w : Nat) (kr2 : Int32 → Int32 → Option (Int32)) (x1 : Int32) (x2 : Int32) : Option (Int32) :=
  if (σ.1 w 2) ≤ x2 then gd ((1 : Int32) = 0 ∨ (1 : Int32) = 1) (some (1 : Int32)) else gd (ir x2 60) (if (lg_cmp (σ.2 (w + 1) x2.toNatClampNeg) (0 : Int64)) < 0 then gd ((0 : Int32) = 0 ∨ (0 : Int32) = 1) (some (0 : Int32)) else gd (ir x2 60) (if (lg_cmp (σ.2 (w + 1) x2.toNatClampNeg) (x1.toInt64)) < 0 then lt (x2 + 1) (fun v1 => kr2 x1 v1) else gd ((0 : Int32) = 0 ∨ (0 : Int32) = 1) (some (0 : Int32))))
def fX4_areAllBelow_l2 (σ : St) (w : Nat) : Nat → Int32 → Int32 → Option (Int32)
  | 0 => fun _ _ => none
  | n + 1 => fX4_areAllBelow_B2 σ w (fX4_areAllBelow_l2 σ w n)
def fX4_areAllBelow (σ : St) (w : Nat) (a1 : Int32) : Option (Int32) :=
  lt (0 : Int32) (fun v2 => fX4_areAllBelow_l2 σ w FU a1 v2)
def fX4_arePairsBelow_b21 (σ : St) (w : Nat) (kr2 : Int32 → Int32 → Int32 → Option (Int32)) (x1 : Int32) (x2 : Int32) (x3 : Int32) (y0 : Int32) : Option (Int32) :=
  lt y0 (fun v1 => gd (ir x3 60) (if (lg_cmp (σ.2 (w + 1) x3.toNatClampNeg) (0 : Int64)) < 0 then gd ((0 : Int32) = 0 ∨ (0 : Int32) = 1) (some (0 : Int32)) else gd (ir x3 60) (if (lg_cmp (σ.2 (w + 1) x3.toNatClampNeg) (v1.toInt64)) < 0 then lt (x3 + 1) (fun v2 => kr2 x1 x2 v2) else gd ((0 : Int32) = 0 ∨ (0 : Int32) = 1) (some (0 : Int32)))))
def fX4_arePairsBelow_B2 (σ : St) (w : Nat) (kr2 : Int32 → Int32 → Int32 → Option (Int32)) (x1 : Int32) (x2 : Int32) (x3 : Int32) : Option (Int32) :=
  if (σ.1 w 2) ≤ x3 then if ((σ.1 w 2) &&& (1 : Int32)) = 0 then gd ((1 : Int32) = 0 ∨ (1 : Int32) = 1) (some (1 : Int32)) else gd ((0 : Int32) = 0 ∨ (0 : Int32) = 1) (some (0 : Int32)) else if (x3 &&& (1 : Int32)) = 0 then fX4_arePairsBelow_b21 σ w kr2 x1 x2 x3 x1 else fX4_arePairsBelow_b21 σ w kr2 x1 x2 x3 x2
def fX4_arePairsBelow_l2 (σ : St) (w : Nat) : Nat → Int32 → Int32 → Int32 → Option (Int32)
  | 0 => fun _ _ _ => none
  | n + 1 => fX4_arePairsBelow_B2 σ w (fX4_arePairsBelow_l2 σ w n)
def fX4_arePairsBelow (σ : St) (w : Nat) (a1 : Int32) (a2 : Int32) : Option (Int32) :=
  lt (0 : Int32) (fun v3 => fX4_arePairsBelow_l2 σ w FU a1 a2 v3)
def fX4_asSet_B4 (σ : St) (w : Nat) (kr4 : Int32 → Int32 → Option (Int32)) (x1 : Int32) (x2 : Int32) : Option (Int32) :=
  if (σ.1 w 2) ≤ x2 then some x1 else gd (ir x2 60) (lt (x1 ||| ((1 : Int32) <<< (((σ.2 (w + 1) x2.toNatClampNeg).toInt32) &&& 31))) (fun v1 => lt (x2 + 1) (fun v2 => kr4 v1 v2)))
def fX4_asSet_l4 (σ : St) (w : Nat) : Nat → Int32 → Int32 → Option (Int32)
  | 0 => fun _ _ => none
  | n + 1 => fX4_asSet_B4 σ w (fX4_asSet_l4 σ w n)
def fX4_asSet (σ : St) (w : Nat) : Option (Int32) :=
  lt (0 : Int32) (fun v3 => lt (0 : Int32) (fun v4 => fX4_asSet_l4 σ w FU v3 v4))
def fX4_begin_B17 (w : Nat) (kr17 : St → Int32 → Option (St)) (σ : St) (x3 : Int32) : Option (St) :=
  if (60 : Int32) ≤ x3 then some σ else gd (ir x3 60) (lt (setL σ (w + 1) x3.toNatClampNeg (0 : Int64)) (fun σ1 => lt (x3 + 1) (fun v2 => kr17 σ1 v2)))
def fX4_begin_l17 (w : Nat) : Nat → St → Int32 → Option (St)
  | 0 => fun _ _ => none
  | n + 1 => fX4_begin_B17 w (fX4_begin_l17 w n)
def fX4_begin (σ : St) (w : Nat) (a1 : Int32) (a2 : Int32) : Option (St) :=
  gd ((1 : Int32) = 0 ∨ (1 : Int32) = 1) (lt (setI σ w 0 (1 : Int32)) (fun σ3 => lt (setI σ3 w 1 a1) (fun σ4 => lt (setI σ4 w 2 a2) (fun σ5 => lt (0 : Int32) (fun v6 => fX4_begin_l17 w FU σ5 v6)))))
def fX4_cut (σ : St) (w : Nat) (a1 : Int64) : Option (Int64) :=
  if (σ.1 w 1) = 0 then some (((a1.toInt32).toInt8.toInt32).toInt64) else if (σ.1 w 1) = 1 then some (((a1.toInt32).toInt16.toInt32).toInt64) else if (σ.1 w 1) = 2 then some ((a1.toInt32).toInt64) else some a1
def fX5_isLeast_b22 (σ : St) (h : Nat) (kr2 : Int32 → Int32 → Int32 → Option (Int32)) (x1 : Int32) (x2 : Int32) (x3 : Int32) (y0 : Int32) : Option (Int32) :=
  lt y0 (fun v1 => if v1 = 0 then lt (x3 + 1) (fun v2 => kr2 x1 x2 v2) else gd (ir (x1 &&& (((1 : Int32) <<< (x3 &&& 31)) ^^^ (-1 : Int32))) 4096) (if (((σ.1 (h + 1) (x1 &&& (((1 : Int32) <<< (x3 &&& 31)) ^^^ (-1 : Int32))).toNatClampNeg) >>> (x2 &&& 31)) &&& (1 : Int32)) = (1 : Int32) then gd ((0 : Int32) = 0 ∨ (0 : Int32) = 1) (some (0 : Int32)) else lt (x3 + 1) (fun v3 => kr2 x1 x2 v3)))
def fX5_isLeast_B2 (σ : St) (h : Nat) (kr2 : Int32 → Int32 → Int32 → Option (Int32)) (x1 : Int32) (x2 : Int32) (x3 : Int32) : Option (Int32) :=
  if (12 : Int32) ≤ x3 then gd ((1 : Int32) = 0 ∨ (1 : Int32) = 1) (some (1 : Int32)) else if ((x1 >>> (x3 &&& 31)) &&& (1 : Int32)) = (1 : Int32) then fX5_isLeast_b22 σ h kr2 x1 x2 x3 (1 : Int32) else fX5_isLeast_b22 σ h kr2 x1 x2 x3 (0 : Int32)
def fX5_isLeast_l2 (σ : St) (h : Nat) : Nat → Int32 → Int32 → Int32 → Option (Int32)
  | 0 => fun _ _ _ => none
  | n + 1 => fX5_isLeast_B2 σ h (fX5_isLeast_l2 σ h n)
def fX5_isLeast (σ : St) (h : Nat) (a1 : Int32) (a2 : Int32) : Option (Int32) :=
  lt (0 : Int32) (fun v4 => fX5_isLeast_l2 σ h FU a1 a2 v4)
def fX5_subsetBehind (a0 : Int32) (a1 : Int32) : Option (Int32) :=
  some ((a0 - a1) &&& a1)
def fX5_withoutLowest (a0 : Int32) : Option (Int32) :=
  some (a0 &&& (a0 - (1 : Int32)))
def fX6_addStep (σ : St) (t : Nat) (a1 : Int32) (a2 : Int32) : Option (St) :=
  if (12 : Int32) ≤ (σ.1 t 5) then some σ else gd (ir (σ.1 t 5) 12) (lt (setI σ (t + 3) (σ.1 t 5).toNatClampNeg a1) (fun σ1 => gd (ir (σ1.1 t 5) 12) (lt (setI σ1 (t + 4) (σ1.1 t 5).toNatClampNeg a2) (fun σ2 => lt (setI σ2 t 5 ((σ2.1 t 5) + (1 : Int32))) (fun σ3 => some σ3)))))
def fX6_allSteps (σ : St) (t : Nat) : Option (Int32) :=
  some (((1 : Int32) <<< ((σ.1 t 5) &&& 31)) - (1 : Int32))
def fX6_allWorlds (σ : St) (t : Nat) : Option (Int32) :=
  some (((1 : Int32) <<< (((1 : Int32) <<< ((σ.1 t 1) &&& 31)) &&& 31)) - (1 : Int32))
def fX6_canDo (σ : St) (t : Nat) (a1 : Int32) : Option (Int32) :=
  gd (ir a1 5) (if (σ.1 (t + 5) a1.toNatClampNeg) ≤ 0 then some (0 : Int32) else gd (ir a1 5) (gd (¬ (σ.1 (t + 5) a1.toNatClampNeg) = 0) (some ((σ.1 t 2) / (σ.1 (t + 5) a1.toNatClampNeg)))))
def fX6_claimsHoldingIn_B4 (σ : St) (t : Nat) (kr4 : Int32 → Int32 → Int32 → Option (Int32)) (x1 : Int32) (x2 : Int32) (x3 : Int32) : Option (Int32) :=
  if (σ.1 t 4) ≤ x3 then some x2 else gd (ir x3 12) (if (σ.1 (t + 2) x3.toNatClampNeg) = x1 then lt (x2 ||| ((1 : Int32) <<< (x3 &&& 31))) (fun v2 => lt (x3 + 1) (fun v3 => kr4 x1 v2 v3)) else lt (x3 + 1) (fun v1 => kr4 x1 x2 v1))
def fX6_claimsHoldingIn_l4 (σ : St) (t : Nat) : Nat → Int32 → Int32 → Int32 → Option (Int32)
  | 0 => fun _ _ _ => none
  | n + 1 => fX6_claimsHoldingIn_B4 σ t (fX6_claimsHoldingIn_l4 σ t n)
def fX6_claimsHoldingIn (σ : St) (t : Nat) (a1 : Int32) : Option (Int32) :=
  lt (0 : Int32) (fun v4 => lt (0 : Int32) (fun v5 => fX6_claimsHoldingIn_l4 σ t FU a1 v4 v5))
def fX6_clear (σ : St) (t : Nat) : Option (St) :=
  lt (setI σ t 0 (0 : Int32)) (fun σ1 => lt (setI σ1 t 1 (0 : Int32)) (fun σ2 => lt (setI σ2 t 2 (0 : Int32)) (fun σ3 => lt (setI σ3 t 3 (0 : Int32)) (fun σ4 => lt (setI σ4 t 4 (0 : Int32)) (fun σ5 => lt (setI σ5 t 5 (0 : Int32)) (fun σ6 => lt (setI σ6 t 6 (0 : Int32)) (fun σ7 => lt (setI σ7 t 7 (0 : Int32)) (fun σ8 => some σ8))))))))
def fX6_dropStep_B19 (t : Nat) (kr19 : St → Int32 → Option (St)) (σ : St) (x1 : Int32) : Option (St) :=
  if (σ.1 t 6) ≤ x1 then some σ else gd (ir x1 5) (gd (ir x1 5) (lt (setI σ (t + 6) x1.toNatClampNeg ((σ.1 (t + 6) x1.toNatClampNeg) &&& (((1 : Int32) <<< ((σ.1 t 5) &&& 31)) ^^^ (-1 : Int32)))) (fun σ1 => lt (x1 + 1) (fun v2 => kr19 σ1 v2))))
def fX6_dropStep_l19 (t : Nat) : Nat → St → Int32 → Option (St)
  | 0 => fun _ _ => none
  | n + 1 => fX6_dropStep_B19 t (fX6_dropStep_l19 t n)
def fX6_dropStep (σ : St) (t : Nat) : Option (St) :=
  if (σ.1 t 5) ≤ 0 then some σ else lt (setI σ t 5 ((σ.1 t 5) - (1 : Int32))) (fun σ3 => lt (0 : Int32) (fun v4 => fX6_dropStep_l19 t FU σ3 v4))
def fX6_goes (σ : St) (t : Nat) (a1 : Int32) (a2 : Int32) : Option (Int32) :=
  gd (ir a1 12) (if ((σ.1 (t + 4) a1.toNatClampNeg) &&& (a2 ^^^ (-1 : Int32))) = 0 then gd (ir a1 12) (if ((a2 >>> ((σ.1 (t + 3) a1.toNatClampNeg) &&& 31)) &&& (1 : Int32)) = 0 then gd ((1 : Int32) = 0 ∨ (1 : Int32) = 1) (some (1 : Int32)) else gd ((0 : Int32) = 0 ∨ (0 : Int32) = 1) (some (0 : Int32))) else gd ((0 : Int32) = 0 ∨ (0 : Int32) = 1) (some (0 : Int32)))
def fX6_hasClaim (σ : St) (t : Nat) (a1 : Int32) : Option (Int32) :=
  if a1 < 0 then gd ((0 : Int32) = 0 ∨ (0 : Int32) = 1) (some (0 : Int32)) else if (σ.1 t 4) ≤ a1 then gd ((0 : Int32) = 0 ∨ (0 : Int32) = 1) (some (0 : Int32)) else gd ((1 : Int32) = 0 ∨ (1 : Int32) = 1) (some (1 : Int32))
def fX6_hasGuest (σ : St) (t : Nat) (a1 : Int32) : Option (Int32) :=
  if a1 < 0 then gd ((0 : Int32) = 0 ∨ (0 : Int32) = 1) (some (0 : Int32)) else if (σ.1 t 6) ≤ a1 then gd ((0 : Int32) = 0 ∨ (0 : Int32) = 1) (some (0 : Int32)) else gd ((1 : Int32) = 0 ∨ (1 : Int32) = 1) (some (1 : Int32))
def fX6_hasStep (σ : St) (t : Nat) (a1 : Int32) : Option (Int32) :=
  if a1 < 0 then gd ((0 : Int32) = 0 ∨ (0 : Int32) = 1) (some (0 : Int32)) else if (σ.1 t 5) ≤ a1 then gd ((0 : Int32) = 0 ∨ (0 : Int32) = 1) (some (0 : Int32)) else gd ((1 : Int32) = 0 ∨ (1 : Int32) = 1) (some (1 : Int32))
def fX6_holedSteps_B9 (σ : St) (t : Nat) (kr9 : Int64 → Int32 → Int32 → Option (Int32)) (x2 : Int64) (x4 : Int32) (x5 : Int32) : Option (Int32) :=
  if (σ.1 t 5) ≤ x5 then some x4 else gd (¬ (2147483648 : Int64) = 0) (lt ((((1103515245 : Int64) * x2) + (12345 : Int64)) - (((1103515245 : Int64) * x2) + (12345 : Int64)) / (2147483648 : Int64) * (2147483648 : Int64)) (fun v1 => gd (¬ (65536 : Int64) = 0) (gd (¬ (100 : Int64) = 0) (if 0 ≤ (lg_cmp ((v1 / (65536 : Int64)) - (v1 / (65536 : Int64)) / (100 : Int64) * (100 : Int64)) ((σ.1 t 3).toInt64)) then lt (x5 + 1) (fun v2 => kr9 v1 x4 v2) else lt (x4 ||| ((1 : Int32) <<< (x5 &&& 31))) (fun v3 => lt (x5 + 1) (fun v4 => kr9 v1 v3 v4))))))
def fX6_holedSteps_l9 (σ : St) (t : Nat) : Nat → Int64 → Int32 → Int32 → Option (Int32)
  | 0 => fun _ _ _ => none
  | n + 1 => fX6_holedSteps_B9 σ t (fX6_holedSteps_l9 σ t n)
def fX6_holedSteps (σ : St) (t : Nat) (a1 : Int32) : Option (Int32) :=
  lt (a1.toInt64) (fun v5 => lt (0 : Int32) (fun v6 => lt (0 : Int32) (fun v7 => fX6_holedSteps_l9 σ t FU v5 v6 v7)))
def fX6_isTold (σ : St) (t : Nat) : Option (Int32) :=
  if (σ.1 t 0) ≤ 0 then gd ((0 : Int32) = 0 ∨ (0 : Int32) = 1) (some (0 : Int32)) else gd ((1 : Int32) = 0 ∨ (1 : Int32) = 1) (some (1 : Int32))
def fX6_teamKnows_B4 (σ : St) (t : Nat) (kr4 : Int32 → Int32 → Int32 → Option (Int32)) (x1 : Int32) (x2 : Int32) (x3 : Int32) : Option (Int32) :=
  if (σ.1 t 6) ≤ x3 then some x2 else if ((x1 >>> (x3 &&& 31)) &&& (1 : Int32)) = (1 : Int32) then gd (ir x3 5) (lt (x2 ||| (σ.1 (t + 6) x3.toNatClampNeg)) (fun v2 => lt (x3 + 1) (fun v3 => kr4 x1 v2 v3))) else lt (x3 + 1) (fun v1 => kr4 x1 x2 v1)
def fX6_teamKnows_l4 (σ : St) (t : Nat) : Nat → Int32 → Int32 → Int32 → Option (Int32)
  | 0 => fun _ _ _ => none
  | n + 1 => fX6_teamKnows_B4 σ t (fX6_teamKnows_l4 σ t n)
def fX6_teamKnows (σ : St) (t : Nat) (a1 : Int32) : Option (Int32) :=
  lt (0 : Int32) (fun v4 => lt (0 : Int32) (fun v5 => fX6_teamKnows_l4 σ t FU a1 v4 v5))
def fX6_worldsOfAtom_B4 (σ : St) (t : Nat) (kr4 : Int32 → Int32 → Int32 → Option (Int32)) (x1 : Int32) (x2 : Int32) (x3 : Int32) : Option (Int32) :=
  if ((1 : Int32) <<< ((σ.1 t 1) &&& 31)) ≤ x3 then some x2 else if ((x3 >>> (x1 &&& 31)) &&& (1 : Int32)) = (1 : Int32) then lt (x2 ||| ((1 : Int32) <<< (x3 &&& 31))) (fun v2 => lt (x3 + 1) (fun v3 => kr4 x1 v2 v3)) else lt (x3 + 1) (fun v1 => kr4 x1 x2 v1)
def fX6_worldsOfAtom_l4 (σ : St) (t : Nat) : Nat → Int32 → Int32 → Int32 → Option (Int32)
  | 0 => fun _ _ _ => none
  | n + 1 => fX6_worldsOfAtom_B4 σ t (fX6_worldsOfAtom_l4 σ t n)
def fX6_worldsOfAtom (σ : St) (t : Nat) (a1 : Int32) : Option (Int32) :=
  lt (0 : Int32) (fun v4 => lt (0 : Int32) (fun v5 => fX6_worldsOfAtom_l4 σ t FU a1 v4 v5))
def fX6_worthOf_B4 (σ : St) (t : Nat) (kr4 : Int32 → Int32 → Int32 → Option (Int32)) (x1 : Int32) (x2 : Int32) (x3 : Int32) : Option (Int32) :=
  if (σ.1 t 4) ≤ x3 then some x2 else if ((x1 >>> (x3 &&& 31)) &&& (1 : Int32)) = (1 : Int32) then gd (ir x3 12) (lt (x2 + (σ.1 (t + 1) x3.toNatClampNeg)) (fun v2 => lt (x3 + 1) (fun v3 => kr4 x1 v2 v3))) else lt (x3 + 1) (fun v1 => kr4 x1 x2 v1)
def fX6_worthOf_l4 (σ : St) (t : Nat) : Nat → Int32 → Int32 → Int32 → Option (Int32)
  | 0 => fun _ _ _ => none
  | n + 1 => fX6_worthOf_B4 σ t (fX6_worthOf_l4 σ t n)
def fX6_worthOf (σ : St) (t : Nat) (a1 : Int32) : Option (Int32) :=
  lt (0 : Int32) (fun v4 => lt (0 : Int32) (fun v5 => fX6_worthOf_l4 σ t FU a1 v4 v5))
def fX8_allClaims (σ : St) : Option (Int32) :=
  gd (ir (3 : Int32) 77) (some (((1 : Int32) <<< ((σ.1 63 (3 : Int32).toNatClampNeg) &&& 31)) - (1 : Int32)))
def fX8_allGuests (σ : St) : Option (Int32) :=
  gd (ir (5 : Int32) 77) (some (((1 : Int32) <<< ((σ.1 63 (5 : Int32).toNatClampNeg) &&& 31)) - (1 : Int32)))
def fX8_allSteps (σ : St) : Option (Int32) :=
  gd (ir (4 : Int32) 77) (some (((1 : Int32) <<< ((σ.1 63 (4 : Int32).toNatClampNeg) &&& 31)) - (1 : Int32)))
def fX8_bit (a0 : Int32) (a1 : Int32) : Option (Int32) :=
  some ((a0 >>> (a1 &&& 31)) &&& (1 : Int32))
def fX8_bits (a0 : Int32) : Option (Int32) :=
  lt (a0 - (((a0.toUInt32 >>> ((1 : Int32).toUInt32 &&& Int32.toUInt32 31)).toInt32) &&& (1431655765 : Int32))) (fun v1 => lt ((v1 &&& (858993459 : Int32)) + (((v1.toUInt32 >>> ((2 : Int32).toUInt32 &&& Int32.toUInt32 31)).toInt32) &&& (858993459 : Int32))) (fun v2 => some (((((v2 + ((v2.toUInt32 >>> ((4 : Int32).toUInt32 &&& Int32.toUInt32 31)).toInt32)) &&& (252645135 : Int32)) * (16843009 : Int32)).toUInt32 >>> ((24 : Int32).toUInt32 &&& Int32.toUInt32 31)).toInt32)))
def fX8_count_b130 (σ : St) (kr109 : Int32 → Int32 → Option (Int32)) (x3 : Int32) (y0 : Int32) (y1 : Int32) : Option (Int32) :=
  lt (y0 + y1) (fun v1 => lt (x3 + 1) (fun v2 => kr109 v1 v2))
def fX8_count_B109 (σ : St) (kr109 : Int32 → Int32 → Option (Int32)) (x2 : Int32) (x3 : Int32) : Option (Int32) :=
  if (4 : Int32) ≤ x3 then some x2 else gd (ir x3 4) (if (σ.1 78 x3.toNatClampNeg) = (-1 : Int32) then fX8_count_b130 σ kr109 x3 x2 (0 : Int32) else fX8_count_b130 σ kr109 x3 x2 (1 : Int32))
def fX8_count_l109 (σ : St) : Nat → Int32 → Int32 → Option (Int32)
  | 0 => fun _ _ => none
  | n + 1 => fX8_count_B109 σ (fX8_count_l109 σ n)
def fX8_count (σ : St) (a1 : Int32) : Option (Int32) :=
  lt (0 : Int32) (fun v3 => if a1 = 0 then gd (ir (0 : Int32) 77) (some (σ.1 63 (0 : Int32).toNatClampNeg)) else if a1 = 1 then gd (ir (1 : Int32) 77) (some (σ.1 63 (1 : Int32).toNatClampNeg)) else if a1 = 2 then gd (ir (2 : Int32) 77) (some (σ.1 63 (2 : Int32).toNatClampNeg)) else if a1 = 3 then gd (ir (3 : Int32) 77) (some (σ.1 63 (3 : Int32).toNatClampNeg)) else if a1 = 4 then gd (ir (4 : Int32) 77) (some (σ.1 63 (4 : Int32).toNatClampNeg)) else if a1 = 5 then gd (ir (5 : Int32) 77) (some (σ.1 63 (5 : Int32).toNatClampNeg)) else if a1 = 6 then gd (ir (6 : Int32) 77) (some (σ.1 63 (6 : Int32).toNatClampNeg)) else if a1 = 7 then some (σ.1 62 5) else if a1 = 8 then lt (0 : Int32) (fun v4 => fX8_count_l109 σ FU v3 v4) else some (-1 : Int32))
def fX8_cut (a0 : Int64) (a2 : Int32) : Option (Int64) :=
  lt ((64 : Int32) - ((8 : Int32) <<< (a2 &&& 31))) (fun v1 => some ((a0 <<< (v1.toInt64 &&& 63)) >>> (v1.toInt64 &&& 63)))
def fX8_divisor_B4 (kr4 : Int32 → Int32 → Option (Int32)) (x2 : Int32) (x3 : Int32) : Option (Int32) :=
  if x3 = 0 then some x2 else gd (¬ x3 = 0) (lt (x2 - x2 / x3 * x3) (fun v1 => lt x3 (fun v2 => lt v1 (fun v3 => kr4 v2 v3))))
def fX8_divisor_l4 : Nat → Int32 → Int32 → Option (Int32)
  | 0 => fun _ _ => none
  | n + 1 => fX8_divisor_B4 (fX8_divisor_l4 n)
def fX8_divisor (a0 : Int32) (a1 : Int32) : Option (Int32) :=
  lt a0 (fun v4 => lt a1 (fun v5 => fX8_divisor_l4 FU v4 v5))
def fX8_fault (σ : St) (a1 : Int32) : Option (Int32) :=
  if a1 = 0 then some (σ.1 62 12) else if a1 = (1 : Int32) then some (σ.1 62 13) else some (-1 : Int32)
def fX8_feed_B55 (kr55 : St → Int32 → Option (Int32 × St)) (σ : St) (x6 : Int32) : Option (Int32 × St) :=
  if (20 : Int32) ≤ x6 then lt (setI σ 62 5 ((σ.1 62 5) + (20 : Int32))) (fun σ1 => some ((σ1.1 62 5), σ1)) else gd (¬ (4 : Int32) = 0) (gd (ir (x6 / (4 : Int32)) 5) (gd (¬ (4 : Int32) = 0) (gd (ir ((σ.1 62 5) + x6) 1600) (lt (setI σ 66 ((σ.1 62 5) + x6).toNatClampNeg (((σ.1 67 (x6 / (4 : Int32)).toNatClampNeg) >>> (((24 : Int32) - ((8 : Int32) * (x6 - x6 / (4 : Int32) * (4 : Int32)))) &&& 31)).toInt8.toInt32).toInt8.toInt32) (fun σ2 => lt (x6 + 1) (fun v3 => kr55 σ2 v3))))))
def fX8_feed_l55 : Nat → St → Int32 → Option (Int32 × St)
  | 0 => fun _ _ => none
  | n + 1 => fX8_feed_B55 (fX8_feed_l55 n)
def fX8_feed (σ : St) (a1 : Int32) (a2 : Int32) (a3 : Int32) (a4 : Int32) (a5 : Int32) : Option (Int32 × St) :=
  if ((σ.1 62 5) + (20 : Int32)) ≤ (1600 : Int32) then gd (ir (0 : Int32) 5) (lt (setI σ 67 (0 : Int32).toNatClampNeg a1) (fun σ4 => gd (ir (1 : Int32) 5) (lt (setI σ4 67 (1 : Int32).toNatClampNeg a2) (fun σ5 => gd (ir (2 : Int32) 5) (lt (setI σ5 67 (2 : Int32).toNatClampNeg a3) (fun σ6 => gd (ir (3 : Int32) 5) (lt (setI σ6 67 (3 : Int32).toNatClampNeg a4) (fun σ7 => gd (ir (4 : Int32) 5) (lt (setI σ7 67 (4 : Int32).toNatClampNeg a5) (fun σ8 => lt (0 : Int32) (fun v9 => fX8_feed_l55 FU σ8 v9))))))))))) else some ((-1 : Int32), σ)
def fX8_freshAll (σ : St) : Option (Int32) :=
  gd (ir (0 : Int32) 77) (some (((1 : Int32) <<< (((1 : Int32) <<< ((σ.1 68 (0 : Int32).toNatClampNeg) &&& 31)) &&& 31)) - (1 : Int32)))
def fX8_good (σ : St) : Option (Int32) :=
  if (σ.1 62 12) = 0 then gd ((1 : Int32) = 0 ∨ (1 : Int32) = 1) (some (1 : Int32)) else gd ((0 : Int32) = 0 ∨ (0 : Int32) = 1) (some (0 : Int32))
def fX8_holesBy_b63 (σ : St) (kr8 : Int64 → Int32 → Int32 → Option (Int32)) (x3 : Int64) (x6 : Int32) (y0 : Int32) (y1 : Int32) : Option (Int32) :=
  lt (y0 ||| y1) (fun v1 => lt (x6 + 1) (fun v2 => kr8 x3 v1 v2))
def fX8_holesBy_B8 (σ : St) (kr8 : Int64 → Int32 → Int32 → Option (Int32)) (x3 : Int64) (x5 : Int32) (x6 : Int32) : Option (Int32) :=
  gd (ir (4 : Int32) 77) (if (σ.1 63 (4 : Int32).toNatClampNeg) ≤ x6 then some x5 else gd (¬ (2147483648 : Int64) = 0) (lt ((((1103515245 : Int64) * x3) + (12345 : Int64)) - (((1103515245 : Int64) * x3) + (12345 : Int64)) / (2147483648 : Int64) * (2147483648 : Int64)) (fun v3 => gd (¬ (65536 : Int64) = 0) (gd (¬ (100 : Int64) = 0) (gd (ir (2 : Int32) 77) (if 0 ≤ (lg_cmp ((v3 / (65536 : Int64)) - (v3 / (65536 : Int64)) / (100 : Int64) * (100 : Int64)) ((σ.1 63 (2 : Int32).toNatClampNeg).toInt64)) then fX8_holesBy_b63 σ kr8 v3 x6 x5 (0 : Int32) else fX8_holesBy_b63 σ kr8 v3 x6 x5 ((1 : Int32) <<< (x6 &&& 31))))))))
def fX8_holesBy_l8 (σ : St) : Nat → Int64 → Int32 → Int32 → Option (Int32)
  | 0 => fun _ _ _ => none
  | n + 1 => fX8_holesBy_B8 σ (fX8_holesBy_l8 σ n)
def fX8_holesBy (σ : St) (a1 : Int64) : Option (Int32) :=
  lt a1 (fun v4 => lt (0 : Int32) (fun v5 => lt (0 : Int32) (fun v6 => fX8_holesBy_l8 σ FU v4 v5 v6)))
def fX8_in (a0 : Int64) (a2 : Int64) (a4 : Int64) : Option (Int32) :=
  if (lg_cmp a0 a2) < 0 then gd ((0 : Int32) = 0 ∨ (0 : Int32) = 1) (some (0 : Int32)) else if 0 < (lg_cmp a0 a4) then gd ((0 : Int32) = 0 ∨ (0 : Int32) = 1) (some (0 : Int32)) else gd ((1 : Int32) = 0 ∨ (1 : Int32) = 1) (some (1 : Int32))
def fX8_isTable (σ : St) : Option (Int32) :=
  gd (ir (6 : Int32) 77) (if (σ.1 63 (6 : Int32).toNatClampNeg) ≤ 0 then gd ((0 : Int32) = 0 ∨ (0 : Int32) = 1) (some (0 : Int32)) else gd ((1 : Int32) = 0 ∨ (1 : Int32) = 1) (some (1 : Int32)))
def fX8_mine (a0 : Int32) : Option (Int32) :=
  if 0 ≤ a0 then some ((-a0) + (1 : Int32)) else some ((-a0) - (1 : Int32))
def fX8_numberAt (σ : St) (a1 : Int32) (a2 : Int32) : Option (Int64) :=
  gd (ir (((60 : Int32) * a1) + a2) 240) (some (σ.2 80 (((60 : Int32) * a1) + a2).toNatClampNeg))
def fX8_ofClaim (σ : St) (a1 : Int32) (a2 : Int32) : Option (Int32) :=
  gd (ir (((7 : Int32) + ((3 : Int32) * a1)) + a2) 77) (some (σ.1 63 (((7 : Int32) + ((3 : Int32) * a1)) + a2).toNatClampNeg))
def fX8_ofGuest (σ : St) (a1 : Int32) (a2 : Int32) : Option (Int32) :=
  gd (ir (((67 : Int32) + ((2 : Int32) * a1)) + a2) 77) (some (σ.1 63 (((67 : Int32) + ((2 : Int32) * a1)) + a2).toNatClampNeg))
def fX8_ofStep (σ : St) (a1 : Int32) (a2 : Int32) : Option (Int32) :=
  gd (ir (((43 : Int32) + ((2 : Int32) * a1)) + a2) 77) (some (σ.1 63 (((43 : Int32) + ((2 : Int32) * a1)) + a2).toNatClampNeg))
def fX8_see (σ : St) (a1 : Int32) : Option (Int32) :=
  if (σ.1 62 7) ≤ a1 then some (-1 : Int32) else gd (ir a1 1600) (some ((σ.1 66 a1.toNatClampNeg) &&& (255 : Int32)))
def fX8_worlds (σ : St) : Option (Int32) :=
  gd (ir (0 : Int32) 77) (some ((1 : Int32) <<< ((σ.1 63 (0 : Int32).toNatClampNeg) &&& 31)))
def fJ6_bitCount_0f7a4 (a0 : Int32) : Option (Int32) :=
  lt (a0 - (((a0.toUInt32 >>> ((1 : Int32).toUInt32 &&& Int32.toUInt32 31)).toInt32) &&& (1431655765 : Int32))) (fun v1 => lt ((v1 &&& (858993459 : Int32)) + (((v1.toUInt32 >>> ((2 : Int32).toUInt32 &&& Int32.toUInt32 31)).toInt32) &&& (858993459 : Int32))) (fun v2 => lt ((v2 + ((v2.toUInt32 >>> ((4 : Int32).toUInt32 &&& Int32.toUInt32 31)).toInt32)) &&& (252645135 : Int32)) (fun v3 => lt (v3 + ((v3.toUInt32 >>> ((8 : Int32).toUInt32 &&& Int32.toUInt32 31)).toInt32)) (fun v4 => lt (v4 + ((v4.toUInt32 >>> ((16 : Int32).toUInt32 &&& Int32.toUInt32 31)).toInt32)) (fun v5 => some (v5 &&& (63 : Int32)))))))
def fX7_alike (σ : St) (a1 : Int32) : Option (Int32) :=
  bp (fX6_hasClaim σ 3 a1) (fun r1 => if r1 = 0 then some (-2 : Int32) else gd (ir a1 12) (bp (fX6_claimsHoldingIn σ 3 (σ.1 (3 + 2) a1.toNatClampNeg)) (fun r2 => some (r2 &&& (((1 : Int32) <<< (a1 &&& 31)) ^^^ (-1 : Int32))))))
def fX7_claim (σ : St) (a1 : Int32) (a2 : Int32) : Option (Int32) :=
  bp (fX6_hasClaim σ 3 a1) (fun r1 => if r1 = 0 then some (-2 : Int32) else if a2 = 0 then gd (ir a1 12) (some (σ.1 (3 + 1) a1.toNatClampNeg)) else if a2 = 1 then some (((σ.1 3 7) >>> (a1 &&& 31)) &&& (1 : Int32)) else if a2 = 2 then gd (ir a1 12) (bp (fJ6_bitCount_0f7a4 (σ.1 (3 + 2) a1.toNatClampNeg)) (fun r2 => some r2)) else some (-2 : Int32))
def fX7_claims (σ : St) (a1 : Int32) (a2 : Int32) : Option (Int32 × St) :=
  bp (fX6_hasClaim σ 3 a1) (fun r1 => if r1 = 0 then some ((-2 : Int32), σ) else bp (fX7_isBit a2) (fun r2 => if r2 = 0 then some ((-2 : Int32), σ) else gd (ir a1 12) (bs (fX0_worldThatComes σ 3 a1 a2) (fun r3 σ4 => some ((((σ.1 (3 + 2) a1.toNatClampNeg) >>> (r3 &&& 31)) &&& (1 : Int32)), σ4)))))
def fX7_count (σ : St) (a1 : Int32) : Option (Int32) :=
  if a1 = 0 then some (σ.1 3 1) else if a1 = 1 then some (σ.1 3 2) else if a1 = 2 then some (σ.1 3 3) else if a1 = 3 then some (σ.1 3 4) else if a1 = 4 then some (σ.1 3 5) else if a1 = 5 then some (σ.1 3 6) else if a1 = 6 then some (σ.1 3 0) else if a1 = 7 then some (σ.1 1 1) else if a1 = 8 then bp (fX7_rowsThere σ) (fun r1 => some r1) else some (-1 : Int32)
def fX7_drawn (σ : St) (a1 : Int32) : Option (Int32) :=
  bp (fX6_isTold σ 3) (fun r1 => if r1 = 0 then some (-2 : Int32) else bp (fX7_isSeed a1) (fun r2 => if r2 = 0 then some (-2 : Int32) else bp (fX6_holedSteps σ 3 a1) (fun r3 => some r3)))
def fX7_drops (σ : St) : Option (Int32 × St) :=
  bp (fX6_isTold σ 3) (fun r1 => if r1 = 0 then some ((-2 : Int32), σ) else if (σ.1 3 5) = 0 then some ((-5 : Int32), σ) else bp (fX6_dropStep σ 3) (fun σ2 => gd ((1 : Int32) = 0 ∨ (1 : Int32) = 1) (lt (setI σ2 0 7 (1 : Int32)) (fun σ3 => some ((σ3.1 3 5), σ3)))))
def fX7_entails_b54 (σ : St) (y0 : Int32) : Option (Int32) :=
  bp (fX7_bit y0) (fun r1 => some r1)
def fX7_entails (σ : St) (a1 : Int32) (a2 : Int32) : Option (Int32) :=
  bp (fX6_hasClaim σ 3 a1) (fun r2 => if r2 = 0 then some (-2 : Int32) else bp (fX6_hasClaim σ 3 a2) (fun r3 => if r3 = 0 then some (-2 : Int32) else gd (ir a2 12) (gd (ir a1 12) (if ((σ.1 (3 + 2) a2.toNatClampNeg) &&& ((σ.1 (3 + 2) a1.toNatClampNeg) ^^^ (-1 : Int32))) = 0 then fX7_entails_b54 σ (1 : Int32) else fX7_entails_b54 σ (0 : Int32)))))
def fX7_feed (σ : St) (a1 : Int32) (a2 : Int32) (a3 : Int32) (a4 : Int32) (a5 : Int32) : Option (Int32 × St) :=
  if ((σ.1 1 1) + (20 : Int32)) ≤ (1600 : Int32) then bp (fX2_append σ a1) (fun σ1 => bp (fX2_append σ1 a2) (fun σ2 => bp (fX2_append σ2 a3) (fun σ3 => bp (fX2_append σ3 a4) (fun σ4 => bp (fX2_append σ4 a5) (fun σ5 => some ((σ5.1 1 1), σ5)))))) else some ((-1 : Int32), σ)
def fX7_guest (σ : St) (a1 : Int32) (a2 : Int32) : Option (Int32) :=
  bp (fX6_hasGuest σ 3 a1) (fun r1 => if r1 = 0 then some (-2 : Int32) else if a2 = 0 then gd (ir a1 5) (some (σ.1 (3 + 5) a1.toNatClampNeg)) else if a2 = 1 then gd (ir a1 5) (some (σ.1 (3 + 6) a1.toNatClampNeg)) else if a2 = 2 then bp (fX6_canDo σ 3 a1) (fun r2 => some r2) else some (-2 : Int32))
def fX7_holds (σ : St) (a1 : Int32) : Option (Int32) :=
  bp (fX6_hasClaim σ 3 a1) (fun r1 => if r1 = 0 then some (-2 : Int32) else gd (ir a1 12) (some (σ.1 (3 + 2) a1.toNatClampNeg)))
def fX7_lowestBit (a0 : Int32) : Option (Int32) :=
  if a0 = 0 then some (-1 : Int32) else bp (fJ6_bitCount_0f7a4 ((a0 &&& (-a0)) - (1 : Int32))) (fun r1 => some r1)
def fX7_outcome (σ : St) (a1 : Int32) (a2 : Int32) : Option (Int32 × St) :=
  bp (fX6_hasClaim σ 3 a1) (fun r1 => if r1 = 0 then some ((-2 : Int32), σ) else bp (fX7_isBit a2) (fun r2 => if r2 = 0 then some ((-2 : Int32), σ) else bs (fX0_worldThatComes σ 3 a1 a2) (fun r3 σ4 => some (r3, σ4))))
def fX7_partOfFraction_b14 (x2 : Int32) : Option (Int32) :=
  if x2 = 0 then some (0 : Int32) else some (1 : Int32)
def fX7_partOfFraction (a0 : Int32) (a1 : Int32) (a2 : Int32) : Option (Int32) :=
  bp (fX7_greatestDivisor a0 a1) (fun r1 => lt r1 (fun v2 => if a1 ≤ 0 then fX7_partOfFraction_b14 a2 else if 0 < v2 then if a2 = 0 then gd (¬ v2 = 0) (some (a0 / v2)) else gd (¬ v2 = 0) (some (a1 / v2)) else fX7_partOfFraction_b14 a2))
def fX7_paste (σ : St) (a1 : Int32) (a2 : Int32) (a3 : Int32) (a4 : Int32) (a5 : Int32) : Option (Int32 × St) :=
  bp (fX7_isSlot a1) (fun r1 => if r1 = 0 then some ((-2 : Int32), σ) else bp (fX7_isSlot a3) (fun r2 => if r2 = 0 then some ((-2 : Int32), σ) else gd (ir a1 4) (lt (rowp a1.toNatClampNeg) (fun k3 => gd (ir a3 4) (lt (rowp a3.toNatClampNeg) (fun k4 => if (σ.1 k3 0) = 0 then some ((-6 : Int32), σ) else if (σ.1 k4 0) = 0 then some ((-6 : Int32), σ) else if (σ.1 k3 1) = (σ.1 k4 1) then if a2 < 0 then some ((-7 : Int32), σ) else if a4 < 0 then some ((-7 : Int32), σ) else if a5 < 0 then some ((-7 : Int32), σ) else if ((σ.1 k3 2) - a2) < a5 then some ((-7 : Int32), σ) else if a5 ≤ ((σ.1 k4 2) - a4) then gd (cpokD a2 a4 a5 60 60) (lt (cpyJ σ (k3 + 1) (k4 + 1) a2.toNatClampNeg a4.toNatClampNeg a5.toNatClampNeg) (fun σ5 => some ((0 : Int32), σ5))) else some ((-7 : Int32), σ) else some ((-8 : Int32), σ)))))))
def fX7_refusalOfSlot (σ : St) (a1 : Int32) : Option (Int32) :=
  bp (fX6_isTold σ 3) (fun r1 => if r1 = 0 then some (-2 : Int32) else bp (fX7_isSlot a1) (fun r2 => if r2 = 0 then some (-2 : Int32) else gd (ir a1 4) (lt (rowp a1.toNatClampNeg) (fun k3 => if (σ.1 k3 0) = 0 then some (-6 : Int32) else some (0 : Int32)))))
def fX7_row (σ : St) (a1 : Int32) (a2 : Int32) (a3 : Int32) : Option (Int32 × St) :=
  bp (fX7_isSlot a1) (fun r1 => if r1 = 0 then some ((-2 : Int32), σ) else if a2 < 0 then some ((-2 : Int32), σ) else if (3 : Int32) < a2 then some ((-2 : Int32), σ) else if a3 ≤ (60 : Int32) then if 0 ≤ a3 then gd (ir a1 4) (lt (rowp a1.toNatClampNeg) (fun k2 => bp (fX4_begin σ k2 a2 a3) (fun σ3 => some ((0 : Int32), σ3)))) else some ((-3 : Int32), σ) else some ((-2 : Int32), σ))
def fX7_salt (σ : St) (a1 : Int32) (a2 : Int32) : Option (Int32 × St) :=
  bp (fX6_hasClaim σ 3 a1) (fun r1 => if r1 = 0 then some ((-2 : Int32), σ) else bp (fX7_isBit a2) (fun r2 => if r2 = 0 then some ((-2 : Int32), σ) else lt (((σ.1 3 7) >>> (a1 &&& 31)) &&& (1 : Int32)) (fun v3 => bp (fX7_withBit (σ.1 3 7) a1 a2) (fun r4 => lt (setI σ 3 7 r4) (fun σ5 => gd ((1 : Int32) = 0 ∨ (1 : Int32) = 1) (lt (setI σ5 0 7 (1 : Int32)) (fun σ6 => some (v3, σ6))))))))
def fX7_sizeOrNone (a0 : Int32) : Option (Int32) :=
  if a0 = (-1 : Int32) then some (-1 : Int32) else bp (fJ6_bitCount_0f7a4 a0) (fun r1 => some r1)
def fX7_teach (σ : St) (a1 : Int32) (a2 : Int32) (a3 : Int32) : Option (Int32 × St) :=
  bp (fX6_hasGuest σ 3 a1) (fun r1 => if r1 = 0 then some ((-2 : Int32), σ) else bp (fX6_hasStep σ 3 a2) (fun r2 => if r2 = 0 then some ((-2 : Int32), σ) else bp (fX7_isBit a3) (fun r3 => if r3 = 0 then some ((-2 : Int32), σ) else gd (ir a1 5) (lt (((σ.1 (3 + 6) a1.toNatClampNeg) >>> (a2 &&& 31)) &&& (1 : Int32)) (fun v4 => gd (ir a1 5) (bp (fX7_withBit (σ.1 (3 + 6) a1.toNatClampNeg) a2 a3) (fun r5 => gd (ir a1 5) (lt (setI σ (3 + 6) a1.toNatClampNeg r5) (fun σ6 => some (v4, σ6))))))))))
def fX7_unlike_B17 (σ : St) (kr17 : Int32 → Int32 → Option (Int32)) (x1 : Int32) (x2 : Int32) : Option (Int32) :=
  if (σ.1 3 4) ≤ x2 then some x1 else gd (ir x2 12) (bp (fX6_claimsHoldingIn σ 3 (σ.1 (3 + 2) x2.toNatClampNeg)) (fun r1 => lt (r1 &&& (((1 : Int32) <<< (x2 &&& 31)) - (1 : Int32))) (fun v2 => if v2 = 0 then lt (x1 + 1) (fun v4 => lt (x2 + 1) (fun v5 => kr17 v4 v5)) else lt (x2 + 1) (fun v3 => kr17 x1 v3))))
def fX7_unlike_l17 (σ : St) : Nat → Int32 → Int32 → Option (Int32)
  | 0 => fun _ _ => none
  | n + 1 => fX7_unlike_B17 σ (fX7_unlike_l17 σ n)
def fX7_unlike (σ : St) : Option (Int32) :=
  bp (fX6_isTold σ 3) (fun r6 => if r6 = 0 then some (-2 : Int32) else lt (0 : Int32) (fun v7 => lt (0 : Int32) (fun v8 => fX7_unlike_l17 σ FU v7 v8)))
def fX7_write (σ : St) (a1 : Int32) (a2 : Int32) (a3 : Int64) : Option (Int32 × St) :=
  bp (fX7_isSlot a1) (fun r1 => if r1 = 0 then some ((-2 : Int32), σ) else gd (ir a1 4) (lt (rowp a1.toNatClampNeg) (fun k2 => if (σ.1 k2 0) = 0 then some ((-6 : Int32), σ) else if a2 < 0 then some ((-7 : Int32), σ) else gd (ir a1 4) (lt (rowp a1.toNatClampNeg) (fun k3 => if a2 < (σ.1 k3 2) then gd (ir a1 4) (lt (rowp a1.toNatClampNeg) (fun k4 => gd (ir a1 4) (lt (rowp a1.toNatClampNeg) (fun k5 => bp (fX4_cut σ k5 a3) (fun r6 => gd (ir a2 60) (lt (setL σ (k4 + 1) a2.toNatClampNeg r6) (fun σ7 => some ((0 : Int32), σ7)))))))) else some ((-7 : Int32), σ))))))
def fX1_hourOfAll_B5 (σ : St) (t : Nat) (kr5 : Int32 → Int32 → Int32 → Option (Int32)) (x2 : Int32) (x3 : Int32) (x4 : Int32) : Option (Int32) :=
  if (σ.1 t 4) ≤ x4 then some x3 else if ((x2 >>> (x4 &&& 31)) &&& (1 : Int32)) = (1 : Int32) then gd (ir x4 12) (if (σ.1 56 x4.toNatClampNeg) = (-1 : Int32) then some (-1 : Int32) else gd (ir x4 12) (lt (if x3 < (σ.1 56 x4.toNatClampNeg) then (σ.1 56 x4.toNatClampNeg) else x3) (fun v2 => lt (x4 + 1) (fun v3 => kr5 x2 v2 v3)))) else lt (x4 + 1) (fun v1 => kr5 x2 x3 v1)
def fX1_hourOfAll_l5 (σ : St) (t : Nat) : Nat → Int32 → Int32 → Int32 → Option (Int32)
  | 0 => fun _ _ _ => none
  | n + 1 => fX1_hourOfAll_B5 σ t (fX1_hourOfAll_l5 σ t n)
def fX1_hourOfAll (σ : St) (t : Nat) (a2 : Int32) : Option (Int32) :=
  lt (0 : Int32) (fun v4 => lt (0 : Int32) (fun v5 => fX1_hourOfAll_l5 σ t FU a2 v4 v5))
def fX2_advance_B76 (kr76 : St → Int32 → Option (St)) (σ : St) (x1 : Int32) : Option (St) :=
  if (σ.1 1 1) ≤ x1 then lt (setI σ 1 6 x1) (fun σ1 => some σ1) else bp (fX2_kindAt σ x1) (fun r2 => if r2 = (σ.1 1 4) then if (σ.1 1 4) = (2 : Int32) then gd (ir x1 1600) (lt (setI σ 1 7 (if ((((σ.1 1 7) * (10 : Int32)) + (σ.1 2 x1.toNatClampNeg)) - (48 : Int32)) < (100000 : Int32) then ((((σ.1 1 7) * (10 : Int32)) + (σ.1 2 x1.toNatClampNeg)) - (48 : Int32)) else (100000 : Int32))) (fun σ6 => lt (x1 + 1) (fun v7 => kr76 σ6 v7))) else lt (setI σ 1 7 (0 : Int32)) (fun σ4 => lt (x1 + 1) (fun v5 => kr76 σ4 v5)) else lt (setI σ 1 6 x1) (fun σ3 => some σ3))
def fX2_advance_l76 : Nat → St → Int32 → Option (St)
  | 0 => fun _ _ => none
  | n + 1 => fX2_advance_B76 (fX2_advance_l76 n)
def fX2_advance_b41 (σ : St) (x1 : Int32) : Option (St) :=
  lt (setI σ 1 5 x1) (fun σ8 => bp (fX2_kindAt σ8 x1) (fun r9 => lt (setI σ8 1 4 r9) (fun σ10 => lt (setI σ10 1 7 (0 : Int32)) (fun σ11 => if (σ11.1 1 4) = (1 : Int32) then fX2_advance_l76 FU σ11 x1 else if (σ11.1 1 4) = (2 : Int32) then fX2_advance_l76 FU σ11 x1 else if (σ11.1 1 4) = 0 then lt (setI σ11 1 6 x1) (fun σ12 => some σ12) else lt (x1 + 1) (fun v13 => lt (setI σ11 1 6 v13) (fun σ14 => some σ14))))))
def fX2_advance_B5 (kr5 : St → Int32 → Option (St)) (σ : St) (x1 : Int32) : Option (St) :=
  if (σ.1 1 1) ≤ x1 then fX2_advance_b41 σ x1 else gd (ir x1 1600) (if (σ.1 2 x1.toNatClampNeg) = (32 : Int32) then lt (x1 + 1) (fun v15 => kr5 σ v15) else gd (ir x1 1600) (if (σ.1 2 x1.toNatClampNeg) = (10 : Int32) then lt (x1 + 1) (fun v16 => kr5 σ v16) else fX2_advance_b41 σ x1))
def fX2_advance_l5 : Nat → St → Int32 → Option (St)
  | 0 => fun _ _ => none
  | n + 1 => fX2_advance_B5 (fX2_advance_l5 n)
def fX2_advance (σ : St) : Option (St) :=
  lt (σ.1 1 6) (fun v17 => fX2_advance_l5 FU σ v17)
def fX3_read_B41 (t : Nat) (w : Nat) (kr41 : St → Int32 → Option (St)) (σ : St) (x3 : Int32) : Option (St) :=
  if (σ.1 w 2) ≤ x3 then some σ else if (σ.1 53 1) = 0 then gd (ir x3 60) (lt ((σ.2 (w + 1) x3.toNatClampNeg).toInt32) (fun v1 => bp (fX3_reasonAgainst σ t v1) (fun r2 => lt (setI σ 53 1 r2) (fun σ3 => if (σ3.1 53 1) = 0 then gd (ir v1 12) (gd (ir v1 12) (bp (fX3_usedForAll σ3 t (σ3.1 (t + 4) v1.toNatClampNeg)) (fun r5 => gd (ir (σ3.1 (t + 3) v1.toNatClampNeg) 12) (lt (setI σ3 54 (σ3.1 (t + 3) v1.toNatClampNeg).toNatClampNeg (((1 : Int32) <<< (v1 &&& 31)) ||| r5)) (fun σ6 => gd (ir v1 12) (lt (setI σ6 53 2 ((σ6.1 53 2) ||| ((1 : Int32) <<< ((σ6.1 (t + 3) v1.toNatClampNeg) &&& 31)))) (fun σ7 => lt (setI σ7 53 0 ((σ7.1 53 0) + (1 : Int32))) (fun σ8 => lt (x3 + 1) (fun v9 => kr41 σ8 v9))))))))) else lt (x3 + 1) (fun v4 => kr41 σ3 v4))))) else some σ
def fX3_read_l41 (t : Nat) (w : Nat) : Nat → St → Int32 → Option (St)
  | 0 => fun _ _ => none
  | n + 1 => fX3_read_B41 t w (fX3_read_l41 t w n)
def fX3_read_B20 (t : Nat) (w : Nat) (kr20 : St → Int32 → Option (St)) (σ : St) (x3 : Int32) : Option (St) :=
  if (12 : Int32) ≤ x3 then lt (0 : Int32) (fun v10 => fX3_read_l41 t w FU σ v10) else gd (ir x3 12) (lt (setI σ 54 x3.toNatClampNeg (0 : Int32)) (fun σ11 => lt (x3 + 1) (fun v12 => kr20 σ11 v12)))
def fX3_read_l20 (t : Nat) (w : Nat) : Nat → St → Int32 → Option (St)
  | 0 => fun _ _ => none
  | n + 1 => fX3_read_B20 t w (fX3_read_l20 t w n)
def fX3_read (σ : St) (t : Nat) (w : Nat) : Option (St) :=
  lt (setI σ 53 0 (0 : Int32)) (fun σ13 => lt (setI σ13 53 1 (0 : Int32)) (fun σ14 => lt (setI σ14 53 2 (σ14.1 t 7)) (fun σ15 => lt (0 : Int32) (fun v16 => fX3_read_l20 t w FU σ15 v16))))
def fX3_worthEaten_b101 (σ : St) (t : Nat) (w : Nat) (x4 : Int32) : Option (Int32) :=
  bp (fX6_worthOf σ t (x4 &&& ((σ.1 t 7) ^^^ (-1 : Int32)))) (fun r1 => some r1)
def fX3_worthEaten_b60 (σ : St) (t : Nat) (w : Nat) (kr23 : Int32 → Int32 → Int32 → Int32 → Option (Int32)) (x3 : Int32) (x4 : Int32) (x5 : Int32) (x6 : Int32) (x7 : Int32) (y0 : Int32) : Option (Int32) :=
  lt y0 (fun v2 => if v2 = 0 then fX3_worthEaten_b101 σ t w x4 else bp (fX6_goes σ t x7 x4) (fun r3 => if r3 = 0 then fX3_worthEaten_b101 σ t w x4 else gd (ir x7 12) (lt (x4 ||| ((1 : Int32) <<< ((σ.1 (t + 3) x7.toNatClampNeg) &&& 31))) (fun v4 => lt (x6 + 1) (fun v5 => kr23 x3 v4 x5 v5)))))
def fX3_worthEaten_B23 (σ : St) (t : Nat) (w : Nat) (kr23 : Int32 → Int32 → Int32 → Int32 → Option (Int32)) (x3 : Int32) (x4 : Int32) (x5 : Int32) (x6 : Int32) : Option (Int32) :=
  if x5 ≤ x6 then fX3_worthEaten_b101 σ t w x4 else gd (ir x6 60) (lt ((σ.2 (w + 1) x6.toNatClampNeg).toInt32) (fun v6 => gd (ir x3 5) (if (((σ.1 (t + 6) x3.toNatClampNeg) >>> (v6 &&& 31)) &&& (1 : Int32)) = (1 : Int32) then fX3_worthEaten_b60 σ t w kr23 x3 x4 x5 x6 v6 (1 : Int32) else fX3_worthEaten_b60 σ t w kr23 x3 x4 x5 x6 v6 (0 : Int32))))
def fX3_worthEaten_l23 (σ : St) (t : Nat) (w : Nat) : Nat → Int32 → Int32 → Int32 → Int32 → Option (Int32)
  | 0 => fun _ _ _ _ => none
  | n + 1 => fX3_worthEaten_B23 σ t w (fX3_worthEaten_l23 σ t w n)
def fX3_worthEaten (σ : St) (t : Nat) (w : Nat) (a3 : Int32) : Option (Int32) :=
  lt (σ.1 t 7) (fun v7 => bp (fX6_canDo σ t a3) (fun r8 => lt (if r8 < (σ.1 w 2) then r8 else (σ.1 w 2)) (fun v9 => lt (0 : Int32) (fun v10 => fX3_worthEaten_l23 σ t w FU a3 v7 v9 v10))))
def fX5_subsetsOf (a0 : Int32) : Option (Int32) :=
  bp (fJ6_bitCount_0f7a4 a0) (fun r1 => some ((1 : Int32) <<< (r1 &&& 31)))
def fX6_copyFrom (σ : St) (t : Nat) (t2 : Nat) : Option (St) :=
  lt (setI σ t 0 (σ.1 t2 0)) (fun σ1 => lt (setI σ1 t 1 (σ1.1 t2 1)) (fun σ2 => lt (setI σ2 t 2 (σ2.1 t2 2)) (fun σ3 => lt (setI σ3 t 3 (σ3.1 t2 3)) (fun σ4 => lt (setI σ4 t 4 (σ4.1 t2 4)) (fun σ5 => lt (setI σ5 t 5 (σ5.1 t2 5)) (fun σ6 => lt (setI σ6 t 6 (σ6.1 t2 6)) (fun σ7 => lt (setI σ7 t 7 (σ7.1 t2 7)) (fun σ8 => gd (cpokD (0 : Int32) (0 : Int32) (12 : Int32) 12 12) (lt (cpyI σ8 (t2 + 1) (t + 1) (0 : Int32).toNatClampNeg (0 : Int32).toNatClampNeg (12 : Int32).toNatClampNeg) (fun σ9 => gd (cpokD (0 : Int32) (0 : Int32) (12 : Int32) 12 12) (lt (cpyI σ9 (t2 + 2) (t + 2) (0 : Int32).toNatClampNeg (0 : Int32).toNatClampNeg (12 : Int32).toNatClampNeg) (fun σ10 => gd (cpokD (0 : Int32) (0 : Int32) (12 : Int32) 12 12) (lt (cpyI σ10 (t2 + 3) (t + 3) (0 : Int32).toNatClampNeg (0 : Int32).toNatClampNeg (12 : Int32).toNatClampNeg) (fun σ11 => gd (cpokD (0 : Int32) (0 : Int32) (12 : Int32) 12 12) (lt (cpyI σ11 (t2 + 4) (t + 4) (0 : Int32).toNatClampNeg (0 : Int32).toNatClampNeg (12 : Int32).toNatClampNeg) (fun σ12 => gd (cpokD (0 : Int32) (0 : Int32) (5 : Int32) 5 5) (lt (cpyI σ12 (t2 + 5) (t + 5) (0 : Int32).toNatClampNeg (0 : Int32).toNatClampNeg (5 : Int32).toNatClampNeg) (fun σ13 => gd (cpokD (0 : Int32) (0 : Int32) (5 : Int32) 5 5) (lt (cpyI σ13 (t2 + 6) (t + 6) (0 : Int32).toNatClampNeg (0 : Int32).toNatClampNeg (5 : Int32).toNatClampNeg) (fun σ14 => some σ14))))))))))))))))))))
def fX6_firstGoing_B2 (σ : St) (t : Nat) (kr2 : Int32 → Int32 → Int32 → Option (Int32)) (x1 : Int32) (x2 : Int32) (x3 : Int32) : Option (Int32) :=
  if (σ.1 t 5) ≤ x3 then some (-1 : Int32) else if ((x1 >>> (x3 &&& 31)) &&& (1 : Int32)) = (1 : Int32) then bp (fX6_goes σ t x3 x2) (fun r2 => if r2 = 0 then lt (x3 + 1) (fun v3 => kr2 x1 x2 v3) else some x3) else lt (x3 + 1) (fun v1 => kr2 x1 x2 v1)
def fX6_firstGoing_l2 (σ : St) (t : Nat) : Nat → Int32 → Int32 → Int32 → Option (Int32)
  | 0 => fun _ _ _ => none
  | n + 1 => fX6_firstGoing_B2 σ t (fX6_firstGoing_l2 σ t n)
def fX6_firstGoing (σ : St) (t : Nat) (a1 : Int32) (a2 : Int32) : Option (Int32) :=
  lt (0 : Int32) (fun v4 => fX6_firstGoing_l2 σ t FU a1 a2 v4)
def fX6_isClaimSet (σ : St) (t : Nat) (a1 : Int32) : Option (Int32) :=
  bp (fX6_isTold σ t) (fun r1 => if r1 = 0 then gd ((0 : Int32) = 0 ∨ (0 : Int32) = 1) (some (0 : Int32)) else if a1 < 0 then gd ((0 : Int32) = 0 ∨ (0 : Int32) = 1) (some (0 : Int32)) else if ((1 : Int32) <<< ((σ.1 t 4) &&& 31)) ≤ a1 then gd ((0 : Int32) = 0 ∨ (0 : Int32) = 1) (some (0 : Int32)) else gd ((1 : Int32) = 0 ∨ (1 : Int32) = 1) (some (1 : Int32)))
def fX6_isGuestSet (σ : St) (t : Nat) (a1 : Int32) : Option (Int32) :=
  bp (fX6_isTold σ t) (fun r1 => if r1 = 0 then gd ((0 : Int32) = 0 ∨ (0 : Int32) = 1) (some (0 : Int32)) else if a1 < 0 then gd ((0 : Int32) = 0 ∨ (0 : Int32) = 1) (some (0 : Int32)) else if ((1 : Int32) <<< ((σ.1 t 6) &&& 31)) ≤ a1 then gd ((0 : Int32) = 0 ∨ (0 : Int32) = 1) (some (0 : Int32)) else gd ((1 : Int32) = 0 ∨ (1 : Int32) = 1) (some (1 : Int32)))
def fX6_spread_B26 (σ : St) (t : Nat) (kr8 : Int32 → Int32 → Int32 → Int32 → Option (Int32)) (kr26 : Int32 → Int32 → Int32 → Int32 → Int32 → Option (Int32)) (x1 : Int32) (x3 : Int32) (x5 : Int32) (x6 : Int32) (x7 : Int32) : Option (Int32) :=
  if (σ.1 t 5) ≤ x7 then if x3 = x6 then lt (0 : Int32) (fun v1 => lt (x5 + 1) (fun v2 => kr8 x1 x3 v1 v2)) else lt (1 : Int32) (fun v3 => lt (x5 + 1) (fun v4 => kr8 x1 x3 v3 v4)) else if ((x1 >>> (x7 &&& 31)) &&& (1 : Int32)) = (1 : Int32) then bp (fX6_goes σ t x7 x3) (fun r6 => if r6 = 0 then lt (x7 + 1) (fun v7 => kr26 x1 x3 x5 x6 v7) else gd (ir x7 12) (lt (x3 ||| ((1 : Int32) <<< ((σ.1 (t + 3) x7.toNatClampNeg) &&& 31))) (fun v8 => lt (x7 + 1) (fun v9 => kr26 x1 v8 x5 x6 v9)))) else lt (x7 + 1) (fun v5 => kr26 x1 x3 x5 x6 v5)
def fX6_spread_l26 (σ : St) (t : Nat) (kr8 : Int32 → Int32 → Int32 → Int32 → Option (Int32)) : Nat → Int32 → Int32 → Int32 → Int32 → Int32 → Option (Int32)
  | 0 => fun _ _ _ _ _ => none
  | n + 1 => fX6_spread_B26 σ t kr8 (fX6_spread_l26 σ t kr8 n)
def fX6_spread_B8 (σ : St) (t : Nat) (kr8 : Int32 → Int32 → Int32 → Int32 → Option (Int32)) (x1 : Int32) (x3 : Int32) (x4 : Int32) (x5 : Int32) : Option (Int32) :=
  if (12 : Int32) < x5 then some x3 else if x4 = 0 then some x3 else lt x3 (fun v10 => lt (0 : Int32) (fun v11 => fX6_spread_l26 σ t kr8 FU x1 x3 x5 v10 v11))
def fX6_spread_l8 (σ : St) (t : Nat) : Nat → Int32 → Int32 → Int32 → Int32 → Option (Int32)
  | 0 => fun _ _ _ _ => none
  | n + 1 => fX6_spread_B8 σ t (fX6_spread_l8 σ t n)
def fX6_spread (σ : St) (t : Nat) (a1 : Int32) (a2 : Int32) : Option (Int32) :=
  lt a2 (fun v12 => lt (1 : Int32) (fun v13 => lt (0 : Int32) (fun v14 => fX6_spread_l8 σ t FU a1 v12 v13 v14)))
def fX6_teamCanDo_B4 (σ : St) (t : Nat) (kr4 : Int32 → Int32 → Int32 → Option (Int32)) (x1 : Int32) (x2 : Int32) (x3 : Int32) : Option (Int32) :=
  if (σ.1 t 6) ≤ x3 then some x2 else if ((x1 >>> (x3 &&& 31)) &&& (1 : Int32)) = (1 : Int32) then bp (fX6_canDo σ t x3) (fun r2 => lt (x2 + r2) (fun v3 => lt (x3 + 1) (fun v4 => kr4 x1 v3 v4))) else lt (x3 + 1) (fun v1 => kr4 x1 x2 v1)
def fX6_teamCanDo_l4 (σ : St) (t : Nat) : Nat → Int32 → Int32 → Int32 → Option (Int32)
  | 0 => fun _ _ _ => none
  | n + 1 => fX6_teamCanDo_B4 σ t (fX6_teamCanDo_l4 σ t n)
def fX6_teamCanDo (σ : St) (t : Nat) (a1 : Int32) : Option (Int32) :=
  lt (0 : Int32) (fun v5 => lt (0 : Int32) (fun v6 => fX6_teamCanDo_l4 σ t FU a1 v5 v6))
def fX6_worldsOf_B7 (σ : St) (t : Nat) (kr7 : Int32 → Int32 → Int32 → Option (Int32)) (x1 : Int32) (x2 : Int32) (x3 : Int32) : Option (Int32) :=
  if (σ.1 t 4) ≤ x3 then some x2 else if ((x1 >>> (x3 &&& 31)) &&& (1 : Int32)) = (1 : Int32) then gd (ir x3 12) (lt (x2 &&& (σ.1 (t + 2) x3.toNatClampNeg)) (fun v2 => lt (x3 + 1) (fun v3 => kr7 x1 v2 v3))) else lt (x3 + 1) (fun v1 => kr7 x1 x2 v1)
def fX6_worldsOf_l7 (σ : St) (t : Nat) : Nat → Int32 → Int32 → Int32 → Option (Int32)
  | 0 => fun _ _ _ => none
  | n + 1 => fX6_worldsOf_B7 σ t (fX6_worldsOf_l7 σ t n)
def fX6_worldsOf (σ : St) (t : Nat) (a1 : Int32) : Option (Int32) :=
  bp (fX6_allWorlds σ t) (fun r4 => lt r4 (fun v5 => lt (0 : Int32) (fun v6 => fX6_worldsOf_l7 σ t FU a1 v5 v6)))
def fX8_advance_b226 (σ : St) (y1 : Int32) : Option (St) :=
  lt (setI σ 62 10 y1) (fun σ1 => lt (setI σ1 62 8 ((σ1.1 62 8) + (1 : Int32))) (fun σ2 => some σ2))
def fX8_advance_B144 (kr144 : St → Option (St)) (σ : St) : Option (St) :=
  bp (fX8_see σ (σ.1 62 8)) (fun r3 => bp (fX8_in (r3.toInt64) (48 : Int64) (57 : Int64)) (fun r4 => if r4 = 0 then lt (setI σ 62 10 (2 : Int32)) (fun σ5 => some σ5) else bp (fX8_see σ (σ.1 62 8)) (fun r6 => lt (setI σ 62 11 (if ((((10 : Int32) * (σ.1 62 11)) + r6) - (48 : Int32)) < (99999 : Int32) then ((((10 : Int32) * (σ.1 62 11)) + r6) - (48 : Int32)) else (99999 : Int32))) (fun σ7 => lt (setI σ7 62 8 ((σ7.1 62 8) + (1 : Int32))) (fun σ8 => kr144 σ8)))))
def fX8_advance_l144 : Nat → St → Option (St)
  | 0 => fun _ => none
  | n + 1 => fX8_advance_B144 (fX8_advance_l144 n)
def fX8_advance_B83 (kr83 : St → Option (St)) (σ : St) : Option (St) :=
  bp (fX8_see σ (σ.1 62 8)) (fun r9 => bp (fX8_in (r9.toInt64) (97 : Int64) (122 : Int64)) (fun r10 => if r10 = 0 then lt (setI σ 62 10 (1 : Int32)) (fun σ11 => some σ11) else lt (setI σ 62 8 ((σ.1 62 8) + (1 : Int32))) (fun σ12 => kr83 σ12)))
def fX8_advance_l83 : Nat → St → Option (St)
  | 0 => fun _ => none
  | n + 1 => fX8_advance_B83 (fX8_advance_l83 n)
def fX8_advance_b26 (kr0 : St → Option (St)) (σ : St) : Option (St) :=
  lt (setI σ 62 8 ((σ.1 62 8) + (1 : Int32))) (fun σ13 => kr0 σ13)
def fX8_advance_B0 (kr0 : St → Option (St)) (σ : St) : Option (St) :=
  bp (fX8_see σ (σ.1 62 8)) (fun r14 => if r14 = (32 : Int32) then fX8_advance_b26 kr0 σ else bp (fX8_see σ (σ.1 62 8)) (fun r15 => if r15 = (10 : Int32) then fX8_advance_b26 kr0 σ else lt (setI σ 62 9 (σ.1 62 8)) (fun σ16 => bp (fX8_see σ16 (σ16.1 62 8)) (fun r17 => lt r17 (fun v18 => if v18 = (-1 : Int32) then lt (setI σ16 62 10 (0 : Int32)) (fun σ22 => some σ22) else bp (fX8_in (v18.toInt64) (97 : Int64) (122 : Int64)) (fun r19 => if r19 = 0 then bp (fX8_in (v18.toInt64) (48 : Int64) (57 : Int64)) (fun r20 => if r20 = 0 then if v18 = (59 : Int32) then fX8_advance_b226 σ16 (3 : Int32) else fX8_advance_b226 σ16 (4 : Int32) else lt (setI σ16 62 11 (0 : Int32)) (fun σ21 => fX8_advance_l144 FU σ21)) else fX8_advance_l83 FU σ16))))))
def fX8_advance_l0 : Nat → St → Option (St)
  | 0 => fun _ => none
  | n + 1 => fX8_advance_B0 (fX8_advance_l0 n)
def fX8_advance (σ : St) : Option (St) :=
  fX8_advance_l0 FU σ
def fX8_allWorlds (σ : St) : Option (Int32) :=
  bp (fX8_worlds σ) (fun r1 => some (((1 : Int32) <<< (r1 &&& 31)) - (1 : Int32)))
def fX8_areClaims (σ : St) (a1 : Int32) : Option (Int32) :=
  bp (fX8_isTable σ) (fun r1 => if r1 = 0 then gd ((0 : Int32) = 0 ∨ (0 : Int32) = 1) (some (0 : Int32)) else bp (fX8_allClaims σ) (fun r2 => bp (fX8_in (a1.toInt64) (0 : Int64) (r2.toInt64)) (fun r3 => if r3 = 0 then gd ((0 : Int32) = 0 ∨ (0 : Int32) = 1) (some (0 : Int32)) else gd ((1 : Int32) = 0 ∨ (1 : Int32) = 1) (some (1 : Int32)))))
def fX8_areGuests (σ : St) (a1 : Int32) : Option (Int32) :=
  bp (fX8_isTable σ) (fun r1 => if r1 = 0 then gd ((0 : Int32) = 0 ∨ (0 : Int32) = 1) (some (0 : Int32)) else bp (fX8_allGuests σ) (fun r2 => bp (fX8_in (a1.toInt64) (0 : Int64) (r2.toInt64)) (fun r3 => if r3 = 0 then gd ((0 : Int32) = 0 ∨ (0 : Int32) = 1) (some (0 : Int32)) else gd ((1 : Int32) = 0 ∨ (1 : Int32) = 1) (some (1 : Int32)))))
def fX8_atomWorlds_B4 (σ : St) (kr4 : Int32 → Int32 → Int32 → Option (Int32)) (x1 : Int32) (x2 : Int32) (x3 : Int32) : Option (Int32) :=
  gd (ir (0 : Int32) 77) (if ((1 : Int32) <<< ((σ.1 68 (0 : Int32).toNatClampNeg) &&& 31)) ≤ x3 then some x2 else bp (fX8_bit x3 x1) (fun r1 => lt (x2 ||| (r1 <<< (x3 &&& 31))) (fun v2 => lt (x3 + 1) (fun v3 => kr4 x1 v2 v3))))
def fX8_atomWorlds_l4 (σ : St) : Nat → Int32 → Int32 → Int32 → Option (Int32)
  | 0 => fun _ _ _ => none
  | n + 1 => fX8_atomWorlds_B4 σ (fX8_atomWorlds_l4 σ n)
def fX8_atomWorlds (σ : St) (a1 : Int32) : Option (Int32) :=
  lt (0 : Int32) (fun v4 => lt (0 : Int32) (fun v5 => fX8_atomWorlds_l4 σ FU a1 v4 v5))
def fX8_back_B29 (kr29 : St → Int32 → Int32 → Option (Int32 × St)) (σ : St) (x1 : Int32) (x2 : Int32) : Option (Int32 × St) :=
  if (77 : Int32) ≤ x2 then some ((0 : Int32), σ) else gd (ir (((77 : Int32) * x1) + x2) 231) (gd (ir x2 77) (lt (setI σ 63 x2.toNatClampNeg (σ.1 64 (((77 : Int32) * x1) + x2).toNatClampNeg)) (fun σ1 => lt (x2 + 1) (fun v2 => kr29 σ1 x1 v2))))
def fX8_back_l29 : Nat → St → Int32 → Int32 → Option (Int32 × St)
  | 0 => fun _ _ _ => none
  | n + 1 => fX8_back_B29 (fX8_back_l29 n)
def fX8_back (σ : St) (a1 : Int32) : Option (Int32 × St) :=
  bp (fX8_in (a1.toInt64) (0 : Int64) (2 : Int64)) (fun r3 => if r3 = 0 then some ((-2 : Int32), σ) else gd (ir a1 3) (if (σ.1 65 a1.toNatClampNeg) = 0 then some ((-6 : Int32), σ) else lt (0 : Int32) (fun v4 => fX8_back_l29 FU σ a1 v4)))
def fX8_canDo (σ : St) (a1 : Int32) : Option (Int32) :=
  gd (ir (1 : Int32) 77) (bp (fX8_ofGuest σ a1 (0 : Int32)) (fun r1 => gd (¬ r1 = 0) (some ((σ.1 63 (1 : Int32).toNatClampNeg) / r1))))
def fX8_cooks_b179 (σ : St) (x1 : Int32) (x4 : Int32) (y1 : Int32) (y2 : Int32) : Option (Int32 × St) :=
  gd (ir y1 12) (lt (setI σ 73 y1.toNatClampNeg y2) (fun σ1 => gd (ir x4 12) (gd (ir x4 12) (lt (setI σ1 74 x4.toNatClampNeg ((σ1.1 74 x4.toNatClampNeg) ||| ((1 : Int32) <<< (x1 &&& 31)))) (fun σ2 => gd ((1 : Int32) = 0 ∨ (1 : Int32) = 1) (some ((1 : Int32), σ2)))))))
def fX8_cooks_B25 (kr25 : St → Int32 → Int32 → Int32 → Int32 → Option (Int32 × St)) (σ : St) (x1 : Int32) (x2 : Int32) (x3 : Int32) (x4 : Int32) : Option (Int32 × St) :=
  gd (ir (3 : Int32) 77) (if (σ.1 63 (3 : Int32).toNatClampNeg) ≤ x4 then bp (fX8_ofGuest σ x1 (0 : Int32)) (fun r3 => lt (x3 + r3) (fun v4 => gd (ir (1 : Int32) 77) (if v4 ≤ (σ.1 63 (1 : Int32).toNatClampNeg) then gd (ir x1 5) (lt (setI σ 75 x1.toNatClampNeg v4) (fun σ5 => gd (ir x1 5) (bp (fX8_ofGuest σ5 x1 (0 : Int32)) (fun r6 => gd (ir x1 5) (lt (setI σ5 76 x1.toNatClampNeg ((σ5.1 76 x1.toNatClampNeg) + r6)) (fun σ7 => lt (setI σ7 62 28 (if (σ7.1 62 28) < v4 then v4 else (σ7.1 62 28))) (fun σ8 => bp (fX8_ofStep σ8 x2 (0 : Int32)) (fun r9 => lt r9 (fun v10 => gd (ir v10 12) (if (σ8.1 73 v10.toNatClampNeg) = (-1 : Int32) then fX8_cooks_b179 σ8 x1 v10 v10 v4 else gd (ir v10 12) (fX8_cooks_b179 σ8 x1 v10 v10 (if v4 < (σ8.1 73 v10.toNatClampNeg) then v4 else (σ8.1 73 v10.toNatClampNeg))))))))))))) else gd ((0 : Int32) = 0 ∨ (0 : Int32) = 1) (some ((0 : Int32), σ))))) else bp (fX8_ofStep σ x2 (1 : Int32)) (fun r11 => bp (fX8_bit r11 x4) (fun r12 => if r12 = 0 then lt (x4 + 1) (fun v15 => kr25 σ x1 x2 x3 v15) else gd (ir x4 12) (if (σ.1 73 x4.toNatClampNeg) = (-1 : Int32) then gd ((0 : Int32) = 0 ∨ (0 : Int32) = 1) (some ((0 : Int32), σ)) else gd (ir x4 12) (lt (if x3 < (σ.1 73 x4.toNatClampNeg) then (σ.1 73 x4.toNatClampNeg) else x3) (fun v13 => lt (x4 + 1) (fun v14 => kr25 σ x1 x2 v13 v14)))))))
def fX8_cooks_l25 : Nat → St → Int32 → Int32 → Int32 → Int32 → Option (Int32 × St)
  | 0 => fun _ _ _ _ _ => none
  | n + 1 => fX8_cooks_B25 (fX8_cooks_l25 n)
def fX8_cooks (σ : St) (a1 : Int32) (a2 : Int32) : Option (Int32 × St) :=
  bp (fX8_ofGuest σ a1 (1 : Int32)) (fun r16 => bp (fX8_bit r16 a2) (fun r17 => if r17 = 0 then gd ((0 : Int32) = 0 ∨ (0 : Int32) = 1) (some ((0 : Int32), σ)) else gd (ir a1 5) (lt (σ.1 75 a1.toNatClampNeg) (fun v18 => lt (0 : Int32) (fun v19 => fX8_cooks_l25 FU σ a1 a2 v18 v19)))))
def fX8_drops_B34 (kr34 : St → Int32 → Option (Int32 × St)) (σ : St) (x1 : Int32) : Option (Int32 × St) :=
  gd (ir (5 : Int32) 77) (if (σ.1 63 (5 : Int32).toNatClampNeg) ≤ x1 then gd (ir (4 : Int32) 77) (some ((σ.1 63 (4 : Int32).toNatClampNeg), σ)) else gd (ir (((67 : Int32) + ((2 : Int32) * x1)) + (1 : Int32)) 77) (bp (fX8_allSteps σ) (fun r1 => gd (ir (((67 : Int32) + ((2 : Int32) * x1)) + (1 : Int32)) 77) (lt (setI σ 63 (((67 : Int32) + ((2 : Int32) * x1)) + (1 : Int32)).toNatClampNeg ((σ.1 63 (((67 : Int32) + ((2 : Int32) * x1)) + (1 : Int32)).toNatClampNeg) &&& r1)) (fun σ2 => lt (x1 + 1) (fun v3 => kr34 σ2 v3))))))
def fX8_drops_l34 : Nat → St → Int32 → Option (Int32 × St)
  | 0 => fun _ _ => none
  | n + 1 => fX8_drops_B34 (fX8_drops_l34 n)
def fX8_drops (σ : St) : Option (Int32 × St) :=
  bp (fX8_isTable σ) (fun r4 => if r4 = 0 then some ((-2 : Int32), σ) else gd (ir (4 : Int32) 77) (if (σ.1 63 (4 : Int32).toNatClampNeg) = 0 then some ((-5 : Int32), σ) else gd (ir (4 : Int32) 77) (gd (ir (4 : Int32) 77) (lt (setI σ 63 (4 : Int32).toNatClampNeg ((σ.1 63 (4 : Int32).toNatClampNeg) - (1 : Int32))) (fun σ5 => lt (0 : Int32) (fun v6 => fX8_drops_l34 FU σ5 v6))))))
def fX8_eatenBy_B4 (σ : St) (kr4 : Int32 → Int32 → Int32 → Option (Int32)) (x1 : Int32) (x2 : Int32) (x3 : Int32) : Option (Int32) :=
  gd (ir x1 4) (if (σ.1 78 x1.toNatClampNeg) ≤ x3 then some x2 else bp (fX8_numberAt σ x1 x3) (fun r1 => lt (x2 ||| ((1 : Int32) <<< ((r1.toInt32) &&& 31))) (fun v2 => lt (x3 + 1) (fun v3 => kr4 x1 v2 v3))))
def fX8_eatenBy_l4 (σ : St) : Nat → Int32 → Int32 → Int32 → Option (Int32)
  | 0 => fun _ _ _ => none
  | n + 1 => fX8_eatenBy_B4 σ (fX8_eatenBy_l4 σ n)
def fX8_eatenBy (σ : St) (a1 : Int32) : Option (Int32) :=
  lt (0 : Int32) (fun v4 => lt (0 : Int32) (fun v5 => fX8_eatenBy_l4 σ FU a1 v4 v5))
def fX8_end (σ : St) (a1 : Int32) : Option (Int32 × St) :=
  bp (fX8_in (a1.toInt64) (0 : Int64) ((σ.1 62 5).toInt64)) (fun r1 => if r1 = 0 then some ((-1 : Int32), σ) else lt (setI σ 62 5 a1) (fun σ2 => some (a1, σ2)))
def fX8_errs (σ : St) (a1 : Int32) : Option (St) :=
  bp (fX8_good σ) (fun r1 => if r1 = 0 then some σ else lt (setI σ 62 12 a1) (fun σ2 => lt (setI σ2 62 13 (σ2.1 62 9)) (fun σ3 => some σ3)))
def fX8_fillDoubt_b175 (kr62 : St → Int32 → Int32 → Option (St)) (kr85 : St → Int32 → Int32 → Int32 → Int32 → Option (St)) (σ : St) (x2 : Int32) (x4 : Int32) (x5 : Int32) (x6 : Int32) (y1 : Int32) : Option (St) :=
  gd (ir y1 32) (gd ((0 : Int32) = 0 ∨ (0 : Int32) = 1) (lt (setI σ 72 y1.toNatClampNeg (0 : Int32)) (fun σ1 => lt (x6 + 1) (fun v2 => kr85 σ1 x2 x4 x5 v2))))
def fX8_fillDoubt_b153 (kr62 : St → Int32 → Int32 → Option (St)) (kr85 : St → Int32 → Int32 → Int32 → Int32 → Option (St)) (σ : St) (x2 : Int32) (x4 : Int32) (x5 : Int32) (x6 : Int32) (y1 : Int32) : Option (St) :=
  gd (ir y1 32) (gd ((1 : Int32) = 0 ∨ (1 : Int32) = 1) (lt (setI σ 72 y1.toNatClampNeg (1 : Int32)) (fun σ3 => lt (x6 + 1) (fun v4 => kr85 σ3 x2 x4 x5 v4))))
def fX8_fillDoubt_B85 (kr62 : St → Int32 → Int32 → Option (St)) (kr85 : St → Int32 → Int32 → Int32 → Int32 → Option (St)) (σ : St) (x2 : Int32) (x4 : Int32) (x5 : Int32) (x6 : Int32) : Option (St) :=
  if ((1 : Int32) <<< (x4 &&& 31)) ≤ x6 then lt (x4 + (-1)) (fun v5 => kr62 σ x2 v5) else gd (ir (((2 : Int32) <<< (x4 &&& 31)) + x6) 32) (lt (σ.1 72 (((2 : Int32) <<< (x4 &&& 31)) + x6).toNatClampNeg) (fun v6 => gd (ir (((2 : Int32) <<< (x4 &&& 31)) + (x6 ||| ((1 : Int32) <<< (x4 &&& 31)))) 32) (lt (σ.1 72 (((2 : Int32) <<< (x4 &&& 31)) + (x6 ||| ((1 : Int32) <<< (x4 &&& 31)))).toNatClampNeg) (fun v7 => if x5 = 0 then if v6 = 0 then fX8_fillDoubt_b175 kr62 kr85 σ x2 x4 x5 x6 (((1 : Int32) <<< (x4 &&& 31)) + x6) else if v7 = 0 then fX8_fillDoubt_b175 kr62 kr85 σ x2 x4 x5 x6 (((1 : Int32) <<< (x4 &&& 31)) + x6) else gd (ir (((1 : Int32) <<< (x4 &&& 31)) + x6) 32) (gd ((1 : Int32) = 0 ∨ (1 : Int32) = 1) (lt (setI σ 72 (((1 : Int32) <<< (x4 &&& 31)) + x6).toNatClampNeg (1 : Int32)) (fun σ8 => lt (x6 + 1) (fun v9 => kr85 σ8 x2 x4 x5 v9)))) else if v6 = 0 then if v7 = 0 then gd (ir (((1 : Int32) <<< (x4 &&& 31)) + x6) 32) (gd ((0 : Int32) = 0 ∨ (0 : Int32) = 1) (lt (setI σ 72 (((1 : Int32) <<< (x4 &&& 31)) + x6).toNatClampNeg (0 : Int32)) (fun σ10 => lt (x6 + 1) (fun v11 => kr85 σ10 x2 x4 x5 v11)))) else fX8_fillDoubt_b153 kr62 kr85 σ x2 x4 x5 x6 (((1 : Int32) <<< (x4 &&& 31)) + x6) else fX8_fillDoubt_b153 kr62 kr85 σ x2 x4 x5 x6 (((1 : Int32) <<< (x4 &&& 31)) + x6)))))
def fX8_fillDoubt_l85 (kr62 : St → Int32 → Int32 → Option (St)) : Nat → St → Int32 → Int32 → Int32 → Int32 → Option (St)
  | 0 => fun _ _ _ _ _ => none
  | n + 1 => fX8_fillDoubt_B85 kr62 (fX8_fillDoubt_l85 kr62 n)
def fX8_fillDoubt_b80 (kr62 : St → Int32 → Int32 → Option (St)) (σ : St) (x2 : Int32) (x4 : Int32) (y0 : Int32) : Option (St) :=
  lt y0 (fun v12 => lt (0 : Int32) (fun v13 => fX8_fillDoubt_l85 kr62 FU σ x2 x4 v12 v13))
def fX8_fillDoubt_B62 (kr62 : St → Int32 → Int32 → Option (St)) (σ : St) (x2 : Int32) (x4 : Int32) : Option (St) :=
  if x4 < 0 then some σ else gd (¬ (2 : Int32) = 0) (if (x4 - x4 / (2 : Int32) * (2 : Int32)) = x2 then fX8_fillDoubt_b80 kr62 σ x2 x4 (1 : Int32) else fX8_fillDoubt_b80 kr62 σ x2 x4 (0 : Int32))
def fX8_fillDoubt_l62 : Nat → St → Int32 → Int32 → Option (St)
  | 0 => fun _ _ _ => none
  | n + 1 => fX8_fillDoubt_B62 (fX8_fillDoubt_l62 n)
def fX8_fillDoubt_B10 (kr10 : St → Int32 → Int32 → Int32 → Int32 → Option (St)) (σ : St) (x1 : Int32) (x2 : Int32) (x3 : Int32) (x4 : Int32) : Option (St) :=
  bp (fX8_worlds σ) (fun r14 => if r14 ≤ x4 then lt (x3 - (1 : Int32)) (fun v15 => fX8_fillDoubt_l62 FU σ x2 v15) else bp (fX8_worlds σ) (fun r16 => bp (fX8_ofClaim σ x1 (2 : Int32)) (fun r17 => bp (fX8_bit r17 x4) (fun r18 => if r18 = (1 : Int32) then gd (ir (r16 + x4) 32) (gd ((1 : Int32) = 0 ∨ (1 : Int32) = 1) (lt (setI σ 72 (r16 + x4).toNatClampNeg (1 : Int32)) (fun σ21 => lt (x4 + 1) (fun v22 => kr10 σ21 x1 x2 x3 v22)))) else gd (ir (r16 + x4) 32) (gd ((0 : Int32) = 0 ∨ (0 : Int32) = 1) (lt (setI σ 72 (r16 + x4).toNatClampNeg (0 : Int32)) (fun σ19 => lt (x4 + 1) (fun v20 => kr10 σ19 x1 x2 x3 v20))))))))
def fX8_fillDoubt_l10 : Nat → St → Int32 → Int32 → Int32 → Int32 → Option (St)
  | 0 => fun _ _ _ _ _ => none
  | n + 1 => fX8_fillDoubt_B10 (fX8_fillDoubt_l10 n)
def fX8_fillDoubt (σ : St) (a1 : Int32) (a2 : Int32) : Option (St) :=
  gd (ir (0 : Int32) 77) (lt (σ.1 63 (0 : Int32).toNatClampNeg) (fun v23 => lt (0 : Int32) (fun v24 => fX8_fillDoubt_l10 FU σ a1 a2 v23 v24)))
def fX8_goes (σ : St) (a1 : Int32) (a2 : Int32) : Option (Int32) :=
  bp (fX8_ofStep σ a1 (1 : Int32)) (fun r1 => if (r1 &&& (a2 ^^^ (-1 : Int32))) = 0 then bp (fX8_ofStep σ a1 (0 : Int32)) (fun r2 => bp (fX8_bit a2 r2) (fun r3 => if r3 = 0 then gd ((1 : Int32) = 0 ∨ (1 : Int32) = 1) (some (1 : Int32)) else gd ((0 : Int32) = 0 ∨ (0 : Int32) = 1) (some (0 : Int32)))) else gd ((0 : Int32) = 0 ∨ (0 : Int32) = 1) (some (0 : Int32)))
def fX8_image_B17 (kr17 : St → Int32 → Int32 → Option (Int32 × St)) (σ : St) (x1 : Int32) (x2 : Int32) : Option (Int32 × St) :=
  if (77 : Int32) ≤ x2 then gd (ir x1 3) (gd ((1 : Int32) = 0 ∨ (1 : Int32) = 1) (lt (setI σ 65 x1.toNatClampNeg (1 : Int32)) (fun σ1 => some ((0 : Int32), σ1)))) else gd (ir x2 77) (gd (ir (((77 : Int32) * x1) + x2) 231) (lt (setI σ 64 (((77 : Int32) * x1) + x2).toNatClampNeg (σ.1 63 x2.toNatClampNeg)) (fun σ2 => lt (x2 + 1) (fun v3 => kr17 σ2 x1 v3))))
def fX8_image_l17 : Nat → St → Int32 → Int32 → Option (Int32 × St)
  | 0 => fun _ _ _ => none
  | n + 1 => fX8_image_B17 (fX8_image_l17 n)
def fX8_image (σ : St) (a1 : Int32) : Option (Int32 × St) :=
  bp (fX8_in (a1.toInt64) (0 : Int64) (2 : Int64)) (fun r4 => if r4 = 0 then some ((-2 : Int32), σ) else lt (0 : Int32) (fun v5 => fX8_image_l17 FU σ a1 v5))
def fX8_isClaim (σ : St) (a1 : Int64) : Option (Int32) :=
  gd (ir (3 : Int32) 77) (bp (fX8_in a1 (0 : Int64) (((σ.1 63 (3 : Int32).toNatClampNeg) - (1 : Int32)).toInt64)) (fun r1 => gd (r1 = 0 ∨ r1 = 1) (some r1)))
def fX8_isGuest (σ : St) (a1 : Int64) : Option (Int32) :=
  gd (ir (5 : Int32) 77) (bp (fX8_in a1 (0 : Int64) (((σ.1 63 (5 : Int32).toNatClampNeg) - (1 : Int32)).toInt64)) (fun r1 => gd (r1 = 0 ∨ r1 = 1) (some r1)))
def fX8_isNextIn (σ : St) (a1 : Int32) : Option (Int32) :=
  bp (fX8_good σ) (fun r1 => if r1 = 0 then gd ((0 : Int32) = 0 ∨ (0 : Int32) = 1) (some (0 : Int32)) else if (σ.1 62 10) = (2 : Int32) then if a1 ≤ (σ.1 62 11) then gd ((0 : Int32) = 0 ∨ (0 : Int32) = 1) (some (0 : Int32)) else gd ((1 : Int32) = 0 ∨ (1 : Int32) = 1) (some (1 : Int32)) else gd ((0 : Int32) = 0 ∨ (0 : Int32) = 1) (some (0 : Int32)))
def fX8_isSeed (a0 : Int32) : Option (Int32) :=
  bp (fX8_in (a0.toInt64) (0 : Int64) (2000000000 : Int64)) (fun r1 => gd (r1 = 0 ∨ r1 = 1) (some r1))
def fX8_isSlot (a0 : Int32) : Option (Int32) :=
  bp (fX8_in (a0.toInt64) (0 : Int64) (3 : Int64)) (fun r1 => gd (r1 = 0 ∨ r1 = 1) (some r1))
def fX8_isStep (σ : St) (a1 : Int64) : Option (Int32) :=
  gd (ir (4 : Int32) 77) (bp (fX8_in a1 (0 : Int64) (((σ.1 63 (4 : Int32).toNatClampNeg) - (1 : Int32)).toInt64)) (fun r1 => gd (r1 = 0 ∨ r1 = 1) (some r1)))
def fX8_joined (σ : St) (a1 : Int32) (a2 : Int32) (a3 : Int32) : Option (Int32) :=
  if a1 = 0 then some (a2 &&& a3) else if a1 = (1 : Int32) then some (a2 ||| a3) else bp (fX8_freshAll σ) (fun r1 => some (((a2 ^^^ (-1 : Int32)) &&& r1) ||| a3))
def fX8_lowest_B8 (kr8 : Int32 → Int32 → Option (Int32)) (x0 : Int32) (x1 : Int32) : Option (Int32) :=
  bp (fX8_bit x0 x1) (fun r1 => if r1 = 0 then lt (x1 + 1) (fun v2 => kr8 x0 v2) else some x1)
def fX8_lowest_l8 : Nat → Int32 → Int32 → Option (Int32)
  | 0 => fun _ _ => none
  | n + 1 => fX8_lowest_B8 (fX8_lowest_l8 n)
def fX8_lowest (a0 : Int32) : Option (Int32) :=
  if a0 = 0 then some (-1 : Int32) else lt (0 : Int32) (fun v3 => fX8_lowest_l8 FU a0 v3)
def fX8_part_b9 (x0 : Int32) (x1 : Int32) (y0 : Int32) : Option (Int32) :=
  bp (fX8_divisor x0 x1) (fun r1 => gd (¬ r1 = 0) (some (y0 / r1)))
def fX8_part (a0 : Int32) (a1 : Int32) (a2 : Int32) : Option (Int32) :=
  if a2 = 0 then fX8_part_b9 a0 a1 a0 else fX8_part_b9 a0 a1 a1
def fX8_saltNow_B4 (σ : St) (kr4 : Int32 → Int32 → Option (Int32)) (x1 : Int32) (x2 : Int32) : Option (Int32) :=
  gd (ir (3 : Int32) 77) (if (σ.1 63 (3 : Int32).toNatClampNeg) ≤ x2 then some x1 else bp (fX8_ofClaim σ x2 (1 : Int32)) (fun r1 => lt (x1 ||| (r1 <<< (x2 &&& 31))) (fun v2 => lt (x2 + 1) (fun v3 => kr4 v2 v3))))
def fX8_saltNow_l4 (σ : St) : Nat → Int32 → Int32 → Option (Int32)
  | 0 => fun _ _ => none
  | n + 1 => fX8_saltNow_B4 σ (fX8_saltNow_l4 σ n)
def fX8_saltNow (σ : St) : Option (Int32) :=
  lt (0 : Int32) (fun v4 => lt (0 : Int32) (fun v5 => fX8_saltNow_l4 σ FU v4 v5))
def fX8_unlike_b77 (σ : St) (kr14 : Int32 → Int32 → Option (Int32)) (x2 : Int32) (y0 : Int32) (y1 : Int32) : Option (Int32) :=
  lt (y0 + y1) (fun v1 => lt (x2 + 1) (fun v2 => kr14 v1 v2))
def fX8_unlike_b55 (σ : St) (kr14 : Int32 → Int32 → Option (Int32)) (kr29 : Int32 → Int32 → Int32 → Int32 → Option (Int32)) (x1 : Int32) (x2 : Int32) (x4 : Int32) : Option (Int32) :=
  lt (1 : Int32) (fun v3 => lt (x4 + 1) (fun v4 => kr29 x1 x2 v3 v4))
def fX8_unlike_B29 (σ : St) (kr14 : Int32 → Int32 → Option (Int32)) (kr29 : Int32 → Int32 → Int32 → Int32 → Option (Int32)) (x1 : Int32) (x2 : Int32) (x3 : Int32) (x4 : Int32) : Option (Int32) :=
  if x2 ≤ x4 then if x3 = 0 then fX8_unlike_b77 σ kr14 x2 x1 (1 : Int32) else fX8_unlike_b77 σ kr14 x2 x1 (0 : Int32) else if x3 = 0 then bp (fX8_ofClaim σ x4 (2 : Int32)) (fun r5 => bp (fX8_ofClaim σ x2 (2 : Int32)) (fun r6 => if r5 = r6 then fX8_unlike_b55 σ kr14 kr29 x1 x2 x4 else lt (0 : Int32) (fun v7 => lt (x4 + 1) (fun v8 => kr29 x1 x2 v7 v8)))) else fX8_unlike_b55 σ kr14 kr29 x1 x2 x4
def fX8_unlike_l29 (σ : St) (kr14 : Int32 → Int32 → Option (Int32)) : Nat → Int32 → Int32 → Int32 → Int32 → Option (Int32)
  | 0 => fun _ _ _ _ => none
  | n + 1 => fX8_unlike_B29 σ kr14 (fX8_unlike_l29 σ kr14 n)
def fX8_unlike_B14 (σ : St) (kr14 : Int32 → Int32 → Option (Int32)) (x1 : Int32) (x2 : Int32) : Option (Int32) :=
  gd (ir (3 : Int32) 77) (if (σ.1 63 (3 : Int32).toNatClampNeg) ≤ x2 then some x1 else lt (0 : Int32) (fun v9 => lt (0 : Int32) (fun v10 => fX8_unlike_l29 σ kr14 FU x1 x2 v9 v10)))
def fX8_unlike_l14 (σ : St) : Nat → Int32 → Int32 → Option (Int32)
  | 0 => fun _ _ => none
  | n + 1 => fX8_unlike_B14 σ (fX8_unlike_l14 σ n)
def fX8_unlike (σ : St) : Option (Int32) :=
  bp (fX8_isTable σ) (fun r11 => if r11 = 0 then some (-2 : Int32) else lt (0 : Int32) (fun v12 => lt (0 : Int32) (fun v13 => fX8_unlike_l14 σ FU v12 v13)))
def fX8_worthsOf_b34 (σ : St) (kr4 : Int32 → Int32 → Int32 → Option (Int32)) (x1 : Int32) (x3 : Int32) (y0 : Int32) (y1 : Int32) : Option (Int32) :=
  lt (y0 + y1) (fun v1 => lt (x3 + 1) (fun v2 => kr4 x1 v1 v2))
def fX8_worthsOf_B4 (σ : St) (kr4 : Int32 → Int32 → Int32 → Option (Int32)) (x1 : Int32) (x2 : Int32) (x3 : Int32) : Option (Int32) :=
  gd (ir (3 : Int32) 77) (if (σ.1 63 (3 : Int32).toNatClampNeg) ≤ x3 then some x2 else bp (fX8_bit x1 x3) (fun r3 => if r3 = (1 : Int32) then bp (fX8_ofClaim σ x3 (0 : Int32)) (fun r4 => fX8_worthsOf_b34 σ kr4 x1 x3 x2 r4) else fX8_worthsOf_b34 σ kr4 x1 x3 x2 (0 : Int32)))
def fX8_worthsOf_l4 (σ : St) : Nat → Int32 → Int32 → Int32 → Option (Int32)
  | 0 => fun _ _ _ => none
  | n + 1 => fX8_worthsOf_B4 σ (fX8_worthsOf_l4 σ n)
def fX8_worthsOf (σ : St) (a1 : Int32) : Option (Int32) :=
  lt (0 : Int32) (fun v5 => lt (0 : Int32) (fun v6 => fX8_worthsOf_l4 σ FU a1 v5 v6))
def fX7_adds (σ : St) (a1 : Int32) (a2 : Int32) : Option (Int32 × St) :=
  bp (fJ6_bitCount_0f7a4 a2) (fun r1 => lt r1 (fun v2 => bp (fX6_hasClaim σ 3 a1) (fun r3 => if r3 = 0 then some ((-2 : Int32), σ) else bp (fX6_isClaimSet σ 3 a2) (fun r4 => if r4 = 0 then some ((-2 : Int32), σ) else if v2 < (1 : Int32) then some ((-2 : Int32), σ) else if v2 ≤ (3 : Int32) then if (σ.1 3 5) < (12 : Int32) then bp (fX6_addStep σ 3 a1 a2) (fun σ5 => gd ((1 : Int32) = 0 ∨ (1 : Int32) = 1) (lt (setI σ5 0 7 (1 : Int32)) (fun σ6 => some (((σ6.1 3 5) - (1 : Int32)), σ6)))) else some ((-3 : Int32), σ) else some ((-2 : Int32), σ)))))
def fX7_back (σ : St) (a1 : Int32) : Option (Int32 × St) :=
  if a1 < 0 then some ((-2 : Int32), σ) else if a1 < (3 : Int32) then gd (ir a1 3) (if (σ.1 18 a1.toNatClampNeg) = 0 then some ((-6 : Int32), σ) else gd (ir a1 3) (lt (imgp a1.toNatClampNeg) (fun k1 => bp (fX6_copyFrom σ 3 k1) (fun σ2 => gd ((1 : Int32) = 0 ∨ (1 : Int32) = 1) (lt (setI σ2 0 7 (1 : Int32)) (fun σ3 => some ((0 : Int32), σ3))))))) else some ((-2 : Int32), σ)
def fX7_counter (σ : St) (a1 : Int32) : Option (Int32) :=
  bp (fX6_hasClaim σ 3 a1) (fun r1 => if r1 = 0 then some (-2 : Int32) else bp (fX6_worldsOf σ 3 (σ.1 3 7)) (fun r2 => gd (ir a1 12) (bp (fX7_lowestBit (r2 &&& ((σ.1 (3 + 2) a1.toNatClampNeg) ^^^ (-1 : Int32)))) (fun r3 => some r3))))
def fX7_image (σ : St) (a1 : Int32) : Option (Int32 × St) :=
  if a1 < 0 then some ((-2 : Int32), σ) else if a1 < (3 : Int32) then gd (ir a1 3) (lt (imgp a1.toNatClampNeg) (fun k1 => bp (fX6_copyFrom σ k1 3) (fun σ2 => gd (ir a1 3) (gd ((1 : Int32) = 0 ∨ (1 : Int32) = 1) (lt (setI σ2 18 a1.toNatClampNeg (1 : Int32)) (fun σ3 => some ((0 : Int32), σ3))))))) else some ((-2 : Int32), σ)
def fX7_likely (σ : St) (a1 : Int32) (a2 : Int32) : Option (Int32) :=
  bp (fX6_hasClaim σ 3 a1) (fun r1 => if r1 = 0 then some (-2 : Int32) else bp (fX7_isBit a2) (fun r2 => if r2 = 0 then some (-2 : Int32) else bp (fX6_worldsOf σ 3 (σ.1 3 7)) (fun r3 => lt r3 (fun v4 => gd (ir a1 12) (bp (fJ6_bitCount_0f7a4 (v4 &&& (σ.1 (3 + 2) a1.toNatClampNeg))) (fun r5 => lt r5 (fun v6 => bp (fJ6_bitCount_0f7a4 v4) (fun r7 => bp (fX7_partOfFraction v6 r7 a2) (fun r8 => some r8)))))))))
def fX7_refusalOfDishes (σ : St) (a1 : Int32) : Option (Int32) :=
  bp (fX7_refusalOfSlot σ a1) (fun r1 => lt r1 (fun v2 => if v2 = 0 then gd (ir a1 4) (lt (rowp a1.toNatClampNeg) (fun k3 => bp (fX4_areAllBelow σ k3 (σ.1 3 4)) (fun r4 => if r4 = 0 then some (-2 : Int32) else gd (ir a1 4) (lt (rowp a1.toNatClampNeg) (fun k5 => bp (fX4_asSet σ k5) (fun r6 => if (r6 &&& (σ.1 3 7)) = 0 then some (0 : Int32) else some (-2 : Int32))))))) else some v2))
def fX7_refusalOfPairs (σ : St) (a1 : Int32) : Option (Int32) :=
  bp (fX7_refusalOfSlot σ a1) (fun r1 => lt r1 (fun v2 => if v2 = 0 then gd (ir a1 4) (lt (rowp a1.toNatClampNeg) (fun k3 => bp (fX4_arePairsBelow σ k3 (σ.1 3 6) (σ.1 3 5)) (fun r4 => if r4 = 0 then some (-2 : Int32) else some (0 : Int32)))) else some v2))
def fX7_refusalOfSteps (σ : St) (a1 : Int32) : Option (Int32) :=
  bp (fX7_refusalOfSlot σ a1) (fun r1 => lt r1 (fun v2 => if v2 = 0 then gd (ir a1 4) (lt (rowp a1.toNatClampNeg) (fun k3 => bp (fX4_areAllBelow σ k3 (σ.1 3 5)) (fun r4 => if r4 = 0 then some (-2 : Int32) else some (0 : Int32)))) else some v2))
def fX7_salted (σ : St) : Option (Int32) :=
  bp (fX6_isTold σ 3) (fun r1 => if r1 = 0 then some (-2 : Int32) else bp (fX6_worldsOf σ 3 (σ.1 3 7)) (fun r2 => some r2))
def fX7_same_b160 (σ : St) (y0 : Int32) : Option (Int32 × St) :=
  bp (fX7_bit y0) (fun r1 => some (r1, σ))
def fX7_same (σ : St) (a1 : Int32) (a2 : Int32) (a3 : Int32) : Option (Int32 × St) :=
  bp (fX6_hasClaim σ 3 a3) (fun r2 => if r2 = 0 then some ((-2 : Int32), σ) else bp (fX7_isSlot a1) (fun r3 => if r3 = 0 then some ((-2 : Int32), σ) else bp (fX7_isSlot a2) (fun r4 => if r4 = 0 then some ((-2 : Int32), σ) else gd (ir a1 4) (lt (rowp a1.toNatClampNeg) (fun k5 => if (σ.1 k5 0) = 0 then some ((-6 : Int32), σ) else gd (ir a2 4) (lt (rowp a2.toNatClampNeg) (fun k6 => if (σ.1 k6 0) = 0 then some ((-6 : Int32), σ) else gd (ir a1 4) (lt (rowp a1.toNatClampNeg) (fun k7 => bp (fX4_areAllBelow σ k7 (σ.1 3 5)) (fun r8 => if r8 = 0 then some ((-2 : Int32), σ) else gd (ir a2 4) (lt (rowp a2.toNatClampNeg) (fun k9 => bp (fX4_areAllBelow σ k9 (σ.1 3 5)) (fun r10 => if r10 = 0 then some ((-2 : Int32), σ) else gd (ir a1 4) (lt (rowp a1.toNatClampNeg) (fun k11 => bp (fX3_read σ 3 k11) (fun σ12 => gd (ir a3 12) (lt (σ12.1 54 a3.toNatClampNeg) (fun v13 => gd (ir a2 4) (lt (rowp a2.toNatClampNeg) (fun k14 => bp (fX3_read σ12 3 k14) (fun σ15 => gd (ir a3 12) (if v13 = (σ15.1 54 a3.toNatClampNeg) then fX7_same_b160 σ15 (1 : Int32) else fX7_same_b160 σ15 (0 : Int32)))))))))))))))))))))))
def fX7_strength (σ : St) (a1 : Int32) : Option (Int32) :=
  bp (fX6_isGuestSet σ 3 a1) (fun r1 => if r1 = 0 then some (-2 : Int32) else bp (fX6_teamCanDo σ 3 a1) (fun r2 => some r2))
def fX1_cookPair (σ : St) (t : Nat) (a2 : Int32) (a3 : Int32) : Option (Int32 × St) :=
  gd (ir a3 12) (bp (fX1_hourOfAll σ t (σ.1 (t + 4) a3.toNatClampNeg)) (fun r1 => lt r1 (fun v2 => if v2 = (-1 : Int32) then gd ((0 : Int32) = 0 ∨ (0 : Int32) = 1) (some ((0 : Int32), σ)) else gd (ir a2 5) (if (((σ.1 (t + 6) a2.toNatClampNeg) >>> (a3 &&& 31)) &&& (1 : Int32)) = 0 then gd ((0 : Int32) = 0 ∨ (0 : Int32) = 1) (some ((0 : Int32), σ)) else gd (ir a2 5) (gd (ir a2 5) (lt ((if v2 < (σ.1 58 a2.toNatClampNeg) then (σ.1 58 a2.toNatClampNeg) else v2) + (σ.1 (t + 5) a2.toNatClampNeg)) (fun v3 => if v3 ≤ (σ.1 t 2) then gd (ir a3 12) (bp (fX1_give σ (σ.1 (t + 3) a3.toNatClampNeg) a2 v3) (fun σ4 => gd (ir a2 5) (lt (setI σ4 58 a2.toNatClampNeg v3) (fun σ5 => gd (ir a2 5) (gd (ir a2 5) (gd (ir a2 5) (lt (setI σ5 59 a2.toNatClampNeg ((σ5.1 59 a2.toNatClampNeg) + (σ5.1 (t + 5) a2.toNatClampNeg))) (fun σ6 => lt (setI σ6 55 1 (if (σ6.1 55 1) < v3 then v3 else (σ6.1 55 1))) (fun σ7 => lt (setI σ7 55 0 ((σ7.1 55 0) + (1 : Int32))) (fun σ8 => gd ((1 : Int32) = 0 ∨ (1 : Int32) = 1) (some ((1 : Int32), σ8)))))))))))) else gd ((0 : Int32) = 0 ∨ (0 : Int32) = 1) (some ((0 : Int32), σ)))))))))
def fX2_readNumber_b31 (σ : St) : Option (Int32 × St) :=
  bs (fX2_fail σ (2 : Int32)) (fun r1 σ2 => some ((-1 : Int32), σ2))
def fX2_readNumber (σ : St) (a1 : Int32) (a2 : Int32) : Option (Int32 × St) :=
  if (σ.1 1 4) = (2 : Int32) then lt (σ.1 1 7) (fun v3 => if v3 < a1 then fX2_readNumber_b31 σ else if v3 ≤ a2 then bp (fX2_advance σ) (fun σ4 => some (v3, σ4)) else fX2_readNumber_b31 σ) else bs (fX2_fail σ (1 : Int32)) (fun r5 σ6 => some ((-1 : Int32), σ6))
def fX2_readSign (σ : St) : Option (Int32 × St) :=
  if (σ.1 1 4) = (3 : Int32) then bp (fX2_advance σ) (fun σ1 => gd ((1 : Int32) = 0 ∨ (1 : Int32) = 1) (some ((1 : Int32), σ1))) else bs (fX2_fail σ (1 : Int32)) (fun r2 σ3 => gd (r2 = 0 ∨ r2 = 1) (some (r2, σ3)))
def fX5_countLeast_b45 (σ : St) (h : Nat) (kr8 : Int32 → Int32 → Int32 → Int32 → Int32 → Option (Int32)) (x1 : Int32) (x2 : Int32) (x3 : Int32) (x4 : Int32) (x5 : Int32) : Option (Int32) :=
  bp (fX5_subsetBehind x4 x1) (fun r1 => lt r1 (fun v2 => lt (x5 + 1) (fun v3 => kr8 x1 x2 x3 v2 v3)))
def fX5_countLeast_B8 (σ : St) (h : Nat) (kr8 : Int32 → Int32 → Int32 → Int32 → Int32 → Option (Int32)) (x1 : Int32) (x2 : Int32) (x3 : Int32) (x4 : Int32) (x5 : Int32) : Option (Int32) :=
  bp (fX5_subsetsOf x1) (fun r4 => if r4 ≤ x5 then some x3 else gd (ir x4 4096) (if (((σ.1 (h + 1) x4.toNatClampNeg) >>> (x2 &&& 31)) &&& (1 : Int32)) = (1 : Int32) then bp (fX5_isLeast σ h x4 x2) (fun r5 => if r5 = 0 then fX5_countLeast_b45 σ h kr8 x1 x2 x3 x4 x5 else lt (x3 + 1) (fun v6 => fX5_countLeast_b45 σ h kr8 x1 x2 v6 x4 x5)) else fX5_countLeast_b45 σ h kr8 x1 x2 x3 x4 x5))
def fX5_countLeast_l8 (σ : St) (h : Nat) : Nat → Int32 → Int32 → Int32 → Int32 → Int32 → Option (Int32)
  | 0 => fun _ _ _ _ _ => none
  | n + 1 => fX5_countLeast_B8 σ h (fX5_countLeast_l8 σ h n)
def fX5_countLeast (σ : St) (h : Nat) (a1 : Int32) (a2 : Int32) : Option (Int32) :=
  lt (0 : Int32) (fun v7 => lt (0 : Int32) (fun v8 => lt (0 : Int32) (fun v9 => fX5_countLeast_l8 σ h FU a1 a2 v7 v8 v9)))
def fX5_fillWithProofs_B13 (h : Nat) (t : Nat) (kr13 : St → Int32 → Int32 → Int32 → Option (St)) (σ : St) (x2 : Int32) (x4 : Int32) (x5 : Int32) : Option (St) :=
  bp (fX5_subsetsOf x2) (fun r1 => if r1 ≤ x5 then some σ else bp (fX5_subsetBehind x4 x2) (fun r2 => lt r2 (fun v3 => bp (fX5_withoutLowest v3) (fun r4 => gd (ir r4 4096) (lt (σ.1 (h + 1) r4.toNatClampNeg) (fun v5 => bp (fX7_lowestBit v3) (fun r6 => bp (fX6_goes σ t r6 v5) (fun r7 => if r7 = 0 then gd (ir v3 4096) (lt (setI σ (h + 1) v3.toNatClampNeg v5) (fun σ8 => lt (x5 + 1) (fun v9 => kr13 σ8 x2 v3 v9))) else bp (fX6_spread σ t v3 v5) (fun r10 => gd (ir v3 4096) (lt (setI σ (h + 1) v3.toNatClampNeg r10) (fun σ11 => lt (x5 + 1) (fun v12 => kr13 σ11 x2 v3 v12))))))))))))
def fX5_fillWithProofs_l13 (h : Nat) (t : Nat) : Nat → St → Int32 → Int32 → Int32 → Option (St)
  | 0 => fun _ _ _ _ => none
  | n + 1 => fX5_fillWithProofs_B13 h t (fX5_fillWithProofs_l13 h t n)
def fX5_fillWithProofs (σ : St) (h : Nat) (t : Nat) (a2 : Int32) (a3 : Int32) : Option (St) :=
  gd (ir (0 : Int32) 4096) (lt (setI σ (h + 1) (0 : Int32).toNatClampNeg a3) (fun σ13 => lt (0 : Int32) (fun v14 => lt (1 : Int32) (fun v15 => fX5_fillWithProofs_l13 h t FU σ13 a2 v14 v15))))
def fX5_fillWithRuledOut_B11 (h : Nat) (t : Nat) (kr11 : St → Int32 → Int32 → Option (St)) (σ : St) (x2 : Int32) (x3 : Int32) : Option (St) :=
  bp (fX5_subsetsOf (σ.1 t 7)) (fun r1 => if r1 ≤ x3 then some σ else bp (fX5_subsetBehind x2 (σ.1 t 7)) (fun r2 => lt r2 (fun v3 => bp (fX5_withoutLowest v3) (fun r4 => gd (ir r4 4096) (bp (fX6_allWorlds σ t) (fun r5 => bp (fX7_lowestBit v3) (fun r6 => gd (ir r6 12) (gd (ir v3 4096) (lt (setI σ (h + 1) v3.toNatClampNeg ((σ.1 (h + 1) r4.toNatClampNeg) ||| (r5 &&& ((σ.1 (t + 2) r6.toNatClampNeg) ^^^ (-1 : Int32))))) (fun σ7 => lt (x3 + 1) (fun v8 => kr11 σ7 v3 v8)))))))))))
def fX5_fillWithRuledOut_l11 (h : Nat) (t : Nat) : Nat → St → Int32 → Int32 → Option (St)
  | 0 => fun _ _ _ => none
  | n + 1 => fX5_fillWithRuledOut_B11 h t (fX5_fillWithRuledOut_l11 h t n)
def fX5_fillWithRuledOut (σ : St) (h : Nat) (t : Nat) : Option (St) :=
  gd (ir (0 : Int32) 4096) (lt (setI σ (h + 1) (0 : Int32).toNatClampNeg (0 : Int32)) (fun σ9 => lt (0 : Int32) (fun v10 => lt (1 : Int32) (fun v11 => fX5_fillWithRuledOut_l11 h t FU σ9 v10 v11))))
def fX5_fillWithSaltProofs_B19 (h : Nat) (t : Nat) (kr19 : St → Int32 → Int32 → Option (St)) (σ : St) (x2 : Int32) (x3 : Int32) : Option (St) :=
  bp (fX5_subsetsOf (σ.1 t 7)) (fun r1 => if r1 ≤ x3 then some σ else bp (fX5_subsetBehind x2 (σ.1 t 7)) (fun r2 => lt r2 (fun v3 => bp (fX6_allSteps σ t) (fun r4 => bp (fX5_withoutLowest v3) (fun r5 => gd (ir r5 4096) (bp (fX6_spread σ t r4 ((σ.1 (h + 1) r5.toNatClampNeg) ||| v3)) (fun r6 => gd (ir v3 4096) (lt (setI σ (h + 1) v3.toNatClampNeg r6) (fun σ7 => lt (x3 + 1) (fun v8 => kr19 σ7 v3 v8))))))))))
def fX5_fillWithSaltProofs_l19 (h : Nat) (t : Nat) : Nat → St → Int32 → Int32 → Option (St)
  | 0 => fun _ _ _ => none
  | n + 1 => fX5_fillWithSaltProofs_B19 h t (fX5_fillWithSaltProofs_l19 h t n)
def fX5_fillWithSaltProofs (σ : St) (h : Nat) (t : Nat) : Option (St) :=
  bp (fX6_allSteps σ t) (fun r9 => bp (fX6_spread σ t r9 (0 : Int32)) (fun r10 => gd (ir (0 : Int32) 4096) (lt (setI σ (h + 1) (0 : Int32).toNatClampNeg r10) (fun σ11 => lt (0 : Int32) (fun v12 => lt (1 : Int32) (fun v13 => fX5_fillWithSaltProofs_l19 h t FU σ11 v12 v13))))))
def fX5_leastSet_b73 (σ : St) (h : Nat) (kr23 : Int32 → Int32 → Int32 → Int32 → Int32 → Option (Int32)) (x1 : Int32) (x2 : Int32) (x3 : Int32) (x4 : Int32) (x5 : Int32) : Option (Int32) :=
  bp (fX5_subsetBehind x4 x1) (fun r1 => lt r1 (fun v2 => lt (x5 + 1) (fun v3 => kr23 x1 x2 x3 v2 v3)))
def fX5_leastSet_b51 (σ : St) (h : Nat) (kr23 : Int32 → Int32 → Int32 → Int32 → Int32 → Option (Int32)) (x1 : Int32) (x2 : Int32) (x3 : Int32) (x4 : Int32) (x5 : Int32) (y0 : Int32) : Option (Int32) :=
  lt y0 (fun v4 => if v4 = 0 then fX5_leastSet_b73 σ h kr23 x1 x2 x3 x4 x5 else bp (fJ6_bitCount_0f7a4 x4) (fun r5 => bp (fJ6_bitCount_0f7a4 x3) (fun r6 => if r6 ≤ r5 then fX5_leastSet_b73 σ h kr23 x1 x2 x3 x4 x5 else lt x4 (fun v7 => fX5_leastSet_b73 σ h kr23 x1 x2 v7 x4 x5))))
def fX5_leastSet_B23 (σ : St) (h : Nat) (kr23 : Int32 → Int32 → Int32 → Int32 → Int32 → Option (Int32)) (x1 : Int32) (x2 : Int32) (x3 : Int32) (x4 : Int32) (x5 : Int32) : Option (Int32) :=
  bp (fX5_subsetsOf x1) (fun r8 => if r8 ≤ x5 then some x3 else gd (ir x4 4096) (if (x2 &&& ((σ.1 (h + 1) x4.toNatClampNeg) ^^^ (-1 : Int32))) = 0 then fX5_leastSet_b51 σ h kr23 x1 x2 x3 x4 x5 (1 : Int32) else fX5_leastSet_b51 σ h kr23 x1 x2 x3 x4 x5 (0 : Int32)))
def fX5_leastSet_l23 (σ : St) (h : Nat) : Nat → Int32 → Int32 → Int32 → Int32 → Int32 → Option (Int32)
  | 0 => fun _ _ _ _ _ => none
  | n + 1 => fX5_leastSet_B23 σ h (fX5_leastSet_l23 σ h n)
def fX5_leastSet (σ : St) (h : Nat) (a1 : Int32) (a2 : Int32) : Option (Int32) :=
  gd (ir a1 4096) (if (a2 &&& ((σ.1 (h + 1) a1.toNatClampNeg) ^^^ (-1 : Int32))) = 0 then lt a1 (fun v9 => lt (0 : Int32) (fun v10 => lt (0 : Int32) (fun v11 => fX5_leastSet_l23 σ h FU a1 a2 v9 v10 v11))) else some (-1 : Int32))
def fX5_menuSet_b114 (σ : St) (h : Nat) (t : Nat) (kr12 : Int32 → Int32 → Int32 → Int32 → Int32 → Int32 → Option (Int32)) (x2 : Int32) (x3 : Int32) (x4 : Int32) (x5 : Int32) (x6 : Int32) (x7 : Int32) : Option (Int32) :=
  bp (fX5_subsetBehind x6 x2) (fun r1 => lt r1 (fun v2 => lt (x7 + 1) (fun v3 => kr12 x2 x3 x4 x5 v2 v3)))
def fX5_menuSet_b106 (σ : St) (h : Nat) (t : Nat) (kr12 : Int32 → Int32 → Int32 → Int32 → Int32 → Int32 → Option (Int32)) (x2 : Int32) (x3 : Int32) (x6 : Int32) (x7 : Int32) (x10 : Int32) : Option (Int32) :=
  lt x6 (fun v4 => lt x10 (fun v5 => fX5_menuSet_b114 σ h t kr12 x2 x3 v4 v5 x6 x7))
def fX5_menuSet_b92 (σ : St) (h : Nat) (t : Nat) (kr12 : Int32 → Int32 → Int32 → Int32 → Int32 → Int32 → Option (Int32)) (x2 : Int32) (x3 : Int32) (x4 : Int32) (x5 : Int32) (x6 : Int32) (x7 : Int32) (x10 : Int32) (y0 : Int32) : Option (Int32) :=
  lt y0 (fun v6 => if x5 < x10 then fX5_menuSet_b106 σ h t kr12 x2 x3 x6 x7 x10 else if v6 = 0 then fX5_menuSet_b114 σ h t kr12 x2 x3 x4 x5 x6 x7 else fX5_menuSet_b106 σ h t kr12 x2 x3 x6 x7 x10)
def fX5_menuSet_b91 (σ : St) (h : Nat) (t : Nat) (kr12 : Int32 → Int32 → Int32 → Int32 → Int32 → Int32 → Option (Int32)) (x2 : Int32) (x3 : Int32) (x4 : Int32) (x5 : Int32) (x6 : Int32) (x7 : Int32) (x10 : Int32) : Option (Int32) :=
  fX5_menuSet_b92 σ h t kr12 x2 x3 x4 x5 x6 x7 x10 (0 : Int32)
def fX5_menuSet_B12 (σ : St) (h : Nat) (t : Nat) (kr12 : Int32 → Int32 → Int32 → Int32 → Int32 → Int32 → Option (Int32)) (x2 : Int32) (x3 : Int32) (x4 : Int32) (x5 : Int32) (x6 : Int32) (x7 : Int32) : Option (Int32) :=
  bp (fX5_subsetsOf x2) (fun r7 => if r7 ≤ x7 then some x4 else gd (ir x6 4096) (gd (ir (0 : Int32) 4096) (lt ((σ.1 (h + 1) x6.toNatClampNeg) &&& ((σ.1 (h + 1) (0 : Int32).toNatClampNeg) ^^^ (-1 : Int32))) (fun v8 => bp (fJ6_bitCount_0f7a4 x6) (fun r9 => lt r9 (fun v10 => if x3 < v10 then fX5_menuSet_b114 σ h t kr12 x2 x3 x4 x5 x6 x7 else bp (fJ6_bitCount_0f7a4 v8) (fun r11 => if v10 = r11 then bp (fX6_worthOf σ t v8) (fun r12 => lt r12 (fun v13 => if v13 = x5 then bp (fJ6_bitCount_0f7a4 x4) (fun r14 => if r14 ≤ v10 then fX5_menuSet_b91 σ h t kr12 x2 x3 x4 x5 x6 x7 v13 else fX5_menuSet_b92 σ h t kr12 x2 x3 x4 x5 x6 x7 v13 (1 : Int32)) else fX5_menuSet_b91 σ h t kr12 x2 x3 x4 x5 x6 x7 v13)) else fX5_menuSet_b114 σ h t kr12 x2 x3 x4 x5 x6 x7)))))))
def fX5_menuSet_l12 (σ : St) (h : Nat) (t : Nat) : Nat → Int32 → Int32 → Int32 → Int32 → Int32 → Int32 → Option (Int32)
  | 0 => fun _ _ _ _ _ _ => none
  | n + 1 => fX5_menuSet_B12 σ h t (fX5_menuSet_l12 σ h t n)
def fX5_menuSet (σ : St) (h : Nat) (t : Nat) (a2 : Int32) (a3 : Int32) : Option (Int32) :=
  lt (0 : Int32) (fun v15 => lt (0 : Int32) (fun v16 => lt (0 : Int32) (fun v17 => lt (0 : Int32) (fun v18 => fX5_menuSet_l12 σ h t FU a2 a3 v15 v16 v17 v18))))
def fX6_falseWorlds (σ : St) (t : Nat) (a1 : Int32) : Option (Int32) :=
  gd (ir a1 12) (bp (fX6_worldsOf σ t (σ.1 (t + 4) a1.toNatClampNeg)) (fun r1 => gd (ir a1 12) (gd (ir (σ.1 (t + 3) a1.toNatClampNeg) 12) (some (r1 &&& ((σ.1 (t + 2) (σ.1 (t + 3) a1.toNatClampNeg).toNatClampNeg) ^^^ (-1 : Int32)))))))
def fX6_following_B13 (σ : St) (t : Nat) (kr13 : Int32 → Int32 → Int32 → Option (Int32)) (x1 : Int32) (x2 : Int32) (x3 : Int32) : Option (Int32) :=
  if (σ.1 t 4) ≤ x3 then some x2 else gd (ir x3 12) (if (x1 &&& ((σ.1 (t + 2) x3.toNatClampNeg) ^^^ (-1 : Int32))) = 0 then lt (x2 ||| ((1 : Int32) <<< (x3 &&& 31))) (fun v2 => lt (x3 + 1) (fun v3 => kr13 x1 v2 v3)) else lt (x3 + 1) (fun v1 => kr13 x1 x2 v1))
def fX6_following_l13 (σ : St) (t : Nat) : Nat → Int32 → Int32 → Int32 → Option (Int32)
  | 0 => fun _ _ _ => none
  | n + 1 => fX6_following_B13 σ t (fX6_following_l13 σ t n)
def fX6_following (σ : St) (t : Nat) : Option (Int32) :=
  bp (fX6_worldsOf σ t (σ.1 t 7)) (fun r4 => lt r4 (fun v5 => lt (0 : Int32) (fun v6 => lt (0 : Int32) (fun v7 => fX6_following_l13 σ t FU v5 v6 v7))))
def fX6_followsFrom (σ : St) (t : Nat) (a1 : Int32) (a2 : Int32) : Option (Int32) :=
  bp (fX6_worldsOf σ t a1) (fun r1 => gd (ir a2 12) (if (r1 &&& ((σ.1 (t + 2) a2.toNatClampNeg) ^^^ (-1 : Int32))) = 0 then gd ((1 : Int32) = 0 ∨ (1 : Int32) = 1) (some (1 : Int32)) else gd ((0 : Int32) = 0 ∨ (0 : Int32) = 1) (some (0 : Int32))))
def fX6_leftAtWorst (σ : St) (t : Nat) (a1 : Int32) : Option (Int32) :=
  bp (fX6_worldsOf σ t (σ.1 t 7)) (fun r1 => lt r1 (fun v2 => gd (ir a1 12) (bp (fJ6_bitCount_0f7a4 (v2 &&& (σ.1 (t + 2) a1.toNatClampNeg))) (fun r3 => lt r3 (fun v4 => bp (fJ6_bitCount_0f7a4 v2) (fun r5 => some (if v4 < (r5 - v4) then (r5 - v4) else v4)))))))
def fX8_adds (σ : St) (a1 : Int32) (a2 : Int32) : Option (Int32 × St) :=
  bp (fX8_isClaim σ (a1.toInt64)) (fun r1 => if r1 = 0 then some ((-2 : Int32), σ) else bp (fX8_areClaims σ a2) (fun r2 => if r2 = 0 then some ((-2 : Int32), σ) else bp (fX8_bits a2) (fun r3 => bp (fX8_in (r3.toInt64) (1 : Int64) (3 : Int64)) (fun r4 => if r4 = 0 then some ((-2 : Int32), σ) else gd (ir (4 : Int32) 77) (if (σ.1 63 (4 : Int32).toNatClampNeg) = (12 : Int32) then some ((-3 : Int32), σ) else gd (ir (4 : Int32) 77) (gd (ir (((43 : Int32) + ((2 : Int32) * (σ.1 63 (4 : Int32).toNatClampNeg))) + (0 : Int32)) 77) (lt (setI σ 63 (((43 : Int32) + ((2 : Int32) * (σ.1 63 (4 : Int32).toNatClampNeg))) + (0 : Int32)).toNatClampNeg a1) (fun σ5 => gd (ir (4 : Int32) 77) (gd (ir (((43 : Int32) + ((2 : Int32) * (σ5.1 63 (4 : Int32).toNatClampNeg))) + (1 : Int32)) 77) (lt (setI σ5 63 (((43 : Int32) + ((2 : Int32) * (σ5.1 63 (4 : Int32).toNatClampNeg))) + (1 : Int32)).toNatClampNeg a2) (fun σ6 => gd (ir (4 : Int32) 77) (gd (ir (4 : Int32) 77) (lt (setI σ6 63 (4 : Int32).toNatClampNeg ((σ6.1 63 (4 : Int32).toNatClampNeg) + (1 : Int32))) (fun σ7 => gd (ir (4 : Int32) 77) (some (((σ7.1 63 (4 : Int32).toNatClampNeg) - (1 : Int32)), σ7))))))))))))))))
def fX8_alike_b54 (σ : St) (kr16 : Int32 → Int32 → Int32 → Option (Int32)) (x1 : Int32) (x3 : Int32) (y0 : Int32) (y1 : Int32) : Option (Int32) :=
  lt (y0 ||| y1) (fun v1 => lt (x3 + 1) (fun v2 => kr16 x1 v1 v2))
def fX8_alike_b53 (σ : St) (kr16 : Int32 → Int32 → Int32 → Option (Int32)) (x1 : Int32) (x3 : Int32) (y0 : Int32) : Option (Int32) :=
  fX8_alike_b54 σ kr16 x1 x3 y0 (0 : Int32)
def fX8_alike_B16 (σ : St) (kr16 : Int32 → Int32 → Int32 → Option (Int32)) (x1 : Int32) (x2 : Int32) (x3 : Int32) : Option (Int32) :=
  gd (ir (3 : Int32) 77) (if (σ.1 63 (3 : Int32).toNatClampNeg) ≤ x3 then some x2 else if x3 = x1 then fX8_alike_b53 σ kr16 x1 x3 x2 else bp (fX8_ofClaim σ x3 (2 : Int32)) (fun r3 => bp (fX8_ofClaim σ x1 (2 : Int32)) (fun r4 => if r3 = r4 then fX8_alike_b54 σ kr16 x1 x3 x2 ((1 : Int32) <<< (x3 &&& 31)) else fX8_alike_b53 σ kr16 x1 x3 x2)))
def fX8_alike_l16 (σ : St) : Nat → Int32 → Int32 → Int32 → Option (Int32)
  | 0 => fun _ _ _ => none
  | n + 1 => fX8_alike_B16 σ (fX8_alike_l16 σ n)
def fX8_alike (σ : St) (a1 : Int32) : Option (Int32) :=
  bp (fX8_isClaim σ (a1.toInt64)) (fun r5 => if r5 = 0 then some (-2 : Int32) else lt (0 : Int32) (fun v6 => lt (0 : Int32) (fun v7 => fX8_alike_l16 σ FU a1 v6 v7)))
def fX8_asksEaten_B36 (σ : St) (kr36 : Int32 → Int32 → Option (Int32)) (x1 : Int32) (x3 : Int32) : Option (Int32) :=
  gd (ir x1 4) (if (σ.1 78 x1.toNatClampNeg) ≤ x3 then some (0 : Int32) else bp (fX8_numberAt σ x1 x3) (fun r1 => bp (fX8_isClaim σ r1) (fun r2 => if r2 = 0 then some (-2 : Int32) else bp (fX8_numberAt σ x1 x3) (fun r3 => bp (fX8_ofClaim σ (r3.toInt32) (1 : Int32)) (fun r4 => if r4 = (1 : Int32) then some (-2 : Int32) else lt (x3 + 1) (fun v5 => kr36 x1 v5))))))
def fX8_asksEaten_l36 (σ : St) : Nat → Int32 → Int32 → Option (Int32)
  | 0 => fun _ _ => none
  | n + 1 => fX8_asksEaten_B36 σ (fX8_asksEaten_l36 σ n)
def fX8_asksEaten (σ : St) (a1 : Int32) (a2 : Int32) : Option (Int32) :=
  bp (fX8_isSlot a1) (fun r6 => if r6 = 0 then some (-2 : Int32) else bp (fX8_isTable σ) (fun r7 => if r7 = 0 then some (-2 : Int32) else if a2 = 0 then some (-2 : Int32) else gd (ir a1 4) (if (σ.1 78 a1.toNatClampNeg) = (-1 : Int32) then some (-6 : Int32) else lt (0 : Int32) (fun v8 => fX8_asksEaten_l36 σ FU a1 v8))))
def fX8_asksKitchen_B50 (σ : St) (kr50 : Int32 → Int32 → Option (Int32)) (x1 : Int32) (x3 : Int32) : Option (Int32) :=
  gd (ir x1 4) (if (σ.1 78 x1.toNatClampNeg) ≤ x3 then some (0 : Int32) else bp (fX8_numberAt σ x1 x3) (fun r1 => bp (fX8_isGuest σ r1) (fun r2 => if r2 = 0 then some (-2 : Int32) else bp (fX8_numberAt σ x1 (x3 + (1 : Int32))) (fun r3 => bp (fX8_isStep σ r3) (fun r4 => if r4 = 0 then some (-2 : Int32) else lt (x3 + 2) (fun v5 => kr50 x1 v5))))))
def fX8_asksKitchen_l50 (σ : St) : Nat → Int32 → Int32 → Option (Int32)
  | 0 => fun _ _ => none
  | n + 1 => fX8_asksKitchen_B50 σ (fX8_asksKitchen_l50 σ n)
def fX8_asksKitchen (σ : St) (a1 : Int32) (a2 : Int32) : Option (Int32) :=
  bp (fX8_isSlot a1) (fun r6 => if r6 = 0 then some (-2 : Int32) else bp (fX8_isTable σ) (fun r7 => if r7 = 0 then some (-2 : Int32) else if a2 = 0 then some (-2 : Int32) else gd (ir a1 4) (if (σ.1 78 a1.toNatClampNeg) = (-1 : Int32) then some (-6 : Int32) else gd (ir a1 4) (gd (¬ (2 : Int32) = 0) (if ((σ.1 78 a1.toNatClampNeg) - (σ.1 78 a1.toNatClampNeg) / (2 : Int32) * (2 : Int32)) = 0 then lt (0 : Int32) (fun v8 => fX8_asksKitchen_l50 σ FU a1 v8) else some (-2 : Int32))))))
def fX8_asksRow_B36 (σ : St) (kr36 : Int32 → Int32 → Option (Int32)) (x1 : Int32) (x3 : Int32) : Option (Int32) :=
  gd (ir x1 4) (if (σ.1 78 x1.toNatClampNeg) ≤ x3 then some (0 : Int32) else bp (fX8_numberAt σ x1 x3) (fun r1 => bp (fX8_isStep σ r1) (fun r2 => if r2 = 0 then some (-2 : Int32) else lt (x3 + 1) (fun v3 => kr36 x1 v3))))
def fX8_asksRow_l36 (σ : St) : Nat → Int32 → Int32 → Option (Int32)
  | 0 => fun _ _ => none
  | n + 1 => fX8_asksRow_B36 σ (fX8_asksRow_l36 σ n)
def fX8_asksRow (σ : St) (a1 : Int32) (a2 : Int32) : Option (Int32) :=
  bp (fX8_isSlot a1) (fun r4 => if r4 = 0 then some (-2 : Int32) else bp (fX8_isTable σ) (fun r5 => if r5 = 0 then some (-2 : Int32) else if a2 = 0 then some (-2 : Int32) else gd (ir a1 4) (if (σ.1 78 a1.toNatClampNeg) = (-1 : Int32) then some (-6 : Int32) else lt (0 : Int32) (fun v6 => fX8_asksRow_l36 σ FU a1 v6))))
def fX8_claim (σ : St) (a1 : Int32) (a2 : Int32) : Option (Int32) :=
  bp (fX8_isClaim σ (a1.toInt64)) (fun r1 => if r1 = 0 then some (-2 : Int32) else bp (fX8_in (a2.toInt64) (0 : Int64) (2 : Int64)) (fun r2 => if r2 = 0 then some (-2 : Int32) else if (2 : Int32) ≤ a2 then bp (fX8_ofClaim σ a1 (2 : Int32)) (fun r3 => bp (fX8_bits r3) (fun r4 => some r4)) else bp (fX8_ofClaim σ a1 a2) (fun r5 => some r5)))
def fX8_claims (σ : St) (a1 : Int32) (a2 : Int32) : Option (Int32 × St) :=
  bp (fX8_isClaim σ (a1.toInt64)) (fun r1 => if r1 = 0 then some ((-2 : Int32), σ) else bp (fX8_in (a2.toInt64) (0 : Int64) (1 : Int64)) (fun r2 => if r2 = 0 then some ((-2 : Int32), σ) else bp (fX8_fillDoubt σ a1 a2) (fun σ3 => gd (ir (1 : Int32) 32) (if (σ3.1 72 (1 : Int32).toNatClampNeg) = 0 then some ((0 : Int32), σ3) else some ((1 : Int32), σ3)))))
def fX8_drawn (σ : St) (a1 : Int32) : Option (Int32) :=
  bp (fX8_isTable σ) (fun r1 => if r1 = 0 then some (-2 : Int32) else bp (fX8_isSeed a1) (fun r2 => if r2 = 0 then some (-2 : Int32) else bp (fX8_holesBy σ (a1.toInt64)) (fun r3 => some r3)))
def fX8_entails (σ : St) (a1 : Int32) (a2 : Int32) : Option (Int32) :=
  bp (fX8_isClaim σ (a1.toInt64)) (fun r1 => if r1 = 0 then some (-2 : Int32) else bp (fX8_isClaim σ (a2.toInt64)) (fun r2 => if r2 = 0 then some (-2 : Int32) else bp (fX8_ofClaim σ a2 (2 : Int32)) (fun r3 => bp (fX8_ofClaim σ a1 (2 : Int32)) (fun r4 => if (r3 &&& (r4 ^^^ (-1 : Int32))) = 0 then some (1 : Int32) else some (0 : Int32)))))
def fX8_fillDuel_B19 (kr5 : St → Int32 → Option (St)) (kr19 : St → Int32 → Int32 → Option (St)) (σ : St) (x1 : Int32) (x2 : Int32) : Option (St) :=
  gd (ir (4 : Int32) 77) (if (σ.1 63 (4 : Int32).toNatClampNeg) ≤ x2 then lt (x1 + (-1)) (fun v1 => kr5 σ v1) else bp (fX8_goes σ x2 x1) (fun r2 => if r2 = 0 then lt (x2 + 1) (fun v3 => kr19 σ x1 v3) else gd (ir x1 4096) (bp (fX8_ofStep σ x2 (0 : Int32)) (fun r4 => gd (ir (x1 ||| ((1 : Int32) <<< (r4 &&& 31))) 4096) (bp (fX8_mine (σ.1 77 (x1 ||| ((1 : Int32) <<< (r4 &&& 31))).toNatClampNeg)) (fun r5 => gd (ir x1 4096) (lt (setI σ 77 x1.toNatClampNeg (if (σ.1 77 x1.toNatClampNeg) < r5 then r5 else (σ.1 77 x1.toNatClampNeg))) (fun σ6 => lt (x2 + 1) (fun v7 => kr19 σ6 x1 v7)))))))))
def fX8_fillDuel_l19 (kr5 : St → Int32 → Option (St)) : Nat → St → Int32 → Int32 → Option (St)
  | 0 => fun _ _ _ => none
  | n + 1 => fX8_fillDuel_B19 kr5 (fX8_fillDuel_l19 kr5 n)
def fX8_fillDuel_B5 (kr5 : St → Int32 → Option (St)) (σ : St) (x1 : Int32) : Option (St) :=
  if x1 < 0 then some σ else gd (ir x1 4096) (lt (setI σ 77 x1.toNatClampNeg (-100 : Int32)) (fun σ8 => lt (0 : Int32) (fun v9 => fX8_fillDuel_l19 kr5 FU σ8 x1 v9)))
def fX8_fillDuel_l5 : Nat → St → Int32 → Option (St)
  | 0 => fun _ _ => none
  | n + 1 => fX8_fillDuel_B5 (fX8_fillDuel_l5 n)
def fX8_fillDuel (σ : St) : Option (St) :=
  bp (fX8_allClaims σ) (fun r10 => lt r10 (fun v11 => fX8_fillDuel_l5 FU σ v11))
def fX8_goKitchen_B81 (kr81 : St → Int32 → Option (St)) (σ : St) (x1 : Int32) : Option (St) :=
  gd (ir x1 4) (if (σ.1 78 x1.toNatClampNeg) ≤ ((2 : Int32) * (σ.1 62 27)) then some σ else bp (fX8_numberAt σ x1 ((2 : Int32) * (σ.1 62 27))) (fun r1 => bp (fX8_numberAt σ x1 (((2 : Int32) * (σ.1 62 27)) + (1 : Int32))) (fun r2 => bs (fX8_cooks σ (r1.toInt32) (r2.toInt32)) (fun r3 σ4 => if r3 = 0 then some σ4 else lt (setI σ4 62 27 ((σ4.1 62 27) + (1 : Int32))) (fun σ5 => kr81 σ5 x1)))))
def fX8_goKitchen_l81 : Nat → St → Int32 → Option (St)
  | 0 => fun _ _ => none
  | n + 1 => fX8_goKitchen_B81 (fX8_goKitchen_l81 n)
def fX8_goKitchen_B46 (kr46 : St → Int32 → Int32 → Option (St)) (σ : St) (x1 : Int32) (x2 : Int32) : Option (St) :=
  if (5 : Int32) ≤ x2 then lt (setI σ 62 28 (0 : Int32)) (fun σ6 => lt (setI σ6 62 27 (0 : Int32)) (fun σ7 => fX8_goKitchen_l81 FU σ7 x1)) else gd (ir x2 5) (lt (setI σ 75 x2.toNatClampNeg (0 : Int32)) (fun σ8 => gd (ir x2 5) (lt (setI σ8 76 x2.toNatClampNeg (0 : Int32)) (fun σ9 => lt (x2 + 1) (fun v10 => kr46 σ9 x1 v10)))))
def fX8_goKitchen_l46 : Nat → St → Int32 → Int32 → Option (St)
  | 0 => fun _ _ _ => none
  | n + 1 => fX8_goKitchen_B46 (fX8_goKitchen_l46 n)
def fX8_goKitchen_b30 (kr2 : St → Int32 → Int32 → Option (St)) (σ : St) (x1 : Int32) (x2 : Int32) (y1 : Int32) (y2 : Int32) : Option (St) :=
  gd (ir y1 12) (lt (setI σ 73 y1.toNatClampNeg y2) (fun σ11 => gd (ir x2 12) (lt (setI σ11 74 x2.toNatClampNeg (0 : Int32)) (fun σ12 => lt (x2 + 1) (fun v13 => kr2 σ12 x1 v13)))))
def fX8_goKitchen_B2 (kr2 : St → Int32 → Int32 → Option (St)) (σ : St) (x1 : Int32) (x2 : Int32) : Option (St) :=
  if (12 : Int32) ≤ x2 then lt (0 : Int32) (fun v14 => fX8_goKitchen_l46 FU σ x1 v14) else bp (fX8_saltNow σ) (fun r15 => bp (fX8_bit r15 x2) (fun r16 => if r16 = (1 : Int32) then fX8_goKitchen_b30 kr2 σ x1 x2 x2 (0 : Int32) else fX8_goKitchen_b30 kr2 σ x1 x2 x2 (-1 : Int32)))
def fX8_goKitchen_l2 : Nat → St → Int32 → Int32 → Option (St)
  | 0 => fun _ _ _ => none
  | n + 1 => fX8_goKitchen_B2 (fX8_goKitchen_l2 n)
def fX8_goKitchen (σ : St) (a1 : Int32) : Option (St) :=
  lt (0 : Int32) (fun v17 => fX8_goKitchen_l2 FU σ a1 v17)
def fX8_guest (σ : St) (a1 : Int32) (a2 : Int32) : Option (Int32) :=
  bp (fX8_isGuest σ (a1.toInt64)) (fun r1 => if r1 = 0 then some (-2 : Int32) else bp (fX8_in (a2.toInt64) (0 : Int64) (2 : Int64)) (fun r2 => if r2 = 0 then some (-2 : Int32) else if (2 : Int32) ≤ a2 then bp (fX8_canDo σ a1) (fun r3 => some r3) else bp (fX8_ofGuest σ a1 a2) (fun r4 => some r4)))
def fX8_holds (σ : St) (a1 : Int32) : Option (Int32) :=
  bp (fX8_isClaim σ (a1.toInt64)) (fun r1 => if r1 = 0 then some (-2 : Int32) else bp (fX8_ofClaim σ a1 (2 : Int32)) (fun r2 => some r2))
def fX8_number_b47 (σ : St) : Option (Int32 × St) :=
  bp (fX8_good σ) (fun r1 => if r1 = 0 then some ((0 : Int32), σ) else lt (σ.1 62 11) (fun v2 => bp (fX8_advance σ) (fun σ3 => some (v2, σ3))))
def fX8_number_b20 (σ : St) (x1 : Int32) (x2 : Int32) : Option (Int32 × St) :=
  bp (fX8_good σ) (fun r4 => if r4 = 0 then fX8_number_b47 σ else bp (fX8_in ((σ.1 62 11).toInt64) (x1.toInt64) (x2.toInt64)) (fun r5 => if r5 = 0 then bp (fX8_errs σ (2 : Int32)) (fun σ6 => fX8_number_b47 σ6) else fX8_number_b47 σ))
def fX8_number (σ : St) (a1 : Int32) (a2 : Int32) : Option (Int32 × St) :=
  bp (fX8_good σ) (fun r7 => if r7 = 0 then fX8_number_b20 σ a1 a2 else if (σ.1 62 10) = (2 : Int32) then fX8_number_b20 σ a1 a2 else bp (fX8_errs σ (1 : Int32)) (fun σ8 => fX8_number_b20 σ8 a1 a2))
def fX8_outcome_b113 (kr33 : St → Int32 → Int32 → Int32 → Option (Int32 × St)) (σ : St) (x2 : Int32) (x4 : Int32) (y0 : Int32) (y1 : Int32) : Option (Int32 × St) :=
  lt (y0 ||| y1) (fun v1 => lt (x4 + 1) (fun v2 => kr33 σ x2 v1 v2))
def fX8_outcome_b112 (kr33 : St → Int32 → Int32 → Int32 → Option (Int32 × St)) (σ : St) (x2 : Int32) (x4 : Int32) (y0 : Int32) : Option (Int32 × St) :=
  fX8_outcome_b113 kr33 σ x2 x4 y0 (0 : Int32)
def fX8_outcome_b57 (kr33 : St → Int32 → Int32 → Int32 → Option (Int32 × St)) (σ : St) (x2 : Int32) (x3 : Int32) (x4 : Int32) (y0 : Int32) : Option (Int32 × St) :=
  lt y0 (fun v3 => gd (ir (((2 : Int32) <<< (x4 &&& 31)) + x3) 32) (lt (σ.1 72 (((2 : Int32) <<< (x4 &&& 31)) + x3).toNatClampNeg) (fun v4 => gd (ir (((2 : Int32) <<< (x4 &&& 31)) + (x3 ||| ((1 : Int32) <<< (x4 &&& 31)))) 32) (lt (σ.1 72 (((2 : Int32) <<< (x4 &&& 31)) + (x3 ||| ((1 : Int32) <<< (x4 &&& 31)))).toNatClampNeg) (fun v5 => if v4 = v5 then fX8_outcome_b112 kr33 σ x2 x4 x3 else if v5 = v3 then fX8_outcome_b113 kr33 σ x2 x4 x3 ((1 : Int32) <<< (x4 &&& 31)) else fX8_outcome_b112 kr33 σ x2 x4 x3)))))
def fX8_outcome_B33 (kr33 : St → Int32 → Int32 → Int32 → Option (Int32 × St)) (σ : St) (x2 : Int32) (x3 : Int32) (x4 : Int32) : Option (Int32 × St) :=
  gd (ir (0 : Int32) 77) (if (σ.1 63 (0 : Int32).toNatClampNeg) ≤ x4 then some (x3, σ) else gd (¬ (2 : Int32) = 0) (if (x4 - x4 / (2 : Int32) * (2 : Int32)) = x2 then fX8_outcome_b57 kr33 σ x2 x3 x4 (1 : Int32) else fX8_outcome_b57 kr33 σ x2 x3 x4 (0 : Int32)))
def fX8_outcome_l33 : Nat → St → Int32 → Int32 → Int32 → Option (Int32 × St)
  | 0 => fun _ _ _ _ => none
  | n + 1 => fX8_outcome_B33 (fX8_outcome_l33 n)
def fX8_outcome (σ : St) (a1 : Int32) (a2 : Int32) : Option (Int32 × St) :=
  bp (fX8_isClaim σ (a1.toInt64)) (fun r6 => if r6 = 0 then some ((-2 : Int32), σ) else bp (fX8_in (a2.toInt64) (0 : Int64) (1 : Int64)) (fun r7 => if r7 = 0 then some ((-2 : Int32), σ) else bp (fX8_fillDoubt σ a1 a2) (fun σ8 => lt (0 : Int32) (fun v9 => lt (0 : Int32) (fun v10 => fX8_outcome_l33 FU σ8 a2 v9 v10)))))
def fX8_paste_B150 (kr150 : St → Int32 → Int32 → Int32 → Int32 → Option (Int32 × St)) (σ : St) (x3 : Int32) (x4 : Int32) (x5 : Int32) (x6 : Int32) : Option (Int32 × St) :=
  if x5 ≤ x6 then some ((0 : Int32), σ) else gd (ir x6 60) (gd (ir ((((60 : Int32) * x3) + x4) + x6) 240) (lt (setL σ 80 ((((60 : Int32) * x3) + x4) + x6).toNatClampNeg (σ.2 81 x6.toNatClampNeg)) (fun σ1 => lt (x6 + 1) (fun v2 => kr150 σ1 x3 x4 x5 v2))))
def fX8_paste_l150 : Nat → St → Int32 → Int32 → Int32 → Int32 → Option (Int32 × St)
  | 0 => fun _ _ _ _ _ => none
  | n + 1 => fX8_paste_B150 (fX8_paste_l150 n)
def fX8_paste_B113 (kr113 : St → Int32 → Int32 → Int32 → Int32 → Int32 → Int32 → Option (Int32 × St)) (σ : St) (x1 : Int32) (x2 : Int32) (x3 : Int32) (x4 : Int32) (x5 : Int32) (x6 : Int32) : Option (Int32 × St) :=
  if x5 ≤ x6 then lt (0 : Int32) (fun v3 => fX8_paste_l150 FU σ x3 x4 x5 v3) else gd (ir ((((60 : Int32) * x1) + x2) + x6) 240) (gd (ir x6 60) (lt (setL σ 81 x6.toNatClampNeg (σ.2 80 ((((60 : Int32) * x1) + x2) + x6).toNatClampNeg)) (fun σ4 => lt (x6 + 1) (fun v5 => kr113 σ4 x1 x2 x3 x4 x5 v5))))
def fX8_paste_l113 : Nat → St → Int32 → Int32 → Int32 → Int32 → Int32 → Int32 → Option (Int32 × St)
  | 0 => fun _ _ _ _ _ _ _ => none
  | n + 1 => fX8_paste_B113 (fX8_paste_l113 n)
def fX8_paste (σ : St) (a1 : Int32) (a2 : Int32) (a3 : Int32) (a4 : Int32) (a5 : Int32) : Option (Int32 × St) :=
  bp (fX8_isSlot a1) (fun r6 => if r6 = 0 then some ((-2 : Int32), σ) else bp (fX8_isSlot a3) (fun r7 => if r7 = 0 then some ((-2 : Int32), σ) else gd (ir a1 4) (if (σ.1 78 a1.toNatClampNeg) = (-1 : Int32) then some ((-6 : Int32), σ) else gd (ir a3 4) (if (σ.1 78 a3.toNatClampNeg) = (-1 : Int32) then some ((-6 : Int32), σ) else gd (ir a1 4) (gd (ir a3 4) (if (σ.1 79 a1.toNatClampNeg) = (σ.1 79 a3.toNatClampNeg) then if a2 < 0 then some ((-7 : Int32), σ) else if a4 < 0 then some ((-7 : Int32), σ) else if a5 < 0 then some ((-7 : Int32), σ) else gd (ir a1 4) (if 0 < (lg_cmp ((a2.toInt64) + (a5.toInt64)) ((σ.1 78 a1.toNatClampNeg).toInt64)) then some ((-7 : Int32), σ) else gd (ir a3 4) (if (lg_cmp ((a4.toInt64) + (a5.toInt64)) ((σ.1 78 a3.toNatClampNeg).toInt64)) ≤ 0 then lt (0 : Int32) (fun v8 => fX8_paste_l113 FU σ a1 a2 a3 a4 a5 v8) else some ((-7 : Int32), σ))) else some ((-8 : Int32), σ)))))))
def fX8_provedBy_B16 (σ : St) (kr5 : Int32 → Int32 → Int32 → Option (Int32)) (kr16 : Int32 → Int32 → Int32 → Int32 → Option (Int32)) (x2 : Int32) (x3 : Int32) (x4 : Int32) (x5 : Int32) : Option (Int32) :=
  gd (ir (4 : Int32) 77) (if (σ.1 63 (4 : Int32).toNatClampNeg) ≤ x5 then kr5 x2 x3 x4 else bp (fX8_bit x2 x5) (fun r1 => if r1 = 0 then lt (x5 + 1) (fun v2 => kr16 x2 x3 x4 v2) else bp (fX8_goes σ x5 x3) (fun r3 => if r3 = 0 then lt (x5 + 1) (fun v8 => kr16 x2 x3 x4 v8) else bp (fX8_ofStep σ x5 (0 : Int32)) (fun r4 => lt (x3 ||| ((1 : Int32) <<< (r4 &&& 31))) (fun v5 => lt (1 : Int32) (fun v6 => lt (x5 + 1) (fun v7 => kr16 x2 v5 v6 v7)))))))
def fX8_provedBy_l16 (σ : St) (kr5 : Int32 → Int32 → Int32 → Option (Int32)) : Nat → Int32 → Int32 → Int32 → Int32 → Option (Int32)
  | 0 => fun _ _ _ _ => none
  | n + 1 => fX8_provedBy_B16 σ kr5 (fX8_provedBy_l16 σ kr5 n)
def fX8_provedBy_B5 (σ : St) (kr5 : Int32 → Int32 → Int32 → Option (Int32)) (x2 : Int32) (x3 : Int32) (x4 : Int32) : Option (Int32) :=
  if x4 = 0 then some x3 else lt (0 : Int32) (fun v9 => lt (0 : Int32) (fun v10 => fX8_provedBy_l16 σ kr5 FU x2 x3 v9 v10))
def fX8_provedBy_l5 (σ : St) : Nat → Int32 → Int32 → Int32 → Option (Int32)
  | 0 => fun _ _ _ => none
  | n + 1 => fX8_provedBy_B5 σ (fX8_provedBy_l5 σ n)
def fX8_provedBy (σ : St) (a1 : Int32) (a2 : Int32) : Option (Int32) :=
  lt a1 (fun v11 => lt (1 : Int32) (fun v12 => fX8_provedBy_l5 σ FU a2 v11 v12))
def fX8_readRow_B13 (kr13 : St → Int32 → Option (St)) (σ : St) (x1 : Int32) : Option (St) :=
  gd (ir x1 4) (if (σ.1 78 x1.toNatClampNeg) ≤ (σ.1 62 19) then some σ else bp (fX8_numberAt σ x1 (σ.1 62 19)) (fun r1 => bp (fX8_goes σ (r1.toInt32) (σ.1 62 20)) (fun r2 => if r2 = 0 then some σ else bp (fX8_numberAt σ x1 (σ.1 62 19)) (fun r3 => bp (fX8_ofStep σ (r3.toInt32) (0 : Int32)) (fun r4 => lt (setI σ 62 20 ((σ.1 62 20) ||| ((1 : Int32) <<< (r4 &&& 31)))) (fun σ5 => lt (setI σ5 62 19 ((σ5.1 62 19) + (1 : Int32))) (fun σ6 => kr13 σ6 x1)))))))
def fX8_readRow_l13 : Nat → St → Int32 → Option (St)
  | 0 => fun _ _ => none
  | n + 1 => fX8_readRow_B13 (fX8_readRow_l13 n)
def fX8_readRow (σ : St) (a1 : Int32) : Option (St) :=
  bp (fX8_saltNow σ) (fun r7 => lt (setI σ 62 20 r7) (fun σ8 => lt (setI σ8 62 19 (0 : Int32)) (fun σ9 => fX8_readRow_l13 FU σ9 a1)))
def fX8_row_B52 (kr52 : St → Int32 → Int32 → Option (Int32 × St)) (σ : St) (x1 : Int32) (x4 : Int32) : Option (Int32 × St) :=
  if (60 : Int32) ≤ x4 then some ((0 : Int32), σ) else gd (ir (((60 : Int32) * x1) + x4) 240) (lt (setL σ 80 (((60 : Int32) * x1) + x4).toNatClampNeg (0 : Int64)) (fun σ1 => lt (x4 + 1) (fun v2 => kr52 σ1 x1 v2)))
def fX8_row_l52 : Nat → St → Int32 → Int32 → Option (Int32 × St)
  | 0 => fun _ _ _ => none
  | n + 1 => fX8_row_B52 (fX8_row_l52 n)
def fX8_row (σ : St) (a1 : Int32) (a2 : Int32) (a3 : Int32) : Option (Int32 × St) :=
  bp (fX8_isSlot a1) (fun r3 => if r3 = 0 then some ((-2 : Int32), σ) else bp (fX8_in (a2.toInt64) (0 : Int64) (3 : Int64)) (fun r4 => if r4 = 0 then some ((-2 : Int32), σ) else if a3 ≤ (60 : Int32) then if 0 ≤ a3 then gd (ir a1 4) (lt (setI σ 78 a1.toNatClampNeg a3) (fun σ5 => gd (ir a1 4) (lt (setI σ5 79 a1.toNatClampNeg a2) (fun σ6 => lt (0 : Int32) (fun v7 => fX8_row_l52 FU σ6 a1 v7))))) else some ((-3 : Int32), σ) else some ((-2 : Int32), σ)))
def fX8_salt (σ : St) (a1 : Int32) (a2 : Int32) : Option (Int32 × St) :=
  bp (fX8_isClaim σ (a1.toInt64)) (fun r1 => if r1 = 0 then some ((-2 : Int32), σ) else bp (fX8_in (a2.toInt64) (0 : Int64) (1 : Int64)) (fun r2 => if r2 = 0 then some ((-2 : Int32), σ) else bp (fX8_ofClaim σ a1 (1 : Int32)) (fun r3 => lt r3 (fun v4 => gd (ir (((7 : Int32) + ((3 : Int32) * a1)) + (1 : Int32)) 77) (lt (setI σ 63 (((7 : Int32) + ((3 : Int32) * a1)) + (1 : Int32)).toNatClampNeg a2) (fun σ5 => some (v4, σ5)))))))
def fX8_saltedBy_b40 (σ : St) (kr7 : Int32 → Int32 → Int32 → Option (Int32)) (x1 : Int32) (x3 : Int32) (y0 : Int32) (y1 : Int32) : Option (Int32) :=
  lt (y0 &&& y1) (fun v1 => lt (x3 + 1) (fun v2 => kr7 x1 v1 v2))
def fX8_saltedBy_B7 (σ : St) (kr7 : Int32 → Int32 → Int32 → Option (Int32)) (x1 : Int32) (x2 : Int32) (x3 : Int32) : Option (Int32) :=
  gd (ir (3 : Int32) 77) (if (σ.1 63 (3 : Int32).toNatClampNeg) ≤ x3 then some x2 else bp (fX8_bit x1 x3) (fun r3 => if r3 = (1 : Int32) then bp (fX8_ofClaim σ x3 (2 : Int32)) (fun r5 => fX8_saltedBy_b40 σ kr7 x1 x3 x2 r5) else bp (fX8_allWorlds σ) (fun r4 => fX8_saltedBy_b40 σ kr7 x1 x3 x2 r4)))
def fX8_saltedBy_l7 (σ : St) : Nat → Int32 → Int32 → Int32 → Option (Int32)
  | 0 => fun _ _ _ => none
  | n + 1 => fX8_saltedBy_B7 σ (fX8_saltedBy_l7 σ n)
def fX8_saltedBy (σ : St) (a1 : Int32) : Option (Int32) :=
  bp (fX8_allWorlds σ) (fun r6 => lt r6 (fun v7 => lt (0 : Int32) (fun v8 => fX8_saltedBy_l7 σ FU a1 v7 v8)))
def fX8_strengthOf_b33 (σ : St) (kr4 : Int32 → Int32 → Int32 → Option (Int32)) (x1 : Int32) (x3 : Int32) (y0 : Int32) (y1 : Int32) : Option (Int32) :=
  lt (y0 + y1) (fun v1 => lt (x3 + 1) (fun v2 => kr4 x1 v1 v2))
def fX8_strengthOf_B4 (σ : St) (kr4 : Int32 → Int32 → Int32 → Option (Int32)) (x1 : Int32) (x2 : Int32) (x3 : Int32) : Option (Int32) :=
  gd (ir (5 : Int32) 77) (if (σ.1 63 (5 : Int32).toNatClampNeg) ≤ x3 then some x2 else bp (fX8_bit x1 x3) (fun r3 => if r3 = (1 : Int32) then bp (fX8_canDo σ x3) (fun r4 => fX8_strengthOf_b33 σ kr4 x1 x3 x2 r4) else fX8_strengthOf_b33 σ kr4 x1 x3 x2 (0 : Int32)))
def fX8_strengthOf_l4 (σ : St) : Nat → Int32 → Int32 → Int32 → Option (Int32)
  | 0 => fun _ _ _ => none
  | n + 1 => fX8_strengthOf_B4 σ (fX8_strengthOf_l4 σ n)
def fX8_strengthOf (σ : St) (a1 : Int32) : Option (Int32) :=
  lt (0 : Int32) (fun v5 => lt (0 : Int32) (fun v6 => fX8_strengthOf_l4 σ FU a1 v5 v6))
def fX8_teach (σ : St) (a1 : Int32) (a2 : Int32) (a3 : Int32) : Option (Int32 × St) :=
  bp (fX8_isGuest σ (a1.toInt64)) (fun r1 => if r1 = 0 then some ((-2 : Int32), σ) else bp (fX8_isStep σ (a2.toInt64)) (fun r2 => if r2 = 0 then some ((-2 : Int32), σ) else bp (fX8_in (a3.toInt64) (0 : Int64) (1 : Int64)) (fun r3 => if r3 = 0 then some ((-2 : Int32), σ) else lt (((67 : Int32) + ((2 : Int32) * a1)) + (1 : Int32)) (fun v4 => gd (ir v4 77) (bp (fX8_bit (σ.1 63 v4.toNatClampNeg) a2) (fun r5 => lt r5 (fun v6 => gd (ir v4 77) (gd (ir v4 77) (lt (setI σ 63 v4.toNatClampNeg (((σ.1 63 v4.toNatClampNeg) &&& (((1 : Int32) <<< (a2 &&& 31)) ^^^ (-1 : Int32))) ||| (a3 <<< (a2 &&& 31)))) (fun σ7 => some (v6, σ7)))))))))))
def fX8_write (σ : St) (a1 : Int32) (a2 : Int32) (a3 : Int64) : Option (Int32 × St) :=
  bp (fX8_isSlot a1) (fun r1 => if r1 = 0 then some ((-2 : Int32), σ) else gd (ir a1 4) (if (σ.1 78 a1.toNatClampNeg) = (-1 : Int32) then some ((-6 : Int32), σ) else gd (ir a1 4) (bp (fX8_in (a2.toInt64) (0 : Int64) (((σ.1 78 a1.toNatClampNeg) - (1 : Int32)).toInt64)) (fun r2 => if r2 = 0 then some ((-7 : Int32), σ) else gd (ir a1 4) (bp (fX8_cut a3 (σ.1 79 a1.toNatClampNeg)) (fun r3 => gd (ir (((60 : Int32) * a1) + a2) 240) (lt (setL σ 80 (((60 : Int32) * a1) + a2).toNatClampNeg r3) (fun σ4 => some ((0 : Int32), σ4)))))))))
def fX7_ask_B35 (σ : St) (kr35 : Int32 → Int32 → Int32 → Option (Int32)) (x1 : Int32) (x2 : Int32) (x3 : Int32) : Option (Int32) :=
  if (σ.1 3 4) ≤ x3 then some x1 else bp (fX6_leftAtWorst σ 3 x3) (fun r1 => lt r1 (fun v2 => if x2 ≤ v2 then lt (x3 + 1) (fun v3 => kr35 x1 x2 v3) else lt x3 (fun v4 => lt v2 (fun v5 => lt (x3 + 1) (fun v6 => kr35 v4 v5 v6)))))
def fX7_ask_l35 (σ : St) : Nat → Int32 → Int32 → Int32 → Option (Int32)
  | 0 => fun _ _ _ => none
  | n + 1 => fX7_ask_B35 σ (fX7_ask_l35 σ n)
def fX7_ask (σ : St) : Option (Int32) :=
  bp (fX6_isTold σ 3) (fun r7 => if r7 = 0 then some (-2 : Int32) else lt (-1 : Int32) (fun v8 => bp (fX6_worldsOf σ 3 (σ.1 3 7)) (fun r9 => bp (fJ6_bitCount_0f7a4 r9) (fun r10 => lt r10 (fun v11 => lt (0 : Int32) (fun v12 => fX7_ask_l35 σ FU v8 v11 v12))))))
def fX7_coreSet (σ : St) : Option (Int32 × St) :=
  bp (fX5_fillWithRuledOut σ 51 3) (fun σ1 => bp (fX6_allWorlds σ1 3) (fun r2 => bp (fX5_leastSet σ1 51 (σ1.1 3 7) r2) (fun r3 => some (r3, σ1))))
def fX7_eats_b21 (σ : St) (x1 : Int32) (x2 : Int32) (y0 : Int32) : Option (Int32) :=
  lt y0 (fun v1 => if v1 = 0 then gd (ir x1 4) (lt (rowp x1.toNatClampNeg) (fun k2 => bp (fX3_worthEaten σ 3 k2 x2) (fun r3 => some r3))) else if v1 = (-6 : Int32) then some (-600 : Int32) else some (-100 : Int32))
def fX7_eats (σ : St) (a1 : Int32) (a2 : Int32) : Option (Int32) :=
  bp (fX6_hasGuest σ 3 a2) (fun r4 => if r4 = 0 then fX7_eats_b21 σ a1 a2 (-2 : Int32) else bp (fX7_refusalOfSteps σ a1) (fun r5 => fX7_eats_b21 σ a1 a2 r5))
def fX7_falsity (σ : St) (a1 : Int32) : Option (Int32) :=
  bp (fX6_hasStep σ 3 a1) (fun r1 => if r1 = 0 then some (-2 : Int32) else bp (fX6_falseWorlds σ 3 a1) (fun r2 => bp (fX7_lowestBit r2) (fun r3 => some r3)))
def fX7_follows (σ : St) (a1 : Int32) : Option (Int32) :=
  bp (fX6_hasClaim σ 3 a1) (fun r1 => if r1 = 0 then some (-2 : Int32) else bp (fX6_followsFrom σ 3 (σ.1 3 7) a1) (fun r2 => bp (fX7_bit r2) (fun r3 => some r3)))
def fX7_freshProofs (σ : St) : Option (St) :=
  if (σ.1 0 7) = 0 then some σ else bp (fX6_allSteps σ 3) (fun r1 => bp (fX5_fillWithProofs σ 49 3 r1 (σ.1 3 7)) (fun σ2 => gd ((0 : Int32) = 0 ∨ (0 : Int32) = 1) (lt (setI σ2 0 7 (0 : Int32)) (fun σ3 => some σ3))))
def fX7_idle_b48 (σ : St) (kr17 : Int32 → Int32 → Option (Int32)) (x1 : Int32) (x2 : Int32) (y0 : Int32) : Option (Int32) :=
  lt y0 (fun v1 => if v1 = 0 then lt (x2 + 1) (fun v2 => kr17 x1 v2) else bp (fX6_followsFrom σ 3 ((σ.1 3 7) &&& (((1 : Int32) <<< (x2 &&& 31)) ^^^ (-1 : Int32))) x2) (fun r3 => if r3 = 0 then lt (x2 + 1) (fun v4 => kr17 x1 v4) else lt (x1 ||| ((1 : Int32) <<< (x2 &&& 31))) (fun v5 => lt (x2 + 1) (fun v6 => kr17 v5 v6))))
def fX7_idle_B17 (σ : St) (kr17 : Int32 → Int32 → Option (Int32)) (x1 : Int32) (x2 : Int32) : Option (Int32) :=
  if (σ.1 3 4) ≤ x2 then some x1 else if (((σ.1 3 7) >>> (x2 &&& 31)) &&& (1 : Int32)) = (1 : Int32) then fX7_idle_b48 σ kr17 x1 x2 (1 : Int32) else fX7_idle_b48 σ kr17 x1 x2 (0 : Int32)
def fX7_idle_l17 (σ : St) : Nat → Int32 → Int32 → Option (Int32)
  | 0 => fun _ _ => none
  | n + 1 => fX7_idle_B17 σ (fX7_idle_l17 σ n)
def fX7_idle (σ : St) : Option (Int32) :=
  bp (fX6_isTold σ 3) (fun r7 => if r7 = 0 then some (-2 : Int32) else lt (0 : Int32) (fun v8 => lt (0 : Int32) (fun v9 => fX7_idle_l17 σ FU v8 v9)))
def fX7_leastSaltFor (σ : St) (a1 : Int32) : Option (Int32 × St) :=
  bp (fX5_fillWithSaltProofs σ 51 3) (fun σ1 => bp (fX5_leastSet σ1 51 (σ1.1 3 7) a1) (fun r2 => some (r2, σ1)))
def fX7_reached (σ : St) (a1 : Int32) : Option (Int32 × St) :=
  bp (fX7_refusalOfSteps σ a1) (fun r1 => lt r1 (fun v2 => if v2 = 0 then gd (ir a1 4) (lt (rowp a1.toNatClampNeg) (fun k3 => bp (fX3_read σ 3 k3) (fun σ4 => some ((σ4.1 53 2), σ4)))) else some (v2, σ)))
def fX7_reads (σ : St) (a1 : Int32) : Option (Int32 × St) :=
  bp (fX7_refusalOfSteps σ a1) (fun r1 => lt r1 (fun v2 => if v2 = 0 then gd (ir a1 4) (lt (rowp a1.toNatClampNeg) (fun k3 => bp (fX3_read σ 3 k3) (fun σ4 => some ((σ4.1 53 0), σ4)))) else some (v2, σ)))
def fX7_step_b76 (σ : St) (y0 : Int32) : Option (Int32) :=
  bp (fX7_bit y0) (fun r1 => some r1)
def fX7_step (σ : St) (a1 : Int32) (a2 : Int32) : Option (Int32) :=
  bp (fX6_hasStep σ 3 a1) (fun r2 => if r2 = 0 then some (-2 : Int32) else if a2 = 0 then gd (ir a1 12) (some (σ.1 (3 + 3) a1.toNatClampNeg)) else if a2 = 1 then gd (ir a1 12) (some (σ.1 (3 + 4) a1.toNatClampNeg)) else if a2 = 2 then bp (fX6_falseWorlds σ 3 a1) (fun r3 => if r3 = 0 then fX7_step_b76 σ (1 : Int32) else fX7_step_b76 σ (0 : Int32)) else some (-2 : Int32))
def fX7_used_b21 (σ : St) (x1 : Int32) (x2 : Int32) (y0 : Int32) : Option (Int32 × St) :=
  lt y0 (fun v1 => if v1 = 0 then gd (ir x1 4) (lt (rowp x1.toNatClampNeg) (fun k2 => bp (fX3_read σ 3 k2) (fun σ3 => gd (ir x2 12) (some ((σ3.1 54 x2.toNatClampNeg), σ3))))) else some (v1, σ))
def fX7_used (σ : St) (a1 : Int32) (a2 : Int32) : Option (Int32 × St) :=
  bp (fX6_hasClaim σ 3 a2) (fun r4 => if r4 = 0 then fX7_used_b21 σ a1 a2 (-2 : Int32) else bp (fX7_refusalOfSteps σ a1) (fun r5 => fX7_used_b21 σ a1 a2 r5))
def fX7_why (σ : St) (a1 : Int32) : Option (Int32 × St) :=
  bp (fX7_refusalOfSteps σ a1) (fun r1 => lt r1 (fun v2 => if v2 = 0 then gd (ir a1 4) (lt (rowp a1.toNatClampNeg) (fun k3 => bp (fX3_read σ 3 k3) (fun σ4 => some ((σ4.1 53 1), σ4)))) else some (v2, σ)))
def fX7_worthWithLemma (σ : St) (a1 : Int32) (a2 : Int32) : Option (Int32 × St) :=
  lt ((σ.1 3 7) ||| ((1 : Int32) <<< (a2 &&& 31))) (fun v1 => gd (ir a1 5) (lt (σ.1 (3 + 6) a1.toNatClampNeg) (fun v2 => bp (fX5_fillWithProofs σ 51 3 v2 v1) (fun σ3 => bp (fX6_canDo σ3 3 a1) (fun r4 => bp (fX5_menuSet σ3 51 3 v2 r4) (fun r5 => lt r5 (fun v6 => gd (ir v6 4096) (bp (fX6_worthOf σ3 3 ((σ3.1 (51 + 1) v6.toNatClampNeg) &&& (v1 ^^^ (-1 : Int32)))) (fun r7 => some (r7, σ3))))))))))
def fX1_cook_B10 (t : Nat) (w : Nat) (kr10 : St → Int32 → Int32 → Option (St)) (σ : St) (x3 : Int32) (x4 : Int32) : Option (St) :=
  if (σ.1 w 2) ≤ (x4 + (1 : Int32)) then some σ else if x3 = 0 then some σ else gd (ir x4 60) (gd (ir (x4 + (1 : Int32)) 60) (bs (fX1_cookPair σ t ((σ.2 (w + 1) x4.toNatClampNeg).toInt32) ((σ.2 (w + 1) (x4 + (1 : Int32)).toNatClampNeg).toInt32)) (fun r1 σ2 => lt r1 (fun v3 => lt (x4 + 2) (fun v4 => kr10 σ2 v3 v4)))))
def fX1_cook_l10 (t : Nat) (w : Nat) : Nat → St → Int32 → Int32 → Option (St)
  | 0 => fun _ _ _ => none
  | n + 1 => fX1_cook_B10 t w (fX1_cook_l10 t w n)
def fX1_cook (σ : St) (t : Nat) (w : Nat) : Option (St) :=
  bp (fX1_open σ t) (fun σ5 => lt (1 : Int32) (fun v6 => lt (0 : Int32) (fun v7 => fX1_cook_l10 t w FU σ5 v6 v7)))
def fX2_readSalt_b36 (t : Nat) (σ : St) : Option (Int32 × St) :=
  bs (fX2_readNumber σ (0 : Int32) ((σ.1 t 4) - (1 : Int32))) (fun r1 σ2 => lt r1 (fun v3 => if v3 = (-1 : Int32) then gd ((0 : Int32) = 0 ∨ (0 : Int32) = 1) (some ((0 : Int32), σ2)) else lt (setI σ2 t 7 ((σ2.1 t 7) ||| ((1 : Int32) <<< (v3 &&& 31)))) (fun σ4 => gd ((1 : Int32) = 0 ∨ (1 : Int32) = 1) (some ((1 : Int32), σ4)))))
def fX2_readSalt (σ : St) (t : Nat) : Option (Int32 × St) :=
  bp (fX2_advance σ) (fun σ5 => bp (fX2_isNumberOf σ5 (σ5.1 t 4)) (fun r6 => if r6 = 0 then fX2_readSalt_b36 t σ5 else if (((σ5.1 t 7) >>> ((σ5.1 1 7) &&& 31)) &&& (1 : Int32)) = (1 : Int32) then bs (fX2_fail σ5 (2 : Int32)) (fun r7 σ8 => gd (r7 = 0 ∨ r7 = 1) (some (r7, σ8))) else fX2_readSalt_b36 t σ5))
def fX2_readSet_b57 (kr5 : St → Int32 → Int32 → Int32 → Int32 → Option (Int32 × St)) (σ : St) (x1 : Int32) (x2 : Int32) (x3 : Int32) (x4 : Int32) : Option (Int32 × St) :=
  bs (fX2_readNumber σ (0 : Int32) (x1 - (1 : Int32))) (fun r1 σ2 => lt r1 (fun v3 => if v3 = (-1 : Int32) then some ((-1 : Int32), σ2) else lt (x3 ||| ((1 : Int32) <<< (v3 &&& 31))) (fun v4 => lt (x4 + 1) (fun v5 => kr5 σ2 x1 x2 v4 v5))))
def fX2_readSet_b26 (kr5 : St → Int32 → Int32 → Int32 → Int32 → Option (Int32 × St)) (σ : St) (x1 : Int32) (x2 : Int32) (x3 : Int32) (x4 : Int32) : Option (Int32 × St) :=
  bp (fX2_isNumberOf σ x1) (fun r6 => if r6 = 0 then fX2_readSet_b57 kr5 σ x1 x2 x3 x4 else bp (fJ6_bitCount_0f7a4 (x3 ||| ((1 : Int32) <<< ((σ.1 1 7) &&& 31)))) (fun r7 => if r7 ≤ x2 then fX2_readSet_b57 kr5 σ x1 x2 x3 x4 else bs (fX2_fail σ (3 : Int32)) (fun r8 σ9 => some ((-1 : Int32), σ9))))
def fX2_readSet_B5 (kr5 : St → Int32 → Int32 → Int32 → Int32 → Option (Int32 × St)) (σ : St) (x1 : Int32) (x2 : Int32) (x3 : Int32) (x4 : Int32) : Option (Int32 × St) :=
  if (1600 : Int32) ≤ x4 then some (x3, σ) else if x4 = 0 then fX2_readSet_b26 kr5 σ x1 x2 x3 x4 else if (σ.1 1 4) = (2 : Int32) then fX2_readSet_b26 kr5 σ x1 x2 x3 x4 else some (x3, σ)
def fX2_readSet_l5 : Nat → St → Int32 → Int32 → Int32 → Int32 → Option (Int32 × St)
  | 0 => fun _ _ _ _ _ => none
  | n + 1 => fX2_readSet_B5 (fX2_readSet_l5 n)
def fX2_readSet (σ : St) (a1 : Int32) (a2 : Int32) : Option (Int32 × St) :=
  lt (0 : Int32) (fun v10 => lt (0 : Int32) (fun v11 => fX2_readSet_l5 FU σ a1 a2 v10 v11))
def fX8_borrowed_B37 (σ : St) (kr37 : Int32 → Int32 → Int32 → Option (Int32)) (x1 : Int32) (x4 : Int32) (x5 : Int32) : Option (Int32) :=
  gd (ir x1 4) (if (σ.1 78 x1.toNatClampNeg) ≤ x5 then some (-1 : Int32) else bp (fX8_numberAt σ x1 x5) (fun r1 => bp (fX8_bit x4 (r1.toInt32)) (fun r2 => if r2 = 0 then bp (fX8_numberAt σ x1 x5) (fun r4 => some (r4.toInt32)) else lt (x5 + 1) (fun v3 => kr37 x1 x4 v3))))
def fX8_borrowed_l37 (σ : St) : Nat → Int32 → Int32 → Int32 → Option (Int32)
  | 0 => fun _ _ _ => none
  | n + 1 => fX8_borrowed_B37 σ (fX8_borrowed_l37 σ n)
def fX8_borrowed (σ : St) (a1 : Int32) (a2 : Int32) : Option (Int32) :=
  bp (fX8_isGuest σ (a2.toInt64)) (fun r5 => bp (fX8_asksEaten σ a1 r5) (fun r6 => lt r6 (fun v7 => if 0 ≤ v7 then bp (fX8_saltNow σ) (fun r8 => bp (fX8_ofGuest σ a2 (1 : Int32)) (fun r9 => bp (fX8_provedBy σ r8 r9) (fun r10 => lt r10 (fun v11 => lt (0 : Int32) (fun v12 => fX8_borrowed_l37 σ FU a1 v11 v12))))) else some v7)))
def fX8_busy_b26 (σ : St) (x1 : Int32) (x2 : Int32) (x3 : Int32) (y1 : Int32) (y2 : Int32) : Option (Int32 × St) :=
  bp (fX8_asksKitchen σ y1 y2) (fun r1 => lt r1 (fun v2 => if 0 ≤ v2 then bp (fX8_goKitchen σ x1) (fun σ3 => if x3 = 0 then gd (ir x2 5) (some ((σ3.1 76 x2.toNatClampNeg), σ3)) else gd (ir x2 5) (gd (ir x2 5) (some (((σ3.1 75 x2.toNatClampNeg) - (σ3.1 76 x2.toNatClampNeg)), σ3)))) else some (v2, σ)))
def fX8_busy_b25 (σ : St) (x1 : Int32) (x2 : Int32) (x3 : Int32) (y1 : Int32) : Option (Int32 × St) :=
  fX8_busy_b26 σ x1 x2 x3 y1 (0 : Int32)
def fX8_busy (σ : St) (a1 : Int32) (a2 : Int32) (a3 : Int32) : Option (Int32 × St) :=
  bp (fX8_isGuest σ (a2.toInt64)) (fun r4 => if r4 = 0 then fX8_busy_b25 σ a1 a2 a3 a1 else bp (fX8_in (a3.toInt64) (0 : Int64) (1 : Int64)) (fun r5 => if r5 = 0 then fX8_busy_b25 σ a1 a2 a3 a1 else fX8_busy_b26 σ a1 a2 a3 a1 (1 : Int32)))
def fX8_coreOf_b38 (σ : St) (kr9 : Int32 → Int32 → Int32 → Option (Int32)) (x1 : Int32) (x2 : Int32) (x3 : Int32) : Option (Int32) :=
  bp (fX8_saltedBy σ x3) (fun r1 => if r1 = 0 then lt x3 (fun v3 => lt (x3 + 1) (fun v4 => kr9 x1 v3 v4)) else lt (x3 + 1) (fun v2 => kr9 x1 x2 v2))
def fX8_coreOf_B9 (σ : St) (kr9 : Int32 → Int32 → Int32 → Option (Int32)) (x1 : Int32) (x2 : Int32) (x3 : Int32) : Option (Int32) :=
  if x1 < x3 then some x2 else if (x3 &&& (x1 ^^^ (-1 : Int32))) = 0 then if x2 = (-1 : Int32) then fX8_coreOf_b38 σ kr9 x1 x2 x3 else bp (fX8_bits x3) (fun r6 => bp (fX8_bits x2) (fun r7 => if r7 ≤ r6 then lt (x3 + 1) (fun v8 => kr9 x1 x2 v8) else fX8_coreOf_b38 σ kr9 x1 x2 x3)) else lt (x3 + 1) (fun v5 => kr9 x1 x2 v5)
def fX8_coreOf_l9 (σ : St) : Nat → Int32 → Int32 → Int32 → Option (Int32)
  | 0 => fun _ _ _ => none
  | n + 1 => fX8_coreOf_B9 σ (fX8_coreOf_l9 σ n)
def fX8_coreOf (σ : St) : Option (Int32) :=
  bp (fX8_saltNow σ) (fun r9 => lt r9 (fun v10 => lt (-1 : Int32) (fun v11 => lt (0 : Int32) (fun v12 => fX8_coreOf_l9 σ FU v10 v11 v12))))
def fX8_duel (σ : St) : Option (Int32 × St) :=
  bp (fX8_isTable σ) (fun r1 => if r1 = 0 then some ((-2 : Int32), σ) else bp (fX8_fillDuel σ) (fun σ2 => bp (fX8_saltNow σ2) (fun r3 => gd (ir r3 4096) (if (σ2.1 77 r3.toNatClampNeg) ≤ 0 then some ((0 : Int32), σ2) else some ((1 : Int32), σ2)))))
def fX8_eats_B50 (σ : St) (kr50 : Int32 → Int32 → Int32 → Int32 → Int32 → Int32 → Option (Int32)) (x1 : Int32) (x2 : Int32) (x4 : Int32) (x5 : Int32) (x6 : Int32) (x7 : Int32) : Option (Int32) :=
  gd (ir x1 4) (if (σ.1 78 x1.toNatClampNeg) ≤ x7 then some x5 else bp (fX8_numberAt σ x1 x7) (fun r1 => lt (r1.toInt32) (fun v2 => bp (fX8_goes σ v2 x4) (fun r3 => if r3 = 0 then some x5 else bp (fX8_ofGuest σ x2 (1 : Int32)) (fun r4 => bp (fX8_bit r4 v2) (fun r5 => if r5 = 0 then some x5 else if x6 = 0 then some x5 else bp (fX8_ofStep σ v2 (0 : Int32)) (fun r6 => lt (x4 ||| ((1 : Int32) <<< (r6 &&& 31))) (fun v7 => bp (fX8_ofStep σ v2 (0 : Int32)) (fun r8 => bp (fX8_ofClaim σ r8 (0 : Int32)) (fun r9 => lt (x5 + r9) (fun v10 => lt (x6 + (-1)) (fun v11 => lt (x7 + 1) (fun v12 => kr50 x1 x2 v7 v10 v11 v12)))))))))))))
def fX8_eats_l50 (σ : St) : Nat → Int32 → Int32 → Int32 → Int32 → Int32 → Int32 → Option (Int32)
  | 0 => fun _ _ _ _ _ _ => none
  | n + 1 => fX8_eats_B50 σ (fX8_eats_l50 σ n)
def fX8_eats (σ : St) (a1 : Int32) (a2 : Int32) : Option (Int32) :=
  bp (fX8_isGuest σ (a2.toInt64)) (fun r13 => bp (fX8_asksRow σ a1 r13) (fun r14 => lt r14 (fun v15 => if 0 ≤ v15 then bp (fX8_saltNow σ) (fun r16 => lt r16 (fun v17 => lt (0 : Int32) (fun v18 => bp (fX8_canDo σ a2) (fun r19 => lt r19 (fun v20 => lt (0 : Int32) (fun v21 => fX8_eats_l50 σ FU a1 a2 v17 v18 v20 v21)))))) else if v15 = (-6 : Int32) then some (-600 : Int32) else some (-100 : Int32))))
def fX8_falseIn (σ : St) (a1 : Int32) : Option (Int32) :=
  bp (fX8_ofStep σ a1 (1 : Int32)) (fun r1 => bp (fX8_saltedBy σ r1) (fun r2 => bp (fX8_ofStep σ a1 (0 : Int32)) (fun r3 => bp (fX8_ofClaim σ r3 (2 : Int32)) (fun r4 => some (r2 &&& (r4 ^^^ (-1 : Int32)))))))
def fX8_fewestSteps_b46 (σ : St) (kr6 : Int32 → Int32 → Int32 → Int32 → Int32 → Option (Int32)) (x1 : Int32) (x2 : Int32) (x3 : Int32) (x4 : Int32) (x5 : Int32) : Option (Int32) :=
  bp (fX8_provedBy σ x1 x5) (fun r1 => if (x3 &&& (r1 ^^^ (-1 : Int32))) = 0 then lt x5 (fun v4 => lt (x5 + 1) (fun v5 => kr6 x1 x2 x3 v4 v5)) else lt x4 (fun v2 => lt (x5 + 1) (fun v3 => kr6 x1 x2 x3 v2 v3)))
def fX8_fewestSteps_B6 (σ : St) (kr6 : Int32 → Int32 → Int32 → Int32 → Int32 → Option (Int32)) (x1 : Int32) (x2 : Int32) (x3 : Int32) (x4 : Int32) (x5 : Int32) : Option (Int32) :=
  bp (fX8_allSteps σ) (fun r6 => if r6 < x5 then some x4 else if (x5 &&& (x2 ^^^ (-1 : Int32))) = 0 then if x4 = (-1 : Int32) then fX8_fewestSteps_b46 σ kr6 x1 x2 x3 x4 x5 else bp (fX8_bits x5) (fun r8 => bp (fX8_bits x4) (fun r9 => if r8 < r9 then fX8_fewestSteps_b46 σ kr6 x1 x2 x3 x4 x5 else lt (x5 + 1) (fun v10 => kr6 x1 x2 x3 x4 v10))) else lt (x5 + 1) (fun v7 => kr6 x1 x2 x3 x4 v7))
def fX8_fewestSteps_l6 (σ : St) : Nat → Int32 → Int32 → Int32 → Int32 → Int32 → Option (Int32)
  | 0 => fun _ _ _ _ _ => none
  | n + 1 => fX8_fewestSteps_B6 σ (fX8_fewestSteps_l6 σ n)
def fX8_fewestSteps (σ : St) (a1 : Int32) (a2 : Int32) (a3 : Int32) : Option (Int32) :=
  lt (-1 : Int32) (fun v11 => lt (0 : Int32) (fun v12 => fX8_fewestSteps_l6 σ FU a1 a2 a3 v11 v12))
def fX8_freshClaim (σ : St) : Option (Int32 × St) :=
  gd (ir (3 : Int32) 77) (bs (fX8_number σ (0 : Int32) ((σ.1 68 (3 : Int32).toNatClampNeg) - (1 : Int32))) (fun r1 σ2 => some (r1, σ2)))
def fX8_idle_b70 (σ : St) (kr14 : Int32 → Int32 → Option (Int32)) (x2 : Int32) (y0 : Int32) (y1 : Int32) : Option (Int32) :=
  lt (y0 ||| y1) (fun v1 => lt (x2 + 1) (fun v2 => kr14 v1 v2))
def fX8_idle_b69 (σ : St) (kr14 : Int32 → Int32 → Option (Int32)) (x2 : Int32) (y0 : Int32) : Option (Int32) :=
  fX8_idle_b70 σ kr14 x2 y0 (0 : Int32)
def fX8_idle_B14 (σ : St) (kr14 : Int32 → Int32 → Option (Int32)) (x1 : Int32) (x2 : Int32) : Option (Int32) :=
  gd (ir (3 : Int32) 77) (if (σ.1 63 (3 : Int32).toNatClampNeg) ≤ x2 then some x1 else bp (fX8_saltNow σ) (fun r3 => bp (fX8_bit r3 x2) (fun r4 => if r4 = (1 : Int32) then bp (fX8_saltNow σ) (fun r5 => bp (fX8_saltedBy σ (r5 &&& (((1 : Int32) <<< (x2 &&& 31)) ^^^ (-1 : Int32)))) (fun r6 => bp (fX8_ofClaim σ x2 (2 : Int32)) (fun r7 => if (r6 &&& (r7 ^^^ (-1 : Int32))) = 0 then fX8_idle_b70 σ kr14 x2 x1 ((1 : Int32) <<< (x2 &&& 31)) else fX8_idle_b69 σ kr14 x2 x1))) else fX8_idle_b69 σ kr14 x2 x1)))
def fX8_idle_l14 (σ : St) : Nat → Int32 → Int32 → Option (Int32)
  | 0 => fun _ _ => none
  | n + 1 => fX8_idle_B14 σ (fX8_idle_l14 σ n)
def fX8_idle (σ : St) : Option (Int32) :=
  bp (fX8_isTable σ) (fun r8 => if r8 = 0 then some (-2 : Int32) else lt (0 : Int32) (fun v9 => lt (0 : Int32) (fun v10 => fX8_idle_l14 σ FU v9 v10)))
def fX8_isProvedBy (σ : St) (a1 : Int32) (a2 : Int32) : Option (Int32) :=
  bp (fX8_saltNow σ) (fun r1 => bp (fX8_provedBy σ r1 a1) (fun r2 => bp (fX8_bit r2 a2) (fun r3 => if r3 = (1 : Int32) then gd ((1 : Int32) = 0 ∨ (1 : Int32) = 1) (some (1 : Int32)) else gd ((0 : Int32) = 0 ∨ (0 : Int32) = 1) (some (0 : Int32)))))
def fX8_kitchen_b79 (kr32 : St → Int32 → Int32 → Int32 → Option (Int32 × St)) (σ : St) (x2 : Int32) (x5 : Int32) (y0 : Int32) (y1 : Int32) : Option (Int32 × St) :=
  lt (y0 + y1) (fun v1 => lt (x5 + 1) (fun v2 => kr32 σ x2 v1 v2))
def fX8_kitchen_b78 (kr32 : St → Int32 → Int32 → Int32 → Option (Int32 × St)) (σ : St) (x2 : Int32) (x5 : Int32) (y0 : Int32) : Option (Int32 × St) :=
  fX8_kitchen_b79 kr32 σ x2 x5 y0 (0 : Int32)
def fX8_kitchen_B32 (kr32 : St → Int32 → Int32 → Int32 → Option (Int32 × St)) (σ : St) (x2 : Int32) (x4 : Int32) (x5 : Int32) : Option (Int32 × St) :=
  gd (ir (3 : Int32) 77) (if (σ.1 63 (3 : Int32).toNatClampNeg) ≤ x5 then if x2 = 0 then some ((σ.1 62 27), σ) else if x2 = (1 : Int32) then some ((σ.1 62 28), σ) else some (x4, σ) else gd (ir x5 12) (if (σ.1 73 x5.toNatClampNeg) = (-1 : Int32) then fX8_kitchen_b78 kr32 σ x2 x5 x4 else bp (fX8_saltNow σ) (fun r3 => bp (fX8_bit r3 x5) (fun r4 => if r4 = 0 then bp (fX8_ofClaim σ x5 (0 : Int32)) (fun r5 => fX8_kitchen_b79 kr32 σ x2 x5 x4 r5) else fX8_kitchen_b78 kr32 σ x2 x5 x4))))
def fX8_kitchen_l32 : Nat → St → Int32 → Int32 → Int32 → Option (Int32 × St)
  | 0 => fun _ _ _ _ => none
  | n + 1 => fX8_kitchen_B32 (fX8_kitchen_l32 n)
def fX8_kitchen (σ : St) (a1 : Int32) (a2 : Int32) : Option (Int32 × St) :=
  bp (fX8_in (a2.toInt64) (0 : Int64) (2 : Int64)) (fun r6 => bp (fX8_asksKitchen σ a1 r6) (fun r7 => lt r7 (fun v8 => if 0 ≤ v8 then bp (fX8_goKitchen σ a1) (fun σ9 => lt (0 : Int32) (fun v10 => lt (0 : Int32) (fun v11 => fX8_kitchen_l32 FU σ9 a2 v10 v11))) else some (v8, σ))))
def fX8_lasts (σ : St) : Option (Int32 × St) :=
  bp (fX8_isTable σ) (fun r1 => if r1 = 0 then some ((-2 : Int32), σ) else bp (fX8_fillDuel σ) (fun σ2 => bp (fX8_saltNow σ2) (fun r3 => gd (ir r3 4096) (lt (σ2.1 77 r3.toNatClampNeg) (fun v4 => if v4 ≤ 0 then some ((v4 + (100 : Int32)), σ2) else some (((100 : Int32) - v4), σ2))))))
def fX8_lent_b112 (σ : St) (kr55 : Int32 → Int32 → Int32 → Int32 → Option (Int32)) (x2 : Int32) (x4 : Int32) (x6 : Int32) (y0 : Int32) (y1 : Int32) : Option (Int32) :=
  lt (y0 ||| y1) (fun v1 => lt (x6 + 1) (fun v2 => kr55 x2 x4 v1 v2))
def fX8_lent_b111 (σ : St) (kr55 : Int32 → Int32 → Int32 → Int32 → Option (Int32)) (x2 : Int32) (x4 : Int32) (x6 : Int32) (y0 : Int32) : Option (Int32) :=
  fX8_lent_b112 σ kr55 x2 x4 x6 y0 (0 : Int32)
def fX8_lent_B55 (σ : St) (kr55 : Int32 → Int32 → Int32 → Int32 → Option (Int32)) (x2 : Int32) (x4 : Int32) (x5 : Int32) (x6 : Int32) : Option (Int32) :=
  gd (ir (5 : Int32) 77) (if (σ.1 63 (5 : Int32).toNatClampNeg) ≤ x6 then some x5 else if x6 = x2 then fX8_lent_b111 σ kr55 x2 x4 x6 x5 else bp (fX8_saltNow σ) (fun r3 => bp (fX8_ofGuest σ x2 (1 : Int32)) (fun r4 => bp (fX8_ofGuest σ x6 (1 : Int32)) (fun r5 => bp (fX8_provedBy σ r3 (r4 ||| r5)) (fun r6 => if (x4 &&& (r6 ^^^ (-1 : Int32))) = 0 then fX8_lent_b112 σ kr55 x2 x4 x6 x5 ((1 : Int32) <<< (x6 &&& 31)) else fX8_lent_b111 σ kr55 x2 x4 x6 x5)))))
def fX8_lent_l55 (σ : St) : Nat → Int32 → Int32 → Int32 → Int32 → Option (Int32)
  | 0 => fun _ _ _ _ => none
  | n + 1 => fX8_lent_B55 σ (fX8_lent_l55 σ n)
def fX8_lent (σ : St) (a1 : Int32) (a2 : Int32) : Option (Int32) :=
  bp (fX8_isGuest σ (a2.toInt64)) (fun r7 => bp (fX8_asksEaten σ a1 r7) (fun r8 => lt r8 (fun v9 => if 0 ≤ v9 then bp (fX8_eatenBy σ a1) (fun r10 => lt r10 (fun v11 => bp (fX8_saltNow σ) (fun r12 => bp (fX8_ofGuest σ a2 (1 : Int32)) (fun r13 => bp (fX8_provedBy σ r12 r13) (fun r14 => if (v11 &&& (r14 ^^^ (-1 : Int32))) = 0 then some (0 : Int32) else lt (0 : Int32) (fun v15 => lt (0 : Int32) (fun v16 => fX8_lent_l55 σ FU a2 v11 v15 v16))))))) else some v9)))
def fX8_mostBy_b87 (kr11 : St → Int32 → Int32 → Int32 → Int32 → Int32 → Option (Int32 × St)) (σ : St) (x1 : Int32) (x2 : Int32) (x3 : Int32) (x5 : Int32) (x6 : Int32) : Option (Int32 × St) :=
  lt x6 (fun v1 => lt (setI σ 62 21 x5) (fun σ2 => lt (x5 + 1) (fun v3 => kr11 σ2 x1 x2 x3 v1 v3)))
def fX8_mostBy_B11 (kr11 : St → Int32 → Int32 → Int32 → Int32 → Int32 → Option (Int32 × St)) (σ : St) (x1 : Int32) (x2 : Int32) (x3 : Int32) (x4 : Int32) (x5 : Int32) : Option (Int32 × St) :=
  bp (fX8_allSteps σ) (fun r4 => if r4 < x5 then some (x4, σ) else if (x5 &&& (x2 ^^^ (-1 : Int32))) = 0 then bp (fX8_bits x5) (fun r6 => if r6 ≤ x3 then bp (fX8_provedBy σ x1 x5) (fun r7 => bp (fX8_worthsOf σ (r7 &&& (x1 ^^^ (-1 : Int32)))) (fun r8 => lt r8 (fun v9 => if x4 < v9 then fX8_mostBy_b87 kr11 σ x1 x2 x3 x5 v9 else if v9 = x4 then bp (fX8_bits x5) (fun r11 => bp (fX8_bits (σ.1 62 21)) (fun r12 => if r12 ≤ r11 then lt (x5 + 1) (fun v13 => kr11 σ x1 x2 x3 x4 v13) else fX8_mostBy_b87 kr11 σ x1 x2 x3 x5 v9)) else lt (x5 + 1) (fun v10 => kr11 σ x1 x2 x3 x4 v10)))) else lt (x5 + 1) (fun v14 => kr11 σ x1 x2 x3 x4 v14)) else lt (x5 + 1) (fun v5 => kr11 σ x1 x2 x3 x4 v5))
def fX8_mostBy_l11 : Nat → St → Int32 → Int32 → Int32 → Int32 → Int32 → Option (Int32 × St)
  | 0 => fun _ _ _ _ _ _ => none
  | n + 1 => fX8_mostBy_B11 (fX8_mostBy_l11 n)
def fX8_mostBy (σ : St) (a1 : Int32) (a2 : Int32) (a3 : Int32) : Option (Int32 × St) :=
  lt (-1 : Int32) (fun v15 => lt (setI σ 62 21 (0 : Int32)) (fun σ16 => lt (0 : Int32) (fun v17 => fX8_mostBy_l11 FU σ16 a1 a2 a3 v15 v17)))
def fX8_move_B16 (kr16 : St → Int32 → Option (Int32 × St)) (σ : St) (x1 : Int32) : Option (Int32 × St) :=
  gd (ir (4 : Int32) 77) (if (σ.1 63 (4 : Int32).toNatClampNeg) ≤ x1 then some ((-1 : Int32), σ) else bp (fX8_saltNow σ) (fun r1 => bp (fX8_goes σ x1 r1) (fun r2 => if r2 = 0 then lt (x1 + 1) (fun v3 => kr16 σ v3) else bp (fX8_saltNow σ) (fun r4 => bp (fX8_ofStep σ x1 (0 : Int32)) (fun r5 => gd (ir (r4 ||| ((1 : Int32) <<< (r5 &&& 31))) 4096) (if 0 ≤ (σ.1 77 (r4 ||| ((1 : Int32) <<< (r5 &&& 31))).toNatClampNeg) then lt (x1 + 1) (fun v6 => kr16 σ v6) else some (x1, σ)))))))
def fX8_move_l16 : Nat → St → Int32 → Option (Int32 × St)
  | 0 => fun _ _ => none
  | n + 1 => fX8_move_B16 (fX8_move_l16 n)
def fX8_move (σ : St) : Option (Int32 × St) :=
  bp (fX8_isTable σ) (fun r7 => if r7 = 0 then some ((-2 : Int32), σ) else bp (fX8_fillDuel σ) (fun σ8 => lt (0 : Int32) (fun v9 => fX8_move_l16 FU σ8 v9)))
def fX8_provedNow (σ : St) : Option (Int32) :=
  bp (fX8_saltNow σ) (fun r1 => bp (fX8_allSteps σ) (fun r2 => bp (fX8_provedBy σ r1 r2) (fun r3 => some r3)))
def fX8_reached (σ : St) (a1 : Int32) : Option (Int32 × St) :=
  bp (fX8_asksRow σ a1 (1 : Int32)) (fun r1 => lt r1 (fun v2 => if 0 ≤ v2 then bp (fX8_readRow σ a1) (fun σ3 => some ((σ3.1 62 20), σ3)) else some (v2, σ)))
def fX8_reads (σ : St) (a1 : Int32) : Option (Int32 × St) :=
  bp (fX8_asksRow σ a1 (1 : Int32)) (fun r1 => lt r1 (fun v2 => if 0 ≤ v2 then bp (fX8_readRow σ a1) (fun σ3 => some ((σ3.1 62 19), σ3)) else some (v2, σ)))
def fX8_saltedNow (σ : St) : Option (Int32) :=
  bp (fX8_saltNow σ) (fun r1 => bp (fX8_saltedBy σ r1) (fun r2 => some r2))
def fX8_shares (σ : St) (a1 : Int32) (a2 : Int32) : Option (Int32 × St) :=
  bp (fX8_isClaim σ (a2.toInt64)) (fun r1 => bp (fX8_asksKitchen σ a1 r1) (fun r2 => lt r2 (fun v3 => if 0 ≤ v3 then bp (fX8_goKitchen σ a1) (fun σ4 => gd (ir a2 12) (some ((σ4.1 74 a2.toNatClampNeg), σ4))) else some (v3, σ))))
def fX8_spareOf_b42 (σ : St) (kr10 : Int32 → Int32 → Int32 → Int32 → Option (Int32)) (x1 : Int32) (x2 : Int32) (x3 : Int32) (x4 : Int32) : Option (Int32) :=
  bp (fX8_allSteps σ) (fun r1 => bp (fX8_provedBy σ x4 r1) (fun r2 => if (x1 &&& (r2 ^^^ (-1 : Int32))) = 0 then lt x4 (fun v4 => lt (x4 + 1) (fun v5 => kr10 x1 x2 v4 v5)) else lt (x4 + 1) (fun v3 => kr10 x1 x2 x3 v3)))
def fX8_spareOf_B10 (σ : St) (kr10 : Int32 → Int32 → Int32 → Int32 → Option (Int32)) (x1 : Int32) (x2 : Int32) (x3 : Int32) (x4 : Int32) : Option (Int32) :=
  if x2 < x4 then some x3 else if (x4 &&& (x2 ^^^ (-1 : Int32))) = 0 then if x3 = (-1 : Int32) then fX8_spareOf_b42 σ kr10 x1 x2 x3 x4 else bp (fX8_bits x4) (fun r7 => bp (fX8_bits x3) (fun r8 => if r8 ≤ r7 then lt (x4 + 1) (fun v9 => kr10 x1 x2 x3 v9) else fX8_spareOf_b42 σ kr10 x1 x2 x3 x4)) else lt (x4 + 1) (fun v6 => kr10 x1 x2 x3 v6)
def fX8_spareOf_l10 (σ : St) : Nat → Int32 → Int32 → Int32 → Int32 → Option (Int32)
  | 0 => fun _ _ _ _ => none
  | n + 1 => fX8_spareOf_B10 σ (fX8_spareOf_l10 σ n)
def fX8_spareOf (σ : St) (a1 : Int32) : Option (Int32) :=
  bp (fX8_saltNow σ) (fun r10 => lt r10 (fun v11 => lt (-1 : Int32) (fun v12 => lt (0 : Int32) (fun v13 => fX8_spareOf_l10 σ FU a1 v11 v12 v13))))
def fX8_strength (σ : St) (a1 : Int32) : Option (Int32) :=
  bp (fX8_areGuests σ a1) (fun r1 => if r1 = 0 then some (-2 : Int32) else bp (fX8_strengthOf σ a1) (fun r2 => some r2))
def fX8_usedBy_B20 (kr20 : St → Int32 → Int32 → Int32 → Int32 → Option (Int32 × St)) (σ : St) (x1 : Int32) (x3 : Int32) (x4 : Int32) (x5 : Int32) : Option (Int32 × St) :=
  if x5 < 0 then some (x4, σ) else bp (fX8_numberAt σ x1 x5) (fun r1 => lt (r1.toInt32) (fun v2 => bp (fX8_ofStep σ v2 (0 : Int32)) (fun r3 => bp (fX8_bit x3 r3) (fun r4 => if r4 = 0 then lt (x5 + (-1)) (fun v9 => kr20 σ x1 x3 x4 v9) else lt (x4 ||| ((1 : Int32) <<< (v2 &&& 31))) (fun v5 => bp (fX8_ofStep σ v2 (1 : Int32)) (fun r6 => lt (x3 ||| r6) (fun v7 => lt (x5 + (-1)) (fun v8 => kr20 σ x1 v7 v5 v8))))))))
def fX8_usedBy_l20 : Nat → St → Int32 → Int32 → Int32 → Int32 → Option (Int32 × St)
  | 0 => fun _ _ _ _ _ => none
  | n + 1 => fX8_usedBy_B20 (fX8_usedBy_l20 n)
def fX8_usedBy (σ : St) (a1 : Int32) (a2 : Int32) : Option (Int32 × St) :=
  bp (fX8_readRow σ a1) (fun σ10 => lt ((1 : Int32) <<< (a2 &&& 31)) (fun v11 => lt (0 : Int32) (fun v12 => lt ((σ10.1 62 19) - (1 : Int32)) (fun v13 => fX8_usedBy_l20 FU σ10 a1 v11 v12 v13))))
def fX8_when (σ : St) (a1 : Int32) (a2 : Int32) : Option (Int32 × St) :=
  bp (fX8_isClaim σ (a2.toInt64)) (fun r1 => bp (fX8_asksKitchen σ a1 r1) (fun r2 => lt r2 (fun v3 => if 0 ≤ v3 then bp (fX8_goKitchen σ a1) (fun σ4 => gd (ir a2 12) (some ((σ4.1 73 a2.toNatClampNeg), σ4))) else some (v3, σ))))
def fX8_why (σ : St) (a1 : Int32) : Option (Int32 × St) :=
  bp (fX8_asksRow σ a1 (1 : Int32)) (fun r1 => lt r1 (fun v2 => if 0 ≤ v2 then bp (fX8_readRow σ a1) (fun σ3 => gd (ir a1 4) (if (σ3.1 62 19) = (σ3.1 78 a1.toNatClampNeg) then some ((0 : Int32), σ3) else bp (fX8_numberAt σ3 a1 (σ3.1 62 19)) (fun r4 => bp (fX8_ofStep σ3 (r4.toInt32) (1 : Int32)) (fun r5 => if (r5 &&& ((σ3.1 62 20) ^^^ (-1 : Int32))) = 0 then some ((2 : Int32), σ3) else some ((1 : Int32), σ3))))) else some (v2, σ)))
def fX7_borrowed_B50 (kr50 : St → Int32 → Int32 → Int32 → Option (Int32 × St)) (σ : St) (x1 : Int32) (x4 : Int32) (x5 : Int32) : Option (Int32 × St) :=
  gd (ir x1 4) (lt (rowp x1.toNatClampNeg) (fun k1 => if (σ.1 k1 2) ≤ x5 then some ((-1 : Int32), σ) else gd (ir x1 4) (lt (rowp x1.toNatClampNeg) (fun k2 => gd (ir x5 60) (lt ((σ.2 (k2 + 1) x5.toNatClampNeg).toInt32) (fun v3 => if ((x4 >>> (v3 &&& 31)) &&& (1 : Int32)) = 0 then some (v3, σ) else lt (x5 + 1) (fun v4 => kr50 σ x1 x4 v4)))))))
def fX7_borrowed_l50 : Nat → St → Int32 → Int32 → Int32 → Option (Int32 × St)
  | 0 => fun _ _ _ _ => none
  | n + 1 => fX7_borrowed_B50 (fX7_borrowed_l50 n)
def fX7_borrowed_b21 (σ : St) (x1 : Int32) (x2 : Int32) (y0 : Int32) : Option (Int32 × St) :=
  lt y0 (fun v5 => if v5 = 0 then bp (fX7_freshProofs σ) (fun σ6 => gd (ir x2 5) (gd (ir (σ6.1 (3 + 6) x2.toNatClampNeg) 4096) (lt (σ6.1 (49 + 1) (σ6.1 (3 + 6) x2.toNatClampNeg).toNatClampNeg) (fun v7 => lt (0 : Int32) (fun v8 => fX7_borrowed_l50 FU σ6 x1 v7 v8))))) else some (v5, σ))
def fX7_borrowed (σ : St) (a1 : Int32) (a2 : Int32) : Option (Int32 × St) :=
  bp (fX6_hasGuest σ 3 a2) (fun r9 => if r9 = 0 then fX7_borrowed_b21 σ a1 a2 (-2 : Int32) else bp (fX7_refusalOfDishes σ a1) (fun r10 => fX7_borrowed_b21 σ a1 a2 r10))
def fX7_busy_b28 (σ : St) (x1 : Int32) (x2 : Int32) (x3 : Int32) (y0 : Int32) : Option (Int32 × St) :=
  lt y0 (fun v1 => if v1 = 0 then gd (ir x1 4) (lt (rowp x1.toNatClampNeg) (fun k2 => bp (fX1_cook σ 3 k2) (fun σ3 => gd (ir x2 5) (lt (σ3.1 59 x2.toNatClampNeg) (fun v4 => if x3 = 0 then some (v4, σ3) else gd (ir x2 5) (some (((σ3.1 58 x2.toNatClampNeg) - v4), σ3))))))) else some (v1, σ))
def fX7_busy_b26 (σ : St) (x1 : Int32) (x2 : Int32) (x3 : Int32) : Option (Int32 × St) :=
  fX7_busy_b28 σ x1 x2 x3 (-2 : Int32)
def fX7_busy (σ : St) (a1 : Int32) (a2 : Int32) (a3 : Int32) : Option (Int32 × St) :=
  bp (fX6_hasGuest σ 3 a2) (fun r5 => if r5 = 0 then fX7_busy_b26 σ a1 a2 a3 else bp (fX7_isBit a3) (fun r6 => if r6 = 0 then fX7_busy_b26 σ a1 a2 a3 else bp (fX7_refusalOfPairs σ a1) (fun r7 => fX7_busy_b28 σ a1 a2 a3 r7)))
def fX7_core (σ : St) : Option (Int32 × St) :=
  bp (fX6_isTold σ 3) (fun r1 => if r1 = 0 then some ((-2 : Int32), σ) else bs (fX7_coreSet σ) (fun r2 σ3 => bp (fX7_sizeOrNone r2) (fun r4 => some (r4, σ3))))
def fX7_cored (σ : St) : Option (Int32 × St) :=
  bp (fX6_isTold σ 3) (fun r1 => if r1 = 0 then some ((-2 : Int32), σ) else bs (fX7_coreSet σ) (fun r2 σ3 => some (r2, σ3)))
def fX7_doesTeamProve (σ : St) (a1 : Int32) (a2 : Int32) : Option (Int32 × St) :=
  bp (fX7_freshProofs σ) (fun σ1 => bp (fX6_teamKnows σ1 3 a1) (fun r2 => bp (fX5_leastSet σ1 49 r2 ((1 : Int32) <<< (a2 &&& 31))) (fun r3 => lt r3 (fun v4 => if v4 = (-1 : Int32) then gd ((0 : Int32) = 0 ∨ (0 : Int32) = 1) (some ((0 : Int32), σ1)) else bp (fJ6_bitCount_0f7a4 v4) (fun r5 => bp (fX6_teamCanDo σ1 3 a1) (fun r6 => if r6 < r5 then gd ((0 : Int32) = 0 ∨ (0 : Int32) = 1) (some ((0 : Int32), σ1)) else gd ((1 : Int32) = 0 ∨ (1 : Int32) = 1) (some ((1 : Int32), σ1))))))))
def fX7_guestsProving_B4 (kr4 : St → Int32 → Int32 → Int32 → Option (Int32 × St)) (σ : St) (x1 : Int32) (x2 : Int32) (x3 : Int32) : Option (Int32 × St) :=
  if (σ.1 3 6) ≤ x3 then some (x2, σ) else bp (fX7_freshProofs σ) (fun σ1 => gd (ir x3 5) (bp (fX5_leastSet σ1 49 (σ1.1 (3 + 6) x3.toNatClampNeg) x1) (fun r2 => lt r2 (fun v3 => if v3 = (-1 : Int32) then lt (x3 + 1) (fun v4 => kr4 σ1 x1 x2 v4) else bp (fJ6_bitCount_0f7a4 v3) (fun r5 => bp (fX6_canDo σ1 3 x3) (fun r6 => if r6 < r5 then lt (x3 + 1) (fun v7 => kr4 σ1 x1 x2 v7) else lt (x2 ||| ((1 : Int32) <<< (x3 &&& 31))) (fun v8 => lt (x3 + 1) (fun v9 => kr4 σ1 x1 v8 v9))))))))
def fX7_guestsProving_l4 : Nat → St → Int32 → Int32 → Int32 → Option (Int32 × St)
  | 0 => fun _ _ _ _ => none
  | n + 1 => fX7_guestsProving_B4 (fX7_guestsProving_l4 n)
def fX7_guestsProving (σ : St) (a1 : Int32) : Option (Int32 × St) :=
  lt (0 : Int32) (fun v10 => lt (0 : Int32) (fun v11 => fX7_guestsProving_l4 FU σ a1 v10 v11))
def fX7_kitchen_b19 (σ : St) (x1 : Int32) (x2 : Int32) (y0 : Int32) : Option (Int32 × St) :=
  lt y0 (fun v1 => if v1 = 0 then gd (ir x1 4) (lt (rowp x1.toNatClampNeg) (fun k2 => bp (fX1_cook σ 3 k2) (fun σ3 => if x2 = 0 then some ((σ3.1 55 0), σ3) else if x2 = 1 then some ((σ3.1 55 1), σ3) else bp (fX6_worthOf σ3 3 ((σ3.1 55 2) &&& ((σ3.1 3 7) ^^^ (-1 : Int32)))) (fun r4 => some (r4, σ3))))) else some (v1, σ))
def fX7_kitchen_b17 (σ : St) (x1 : Int32) (x2 : Int32) : Option (Int32 × St) :=
  fX7_kitchen_b19 σ x1 x2 (-2 : Int32)
def fX7_kitchen (σ : St) (a1 : Int32) (a2 : Int32) : Option (Int32 × St) :=
  if a2 < 0 then fX7_kitchen_b17 σ a1 a2 else if (2 : Int32) < a2 then fX7_kitchen_b17 σ a1 a2 else bp (fX7_refusalOfPairs σ a1) (fun r5 => fX7_kitchen_b19 σ a1 a2 r5)
def fX7_leaves (σ : St) : Option (Int32) :=
  bp (fX6_isTold σ 3) (fun r1 => if r1 = 0 then some (-2 : Int32) else bp (fX7_ask σ) (fun r2 => lt r2 (fun v3 => if v3 = (-1 : Int32) then bp (fX6_worldsOf σ 3 (σ.1 3 7)) (fun r5 => bp (fJ6_bitCount_0f7a4 r5) (fun r6 => some r6)) else bp (fX6_leftAtWorst σ 3 v3) (fun r4 => some r4))))
def fX7_lent_B80 (kr80 : St → Int32 → Int32 → Int32 → Int32 → Option (Int32 × St)) (σ : St) (x4 : Int32) (x5 : Int32) (x7 : Int32) (x8 : Int32) : Option (Int32 × St) :=
  if (σ.1 3 6) ≤ x8 then some (x7, σ) else gd (ir x8 5) (gd (ir (x5 ||| (σ.1 (3 + 6) x8.toNatClampNeg)) 4096) (if (x4 &&& ((σ.1 (49 + 1) (x5 ||| (σ.1 (3 + 6) x8.toNatClampNeg)).toNatClampNeg) ^^^ (-1 : Int32))) = 0 then lt (x7 ||| ((1 : Int32) <<< (x8 &&& 31))) (fun v2 => lt (x8 + 1) (fun v3 => kr80 σ x4 x5 v2 v3)) else lt (x8 + 1) (fun v1 => kr80 σ x4 x5 x7 v1)))
def fX7_lent_l80 : Nat → St → Int32 → Int32 → Int32 → Int32 → Option (Int32 × St)
  | 0 => fun _ _ _ _ _ => none
  | n + 1 => fX7_lent_B80 (fX7_lent_l80 n)
def fX7_lent_b21 (σ : St) (x1 : Int32) (x2 : Int32) (y0 : Int32) : Option (Int32 × St) :=
  lt y0 (fun v4 => if v4 = 0 then gd (ir x1 4) (lt (rowp x1.toNatClampNeg) (fun k5 => bp (fX4_asSet σ k5) (fun r6 => lt r6 (fun v7 => gd (ir x2 5) (lt (σ.1 (3 + 6) x2.toNatClampNeg) (fun v8 => bp (fX7_freshProofs σ) (fun σ9 => gd (ir v8 4096) (if (v7 &&& ((σ9.1 (49 + 1) v8.toNatClampNeg) ^^^ (-1 : Int32))) = 0 then some ((0 : Int32), σ9) else lt (0 : Int32) (fun v10 => lt (0 : Int32) (fun v11 => fX7_lent_l80 FU σ9 v7 v8 v10 v11)))))))))) else some (v4, σ))
def fX7_lent (σ : St) (a1 : Int32) (a2 : Int32) : Option (Int32 × St) :=
  bp (fX6_hasGuest σ 3 a2) (fun r12 => if r12 = 0 then fX7_lent_b21 σ a1 a2 (-2 : Int32) else bp (fX7_refusalOfDishes σ a1) (fun r13 => fX7_lent_b21 σ a1 a2 r13))
def fX7_menuSet (σ : St) (a1 : Int32) (a2 : Int32) : Option (Int32 × St) :=
  bp (fX7_freshProofs σ) (fun σ1 => gd (ir a1 5) (bp (fX6_canDo σ1 3 a1) (fun r2 => bp (fX5_menuSet σ1 49 3 ((σ1.1 (3 + 6) a1.toNatClampNeg) &&& (a2 ^^^ (-1 : Int32))) r2) (fun r3 => some (r3, σ1)))))
def fX7_proofs (σ : St) (a1 : Int32) : Option (Int32 × St) :=
  bp (fX6_hasClaim σ 3 a1) (fun r1 => if r1 = 0 then some ((-2 : Int32), σ) else bp (fX7_freshProofs σ) (fun σ2 => bp (fX6_allSteps σ2 3) (fun r3 => bp (fX5_countLeast σ2 49 r3 a1) (fun r4 => some (r4, σ2)))))
def fX7_provedByAll (σ : St) : Option (Int32 × St) :=
  bp (fX7_freshProofs σ) (fun σ1 => bp (fX6_allSteps σ1 3) (fun r2 => gd (ir r2 4096) (some ((σ1.1 (49 + 1) r2.toNatClampNeg), σ1))))
def fX7_provedWithout (σ : St) (a1 : Int32) : Option (Int32 × St) :=
  bp (fX7_freshProofs σ) (fun σ1 => bp (fX6_allSteps σ1 3) (fun r2 => gd (ir (r2 &&& (((1 : Int32) <<< (a1 &&& 31)) ^^^ (-1 : Int32))) 4096) (some ((σ1.1 (49 + 1) (r2 &&& (((1 : Int32) <<< (a1 &&& 31)) ^^^ (-1 : Int32))).toNatClampNeg), σ1))))
def fX7_shares_b21 (σ : St) (x1 : Int32) (x2 : Int32) (y0 : Int32) : Option (Int32 × St) :=
  lt y0 (fun v1 => if v1 = 0 then gd (ir x1 4) (lt (rowp x1.toNatClampNeg) (fun k2 => bp (fX1_cook σ 3 k2) (fun σ3 => gd (ir x2 12) (some ((σ3.1 57 x2.toNatClampNeg), σ3))))) else some (v1, σ))
def fX7_shares (σ : St) (a1 : Int32) (a2 : Int32) : Option (Int32 × St) :=
  bp (fX6_hasClaim σ 3 a2) (fun r4 => if r4 = 0 then fX7_shares_b21 σ a1 a2 (-2 : Int32) else bp (fX7_refusalOfPairs σ a1) (fun r5 => fX7_shares_b21 σ a1 a2 r5))
def fX7_shortestSet (σ : St) (a1 : Int32) : Option (Int32 × St) :=
  bp (fX7_freshProofs σ) (fun σ1 => bp (fX6_allSteps σ1 3) (fun r2 => bp (fX5_leastSet σ1 49 r2 ((1 : Int32) <<< (a1 &&& 31))) (fun r3 => some (r3, σ1))))
def fX7_spare (σ : St) (a1 : Int32) : Option (Int32 × St) :=
  bp (fX6_isClaimSet σ 3 a1) (fun r1 => if r1 = 0 then some ((-2 : Int32), σ) else bs (fX7_leastSaltFor σ a1) (fun r2 σ3 => bp (fX7_sizeOrNone r2) (fun r4 => some (r4, σ3))))
def fX7_spared (σ : St) (a1 : Int32) : Option (Int32 × St) :=
  bp (fX6_isClaimSet σ 3 a1) (fun r1 => if r1 = 0 then some ((-2 : Int32), σ) else bs (fX7_leastSaltFor σ a1) (fun r2 σ3 => some (r2, σ3)))
def fX7_takes (σ : St) (a1 : Int32) (a2 : Int32) : Option (Int32 × St) :=
  bp (fX6_hasGuest σ 3 a1) (fun r1 => if r1 = 0 then some ((-2 : Int32), σ) else bp (fX6_isClaimSet σ 3 a2) (fun r2 => if r2 = 0 then some ((-2 : Int32), σ) else bp (fX7_freshProofs σ) (fun σ3 => gd (ir a1 5) (bp (fX5_leastSet σ3 49 (σ3.1 (3 + 6) a1.toNatClampNeg) a2) (fun r4 => lt r4 (fun v5 => if v5 = (-1 : Int32) then some ((-1 : Int32), σ3) else bp (fJ6_bitCount_0f7a4 v5) (fun r6 => gd (ir a1 5) (some ((r6 * (σ3.1 (3 + 5) a1.toNatClampNeg)), σ3)))))))))
def fX7_when_b21 (σ : St) (x1 : Int32) (x2 : Int32) (y0 : Int32) : Option (Int32 × St) :=
  lt y0 (fun v1 => if v1 = 0 then gd (ir x1 4) (lt (rowp x1.toNatClampNeg) (fun k2 => bp (fX1_cook σ 3 k2) (fun σ3 => gd (ir x2 12) (some ((σ3.1 56 x2.toNatClampNeg), σ3))))) else some (v1, σ))
def fX7_when (σ : St) (a1 : Int32) (a2 : Int32) : Option (Int32 × St) :=
  bp (fX6_hasClaim σ 3 a2) (fun r4 => if r4 = 0 then fX7_when_b21 σ a1 a2 (-2 : Int32) else bp (fX7_refusalOfPairs σ a1) (fun r5 => fX7_when_b21 σ a1 a2 r5))
def fX2_isWord_B28 (σ : St) (w : Nat) (kr28 : Int32 → Option (Int32)) (x2 : Int32) : Option (Int32) :=
  if (slenI w) ≤ x2 then gd ((1 : Int32) = 0 ∨ (1 : Int32) = 1) (some (1 : Int32)) else gd (ir ((σ.1 1 5) + x2) 1600) (gd (ir x2 (slen.getD w 0)) (if (σ.1 2 ((σ.1 1 5) + x2).toNatClampNeg) = (scha w x2.toNatClampNeg) then lt (x2 + 1) (fun v3 => kr28 v3) else gd ((0 : Int32) = 0 ∨ (0 : Int32) = 1) (some (0 : Int32))))
def fX2_isWord_l28 (σ : St) (w : Nat) : Nat → Int32 → Option (Int32)
  | 0 => fun _ => none
  | n + 1 => fX2_isWord_B28 σ w (fX2_isWord_l28 σ w n)
def fX2_isWord (σ : St) (w : Nat) : Option (Int32) :=
  if (σ.1 1 4) = (1 : Int32) then if ((σ.1 1 6) - (σ.1 1 5)) = (slenI w) then lt (0 : Int32) (fun v5 => fX2_isWord_l28 σ w FU v5) else gd ((0 : Int32) = 0 ∨ (0 : Int32) = 1) (some (0 : Int32)) else gd ((0 : Int32) = 0 ∨ (0 : Int32) = 1) (some (0 : Int32))
def fX8_canProve (σ : St) (a1 : Int32) (a2 : Int32) : Option (Int32) :=
  bp (fX8_saltNow σ) (fun r1 => bp (fX8_ofGuest σ a1 (1 : Int32)) (fun r2 => bp (fX8_fewestSteps σ r1 r2 a2) (fun r3 => lt r3 (fun v4 => if v4 = (-1 : Int32) then gd ((0 : Int32) = 0 ∨ (0 : Int32) = 1) (some (0 : Int32)) else bp (fX8_bits v4) (fun r5 => bp (fX8_canDo σ a1) (fun r6 => if r6 < r5 then gd ((0 : Int32) = 0 ∨ (0 : Int32) = 1) (some (0 : Int32)) else gd ((1 : Int32) = 0 ∨ (1 : Int32) = 1) (some (1 : Int32))))))))
def fX8_canTogether_b38 (σ : St) (kr5 : Int32 → Int32 → Int32 → Int32 → Option (Int32)) (x1 : Int32) (x2 : Int32) (x4 : Int32) (y0 : Int32) (y1 : Int32) : Option (Int32) :=
  lt (y0 ||| y1) (fun v1 => lt (x4 + 1) (fun v2 => kr5 x1 x2 v1 v2))
def fX8_canTogether_B5 (σ : St) (kr5 : Int32 → Int32 → Int32 → Int32 → Option (Int32)) (x1 : Int32) (x2 : Int32) (x3 : Int32) (x4 : Int32) : Option (Int32) :=
  gd (ir (5 : Int32) 77) (if (σ.1 63 (5 : Int32).toNatClampNeg) ≤ x4 then bp (fX8_saltNow σ) (fun r3 => bp (fX8_fewestSteps σ r3 x3 ((1 : Int32) <<< (x2 &&& 31))) (fun r4 => lt r4 (fun v5 => if v5 = (-1 : Int32) then gd ((0 : Int32) = 0 ∨ (0 : Int32) = 1) (some (0 : Int32)) else bp (fX8_bits v5) (fun r6 => bp (fX8_strengthOf σ x1) (fun r7 => if r7 < r6 then gd ((0 : Int32) = 0 ∨ (0 : Int32) = 1) (some (0 : Int32)) else gd ((1 : Int32) = 0 ∨ (1 : Int32) = 1) (some (1 : Int32))))))) else bp (fX8_bit x1 x4) (fun r8 => if r8 = (1 : Int32) then bp (fX8_ofGuest σ x4 (1 : Int32)) (fun r9 => fX8_canTogether_b38 σ kr5 x1 x2 x4 x3 r9) else fX8_canTogether_b38 σ kr5 x1 x2 x4 x3 (0 : Int32)))
def fX8_canTogether_l5 (σ : St) : Nat → Int32 → Int32 → Int32 → Int32 → Option (Int32)
  | 0 => fun _ _ _ _ => none
  | n + 1 => fX8_canTogether_B5 σ (fX8_canTogether_l5 σ n)
def fX8_canTogether (σ : St) (a1 : Int32) (a2 : Int32) : Option (Int32) :=
  lt (0 : Int32) (fun v10 => lt (0 : Int32) (fun v11 => fX8_canTogether_l5 σ FU a1 a2 v10 v11))
def fX8_core (σ : St) : Option (Int32) :=
  bp (fX8_isTable σ) (fun r1 => if r1 = 0 then some (-2 : Int32) else bp (fX8_coreOf σ) (fun r2 => lt r2 (fun v3 => if v3 = (-1 : Int32) then some (-1 : Int32) else bp (fX8_bits v3) (fun r4 => some r4))))
def fX8_cored (σ : St) : Option (Int32) :=
  bp (fX8_isTable σ) (fun r1 => if r1 = 0 then some (-2 : Int32) else bp (fX8_coreOf σ) (fun r2 => some r2))
def fX8_counter (σ : St) (a1 : Int32) : Option (Int32) :=
  bp (fX8_isClaim σ (a1.toInt64)) (fun r1 => if r1 = 0 then some (-2 : Int32) else bp (fX8_saltedNow σ) (fun r2 => bp (fX8_ofClaim σ a1 (2 : Int32)) (fun r3 => bp (fX8_lowest (r2 &&& (r3 ^^^ (-1 : Int32)))) (fun r4 => some r4))))
def fX8_falls (σ : St) (a1 : Int32) : Option (Int32) :=
  bp (fX8_isClaim σ (a1.toInt64)) (fun r1 => if r1 = 0 then some (-2 : Int32) else bp (fX8_ofClaim σ a1 (1 : Int32)) (fun r2 => if r2 = 0 then some (-2 : Int32) else bp (fX8_provedNow σ) (fun r3 => bp (fX8_saltNow σ) (fun r4 => bp (fX8_allSteps σ) (fun r5 => bp (fX8_provedBy σ (r4 &&& (((1 : Int32) <<< (a1 &&& 31)) ^^^ (-1 : Int32))) r5) (fun r6 => some (r3 &&& (r6 ^^^ (-1 : Int32)))))))))
def fX8_falsity (σ : St) (a1 : Int32) : Option (Int32) :=
  bp (fX8_isStep σ (a1.toInt64)) (fun r1 => if r1 = 0 then some (-2 : Int32) else bp (fX8_falseIn σ a1) (fun r2 => bp (fX8_lowest r2) (fun r3 => some r3)))
def fX8_feastOf (σ : St) (a1 : Int64) (a3 : Int32) : Option (Int32 × St) :=
  bp (fX8_saltNow σ) (fun r1 => bp (fX8_ofGuest σ a3 (1 : Int32)) (fun r2 => bp (fX8_holesBy σ a1) (fun r3 => bp (fX8_canDo σ a3) (fun r4 => bs (fX8_mostBy σ r1 (r2 &&& (r3 ^^^ (-1 : Int32))) r4) (fun r5 σ6 => some (r5, σ6))))))
def fX8_is_B39 (σ : St) (w : Nat) (kr39 : Int32 → Int32 → Option (Int32)) (x2 : Int32) (x3 : Int32) : Option (Int32) :=
  if (slenI w) ≤ x3 then gd (x2 = 0 ∨ x2 = 1) (some x2) else if x2 = 0 then gd (x2 = 0 ∨ x2 = 1) (some x2) else gd (ir ((σ.1 62 9) + x3) 1600) (gd (ir x3 (slen.getD w 0)) (if (σ.1 66 ((σ.1 62 9) + x3).toNatClampNeg) = (scha w x3.toNatClampNeg) then lt (1 : Int32) (fun v5 => lt (x3 + 1) (fun v6 => kr39 v5 v6)) else lt (0 : Int32) (fun v3 => lt (x3 + 1) (fun v4 => kr39 v3 v4))))
def fX8_is_l39 (σ : St) (w : Nat) : Nat → Int32 → Int32 → Option (Int32)
  | 0 => fun _ _ => none
  | n + 1 => fX8_is_B39 σ w (fX8_is_l39 σ w n)
def fX8_is_b36 (σ : St) (w : Nat) (y0 : Int32) : Option (Int32) :=
  lt y0 (fun v7 => lt (0 : Int32) (fun v8 => fX8_is_l39 σ w FU v7 v8))
def fX8_is_b35 (σ : St) (w : Nat) : Option (Int32) :=
  fX8_is_b36 σ w (0 : Int32)
def fX8_is (σ : St) (w : Nat) : Option (Int32) :=
  bp (fX8_good σ) (fun r9 => if r9 = 0 then fX8_is_b35 σ w else if (σ.1 62 10) = (1 : Int32) then if ((σ.1 62 8) - (σ.1 62 9)) = (slenI w) then fX8_is_b36 σ w (1 : Int32) else fX8_is_b35 σ w else fX8_is_b35 σ w)
def fX8_isFollowing (σ : St) (a1 : Int32) : Option (Int32) :=
  bp (fX8_saltedNow σ) (fun r1 => bp (fX8_ofClaim σ a1 (2 : Int32)) (fun r2 => if (r1 &&& (r2 ^^^ (-1 : Int32))) = 0 then gd ((1 : Int32) = 0 ∨ (1 : Int32) = 1) (some (1 : Int32)) else gd ((0 : Int32) = 0 ∨ (0 : Int32) = 1) (some (0 : Int32))))
def fX8_isLeastProof_B13 (σ : St) (kr13 : Int32 → Int32 → Int32 → Option (Int32)) (x1 : Int32) (x2 : Int32) (x3 : Int32) : Option (Int32) :=
  gd (ir (4 : Int32) 77) (if (σ.1 63 (4 : Int32).toNatClampNeg) ≤ x3 then gd ((1 : Int32) = 0 ∨ (1 : Int32) = 1) (some (1 : Int32)) else bp (fX8_bit x1 x3) (fun r1 => if r1 = (1 : Int32) then bp (fX8_isProvedBy σ (x1 &&& (((1 : Int32) <<< (x3 &&& 31)) ^^^ (-1 : Int32))) x2) (fun r3 => if r3 = 0 then lt (x3 + 1) (fun v4 => kr13 x1 x2 v4) else gd ((0 : Int32) = 0 ∨ (0 : Int32) = 1) (some (0 : Int32))) else lt (x3 + 1) (fun v2 => kr13 x1 x2 v2)))
def fX8_isLeastProof_l13 (σ : St) : Nat → Int32 → Int32 → Int32 → Option (Int32)
  | 0 => fun _ _ _ => none
  | n + 1 => fX8_isLeastProof_B13 σ (fX8_isLeastProof_l13 σ n)
def fX8_isLeastProof (σ : St) (a1 : Int32) (a2 : Int32) : Option (Int32) :=
  bp (fX8_isProvedBy σ a1 a2) (fun r5 => if r5 = 0 then gd ((0 : Int32) = 0 ∨ (0 : Int32) = 1) (some (0 : Int32)) else lt (0 : Int32) (fun v6 => fX8_isLeastProof_l13 σ FU a1 a2 v6))
def fX8_likely (σ : St) (a1 : Int32) (a2 : Int32) : Option (Int32) :=
  bp (fX8_isClaim σ (a1.toInt64)) (fun r1 => if r1 = 0 then some (-2 : Int32) else bp (fX8_in (a2.toInt64) (0 : Int64) (1 : Int64)) (fun r2 => if r2 = 0 then some (-2 : Int32) else bp (fX8_saltedNow σ) (fun r3 => lt r3 (fun v4 => if v4 = 0 then some a2 else bp (fX8_ofClaim σ a1 (2 : Int32)) (fun r5 => bp (fX8_bits (v4 &&& r5)) (fun r6 => bp (fX8_bits v4) (fun r7 => bp (fX8_part r6 r7 a2) (fun r8 => some r8))))))))
def fX8_menuOf (σ : St) (a1 : Int32) : Option (Int32 × St) :=
  bp (fX8_saltNow σ) (fun r1 => bp (fX8_ofGuest σ a1 (1 : Int32)) (fun r2 => bp (fX8_canDo σ a1) (fun r3 => bs (fX8_mostBy σ r1 r2 r3) (fun r4 σ5 => some (r4, σ5)))))
def fX8_needs__b66 (σ : St) (kr30 : Int32 → Int32 → Int32 → Option (Int32)) (x1 : Int32) (x3 : Int32) (y0 : Int32) (y1 : Int32) : Option (Int32) :=
  lt (y0 ||| y1) (fun v1 => lt (x3 + 1) (fun v2 => kr30 x1 v1 v2))
def fX8_needs__B30 (σ : St) (kr30 : Int32 → Int32 → Int32 → Option (Int32)) (x1 : Int32) (x2 : Int32) (x3 : Int32) : Option (Int32) :=
  gd (ir (4 : Int32) 77) (if (σ.1 63 (4 : Int32).toNatClampNeg) ≤ x3 then some x2 else bp (fX8_allSteps σ) (fun r3 => bp (fX8_isProvedBy σ (r3 &&& (((1 : Int32) <<< (x3 &&& 31)) ^^^ (-1 : Int32))) x1) (fun r4 => if r4 = 0 then fX8_needs__b66 σ kr30 x1 x3 x2 ((1 : Int32) <<< (x3 &&& 31)) else fX8_needs__b66 σ kr30 x1 x3 x2 (0 : Int32))))
def fX8_needs__l30 (σ : St) : Nat → Int32 → Int32 → Int32 → Option (Int32)
  | 0 => fun _ _ _ => none
  | n + 1 => fX8_needs__B30 σ (fX8_needs__l30 σ n)
def fX8_needs_ (σ : St) (a1 : Int32) : Option (Int32) :=
  bp (fX8_isClaim σ (a1.toInt64)) (fun r5 => if r5 = 0 then some (-2 : Int32) else bp (fX8_allSteps σ) (fun r6 => bp (fX8_isProvedBy σ r6 a1) (fun r7 => if r7 = 0 then some (-1 : Int32) else lt (0 : Int32) (fun v8 => lt (0 : Int32) (fun v9 => fX8_needs__l30 σ FU a1 v8 v9)))))
def fX8_proofOf (σ : St) (a1 : Int32) : Option (Int32) :=
  bp (fX8_saltNow σ) (fun r1 => bp (fX8_allSteps σ) (fun r2 => bp (fX8_fewestSteps σ r1 r2 ((1 : Int32) <<< (a1 &&& 31))) (fun r3 => some r3)))
def fX8_proved (σ : St) : Option (Int32) :=
  bp (fX8_isTable σ) (fun r1 => if r1 = 0 then some (-2 : Int32) else bp (fX8_provedNow σ) (fun r2 => some r2))
def fX8_readSalt_b38 (σ : St) : Option (St) :=
  bs (fX8_freshClaim σ) (fun r1 σ2 => lt r1 (fun v3 => bp (fX8_good σ2) (fun r4 => if r4 = 0 then some σ2 else gd (ir (((7 : Int32) + ((3 : Int32) * v3)) + (1 : Int32)) 77) (lt (setI σ2 68 (((7 : Int32) + ((3 : Int32) * v3)) + (1 : Int32)).toNatClampNeg (1 : Int32)) (fun σ5 => some σ5)))))
def fX8_readSalt (σ : St) : Option (St) :=
  gd (ir (3 : Int32) 77) (bp (fX8_isNextIn σ (σ.1 68 (3 : Int32).toNatClampNeg)) (fun r6 => if r6 = 0 then fX8_readSalt_b38 σ else gd (ir (((7 : Int32) + ((3 : Int32) * (σ.1 62 11))) + (1 : Int32)) 77) (if (σ.1 68 (((7 : Int32) + ((3 : Int32) * (σ.1 62 11))) + (1 : Int32)).toNatClampNeg) = (1 : Int32) then bp (fX8_errs σ (2 : Int32)) (fun σ7 => fX8_readSalt_b38 σ7) else fX8_readSalt_b38 σ)))
def fX8_rests (σ : St) (a1 : Int32) : Option (Int32) :=
  bp (fX8_isStep σ (a1.toInt64)) (fun r1 => if r1 = 0 then some (-2 : Int32) else bp (fX8_provedNow σ) (fun r2 => bp (fX8_saltNow σ) (fun r3 => bp (fX8_allSteps σ) (fun r4 => bp (fX8_provedBy σ r3 (r4 &&& (((1 : Int32) <<< (a1 &&& 31)) ^^^ (-1 : Int32)))) (fun r5 => some (r2 &&& (r5 ^^^ (-1 : Int32))))))))
def fX8_salted (σ : St) : Option (Int32) :=
  bp (fX8_isTable σ) (fun r1 => if r1 = 0 then some (-2 : Int32) else bp (fX8_saltedNow σ) (fun r2 => some r2))
def fX8_same_b35 (σ : St) (x1 : Int32) (x2 : Int32) (x3 : Int32) (y0 : Int32) : Option (Int32 × St) :=
  lt y0 (fun v1 => if v1 = 0 then some ((-2 : Int32), σ) else gd (ir x1 4) (if (σ.1 78 x1.toNatClampNeg) = (-1 : Int32) then some ((-6 : Int32), σ) else gd (ir x2 4) (if (σ.1 78 x2.toNatClampNeg) = (-1 : Int32) then some ((-6 : Int32), σ) else bp (fX8_asksRow σ x1 (1 : Int32)) (fun r2 => if r2 < 0 then some ((-2 : Int32), σ) else bp (fX8_asksRow σ x2 (1 : Int32)) (fun r3 => if 0 ≤ r3 then bs (fX8_usedBy σ x1 x3) (fun r4 σ5 => bs (fX8_usedBy σ5 x2 x3) (fun r6 σ7 => if r4 = r6 then some ((1 : Int32), σ7) else some ((0 : Int32), σ7))) else some ((-2 : Int32), σ))))))
def fX8_same_b34 (σ : St) (x1 : Int32) (x2 : Int32) (x3 : Int32) : Option (Int32 × St) :=
  fX8_same_b35 σ x1 x2 x3 (0 : Int32)
def fX8_same (σ : St) (a1 : Int32) (a2 : Int32) (a3 : Int32) : Option (Int32 × St) :=
  bp (fX8_isSlot a1) (fun r8 => if r8 = 0 then fX8_same_b34 σ a1 a2 a3 else bp (fX8_isSlot a2) (fun r9 => if r9 = 0 then fX8_same_b34 σ a1 a2 a3 else bp (fX8_isTable σ) (fun r10 => if r10 = 0 then fX8_same_b34 σ a1 a2 a3 else bp (fX8_isClaim σ (a3.toInt64)) (fun r11 => if r11 = 0 then fX8_same_b34 σ a1 a2 a3 else fX8_same_b35 σ a1 a2 a3 (1 : Int32)))))
def fX8_spare (σ : St) (a1 : Int32) : Option (Int32) :=
  bp (fX8_areClaims σ a1) (fun r1 => if r1 = 0 then some (-2 : Int32) else bp (fX8_spareOf σ a1) (fun r2 => lt r2 (fun v3 => if v3 = (-1 : Int32) then some (-1 : Int32) else bp (fX8_bits v3) (fun r4 => some r4))))
def fX8_spared (σ : St) (a1 : Int32) : Option (Int32) :=
  bp (fX8_areClaims σ a1) (fun r1 => if r1 = 0 then some (-2 : Int32) else bp (fX8_spareOf σ a1) (fun r2 => some r2))
def fX8_step (σ : St) (a1 : Int32) (a2 : Int32) : Option (Int32) :=
  bp (fX8_isStep σ (a1.toInt64)) (fun r1 => if r1 = 0 then some (-2 : Int32) else bp (fX8_in (a2.toInt64) (0 : Int64) (2 : Int64)) (fun r2 => if r2 = 0 then some (-2 : Int32) else if (2 : Int32) ≤ a2 then bp (fX8_falseIn σ a1) (fun r3 => if r3 = 0 then some (1 : Int32) else some (0 : Int32)) else bp (fX8_ofStep σ a1 a2) (fun r4 => some r4)))
def fX8_takes_ (σ : St) (a1 : Int32) (a2 : Int32) : Option (Int32) :=
  bp (fX8_isGuest σ (a1.toInt64)) (fun r1 => if r1 = 0 then some (-2 : Int32) else bp (fX8_areClaims σ a2) (fun r2 => if r2 = 0 then some (-2 : Int32) else bp (fX8_saltNow σ) (fun r3 => bp (fX8_ofGuest σ a1 (1 : Int32)) (fun r4 => bp (fX8_fewestSteps σ r3 r4 a2) (fun r5 => lt r5 (fun v6 => if v6 = (-1 : Int32) then some (-1 : Int32) else bp (fX8_bits v6) (fun r7 => bp (fX8_ofGuest σ a1 (0 : Int32)) (fun r8 => some (r7 * r8)))))))))
def fX8_used (σ : St) (a1 : Int32) (a2 : Int32) : Option (Int32 × St) :=
  bp (fX8_isClaim σ (a2.toInt64)) (fun r1 => bp (fX8_asksRow σ a1 r1) (fun r2 => lt r2 (fun v3 => if 0 ≤ v3 then bs (fX8_usedBy σ a1 a2) (fun r4 σ5 => some (r4, σ5)) else some (v3, σ))))
def fX8_worstOf (σ : St) (a1 : Int32) : Option (Int32) :=
  bp (fX8_saltedNow σ) (fun r1 => bp (fX8_ofClaim σ a1 (2 : Int32)) (fun r2 => bp (fX8_bits (r1 &&& r2)) (fun r3 => lt r3 (fun v4 => bp (fX8_saltedNow σ) (fun r5 => bp (fX8_bits r5) (fun r6 => some (if v4 < (r6 - v4) then (r6 - v4) else v4)))))))
def fX7_ate (σ : St) (a1 : Int32) : Option (Int32 × St) :=
  bp (fX7_refusalOfDishes σ a1) (fun r1 => lt r1 (fun v2 => if v2 = 0 then gd (ir a1 4) (lt (rowp a1.toNatClampNeg) (fun k3 => bp (fX4_asSet σ k3) (fun r4 => bs (fX7_guestsProving σ r4) (fun r5 σ6 => some (r5, σ6))))) else some (v2, σ)))
def fX7_bite_B51 (kr51 : St → Int32 → Int32 → Int32 → Int32 → Option (Int32 × St)) (σ : St) (x2 : Int32) (x3 : Int32) (x4 : Int32) (x5 : Int32) : Option (Int32 × St) :=
  if x2 ≤ x5 then bp (fX6_firstGoing σ 3 x3 x4) (fun r1 => some (r1, σ)) else bp (fX6_firstGoing σ 3 x3 x4) (fun r2 => lt r2 (fun v3 => if v3 = (-1 : Int32) then some ((-1 : Int32), σ) else gd (ir v3 12) (lt (x4 ||| ((1 : Int32) <<< ((σ.1 (3 + 3) v3.toNatClampNeg) &&& 31))) (fun v4 => lt (x5 + 1) (fun v5 => kr51 σ x2 x3 v4 v5)))))
def fX7_bite_l51 : Nat → St → Int32 → Int32 → Int32 → Int32 → Option (Int32 × St)
  | 0 => fun _ _ _ _ _ => none
  | n + 1 => fX7_bite_B51 (fX7_bite_l51 n)
def fX7_bite (σ : St) (a1 : Int32) (a2 : Int32) : Option (Int32 × St) :=
  bp (fX6_hasClaim σ 3 a1) (fun r6 => if r6 = 0 then some ((-2 : Int32), σ) else bs (fX7_shortestSet σ a1) (fun r7 σ8 => lt r7 (fun v9 => if v9 = (-1 : Int32) then some ((-1 : Int32), σ8) else if a2 < 0 then some ((-1 : Int32), σ8) else bp (fJ6_bitCount_0f7a4 v9) (fun r10 => if a2 < r10 then lt (σ8.1 3 7) (fun v11 => lt (0 : Int32) (fun v12 => fX7_bite_l51 FU σ8 a2 v9 v11 v12)) else some ((-1 : Int32), σ8)))))
def fX7_course (σ : St) (a1 : Int32) : Option (Int32 × St) :=
  bp (fX6_hasGuest σ 3 a1) (fun r1 => if r1 = 0 then some ((-2 : Int32), σ) else bs (fX7_menuSet σ a1 (0 : Int32)) (fun r2 σ3 => some (r2, σ3)))
def fX7_covered (σ : St) : Option (Int32 × St) :=
  bp (fX6_isTold σ 3) (fun r1 => if r1 = 0 then some ((-2 : Int32), σ) else bp (fX6_following σ 3) (fun r2 => bs (fX7_provedByAll σ) (fun r3 σ4 => some ((r2 &&& (r3 ^^^ (-1 : Int32))), σ4))))
def fX7_dishes (σ : St) (a1 : Int32) : Option (Int32 × St) :=
  bp (fX6_hasGuest σ 3 a1) (fun r1 => if r1 = 0 then some ((-2 : Int32), σ) else bp (fX7_freshProofs σ) (fun σ2 => bs (fX7_menuSet σ2 a1 (0 : Int32)) (fun r3 σ4 => gd (ir r3 4096) (some (((σ4.1 (49 + 1) r3.toNatClampNeg) &&& ((σ4.1 3 7) ^^^ (-1 : Int32))), σ4)))))
def fX7_falls (σ : St) (a1 : Int32) : Option (Int32 × St) :=
  bp (fX6_hasClaim σ 3 a1) (fun r1 => if r1 = 0 then some ((-2 : Int32), σ) else if (((σ.1 3 7) >>> (a1 &&& 31)) &&& (1 : Int32)) = 0 then some ((-2 : Int32), σ) else bs (fX7_provedByAll σ) (fun r2 σ3 => bp (fX6_allSteps σ3 3) (fun r4 => bp (fX6_spread σ3 3 r4 ((σ3.1 3 7) &&& (((1 : Int32) <<< (a1 &&& 31)) ^^^ (-1 : Int32)))) (fun r5 => some ((r2 &&& (r5 ^^^ (-1 : Int32))), σ3)))))
def fX7_host_B16 (kr16 : St → Int32 → Int32 → Option (Int32 × St)) (σ : St) (x1 : Int32) (x2 : Int32) : Option (Int32 × St) :=
  if (σ.1 3 4) ≤ x2 then some ((-1 : Int32), σ) else bs (fX7_guestsProving σ ((1 : Int32) <<< (x2 &&& 31))) (fun r1 σ2 => if r1 = x1 then some (x2, σ2) else lt (x2 + 1) (fun v3 => kr16 σ2 x1 v3))
def fX7_host_l16 : Nat → St → Int32 → Int32 → Option (Int32 × St)
  | 0 => fun _ _ _ => none
  | n + 1 => fX7_host_B16 (fX7_host_l16 n)
def fX7_host (σ : St) (a1 : Int32) : Option (Int32 × St) :=
  bp (fX6_isGuestSet σ 3 a1) (fun r4 => if r4 = 0 then some ((-2 : Int32), σ) else lt (0 : Int32) (fun v5 => fX7_host_l16 FU σ a1 v5))
def fX7_leastTeam_B8 (kr8 : St → Int32 → Int32 → Int32 → Int32 → Option (Int32 × St)) (σ : St) (x1 : Int32) (x2 : Int32) (x3 : Int32) (x4 : Int32) : Option (Int32 × St) :=
  if ((1 : Int32) <<< ((σ.1 3 6) &&& 31)) ≤ x4 then some (x2, σ) else bp (fJ6_bitCount_0f7a4 x4) (fun r1 => lt r1 (fun v2 => if x3 ≤ v2 then lt (x4 + 1) (fun v3 => kr8 σ x1 x2 x3 v3) else bs (fX7_doesTeamProve σ x4 x1) (fun r4 σ5 => if r4 = 0 then lt (x4 + 1) (fun v6 => kr8 σ5 x1 x2 x3 v6) else lt x4 (fun v7 => lt v2 (fun v8 => lt (x4 + 1) (fun v9 => kr8 σ5 x1 v7 v8 v9))))))
def fX7_leastTeam_l8 : Nat → St → Int32 → Int32 → Int32 → Int32 → Option (Int32 × St)
  | 0 => fun _ _ _ _ _ => none
  | n + 1 => fX7_leastTeam_B8 (fX7_leastTeam_l8 n)
def fX7_leastTeam (σ : St) (a1 : Int32) : Option (Int32 × St) :=
  lt (-1 : Int32) (fun v10 => lt (6 : Int32) (fun v11 => lt (0 : Int32) (fun v12 => fX7_leastTeam_l8 FU σ a1 v10 v11 v12)))
def fX7_lengthOfDuel (σ : St) : Option (Int32 × St) :=
  bs (fX7_provedByAll σ) (fun r1 σ2 => bp (fJ6_bitCount_0f7a4 (r1 &&& ((σ2.1 3 7) ^^^ (-1 : Int32)))) (fun r3 => some (r3, σ2)))
def fX7_menuWorth (σ : St) (a1 : Int32) (a2 : Int32) : Option (Int32 × St) :=
  bp (fX7_freshProofs σ) (fun σ1 => bs (fX7_menuSet σ1 a1 a2) (fun r2 σ3 => gd (ir r2 4096) (bp (fX6_worthOf σ3 3 ((σ3.1 (49 + 1) r2.toNatClampNeg) &&& ((σ3.1 3 7) ^^^ (-1 : Int32)))) (fun r4 => some (r4, σ3)))))
def fX7_needs_B31 (kr31 : St → Int32 → Int32 → Int32 → Option (Int32 × St)) (σ : St) (x1 : Int32) (x2 : Int32) (x3 : Int32) : Option (Int32 × St) :=
  if (σ.1 3 5) ≤ x3 then some (x2, σ) else bs (fX7_provedWithout σ x3) (fun r1 σ2 => if ((r1 >>> (x1 &&& 31)) &&& (1 : Int32)) = 0 then lt (x2 ||| ((1 : Int32) <<< (x3 &&& 31))) (fun v4 => lt (x3 + 1) (fun v5 => kr31 σ2 x1 v4 v5)) else lt (x3 + 1) (fun v3 => kr31 σ2 x1 x2 v3))
def fX7_needs_l31 : Nat → St → Int32 → Int32 → Int32 → Option (Int32 × St)
  | 0 => fun _ _ _ _ => none
  | n + 1 => fX7_needs_B31 (fX7_needs_l31 n)
def fX7_needs (σ : St) (a1 : Int32) : Option (Int32 × St) :=
  bp (fX6_hasClaim σ 3 a1) (fun r6 => if r6 = 0 then some ((-2 : Int32), σ) else bs (fX7_provedByAll σ) (fun r7 σ8 => if ((r7 >>> (a1 &&& 31)) &&& (1 : Int32)) = 0 then some ((-1 : Int32), σ8) else lt (0 : Int32) (fun v9 => lt (0 : Int32) (fun v10 => fX7_needs_l31 FU σ8 a1 v9 v10))))
def fX7_proof (σ : St) (a1 : Int32) : Option (Int32 × St) :=
  bp (fX6_hasClaim σ 3 a1) (fun r1 => if r1 = 0 then some ((-2 : Int32), σ) else bs (fX7_shortestSet σ a1) (fun r2 σ3 => some (r2, σ3)))
def fX7_proved (σ : St) : Option (Int32 × St) :=
  bp (fX6_isTold σ 3) (fun r1 => if r1 = 0 then some ((-2 : Int32), σ) else bs (fX7_provedByAll σ) (fun r2 σ3 => some (r2, σ3)))
def fX7_rests (σ : St) (a1 : Int32) : Option (Int32 × St) :=
  bp (fX6_hasStep σ 3 a1) (fun r1 => if r1 = 0 then some ((-2 : Int32), σ) else bs (fX7_provedByAll σ) (fun r2 σ3 => bs (fX7_provedWithout σ3 a1) (fun r4 σ5 => some ((r2 &&& (r4 ^^^ (-1 : Int32))), σ5))))
def fX7_shortest (σ : St) (a1 : Int32) : Option (Int32 × St) :=
  bp (fX6_hasClaim σ 3 a1) (fun r1 => if r1 = 0 then some ((-2 : Int32), σ) else bs (fX7_shortestSet σ a1) (fun r2 σ3 => bp (fX7_sizeOrNone r2) (fun r4 => some (r4, σ3))))
def fX7_together (σ : St) (a1 : Int32) (a2 : Int32) : Option (Int32 × St) :=
  bp (fX6_isGuestSet σ 3 a1) (fun r1 => if r1 = 0 then some ((-2 : Int32), σ) else bp (fX6_hasClaim σ 3 a2) (fun r2 => if r2 = 0 then some ((-2 : Int32), σ) else bs (fX7_doesTeamProve σ a1 a2) (fun r3 σ4 => bp (fX7_bit r3) (fun r5 => some (r5, σ4)))))
def fX7_who (σ : St) (a1 : Int32) : Option (Int32 × St) :=
  bp (fX6_hasClaim σ 3 a1) (fun r1 => if r1 = 0 then some ((-2 : Int32), σ) else bs (fX7_guestsProving σ ((1 : Int32) <<< (a1 &&& 31))) (fun r2 σ3 => some (r2, σ3)))
def fX7_wrong (σ : St) : Option (Int32 × St) :=
  bp (fX6_isTold σ 3) (fun r1 => if r1 = 0 then some ((-2 : Int32), σ) else bs (fX7_provedByAll σ) (fun r2 σ3 => bp (fX6_following σ3 3) (fun r4 => some ((r2 &&& (r4 ^^^ (-1 : Int32))), σ3))))
def fX2_operatorHere (σ : St) : Option (Int32) :=
  bp (fX2_isWord σ 8) (fun r1 => if r1 = 0 then bp (fX2_isWord σ 9) (fun r2 => if r2 = 0 then bp (fX2_isWord σ 10) (fun r3 => if r3 = 0 then bp (fX2_isWord σ 11) (fun r4 => if r4 = 0 then some (0 : Int32) else some (4 : Int32)) else some (3 : Int32)) else some (2 : Int32)) else some (1 : Int32))
def fX2_readWord (σ : St) (w : Nat) : Option (Int32 × St) :=
  bp (fX2_isWord σ w) (fun r1 => if r1 = 0 then bs (fX2_fail σ (1 : Int32)) (fun r3 σ4 => gd (r3 = 0 ∨ r3 = 1) (some (r3, σ4))) else bp (fX2_advance σ) (fun σ2 => gd ((1 : Int32) = 0 ∨ (1 : Int32) = 1) (some ((1 : Int32), σ2))))
def fX2_worldsOfLeaf (σ : St) (t : Nat) : Option (Int32) :=
  bp (fX2_isWord σ 6) (fun r1 => if r1 = 0 then bp (fX2_isWord σ 7) (fun r2 => if r2 = 0 then if (σ.1 1 4) = (1 : Int32) then if ((σ.1 1 6) - (σ.1 1 5)) = (1 : Int32) then gd (ir (σ.1 1 5) 1600) (lt ((σ.1 2 (σ.1 1 5).toNatClampNeg) - (97 : Int32)) (fun v3 => if (σ.1 t 1) ≤ v3 then some (-1 : Int32) else bp (fX6_worldsOfAtom σ t v3) (fun r4 => some r4))) else some (-1 : Int32) else some (-1 : Int32) else some (0 : Int32)) else bp (fX6_allWorlds σ t) (fun r5 => some r5))
def fX8_askOf_B12 (σ : St) (kr12 : Int32 → Int32 → Int32 → Option (Int32)) (x1 : Int32) (x2 : Int32) (x3 : Int32) : Option (Int32) :=
  gd (ir (3 : Int32) 77) (if (σ.1 63 (3 : Int32).toNatClampNeg) ≤ x3 then some x1 else bp (fX8_worstOf σ x3) (fun r1 => if r1 < x2 then bp (fX8_worstOf σ x3) (fun r2 => lt r2 (fun v3 => lt x3 (fun v4 => lt (x3 + 1) (fun v5 => kr12 v4 v3 v5)))) else lt (x3 + 1) (fun v6 => kr12 x1 x2 v6)))
def fX8_askOf_l12 (σ : St) : Nat → Int32 → Int32 → Int32 → Option (Int32)
  | 0 => fun _ _ _ => none
  | n + 1 => fX8_askOf_B12 σ (fX8_askOf_l12 σ n)
def fX8_askOf (σ : St) : Option (Int32) :=
  lt (-1 : Int32) (fun v7 => bp (fX8_saltedNow σ) (fun r8 => bp (fX8_bits r8) (fun r9 => lt r9 (fun v10 => lt (0 : Int32) (fun v11 => fX8_askOf_l12 σ FU v7 v10 v11)))))
def fX8_ate_b52 (σ : St) (kr18 : Int32 → Int32 → Int32 → Option (Int32)) (x1 : Int32) (x4 : Int32) (y0 : Int32) (y1 : Int32) : Option (Int32) :=
  lt (y0 ||| y1) (fun v1 => lt (x4 + 1) (fun v2 => kr18 x1 v1 v2))
def fX8_ate_B18 (σ : St) (kr18 : Int32 → Int32 → Int32 → Option (Int32)) (x1 : Int32) (x3 : Int32) (x4 : Int32) : Option (Int32) :=
  gd (ir (5 : Int32) 77) (if (σ.1 63 (5 : Int32).toNatClampNeg) ≤ x4 then some x3 else bp (fX8_eatenBy σ x1) (fun r3 => bp (fX8_canProve σ x4 r3) (fun r4 => if r4 = 0 then fX8_ate_b52 σ kr18 x1 x4 x3 (0 : Int32) else fX8_ate_b52 σ kr18 x1 x4 x3 ((1 : Int32) <<< (x4 &&& 31)))))
def fX8_ate_l18 (σ : St) : Nat → Int32 → Int32 → Int32 → Option (Int32)
  | 0 => fun _ _ _ => none
  | n + 1 => fX8_ate_B18 σ (fX8_ate_l18 σ n)
def fX8_ate (σ : St) (a1 : Int32) : Option (Int32) :=
  bp (fX8_asksEaten σ a1 (1 : Int32)) (fun r5 => lt r5 (fun v6 => if 0 ≤ v6 then lt (0 : Int32) (fun v7 => lt (0 : Int32) (fun v8 => fX8_ate_l18 σ FU a1 v7 v8)) else some v6))
def fX8_bite_b99 (σ : St) (kr53 : Int32 → Int32 → Int32 → Int32 → Int32 → Option (Int32)) (x2 : Int32) (x3 : Int32) (x4 : Int32) (x5 : Int32) (x6 : Int32) : Option (Int32) :=
  gd (ir (4 : Int32) 77) (if x5 = (σ.1 63 (4 : Int32).toNatClampNeg) then some (-1 : Int32) else bp (fX8_ofStep σ x5 (0 : Int32)) (fun r1 => lt (x4 ||| ((1 : Int32) <<< (r1 &&& 31))) (fun v2 => lt (x6 + 1) (fun v3 => kr53 x2 x3 v2 x5 v3))))
def fX8_bite_B62 (σ : St) (kr53 : Int32 → Int32 → Int32 → Int32 → Int32 → Option (Int32)) (kr62 : Int32 → Int32 → Int32 → Int32 → Int32 → Option (Int32)) (x2 : Int32) (x3 : Int32) (x4 : Int32) (x5 : Int32) (x6 : Int32) : Option (Int32) :=
  gd (ir (4 : Int32) 77) (if (σ.1 63 (4 : Int32).toNatClampNeg) ≤ x5 then fX8_bite_b99 σ kr53 x2 x3 x4 x5 x6 else bp (fX8_bit x3 x5) (fun r4 => if r4 = 0 then lt (x5 + 1) (fun v5 => kr62 x2 x3 x4 v5 x6) else bp (fX8_goes σ x5 x4) (fun r6 => if r6 = 0 then lt (x5 + 1) (fun v7 => kr62 x2 x3 x4 v7 x6) else fX8_bite_b99 σ kr53 x2 x3 x4 x5 x6)))
def fX8_bite_l62 (σ : St) (kr53 : Int32 → Int32 → Int32 → Int32 → Int32 → Option (Int32)) : Nat → Int32 → Int32 → Int32 → Int32 → Int32 → Option (Int32)
  | 0 => fun _ _ _ _ _ => none
  | n + 1 => fX8_bite_B62 σ kr53 (fX8_bite_l62 σ kr53 n)
def fX8_bite_B53 (σ : St) (kr53 : Int32 → Int32 → Int32 → Int32 → Int32 → Option (Int32)) (x2 : Int32) (x3 : Int32) (x4 : Int32) (x5 : Int32) (x6 : Int32) : Option (Int32) :=
  if x2 < x6 then some x5 else lt (0 : Int32) (fun v8 => fX8_bite_l62 σ kr53 FU x2 x3 x4 v8 x6)
def fX8_bite_l53 (σ : St) : Nat → Int32 → Int32 → Int32 → Int32 → Int32 → Option (Int32)
  | 0 => fun _ _ _ _ _ => none
  | n + 1 => fX8_bite_B53 σ (fX8_bite_l53 σ n)
def fX8_bite (σ : St) (a1 : Int32) (a2 : Int32) : Option (Int32) :=
  bp (fX8_isClaim σ (a1.toInt64)) (fun r9 => if r9 = 0 then some (-2 : Int32) else bp (fX8_proofOf σ a1) (fun r10 => lt r10 (fun v11 => if v11 = (-1 : Int32) then some (-1 : Int32) else bp (fX8_bits v11) (fun r12 => bp (fX8_in (a2.toInt64) (0 : Int64) ((r12 - (1 : Int32)).toInt64)) (fun r13 => if r13 = 0 then some (-1 : Int32) else bp (fX8_saltNow σ) (fun r14 => lt r14 (fun v15 => lt (0 : Int32) (fun v16 => lt (0 : Int32) (fun v17 => fX8_bite_l53 σ FU a2 v11 v15 v16 v17)))))))))
def fX8_course (σ : St) (a1 : Int32) : Option (Int32 × St) :=
  bp (fX8_isGuest σ (a1.toInt64)) (fun r1 => if r1 = 0 then some ((-2 : Int32), σ) else bs (fX8_menuOf σ a1) (fun r2 σ3 => some ((σ3.1 62 21), σ3)))
def fX8_dishes (σ : St) (a1 : Int32) : Option (Int32 × St) :=
  bp (fX8_isGuest σ (a1.toInt64)) (fun r1 => if r1 = 0 then some ((-2 : Int32), σ) else bs (fX8_menuOf σ a1) (fun r2 σ3 => bp (fX8_saltNow σ3) (fun r4 => bp (fX8_provedBy σ3 r4 (σ3.1 62 21)) (fun r5 => bp (fX8_saltNow σ3) (fun r6 => some ((r5 &&& (r6 ^^^ (-1 : Int32))), σ3))))))
def fX8_feast (σ : St) (a1 : Int32) (a2 : Int32) : Option (Int32 × St) :=
  bp (fX8_isSeed a1) (fun r1 => if r1 = 0 then some ((-2 : Int32), σ) else bp (fX8_isGuest σ (a2.toInt64)) (fun r2 => if r2 = 0 then some ((-2 : Int32), σ) else bs (fX8_feastOf σ (a1.toInt64) a2) (fun r3 σ4 => some (r3, σ4))))
def fX8_following_b30 (σ : St) (kr4 : Int32 → Int32 → Option (Int32)) (x2 : Int32) (y0 : Int32) (y1 : Int32) : Option (Int32) :=
  lt (y0 ||| y1) (fun v1 => lt (x2 + 1) (fun v2 => kr4 v1 v2))
def fX8_following_B4 (σ : St) (kr4 : Int32 → Int32 → Option (Int32)) (x1 : Int32) (x2 : Int32) : Option (Int32) :=
  gd (ir (3 : Int32) 77) (if (σ.1 63 (3 : Int32).toNatClampNeg) ≤ x2 then some x1 else bp (fX8_isFollowing σ x2) (fun r3 => if r3 = 0 then fX8_following_b30 σ kr4 x2 x1 (0 : Int32) else fX8_following_b30 σ kr4 x2 x1 ((1 : Int32) <<< (x2 &&& 31))))
def fX8_following_l4 (σ : St) : Nat → Int32 → Int32 → Option (Int32)
  | 0 => fun _ _ => none
  | n + 1 => fX8_following_B4 σ (fX8_following_l4 σ n)
def fX8_following (σ : St) : Option (Int32) :=
  lt (0 : Int32) (fun v4 => lt (0 : Int32) (fun v5 => fX8_following_l4 σ FU v4 v5))
def fX8_follows (σ : St) (a1 : Int32) : Option (Int32) :=
  bp (fX8_isClaim σ (a1.toInt64)) (fun r1 => if r1 = 0 then some (-2 : Int32) else bp (fX8_isFollowing σ a1) (fun r2 => if r2 = 0 then some (0 : Int32) else some (1 : Int32)))
def fX8_formWord_b75 (σ : St) (y1 : Int32) : Option (Int32 × St) :=
  lt (setI σ 62 18 y1) (fun σ1 => if (σ1.1 62 18) = (-1 : Int32) then bp (fX8_good σ1) (fun r2 => if r2 = 0 then some ((5 : Int32), σ1) else if (σ1.1 62 10) = (1 : Int32) then if ((σ1.1 62 8) - (σ1.1 62 9)) = (1 : Int32) then gd (ir (σ1.1 62 9) 1600) (gd (ir (0 : Int32) 77) (bp (fX8_in (((σ1.1 66 (σ1.1 62 9).toNatClampNeg) - (97 : Int32)).toInt64) (0 : Int64) (((σ1.1 68 (0 : Int32).toNatClampNeg) - (1 : Int32)).toInt64)) (fun r3 => if r3 = 0 then some ((5 : Int32), σ1) else gd (ir (σ1.1 62 9) 1600) (bp (fX8_atomWorlds σ1 ((σ1.1 66 (σ1.1 62 9).toNatClampNeg) - (97 : Int32))) (fun r4 => lt (setI σ1 62 18 r4) (fun σ5 => some ((4 : Int32), σ5))))))) else some ((5 : Int32), σ1) else some ((5 : Int32), σ1)) else some ((4 : Int32), σ1))
def fX8_formWord (σ : St) : Option (Int32 × St) :=
  bp (fX8_is σ 8) (fun r6 => if r6 = 0 then bp (fX8_is σ 9) (fun r7 => if r7 = 0 then bp (fX8_is σ 10) (fun r8 => if r8 = 0 then bp (fX8_is σ 11) (fun r9 => if r9 = 0 then bp (fX8_is σ 6) (fun r10 => if r10 = 0 then bp (fX8_is σ 7) (fun r11 => if r11 = 0 then fX8_formWord_b75 σ (-1 : Int32) else fX8_formWord_b75 σ (0 : Int32)) else bp (fX8_freshAll σ) (fun r12 => fX8_formWord_b75 σ r12)) else some ((3 : Int32), σ)) else some ((2 : Int32), σ)) else some ((1 : Int32), σ)) else some ((0 : Int32), σ))
def fX8_lemmaOf_B11 (kr11 : St → Int32 → Int32 → Int32 → Int32 → Option (Int32 × St)) (σ : St) (x1 : Int32) (x2 : Int32) (x3 : Int32) (x4 : Int32) : Option (Int32 × St) :=
  gd (ir (3 : Int32) 77) (if (σ.1 63 (3 : Int32).toNatClampNeg) ≤ x4 then some (x2, σ) else bp (fX8_saltNow σ) (fun r1 => bp (fX8_ofGuest σ x1 (1 : Int32)) (fun r2 => bp (fX8_canDo σ x1) (fun r3 => bs (fX8_mostBy σ (r1 ||| ((1 : Int32) <<< (x4 &&& 31))) r2 r3) (fun r4 σ5 => lt r4 (fun v6 => if x3 < v6 then lt v6 (fun v7 => lt x4 (fun v8 => lt (x4 + 1) (fun v9 => kr11 σ5 x1 v8 v7 v9))) else lt (x4 + 1) (fun v10 => kr11 σ5 x1 x2 x3 v10)))))))
def fX8_lemmaOf_l11 : Nat → St → Int32 → Int32 → Int32 → Int32 → Option (Int32 × St)
  | 0 => fun _ _ _ _ _ => none
  | n + 1 => fX8_lemmaOf_B11 (fX8_lemmaOf_l11 n)
def fX8_lemmaOf (σ : St) (a1 : Int32) : Option (Int32 × St) :=
  lt (-1 : Int32) (fun v11 => bs (fX8_menuOf σ a1) (fun r12 σ13 => lt r12 (fun v14 => lt (0 : Int32) (fun v15 => fX8_lemmaOf_l11 FU σ13 a1 v11 v14 v15))))
def fX8_mean_B48 (kr48 : St → Int32 → Int32 → Int32 → Int32 → Int32 → Int32 → Option (Int32 × St)) (σ : St) (x1 : Int32) (x2 : Int32) (x3 : Int32) (x4 : Int32) (x5 : Int32) (x6 : Int32) : Option (Int32 × St) :=
  if x2 ≤ x6 then bp (fX8_part x5 x2 x4) (fun r1 => some (r1, σ)) else bs (fX8_feastOf σ ((x1.toInt64) + (x6.toInt64)) x3) (fun r2 σ3 => lt (x5 + r2) (fun v4 => lt (x6 + 1) (fun v5 => kr48 σ3 x1 x2 x3 x4 v4 v5)))
def fX8_mean_l48 : Nat → St → Int32 → Int32 → Int32 → Int32 → Int32 → Int32 → Option (Int32 × St)
  | 0 => fun _ _ _ _ _ _ _ => none
  | n + 1 => fX8_mean_B48 (fX8_mean_l48 n)
def fX8_mean (σ : St) (a1 : Int32) (a2 : Int32) (a3 : Int32) (a4 : Int32) : Option (Int32 × St) :=
  bp (fX8_isSeed a1) (fun r6 => if r6 = 0 then some ((-2 : Int32), σ) else bp (fX8_in (a2.toInt64) (1 : Int64) (20 : Int64)) (fun r7 => if r7 = 0 then some ((-2 : Int32), σ) else bp (fX8_isGuest σ (a3.toInt64)) (fun r8 => if r8 = 0 then some ((-2 : Int32), σ) else bp (fX8_in (a4.toInt64) (0 : Int64) (1 : Int64)) (fun r9 => if r9 = 0 then some ((-2 : Int32), σ) else lt (0 : Int32) (fun v10 => lt (0 : Int32) (fun v11 => fX8_mean_l48 FU σ a1 a2 a3 a4 v10 v11))))))
def fX8_menu (σ : St) (a1 : Int32) : Option (Int32 × St) :=
  bp (fX8_isGuest σ (a1.toInt64)) (fun r1 => if r1 = 0 then some ((-2 : Int32), σ) else bs (fX8_menuOf σ a1) (fun r2 σ3 => some (r2, σ3)))
def fX8_proof (σ : St) (a1 : Int32) : Option (Int32) :=
  bp (fX8_isClaim σ (a1.toInt64)) (fun r1 => if r1 = 0 then some (-2 : Int32) else bp (fX8_proofOf σ a1) (fun r2 => some r2))
def fX8_proofs_b39 (σ : St) (kr16 : Int32 → Int32 → Int32 → Option (Int32)) (x1 : Int32) (x3 : Int32) (y0 : Int32) (y1 : Int32) : Option (Int32) :=
  lt (y0 + y1) (fun v1 => lt (x3 + 1) (fun v2 => kr16 x1 v1 v2))
def fX8_proofs_B16 (σ : St) (kr16 : Int32 → Int32 → Int32 → Option (Int32)) (x1 : Int32) (x2 : Int32) (x3 : Int32) : Option (Int32) :=
  bp (fX8_allSteps σ) (fun r3 => if r3 < x3 then some x2 else bp (fX8_isLeastProof σ x3 x1) (fun r4 => if r4 = 0 then fX8_proofs_b39 σ kr16 x1 x3 x2 (0 : Int32) else fX8_proofs_b39 σ kr16 x1 x3 x2 (1 : Int32)))
def fX8_proofs_l16 (σ : St) : Nat → Int32 → Int32 → Int32 → Option (Int32)
  | 0 => fun _ _ _ => none
  | n + 1 => fX8_proofs_B16 σ (fX8_proofs_l16 σ n)
def fX8_proofs (σ : St) (a1 : Int32) : Option (Int32) :=
  bp (fX8_isClaim σ (a1.toInt64)) (fun r5 => if r5 = 0 then some (-2 : Int32) else lt (0 : Int32) (fun v6 => lt (0 : Int32) (fun v7 => fX8_proofs_l16 σ FU a1 v6 v7)))
def fX8_shortest (σ : St) (a1 : Int32) : Option (Int32) :=
  bp (fX8_isClaim σ (a1.toInt64)) (fun r1 => if r1 = 0 then some (-2 : Int32) else bp (fX8_proofOf σ a1) (fun r2 => lt r2 (fun v3 => if v3 = (-1 : Int32) then some (-1 : Int32) else bp (fX8_bits v3) (fun r4 => some r4))))
def fX8_takes (σ : St) (w : Nat) : Option (Int32 × St) :=
  bp (fX8_is σ w) (fun r1 => lt r1 (fun v2 => if v2 = 0 then gd (v2 = 0 ∨ v2 = 1) (some (v2, σ)) else bp (fX8_advance σ) (fun σ3 => gd (v2 = 0 ∨ v2 = 1) (some (v2, σ3)))))
def fX8_teamOf_b28 (σ : St) (kr4 : Int32 → Int32 → Int32 → Option (Int32)) (x1 : Int32) (x2 : Int32) (x3 : Int32) : Option (Int32) :=
  bp (fX8_canTogether σ x3 x1) (fun r1 => if r1 = 0 then lt (x3 + 1) (fun v2 => kr4 x1 x2 v2) else lt x3 (fun v3 => lt (x3 + 1) (fun v4 => kr4 x1 v3 v4)))
def fX8_teamOf_B4 (σ : St) (kr4 : Int32 → Int32 → Int32 → Option (Int32)) (x1 : Int32) (x2 : Int32) (x3 : Int32) : Option (Int32) :=
  bp (fX8_allGuests σ) (fun r5 => if r5 < x3 then some x2 else if x2 = (-1 : Int32) then fX8_teamOf_b28 σ kr4 x1 x2 x3 else bp (fX8_bits x3) (fun r6 => bp (fX8_bits x2) (fun r7 => if r7 ≤ r6 then lt (x3 + 1) (fun v8 => kr4 x1 x2 v8) else fX8_teamOf_b28 σ kr4 x1 x2 x3)))
def fX8_teamOf_l4 (σ : St) : Nat → Int32 → Int32 → Int32 → Option (Int32)
  | 0 => fun _ _ _ => none
  | n + 1 => fX8_teamOf_B4 σ (fX8_teamOf_l4 σ n)
def fX8_teamOf (σ : St) (a1 : Int32) : Option (Int32) :=
  lt (-1 : Int32) (fun v9 => lt (0 : Int32) (fun v10 => fX8_teamOf_l4 σ FU a1 v9 v10))
def fX8_together (σ : St) (a1 : Int32) (a2 : Int32) : Option (Int32) :=
  bp (fX8_areGuests σ a1) (fun r1 => if r1 = 0 then some (-2 : Int32) else bp (fX8_isClaim σ (a2.toInt64)) (fun r2 => if r2 = 0 then some (-2 : Int32) else bp (fX8_canTogether σ a1 a2) (fun r3 => if r3 = 0 then some (0 : Int32) else some (1 : Int32))))
def fX8_whoOf_b33 (σ : St) (kr4 : Int32 → Int32 → Int32 → Option (Int32)) (x1 : Int32) (x3 : Int32) (y0 : Int32) (y1 : Int32) : Option (Int32) :=
  lt (y0 ||| y1) (fun v1 => lt (x3 + 1) (fun v2 => kr4 x1 v1 v2))
def fX8_whoOf_B4 (σ : St) (kr4 : Int32 → Int32 → Int32 → Option (Int32)) (x1 : Int32) (x2 : Int32) (x3 : Int32) : Option (Int32) :=
  gd (ir (5 : Int32) 77) (if (σ.1 63 (5 : Int32).toNatClampNeg) ≤ x3 then some x2 else bp (fX8_canProve σ x3 ((1 : Int32) <<< (x1 &&& 31))) (fun r3 => if r3 = 0 then fX8_whoOf_b33 σ kr4 x1 x3 x2 (0 : Int32) else fX8_whoOf_b33 σ kr4 x1 x3 x2 ((1 : Int32) <<< (x3 &&& 31))))
def fX8_whoOf_l4 (σ : St) : Nat → Int32 → Int32 → Int32 → Option (Int32)
  | 0 => fun _ _ _ => none
  | n + 1 => fX8_whoOf_B4 σ (fX8_whoOf_l4 σ n)
def fX8_whoOf (σ : St) (a1 : Int32) : Option (Int32) :=
  lt (0 : Int32) (fun v4 => lt (0 : Int32) (fun v5 => fX8_whoOf_l4 σ FU a1 v4 v5))
def fX7_duel (σ : St) : Option (Int32 × St) :=
  bp (fX6_isTold σ 3) (fun r1 => if r1 = 0 then some ((-2 : Int32), σ) else bs (fX7_lengthOfDuel σ) (fun r2 σ3 => some ((r2 &&& (1 : Int32)), σ3)))
def fX7_feast (σ : St) (a1 : Int32) (a2 : Int32) : Option (Int32 × St) :=
  bp (fX6_hasGuest σ 3 a2) (fun r1 => if r1 = 0 then some ((-2 : Int32), σ) else bp (fX7_isSeed a1) (fun r2 => if r2 = 0 then some ((-2 : Int32), σ) else bp (fX6_holedSteps σ 3 a1) (fun r3 => bs (fX7_menuWorth σ a2 r3) (fun r4 σ5 => some (r4, σ5)))))
def fX7_fewest (σ : St) (a1 : Int32) : Option (Int32 × St) :=
  bp (fX6_hasClaim σ 3 a1) (fun r1 => if r1 = 0 then some ((-2 : Int32), σ) else bs (fX7_leastTeam σ a1) (fun r2 σ3 => bp (fX7_sizeOrNone r2) (fun r4 => some (r4, σ3))))
def fX7_lasts (σ : St) : Option (Int32 × St) :=
  bp (fX6_isTold σ 3) (fun r1 => if r1 = 0 then some ((-2 : Int32), σ) else bs (fX7_lengthOfDuel σ) (fun r2 σ3 => some (r2, σ3)))
def fX7_lemma_B26 (kr26 : St → Int32 → Int32 → Int32 → Int32 → Option (Int32 × St)) (σ : St) (x1 : Int32) (x2 : Int32) (x3 : Int32) (x4 : Int32) : Option (Int32 × St) :=
  if (σ.1 3 4) ≤ x4 then some (x2, σ) else bs (fX7_worthWithLemma σ x1 x4) (fun r1 σ2 => lt r1 (fun v3 => if v3 ≤ x3 then lt (x4 + 1) (fun v4 => kr26 σ2 x1 x2 x3 v4) else lt x4 (fun v5 => lt v3 (fun v6 => lt (x4 + 1) (fun v7 => kr26 σ2 x1 v5 v6 v7)))))
def fX7_lemma_l26 : Nat → St → Int32 → Int32 → Int32 → Int32 → Option (Int32 × St)
  | 0 => fun _ _ _ _ _ => none
  | n + 1 => fX7_lemma_B26 (fX7_lemma_l26 n)
def fX7_lemma (σ : St) (a1 : Int32) : Option (Int32 × St) :=
  bp (fX6_hasGuest σ 3 a1) (fun r8 => if r8 = 0 then some ((-2 : Int32), σ) else lt (-1 : Int32) (fun v9 => bs (fX7_menuWorth σ a1 (0 : Int32)) (fun r10 σ11 => lt r10 (fun v12 => lt (0 : Int32) (fun v13 => fX7_lemma_l26 FU σ11 a1 v9 v12 v13)))))
def fX7_mean_B49 (kr49 : St → Int32 → Int32 → Int32 → Int32 → Int32 → Int32 → Option (Int32 × St)) (σ : St) (x1 : Int32) (x2 : Int32) (x3 : Int32) (x4 : Int32) (x5 : Int32) (x6 : Int32) : Option (Int32 × St) :=
  if x2 ≤ x6 then bp (fX7_partOfFraction x5 x2 x4) (fun r1 => some (r1, σ)) else bp (fX6_holedSteps σ 3 (x1 + x6)) (fun r2 => bs (fX7_menuWorth σ x3 r2) (fun r3 σ4 => lt (x5 + r3) (fun v5 => lt (x6 + 1) (fun v6 => kr49 σ4 x1 x2 x3 x4 v5 v6))))
def fX7_mean_l49 : Nat → St → Int32 → Int32 → Int32 → Int32 → Int32 → Int32 → Option (Int32 × St)
  | 0 => fun _ _ _ _ _ _ _ => none
  | n + 1 => fX7_mean_B49 (fX7_mean_l49 n)
def fX7_mean (σ : St) (a1 : Int32) (a2 : Int32) (a3 : Int32) (a4 : Int32) : Option (Int32 × St) :=
  bp (fX6_hasGuest σ 3 a3) (fun r7 => if r7 = 0 then some ((-2 : Int32), σ) else bp (fX7_isSeed a1) (fun r8 => if r8 = 0 then some ((-2 : Int32), σ) else bp (fX7_isBit a4) (fun r9 => if r9 = 0 then some ((-2 : Int32), σ) else if a2 < (1 : Int32) then some ((-2 : Int32), σ) else if a2 ≤ (20 : Int32) then lt (0 : Int32) (fun v10 => lt (0 : Int32) (fun v11 => fX7_mean_l49 FU σ a1 a2 a3 a4 v10 v11)) else some ((-2 : Int32), σ))))
def fX7_menu (σ : St) (a1 : Int32) : Option (Int32 × St) :=
  bp (fX6_hasGuest σ 3 a1) (fun r1 => if r1 = 0 then some ((-2 : Int32), σ) else bs (fX7_menuWorth σ a1 (0 : Int32)) (fun r2 σ3 => some (r2, σ3)))
def fX7_move (σ : St) : Option (Int32 × St) :=
  bp (fX6_isTold σ 3) (fun r1 => if r1 = 0 then some ((-2 : Int32), σ) else bs (fX7_lengthOfDuel σ) (fun r2 σ3 => if (r2 &&& (1 : Int32)) = (1 : Int32) then bp (fX6_allSteps σ3 3) (fun r4 => bp (fX6_firstGoing σ3 3 r4 (σ3.1 3 7)) (fun r5 => some (r5, σ3))) else some ((-1 : Int32), σ3)))
def fX7_team (σ : St) (a1 : Int32) : Option (Int32 × St) :=
  bp (fX6_hasClaim σ 3 a1) (fun r1 => if r1 = 0 then some ((-2 : Int32), σ) else bs (fX7_leastTeam σ a1) (fun r2 σ3 => some (r2, σ3)))
def fX2_readNamed (σ : St) (w : Nat) (a2 : Int32) (a3 : Int32) : Option (Int32 × St) :=
  bs (fX2_readWord σ w) (fun r1 σ2 => if r1 = 0 then some ((-1 : Int32), σ2) else bs (fX2_readNumber σ2 a2 a3) (fun r3 σ4 => some (r3, σ4)))
def fX2_readStep (σ : St) (t : Nat) : Option (Int32 × St) :=
  if (σ.1 t 5) < (12 : Int32) then bp (fX2_advance σ) (fun σ1 => bs (fX2_readNumber σ1 (0 : Int32) ((σ1.1 t 4) - (1 : Int32))) (fun r2 σ3 => lt r2 (fun v4 => if v4 = (-1 : Int32) then gd ((0 : Int32) = 0 ∨ (0 : Int32) = 1) (some ((0 : Int32), σ3)) else bs (fX2_readWord σ3 14) (fun r5 σ6 => if r5 = 0 then gd ((0 : Int32) = 0 ∨ (0 : Int32) = 1) (some ((0 : Int32), σ6)) else bs (fX2_readSet σ6 (σ6.1 t 4) (3 : Int32)) (fun r7 σ8 => lt r7 (fun v9 => if v9 = (-1 : Int32) then gd ((0 : Int32) = 0 ∨ (0 : Int32) = 1) (some ((0 : Int32), σ8)) else bp (fX6_addStep σ8 t v4 v9) (fun σ10 => gd ((1 : Int32) = 0 ∨ (1 : Int32) = 1) (some ((1 : Int32), σ10))))))))) else bs (fX2_fail σ (3 : Int32)) (fun r11 σ12 => gd (r11 = 0 ∨ r11 = 1) (some (r11, σ12)))
def fX8_ask (σ : St) : Option (Int32) :=
  bp (fX8_isTable σ) (fun r1 => if r1 = 0 then some (-2 : Int32) else bp (fX8_askOf σ) (fun r2 => some r2))
def fX8_brings (σ : St) (a1 : Int32) : Option (Int32 × St) :=
  bp (fX8_isGuest σ (a1.toInt64)) (fun r1 => if r1 = 0 then some ((-2 : Int32), σ) else bs (fX8_lemmaOf σ a1) (fun r2 σ3 => lt r2 (fun v4 => if v4 = (-1 : Int32) then some ((0 : Int32), σ3) else bp (fX8_saltNow σ3) (fun r5 => bp (fX8_ofGuest σ3 a1 (1 : Int32)) (fun r6 => bp (fX8_canDo σ3 a1) (fun r7 => bs (fX8_mostBy σ3 (r5 ||| ((1 : Int32) <<< (v4 &&& 31))) r6 r7) (fun r8 σ9 => bs (fX8_menuOf σ9 a1) (fun r10 σ11 => some ((r8 - r10), σ11)))))))))
def fX8_covered (σ : St) : Option (Int32) :=
  bp (fX8_isTable σ) (fun r1 => if r1 = 0 then some (-2 : Int32) else bp (fX8_following σ) (fun r2 => bp (fX8_provedNow σ) (fun r3 => some (r2 &&& (r3 ^^^ (-1 : Int32))))))
def fX8_fewest (σ : St) (a1 : Int32) : Option (Int32) :=
  bp (fX8_isClaim σ (a1.toInt64)) (fun r1 => if r1 = 0 then some (-2 : Int32) else bp (fX8_teamOf σ a1) (fun r2 => lt r2 (fun v3 => if v3 = (-1 : Int32) then some (-1 : Int32) else bp (fX8_bits v3) (fun r4 => some r4))))
def fX8_form_b147 (kr2 : St → Int32 → Option (Int32 × St)) (σ : St) (x1 : Int32) (x3 : Int32) : Option (Int32 × St) :=
  if x1 = 0 then some (x3, σ) else gd (ir (x1 - (1 : Int32)) 8) (gd ((1 : Int32) = 0 ∨ (1 : Int32) = 1) (lt (setI σ 70 (x1 - (1 : Int32)).toNatClampNeg (1 : Int32)) (fun σ1 => gd (ir (x1 - (1 : Int32)) 8) (lt (setI σ1 71 (x1 - (1 : Int32)).toNatClampNeg x3) (fun σ2 => kr2 σ2 x1)))))
def fX8_form_B87 (kr2 : St → Int32 → Option (Int32 × St)) (kr87 : St → Int32 → Int32 → Option (Int32 × St)) (σ : St) (x1 : Int32) (x3 : Int32) : Option (Int32 × St) :=
  if x1 ≤ 0 then fX8_form_b147 kr2 σ x1 x3 else gd (ir (x1 - (1 : Int32)) 8) (if (σ.1 70 (x1 - (1 : Int32)).toNatClampNeg) = 0 then fX8_form_b147 kr2 σ x1 x3 else lt (x1 + (-1)) (fun v3 => gd (ir v3 8) (if (σ.1 69 v3.toNatClampNeg) = (3 : Int32) then bp (fX8_freshAll σ) (fun r6 => lt ((x3 ^^^ (-1 : Int32)) &&& r6) (fun v7 => kr87 σ v3 v7)) else gd (ir v3 8) (gd (ir v3 8) (bp (fX8_joined σ (σ.1 69 v3.toNatClampNeg) (σ.1 71 v3.toNatClampNeg) x3) (fun r4 => lt r4 (fun v5 => kr87 σ v3 v5)))))))
def fX8_form_l87 (kr2 : St → Int32 → Option (Int32 × St)) : Nat → St → Int32 → Int32 → Option (Int32 × St)
  | 0 => fun _ _ _ => none
  | n + 1 => fX8_form_B87 kr2 (fX8_form_l87 kr2 n)
def fX8_form_b35 (kr2 : St → Int32 → Option (Int32 × St)) (σ : St) (x1 : Int32) (x2 : Int32) : Option (Int32 × St) :=
  bp (fX8_good σ) (fun r8 => if r8 = 0 then some ((0 : Int32), σ) else bp (fX8_advance σ) (fun σ9 => if x2 = (4 : Int32) then lt (σ9.1 62 18) (fun v10 => fX8_form_l87 kr2 FU σ9 x1 v10) else gd (ir x1 8) (lt (setI σ9 69 x1.toNatClampNeg x2) (fun σ11 => if x2 = (3 : Int32) then gd (ir x1 8) (gd ((1 : Int32) = 0 ∨ (1 : Int32) = 1) (lt (setI σ11 70 x1.toNatClampNeg (1 : Int32)) (fun σ14 => lt (x1 + 1) (fun v15 => kr2 σ14 v15)))) else gd (ir x1 8) (gd ((0 : Int32) = 0 ∨ (0 : Int32) = 1) (lt (setI σ11 70 x1.toNatClampNeg (0 : Int32)) (fun σ12 => lt (x1 + 1) (fun v13 => kr2 σ12 v13))))))))
def fX8_form_b24 (kr2 : St → Int32 → Option (Int32 × St)) (σ : St) (x1 : Int32) (x2 : Int32) : Option (Int32 × St) :=
  if x1 = (8 : Int32) then bp (fX8_errs σ (3 : Int32)) (fun σ16 => fX8_form_b35 kr2 σ16 x1 x2) else fX8_form_b35 kr2 σ x1 x2
def fX8_form_B2 (kr2 : St → Int32 → Option (Int32 × St)) (σ : St) (x1 : Int32) : Option (Int32 × St) :=
  bp (fX8_good σ) (fun r17 => if r17 = 0 then some ((0 : Int32), σ) else bs (fX8_formWord σ) (fun r18 σ19 => lt r18 (fun v20 => if v20 = (5 : Int32) then bp (fX8_errs σ19 (1 : Int32)) (fun σ21 => fX8_form_b24 kr2 σ21 x1 v20) else fX8_form_b24 kr2 σ19 x1 v20)))
def fX8_form_l2 : Nat → St → Int32 → Option (Int32 × St)
  | 0 => fun _ _ => none
  | n + 1 => fX8_form_B2 (fX8_form_l2 n)
def fX8_form (σ : St) : Option (Int32 × St) :=
  lt (0 : Int32) (fun v22 => fX8_form_l2 FU σ v22)
def fX8_host_B13 (σ : St) (kr13 : Int32 → Int32 → Option (Int32)) (x1 : Int32) (x2 : Int32) : Option (Int32) :=
  gd (ir (3 : Int32) 77) (if (σ.1 63 (3 : Int32).toNatClampNeg) ≤ x2 then some (-1 : Int32) else bp (fX8_whoOf σ x2) (fun r1 => if r1 = x1 then some x2 else lt (x2 + 1) (fun v2 => kr13 x1 v2)))
def fX8_host_l13 (σ : St) : Nat → Int32 → Int32 → Option (Int32)
  | 0 => fun _ _ => none
  | n + 1 => fX8_host_B13 σ (fX8_host_l13 σ n)
def fX8_host (σ : St) (a1 : Int32) : Option (Int32) :=
  bp (fX8_areGuests σ a1) (fun r3 => if r3 = 0 then some (-2 : Int32) else lt (0 : Int32) (fun v4 => fX8_host_l13 σ FU a1 v4))
def fX8_leaves (σ : St) : Option (Int32) :=
  bp (fX8_isTable σ) (fun r1 => if r1 = 0 then some (-2 : Int32) else bp (fX8_askOf σ) (fun r2 => lt r2 (fun v3 => if v3 = (-1 : Int32) then bp (fX8_saltedNow σ) (fun r5 => bp (fX8_bits r5) (fun r6 => some r6)) else bp (fX8_worstOf σ v3) (fun r4 => some r4))))
def fX8_lemma (σ : St) (a1 : Int32) : Option (Int32 × St) :=
  bp (fX8_isGuest σ (a1.toInt64)) (fun r1 => if r1 = 0 then some ((-2 : Int32), σ) else bs (fX8_lemmaOf σ a1) (fun r2 σ3 => some (r2, σ3)))
def fX8_needs (σ : St) (w : Nat) : Option (St) :=
  bs (fX8_takes σ w) (fun r1 σ2 => if r1 = 0 then bp (fX8_errs σ2 (1 : Int32)) (fun σ3 => some σ3) else some σ2)
def fX8_team (σ : St) (a1 : Int32) : Option (Int32) :=
  bp (fX8_isClaim σ (a1.toInt64)) (fun r1 => if r1 = 0 then some (-2 : Int32) else bp (fX8_teamOf σ a1) (fun r2 => some r2))
def fX8_who (σ : St) (a1 : Int32) : Option (Int32) :=
  bp (fX8_isClaim σ (a1.toInt64)) (fun r1 => if r1 = 0 then some (-2 : Int32) else bp (fX8_whoOf σ a1) (fun r2 => some r2))
def fX8_wrong (σ : St) : Option (Int32) :=
  bp (fX8_isTable σ) (fun r1 => if r1 = 0 then some (-2 : Int32) else bp (fX8_provedNow σ) (fun r2 => bp (fX8_following σ) (fun r3 => some (r2 &&& (r3 ^^^ (-1 : Int32))))))
def fX7_brings (σ : St) (a1 : Int32) : Option (Int32 × St) :=
  bp (fX6_hasGuest σ 3 a1) (fun r1 => if r1 = 0 then some ((-2 : Int32), σ) else bs (fX7_lemma σ a1) (fun r2 σ3 => lt r2 (fun v4 => if v4 = (-1 : Int32) then some ((0 : Int32), σ3) else bs (fX7_worthWithLemma σ3 a1 v4) (fun r5 σ6 => bs (fX7_menuWorth σ6 a1 (0 : Int32)) (fun r7 σ8 => some ((r5 - r7), σ8))))))
def fX2_readGuest (σ : St) (t : Nat) : Option (Int32 × St) :=
  if (σ.1 t 6) < (5 : Int32) then bp (fX2_advance σ) (fun σ1 => bs (fX2_readNamed σ1 16 (1 : Int32) (9 : Int32)) (fun r2 σ3 => lt r2 (fun v4 => if v4 = (-1 : Int32) then gd ((0 : Int32) = 0 ∨ (0 : Int32) = 1) (some ((0 : Int32), σ3)) else bs (fX2_readWord σ3 17) (fun r5 σ6 => if r5 = 0 then gd ((0 : Int32) = 0 ∨ (0 : Int32) = 1) (some ((0 : Int32), σ6)) else bs (fX2_readSet σ6 (σ6.1 t 5) (12 : Int32)) (fun r7 σ8 => lt r7 (fun v9 => if v9 = (-1 : Int32) then gd ((0 : Int32) = 0 ∨ (0 : Int32) = 1) (some ((0 : Int32), σ8)) else gd (ir (σ8.1 t 6) 5) (lt (setI σ8 (t + 5) (σ8.1 t 6).toNatClampNeg v4) (fun σ10 => gd (ir (σ10.1 t 6) 5) (lt (setI σ10 (t + 6) (σ10.1 t 6).toNatClampNeg v9) (fun σ11 => lt (setI σ11 t 6 ((σ11.1 t 6) + (1 : Int32))) (fun σ12 => gd ((1 : Int32) = 0 ∨ (1 : Int32) = 1) (some ((1 : Int32), σ12))))))))))))) else bs (fX2_fail σ (3 : Int32)) (fun r13 σ14 => gd (r13 = 0 ∨ r13 = 1) (some (r13, σ14)))
def fX2_readHead (σ : St) (t : Nat) : Option (Int32 × St) :=
  bs (fX2_readWord σ 0) (fun r1 σ2 => if r1 = 0 then gd ((0 : Int32) = 0 ∨ (0 : Int32) = 1) (some ((0 : Int32), σ2)) else bs (fX2_readNamed σ2 1 (2 : Int32) (4 : Int32)) (fun r3 σ4 => lt (setI σ4 t 1 r3) (fun σ5 => if (σ5.1 t 1) = (-1 : Int32) then gd ((0 : Int32) = 0 ∨ (0 : Int32) = 1) (some ((0 : Int32), σ5)) else bs (fX2_readNamed σ5 2 (1 : Int32) (99 : Int32)) (fun r6 σ7 => lt (setI σ7 t 2 r6) (fun σ8 => if (σ8.1 t 2) = (-1 : Int32) then gd ((0 : Int32) = 0 ∨ (0 : Int32) = 1) (some ((0 : Int32), σ8)) else bs (fX2_readNamed σ8 3 (0 : Int32) (100 : Int32)) (fun r9 σ10 => lt (setI σ10 t 3 r9) (fun σ11 => if (σ11.1 t 3) = (-1 : Int32) then gd ((0 : Int32) = 0 ∨ (0 : Int32) = 1) (some ((0 : Int32), σ11)) else gd ((1 : Int32) = 0 ∨ (1 : Int32) = 1) (some ((1 : Int32), σ11)))))))))
def fX8_readStep_b52 (kr28 : St → Int32 → Int32 → Int32 → Int32 → Option (St)) (σ : St) (x1 : Int32) (x2 : Int32) (x3 : Int32) (x4 : Int32) : Option (St) :=
  bs (fX8_freshClaim σ) (fun r1 σ2 => lt r1 (fun v3 => bp (fX8_good σ2) (fun r4 => if r4 = 0 then some σ2 else lt (x3 ||| ((1 : Int32) <<< (v3 &&& 31))) (fun v5 => lt (x4 + 1) (fun v6 => if (σ2.1 62 10) = (3 : Int32) then gd (ir (x1 + (0 : Int32)) 77) (lt (setI σ2 68 (x1 + (0 : Int32)).toNatClampNeg x2) (fun σ7 => gd (ir (x1 + (1 : Int32)) 77) (lt (setI σ7 68 (x1 + (1 : Int32)).toNatClampNeg v5) (fun σ8 => gd (ir (4 : Int32) 77) (gd (ir (4 : Int32) 77) (lt (setI σ8 68 (4 : Int32).toNatClampNeg ((σ8.1 68 (4 : Int32).toNatClampNeg) + (1 : Int32))) (fun σ9 => some σ9))))))) else kr28 σ2 x1 x2 v5 v6)))))
def fX8_readStep_B28 (kr28 : St → Int32 → Int32 → Int32 → Int32 → Option (St)) (σ : St) (x1 : Int32) (x2 : Int32) (x3 : Int32) (x4 : Int32) : Option (St) :=
  if x4 = (3 : Int32) then gd (ir (3 : Int32) 77) (bp (fX8_isNextIn σ (σ.1 68 (3 : Int32).toNatClampNeg)) (fun r10 => if r10 = 0 then fX8_readStep_b52 kr28 σ x1 x2 x3 x4 else bp (fX8_errs σ (3 : Int32)) (fun σ11 => fX8_readStep_b52 kr28 σ11 x1 x2 x3 x4))) else fX8_readStep_b52 kr28 σ x1 x2 x3 x4
def fX8_readStep_l28 : Nat → St → Int32 → Int32 → Int32 → Int32 → Option (St)
  | 0 => fun _ _ _ _ _ => none
  | n + 1 => fX8_readStep_B28 (fX8_readStep_l28 n)
def fX8_readStep (σ : St) : Option (St) :=
  gd (ir (4 : Int32) 77) (lt ((43 : Int32) + ((2 : Int32) * (σ.1 68 (4 : Int32).toNatClampNeg))) (fun v12 => bs (fX8_freshClaim σ) (fun r13 σ14 => lt r13 (fun v15 => bp (fX8_needs σ14 14) (fun σ16 => lt (0 : Int32) (fun v17 => lt (0 : Int32) (fun v18 => fX8_readStep_l28 FU σ16 v12 v15 v17 v18)))))))
def fX8_told (σ : St) (w : Nat) (a2 : Int32) (a3 : Int32) : Option (Int32 × St) :=
  bp (fX8_needs σ w) (fun σ1 => bs (fX8_number σ1 a2 a3) (fun r2 σ3 => some (r2, σ3)))
def fX8_readClaim (σ : St) : Option (St) :=
  gd (ir (3 : Int32) 77) (lt ((7 : Int32) + ((3 : Int32) * (σ.1 68 (3 : Int32).toNatClampNeg))) (fun v1 => bs (fX8_told σ 5 (0 : Int32) (99 : Int32)) (fun r2 σ3 => lt r2 (fun v4 => bs (fX8_form σ3) (fun r5 σ6 => lt r5 (fun v7 => bp (fX8_good σ6) (fun r8 => if r8 = 0 then some σ6 else gd (ir (v1 + (0 : Int32)) 77) (lt (setI σ6 68 (v1 + (0 : Int32)).toNatClampNeg v4) (fun σ9 => gd (ir (v1 + (1 : Int32)) 77) (lt (setI σ9 68 (v1 + (1 : Int32)).toNatClampNeg (0 : Int32)) (fun σ10 => gd (ir (v1 + (2 : Int32)) 77) (lt (setI σ10 68 (v1 + (2 : Int32)).toNatClampNeg v7) (fun σ11 => gd (ir (3 : Int32) 77) (gd (ir (3 : Int32) 77) (lt (setI σ11 68 (3 : Int32).toNatClampNeg ((σ11.1 68 (3 : Int32).toNatClampNeg) + (1 : Int32))) (fun σ12 => some σ12))))))))))))))))
def fX8_readGuest_B30 (kr30 : St → Int32 → Int32 → Int32 → Option (St)) (σ : St) (x1 : Int32) (x2 : Int32) (x3 : Int32) : Option (St) :=
  gd (ir (4 : Int32) 77) (bs (fX8_number σ (0 : Int32) ((σ.1 68 (4 : Int32).toNatClampNeg) - (1 : Int32))) (fun r1 σ2 => lt r1 (fun v3 => bp (fX8_good σ2) (fun r4 => if r4 = 0 then some σ2 else lt (x3 ||| ((1 : Int32) <<< (v3 &&& 31))) (fun v5 => if (σ2.1 62 10) = (3 : Int32) then gd (ir (x1 + (0 : Int32)) 77) (lt (setI σ2 68 (x1 + (0 : Int32)).toNatClampNeg x2) (fun σ6 => gd (ir (x1 + (1 : Int32)) 77) (lt (setI σ6 68 (x1 + (1 : Int32)).toNatClampNeg v5) (fun σ7 => gd (ir (5 : Int32) 77) (gd (ir (5 : Int32) 77) (lt (setI σ7 68 (5 : Int32).toNatClampNeg ((σ7.1 68 (5 : Int32).toNatClampNeg) + (1 : Int32))) (fun σ8 => some σ8))))))) else kr30 σ2 x1 x2 v5)))))
def fX8_readGuest_l30 : Nat → St → Int32 → Int32 → Int32 → Option (St)
  | 0 => fun _ _ _ _ => none
  | n + 1 => fX8_readGuest_B30 (fX8_readGuest_l30 n)
def fX8_readGuest (σ : St) : Option (St) :=
  gd (ir (5 : Int32) 77) (lt ((67 : Int32) + ((2 : Int32) * (σ.1 68 (5 : Int32).toNatClampNeg))) (fun v9 => bs (fX8_told σ 16 (1 : Int32) (9 : Int32)) (fun r10 σ11 => lt r10 (fun v12 => bp (fX8_needs σ11 17) (fun σ13 => lt (0 : Int32) (fun v14 => fX8_readGuest_l30 FU σ13 v9 v12 v14))))))
def fX8_readNext_b115 (σ : St) : Option (St) :=
  bp (fX8_good σ) (fun r1 => if r1 = 0 then some σ else bs (fX8_takes σ 4) (fun r2 σ3 => if r2 = 0 then bs (fX8_takes σ3 12) (fun r4 σ5 => if r4 = 0 then bs (fX8_takes σ5 13) (fun r6 σ7 => if r6 = 0 then bp (fX8_advance σ7) (fun σ8 => bp (fX8_readGuest σ8) (fun σ9 => some σ9)) else bp (fX8_readStep σ7) (fun σ10 => some σ10)) else bp (fX8_readSalt σ5) (fun σ11 => some σ11)) else bp (fX8_readClaim σ3) (fun σ12 => some σ12)))
def fX8_readNext_b110 (σ : St) : Option (St) :=
  bp (fX8_errs σ (3 : Int32)) (fun σ13 => fX8_readNext_b115 σ13)
def fX8_readNext_b91 (σ : St) : Option (St) :=
  bp (fX8_is σ 15) (fun r14 => if r14 = 0 then fX8_readNext_b115 σ else gd (ir (5 : Int32) 77) (if (σ.1 68 (5 : Int32).toNatClampNeg) = (5 : Int32) then fX8_readNext_b110 σ else fX8_readNext_b115 σ))
def fX8_readNext_b71 (σ : St) : Option (St) :=
  bp (fX8_is σ 13) (fun r15 => if r15 = 0 then fX8_readNext_b91 σ else gd (ir (4 : Int32) 77) (if (σ.1 68 (4 : Int32).toNatClampNeg) = (12 : Int32) then fX8_readNext_b110 σ else fX8_readNext_b91 σ))
def fX8_readNext_b51 (σ : St) : Option (St) :=
  bp (fX8_is σ 4) (fun r16 => if r16 = 0 then fX8_readNext_b71 σ else gd (ir (3 : Int32) 77) (if (σ.1 68 (3 : Int32).toNatClampNeg) = (12 : Int32) then fX8_readNext_b110 σ else fX8_readNext_b71 σ))
def fX8_readNext_b41 (σ : St) (y0 : Int32) : Option (St) :=
  lt y0 (fun v17 => if v17 = 0 then bp (fX8_errs σ (1 : Int32)) (fun σ18 => fX8_readNext_b51 σ18) else fX8_readNext_b51 σ)
def fX8_readNext_b36 (σ : St) : Option (St) :=
  fX8_readNext_b41 σ (1 : Int32)
def fX8_readNext (σ : St) : Option (St) :=
  bp (fX8_is σ 4) (fun r19 => if r19 = 0 then bp (fX8_is σ 12) (fun r20 => if r20 = 0 then bp (fX8_is σ 13) (fun r21 => if r21 = 0 then bp (fX8_is σ 15) (fun r22 => if r22 = 0 then fX8_readNext_b41 σ (0 : Int32) else fX8_readNext_b36 σ) else fX8_readNext_b36 σ) else fX8_readNext_b36 σ) else fX8_readNext_b36 σ)
def fX8_readLine_b98 (σ : St) : Option (St) :=
  gd (ir (6 : Int32) 77) (gd (ir (6 : Int32) 77) (lt (setI σ 68 (6 : Int32).toNatClampNeg ((σ.1 68 (6 : Int32).toNatClampNeg) + (1 : Int32))) (fun σ1 => some σ1)))
def fX8_readLine_b87 (σ : St) : Option (St) :=
  bp (fX8_good σ) (fun r2 => if r2 = 0 then fX8_readLine_b98 σ else bp (fX8_advance σ) (fun σ3 => fX8_readLine_b98 σ3))
def fX8_readLine_b67 (σ : St) : Option (St) :=
  bp (fX8_good σ) (fun r4 => if r4 = 0 then fX8_readLine_b87 σ else if (σ.1 62 10) = (3 : Int32) then fX8_readLine_b87 σ else bp (fX8_errs σ (1 : Int32)) (fun σ5 => fX8_readLine_b87 σ5))
def fX8_readLine (σ : St) : Option (St) :=
  gd (ir (6 : Int32) 77) (if (σ.1 68 (6 : Int32).toNatClampNeg) = 0 then bp (fX8_needs σ 0) (fun σ7 => bs (fX8_told σ7 1 (2 : Int32) (4 : Int32)) (fun r8 σ9 => gd (ir (0 : Int32) 77) (lt (setI σ9 68 (0 : Int32).toNatClampNeg r8) (fun σ10 => bs (fX8_told σ10 2 (1 : Int32) (99 : Int32)) (fun r11 σ12 => gd (ir (1 : Int32) 77) (lt (setI σ12 68 (1 : Int32).toNatClampNeg r11) (fun σ13 => bs (fX8_told σ13 3 (0 : Int32) (100 : Int32)) (fun r14 σ15 => gd (ir (2 : Int32) 77) (lt (setI σ15 68 (2 : Int32).toNatClampNeg r14) (fun σ16 => fX8_readLine_b67 σ16)))))))))) else bp (fX8_readNext σ) (fun σ6 => fX8_readLine_b67 σ6))
def fX8_table_B86 (kr86 : St → Int32 → Option (Int32 × St)) (σ : St) (x1 : Int32) : Option (Int32 × St) :=
  if (77 : Int32) ≤ x1 then gd (ir (6 : Int32) 77) (some ((σ.1 63 (6 : Int32).toNatClampNeg), σ)) else gd (ir x1 77) (gd (ir x1 77) (lt (setI σ 63 x1.toNatClampNeg (σ.1 68 x1.toNatClampNeg)) (fun σ1 => lt (x1 + 1) (fun v2 => kr86 σ1 v2))))
def fX8_table_l86 : Nat → St → Int32 → Option (Int32 × St)
  | 0 => fun _ _ => none
  | n + 1 => fX8_table_B86 (fX8_table_l86 n)
def fX8_table_b74 (σ : St) : Option (Int32 × St) :=
  bp (fX8_good σ) (fun r3 => if r3 = 0 then some ((-4 : Int32), σ) else lt (0 : Int32) (fun v4 => fX8_table_l86 FU σ v4))
def fX8_table_B53 (kr53 : St → Option (Int32 × St)) (σ : St) : Option (Int32 × St) :=
  bp (fX8_good σ) (fun r5 => if r5 = 0 then fX8_table_b74 σ else if (σ.1 62 10) = 0 then fX8_table_b74 σ else bp (fX8_readLine σ) (fun σ6 => kr53 σ6))
def fX8_table_l53 : Nat → St → Option (Int32 × St)
  | 0 => fun _ => none
  | n + 1 => fX8_table_B53 (fX8_table_l53 n)
def fX8_table_B30 (kr30 : St → Int32 → Option (Int32 × St)) (σ : St) (x1 : Int32) : Option (Int32 × St) :=
  if (77 : Int32) ≤ x1 then bp (fX8_advance σ) (fun σ7 => fX8_table_l53 FU σ7) else gd (ir x1 77) (lt (setI σ 68 x1.toNatClampNeg (0 : Int32)) (fun σ8 => lt (x1 + 1) (fun v9 => kr30 σ8 v9)))
def fX8_table_l30 : Nat → St → Int32 → Option (Int32 × St)
  | 0 => fun _ _ => none
  | n + 1 => fX8_table_B30 (fX8_table_l30 n)
def fX8_table (σ : St) : Option (Int32 × St) :=
  lt (setI σ 62 7 (σ.1 62 5)) (fun σ10 => lt (setI σ10 62 5 (0 : Int32)) (fun σ11 => lt (setI σ11 62 8 (0 : Int32)) (fun σ12 => lt (setI σ12 62 12 (0 : Int32)) (fun σ13 => lt (setI σ13 62 13 (-1 : Int32)) (fun σ14 => lt (0 : Int32) (fun v15 => fX8_table_l30 FU σ14 v15))))))
def fX2_readForm_b30 (rp : St → Nat → Int32 → Int32 → Option (Int32 × St)) (t : Nat) (σ : St) (x2 : Int32) (x3 : Int32) (x4 : Int32) : Option (Int32 × St) :=
  if x2 < (8 : Int32) then bp (fX2_advance σ) (fun σ1 => if x4 = 0 then some (x3, σ1) else bs (rp σ1 t x4 (x2 + (1 : Int32))) (fun r2 σ3 => some (r2, σ3))) else bs (fX2_fail σ (3 : Int32)) (fun r4 σ5 => some ((-1 : Int32), σ5))
def fX2_readForm_B (rp : St → Nat → Int32 → Int32 → Option (Int32 × St)) (σ : St) (t : Nat) (a2 : Int32) : Option (Int32 × St) :=
  bp (fX2_worldsOfLeaf σ t) (fun r6 => lt r6 (fun v7 => bp (fX2_operatorHere σ) (fun r8 => lt r8 (fun v9 => if v7 = (-1 : Int32) then if v9 = 0 then bs (fX2_fail σ (1 : Int32)) (fun r10 σ11 => some ((-1 : Int32), σ11)) else fX2_readForm_b30 rp t σ a2 v7 v9 else fX2_readForm_b30 rp t σ a2 v7 v9))))
def fX2_readParts_b19 (rf : St → Nat → Int32 → Option (Int32 × St)) (t : Nat) (σ : St) (x4 : Int32) : Option (Int32 × St) :=
  if x4 = (-1 : Int32) then some ((-1 : Int32), σ) else bp (fX6_allWorlds σ t) (fun r1 => some ((r1 &&& (x4 ^^^ (-1 : Int32))), σ))
def fX2_readParts_B (rf : St → Nat → Int32 → Option (Int32 × St)) (σ : St) (t : Nat) (a2 : Int32) (a3 : Int32) : Option (Int32 × St) :=
  bs (rf σ t a3) (fun r2 σ3 => lt r2 (fun v4 => if v4 = (-1 : Int32) then fX2_readParts_b19 rf t σ3 v4 else if a2 = (4 : Int32) then fX2_readParts_b19 rf t σ3 v4 else bs (rf σ3 t a3) (fun r5 σ6 => lt r5 (fun v7 => if v7 = (-1 : Int32) then some ((-1 : Int32), σ6) else if a2 = 1 then some ((v4 &&& v7), σ6) else if a2 = 2 then some ((v4 ||| v7), σ6) else bp (fX6_allWorlds σ6 t) (fun r8 => some ((r8 &&& ((v4 ^^^ (-1 : Int32)) ||| v7)), σ6))))))
def fX2_readForm : Nat → St → Nat → Int32 → Option (Int32 × St)
  | 0 => fun _ _ _ => none
  | d + 1 => fX2_readForm_B (fX2_readParts_B (fX2_readForm d))
def fX2_readClaim (σ : St) (t : Nat) : Option (Int32 × St) :=
  if (σ.1 t 4) < (12 : Int32) then bp (fX2_advance σ) (fun σ1 => bs (fX2_readNamed σ1 5 (0 : Int32) (99 : Int32)) (fun r2 σ3 => lt r2 (fun v4 => if v4 = (-1 : Int32) then gd ((0 : Int32) = 0 ∨ (0 : Int32) = 1) (some ((0 : Int32), σ3)) else bs (fX2_readForm FD σ3 t (0 : Int32)) (fun r5 σ6 => lt r5 (fun v7 => if v7 = (-1 : Int32) then gd ((0 : Int32) = 0 ∨ (0 : Int32) = 1) (some ((0 : Int32), σ6)) else gd (ir (σ6.1 t 4) 12) (lt (setI σ6 (t + 1) (σ6.1 t 4).toNatClampNeg v4) (fun σ8 => gd (ir (σ8.1 t 4) 12) (lt (setI σ8 (t + 2) (σ8.1 t 4).toNatClampNeg v7) (fun σ9 => lt (setI σ9 t 4 ((σ9.1 t 4) + (1 : Int32))) (fun σ10 => gd ((1 : Int32) = 0 ∨ (1 : Int32) = 1) (some ((1 : Int32), σ10)))))))))))) else bs (fX2_fail σ (3 : Int32)) (fun r11 σ12 => gd (r11 = 0 ∨ r11 = 1) (some (r11, σ12)))
def fX2_readLine (σ : St) (t : Nat) : Option (Int32 × St) :=
  if (σ.1 t 0) = 0 then bs (fX2_readHead σ t) (fun r15 σ16 => gd (r15 = 0 ∨ r15 = 1) (some (r15, σ16))) else bp (fX2_isWord σ 4) (fun r1 => if r1 = 0 then bp (fX2_isWord σ 12) (fun r2 => if r2 = 0 then bp (fX2_isWord σ 13) (fun r3 => if r3 = 0 then bp (fX2_isWord σ 15) (fun r4 => if r4 = 0 then bs (fX2_fail σ (1 : Int32)) (fun r5 σ6 => gd (r5 = 0 ∨ r5 = 1) (some (r5, σ6))) else bs (fX2_readGuest σ t) (fun r7 σ8 => gd (r7 = 0 ∨ r7 = 1) (some (r7, σ8)))) else bs (fX2_readStep σ t) (fun r9 σ10 => gd (r9 = 0 ∨ r9 = 1) (some (r9, σ10)))) else bs (fX2_readSalt σ t) (fun r11 σ12 => gd (r11 = 0 ∨ r11 = 1) (some (r11, σ12)))) else bs (fX2_readClaim σ t) (fun r13 σ14 => gd (r13 = 0 ∨ r13 = 1) (some (r13, σ14))))
def fX2_readTable_B25 (t : Nat) (kr25 : St → Int32 → Option (Int32 × St)) (σ : St) (x2 : Int32) : Option (Int32 × St) :=
  if (1600 : Int32) ≤ x2 then gd ((1 : Int32) = 0 ∨ (1 : Int32) = 1) (some ((1 : Int32), σ)) else if (σ.1 1 4) = 0 then gd ((1 : Int32) = 0 ∨ (1 : Int32) = 1) (some ((1 : Int32), σ)) else bs (fX2_readLine σ t) (fun r1 σ2 => if r1 = 0 then gd ((0 : Int32) = 0 ∨ (0 : Int32) = 1) (some ((0 : Int32), σ2)) else bs (fX2_readSign σ2) (fun r3 σ4 => if r3 = 0 then gd ((0 : Int32) = 0 ∨ (0 : Int32) = 1) (some ((0 : Int32), σ4)) else lt (setI σ4 t 0 ((σ4.1 t 0) + (1 : Int32))) (fun σ5 => lt (x2 + 1) (fun v6 => kr25 σ5 v6))))
def fX2_readTable_l25 (t : Nat) : Nat → St → Int32 → Option (Int32 × St)
  | 0 => fun _ _ => none
  | n + 1 => fX2_readTable_B25 t (fX2_readTable_l25 t n)
def fX2_readTable (σ : St) (t : Nat) : Option (Int32 × St) :=
  bp (fX6_clear σ t) (fun σ7 => lt (setI σ7 1 2 (0 : Int32)) (fun σ8 => lt (setI σ8 1 3 (-1 : Int32)) (fun σ9 => lt (setI σ9 1 6 (0 : Int32)) (fun σ10 => bp (fX2_advance σ10) (fun σ11 => lt (0 : Int32) (fun v12 => fX2_readTable_l25 t FU σ11 v12))))))
def fX7_table (σ : St) : Option (Int32 × St) :=
  bs (fX2_readTable σ 10) (fun r1 σ2 => lt r1 (fun v3 => lt (setI σ2 1 1 (0 : Int32)) (fun σ4 => if v3 = 0 then some ((-4 : Int32), σ4) else bp (fX6_copyFrom σ4 3 10) (fun σ5 => gd ((1 : Int32) = 0 ∨ (1 : Int32) = 1) (lt (setI σ5 0 7 (1 : Int32)) (fun σ6 => some ((σ6.1 3 0), σ6)))))))
