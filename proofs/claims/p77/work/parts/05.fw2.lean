def FU : Nat := 100000
theorem sh_0 : shp[0]? = some (.inr (.inl (7, [some 1, some 3, some 10, some 17, some 18, some 40, some 49, none, some 51, some 53, some 55, some 60]))) := rfl
theorem sh_1 : shp[1]? = some (.inr (.inl (2, [some 2, none, none, none, none, none, none, none]))) := rfl
theorem sh_2 : shp[2]? = some (.inl (2, 1600)) := rfl
theorem sh_3 : shp[3]? = some (.inr (.inl (6, [none, none, none, none, none, none, none, none, some 4, some 5, some 6, some 7, some 8, some 9]))) := rfl
theorem sh_4 : shp[4]? = some (.inl (0, 12)) := rfl
theorem sh_5 : shp[5]? = some (.inl (0, 12)) := rfl
theorem sh_6 : shp[6]? = some (.inl (0, 12)) := rfl
theorem sh_7 : shp[7]? = some (.inl (0, 12)) := rfl
theorem sh_8 : shp[8]? = some (.inl (0, 5)) := rfl
theorem sh_9 : shp[9]? = some (.inl (0, 5)) := rfl
theorem sh_10 : shp[10]? = some (.inr (.inl (6, [none, none, none, none, none, none, none, none, some 11, some 12, some 13, some 14, some 15, some 16]))) := rfl
theorem sh_11 : shp[11]? = some (.inl (0, 12)) := rfl
theorem sh_12 : shp[12]? = some (.inl (0, 12)) := rfl
theorem sh_13 : shp[13]? = some (.inl (0, 12)) := rfl
theorem sh_14 : shp[14]? = some (.inl (0, 12)) := rfl
theorem sh_15 : shp[15]? = some (.inl (0, 5)) := rfl
theorem sh_16 : shp[16]? = some (.inl (0, 5)) := rfl
theorem sh_17 : shp[17]? = some (.inr (.inr (4, [19, 26, 33]))) := rfl
theorem sh_18 : shp[18]? = some (.inl (1, 3)) := rfl
theorem sh_19 : shp[19]? = some (.inr (.inl (6, [none, none, none, none, none, none, none, none, some 20, some 21, some 22, some 23, some 24, some 25]))) := rfl
theorem sh_20 : shp[20]? = some (.inl (0, 12)) := rfl
theorem sh_21 : shp[21]? = some (.inl (0, 12)) := rfl
theorem sh_22 : shp[22]? = some (.inl (0, 12)) := rfl
theorem sh_23 : shp[23]? = some (.inl (0, 12)) := rfl
theorem sh_24 : shp[24]? = some (.inl (0, 5)) := rfl
theorem sh_25 : shp[25]? = some (.inl (0, 5)) := rfl
theorem sh_26 : shp[26]? = some (.inr (.inl (6, [none, none, none, none, none, none, none, none, some 27, some 28, some 29, some 30, some 31, some 32]))) := rfl
theorem sh_27 : shp[27]? = some (.inl (0, 12)) := rfl
theorem sh_28 : shp[28]? = some (.inl (0, 12)) := rfl
theorem sh_29 : shp[29]? = some (.inl (0, 12)) := rfl
theorem sh_30 : shp[30]? = some (.inl (0, 12)) := rfl
theorem sh_31 : shp[31]? = some (.inl (0, 5)) := rfl
theorem sh_32 : shp[32]? = some (.inl (0, 5)) := rfl
theorem sh_33 : shp[33]? = some (.inr (.inl (6, [none, none, none, none, none, none, none, none, some 34, some 35, some 36, some 37, some 38, some 39]))) := rfl
theorem sh_34 : shp[34]? = some (.inl (0, 12)) := rfl
theorem sh_35 : shp[35]? = some (.inl (0, 12)) := rfl
theorem sh_36 : shp[36]? = some (.inl (0, 12)) := rfl
theorem sh_37 : shp[37]? = some (.inl (0, 12)) := rfl
theorem sh_38 : shp[38]? = some (.inl (0, 5)) := rfl
theorem sh_39 : shp[39]? = some (.inl (0, 5)) := rfl
theorem sh_40 : shp[40]? = some (.inr (.inr (5, [41, 43, 45, 47]))) := rfl
theorem sh_41 : shp[41]? = some (.inr (.inl (4, [none, none, none, some 42]))) := rfl
theorem sh_42 : shp[42]? = some (.inl (3, 60)) := rfl
theorem sh_43 : shp[43]? = some (.inr (.inl (4, [none, none, none, some 44]))) := rfl
theorem sh_44 : shp[44]? = some (.inl (3, 60)) := rfl
theorem sh_45 : shp[45]? = some (.inr (.inl (4, [none, none, none, some 46]))) := rfl
theorem sh_46 : shp[46]? = some (.inl (3, 60)) := rfl
theorem sh_47 : shp[47]? = some (.inr (.inl (4, [none, none, none, some 48]))) := rfl
theorem sh_48 : shp[48]? = some (.inl (3, 60)) := rfl
theorem sh_49 : shp[49]? = some (.inr (.inl (5, [some 50]))) := rfl
theorem sh_50 : shp[50]? = some (.inl (0, 4096)) := rfl
theorem sh_51 : shp[51]? = some (.inr (.inl (5, [some 52]))) := rfl
theorem sh_52 : shp[52]? = some (.inl (0, 4096)) := rfl
theorem sh_53 : shp[53]? = some (.inr (.inl (3, [none, none, none, some 54]))) := rfl
theorem sh_54 : shp[54]? = some (.inl (0, 12)) := rfl
theorem sh_55 : shp[55]? = some (.inr (.inl (1, [none, none, none, some 56, some 57, some 58, some 59]))) := rfl
theorem sh_56 : shp[56]? = some (.inl (0, 12)) := rfl
theorem sh_57 : shp[57]? = some (.inl (0, 12)) := rfl
theorem sh_58 : shp[58]? = some (.inl (0, 5)) := rfl
theorem sh_59 : shp[59]? = some (.inl (0, 5)) := rfl
theorem sh_60 : shp[60]? = some (.inr (.inl (0, [some 61]))) := rfl
theorem sh_61 : shp[61]? = some (.inl (0, 16)) := rfl
theorem sh_62 : shp[62]? = some (.inr (.inl (8, [none, some 63, some 64, some 65, some 66, none, some 67, none, none, none, none, none, none, none, some 68, some 69, some 70, some 71, none, none, none, none, some 72, some 73, some 74, some 75, some 76, none, none, some 77, some 78, some 79, some 80, some 81]))) := rfl
theorem sh_63 : shp[63]? = some (.inl (0, 77)) := rfl
theorem sh_64 : shp[64]? = some (.inl (0, 231)) := rfl
theorem sh_65 : shp[65]? = some (.inl (1, 3)) := rfl
theorem sh_66 : shp[66]? = some (.inl (2, 1600)) := rfl
theorem sh_67 : shp[67]? = some (.inl (0, 5)) := rfl
theorem sh_68 : shp[68]? = some (.inl (0, 77)) := rfl
theorem sh_69 : shp[69]? = some (.inl (0, 8)) := rfl
theorem sh_70 : shp[70]? = some (.inl (1, 8)) := rfl
theorem sh_71 : shp[71]? = some (.inl (0, 8)) := rfl
theorem sh_72 : shp[72]? = some (.inl (1, 32)) := rfl
theorem sh_73 : shp[73]? = some (.inl (0, 12)) := rfl
theorem sh_74 : shp[74]? = some (.inl (0, 12)) := rfl
theorem sh_75 : shp[75]? = some (.inl (0, 5)) := rfl
theorem sh_76 : shp[76]? = some (.inl (0, 5)) := rfl
theorem sh_77 : shp[77]? = some (.inl (0, 4096)) := rfl
theorem sh_78 : shp[78]? = some (.inl (0, 4)) := rfl
theorem sh_79 : shp[79]? = some (.inl (0, 4)) := rfl
theorem sh_80 : shp[80]? = some (.inl (3, 240)) := rfl
theorem sh_81 : shp[81]? = some (.inl (3, 60)) := rfl
def sTab (t : Nat) : List (Option Nat) := [none, none, none, none, none, none, none, none, some (t + 1), some (t + 2), some (t + 3), some (t + 4), some (t + 5), some (t + 6)]
def isTab (t : Nat) : Prop := shp[t]? = some (.inr (.inl (6, sTab t))) ∧ shp[t + 1]? = some (.inl (0, 12)) ∧ shp[t + 2]? = some (.inl (0, 12)) ∧ shp[t + 3]? = some (.inl (0, 12)) ∧ shp[t + 4]? = some (.inl (0, 12)) ∧ shp[t + 5]? = some (.inl (0, 5)) ∧ shp[t + 6]? = some (.inl (0, 5))
def isRow (w : Nat) : Prop := shp[w]? = some (.inr (.inl (4, [none, none, none, some (w + 1)]))) ∧ shp[w + 1]? = some (.inl (3, 60))
def isShe (h : Nat) : Prop := shp[h]? = some (.inr (.inl (5, [some (h + 1)]))) ∧ shp[h + 1]? = some (.inl (0, 4096))
def imgp (i : Nat) : Nat := 19 + 7 * i
def rowp (i : Nat) : Nat := 41 + 2 * i
theorem imgp_ok : ∀ i, i < 3 → isTab (imgp i) := fun i hi => by
  have : i = 0 ∨ i = 1 ∨ i = 2 := by omega
  rcases this with rfl | rfl | rfl <;> exact ⟨rfl, rfl, rfl, rfl, rfl, rfl, rfl⟩
theorem rowp_ok : ∀ i, i < 4 → isRow (rowp i) := fun i hi => by
  have : i = 0 ∨ i = 1 ∨ i = 2 ∨ i = 3 := by omega
  rcases this with rfl | rfl | rfl | rfl <;> exact ⟨rfl, rfl⟩
theorem isTab_3 : isTab 3 := ⟨rfl, rfl, rfl, rfl, rfl, rfl, rfl⟩
theorem isTab_10 : isTab 10 := ⟨rfl, rfl, rfl, rfl, rfl, rfl, rfl⟩
theorem isTab_19 : isTab 19 := ⟨rfl, rfl, rfl, rfl, rfl, rfl, rfl⟩
theorem isTab_26 : isTab 26 := ⟨rfl, rfl, rfl, rfl, rfl, rfl, rfl⟩
theorem isTab_33 : isTab 33 := ⟨rfl, rfl, rfl, rfl, rfl, rfl, rfl⟩
theorem isRow_41 : isRow 41 := ⟨rfl, rfl⟩
theorem isRow_43 : isRow 43 := ⟨rfl, rfl⟩
theorem isRow_45 : isRow 45 := ⟨rfl, rfl⟩
theorem isRow_47 : isRow 47 := ⟨rfl, rfl⟩
theorem isShe_49 : isShe 49 := ⟨rfl, rfl⟩
theorem isShe_51 : isShe 51 := ⟨rfl, rfl⟩
theorem ar_X6_8 {t : Nat} (h : isTab t) : shp[t + 1]? = some (.inl (0, 12)) := h.2.1
theorem ar_X6_9 {t : Nat} (h : isTab t) : shp[t + 2]? = some (.inl (0, 12)) := h.2.2.1
theorem ar_X6_10 {t : Nat} (h : isTab t) : shp[t + 3]? = some (.inl (0, 12)) := h.2.2.2.1
theorem ar_X6_11 {t : Nat} (h : isTab t) : shp[t + 4]? = some (.inl (0, 12)) := h.2.2.2.2.1
theorem ar_X6_12 {t : Nat} (h : isTab t) : shp[t + 5]? = some (.inl (0, 5)) := h.2.2.2.2.2.1
theorem ar_X6_13 {t : Nat} (h : isTab t) : shp[t + 6]? = some (.inl (0, 5)) := h.2.2.2.2.2.2
theorem ar_X4_3 {w : Nat} (h : isRow w) : shp[w + 1]? = some (.inl (3, 60)) := h.2
theorem ar_X5_0 {h : Nat} (q : isShe h) : shp[h + 1]? = some (.inl (0, 4096)) := q.2
theorem ww_rip {G : GT} {X : CT} {cc : ByteArray} {nL : Nat} {σ : St} {lv : List (Nat × Value)} {pc : Nat} {x r : Int32} (hE : ∀ (lv : List (Nat × Value)) (pc : Nat), decode cc pc = .ok (.ireturn, 1) → WW G X nL σ lv pc [.int r]) (hdg : decode cc pc = .ok (.ireturn, 1)) (hF : some x = some r) : WW G X nL σ lv pc [.int x] := by
  cases hF
  exact hE lv pc hdg
theorem ww_ris {G : GT} {X : CT} {cc : ByteArray} {nL : Nat} {σ : St} {lv : List (Nat × Value)} {pc : Nat} {x r : Int32} {σo : St} (hE : ∀ (lv : List (Nat × Value)) (pc : Nat), decode cc pc = .ok (.ireturn, 1) → WW G X nL σo lv pc [.int r]) (hdg : decode cc pc = .ok (.ireturn, 1)) (hF : some (x, σ) = some (r, σo)) : WW G X nL σ lv pc [.int x] := by
  cases hF
  exact hE lv pc hdg
theorem ww_rzp {G : GT} {X : CT} {cc : ByteArray} {nL : Nat} {σ : St} {lv : List (Nat × Value)} {pc : Nat} {x r : Int32} (hE : ∀ (lv : List (Nat × Value)) (pc : Nat), decode cc pc = .ok (.ireturn, 1) → (r = 0 ∨ r = 1) → WW G X nL σ lv pc [.int r]) (hdg : decode cc pc = .ok (.ireturn, 1)) (hF : gd (x = 0 ∨ x = 1) (some x) = some r) : WW G X nL σ lv pc [.int x] := by
  obtain ⟨hz, hF⟩ := gd_some hF
  cases hF
  exact hE lv pc hdg hz
theorem ww_rzs {G : GT} {X : CT} {cc : ByteArray} {nL : Nat} {σ : St} {lv : List (Nat × Value)} {pc : Nat} {x r : Int32} {σo : St} (hE : ∀ (lv : List (Nat × Value)) (pc : Nat), decode cc pc = .ok (.ireturn, 1) → (r = 0 ∨ r = 1) → WW G X nL σo lv pc [.int r]) (hdg : decode cc pc = .ok (.ireturn, 1)) (hF : gd (x = 0 ∨ x = 1) (some (x, σ)) = some (r, σo)) : WW G X nL σ lv pc [.int x] := by
  obtain ⟨hz, hF⟩ := gd_some hF
  cases hF
  exact hE lv pc hdg hz
theorem ww_rlp {G : GT} {X : CT} {cc : ByteArray} {nL : Nat} {σ : St} {lv : List (Nat × Value)} {pc : Nat} {x r : Int64} (hE : ∀ (lv : List (Nat × Value)) (pc : Nat), decode cc pc = .ok (.lreturn, 1) → WW G X nL σ lv pc [.long r]) (hdg : decode cc pc = .ok (.lreturn, 1)) (hF : some x = some r) : WW G X nL σ lv pc [.long x] := by
  cases hF
  exact hE lv pc hdg
theorem ww_rvs {G : GT} {X : CT} {cc : ByteArray} {nL : Nat} {σ : St} {lv : List (Nat × Value)} {pc : Nat} {σo : St} (hE : ∀ (lv : List (Nat × Value)) (pc : Nat), decode cc pc = .ok (.return_, 1) → WW G X nL σo lv pc []) (hdg : decode cc pc = .ok (.return_, 1)) (hF : some σ = some σo) : WW G X nL σ lv pc [] := by
  cases hF
  exact hE lv pc hdg
theorem ww_ras {G : GT} {X : CT} {cc : ByteArray} {nL : Nat} {σ : St} {lv : List (Nat × Value)} {pc : Nat} {b : Nat} {σo : St} (hE : ∀ (lv : List (Nat × Value)) (pc : Nat), decode cc pc = .ok (.areturn, 1) → WW G X nL σo lv pc [.ref b]) (hdg : decode cc pc = .ok (.areturn, 1)) (hF : some σ = some σo) : WW G X nL σ lv pc [.ref b] := by
  cases hF
  exact hE lv pc hdg
theorem ww_tsIn {G : GT} {X : CT} {own : String} {cc : ByteArray} {nL n : Nat} {σ : St} {lv : List (Nat × Value)} {pc : Nat} {st : List Value} {dflt lo hi : Int} {offs : Array Int} {len : Nat} {x v : Int32} {off : Int} {tgt : Nat} (cx : Cx G X own cc nL n) (hdg : decode cc pc = .ok (.tableswitch dflt lo hi offs, len)) (h : x = v) (h1 : ¬ v.toInt < lo) (h2 : ¬ hi < v.toInt) (ho : offs[(v.toInt - lo).toNat]? = some off) (ht : (pc : Int) + off = (tgt : Int)) (k : WW G X nL σ lv tgt st) : WW G X nL σ lv pc (.int x :: st) := by
  subst h
  obtain ⟨p, e, R, s, m, args, below, meth, c, Q, A, ck, sk⟩ := X
  obtain ⟨hx, hb, hml, hown, hts, hG, hA, hck, hlm⟩ := cx
  intro H locs ls hl hP hS
  exact lv_tableIn hx hb hdg h1 h2 ho ht (k H locs ls hl hP hS)
theorem ww_tsOut {G : GT} {X : CT} {own : String} {cc : ByteArray} {nL n : Nat} {σ : St} {lv : List (Nat × Value)} {pc : Nat} {st : List Value} {dflt lo hi : Int} {offs : Array Int} {len : Nat} {x : Int32} {tgt : Nat} (cx : Cx G X own cc nL n) (hdg : decode cc pc = .ok (.tableswitch dflt lo hi offs, len)) (h : x.toInt < lo ∨ hi < x.toInt) (ht : (pc : Int) + dflt = (tgt : Int)) (k : WW G X nL σ lv tgt st) : WW G X nL σ lv pc (.int x :: st) := by
  obtain ⟨p, e, R, s, m, args, below, meth, c, Q, A, ck, sk⟩ := X
  obtain ⟨hx, hb, hml, hown, hts, hG, hA, hck, hlm⟩ := cx
  intro H locs ls hl hP hS
  exact lv_tableOut hx hb hdg h ht (k H locs ls hl hP hS)
theorem ww_lsIn {G : GT} {X : CT} {own : String} {cc : ByteArray} {nL n : Nat} {σ : St} {lv : List (Nat × Value)} {pc : Nat} {st : List Value} {dflt : Int} {ps : Array (Int × Int)} {len : Nat} {x v : Int32} {off : Int} {tgt : Nat} (cx : Cx G X own cc nL n) (hdg : decode cc pc = .ok (.lookupswitch dflt ps, len)) (h : x = v) (hp : (ps.toList.zip (ps.toList.drop 1)).all (fun (a, next) => a.1 < next.1) = true) (ho : Op.lookupswitch.offset ps.toList dflt v.toInt = off) (ht : (pc : Int) + off = (tgt : Int)) (k : WW G X nL σ lv tgt st) : WW G X nL σ lv pc (.int x :: st) := by
  subst h
  obtain ⟨p, e, R, s, m, args, below, meth, c, Q, A, ck, sk⟩ := X
  obtain ⟨hx, hb, hml, hown, hts, hG, hA, hck, hlm⟩ := cx
  intro H locs ls hl hP hS
  exact lv_lookup hx hb hdg hp ho ht (k H locs ls hl hP hS)
theorem ww_lsOut {G : GT} {X : CT} {own : String} {cc : ByteArray} {nL n : Nat} {σ : St} {lv : List (Nat × Value)} {pc : Nat} {st : List Value} {dflt : Int} {ps : Array (Int × Int)} {len : Nat} {x : Int32} {tgt : Nat} (cx : Cx G X own cc nL n) (hdg : decode cc pc = .ok (.lookupswitch dflt ps, len)) (hp : (ps.toList.zip (ps.toList.drop 1)).all (fun (a, next) => a.1 < next.1) = true) (ho : Op.lookupswitch.offset ps.toList dflt x.toInt = dflt) (ht : (pc : Int) + dflt = (tgt : Int)) (k : WW G X nL σ lv tgt st) : WW G X nL σ lv pc (.int x :: st) := by
  obtain ⟨p, e, R, s, m, args, below, meth, c, Q, A, ck, sk⟩ := X
  obtain ⟨hx, hb, hml, hown, hts, hG, hA, hck, hlm⟩ := cx
  intro H locs ls hl hP hS
  exact lv_lookup hx hb hdg hp ho ht (k H locs ls hl hP hS)
theorem i32_ne {x y : Int32} (h : ¬ x = y) : x.toInt ≠ y.toInt := fun e => h (Int32.toInt_inj.mp e)
theorem ls_out2 {x v0 v1 : Int32} {k0 k1 dflt o0 o1 : Int} (h0 : ¬ x = v0) (h1 : ¬ x = v1) (e0 : v0.toInt = k0 := by decide) (e1 : v1.toInt = k1 := by decide) : Op.lookupswitch.offset [(k0, o0), (k1, o1)] dflt x.toInt = dflt := by
  have a0 := i32_ne h0
  have a1 := i32_ne h1
  rw [e0] at a0
  rw [e1] at a1
  rw [Op.lookupswitch.offset_cons, if_neg (fun h => a0 h.symm), Op.lookupswitch.offset_cons, if_neg (fun h => a1 h.symm), Op.lookupswitch.offset_nil]
theorem ts_out3 {x : Int32} (h0 : ¬ x = 0) (h1 : ¬ x = 1) (h2 : ¬ x = 2) : x.toInt < 0 ∨ 2 < x.toInt := by
  have a0 := i32_ne h0
  rw [show ((0 : Int32)).toInt = 0 from by decide] at a0
  have a1 := i32_ne h1
  rw [show ((1 : Int32)).toInt = 1 from by decide] at a1
  have a2 := i32_ne h2
  rw [show ((2 : Int32)).toInt = 2 from by decide] at a2
  omega
theorem ts_out9 {x : Int32} (h0 : ¬ x = 0) (h1 : ¬ x = 1) (h2 : ¬ x = 2) (h3 : ¬ x = 3) (h4 : ¬ x = 4) (h5 : ¬ x = 5) (h6 : ¬ x = 6) (h7 : ¬ x = 7) (h8 : ¬ x = 8) : x.toInt < 0 ∨ 8 < x.toInt := by
  have a0 := i32_ne h0
  rw [show ((0 : Int32)).toInt = 0 from by decide] at a0
  have a1 := i32_ne h1
  rw [show ((1 : Int32)).toInt = 1 from by decide] at a1
  have a2 := i32_ne h2
  rw [show ((2 : Int32)).toInt = 2 from by decide] at a2
  have a3 := i32_ne h3
  rw [show ((3 : Int32)).toInt = 3 from by decide] at a3
  have a4 := i32_ne h4
  rw [show ((4 : Int32)).toInt = 4 from by decide] at a4
  have a5 := i32_ne h5
  rw [show ((5 : Int32)).toInt = 5 from by decide] at a5
  have a6 := i32_ne h6
  rw [show ((6 : Int32)).toInt = 6 from by decide] at a6
  have a7 := i32_ne h7
  rw [show ((7 : Int32)).toInt = 7 from by decide] at a7
  have a8 := i32_ne h8
  rw [show ((8 : Int32)).toInt = 8 from by decide] at a8
  omega
theorem ww_mmax {G : GT} {X : CT} {own : String} {cc : ByteArray} {nL n : Nat} {σ : St} {lv : List (Nat × Value)} {pc : Nat} {st : List Value} {ix : Nat} {x y : Int32} (cx : Cx G X own cc nL n) (hw : Cond.methodLink own ix Lib.Math.max.name ∈ TBL) (hn : 1 ≤ n) (hst : (st.map fun v => v.category).sum ≤ 8) (hdg : decode cc pc = .ok (.invokestatic ix, 3)) (k : WW G X nL σ lv (pc + 3) (.int (if x < y then y else x) :: st)) : WW G X nL σ lv pc (.int y :: .int x :: st) := by
  obtain ⟨p, e, R, s, m, args, below, meth, c, Q, A, ck, sk⟩ := X
  obtain ⟨hx, hb, hml, hown, hts, hG, hA, hck, hlm⟩ := cx
  intro H locs ls hl hP hS
  exact va_mmax hx hb (by rw [hl.1]; exact hml) hown (hts _ hw) (hts _ mm_max_s) (hts _ mm_i) (hts _ mm_max_c) (by omega) (by omega) hck.1 hck.2 hdg (k H locs ls hl hP hS)
theorem ww_mmin {G : GT} {X : CT} {own : String} {cc : ByteArray} {nL n : Nat} {σ : St} {lv : List (Nat × Value)} {pc : Nat} {st : List Value} {ix : Nat} {x y : Int32} (cx : Cx G X own cc nL n) (hw : Cond.methodLink own ix Lib.Math.min.name ∈ TBL) (hn : 1 ≤ n) (hst : (st.map fun v => v.category).sum ≤ 8) (hdg : decode cc pc = .ok (.invokestatic ix, 3)) (k : WW G X nL σ lv (pc + 3) (.int (if y < x then y else x) :: st)) : WW G X nL σ lv pc (.int y :: .int x :: st) := by
  obtain ⟨p, e, R, s, m, args, below, meth, c, Q, A, ck, sk⟩ := X
  obtain ⟨hx, hb, hml, hown, hts, hG, hA, hck, hlm⟩ := cx
  intro H locs ls hl hP hS
  exact va_mmin hx hb (by rw [hl.1]; exact hml) hown (hts _ hw) (hts _ mm_min_s) (hts _ mm_i) (hts _ mm_min_c) (by omega) (by omega) hck.1 hck.2 hdg (k H locs ls hl hP hS)
def cpok (sp dp n : Int32) (N0 N1 : Nat) : Prop := 0 ≤ sp.toInt ∧ 0 ≤ dp.toInt ∧ 0 ≤ n.toInt ∧ sp.toInt + n.toInt ≤ (N0 : Int) ∧ dp.toInt + n.toInt ≤ (N1 : Int)
abbrev cpokD (sp dp n : Int32) (N0 N1 : Nat) : Prop := 0 ≤ sp.toInt ∧ 0 ≤ dp.toInt ∧ 0 ≤ n.toInt ∧ sp.toInt + n.toInt ≤ (N0 : Int) ∧ dp.toInt + n.toInt ≤ (N1 : Int)
def cpyI (σ : St) (q0 q1 sp dp n : Nat) : St := (fun a => if a = q1 then va_cpy (σ.1 q0) (σ.1 q1) sp dp n else σ.1 a, σ.2)
def cpyJ (σ : St) (q0 q1 sp dp n : Nat) : St := (σ.1, fun a => if a = q1 then va_cpy (σ.2 q0) (σ.2 q1) sp dp n else σ.2 a)
theorem clamp_toInt {x : Int32} (h : 0 ≤ x.toInt) : (x.toNatClampNeg : Int) = x.toInt := by
  unfold Int32.toNatClampNeg
  exact Int.toNat_of_nonneg h
theorem nlt0 {x : Int32} (h : 0 ≤ x.toInt) : ¬ x < 0 := by
  rw [Int32.lt_iff_toInt_lt, Int32.toInt_zero]
  omega
theorem ww_copyI {G : GT} {X : CT} {own : String} {cc : ByteArray} {nL nn : Nat} {σ : St} {lv : List (Nat × Value)} {pc : Nat} {st : List Value} {ix q0 q1 N0 N1 : Nat} {sp dp n : Int32} {β : Type} {F : St → Option β} {o : β} (cx : Cx G X own cc nL nn) (hw : Cond.methodLink own ix arraycopyName ∈ TBL) (h0 : shp[q0]? = some (.inl (0, N0))) (h1 : shp[q1]? = some (.inl (0, N1))) (hn : 1 ≤ nn) (hst : (st.map fun v => v.category).sum ≤ 8) (hdg : decode cc pc = .ok (.invokestatic ix, 3)) (hF : gd (cpokD sp dp n N0 N1) (lt (cpyI σ q0 q1 sp.toNatClampNeg dp.toNatClampNeg n.toNatClampNeg) F) = some o) (k : ∀ σ1 : St, F σ1 = some o → WW G X nL σ1 lv (pc + 3) st) : WW G X nL σ lv pc (.int n :: .int dp :: .ref (gad G q1) :: .int sp :: .ref (gad G q0) :: st) := by
  obtain ⟨p, e, R, s, m, args, below, meth, c, Q, A, ck, sk⟩ := X
  obtain ⟨hx, hb, hml, hown, hts, hG, hA, hck, hlm⟩ := cx
  intro H locs ls hl hP hS
  obtain ⟨⟨g1, g2, g3, g4, g5⟩, hF⟩ := gd_some hF
  have c1 := clamp_toInt g1
  have c2 := clamp_toInt g2
  have c3 := clamp_toInt g3
  have hnw : nativeFrameWords "java/lang/System" "arraycopy" 5 + 11 ≤ 50 := by decide +kernel
  refine va_copyi hx hb (by rw [hl.1]; exact hml) hown (hts _ hw) (hts _ ac_n) (hts _ ac_s) (hts _ ac_i) hG.1 hP (hG.2.1 σ) hS q0 q1 0 0 (c0 := gca G 0) (c1 := gca G 0) (n0 := N0) (n1 := N1) (f := σ.1 q0) (g := σ.1 q1) (ty := .int) (wld_at h0) (wld_at h1) rfl rfl rfl (nlt0 g1) (nlt0 g2) (nlt0 g3) (by omega) (by omega) (fun _ _ => rfl) (by omega) (by omega) hdg (fun H1 locs1 hP1 _ hS1 => k _ hF H1 locs1 ls hl ?_ hS1)
  rw [wld_set (σ' := cpyI σ q0 q1 sp.toNatClampNeg dp.toNatClampNeg n.toNatClampNeg) h1 (by simp [cel, cpyI]) (fun q hq => by simp [cpyI, hq])] at hP1
  exact hP1
theorem ww_copyJ {G : GT} {X : CT} {own : String} {cc : ByteArray} {nL nn : Nat} {σ : St} {lv : List (Nat × Value)} {pc : Nat} {st : List Value} {ix q0 q1 N0 N1 : Nat} {sp dp n : Int32} {β : Type} {F : St → Option β} {o : β} (cx : Cx G X own cc nL nn) (hw : Cond.methodLink own ix arraycopyName ∈ TBL) (h0 : shp[q0]? = some (.inl (3, N0))) (h1 : shp[q1]? = some (.inl (3, N1))) (hn : 1 ≤ nn) (hst : (st.map fun v => v.category).sum ≤ 8) (hdg : decode cc pc = .ok (.invokestatic ix, 3)) (hF : gd (cpokD sp dp n N0 N1) (lt (cpyJ σ q0 q1 sp.toNatClampNeg dp.toNatClampNeg n.toNatClampNeg) F) = some o) (k : ∀ σ1 : St, F σ1 = some o → WW G X nL σ1 lv (pc + 3) st) : WW G X nL σ lv pc (.int n :: .int dp :: .ref (gad G q1) :: .int sp :: .ref (gad G q0) :: st) := by
  obtain ⟨p, e, R, s, m, args, below, meth, c, Q, A, ck, sk⟩ := X
  obtain ⟨hx, hb, hml, hown, hts, hG, hA, hck, hlm⟩ := cx
  intro H locs ls hl hP hS
  obtain ⟨⟨g1, g2, g3, g4, g5⟩, hF⟩ := gd_some hF
  have c1 := clamp_toInt g1
  have c2 := clamp_toInt g2
  have c3 := clamp_toInt g3
  have hnw : nativeFrameWords "java/lang/System" "arraycopy" 5 + 11 ≤ 50 := by decide +kernel
  refine va_copyl hx hb (by rw [hl.1]; exact hml) hown (hts _ hw) (hts _ ac_n) (hts _ ac_s) (hts _ ac_i) hG.1 hP (hG.2.1 σ) hS q0 q1 3 3 (c0 := gca G 3) (c1 := gca G 3) (n0 := N0) (n1 := N1) (f := σ.2 q0) (g := σ.2 q1) (ty := .long) (wld_at h0) (wld_at h1) rfl rfl rfl (nlt0 g1) (nlt0 g2) (nlt0 g3) (by omega) (by omega) (fun _ _ => rfl) (by omega) (by omega) hdg (fun H1 locs1 hP1 _ hS1 => k _ hF H1 locs1 ls hl ?_ hS1)
  rw [wld_set (σ' := cpyJ σ q0 q1 sp.toNatClampNeg dp.toNatClampNeg n.toNatClampNeg) h1 (by simp [cel, cpyJ]) (fun q hq => by simp [cpyJ, hq])] at hP1
  exact hP1
theorem img_r (j : Nat) (hj : j < [19, 26, 33].length) : [19, 26, 33][j]? = some (imgp j) := by
  have h2 : j < 3 := hj
  have : j = 0 ∨ j = 1 ∨ j = 2 := by omega
  rcases this with rfl | rfl | rfl <;> rfl
theorem row_r (j : Nat) (hj : j < [41, 43, 45, 47].length) : [41, 43, 45, 47][j]? = some (rowp j) := by
  have h2 : j < 4 := hj
  have : j = 0 ∨ j = 1 ∨ j = 2 ∨ j = 3 := by omega
  rcases this with rfl | rfl | rfl | rfl <;> rfl
theorem ww_aaldT {G : GT} {X : CT} {own : String} {cc : ByteArray} {nL n : Nat} {σ : St} {lv : List (Nat × Value)} {pc : Nat} {st : List Value} {i : Int32} {β : Type} {F : Nat → Option β} {o : β} (cx : Cx G X own cc nL n) (hdg : decode cc pc = .ok (.aaload, 1)) (hF : gd (ir i 3) (lt (imgp i.toNatClampNeg) F) = some o) (k : ∀ k : Nat, isTab k → F k = some o → WW G X nL σ lv (pc + 1) (.ref (gad G k) :: st)) : WW G X nL σ lv pc (.int i :: .ref (gad G 17) :: st) :=
  ww_aald (C := RX6) (f := imgp) (fun _ => rfl) img_r cx sh_17 hdg hF (fun h hF => k _ (imgp_ok _ h) hF)
theorem ww_aaldR {G : GT} {X : CT} {own : String} {cc : ByteArray} {nL n : Nat} {σ : St} {lv : List (Nat × Value)} {pc : Nat} {st : List Value} {i : Int32} {β : Type} {F : Nat → Option β} {o : β} (cx : Cx G X own cc nL n) (hdg : decode cc pc = .ok (.aaload, 1)) (hF : gd (ir i 4) (lt (rowp i.toNatClampNeg) F) = some o) (k : ∀ k : Nat, isRow k → F k = some o → WW G X nL σ lv (pc + 1) (.ref (gad G k) :: st)) : WW G X nL σ lv pc (.int i :: .ref (gad G 40) :: st) :=
  ww_aald (C := RX4) (f := rowp) (fun _ => rfl) row_r cx sh_40 hdg hF (fun h hF => k _ (rowp_ok _ h) hF)
theorem ww_ldcw {G : GT} {X : CT} {own : String} {cc : ByteArray} {nL n : Nat} {σ : St} {lv : List (Nat × Value)} {pc : Nat} {st : List Value} {ix : Nat} {v : Int32} (cx : Cx G X own cc nL n) (hdg : decode cc pc = .ok (.ldc_w ix, 3)) (hw : Cond.constant own ix v ∈ TBL) (k : WW G X nL σ lv (pc + 3) (.int v :: st)) : WW G X nL σ lv pc (st) := by
  obtain ⟨p, e, R, s, m, args, below, meth, c, Q, A, ck, sk⟩ := X
  obtain ⟨hx, hb, hml, hown, hts, hG, hA, hck, hlm⟩ := cx
  intro H locs ls hl hP hS
  exact lv_ldcw hx hb hown (hts _ hw) hdg (k H locs ls hl hP hS)
theorem ww_ldcS {G : GT} {X : CT} {own : String} {cc : ByteArray} {nL n : Nat} {σ : St} {lv : List (Nat × Value)} {pc : Nat} {st : List Value} {ix w : Nat} {tx : String} (cx : Cx G X own cc nL n) (hm : (own, ix, tx, w) ∈ sldc) (hdg : decode cc pc = .ok (.ldc ix, 2)) (k : WW G X nL σ lv (pc + 2) (.ref (gsk G w) :: st)) : WW G X nL σ lv pc st := by
  obtain ⟨p, e, R, s, m, args, below, meth, c, Q, A, ck, sk⟩ := X
  obtain ⟨hx, hb, hml, hown, hts, hG, hA, hck, hlm⟩ := cx
  intro H locs ls hl hP hS
  exact va_ldcS hx hb hown (hG.2.2.2.2.1 _ hm) hdg (k H locs ls hl hP hS)
def slenI (w : Nat) : Int32 := nI (slen.getD w 0)
def scha (w k : Nat) : Int32 := (((sbyt.getD w []).getD k 0 &&& 255).toUInt32 % 65536).toInt32
def CallN (y : MethodName) (b : ByteArray) (nL : Nat) (rt : Option FieldType) (na : Nat) : Prop :=
  Cond.static y ∈ TBL ∧ Cond.initialized y.cls ∈ TBL ∧ Cond.code y b nL rt ∈ TBL ∧ (y.cls ≠ "java/lang/invoke/MethodHandle" ∧ y.cls ≠ "java/lang/invoke/VarHandle" ∧ (parseMethodDescriptor y.desc).map (fun d => d.parameters.length) = some na)
theorem callN_of {y : MethodName} {b : ByteArray} {nL : Nat} {rt : Option FieldType} {na : Nat} (h2 : Cond.static y ∈ TBL) (h4 : Cond.initialized y.cls ∈ TBL) (h5 : Cond.code y b nL rt ∈ TBL) (hd : y.cls ≠ "java/lang/invoke/MethodHandle" ∧ y.cls ≠ "java/lang/invoke/VarHandle" ∧ (parseMethodDescriptor y.desc).map (fun d => d.parameters.length) = some na) : CallN y b nL rt na := ⟨h2, h4, h5, hd⟩

theorem ww_N1_pi {G : GT} {X : CT} {cc : ByteArray} {nL n : Nat} {σ : St} {lv : List (Nat × Value)} {pc : Nat} {st : List Value} {k nL' : Nat} {b : ByteArray} {rt : Option FieldType} {v0 : Value} {β : Type} {F : Option Int32} {K : Int32 → Option β} {o : β} (hC : CallN yX7_lowestBit b nL' rt 1) (cx : Cx G X RX5 cc nL n) (hk : k + 1 ≤ n ∧ nL' ≤ 45) (hst : (st.map fun v => v.category).sum ≤ 8) (hdg : decode cc pc = .ok (.invokestatic 31, 3)) (hM : ∀ r : Int32, F = some r → MCt G k yX7_lowestBit b nL' rt [v0] σ (some (.int r)) σ) (hF : bp F K = some o) (kk : ∀ r : Int32, K r = some o → WW G X nL σ lv (pc + 3) (.int r :: st)) : WW G X nL σ lv pc (v0 :: st) := by
  obtain ⟨r, h1, h2⟩ := bp_some hF
  obtain ⟨p, e, R, s, m, args, below, meth, c, Q, A, ck, sk⟩ := X
  obtain ⟨hx, hb, hml, hown, hts, hG, hA, hck, hlv⟩ := cx
  obtain ⟨c2, c3, c4, c5⟩ := hC
  intro H locs ls hl hP hS
  exact ww_back (rv := some (.int r)) (va_runSN (As := [v0]) (rest := st) ⟨hx, hb, hml, hown, hts⟩ (hM r h1 H.size) ⟨va_cnB 1 hts (fun w hw => (List.mem_cons.mp hw).elim (fun h => by rw [h]; exact tg c4) (fun h => tg h)) rfl rfl rfl hG.2.2.1 (hts _ c3) c5 ⟨by simp only [rmL]; omega, by simp only [rmL]; omega⟩, hts _ c2, trivial⟩ ⟨pc_blind, pc_at hG hA hP hS⟩ rfl rfl hl.1 rfl (lv_room8 hst) hdg hck) hS (va_A_sub hG hA hS) (fun H1 locs1 hP1 hS1 => kk r h2 H1 locs1 ls hl hP1 hS1)
