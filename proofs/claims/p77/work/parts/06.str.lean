theorem sfl_9 : Cond.fieldLink RJ0 9 "java/lang/String" "value" "[B" ∈ TBL := tm 2014 (by decide +kernel) (by decide +kernel)
theorem sfl_15 : Cond.fieldLink RJ0 15 "java/lang/String" "coder" "B" ∈ TBL := tm 2015 (by decide +kernel) (by decide +kernel)
theorem sfl_38 : Cond.fieldLink RJ0 38 "java/lang/String" "COMPACT_STRINGS" "Z" ∈ TBL := tm 481 (by decide +kernel) (by decide +kernel)
theorem sfl_1053 : Cond.fieldLink RJ0 1053 "jdk/internal/util/Preconditions" "SIOOBE_FORMATTER" "Ljava/util/function/BiFunction;" ∈ TBL := tm 497 (by decide +kernel) (by decide +kernel)
theorem co_J0_coder_7d493 : Cond.code yJ0_coder_7d493 cJ0_coder_7d493 1 (some .byte) ∈ TBL := tm 480 (by decide +kernel) (by decide +kernel)
theorem sin_J0_coder_7d493 : Cond.initialized RJ0 ∈ TBL := tm 132 (by decide +kernel) (by decide +kernel)
theorem im_J0_coder_7d493 : Cond.instanceMethod yJ0_coder_7d493 ∈ TBL := tm 478 (by decide +kernel) (by decide +kernel)
theorem se_J0_coder_7d493 : Cond.selects RJ0 yJ0_coder_7d493 yJ0_coder_7d493 ∈ TBL := tm 479 (by decide +kernel) (by decide +kernel)
theorem ml_J0_335 : Cond.methodLink RJ0 335 yJ0_coder_7d493 ∈ TBL := tm 477 (by decide +kernel) (by decide +kernel)
theorem kv_J0_335 : CallV RJ0 335 RJ0 yJ0_coder_7d493 cJ0_coder_7d493 1 (some .byte) 0 := callV_of ml_J0_335 im_J0_coder_7d493 se_J0_coder_7d493 sin_J0_coder_7d493 co_J0_coder_7d493 (by decide +kernel)
theorem co_J0_isLatin1_aae02 : Cond.code yJ0_isLatin1_aae02 cJ0_isLatin1_aae02 1 (some .boolean) ∈ TBL := tm 490 (by decide +kernel) (by decide +kernel)
theorem sin_J0_isLatin1_aae02 : Cond.initialized RJ0 ∈ TBL := tm 132 (by decide +kernel) (by decide +kernel)
theorem im_J0_isLatin1_aae02 : Cond.instanceMethod yJ0_isLatin1_aae02 ∈ TBL := tm 488 (by decide +kernel) (by decide +kernel)
theorem se_J0_isLatin1_aae02 : Cond.selects RJ0 yJ0_isLatin1_aae02 yJ0_isLatin1_aae02 ∈ TBL := tm 489 (by decide +kernel) (by decide +kernel)
theorem ml_J0_492 : Cond.methodLink RJ0 492 yJ0_isLatin1_aae02 ∈ TBL := tm 487 (by decide +kernel) (by decide +kernel)
theorem kv_J0_492 : CallV RJ0 492 RJ0 yJ0_isLatin1_aae02 cJ0_isLatin1_aae02 1 (some .boolean) 0 := callV_of ml_J0_492 im_J0_isLatin1_aae02 se_J0_isLatin1_aae02 sin_J0_isLatin1_aae02 co_J0_isLatin1_aae02 (by decide +kernel)
theorem co_J3_checkIndex_8e157 : Cond.code yJ3_checkIndex_8e157 cJ3_checkIndex_8e157 3 (some .int) ∈ TBL := tm 501 (by decide +kernel) (by decide +kernel)
theorem sin_J3_checkIndex_8e157 : Cond.initialized RJ3 ∈ TBL := tm 134 (by decide +kernel) (by decide +kernel)
theorem sc_J3_checkIndex_8e157 : Cond.static yJ3_checkIndex_8e157 ∈ TBL := tm 500 (by decide +kernel) (by decide +kernel)
theorem ml_J0_1059 : Cond.methodLink RJ0 1059 yJ3_checkIndex_8e157 ∈ TBL := tm 499 (by decide +kernel) (by decide +kernel)
theorem kv_J0_1059 : CallS RJ0 1059 yJ3_checkIndex_8e157 cJ3_checkIndex_8e157 3 (some .int) 3 := callS_of ml_J0_1059 sc_J3_checkIndex_8e157 sin_J3_checkIndex_8e157 co_J3_checkIndex_8e157 (by decide +kernel)
theorem co_J0_checkIndex_df160 : Cond.code yJ0_checkIndex_df160 cJ0_checkIndex_df160 2 (none) ∈ TBL := tm 496 (by decide +kernel) (by decide +kernel)
theorem sin_J0_checkIndex_df160 : Cond.initialized RJ0 ∈ TBL := tm 132 (by decide +kernel) (by decide +kernel)
theorem sc_J0_checkIndex_df160 : Cond.static yJ0_checkIndex_df160 ∈ TBL := tm 495 (by decide +kernel) (by decide +kernel)
theorem ml_J1_9 : Cond.methodLink RJ1 9 yJ0_checkIndex_df160 ∈ TBL := tm 494 (by decide +kernel) (by decide +kernel)
theorem kv_J1_9 : CallS RJ1 9 yJ0_checkIndex_df160 cJ0_checkIndex_df160 2 (none) 2 := callS_of ml_J1_9 sc_J0_checkIndex_df160 sin_J0_checkIndex_df160 co_J0_checkIndex_df160 (by decide +kernel)
theorem co_J1_charAt_3b067 : Cond.code yJ1_charAt_3b067 cJ1_charAt_3b067 2 (some .char) ∈ TBL := tm 493 (by decide +kernel) (by decide +kernel)
theorem sin_J1_charAt_3b067 : Cond.initialized RJ1 ∈ TBL := tm 133 (by decide +kernel) (by decide +kernel)
theorem sc_J1_charAt_3b067 : Cond.static yJ1_charAt_3b067 ∈ TBL := tm 492 (by decide +kernel) (by decide +kernel)
theorem ml_J0_495 : Cond.methodLink RJ0 495 yJ1_charAt_3b067 ∈ TBL := tm 491 (by decide +kernel) (by decide +kernel)
theorem kv_J0_495 : CallS RJ0 495 yJ1_charAt_3b067 cJ1_charAt_3b067 2 (some .char) 2 := callS_of ml_J0_495 sc_J1_charAt_3b067 sin_J1_charAt_3b067 co_J1_charAt_3b067 (by decide +kernel)
theorem met_n {G : GT} {k : Nat} {y : MethodName} {b : ByteArray} {nL : Nat} {as : List Value} {σ : St} {r : Int32} {ty : FieldType} {σ1 : St} (hy : plainName y.cls = true) (hsl : (lg_sl as).length ≤ nL) (hn : narrow ty (.int r) = .int r) (body : ∀ X : CT, Cx G X y.cls b nL k → (∀ (lv : List (Nat × Value)) (pc : Nat), decode b pc = .ok (.ireturn, 1) → WW G X nL σ1 lv pc [.int r]) → WW G X nL σ (lv_args 0 as) 0 []) : MCt G k y b nL (some ty) as σ (some (.int r)) σ1 :=
  met_core (EndP := fun X => ∀ (lv : List (Nat × Value)) (pc : Nat), decode b pc = .ok (.ireturn, 1) → WW G X nL σ1 lv pc [.int r]) hy hsl (fun p e R s m args below meth c A hx hb hr hlocks lv pc hdg H locs ls hl hP hS => W.zret hx hb hr hn (fun t ht hW => ⟨rfl, by rw [ht]; exact hP, hS.F ht⟩) hS.2.2 hdg) body
theorem ww_sval {G : GT} {X : CT} {own : String} {cc : ByteArray} {nL n : Nat} {σ : St} {lv : List (Nat × Value)} {pc : Nat} {st : List Value} {w ix : Nat} (cx : Cx G X own cc nL n) (hlk : Cond.fieldLink own ix "java/lang/String" "value" "[B" ∈ TBL) (hw : w < 18) (hdg : decode cc pc = .ok (.getfield ix, 3)) (k : WW G X nL σ lv (pc + 3) (.ref (gsv G w) :: st)) : WW G X nL σ lv pc (.ref (gsk G w) :: st) := by
  obtain ⟨p, e, R, s, m, args, below, meth, c, Q, A, ck, sk⟩ := X
  obtain ⟨hx, hb, hml, hown, hts, hG, hA, hck, hlm⟩ := cx
  intro H locs ls hl hP hS
  exact vk_getf hx hb (hG.2.2.2.1.1 w hw).2.2.1 hS hown (hts _ hlk) (fun _ h => h) hdg (k H locs ls hl hP hS)
theorem ww_scod {G : GT} {X : CT} {own : String} {cc : ByteArray} {nL n : Nat} {σ : St} {lv : List (Nat × Value)} {pc : Nat} {st : List Value} {w ix : Nat} (cx : Cx G X own cc nL n) (hlk : Cond.fieldLink own ix "java/lang/String" "coder" "B" ∈ TBL) (hw : w < 18) (hdg : decode cc pc = .ok (.getfield ix, 3)) (k : WW G X nL σ lv (pc + 3) (.int 0 :: st)) : WW G X nL σ lv pc (.ref (gsk G w) :: st) := by
  obtain ⟨p, e, R, s, m, args, below, meth, c, Q, A, ck, sk⟩ := X
  obtain ⟨hx, hb, hml, hown, hts, hG, hA, hck, hlm⟩ := cx
  intro H locs ls hl hP hS
  exact vk_getf hx hb (hG.2.2.2.1.1 w hw).2.1 hS hown (hts _ hlk) (fun _ h => h) hdg (k H locs ls hl hP hS)
theorem ww_salen {G : GT} {X : CT} {own : String} {cc : ByteArray} {nL n : Nat} {σ : St} {lv : List (Nat × Value)} {pc : Nat} {st : List Value} {w : Nat} (cx : Cx G X own cc nL n) (hw : w < 18) (hdg : decode cc pc = .ok (.arraylength, 1)) (k : WW G X nL σ lv (pc + 1) (.int (slenI w) :: st)) : WW G X nL σ lv pc (.ref (gsv G w) :: st) := by
  obtain ⟨p, e, R, s, m, args, below, meth, c, Q, A, ck, sk⟩ := X
  obtain ⟨hx, hb, hml, hown, hts, hG, hA, hck, hlm⟩ := cx
  intro H locs ls hl hP hS
  exact va_tlen hx hb (hG.2.2.2.1.1 w hw).2.2.2 hS rfl hdg (k H locs ls hl hP hS)
theorem ww_sbald {G : GT} {X : CT} {own : String} {cc : ByteArray} {nL n : Nat} {σ : St} {lv : List (Nat × Value)} {pc : Nat} {st : List Value} {w : Nat} {i : Int32} (cx : Cx G X own cc nL n) (hw : w < 18) (hi : ir i (slen.getD w 0)) (hdg : decode cc pc = .ok (.baload, 1)) (k : WW G X nL σ lv (pc + 1) (.int ((sbyt.getD w []).getD i.toNatClampNeg 0) :: st)) : WW G X nL σ lv pc (.int i :: .ref (gsv G w) :: st) := by
  obtain ⟨p, e, R, s, m, args, below, meth, c, Q, A, ck, sk⟩ := X
  obtain ⟨hx, hb, hml, hown, hts, hG, hA, hck, hlm⟩ := cx
  intro H locs ls hl hP hS
  exact va_tb hx hb (hG.2.2.2.1.1 w hw).2.2.2 hS (vp_in_iff.mpr hi) rfl hdg (k H locs ls hl hP hS)
theorem ww_gsC {G : GT} {X : CT} {own : String} {cc : ByteArray} {nL n : Nat} {σ : St} {lv : List (Nat × Value)} {pc : Nat} {st : List Value} {ix : Nat} (cx : Cx G X own cc nL n) (hlk : Cond.fieldLink own ix "java/lang/String" "COMPACT_STRINGS" "Z" ∈ TBL) (hdg : decode cc pc = .ok (.getstatic ix, 3)) (k : WW G X nL σ lv (pc + 3) (.int 1 :: st)) : WW G X nL σ lv pc st := by
  obtain ⟨p, e, R, s, m, args, below, meth, c, Q, A, ck, sk⟩ := X
  obtain ⟨hx, hb, hml, hown, hts, hG, hA, hck, hlm⟩ := cx
  intro H locs ls hl hP hS
  exact va_gets hx hb hG.2.2.2.2.2.1 hS hown (hts _ hlk) (fun _ h => h) hdg (k H locs ls hl hP hS)
theorem ww_gsQ {G : GT} {X : CT} {own : String} {cc : ByteArray} {nL n : Nat} {σ : St} {lv : List (Nat × Value)} {pc : Nat} {st : List Value} {ix : Nat} (cx : Cx G X own cc nL n) (hlk : Cond.fieldLink own ix "jdk/internal/util/Preconditions" "SIOOBE_FORMATTER" "Ljava/util/function/BiFunction;" ∈ TBL) (hdg : decode cc pc = .ok (.getstatic ix, 3)) (k : ∀ v : Value, (v = .null ∨ ∃ t, v = .ref t) → WW G X nL σ lv (pc + 3) (v :: st)) : WW G X nL σ lv pc st := by
  obtain ⟨p, e, R, s, m, args, below, meth, c, Q, A, ck, sk⟩ := X
  obtain ⟨hx, hb, hml, hown, hts, hG, hA, hck, hlm⟩ := cx
  intro H locs ls hl hP hS
  rcases hG.2.2.2.2.2.2 with h | ⟨t, h⟩
  · exact va_gets hx hb h hS hown (hts _ hlk) (fun _ h => h) hdg (k .null (Or.inl rfl) H locs ls hl hP hS)
  · exact va_gets hx hb h hS hown (hts _ hlk) (fun _ h => h) hdg (k (.ref t) (Or.inr ⟨t, rfl⟩) H locs ls hl hP hS)
theorem ww_callT {G : GT} {X : CT} {own : String} {cc : ByteArray} {nL n : Nat} {σ : St} {lv : List (Nat × Value)} {pc : Nat} {st : List Value} {k ix nL' na w : Nat} {y : MethodName} {b : ByteArray} {rt : Option FieldType} {As st0 : List Value} {rv : Option Value} {σ1 : St} (hC : CallV own ix RJ0 y b nL' rt na) (cx : Cx G X own cc nL n) (hw : w < 18) (hk : k + 1 ≤ n ∧ nL' ≤ 45) (hst : (st.map fun v => v.category).sum ≤ 8) (hlen : As.length = na) (hst0 : st0 = As.reverse ++ .ref (gsk G w) :: st) (hdg : decode cc pc = .ok (.invokevirtual ix, 3)) (hM : MCt G k y b nL' rt (.ref (gsk G w) :: As) σ rv σ1) (kk : WW G X nL σ1 lv (pc + 3) (rv.toList ++ st)) : WW G X nL σ lv pc st0 := by
  obtain ⟨p, e, R, s, m, args, below, meth, c, Q, A, ck, sk⟩ := X
  obtain ⟨hx, hb, hml, hown, hts, hG, hA, hck, hlm⟩ := cx
  intro H locs ls hl hP hS
  exact ww_back (va_runV (As := As) (rest := st) ⟨hx, hb, hml, hown, hts⟩ (hM H.size) (cwV na hts hC.1 rfl rfl rfl hC.2 ⟨by simp only [rmL]; omega, by simp only [rmL]; omega⟩) ⟨pc_blind, vk_recv hG.2.2.2.1 hw hS, pc_at hG hA hP hS⟩ rfl hlen hl.1 hst0 (lv_room8 hst) hdg hck) hS (va_A_sub hG hA hS) (fun H1 locs1 hP1 hS1 => kk H1 locs1 ls hl hP1 hS1)
theorem ic_0s : Int32.ofInt 0 = 0 := by decide
theorem ic_1s : Int32.ofInt 1 = 1 := by decide
theorem sc_255s : (Int16.ofInt 255).toInt32 = 255 := by decide
set_option maxRecDepth 4000
theorem kJ0_coder (G : GT) {σ : St} {w : Nat} (hw : w < 18) : MCt G 1 yJ0_coder_7d493 cJ0_coder_7d493 1 (some .byte) [.ref (gsk G w)] σ (some (.int 0)) σ := by
  refine met_n (by decide) (Nat.le_of_ble_eq_true rfl) rfl (fun X cx hE => ?_)
  have cx : Cx G X RJ0 cJ0_coder_7d493 1 1 := cx
  show WW G X 1 σ [(0, .ref (gsk G w))] 0 []
  refine ww_gsC cx sfl_38 dJ0_coder_7d493_0 ?_
  have hF : (if (1 : Int32) = 0 then (none : Option Unit) else some ()) = some () := rfl
  refine ww_if_eq cx dJ0_coder_7d493_3 (tgt := 13) rfl hF (fun h => by cases h) (fun _ => ?_)
  refine ww_aload_n cx dJ0_coder_7d493_6 rfl 0 rfl ?_
  refine ww_scod cx sfl_15 hw dJ0_coder_7d493_7 ?_
  refine ww_goto cx dJ0_coder_7d493_10 (tgt := 14) rfl ?_
  exact hE _ _ dJ0_coder_7d493_14
theorem kJ0_isLatin1 (G : GT) {σ : St} {w : Nat} (hw : w < 18) : MCt G 1 yJ0_isLatin1_aae02 cJ0_isLatin1_aae02 1 (some .boolean) [.ref (gsk G w)] σ (some (.int 1)) σ := by
  refine met_n (by decide) (Nat.le_of_ble_eq_true rfl) rfl (fun X cx hE => ?_)
  have cx : Cx G X RJ0 cJ0_isLatin1_aae02 1 1 := cx
  show WW G X 1 σ [(0, .ref (gsk G w))] 0 []
  refine ww_gsC cx sfl_38 dJ0_isLatin1_aae02_0 ?_
  have hF : (if (1 : Int32) = 0 then (none : Option Unit) else some ()) = some () := rfl
  refine ww_if_eq cx dJ0_isLatin1_aae02_3 (tgt := 17) rfl hF (fun h => by cases h) (fun _ => ?_)
  refine ww_aload_n cx dJ0_isLatin1_aae02_6 rfl 0 rfl ?_
  refine ww_scod cx sfl_15 hw dJ0_isLatin1_aae02_7 ?_
  have hF : (if (0 : Int32) = 0 then some () else (none : Option Unit)) = some () := rfl
  refine ww_if_ne cx dJ0_isLatin1_aae02_10 (tgt := 17) rfl hF (fun h => by cases h) (fun _ => ?_)
  refine ww_iconst cx dJ0_isLatin1_aae02_13 ic_1s ?_
  refine ww_goto cx dJ0_isLatin1_aae02_14 (tgt := 18) rfl ?_
  exact hE _ _ dJ0_isLatin1_aae02_18
theorem kJ0_length (G : GT) {σ : St} {w : Nat} (hw : w < 18) : MCt G 2 yJ0_length_8abf5 cJ0_length_8abf5 1 (some .int) [.ref (gsk G w)] σ (some (.int (slenI w))) σ := by
  refine met_i (by decide) (Nat.le_of_ble_eq_true rfl) (fun X cx hE => ?_)
  have cx : Cx G X RJ0 cJ0_length_8abf5 1 2 := cx
  show WW G X 1 σ [(0, .ref (gsk G w))] 0 []
  refine ww_aload_n cx dJ0_length_8abf5_0 rfl 0 rfl ?_
  refine ww_sval cx sfl_9 hw dJ0_length_8abf5_1 ?_
  refine ww_salen cx hw dJ0_length_8abf5_4 ?_
  refine ww_aload_n cx dJ0_length_8abf5_5 rfl 0 rfl ?_
  refine ww_callT (As := []) kv_J0_335 cx hw ⟨Nat.le_of_ble_eq_true rfl, Nat.le_of_ble_eq_true rfl⟩ (Nat.le_of_ble_eq_true rfl) rfl rfl dJ0_length_8abf5_6 (kJ0_coder G hw) ?_
  refine ww_ishr cx dJ0_length_8abf5_9 ?_
  rw [sb_shr0]
  exact hE _ _ dJ0_length_8abf5_10
theorem kJ3_checkIndex (G : GT) {σ : St} {i m : Int32} {v : Value} (hv : v = .null ∨ ∃ t, v = .ref t) (h1 : ¬ i < 0) (h2 : i < m) : MCt G 1 yJ3_checkIndex_8e157 cJ3_checkIndex_8e157 3 (some .int) [.int i, .int m, v] σ (some (.int i)) σ := by
  have hlen : (lg_sl [.int i, .int m, v]).length ≤ 3 := by rcases hv with rfl | ⟨t, rfl⟩ <;> exact Nat.le_of_ble_eq_true rfl
  refine met_i (by decide) hlen (fun X cx hE => ?_)
  have cx : Cx G X RJ3 cJ3_checkIndex_8e157 3 1 := cx
  refine ww_sub (lv' := [(0, .int i), (1, .int m)]) [0, 1] rfl ?_
  refine ww_iload_n cx dJ3_checkIndex_8e157_0 rfl 0 rfl ?_
  have hF : (if i < 0 then (none : Option Unit) else some ()) = some () := if_neg h1
  refine ww_if_lt cx dJ3_checkIndex_8e157_1 (tgt := 9) rfl hF (fun h => by cases h) (fun _ => ?_)
  refine ww_iload_n cx dJ3_checkIndex_8e157_4 rfl 0 rfl ?_
  refine ww_iload_n cx dJ3_checkIndex_8e157_5 rfl 1 rfl ?_
  have hF : (if i < m then some () else (none : Option Unit)) = some () := if_pos h2
  refine ww_icmp_lt cx dJ3_checkIndex_8e157_6 (tgt := 16) rfl hF (fun _ => ?_) (fun h => by cases h)
  refine ww_iload_n cx dJ3_checkIndex_8e157_16 rfl 0 rfl ?_
  exact hE _ _ dJ3_checkIndex_8e157_17
theorem kJ0_checkIndex (G : GT) {σ : St} {i m : Int32} (h1 : ¬ i < 0) (h2 : i < m) : MCt G 2 yJ0_checkIndex_df160 cJ0_checkIndex_df160 2 none [.int i, .int m] σ none σ := by
  refine met_v (by decide) (Nat.le_of_ble_eq_true rfl) (fun X cx hE => ?_)
  have cx : Cx G X RJ0 cJ0_checkIndex_df160 2 2 := cx
  show WW G X 2 σ [(0, .int i), (1, .int m)] 0 []
  refine ww_iload_n cx dJ0_checkIndex_df160_0 rfl 0 rfl ?_
  refine ww_iload_n cx dJ0_checkIndex_df160_1 rfl 1 rfl ?_
  refine ww_gsQ cx sfl_1053 dJ0_checkIndex_df160_2 (fun v hv => ?_)
  refine ww_callS (As := [.int i, .int m, v]) (st := []) kv_J0_1059 cx ⟨Nat.le_of_ble_eq_true rfl, Nat.le_of_ble_eq_true rfl⟩ (Nat.le_of_ble_eq_true rfl) rfl rfl dJ0_checkIndex_df160_5 (kJ3_checkIndex G hv h1 h2) ?_
  refine ww_pop cx dJ0_checkIndex_df160_8 rfl ?_
  exact hE _ _ dJ0_checkIndex_df160_9
theorem slen_lt (w : Nat) : slen.getD w 0 < 2 ^ 31 := by
  rcases Nat.lt_or_ge w 18 with h | h
  · have : ∀ w, w < 18 → slen.getD w 0 < 2 ^ 31 := by decide
    exact this w h
  · have e : slen.getD w 0 = 0 := by
      rw [List.getD_eq_getElem?_getD, List.getElem?_eq_none (by exact h)]
      rfl
    omega
theorem kJ1_charAt (G : GT) {σ : St} {w : Nat} {i : Int32} (hw : w < 18) (hi : ir i (slen.getD w 0)) : MCt G 3 yJ1_charAt_3b067 cJ1_charAt_3b067 2 (some .char) [.ref (gsv G w), .int i] σ (some (.int (scha w i.toNatClampNeg))) σ := by
  refine met_n (by decide) (Nat.le_of_ble_eq_true rfl) (pk_nc _) (fun X cx hE => ?_)
  have cx : Cx G X RJ1 cJ1_charAt_3b067 2 3 := cx
  show WW G X 2 σ [(0, .ref (gsv G w)), (1, .int i)] 0 []
  refine ww_iload_n cx dJ1_charAt_3b067_0 rfl 1 rfl ?_
  refine ww_aload_n cx dJ1_charAt_3b067_1 rfl 0 rfl ?_
  refine ww_salen cx hw dJ1_charAt_3b067_2 ?_
  have hlt := slen_lt w
  have h2 : i < slenI w := by
    rw [Int32.lt_iff_toInt_lt, slenI, nI_toInt hlt]
    exact hi.2
  refine ww_callS (As := [.int i, .int (slenI w)]) (st := []) kv_J1_9 cx ⟨Nat.le_of_ble_eq_true rfl, Nat.le_of_ble_eq_true rfl⟩ (Nat.le_of_ble_eq_true rfl) rfl rfl dJ1_charAt_3b067_3 (kJ0_checkIndex G (nlt0 hi.1) h2) ?_
  refine ww_aload_n cx dJ1_charAt_3b067_6 rfl 0 rfl ?_
  refine ww_iload_n cx dJ1_charAt_3b067_7 rfl 1 rfl ?_
  refine ww_sbald cx hw hi dJ1_charAt_3b067_8 ?_
  refine ww_sipush cx dJ1_charAt_3b067_9 sc_255s ?_
  refine ww_iand cx dJ1_charAt_3b067_12 ?_
  refine ww_i2c cx dJ1_charAt_3b067_13 ?_
  exact hE _ _ dJ1_charAt_3b067_14
theorem kJ0_charAt (G : GT) {σ : St} {w : Nat} {i : Int32} (hw : w < 18) (hi : ir i (slen.getD w 0)) : MCt G 4 yJ0_charAt_5068e cJ0_charAt_5068e 2 (some .char) [.ref (gsk G w), .int i] σ (some (.int (scha w i.toNatClampNeg))) σ := by
  refine met_n (by decide) (Nat.le_of_ble_eq_true rfl) (pk_nc _) (fun X cx hE => ?_)
  have cx : Cx G X RJ0 cJ0_charAt_5068e 2 4 := cx
  show WW G X 2 σ [(0, .ref (gsk G w)), (1, .int i)] 0 []
  refine ww_aload_n cx dJ0_charAt_5068e_0 rfl 0 rfl ?_
  refine ww_callT (As := []) kv_J0_492 cx hw ⟨Nat.le_of_ble_eq_true rfl, Nat.le_of_ble_eq_true rfl⟩ (Nat.le_of_ble_eq_true rfl) rfl rfl dJ0_charAt_5068e_1 (kJ0_isLatin1 G hw) ?_
  have hF : (if (1 : Int32) = 0 then (none : Option Unit) else some ()) = some () := rfl
  refine ww_if_eq (st := []) cx dJ0_charAt_5068e_4 (tgt := 16) rfl hF (fun h => by cases h) (fun _ => ?_)
  refine ww_aload_n cx dJ0_charAt_5068e_7 rfl 0 rfl ?_
  refine ww_sval cx sfl_9 hw dJ0_charAt_5068e_8 ?_
  refine ww_iload_n cx dJ0_charAt_5068e_11 rfl 1 rfl ?_
  refine ww_callS (As := [.ref (gsv G w), .int i]) (st := []) kv_J0_495 cx ⟨Nat.le_of_ble_eq_true rfl, Nat.le_of_ble_eq_true rfl⟩ (Nat.le_of_ble_eq_true rfl) rfl rfl dJ0_charAt_5068e_12 (kJ1_charAt G hw hi) ?_
  exact hE _ _ dJ0_charAt_5068e_15
theorem ww_slen {G : GT} {X : CT} {own : String} {cc : ByteArray} {nL n : Nat} {σ : St} {lv : List (Nat × Value)} {pc : Nat} {st : List Value} {w ix : Nat} (cx : Cx G X own cc nL n) (hC : CallV own ix RJ0 yJ0_length_8abf5 cJ0_length_8abf5 1 (some .int) 0) (hw : w < 18) (hk : 3 ≤ n) (hst : (st.map fun v => v.category).sum ≤ 8) (hdg : decode cc pc = .ok (.invokevirtual ix, 3)) (k : WW G X nL σ lv (pc + 3) (.int (slenI w) :: st)) : WW G X nL σ lv pc (.ref (gsk G w) :: st) :=
  ww_callT (As := []) hC cx hw ⟨hk, Nat.le_of_ble_eq_true rfl⟩ hst rfl rfl hdg (kJ0_length G hw) k
theorem ww_scha {G : GT} {X : CT} {own : String} {cc : ByteArray} {nL n : Nat} {σ : St} {lv : List (Nat × Value)} {pc : Nat} {st : List Value} {w ix : Nat} {i : Int32} {β : Type} {F : Option β} {o : β} (cx : Cx G X own cc nL n) (hC : CallV own ix RJ0 yJ0_charAt_5068e cJ0_charAt_5068e 2 (some .char) 1) (hw : w < 18) (hk : 5 ≤ n) (hst : (st.map fun v => v.category).sum ≤ 8) (hdg : decode cc pc = .ok (.invokevirtual ix, 3)) (hF : gd (ir i (slen.getD w 0)) F = some o) (k : F = some o → WW G X nL σ lv (pc + 3) (.int (scha w i.toNatClampNeg) :: st)) : WW G X nL σ lv pc (.int i :: .ref (gsk G w) :: st) :=
  ww_callT (As := [.int i]) hC cx hw ⟨hk, Nat.le_of_ble_eq_true rfl⟩ hst rfl rfl hdg (kJ0_charAt G hw (gd_some hF).1) (k (gd_some hF).2)
