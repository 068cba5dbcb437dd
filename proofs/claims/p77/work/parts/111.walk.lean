theorem dX8_readSalt_0 : decode cX8_readSalt 0 = .ok (.aload_n 0, 1) := by decide +kernel
theorem dX8_readSalt_1 : decode cX8_readSalt 1 = .ok (.aload_n 0, 1) := by decide +kernel
theorem dX8_readSalt_2 : decode cX8_readSalt 2 = .ok (.getfield 31, 3) := by decide +kernel
theorem dX8_readSalt_5 : decode cX8_readSalt 5 = .ok (.iconst 3, 1) := by decide +kernel
theorem dX8_readSalt_6 : decode cX8_readSalt 6 = .ok (.iaload, 1) := by decide +kernel
theorem dX8_readSalt_7 : decode cX8_readSalt 7 = .ok (.invokevirtual 208, 3) := by decide +kernel
theorem dX8_readSalt_10 : decode cX8_readSalt 10 = .ok (.ifCond .eq 28, 3) := by decide +kernel
theorem dX8_readSalt_13 : decode cX8_readSalt 13 = .ok (.aload_n 0, 1) := by decide +kernel
theorem dX8_readSalt_14 : decode cX8_readSalt 14 = .ok (.getfield 31, 3) := by decide +kernel
theorem dX8_readSalt_17 : decode cX8_readSalt 17 = .ok (.bipush 7, 2) := by decide +kernel
theorem dX8_readSalt_19 : decode cX8_readSalt 19 = .ok (.iconst 3, 1) := by decide +kernel
theorem dX8_readSalt_20 : decode cX8_readSalt 20 = .ok (.aload_n 0, 1) := by decide +kernel
theorem dX8_readSalt_21 : decode cX8_readSalt 21 = .ok (.getfield 122, 3) := by decide +kernel
theorem dX8_readSalt_24 : decode cX8_readSalt 24 = .ok (.imul, 1) := by decide +kernel
theorem dX8_readSalt_25 : decode cX8_readSalt 25 = .ok (.iadd, 1) := by decide +kernel
theorem dX8_readSalt_26 : decode cX8_readSalt 26 = .ok (.iconst 1, 1) := by decide +kernel
theorem dX8_readSalt_27 : decode cX8_readSalt 27 = .ok (.iadd, 1) := by decide +kernel
theorem dX8_readSalt_28 : decode cX8_readSalt 28 = .ok (.iaload, 1) := by decide +kernel
theorem dX8_readSalt_29 : decode cX8_readSalt 29 = .ok (.iconst 1, 1) := by decide +kernel
theorem dX8_readSalt_30 : decode cX8_readSalt 30 = .ok (.if_icmp .ne 8, 3) := by decide +kernel
theorem dX8_readSalt_33 : decode cX8_readSalt 33 = .ok (.aload_n 0, 1) := by decide +kernel
theorem dX8_readSalt_34 : decode cX8_readSalt 34 = .ok (.iconst 2, 1) := by decide +kernel
theorem dX8_readSalt_35 : decode cX8_readSalt 35 = .ok (.invokevirtual 157, 3) := by decide +kernel
theorem dX8_readSalt_38 : decode cX8_readSalt 38 = .ok (.aload_n 0, 1) := by decide +kernel
theorem dX8_readSalt_39 : decode cX8_readSalt 39 = .ok (.invokevirtual 212, 3) := by decide +kernel
theorem dX8_readSalt_42 : decode cX8_readSalt 42 = .ok (.istore_n 1, 1) := by decide +kernel
theorem dX8_readSalt_43 : decode cX8_readSalt 43 = .ok (.aload_n 0, 1) := by decide +kernel
theorem dX8_readSalt_44 : decode cX8_readSalt 44 = .ok (.invokevirtual 134, 3) := by decide +kernel
theorem dX8_readSalt_47 : decode cX8_readSalt 47 = .ok (.ifCond .eq 17, 3) := by decide +kernel
theorem dX8_readSalt_50 : decode cX8_readSalt 50 = .ok (.aload_n 0, 1) := by decide +kernel
theorem dX8_readSalt_51 : decode cX8_readSalt 51 = .ok (.getfield 31, 3) := by decide +kernel
theorem dX8_readSalt_54 : decode cX8_readSalt 54 = .ok (.bipush 7, 2) := by decide +kernel
theorem dX8_readSalt_56 : decode cX8_readSalt 56 = .ok (.iconst 3, 1) := by decide +kernel
theorem dX8_readSalt_57 : decode cX8_readSalt 57 = .ok (.iload_n 1, 1) := by decide +kernel
theorem dX8_readSalt_58 : decode cX8_readSalt 58 = .ok (.imul, 1) := by decide +kernel
theorem dX8_readSalt_59 : decode cX8_readSalt 59 = .ok (.iadd, 1) := by decide +kernel
theorem dX8_readSalt_60 : decode cX8_readSalt 60 = .ok (.iconst 1, 1) := by decide +kernel
theorem dX8_readSalt_61 : decode cX8_readSalt 61 = .ok (.iadd, 1) := by decide +kernel
theorem dX8_readSalt_62 : decode cX8_readSalt 62 = .ok (.iconst 1, 1) := by decide +kernel
theorem dX8_readSalt_63 : decode cX8_readSalt 63 = .ok (.iastore, 1) := by decide +kernel
theorem dX8_readSalt_64 : decode cX8_readSalt 64 = .ok (.return_, 1) := by decide +kernel
set_option maxRecDepth 4000 in
theorem kX8_readSalt (G : GT) {σ : St} : ∀ (σo : St) , fX8_readSalt σ = some σo → MCt G 5 yX8_readSalt cX8_readSalt 2 (none) [.ref (gad G 62)] σ (none) σo := by
  intro σo hF
  refine met_v (by decide) (Nat.le_of_ble_eq_true rfl) (fun X cx hE => ?_)
  have cx : Cx G X RX8 cX8_readSalt 2 5 := cx
  have hb38 : ∀ (σ : St) , fX8_readSalt_b38 σ = some σo → WW G X 2 σ [(0, .ref (gad G 62))] 38 [] := by
    intro σ hF
    unfold fX8_readSalt_b38 at hF
    refine ww_aload_n cx dX8_readSalt_38 rfl 0 rfl ?_
    refine ww_V0_si kv_X8_212 rfl cx sh_62 ⟨Nat.le_of_ble_eq_true rfl, Nat.le_of_ble_eq_true rfl⟩ (Nat.le_of_ble_eq_true rfl) dX8_readSalt_39 (kX8_freshClaim G) hF (fun r1 σ2 hF => ?_)
    refine ww_istore_n (ks := [0, 1]) (lv' := fun v3 => [(1, .int v3), (0, .ref (gad G 62))]) cx dX8_readSalt_42 rfl (by decide) hF (fun _ => rfl) (fun v3 hF => ?_)
    refine ww_aload_n cx dX8_readSalt_43 rfl 1 rfl ?_
    refine ww_V0_pi kv_X8_134 rfl cx sh_62 ⟨Nat.le_of_ble_eq_true rfl, Nat.le_of_ble_eq_true rfl⟩ (Nat.le_of_ble_eq_true rfl) dX8_readSalt_44 (kX8_good G) hF (fun r4 hF => ?_)
    refine ww_if_eq cx dX8_readSalt_47 (tgt := 64) rfl hF (fun hF => ?_) (fun hF => ?_)
    · exact ww_rvs hE dX8_readSalt_64 hF
    · refine ww_aload_n cx dX8_readSalt_50 rfl 1 rfl ?_
      refine gf_X8_31 cx dX8_readSalt_51 ?_
      refine ww_bipush cx dX8_readSalt_54 bc_7 ?_
      refine ww_iconst cx dX8_readSalt_56 ic_3 ?_
      refine ww_iload_n cx dX8_readSalt_57 rfl 0 rfl ?_
      refine ww_imul cx dX8_readSalt_58 ?_
      refine ww_iadd cx dX8_readSalt_59 ?_
      refine ww_iconst cx dX8_readSalt_60 ic_1 ?_
      refine ww_iadd cx dX8_readSalt_61 ?_
      refine ww_iconst cx dX8_readSalt_62 ic_1 ?_
      refine ww_iast (N := 77) cx (sh_68) dX8_readSalt_63 hF (fun σ5 hF => ?_)
      exact ww_rvs hE dX8_readSalt_64 hF
  unfold fX8_readSalt at hF
  show WW G X 2 σ [(0, .ref (gad G 62))] 0 []
  refine ww_aload_n cx dX8_readSalt_0 rfl 0 rfl ?_
  refine ww_aload_n cx dX8_readSalt_1 rfl 0 rfl ?_
  refine gf_X8_31 cx dX8_readSalt_2 ?_
  refine ww_iconst cx dX8_readSalt_5 ic_3 ?_
  refine ww_iald (N := 77) cx (sh_68) dX8_readSalt_6 hF (fun hF => ?_)
  refine ww_V1_pi kv_X8_208 rfl cx sh_62 ⟨Nat.le_of_ble_eq_true rfl, Nat.le_of_ble_eq_true rfl⟩ (Nat.le_of_ble_eq_true rfl) dX8_readSalt_7 (kX8_isNextIn G) hF (fun r6 hF => ?_)
  refine ww_if_eq cx dX8_readSalt_10 (tgt := 38) rfl hF (fun hF => ?_) (fun hF => ?_)
  · exact hb38 _ hF
  · refine ww_aload_n cx dX8_readSalt_13 rfl 0 rfl ?_
    refine gf_X8_31 cx dX8_readSalt_14 ?_
    refine ww_bipush cx dX8_readSalt_17 bc_7 ?_
    refine ww_iconst cx dX8_readSalt_19 ic_3 ?_
    refine ww_aload_n cx dX8_readSalt_20 rfl 0 rfl ?_
    refine gf_X8_122 cx dX8_readSalt_21 ?_
    refine ww_imul cx dX8_readSalt_24 ?_
    refine ww_iadd cx dX8_readSalt_25 ?_
    refine ww_iconst cx dX8_readSalt_26 ic_1 ?_
    refine ww_iadd cx dX8_readSalt_27 ?_
    refine ww_iald (N := 77) cx (sh_68) dX8_readSalt_28 hF (fun hF => ?_)
    refine ww_iconst cx dX8_readSalt_29 ic_1 ?_
    refine ww_icmp_ne cx dX8_readSalt_30 (tgt := 38) rfl hF (fun hF => ?_) (fun hF => ?_)
    · exact hb38 _ hF
    · refine ww_aload_n cx dX8_readSalt_33 rfl 0 rfl ?_
      refine ww_iconst cx dX8_readSalt_34 ic_2 ?_
      refine ww_V1_sv kv_X8_157 rfl cx sh_62 ⟨Nat.le_of_ble_eq_true rfl, Nat.le_of_ble_eq_true rfl⟩ (Nat.le_of_ble_eq_true rfl) dX8_readSalt_35 (kX8_errs G) hF (fun σ7 hF => ?_)
      exact hb38 _ hF
theorem dX8_rests_0 : decode cX8_rests 0 = .ok (.aload_n 0, 1) := by decide +kernel
theorem dX8_rests_1 : decode cX8_rests 1 = .ok (.iload_n 1, 1) := by decide +kernel
theorem dX8_rests_2 : decode cX8_rests 2 = .ok (.i2l, 1) := by decide +kernel
theorem dX8_rests_3 : decode cX8_rests 3 = .ok (.invokevirtual 276, 3) := by decide +kernel
theorem dX8_rests_6 : decode cX8_rests 6 = .ok (.ifCond .eq 31, 3) := by decide +kernel
theorem dX8_rests_9 : decode cX8_rests 9 = .ok (.aload_n 0, 1) := by decide +kernel
theorem dX8_rests_10 : decode cX8_rests 10 = .ok (.invokevirtual 310, 3) := by decide +kernel
theorem dX8_rests_13 : decode cX8_rests 13 = .ok (.aload_n 0, 1) := by decide +kernel
theorem dX8_rests_14 : decode cX8_rests 14 = .ok (.aload_n 0, 1) := by decide +kernel
theorem dX8_rests_15 : decode cX8_rests 15 = .ok (.invokevirtual 257, 3) := by decide +kernel
theorem dX8_rests_18 : decode cX8_rests 18 = .ok (.aload_n 0, 1) := by decide +kernel
theorem dX8_rests_19 : decode cX8_rests 19 = .ok (.invokevirtual 304, 3) := by decide +kernel
theorem dX8_rests_22 : decode cX8_rests 22 = .ok (.iconst 1, 1) := by decide +kernel
theorem dX8_rests_23 : decode cX8_rests 23 = .ok (.iload_n 1, 1) := by decide +kernel
theorem dX8_rests_24 : decode cX8_rests 24 = .ok (.ishl, 1) := by decide +kernel
theorem dX8_rests_25 : decode cX8_rests 25 = .ok (.iconst (-1), 1) := by decide +kernel
theorem dX8_rests_26 : decode cX8_rests 26 = .ok (.ixor, 1) := by decide +kernel
theorem dX8_rests_27 : decode cX8_rests 27 = .ok (.iand, 1) := by decide +kernel
theorem dX8_rests_28 : decode cX8_rests 28 = .ok (.invokevirtual 307, 3) := by decide +kernel
theorem dX8_rests_31 : decode cX8_rests 31 = .ok (.iconst (-1), 1) := by decide +kernel
theorem dX8_rests_32 : decode cX8_rests 32 = .ok (.ixor, 1) := by decide +kernel
theorem dX8_rests_33 : decode cX8_rests 33 = .ok (.iand, 1) := by decide +kernel
theorem dX8_rests_34 : decode cX8_rests 34 = .ok (.goto 5, 3) := by decide +kernel
theorem dX8_rests_37 : decode cX8_rests 37 = .ok (.bipush (-2), 2) := by decide +kernel
theorem dX8_rests_39 : decode cX8_rests 39 = .ok (.ireturn, 1) := by decide +kernel
set_option maxRecDepth 4000 in
theorem kX8_rests (G : GT) {σ : St} {a1 : Int32} : ∀ (r : Int32) , fX8_rests σ a1 = some r → MCt G 5 yX8_rests cX8_rests 2 (some .int) [.ref (gad G 62), .int a1] σ (some (.int r)) σ := by
  intro r hF
  refine met_i (by decide) (Nat.le_of_ble_eq_true rfl) (fun X cx hE => ?_)
  have cx : Cx G X RX8 cX8_rests 2 5 := cx
  unfold fX8_rests at hF
  show WW G X 2 σ [(0, .ref (gad G 62)), (1, .int a1)] 0 []
  refine ww_aload_n cx dX8_rests_0 rfl 0 rfl ?_
  refine ww_iload_n cx dX8_rests_1 rfl 1 rfl ?_
  refine ww_i2l cx dX8_rests_2 ?_
  refine ww_V1_pi kv_X8_276 rfl cx sh_62 ⟨Nat.le_of_ble_eq_true rfl, Nat.le_of_ble_eq_true rfl⟩ (Nat.le_of_ble_eq_true rfl) dX8_rests_3 (kX8_isStep G) hF (fun r1 hF => ?_)
  refine ww_if_eq cx dX8_rests_6 (tgt := 37) rfl hF (fun hF => ?_) (fun hF => ?_)
  · refine ww_bipush cx dX8_rests_37 bc_m2 ?_
    exact ww_rip hE dX8_rests_39 hF
  · refine ww_aload_n cx dX8_rests_9 rfl 0 rfl ?_
    refine ww_V0_pi kv_X8_310 rfl cx sh_62 ⟨Nat.le_of_ble_eq_true rfl, Nat.le_of_ble_eq_true rfl⟩ (Nat.le_of_ble_eq_true rfl) dX8_rests_10 (kX8_provedNow G) hF (fun r2 hF => ?_)
    refine ww_aload_n cx dX8_rests_13 rfl 0 rfl ?_
    refine ww_aload_n cx dX8_rests_14 rfl 0 rfl ?_
    refine ww_V0_pi kv_X8_257 rfl cx sh_62 ⟨Nat.le_of_ble_eq_true rfl, Nat.le_of_ble_eq_true rfl⟩ (Nat.le_of_ble_eq_true rfl) dX8_rests_15 (kX8_saltNow G) hF (fun r3 hF => ?_)
    refine ww_aload_n cx dX8_rests_18 rfl 0 rfl ?_
    refine ww_V0_pi kv_X8_304 rfl cx sh_62 ⟨Nat.le_of_ble_eq_true rfl, Nat.le_of_ble_eq_true rfl⟩ (Nat.le_of_ble_eq_true rfl) dX8_rests_19 (kX8_allSteps G) hF (fun r4 hF => ?_)
    refine ww_iconst cx dX8_rests_22 ic_1 ?_
    refine ww_iload_n cx dX8_rests_23 rfl 1 rfl ?_
    refine ww_ishl cx dX8_rests_24 ?_
    refine ww_iconst cx dX8_rests_25 ic_m1 ?_
    refine ww_ixor cx dX8_rests_26 ?_
    refine ww_iand cx dX8_rests_27 ?_
    refine ww_V2_pi kv_X8_307 rfl cx sh_62 ⟨Nat.le_of_ble_eq_true rfl, Nat.le_of_ble_eq_true rfl⟩ (Nat.le_of_ble_eq_true rfl) dX8_rests_28 (kX8_provedBy G) hF (fun r5 hF => ?_)
    refine ww_iconst cx dX8_rests_31 ic_m1 ?_
    refine ww_ixor cx dX8_rests_32 ?_
    refine ww_iand cx dX8_rests_33 ?_
    refine ww_goto cx dX8_rests_34 (tgt := 39) rfl ?_
    exact ww_rip hE dX8_rests_39 hF
theorem dX8_salted_0 : decode cX8_salted 0 = .ok (.aload_n 0, 1) := by decide +kernel
theorem dX8_salted_1 : decode cX8_salted 1 = .ok (.invokevirtual 291, 3) := by decide +kernel
theorem dX8_salted_4 : decode cX8_salted 4 = .ok (.ifCond .eq 10, 3) := by decide +kernel
theorem dX8_salted_7 : decode cX8_salted 7 = .ok (.aload_n 0, 1) := by decide +kernel
theorem dX8_salted_8 : decode cX8_salted 8 = .ok (.invokevirtual 266, 3) := by decide +kernel
theorem dX8_salted_11 : decode cX8_salted 11 = .ok (.goto 5, 3) := by decide +kernel
theorem dX8_salted_14 : decode cX8_salted 14 = .ok (.bipush (-2), 2) := by decide +kernel
theorem dX8_salted_16 : decode cX8_salted 16 = .ok (.ireturn, 1) := by decide +kernel
set_option maxRecDepth 4000 in
theorem kX8_salted (G : GT) {σ : St} : ∀ (r : Int32) , fX8_salted σ = some r → MCt G 5 yX8_salted cX8_salted 1 (some .int) [.ref (gad G 62)] σ (some (.int r)) σ := by
  intro r hF
  refine met_i (by decide) (Nat.le_of_ble_eq_true rfl) (fun X cx hE => ?_)
  have cx : Cx G X RX8 cX8_salted 1 5 := cx
  unfold fX8_salted at hF
  show WW G X 1 σ [(0, .ref (gad G 62))] 0 []
  refine ww_aload_n cx dX8_salted_0 rfl 0 rfl ?_
  refine ww_V0_pi kv_X8_291 rfl cx sh_62 ⟨Nat.le_of_ble_eq_true rfl, Nat.le_of_ble_eq_true rfl⟩ (Nat.le_of_ble_eq_true rfl) dX8_salted_1 (kX8_isTable G) hF (fun r1 hF => ?_)
  refine ww_if_eq cx dX8_salted_4 (tgt := 14) rfl hF (fun hF => ?_) (fun hF => ?_)
  · refine ww_bipush cx dX8_salted_14 bc_m2 ?_
    exact ww_rip hE dX8_salted_16 hF
  · refine ww_aload_n cx dX8_salted_7 rfl 0 rfl ?_
    refine ww_V0_pi kv_X8_266 rfl cx sh_62 ⟨Nat.le_of_ble_eq_true rfl, Nat.le_of_ble_eq_true rfl⟩ (Nat.le_of_ble_eq_true rfl) dX8_salted_8 (kX8_saltedNow G) hF (fun r2 hF => ?_)
    refine ww_goto cx dX8_salted_11 (tgt := 16) rfl ?_
    exact ww_rip hE dX8_salted_16 hF
theorem dX8_same_0 : decode cX8_same 0 = .ok (.iload_n 1, 1) := by decide +kernel
theorem dX8_same_1 : decode cX8_same 1 = .ok (.invokestatic 316, 3) := by decide +kernel
theorem dX8_same_4 : decode cX8_same 4 = .ok (.ifCond .eq 30, 3) := by decide +kernel
theorem dX8_same_7 : decode cX8_same 7 = .ok (.iload_n 2, 1) := by decide +kernel
theorem dX8_same_8 : decode cX8_same 8 = .ok (.invokestatic 316, 3) := by decide +kernel
theorem dX8_same_11 : decode cX8_same 11 = .ok (.ifCond .eq 23, 3) := by decide +kernel
theorem dX8_same_14 : decode cX8_same 14 = .ok (.aload_n 0, 1) := by decide +kernel
theorem dX8_same_15 : decode cX8_same 15 = .ok (.invokevirtual 291, 3) := by decide +kernel
theorem dX8_same_18 : decode cX8_same 18 = .ok (.ifCond .eq 16, 3) := by decide +kernel
theorem dX8_same_21 : decode cX8_same 21 = .ok (.aload_n 0, 1) := by decide +kernel
theorem dX8_same_22 : decode cX8_same 22 = .ok (.iload_n 3, 1) := by decide +kernel
theorem dX8_same_23 : decode cX8_same 23 = .ok (.i2l, 1) := by decide +kernel
theorem dX8_same_24 : decode cX8_same 24 = .ok (.invokevirtual 269, 3) := by decide +kernel
theorem dX8_same_27 : decode cX8_same 27 = .ok (.ifCond .eq 7, 3) := by decide +kernel
theorem dX8_same_30 : decode cX8_same 30 = .ok (.iconst 1, 1) := by decide +kernel
theorem dX8_same_31 : decode cX8_same 31 = .ok (.goto 4, 3) := by decide +kernel
theorem dX8_same_34 : decode cX8_same 34 = .ok (.iconst 0, 1) := by decide +kernel
theorem dX8_same_35 : decode cX8_same 35 = .ok (.istore 4, 2) := by decide +kernel
theorem dX8_same_37 : decode cX8_same 37 = .ok (.iload 4, 2) := by decide +kernel
theorem dX8_same_39 : decode cX8_same 39 = .ok (.ifCond .ne 6, 3) := by decide +kernel
theorem dX8_same_42 : decode cX8_same 42 = .ok (.bipush (-2), 2) := by decide +kernel
theorem dX8_same_44 : decode cX8_same 44 = .ok (.ireturn, 1) := by decide +kernel
theorem dX8_same_45 : decode cX8_same 45 = .ok (.aload_n 0, 1) := by decide +kernel
theorem dX8_same_46 : decode cX8_same 46 = .ok (.getfield 61, 3) := by decide +kernel
theorem dX8_same_49 : decode cX8_same 49 = .ok (.iload_n 1, 1) := by decide +kernel
theorem dX8_same_50 : decode cX8_same 50 = .ok (.iaload, 1) := by decide +kernel
theorem dX8_same_51 : decode cX8_same 51 = .ok (.iconst (-1), 1) := by decide +kernel
theorem dX8_same_52 : decode cX8_same 52 = .ok (.if_icmp .eq 13, 3) := by decide +kernel
theorem dX8_same_55 : decode cX8_same 55 = .ok (.aload_n 0, 1) := by decide +kernel
theorem dX8_same_56 : decode cX8_same 56 = .ok (.getfield 61, 3) := by decide +kernel
theorem dX8_same_59 : decode cX8_same 59 = .ok (.iload_n 2, 1) := by decide +kernel
theorem dX8_same_60 : decode cX8_same 60 = .ok (.iaload, 1) := by decide +kernel
theorem dX8_same_61 : decode cX8_same 61 = .ok (.iconst (-1), 1) := by decide +kernel
theorem dX8_same_62 : decode cX8_same 62 = .ok (.if_icmp .ne 6, 3) := by decide +kernel
theorem dX8_same_65 : decode cX8_same 65 = .ok (.bipush (-6), 2) := by decide +kernel
theorem dX8_same_67 : decode cX8_same 67 = .ok (.ireturn, 1) := by decide +kernel
theorem dX8_same_68 : decode cX8_same 68 = .ok (.aload_n 0, 1) := by decide +kernel
theorem dX8_same_69 : decode cX8_same 69 = .ok (.iload_n 1, 1) := by decide +kernel
theorem dX8_same_70 : decode cX8_same 70 = .ok (.iconst 1, 1) := by decide +kernel
theorem dX8_same_71 : decode cX8_same 71 = .ok (.invokevirtual 329, 3) := by decide +kernel
theorem dX8_same_74 : decode cX8_same 74 = .ok (.ifCond .lt 12, 3) := by decide +kernel
theorem dX8_same_77 : decode cX8_same 77 = .ok (.aload_n 0, 1) := by decide +kernel
theorem dX8_same_78 : decode cX8_same 78 = .ok (.iload_n 2, 1) := by decide +kernel
theorem dX8_same_79 : decode cX8_same 79 = .ok (.iconst 1, 1) := by decide +kernel
theorem dX8_same_80 : decode cX8_same 80 = .ok (.invokevirtual 329, 3) := by decide +kernel
theorem dX8_same_83 : decode cX8_same 83 = .ok (.ifCond .ge 6, 3) := by decide +kernel
theorem dX8_same_86 : decode cX8_same 86 = .ok (.bipush (-2), 2) := by decide +kernel
theorem dX8_same_88 : decode cX8_same 88 = .ok (.ireturn, 1) := by decide +kernel
theorem dX8_same_89 : decode cX8_same 89 = .ok (.aload_n 0, 1) := by decide +kernel
theorem dX8_same_90 : decode cX8_same 90 = .ok (.iload_n 1, 1) := by decide +kernel
theorem dX8_same_91 : decode cX8_same 91 = .ok (.iload_n 3, 1) := by decide +kernel
theorem dX8_same_92 : decode cX8_same 92 = .ok (.invokevirtual 336, 3) := by decide +kernel
theorem dX8_same_95 : decode cX8_same 95 = .ok (.aload_n 0, 1) := by decide +kernel
theorem dX8_same_96 : decode cX8_same 96 = .ok (.iload_n 2, 1) := by decide +kernel
theorem dX8_same_97 : decode cX8_same 97 = .ok (.iload_n 3, 1) := by decide +kernel
theorem dX8_same_98 : decode cX8_same 98 = .ok (.invokevirtual 336, 3) := by decide +kernel
theorem dX8_same_101 : decode cX8_same 101 = .ok (.if_icmp .ne 7, 3) := by decide +kernel
theorem dX8_same_104 : decode cX8_same 104 = .ok (.iconst 1, 1) := by decide +kernel
theorem dX8_same_105 : decode cX8_same 105 = .ok (.goto 4, 3) := by decide +kernel
theorem dX8_same_108 : decode cX8_same 108 = .ok (.iconst 0, 1) := by decide +kernel
theorem dX8_same_109 : decode cX8_same 109 = .ok (.ireturn, 1) := by decide +kernel
set_option maxRecDepth 4000 in
theorem kX8_same (G : GT) {σ : St} {a1 : Int32} {a2 : Int32} {a3 : Int32} : ∀ (r : Int32) (σo : St) , fX8_same σ a1 a2 a3 = some (r, σo) → MCt G 5 yX8_same cX8_same 5 (some .int) [.ref (gad G 62), .int a1, .int a2, .int a3] σ (some (.int r)) σo := by
  intro r σo hF
  refine met_i (by decide) (Nat.le_of_ble_eq_true rfl) (fun X cx hE => ?_)
  have cx : Cx G X RX8 cX8_same 5 5 := cx
  have hb35 : ∀ (σ : St) (x1 : Int32) (x2 : Int32) (x3 : Int32) (y0 : Int32) , fX8_same_b35 σ x1 x2 x3 y0 = some (r, σo) → WW G X 5 σ [(0, .ref (gad G 62)), (1, .int x1), (2, .int x2), (3, .int x3)] 35 [.int y0] := by
    intro σ x1 x2 x3 y0 hF
    unfold fX8_same_b35 at hF
    refine ww_istore (ks := [0, 1, 2, 3, 4]) (lv' := fun v1 => [(4, .int v1), (0, .ref (gad G 62)), (1, .int x1), (2, .int x2), (3, .int x3)]) cx dX8_same_35 (by decide) hF (fun _ => rfl) (fun v1 hF => ?_)
    refine ww_iload cx dX8_same_37 0 rfl ?_
    refine ww_if_ne cx dX8_same_39 (tgt := 45) rfl hF (fun hF => ?_) (fun hF => ?_)
    · refine ww_aload_n cx dX8_same_45 rfl 1 rfl ?_
      refine gf_X8_61 cx dX8_same_46 ?_
      refine ww_iload_n cx dX8_same_49 rfl 2 rfl ?_
      refine ww_iald (N := 4) cx (sh_78) dX8_same_50 hF (fun hF => ?_)
      refine ww_iconst cx dX8_same_51 ic_m1 ?_
      refine ww_icmp_eq cx dX8_same_52 (tgt := 65) rfl hF (fun hF => ?_) (fun hF => ?_)
      · refine ww_bipush cx dX8_same_65 bc_m6 ?_
        exact ww_ris hE dX8_same_67 hF
      · refine ww_aload_n cx dX8_same_55 rfl 1 rfl ?_
        refine gf_X8_61 cx dX8_same_56 ?_
        refine ww_iload_n cx dX8_same_59 rfl 3 rfl ?_
        refine ww_iald (N := 4) cx (sh_78) dX8_same_60 hF (fun hF => ?_)
        refine ww_iconst cx dX8_same_61 ic_m1 ?_
        refine ww_icmp_ne cx dX8_same_62 (tgt := 68) rfl hF (fun hF => ?_) (fun hF => ?_)
        · refine ww_aload_n cx dX8_same_68 rfl 1 rfl ?_
          refine ww_iload_n cx dX8_same_69 rfl 2 rfl ?_
          refine ww_iconst cx dX8_same_70 ic_1 ?_
          refine ww_V2_pi kv_X8_329 rfl cx sh_62 ⟨Nat.le_of_ble_eq_true rfl, Nat.le_of_ble_eq_true rfl⟩ (Nat.le_of_ble_eq_true rfl) dX8_same_71 (kX8_asksRow G) hF (fun r2 hF => ?_)
          refine ww_if_lt cx dX8_same_74 (tgt := 86) rfl hF (fun hF => ?_) (fun hF => ?_)
          · refine ww_bipush cx dX8_same_86 bc_m2 ?_
            exact ww_ris hE dX8_same_88 hF
          · refine ww_aload_n cx dX8_same_77 rfl 1 rfl ?_
            refine ww_iload_n cx dX8_same_78 rfl 3 rfl ?_
            refine ww_iconst cx dX8_same_79 ic_1 ?_
            refine ww_V2_pi kv_X8_329 rfl cx sh_62 ⟨Nat.le_of_ble_eq_true rfl, Nat.le_of_ble_eq_true rfl⟩ (Nat.le_of_ble_eq_true rfl) dX8_same_80 (kX8_asksRow G) hF (fun r3 hF => ?_)
            refine ww_if_ge cx dX8_same_83 (tgt := 89) rfl hF (fun hF => ?_) (fun hF => ?_)
            · refine ww_aload_n cx dX8_same_89 rfl 1 rfl ?_
              refine ww_iload_n cx dX8_same_90 rfl 2 rfl ?_
              refine ww_iload_n cx dX8_same_91 rfl 4 rfl ?_
              refine ww_V2_si kv_X8_336 rfl cx sh_62 ⟨Nat.le_of_ble_eq_true rfl, Nat.le_of_ble_eq_true rfl⟩ (Nat.le_of_ble_eq_true rfl) dX8_same_92 (kX8_usedBy G) hF (fun r4 σ5 hF => ?_)
              refine ww_aload_n cx dX8_same_95 rfl 1 rfl ?_
              refine ww_iload_n cx dX8_same_96 rfl 3 rfl ?_
              refine ww_iload_n cx dX8_same_97 rfl 4 rfl ?_
              refine ww_V2_si kv_X8_336 rfl cx sh_62 ⟨Nat.le_of_ble_eq_true rfl, Nat.le_of_ble_eq_true rfl⟩ (Nat.le_of_ble_eq_true rfl) dX8_same_98 (kX8_usedBy G) hF (fun r6 σ7 hF => ?_)
              refine ww_icmp_ne cx dX8_same_101 (tgt := 108) rfl hF (fun hF => ?_) (fun hF => ?_)
              · refine ww_iconst cx dX8_same_108 ic_0 ?_
                exact ww_ris hE dX8_same_109 hF
              · refine ww_iconst cx dX8_same_104 ic_1 ?_
                refine ww_goto cx dX8_same_105 (tgt := 109) rfl ?_
                exact ww_ris hE dX8_same_109 hF
            · refine ww_bipush cx dX8_same_86 bc_m2 ?_
              exact ww_ris hE dX8_same_88 hF
        · refine ww_bipush cx dX8_same_65 bc_m6 ?_
          exact ww_ris hE dX8_same_67 hF
    · refine ww_bipush cx dX8_same_42 bc_m2 ?_
      exact ww_ris hE dX8_same_44 hF
  have hb34 : ∀ (σ : St) (x1 : Int32) (x2 : Int32) (x3 : Int32) , fX8_same_b34 σ x1 x2 x3 = some (r, σo) → WW G X 5 σ [(0, .ref (gad G 62)), (1, .int x1), (2, .int x2), (3, .int x3)] 34 [] := by
    intro σ x1 x2 x3 hF
    unfold fX8_same_b34 at hF
    refine ww_iconst cx dX8_same_34 ic_0 ?_
    exact hb35 _ _ _ _ _ hF
  unfold fX8_same at hF
  show WW G X 5 σ [(0, .ref (gad G 62)), (1, .int a1), (2, .int a2), (3, .int a3)] 0 []
  refine ww_iload_n cx dX8_same_0 rfl 1 rfl ?_
  refine ww_S1_pi kv_X8_316 cx ⟨Nat.le_of_ble_eq_true rfl, Nat.le_of_ble_eq_true rfl⟩ (Nat.le_of_ble_eq_true rfl) dX8_same_1 (kX8_isSlot G) hF (fun r8 hF => ?_)
  refine ww_if_eq cx dX8_same_4 (tgt := 34) rfl hF (fun hF => ?_) (fun hF => ?_)
  · exact hb34 _ _ _ _ hF
  · refine ww_iload_n cx dX8_same_7 rfl 2 rfl ?_
    refine ww_S1_pi kv_X8_316 cx ⟨Nat.le_of_ble_eq_true rfl, Nat.le_of_ble_eq_true rfl⟩ (Nat.le_of_ble_eq_true rfl) dX8_same_8 (kX8_isSlot G) hF (fun r9 hF => ?_)
    refine ww_if_eq cx dX8_same_11 (tgt := 34) rfl hF (fun hF => ?_) (fun hF => ?_)
    · exact hb34 _ _ _ _ hF
    · refine ww_aload_n cx dX8_same_14 rfl 0 rfl ?_
      refine ww_V0_pi kv_X8_291 rfl cx sh_62 ⟨Nat.le_of_ble_eq_true rfl, Nat.le_of_ble_eq_true rfl⟩ (Nat.le_of_ble_eq_true rfl) dX8_same_15 (kX8_isTable G) hF (fun r10 hF => ?_)
      refine ww_if_eq cx dX8_same_18 (tgt := 34) rfl hF (fun hF => ?_) (fun hF => ?_)
      · exact hb34 _ _ _ _ hF
      · refine ww_aload_n cx dX8_same_21 rfl 0 rfl ?_
        refine ww_iload_n cx dX8_same_22 rfl 3 rfl ?_
        refine ww_i2l cx dX8_same_23 ?_
        refine ww_V1_pi kv_X8_269 rfl cx sh_62 ⟨Nat.le_of_ble_eq_true rfl, Nat.le_of_ble_eq_true rfl⟩ (Nat.le_of_ble_eq_true rfl) dX8_same_24 (kX8_isClaim G) hF (fun r11 hF => ?_)
        refine ww_if_eq cx dX8_same_27 (tgt := 34) rfl hF (fun hF => ?_) (fun hF => ?_)
        · exact hb34 _ _ _ _ hF
        · refine ww_iconst cx dX8_same_30 ic_1 ?_
          refine ww_goto cx dX8_same_31 (tgt := 35) rfl ?_
          exact hb35 _ _ _ _ _ hF
theorem dX8_spare_0 : decode cX8_spare 0 = .ok (.aload_n 0, 1) := by decide +kernel
theorem dX8_spare_1 : decode cX8_spare 1 = .ok (.iload_n 1, 1) := by decide +kernel
theorem dX8_spare_2 : decode cX8_spare 2 = .ok (.invokevirtual 366, 3) := by decide +kernel
theorem dX8_spare_5 : decode cX8_spare 5 = .ok (.ifCond .ne 6, 3) := by decide +kernel
theorem dX8_spare_8 : decode cX8_spare 8 = .ok (.bipush (-2), 2) := by decide +kernel
theorem dX8_spare_10 : decode cX8_spare 10 = .ok (.ireturn, 1) := by decide +kernel
theorem dX8_spare_11 : decode cX8_spare 11 = .ok (.aload_n 0, 1) := by decide +kernel
theorem dX8_spare_12 : decode cX8_spare 12 = .ok (.iload_n 1, 1) := by decide +kernel
theorem dX8_spare_13 : decode cX8_spare 13 = .ok (.invokevirtual 436, 3) := by decide +kernel
theorem dX8_spare_16 : decode cX8_spare 16 = .ok (.istore_n 2, 1) := by decide +kernel
theorem dX8_spare_17 : decode cX8_spare 17 = .ok (.iload_n 2, 1) := by decide +kernel
theorem dX8_spare_18 : decode cX8_spare 18 = .ok (.iconst (-1), 1) := by decide +kernel
theorem dX8_spare_19 : decode cX8_spare 19 = .ok (.if_icmp .ne 7, 3) := by decide +kernel
theorem dX8_spare_22 : decode cX8_spare 22 = .ok (.iconst (-1), 1) := by decide +kernel
theorem dX8_spare_23 : decode cX8_spare 23 = .ok (.goto 7, 3) := by decide +kernel
theorem dX8_spare_26 : decode cX8_spare 26 = .ok (.iload_n 2, 1) := by decide +kernel
theorem dX8_spare_27 : decode cX8_spare 27 = .ok (.invokestatic 273, 3) := by decide +kernel
theorem dX8_spare_30 : decode cX8_spare 30 = .ok (.ireturn, 1) := by decide +kernel
set_option maxRecDepth 4000 in
theorem kX8_spare (G : GT) {σ : St} {a1 : Int32} : ∀ (r : Int32) , fX8_spare σ a1 = some r → MCt G 5 yX8_spare cX8_spare 3 (some .int) [.ref (gad G 62), .int a1] σ (some (.int r)) σ := by
  intro r hF
  refine met_i (by decide) (Nat.le_of_ble_eq_true rfl) (fun X cx hE => ?_)
  have cx : Cx G X RX8 cX8_spare 3 5 := cx
  unfold fX8_spare at hF
  show WW G X 3 σ [(0, .ref (gad G 62)), (1, .int a1)] 0 []
  refine ww_aload_n cx dX8_spare_0 rfl 0 rfl ?_
  refine ww_iload_n cx dX8_spare_1 rfl 1 rfl ?_
  refine ww_V1_pi kv_X8_366 rfl cx sh_62 ⟨Nat.le_of_ble_eq_true rfl, Nat.le_of_ble_eq_true rfl⟩ (Nat.le_of_ble_eq_true rfl) dX8_spare_2 (kX8_areClaims G) hF (fun r1 hF => ?_)
  refine ww_if_ne cx dX8_spare_5 (tgt := 11) rfl hF (fun hF => ?_) (fun hF => ?_)
  · refine ww_aload_n cx dX8_spare_11 rfl 0 rfl ?_
    refine ww_iload_n cx dX8_spare_12 rfl 1 rfl ?_
    refine ww_V1_pi kv_X8_436 rfl cx sh_62 ⟨Nat.le_of_ble_eq_true rfl, Nat.le_of_ble_eq_true rfl⟩ (Nat.le_of_ble_eq_true rfl) dX8_spare_13 (kX8_spareOf G) hF (fun r2 hF => ?_)
    refine ww_istore_n (ks := [0]) (lv' := fun v3 => [(2, .int v3)]) cx dX8_spare_16 rfl (by decide) hF (fun _ => rfl) (fun v3 hF => ?_)
    refine ww_iload_n cx dX8_spare_17 rfl 0 rfl ?_
    refine ww_iconst cx dX8_spare_18 ic_m1 ?_
    refine ww_icmp_ne cx dX8_spare_19 (tgt := 26) rfl hF (fun hF => ?_) (fun hF => ?_)
    · refine ww_iload_n cx dX8_spare_26 rfl 0 rfl ?_
      refine ww_S1_pi kv_X8_273 cx ⟨Nat.le_of_ble_eq_true rfl, Nat.le_of_ble_eq_true rfl⟩ (Nat.le_of_ble_eq_true rfl) dX8_spare_27 (kX8_bits G) hF (fun r4 hF => ?_)
      exact ww_rip hE dX8_spare_30 hF
    · refine ww_iconst cx dX8_spare_22 ic_m1 ?_
      refine ww_goto cx dX8_spare_23 (tgt := 30) rfl ?_
      exact ww_rip hE dX8_spare_30 hF
  · refine ww_bipush cx dX8_spare_8 bc_m2 ?_
    exact ww_rip hE dX8_spare_10 hF
theorem dX8_spared_0 : decode cX8_spared 0 = .ok (.aload_n 0, 1) := by decide +kernel
theorem dX8_spared_1 : decode cX8_spared 1 = .ok (.iload_n 1, 1) := by decide +kernel
theorem dX8_spared_2 : decode cX8_spared 2 = .ok (.invokevirtual 366, 3) := by decide +kernel
theorem dX8_spared_5 : decode cX8_spared 5 = .ok (.ifCond .eq 11, 3) := by decide +kernel
theorem dX8_spared_8 : decode cX8_spared 8 = .ok (.aload_n 0, 1) := by decide +kernel
theorem dX8_spared_9 : decode cX8_spared 9 = .ok (.iload_n 1, 1) := by decide +kernel
theorem dX8_spared_10 : decode cX8_spared 10 = .ok (.invokevirtual 436, 3) := by decide +kernel
theorem dX8_spared_13 : decode cX8_spared 13 = .ok (.goto 5, 3) := by decide +kernel
theorem dX8_spared_16 : decode cX8_spared 16 = .ok (.bipush (-2), 2) := by decide +kernel
theorem dX8_spared_18 : decode cX8_spared 18 = .ok (.ireturn, 1) := by decide +kernel
set_option maxRecDepth 4000 in
theorem kX8_spared (G : GT) {σ : St} {a1 : Int32} : ∀ (r : Int32) , fX8_spared σ a1 = some r → MCt G 5 yX8_spared cX8_spared 2 (some .int) [.ref (gad G 62), .int a1] σ (some (.int r)) σ := by
  intro r hF
  refine met_i (by decide) (Nat.le_of_ble_eq_true rfl) (fun X cx hE => ?_)
  have cx : Cx G X RX8 cX8_spared 2 5 := cx
  unfold fX8_spared at hF
  show WW G X 2 σ [(0, .ref (gad G 62)), (1, .int a1)] 0 []
  refine ww_aload_n cx dX8_spared_0 rfl 0 rfl ?_
  refine ww_iload_n cx dX8_spared_1 rfl 1 rfl ?_
  refine ww_V1_pi kv_X8_366 rfl cx sh_62 ⟨Nat.le_of_ble_eq_true rfl, Nat.le_of_ble_eq_true rfl⟩ (Nat.le_of_ble_eq_true rfl) dX8_spared_2 (kX8_areClaims G) hF (fun r1 hF => ?_)
  refine ww_if_eq cx dX8_spared_5 (tgt := 16) rfl hF (fun hF => ?_) (fun hF => ?_)
  · refine ww_bipush cx dX8_spared_16 bc_m2 ?_
    exact ww_rip hE dX8_spared_18 hF
  · refine ww_aload_n cx dX8_spared_8 rfl 0 rfl ?_
    refine ww_iload_n cx dX8_spared_9 rfl 1 rfl ?_
    refine ww_V1_pi kv_X8_436 rfl cx sh_62 ⟨Nat.le_of_ble_eq_true rfl, Nat.le_of_ble_eq_true rfl⟩ (Nat.le_of_ble_eq_true rfl) dX8_spared_10 (kX8_spareOf G) hF (fun r2 hF => ?_)
    refine ww_goto cx dX8_spared_13 (tgt := 18) rfl ?_
    exact ww_rip hE dX8_spared_18 hF
theorem dX8_step_0 : decode cX8_step 0 = .ok (.aload_n 0, 1) := by decide +kernel
theorem dX8_step_1 : decode cX8_step 1 = .ok (.iload_n 1, 1) := by decide +kernel
theorem dX8_step_2 : decode cX8_step 2 = .ok (.i2l, 1) := by decide +kernel
theorem dX8_step_3 : decode cX8_step 3 = .ok (.invokevirtual 276, 3) := by decide +kernel
theorem dX8_step_6 : decode cX8_step 6 = .ok (.ifCond .eq 15, 3) := by decide +kernel
theorem dX8_step_9 : decode cX8_step 9 = .ok (.iload_n 2, 1) := by decide +kernel
theorem dX8_step_10 : decode cX8_step 10 = .ok (.i2l, 1) := by decide +kernel
theorem dX8_step_11 : decode cX8_step 11 = .ok (.lconst 0, 1) := by decide +kernel
theorem dX8_step_12 : decode cX8_step 12 = .ok (.ldc2_w 81, 3) := by decide +kernel
theorem dX8_step_15 : decode cX8_step 15 = .ok (.invokestatic 83, 3) := by decide +kernel
theorem dX8_step_18 : decode cX8_step 18 = .ok (.ifCond .ne 6, 3) := by decide +kernel
theorem dX8_step_21 : decode cX8_step 21 = .ok (.bipush (-2), 2) := by decide +kernel
theorem dX8_step_23 : decode cX8_step 23 = .ok (.ireturn, 1) := by decide +kernel
theorem dX8_step_24 : decode cX8_step 24 = .ok (.iload_n 2, 1) := by decide +kernel
theorem dX8_step_25 : decode cX8_step 25 = .ok (.iconst 2, 1) := by decide +kernel
theorem dX8_step_26 : decode cX8_step 26 = .ok (.if_icmp .ge 12, 3) := by decide +kernel
theorem dX8_step_29 : decode cX8_step 29 = .ok (.aload_n 0, 1) := by decide +kernel
theorem dX8_step_30 : decode cX8_step 30 = .ok (.iload_n 1, 1) := by decide +kernel
theorem dX8_step_31 : decode cX8_step 31 = .ok (.iload_n 2, 1) := by decide +kernel
theorem dX8_step_32 : decode cX8_step 32 = .ok (.invokevirtual 263, 3) := by decide +kernel
theorem dX8_step_35 : decode cX8_step 35 = .ok (.goto 16, 3) := by decide +kernel
theorem dX8_step_38 : decode cX8_step 38 = .ok (.aload_n 0, 1) := by decide +kernel
theorem dX8_step_39 : decode cX8_step 39 = .ok (.iload_n 1, 1) := by decide +kernel
theorem dX8_step_40 : decode cX8_step 40 = .ok (.invokevirtual 279, 3) := by decide +kernel
theorem dX8_step_43 : decode cX8_step 43 = .ok (.ifCond .ne 7, 3) := by decide +kernel
theorem dX8_step_46 : decode cX8_step 46 = .ok (.iconst 1, 1) := by decide +kernel
theorem dX8_step_47 : decode cX8_step 47 = .ok (.goto 4, 3) := by decide +kernel
theorem dX8_step_50 : decode cX8_step 50 = .ok (.iconst 0, 1) := by decide +kernel
theorem dX8_step_51 : decode cX8_step 51 = .ok (.ireturn, 1) := by decide +kernel
set_option maxRecDepth 4000 in
theorem kX8_step (G : GT) {σ : St} {a1 : Int32} {a2 : Int32} : ∀ (r : Int32) , fX8_step σ a1 a2 = some r → MCt G 5 yX8_step cX8_step 3 (some .int) [.ref (gad G 62), .int a1, .int a2] σ (some (.int r)) σ := by
  intro r hF
  refine met_i (by decide) (Nat.le_of_ble_eq_true rfl) (fun X cx hE => ?_)
  have cx : Cx G X RX8 cX8_step 3 5 := cx
  unfold fX8_step at hF
  show WW G X 3 σ [(0, .ref (gad G 62)), (1, .int a1), (2, .int a2)] 0 []
  refine ww_aload_n cx dX8_step_0 rfl 0 rfl ?_
  refine ww_iload_n cx dX8_step_1 rfl 1 rfl ?_
  refine ww_i2l cx dX8_step_2 ?_
  refine ww_V1_pi kv_X8_276 rfl cx sh_62 ⟨Nat.le_of_ble_eq_true rfl, Nat.le_of_ble_eq_true rfl⟩ (Nat.le_of_ble_eq_true rfl) dX8_step_3 (kX8_isStep G) hF (fun r1 hF => ?_)
  refine ww_if_eq cx dX8_step_6 (tgt := 21) rfl hF (fun hF => ?_) (fun hF => ?_)
  · refine ww_bipush cx dX8_step_21 bc_m2 ?_
    exact ww_rip hE dX8_step_23 hF
  · refine ww_iload_n cx dX8_step_9 rfl 2 rfl ?_
    refine ww_i2l cx dX8_step_10 ?_
    refine ww_lconst cx dX8_step_11 lc_0 ?_
    refine ww_ldc2 (v := 2) cx dX8_step_12 cn_X8_81 ?_
    refine ww_S3_pi kv_X8_83 cx ⟨Nat.le_of_ble_eq_true rfl, Nat.le_of_ble_eq_true rfl⟩ (Nat.le_of_ble_eq_true rfl) dX8_step_15 (kX8_in G) hF (fun r2 hF => ?_)
    refine ww_if_ne cx dX8_step_18 (tgt := 24) rfl hF (fun hF => ?_) (fun hF => ?_)
    · refine ww_iload_n cx dX8_step_24 rfl 2 rfl ?_
      refine ww_iconst cx dX8_step_25 ic_2 ?_
      refine ww_icmp_ge cx dX8_step_26 (tgt := 38) rfl hF (fun hF => ?_) (fun hF => ?_)
      · refine ww_aload_n cx dX8_step_38 rfl 0 rfl ?_
        refine ww_iload_n cx dX8_step_39 rfl 1 rfl ?_
        refine ww_V1_pi kv_X8_279 rfl cx sh_62 ⟨Nat.le_of_ble_eq_true rfl, Nat.le_of_ble_eq_true rfl⟩ (Nat.le_of_ble_eq_true rfl) dX8_step_40 (kX8_falseIn G) hF (fun r3 hF => ?_)
        refine ww_if_ne cx dX8_step_43 (tgt := 50) rfl hF (fun hF => ?_) (fun hF => ?_)
        · refine ww_iconst cx dX8_step_50 ic_0 ?_
          exact ww_rip hE dX8_step_51 hF
        · refine ww_iconst cx dX8_step_46 ic_1 ?_
          refine ww_goto cx dX8_step_47 (tgt := 51) rfl ?_
          exact ww_rip hE dX8_step_51 hF
      · refine ww_aload_n cx dX8_step_29 rfl 0 rfl ?_
        refine ww_iload_n cx dX8_step_30 rfl 1 rfl ?_
        refine ww_iload_n cx dX8_step_31 rfl 2 rfl ?_
        refine ww_V2_pi kv_X8_263 rfl cx sh_62 ⟨Nat.le_of_ble_eq_true rfl, Nat.le_of_ble_eq_true rfl⟩ (Nat.le_of_ble_eq_true rfl) dX8_step_32 (kX8_ofStep G) hF (fun r4 hF => ?_)
        refine ww_goto cx dX8_step_35 (tgt := 51) rfl ?_
        exact ww_rip hE dX8_step_51 hF
    · refine ww_bipush cx dX8_step_21 bc_m2 ?_
      exact ww_rip hE dX8_step_23 hF
theorem dX8_takes__0 : decode cX8_takes_ 0 = .ok (.aload_n 0, 1) := by decide +kernel
theorem dX8_takes__1 : decode cX8_takes_ 1 = .ok (.iload_n 1, 1) := by decide +kernel
theorem dX8_takes__2 : decode cX8_takes_ 2 = .ok (.i2l, 1) := by decide +kernel
theorem dX8_takes__3 : decode cX8_takes_ 3 = .ok (.invokevirtual 285, 3) := by decide +kernel
theorem dX8_takes__6 : decode cX8_takes_ 6 = .ok (.ifCond .eq 11, 3) := by decide +kernel
theorem dX8_takes__9 : decode cX8_takes_ 9 = .ok (.aload_n 0, 1) := by decide +kernel
theorem dX8_takes__10 : decode cX8_takes_ 10 = .ok (.iload_n 2, 1) := by decide +kernel
theorem dX8_takes__11 : decode cX8_takes_ 11 = .ok (.invokevirtual 366, 3) := by decide +kernel
theorem dX8_takes__14 : decode cX8_takes_ 14 = .ok (.ifCond .ne 6, 3) := by decide +kernel
theorem dX8_takes__17 : decode cX8_takes_ 17 = .ok (.bipush (-2), 2) := by decide +kernel
theorem dX8_takes__19 : decode cX8_takes_ 19 = .ok (.ireturn, 1) := by decide +kernel
theorem dX8_takes__20 : decode cX8_takes_ 20 = .ok (.aload_n 0, 1) := by decide +kernel
theorem dX8_takes__21 : decode cX8_takes_ 21 = .ok (.aload_n 0, 1) := by decide +kernel
theorem dX8_takes__22 : decode cX8_takes_ 22 = .ok (.invokevirtual 257, 3) := by decide +kernel
theorem dX8_takes__25 : decode cX8_takes_ 25 = .ok (.aload_n 0, 1) := by decide +kernel
theorem dX8_takes__26 : decode cX8_takes_ 26 = .ok (.iload_n 1, 1) := by decide +kernel
theorem dX8_takes__27 : decode cX8_takes_ 27 = .ok (.iconst 1, 1) := by decide +kernel
theorem dX8_takes__28 : decode cX8_takes_ 28 = .ok (.invokevirtual 282, 3) := by decide +kernel
theorem dX8_takes__31 : decode cX8_takes_ 31 = .ok (.iload_n 2, 1) := by decide +kernel
theorem dX8_takes__32 : decode cX8_takes_ 32 = .ok (.invokevirtual 339, 3) := by decide +kernel
theorem dX8_takes__35 : decode cX8_takes_ 35 = .ok (.istore_n 3, 1) := by decide +kernel
theorem dX8_takes__36 : decode cX8_takes_ 36 = .ok (.iload_n 3, 1) := by decide +kernel
theorem dX8_takes__37 : decode cX8_takes_ 37 = .ok (.iconst (-1), 1) := by decide +kernel
theorem dX8_takes__38 : decode cX8_takes_ 38 = .ok (.if_icmp .ne 7, 3) := by decide +kernel
theorem dX8_takes__41 : decode cX8_takes_ 41 = .ok (.iconst (-1), 1) := by decide +kernel
theorem dX8_takes__42 : decode cX8_takes_ 42 = .ok (.goto 14, 3) := by decide +kernel
theorem dX8_takes__45 : decode cX8_takes_ 45 = .ok (.iload_n 3, 1) := by decide +kernel
theorem dX8_takes__46 : decode cX8_takes_ 46 = .ok (.invokestatic 273, 3) := by decide +kernel
theorem dX8_takes__49 : decode cX8_takes_ 49 = .ok (.aload_n 0, 1) := by decide +kernel
theorem dX8_takes__50 : decode cX8_takes_ 50 = .ok (.iload_n 1, 1) := by decide +kernel
theorem dX8_takes__51 : decode cX8_takes_ 51 = .ok (.iconst 0, 1) := by decide +kernel
theorem dX8_takes__52 : decode cX8_takes_ 52 = .ok (.invokevirtual 282, 3) := by decide +kernel
theorem dX8_takes__55 : decode cX8_takes_ 55 = .ok (.imul, 1) := by decide +kernel
theorem dX8_takes__56 : decode cX8_takes_ 56 = .ok (.ireturn, 1) := by decide +kernel
set_option maxRecDepth 4000 in
theorem kX8_takes_ (G : GT) {σ : St} {a1 : Int32} {a2 : Int32} : ∀ (r : Int32) , fX8_takes_ σ a1 a2 = some r → MCt G 5 yX8_takes_ cX8_takes_ 4 (some .int) [.ref (gad G 62), .int a1, .int a2] σ (some (.int r)) σ := by
  intro r hF
  refine met_i (by decide) (Nat.le_of_ble_eq_true rfl) (fun X cx hE => ?_)
  have cx : Cx G X RX8 cX8_takes_ 4 5 := cx
  unfold fX8_takes_ at hF
  show WW G X 4 σ [(0, .ref (gad G 62)), (1, .int a1), (2, .int a2)] 0 []
  refine ww_aload_n cx dX8_takes__0 rfl 0 rfl ?_
  refine ww_iload_n cx dX8_takes__1 rfl 1 rfl ?_
  refine ww_i2l cx dX8_takes__2 ?_
  refine ww_V1_pi kv_X8_285 rfl cx sh_62 ⟨Nat.le_of_ble_eq_true rfl, Nat.le_of_ble_eq_true rfl⟩ (Nat.le_of_ble_eq_true rfl) dX8_takes__3 (kX8_isGuest G) hF (fun r1 hF => ?_)
  refine ww_if_eq cx dX8_takes__6 (tgt := 17) rfl hF (fun hF => ?_) (fun hF => ?_)
  · refine ww_bipush cx dX8_takes__17 bc_m2 ?_
    exact ww_rip hE dX8_takes__19 hF
  · refine ww_aload_n cx dX8_takes__9 rfl 0 rfl ?_
    refine ww_iload_n cx dX8_takes__10 rfl 2 rfl ?_
    refine ww_V1_pi kv_X8_366 rfl cx sh_62 ⟨Nat.le_of_ble_eq_true rfl, Nat.le_of_ble_eq_true rfl⟩ (Nat.le_of_ble_eq_true rfl) dX8_takes__11 (kX8_areClaims G) hF (fun r2 hF => ?_)
    refine ww_if_ne cx dX8_takes__14 (tgt := 20) rfl hF (fun hF => ?_) (fun hF => ?_)
    · refine ww_aload_n cx dX8_takes__20 rfl 0 rfl ?_
      refine ww_aload_n cx dX8_takes__21 rfl 0 rfl ?_
      refine ww_V0_pi kv_X8_257 rfl cx sh_62 ⟨Nat.le_of_ble_eq_true rfl, Nat.le_of_ble_eq_true rfl⟩ (Nat.le_of_ble_eq_true rfl) dX8_takes__22 (kX8_saltNow G) hF (fun r3 hF => ?_)
      refine ww_aload_n cx dX8_takes__25 rfl 0 rfl ?_
      refine ww_iload_n cx dX8_takes__26 rfl 1 rfl ?_
      refine ww_iconst cx dX8_takes__27 ic_1 ?_
      refine ww_V2_pi kv_X8_282 rfl cx sh_62 ⟨Nat.le_of_ble_eq_true rfl, Nat.le_of_ble_eq_true rfl⟩ (Nat.le_of_ble_eq_true rfl) dX8_takes__28 (kX8_ofGuest G) hF (fun r4 hF => ?_)
      refine ww_iload_n cx dX8_takes__31 rfl 2 rfl ?_
      refine ww_V3_pi kv_X8_339 rfl cx sh_62 ⟨Nat.le_of_ble_eq_true rfl, Nat.le_of_ble_eq_true rfl⟩ (Nat.le_of_ble_eq_true rfl) dX8_takes__32 (kX8_fewestSteps G) hF (fun r5 hF => ?_)
      refine ww_istore_n (ks := [0, 1, 2]) (lv' := fun v6 => [(3, .int v6), (0, .ref (gad G 62)), (1, .int a1)]) cx dX8_takes__35 rfl (by decide) hF (fun _ => rfl) (fun v6 hF => ?_)
      refine ww_iload_n cx dX8_takes__36 rfl 0 rfl ?_
      refine ww_iconst cx dX8_takes__37 ic_m1 ?_
      refine ww_icmp_ne cx dX8_takes__38 (tgt := 45) rfl hF (fun hF => ?_) (fun hF => ?_)
      · refine ww_iload_n cx dX8_takes__45 rfl 0 rfl ?_
        refine ww_S1_pi kv_X8_273 cx ⟨Nat.le_of_ble_eq_true rfl, Nat.le_of_ble_eq_true rfl⟩ (Nat.le_of_ble_eq_true rfl) dX8_takes__46 (kX8_bits G) hF (fun r7 hF => ?_)
        refine ww_aload_n cx dX8_takes__49 rfl 1 rfl ?_
        refine ww_iload_n cx dX8_takes__50 rfl 2 rfl ?_
        refine ww_iconst cx dX8_takes__51 ic_0 ?_
        refine ww_V2_pi kv_X8_282 rfl cx sh_62 ⟨Nat.le_of_ble_eq_true rfl, Nat.le_of_ble_eq_true rfl⟩ (Nat.le_of_ble_eq_true rfl) dX8_takes__52 (kX8_ofGuest G) hF (fun r8 hF => ?_)
        refine ww_imul cx dX8_takes__55 ?_
        exact ww_rip hE dX8_takes__56 hF
      · refine ww_iconst cx dX8_takes__41 ic_m1 ?_
        refine ww_goto cx dX8_takes__42 (tgt := 56) rfl ?_
        exact ww_rip hE dX8_takes__56 hF
    · refine ww_bipush cx dX8_takes__17 bc_m2 ?_
      exact ww_rip hE dX8_takes__19 hF
theorem dX8_used_0 : decode cX8_used 0 = .ok (.aload_n 0, 1) := by decide +kernel
theorem dX8_used_1 : decode cX8_used 1 = .ok (.iload_n 1, 1) := by decide +kernel
theorem dX8_used_2 : decode cX8_used 2 = .ok (.aload_n 0, 1) := by decide +kernel
theorem dX8_used_3 : decode cX8_used 3 = .ok (.iload_n 2, 1) := by decide +kernel
theorem dX8_used_4 : decode cX8_used 4 = .ok (.i2l, 1) := by decide +kernel
theorem dX8_used_5 : decode cX8_used 5 = .ok (.invokevirtual 269, 3) := by decide +kernel
theorem dX8_used_8 : decode cX8_used 8 = .ok (.invokevirtual 329, 3) := by decide +kernel
theorem dX8_used_11 : decode cX8_used 11 = .ok (.istore_n 3, 1) := by decide +kernel
theorem dX8_used_12 : decode cX8_used 12 = .ok (.iload_n 3, 1) := by decide +kernel
theorem dX8_used_13 : decode cX8_used 13 = .ok (.ifCond .ge 7, 3) := by decide +kernel
theorem dX8_used_16 : decode cX8_used 16 = .ok (.iload_n 3, 1) := by decide +kernel
theorem dX8_used_17 : decode cX8_used 17 = .ok (.goto 9, 3) := by decide +kernel
theorem dX8_used_20 : decode cX8_used 20 = .ok (.aload_n 0, 1) := by decide +kernel
theorem dX8_used_21 : decode cX8_used 21 = .ok (.iload_n 1, 1) := by decide +kernel
theorem dX8_used_22 : decode cX8_used 22 = .ok (.iload_n 2, 1) := by decide +kernel
theorem dX8_used_23 : decode cX8_used 23 = .ok (.invokevirtual 336, 3) := by decide +kernel
theorem dX8_used_26 : decode cX8_used 26 = .ok (.ireturn, 1) := by decide +kernel
set_option maxRecDepth 4000 in
theorem kX8_used (G : GT) {σ : St} {a1 : Int32} {a2 : Int32} : ∀ (r : Int32) (σo : St) , fX8_used σ a1 a2 = some (r, σo) → MCt G 5 yX8_used cX8_used 4 (some .int) [.ref (gad G 62), .int a1, .int a2] σ (some (.int r)) σo := by
  intro r σo hF
  refine met_i (by decide) (Nat.le_of_ble_eq_true rfl) (fun X cx hE => ?_)
  have cx : Cx G X RX8 cX8_used 4 5 := cx
  unfold fX8_used at hF
  show WW G X 4 σ [(0, .ref (gad G 62)), (1, .int a1), (2, .int a2)] 0 []
  refine ww_aload_n cx dX8_used_0 rfl 0 rfl ?_
  refine ww_iload_n cx dX8_used_1 rfl 1 rfl ?_
  refine ww_aload_n cx dX8_used_2 rfl 0 rfl ?_
  refine ww_iload_n cx dX8_used_3 rfl 2 rfl ?_
  refine ww_i2l cx dX8_used_4 ?_
  refine ww_V1_pi kv_X8_269 rfl cx sh_62 ⟨Nat.le_of_ble_eq_true rfl, Nat.le_of_ble_eq_true rfl⟩ (Nat.le_of_ble_eq_true rfl) dX8_used_5 (kX8_isClaim G) hF (fun r1 hF => ?_)
  refine ww_V2_pi kv_X8_329 rfl cx sh_62 ⟨Nat.le_of_ble_eq_true rfl, Nat.le_of_ble_eq_true rfl⟩ (Nat.le_of_ble_eq_true rfl) dX8_used_8 (kX8_asksRow G) hF (fun r2 hF => ?_)
  refine ww_istore_n (ks := [0, 1, 2, 3]) (lv' := fun v3 => [(3, .int v3), (0, .ref (gad G 62)), (1, .int a1), (2, .int a2)]) cx dX8_used_11 rfl (by decide) hF (fun _ => rfl) (fun v3 hF => ?_)
  refine ww_iload_n cx dX8_used_12 rfl 0 rfl ?_
  refine ww_if_ge cx dX8_used_13 (tgt := 20) rfl hF (fun hF => ?_) (fun hF => ?_)
  · refine ww_aload_n cx dX8_used_20 rfl 1 rfl ?_
    refine ww_iload_n cx dX8_used_21 rfl 2 rfl ?_
    refine ww_iload_n cx dX8_used_22 rfl 3 rfl ?_
    refine ww_V2_si kv_X8_336 rfl cx sh_62 ⟨Nat.le_of_ble_eq_true rfl, Nat.le_of_ble_eq_true rfl⟩ (Nat.le_of_ble_eq_true rfl) dX8_used_23 (kX8_usedBy G) hF (fun r4 σ5 hF => ?_)
    exact ww_ris hE dX8_used_26 hF
  · refine ww_iload_n cx dX8_used_16 rfl 0 rfl ?_
    refine ww_goto cx dX8_used_17 (tgt := 26) rfl ?_
    exact ww_ris hE dX8_used_26 hF
theorem dX8_worstOf_0 : decode cX8_worstOf 0 = .ok (.aload_n 0, 1) := by decide +kernel
theorem dX8_worstOf_1 : decode cX8_worstOf 1 = .ok (.invokevirtual 266, 3) := by decide +kernel
theorem dX8_worstOf_4 : decode cX8_worstOf 4 = .ok (.aload_n 0, 1) := by decide +kernel
theorem dX8_worstOf_5 : decode cX8_worstOf 5 = .ok (.iload_n 1, 1) := by decide +kernel
theorem dX8_worstOf_6 : decode cX8_worstOf 6 = .ok (.iconst 2, 1) := by decide +kernel
theorem dX8_worstOf_7 : decode cX8_worstOf 7 = .ok (.invokevirtual 91, 3) := by decide +kernel
theorem dX8_worstOf_10 : decode cX8_worstOf 10 = .ok (.iand, 1) := by decide +kernel
theorem dX8_worstOf_11 : decode cX8_worstOf 11 = .ok (.invokestatic 273, 3) := by decide +kernel
theorem dX8_worstOf_14 : decode cX8_worstOf 14 = .ok (.istore_n 2, 1) := by decide +kernel
theorem dX8_worstOf_15 : decode cX8_worstOf 15 = .ok (.iload_n 2, 1) := by decide +kernel
theorem dX8_worstOf_16 : decode cX8_worstOf 16 = .ok (.aload_n 0, 1) := by decide +kernel
theorem dX8_worstOf_17 : decode cX8_worstOf 17 = .ok (.invokevirtual 266, 3) := by decide +kernel
theorem dX8_worstOf_20 : decode cX8_worstOf 20 = .ok (.invokestatic 273, 3) := by decide +kernel
theorem dX8_worstOf_23 : decode cX8_worstOf 23 = .ok (.iload_n 2, 1) := by decide +kernel
theorem dX8_worstOf_24 : decode cX8_worstOf 24 = .ok (.isub, 1) := by decide +kernel
theorem dX8_worstOf_25 : decode cX8_worstOf 25 = .ok (.invokestatic 397, 3) := by decide +kernel
theorem dX8_worstOf_28 : decode cX8_worstOf 28 = .ok (.ireturn, 1) := by decide +kernel
set_option maxRecDepth 4000 in
theorem kX8_worstOf (G : GT) {σ : St} {a1 : Int32} : ∀ (r : Int32) , fX8_worstOf σ a1 = some r → MCt G 5 yX8_worstOf cX8_worstOf 3 (some .int) [.ref (gad G 62), .int a1] σ (some (.int r)) σ := by
  intro r hF
  refine met_i (by decide) (Nat.le_of_ble_eq_true rfl) (fun X cx hE => ?_)
  have cx : Cx G X RX8 cX8_worstOf 3 5 := cx
  unfold fX8_worstOf at hF
  show WW G X 3 σ [(0, .ref (gad G 62)), (1, .int a1)] 0 []
  refine ww_aload_n cx dX8_worstOf_0 rfl 0 rfl ?_
  refine ww_V0_pi kv_X8_266 rfl cx sh_62 ⟨Nat.le_of_ble_eq_true rfl, Nat.le_of_ble_eq_true rfl⟩ (Nat.le_of_ble_eq_true rfl) dX8_worstOf_1 (kX8_saltedNow G) hF (fun r1 hF => ?_)
  refine ww_aload_n cx dX8_worstOf_4 rfl 0 rfl ?_
  refine ww_iload_n cx dX8_worstOf_5 rfl 1 rfl ?_
  refine ww_iconst cx dX8_worstOf_6 ic_2 ?_
  refine ww_V2_pi kv_X8_91 rfl cx sh_62 ⟨Nat.le_of_ble_eq_true rfl, Nat.le_of_ble_eq_true rfl⟩ (Nat.le_of_ble_eq_true rfl) dX8_worstOf_7 (kX8_ofClaim G) hF (fun r2 hF => ?_)
  refine ww_iand cx dX8_worstOf_10 ?_
  refine ww_S1_pi kv_X8_273 cx ⟨Nat.le_of_ble_eq_true rfl, Nat.le_of_ble_eq_true rfl⟩ (Nat.le_of_ble_eq_true rfl) dX8_worstOf_11 (kX8_bits G) hF (fun r3 hF => ?_)
  refine ww_istore_n (ks := [0, 1]) (lv' := fun v4 => [(2, .int v4), (0, .ref (gad G 62))]) cx dX8_worstOf_14 rfl (by decide) hF (fun _ => rfl) (fun v4 hF => ?_)
  refine ww_iload_n cx dX8_worstOf_15 rfl 0 rfl ?_
  refine ww_aload_n cx dX8_worstOf_16 rfl 1 rfl ?_
  refine ww_V0_pi kv_X8_266 rfl cx sh_62 ⟨Nat.le_of_ble_eq_true rfl, Nat.le_of_ble_eq_true rfl⟩ (Nat.le_of_ble_eq_true rfl) dX8_worstOf_17 (kX8_saltedNow G) hF (fun r5 hF => ?_)
  refine ww_S1_pi kv_X8_273 cx ⟨Nat.le_of_ble_eq_true rfl, Nat.le_of_ble_eq_true rfl⟩ (Nat.le_of_ble_eq_true rfl) dX8_worstOf_20 (kX8_bits G) hF (fun r6 hF => ?_)
  refine ww_iload_n cx dX8_worstOf_23 rfl 0 rfl ?_
  refine ww_isub cx dX8_worstOf_24 ?_
  refine ww_mmax cx ml_X8_397 (by decide) (Nat.le_of_ble_eq_true rfl) dX8_worstOf_25 ?_
  exact ww_rip hE dX8_worstOf_28 hF
theorem dX7_ate_0 : decode cX7_ate 0 = .ok (.aload_n 0, 1) := by decide +kernel
theorem dX7_ate_1 : decode cX7_ate 1 = .ok (.iload_n 1, 1) := by decide +kernel
theorem dX7_ate_2 : decode cX7_ate 2 = .ok (.invokevirtual 332, 3) := by decide +kernel
theorem dX7_ate_5 : decode cX7_ate 5 = .ok (.istore_n 2, 1) := by decide +kernel
theorem dX7_ate_6 : decode cX7_ate 6 = .ok (.iload_n 2, 1) := by decide +kernel
theorem dX7_ate_7 : decode cX7_ate 7 = .ok (.ifCond .eq 7, 3) := by decide +kernel
theorem dX7_ate_10 : decode cX7_ate 10 = .ok (.iload_n 2, 1) := by decide +kernel
theorem dX7_ate_11 : decode cX7_ate 11 = .ok (.goto 16, 3) := by decide +kernel
theorem dX7_ate_14 : decode cX7_ate 14 = .ok (.aload_n 0, 1) := by decide +kernel
theorem dX7_ate_15 : decode cX7_ate 15 = .ok (.aload_n 0, 1) := by decide +kernel
theorem dX7_ate_16 : decode cX7_ate 16 = .ok (.getfield 36, 3) := by decide +kernel
theorem dX7_ate_19 : decode cX7_ate 19 = .ok (.iload_n 1, 1) := by decide +kernel
theorem dX7_ate_20 : decode cX7_ate 20 = .ok (.aaload, 1) := by decide +kernel
theorem dX7_ate_21 : decode cX7_ate 21 = .ok (.invokevirtual 335, 3) := by decide +kernel
theorem dX7_ate_24 : decode cX7_ate 24 = .ok (.invokevirtual 246, 3) := by decide +kernel
theorem dX7_ate_27 : decode cX7_ate 27 = .ok (.ireturn, 1) := by decide +kernel
set_option maxRecDepth 4000 in
theorem kX7_ate (G : GT) {σ : St} {a1 : Int32} : ∀ (r : Int32) (σo : St) , fX7_ate σ a1 = some (r, σo) → MCt G 6 yX7_ate cX7_ate 3 (some .int) [.ref (gad G 0), .int a1] σ (some (.int r)) σo := by
  intro r σo hF
  refine met_i (by decide) (Nat.le_of_ble_eq_true rfl) (fun X cx hE => ?_)
  have cx : Cx G X RX7 cX7_ate 3 6 := cx
  unfold fX7_ate at hF
  show WW G X 3 σ [(0, .ref (gad G 0)), (1, .int a1)] 0 []
  refine ww_aload_n cx dX7_ate_0 rfl 0 rfl ?_
  refine ww_iload_n cx dX7_ate_1 rfl 1 rfl ?_
  refine ww_V1_pi kv_X7_332 rfl cx sh_0 ⟨Nat.le_of_ble_eq_true rfl, Nat.le_of_ble_eq_true rfl⟩ (Nat.le_of_ble_eq_true rfl) dX7_ate_2 (kX7_refusalOfDishes G) hF (fun r1 hF => ?_)
  refine ww_istore_n (ks := [0, 1, 2]) (lv' := fun v2 => [(2, .int v2), (0, .ref (gad G 0)), (1, .int a1)]) cx dX7_ate_5 rfl (by decide) hF (fun _ => rfl) (fun v2 hF => ?_)
  refine ww_iload_n cx dX7_ate_6 rfl 0 rfl ?_
  refine ww_if_eq cx dX7_ate_7 (tgt := 14) rfl hF (fun hF => ?_) (fun hF => ?_)
  · refine ww_aload_n cx dX7_ate_14 rfl 1 rfl ?_
    refine ww_aload_n cx dX7_ate_15 rfl 1 rfl ?_
    refine gf_X7_36 cx dX7_ate_16 ?_
    refine ww_iload_n cx dX7_ate_19 rfl 2 rfl ?_
    refine ww_aaldR cx dX7_ate_20 hF (fun k3 hk3 hF => ?_)
    refine ww_V0_pi kv_X7_335 rfl cx ((hk3).1) ⟨Nat.le_of_ble_eq_true rfl, Nat.le_of_ble_eq_true rfl⟩ (Nat.le_of_ble_eq_true rfl) dX7_ate_21 (kX4_asSet G (hk3)) hF (fun r4 hF => ?_)
    refine ww_V1_si kv_X7_246 rfl cx sh_0 ⟨Nat.le_of_ble_eq_true rfl, Nat.le_of_ble_eq_true rfl⟩ (Nat.le_of_ble_eq_true rfl) dX7_ate_24 (kX7_guestsProving G) hF (fun r5 σ6 hF => ?_)
    exact ww_ris hE dX7_ate_27 hF
  · refine ww_iload_n cx dX7_ate_10 rfl 0 rfl ?_
    refine ww_goto cx dX7_ate_11 (tgt := 27) rfl ?_
    exact ww_ris hE dX7_ate_27 hF
theorem dX7_bite_0 : decode cX7_bite 0 = .ok (.aload_n 0, 1) := by decide +kernel
theorem dX7_bite_1 : decode cX7_bite 1 = .ok (.getfield 19, 3) := by decide +kernel
theorem dX7_bite_4 : decode cX7_bite 4 = .ok (.iload_n 1, 1) := by decide +kernel
theorem dX7_bite_5 : decode cX7_bite 5 = .ok (.invokevirtual 101, 3) := by decide +kernel
theorem dX7_bite_8 : decode cX7_bite 8 = .ok (.ifCond .ne 6, 3) := by decide +kernel
theorem dX7_bite_11 : decode cX7_bite 11 = .ok (.bipush (-2), 2) := by decide +kernel
theorem dX7_bite_13 : decode cX7_bite 13 = .ok (.ireturn, 1) := by decide +kernel
theorem dX7_bite_14 : decode cX7_bite 14 = .ok (.aload_n 0, 1) := by decide +kernel
theorem dX7_bite_15 : decode cX7_bite 15 = .ok (.iload_n 1, 1) := by decide +kernel
theorem dX7_bite_16 : decode cX7_bite 16 = .ok (.invokevirtual 208, 3) := by decide +kernel
theorem dX7_bite_19 : decode cX7_bite 19 = .ok (.istore_n 3, 1) := by decide +kernel
theorem dX7_bite_20 : decode cX7_bite 20 = .ok (.iload_n 3, 1) := by decide +kernel
theorem dX7_bite_21 : decode cX7_bite 21 = .ok (.iconst (-1), 1) := by decide +kernel
theorem dX7_bite_22 : decode cX7_bite 22 = .ok (.if_icmp .eq 15, 3) := by decide +kernel
theorem dX7_bite_25 : decode cX7_bite 25 = .ok (.iload_n 2, 1) := by decide +kernel
theorem dX7_bite_26 : decode cX7_bite 26 = .ok (.ifCond .lt 11, 3) := by decide +kernel
theorem dX7_bite_29 : decode cX7_bite 29 = .ok (.iload_n 2, 1) := by decide +kernel
theorem dX7_bite_30 : decode cX7_bite 30 = .ok (.iload_n 3, 1) := by decide +kernel
theorem dX7_bite_31 : decode cX7_bite 31 = .ok (.invokestatic 115, 3) := by decide +kernel
theorem dX7_bite_34 : decode cX7_bite 34 = .ok (.if_icmp .lt 5, 3) := by decide +kernel
theorem dX7_bite_37 : decode cX7_bite 37 = .ok (.iconst (-1), 1) := by decide +kernel
theorem dX7_bite_38 : decode cX7_bite 38 = .ok (.ireturn, 1) := by decide +kernel
theorem dX7_bite_39 : decode cX7_bite 39 = .ok (.aload_n 0, 1) := by decide +kernel
theorem dX7_bite_40 : decode cX7_bite 40 = .ok (.getfield 19, 3) := by decide +kernel
theorem dX7_bite_43 : decode cX7_bite 43 = .ok (.getfield 109, 3) := by decide +kernel
theorem dX7_bite_46 : decode cX7_bite 46 = .ok (.istore 4, 2) := by decide +kernel
theorem dX7_bite_48 : decode cX7_bite 48 = .ok (.iconst 0, 1) := by decide +kernel
theorem dX7_bite_49 : decode cX7_bite 49 = .ok (.istore 5, 2) := by decide +kernel
theorem dX7_bite_51 : decode cX7_bite 51 = .ok (.iload 5, 2) := by decide +kernel
theorem dX7_bite_53 : decode cX7_bite 53 = .ok (.iload_n 2, 1) := by decide +kernel
theorem dX7_bite_54 : decode cX7_bite 54 = .ok (.if_icmp .ge 46, 3) := by decide +kernel
theorem dX7_bite_57 : decode cX7_bite 57 = .ok (.aload_n 0, 1) := by decide +kernel
theorem dX7_bite_58 : decode cX7_bite 58 = .ok (.getfield 19, 3) := by decide +kernel
theorem dX7_bite_61 : decode cX7_bite 61 = .ok (.iload_n 3, 1) := by decide +kernel
theorem dX7_bite_62 : decode cX7_bite 62 = .ok (.iload 4, 2) := by decide +kernel
theorem dX7_bite_64 : decode cX7_bite 64 = .ok (.invokevirtual 214, 3) := by decide +kernel
theorem dX7_bite_67 : decode cX7_bite 67 = .ok (.istore 6, 2) := by decide +kernel
theorem dX7_bite_69 : decode cX7_bite 69 = .ok (.iload 6, 2) := by decide +kernel
theorem dX7_bite_71 : decode cX7_bite 71 = .ok (.iconst (-1), 1) := by decide +kernel
theorem dX7_bite_72 : decode cX7_bite 72 = .ok (.if_icmp .ne 5, 3) := by decide +kernel
theorem dX7_bite_75 : decode cX7_bite 75 = .ok (.iconst (-1), 1) := by decide +kernel
theorem dX7_bite_76 : decode cX7_bite 76 = .ok (.ireturn, 1) := by decide +kernel
theorem dX7_bite_77 : decode cX7_bite 77 = .ok (.iload 4, 2) := by decide +kernel
theorem dX7_bite_79 : decode cX7_bite 79 = .ok (.iconst 1, 1) := by decide +kernel
theorem dX7_bite_80 : decode cX7_bite 80 = .ok (.aload_n 0, 1) := by decide +kernel
theorem dX7_bite_81 : decode cX7_bite 81 = .ok (.getfield 19, 3) := by decide +kernel
theorem dX7_bite_84 : decode cX7_bite 84 = .ok (.getfield 124, 3) := by decide +kernel
theorem dX7_bite_87 : decode cX7_bite 87 = .ok (.iload 6, 2) := by decide +kernel
theorem dX7_bite_89 : decode cX7_bite 89 = .ok (.iaload, 1) := by decide +kernel
theorem dX7_bite_90 : decode cX7_bite 90 = .ok (.ishl, 1) := by decide +kernel
theorem dX7_bite_91 : decode cX7_bite 91 = .ok (.ior, 1) := by decide +kernel
theorem dX7_bite_92 : decode cX7_bite 92 = .ok (.istore 4, 2) := by decide +kernel
theorem dX7_bite_94 : decode cX7_bite 94 = .ok (.iinc 5 1, 3) := by decide +kernel
theorem dX7_bite_97 : decode cX7_bite 97 = .ok (.goto (-46), 3) := by decide +kernel
theorem dX7_bite_100 : decode cX7_bite 100 = .ok (.aload_n 0, 1) := by decide +kernel
theorem dX7_bite_101 : decode cX7_bite 101 = .ok (.getfield 19, 3) := by decide +kernel
theorem dX7_bite_104 : decode cX7_bite 104 = .ok (.iload_n 3, 1) := by decide +kernel
theorem dX7_bite_105 : decode cX7_bite 105 = .ok (.iload 4, 2) := by decide +kernel
theorem dX7_bite_107 : decode cX7_bite 107 = .ok (.invokevirtual 214, 3) := by decide +kernel
theorem dX7_bite_110 : decode cX7_bite 110 = .ok (.ireturn, 1) := by decide +kernel
set_option maxRecDepth 4000 in
theorem kX7_bite (G : GT) {σ : St} {a1 : Int32} {a2 : Int32} : ∀ (r : Int32) (σo : St) , fX7_bite σ a1 a2 = some (r, σo) → MCt G 6 yX7_bite cX7_bite 7 (some .int) [.ref (gad G 0), .int a1, .int a2] σ (some (.int r)) σo := by
  intro r σo hF
  refine met_i (by decide) (Nat.le_of_ble_eq_true rfl) (fun X cx hE => ?_)
  have cx : Cx G X RX7 cX7_bite 7 6 := cx
  have hl51 : ∀ n : Nat, ∀ (σ : St) (x2 : Int32) (x3 : Int32) (x4 : Int32) (x5 : Int32) , fX7_bite_l51 n σ x2 x3 x4 x5 = some (r, σo) → WW G X 7 σ [(0, .ref (gad G 0)), (2, .int x2), (3, .int x3), (4, .int x4), (5, .int x5)] 51 [] := by
    intro n
    induction n with
    | zero =>
      intro σ x2 x3 x4 x5 hF
      exact absurd hF (by intro z; cases z)
    | succ n ih =>
      intro σ x2 x3 x4 x5 hF
      have hk51 := ih
      have hF : fX7_bite_B51 (fX7_bite_l51 n) σ x2 x3 x4 x5 = some (r, σo) := hF
      unfold fX7_bite_B51 at hF
      refine ww_iload cx dX7_bite_51 4 rfl ?_
      refine ww_iload_n cx dX7_bite_53 rfl 1 rfl ?_
      refine ww_icmp_ge cx dX7_bite_54 (tgt := 100) rfl hF (fun hF => ?_) (fun hF => ?_)
      · refine ww_aload_n cx dX7_bite_100 rfl 0 rfl ?_
        refine gf_X7_19 cx dX7_bite_101 ?_
        refine ww_iload_n cx dX7_bite_104 rfl 2 rfl ?_
        refine ww_iload cx dX7_bite_105 3 rfl ?_
        refine ww_V2_pi kv_X7_214 rfl cx ((isTab_3).1) ⟨Nat.le_of_ble_eq_true rfl, Nat.le_of_ble_eq_true rfl⟩ (Nat.le_of_ble_eq_true rfl) dX7_bite_107 (kX6_firstGoing G (isTab_3)) hF (fun r1 hF => ?_)
        exact ww_ris hE dX7_bite_110 hF
      · refine ww_aload_n cx dX7_bite_57 rfl 0 rfl ?_
        refine gf_X7_19 cx dX7_bite_58 ?_
        refine ww_iload_n cx dX7_bite_61 rfl 2 rfl ?_
        refine ww_iload cx dX7_bite_62 3 rfl ?_
        refine ww_V2_pi kv_X7_214 rfl cx ((isTab_3).1) ⟨Nat.le_of_ble_eq_true rfl, Nat.le_of_ble_eq_true rfl⟩ (Nat.le_of_ble_eq_true rfl) dX7_bite_64 (kX6_firstGoing G (isTab_3)) hF (fun r2 hF => ?_)
        refine ww_istore (ks := [0, 1, 2, 3, 4, 5]) (lv' := fun v3 => [(6, .int v3), (0, .ref (gad G 0)), (2, .int x2), (3, .int x3), (4, .int x4), (5, .int x5)]) cx dX7_bite_67 (by decide) hF (fun _ => rfl) (fun v3 hF => ?_)
        refine ww_iload cx dX7_bite_69 0 rfl ?_
        refine ww_iconst cx dX7_bite_71 ic_m1 ?_
        refine ww_icmp_ne cx dX7_bite_72 (tgt := 77) rfl hF (fun hF => ?_) (fun hF => ?_)
        · refine ww_iload cx dX7_bite_77 4 rfl ?_
          refine ww_iconst cx dX7_bite_79 ic_1 ?_
          refine ww_aload_n cx dX7_bite_80 rfl 1 rfl ?_
          refine gf_X7_19 cx dX7_bite_81 ?_
          refine gf_X7_124 cx (isTab_3) dX7_bite_84 ?_
          refine ww_iload cx dX7_bite_87 0 rfl ?_
          refine ww_iald (N := 12) cx (ar_X6_10 isTab_3) dX7_bite_89 hF (fun hF => ?_)
          refine ww_ishl cx dX7_bite_90 ?_
          refine ww_ior cx dX7_bite_91 ?_
          refine ww_istore (ks := [0, 2, 3, 4, 5]) (lv' := fun v4 => [(4, .int v4), (0, .ref (gad G 0)), (2, .int x2), (3, .int x3), (5, .int x5)]) cx dX7_bite_92 (by decide) hF (fun _ => rfl) (fun v4 hF => ?_)
          refine ww_iinc (j := 4) (ks := [0, 1, 2, 3, 4]) (lv' := fun v5 => [(5, .int v5), (4, .int v4), (0, .ref (gad G 0)), (2, .int x2), (3, .int x3)]) cx dX7_bite_94 (by decide) rfl ic_1 hF (fun _ => rfl) (fun v5 hF => ?_)
          refine ww_goto cx dX7_bite_97 (tgt := 51) rfl ?_
          exact ww_sub [2, 3, 4, 1, 0] rfl (hk51 _ _ _ _ _ hF)
        · refine ww_iconst cx dX7_bite_75 ic_m1 ?_
          exact ww_ris hE dX7_bite_76 hF
  unfold fX7_bite at hF
  show WW G X 7 σ [(0, .ref (gad G 0)), (1, .int a1), (2, .int a2)] 0 []
  refine ww_aload_n cx dX7_bite_0 rfl 0 rfl ?_
  refine gf_X7_19 cx dX7_bite_1 ?_
  refine ww_iload_n cx dX7_bite_4 rfl 1 rfl ?_
  refine ww_V1_pi kv_X7_101 rfl cx ((isTab_3).1) ⟨Nat.le_of_ble_eq_true rfl, Nat.le_of_ble_eq_true rfl⟩ (Nat.le_of_ble_eq_true rfl) dX7_bite_5 (kX6_hasClaim G (isTab_3)) hF (fun r6 hF => ?_)
  refine ww_if_ne cx dX7_bite_8 (tgt := 14) rfl hF (fun hF => ?_) (fun hF => ?_)
  · refine ww_aload_n cx dX7_bite_14 rfl 0 rfl ?_
    refine ww_iload_n cx dX7_bite_15 rfl 1 rfl ?_
    refine ww_V1_si kv_X7_208 rfl cx sh_0 ⟨Nat.le_of_ble_eq_true rfl, Nat.le_of_ble_eq_true rfl⟩ (Nat.le_of_ble_eq_true rfl) dX7_bite_16 (kX7_shortestSet G) hF (fun r7 σ8 hF => ?_)
    refine ww_istore_n (ks := [0, 1, 3]) (lv' := fun v9 => [(3, .int v9), (0, .ref (gad G 0)), (2, .int a2)]) cx dX7_bite_19 rfl (by decide) hF (fun _ => rfl) (fun v9 hF => ?_)
    refine ww_iload_n cx dX7_bite_20 rfl 0 rfl ?_
    refine ww_iconst cx dX7_bite_21 ic_m1 ?_
    refine ww_icmp_eq cx dX7_bite_22 (tgt := 37) rfl hF (fun hF => ?_) (fun hF => ?_)
    · refine ww_iconst cx dX7_bite_37 ic_m1 ?_
      exact ww_ris hE dX7_bite_38 hF
    · refine ww_iload_n cx dX7_bite_25 rfl 2 rfl ?_
      refine ww_if_lt cx dX7_bite_26 (tgt := 37) rfl hF (fun hF => ?_) (fun hF => ?_)
      · refine ww_iconst cx dX7_bite_37 ic_m1 ?_
        exact ww_ris hE dX7_bite_38 hF
      · refine ww_iload_n cx dX7_bite_29 rfl 2 rfl ?_
        refine ww_iload_n cx dX7_bite_30 rfl 0 rfl ?_
        refine ww_S1_pi kv_X7_115 cx ⟨Nat.le_of_ble_eq_true rfl, Nat.le_of_ble_eq_true rfl⟩ (Nat.le_of_ble_eq_true rfl) dX7_bite_31 (kJ6_bitCount_0f7a4 G) hF (fun r10 hF => ?_)
        refine ww_icmp_lt cx dX7_bite_34 (tgt := 39) rfl hF (fun hF => ?_) (fun hF => ?_)
        · refine ww_aload_n cx dX7_bite_39 rfl 1 rfl ?_
          refine gf_X7_19 cx dX7_bite_40 ?_
          refine gf_X7_109 cx (isTab_3) dX7_bite_43 ?_
          refine ww_istore (ks := [0, 1, 2, 3]) (lv' := fun v11 => [(4, .int v11), (3, .int v9), (0, .ref (gad G 0)), (2, .int a2)]) cx dX7_bite_46 (by decide) hF (fun _ => rfl) (fun v11 hF => ?_)
          refine ww_iconst cx dX7_bite_48 ic_0 ?_
          refine ww_istore (ks := [0, 1, 2, 3, 4]) (lv' := fun v12 => [(5, .int v12), (4, .int v11), (3, .int v9), (0, .ref (gad G 0)), (2, .int a2)]) cx dX7_bite_49 (by decide) hF (fun _ => rfl) (fun v12 hF => ?_)
          exact ww_sub [3, 4, 2, 1, 0] rfl (hl51 FU _ _ _ _ _ hF)
        · refine ww_iconst cx dX7_bite_37 ic_m1 ?_
          exact ww_ris hE dX7_bite_38 hF
  · refine ww_bipush cx dX7_bite_11 bc_m2 ?_
    exact ww_ris hE dX7_bite_13 hF
theorem dX7_course_0 : decode cX7_course 0 = .ok (.aload_n 0, 1) := by decide +kernel
theorem dX7_course_1 : decode cX7_course 1 = .ok (.getfield 19, 3) := by decide +kernel
theorem dX7_course_4 : decode cX7_course 4 = .ok (.iload_n 1, 1) := by decide +kernel
theorem dX7_course_5 : decode cX7_course 5 = .ok (.invokevirtual 137, 3) := by decide +kernel
theorem dX7_course_8 : decode cX7_course 8 = .ok (.ifCond .eq 12, 3) := by decide +kernel
theorem dX7_course_11 : decode cX7_course 11 = .ok (.aload_n 0, 1) := by decide +kernel
theorem dX7_course_12 : decode cX7_course 12 = .ok (.iload_n 1, 1) := by decide +kernel
theorem dX7_course_13 : decode cX7_course 13 = .ok (.iconst 0, 1) := by decide +kernel
theorem dX7_course_14 : decode cX7_course 14 = .ok (.invokevirtual 234, 3) := by decide +kernel
theorem dX7_course_17 : decode cX7_course 17 = .ok (.goto 5, 3) := by decide +kernel
theorem dX7_course_20 : decode cX7_course 20 = .ok (.bipush (-2), 2) := by decide +kernel
theorem dX7_course_22 : decode cX7_course 22 = .ok (.ireturn, 1) := by decide +kernel
set_option maxRecDepth 4000 in
theorem kX7_course (G : GT) {σ : St} {a1 : Int32} : ∀ (r : Int32) (σo : St) , fX7_course σ a1 = some (r, σo) → MCt G 6 yX7_course cX7_course 2 (some .int) [.ref (gad G 0), .int a1] σ (some (.int r)) σo := by
  intro r σo hF
  refine met_i (by decide) (Nat.le_of_ble_eq_true rfl) (fun X cx hE => ?_)
  have cx : Cx G X RX7 cX7_course 2 6 := cx
  unfold fX7_course at hF
  show WW G X 2 σ [(0, .ref (gad G 0)), (1, .int a1)] 0 []
  refine ww_aload_n cx dX7_course_0 rfl 0 rfl ?_
  refine gf_X7_19 cx dX7_course_1 ?_
  refine ww_iload_n cx dX7_course_4 rfl 1 rfl ?_
  refine ww_V1_pi kv_X7_137 rfl cx ((isTab_3).1) ⟨Nat.le_of_ble_eq_true rfl, Nat.le_of_ble_eq_true rfl⟩ (Nat.le_of_ble_eq_true rfl) dX7_course_5 (kX6_hasGuest G (isTab_3)) hF (fun r1 hF => ?_)
  refine ww_if_eq cx dX7_course_8 (tgt := 20) rfl hF (fun hF => ?_) (fun hF => ?_)
  · refine ww_bipush cx dX7_course_20 bc_m2 ?_
    exact ww_ris hE dX7_course_22 hF
  · refine ww_aload_n cx dX7_course_11 rfl 0 rfl ?_
    refine ww_iload_n cx dX7_course_12 rfl 1 rfl ?_
    refine ww_iconst cx dX7_course_13 ic_0 ?_
    refine ww_V2_si kv_X7_234 rfl cx sh_0 ⟨Nat.le_of_ble_eq_true rfl, Nat.le_of_ble_eq_true rfl⟩ (Nat.le_of_ble_eq_true rfl) dX7_course_14 (kX7_menuSet G) hF (fun r2 σ3 hF => ?_)
    refine ww_goto cx dX7_course_17 (tgt := 22) rfl ?_
    exact ww_ris hE dX7_course_22 hF
theorem dX7_covered_0 : decode cX7_covered 0 = .ok (.aload_n 0, 1) := by decide +kernel
theorem dX7_covered_1 : decode cX7_covered 1 = .ok (.getfield 19, 3) := by decide +kernel
theorem dX7_covered_4 : decode cX7_covered 4 = .ok (.invokevirtual 149, 3) := by decide +kernel
theorem dX7_covered_7 : decode cX7_covered 7 = .ok (.ifCond .eq 20, 3) := by decide +kernel
theorem dX7_covered_10 : decode cX7_covered 10 = .ok (.aload_n 0, 1) := by decide +kernel
theorem dX7_covered_11 : decode cX7_covered 11 = .ok (.getfield 19, 3) := by decide +kernel
theorem dX7_covered_14 : decode cX7_covered 14 = .ok (.invokevirtual 170, 3) := by decide +kernel
theorem dX7_covered_17 : decode cX7_covered 17 = .ok (.aload_n 0, 1) := by decide +kernel
theorem dX7_covered_18 : decode cX7_covered 18 = .ok (.invokevirtual 166, 3) := by decide +kernel
theorem dX7_covered_21 : decode cX7_covered 21 = .ok (.iconst (-1), 1) := by decide +kernel
theorem dX7_covered_22 : decode cX7_covered 22 = .ok (.ixor, 1) := by decide +kernel
theorem dX7_covered_23 : decode cX7_covered 23 = .ok (.iand, 1) := by decide +kernel
theorem dX7_covered_24 : decode cX7_covered 24 = .ok (.goto 5, 3) := by decide +kernel
theorem dX7_covered_27 : decode cX7_covered 27 = .ok (.bipush (-2), 2) := by decide +kernel
theorem dX7_covered_29 : decode cX7_covered 29 = .ok (.ireturn, 1) := by decide +kernel
set_option maxRecDepth 4000 in
theorem kX7_covered (G : GT) {σ : St} : ∀ (r : Int32) (σo : St) , fX7_covered σ = some (r, σo) → MCt G 6 yX7_covered cX7_covered 1 (some .int) [.ref (gad G 0)] σ (some (.int r)) σo := by
  intro r σo hF
  refine met_i (by decide) (Nat.le_of_ble_eq_true rfl) (fun X cx hE => ?_)
  have cx : Cx G X RX7 cX7_covered 1 6 := cx
  unfold fX7_covered at hF
  show WW G X 1 σ [(0, .ref (gad G 0))] 0 []
  refine ww_aload_n cx dX7_covered_0 rfl 0 rfl ?_
  refine gf_X7_19 cx dX7_covered_1 ?_
  refine ww_V0_pi kv_X7_149 rfl cx ((isTab_3).1) ⟨Nat.le_of_ble_eq_true rfl, Nat.le_of_ble_eq_true rfl⟩ (Nat.le_of_ble_eq_true rfl) dX7_covered_4 (kX6_isTold G (isTab_3)) hF (fun r1 hF => ?_)
  refine ww_if_eq cx dX7_covered_7 (tgt := 27) rfl hF (fun hF => ?_) (fun hF => ?_)
  · refine ww_bipush cx dX7_covered_27 bc_m2 ?_
    exact ww_ris hE dX7_covered_29 hF
  · refine ww_aload_n cx dX7_covered_10 rfl 0 rfl ?_
    refine gf_X7_19 cx dX7_covered_11 ?_
    refine ww_V0_pi kv_X7_170 rfl cx ((isTab_3).1) ⟨Nat.le_of_ble_eq_true rfl, Nat.le_of_ble_eq_true rfl⟩ (Nat.le_of_ble_eq_true rfl) dX7_covered_14 (kX6_following G (isTab_3)) hF (fun r2 hF => ?_)
    refine ww_aload_n cx dX7_covered_17 rfl 0 rfl ?_
    refine ww_V0_si kv_X7_166 rfl cx sh_0 ⟨Nat.le_of_ble_eq_true rfl, Nat.le_of_ble_eq_true rfl⟩ (Nat.le_of_ble_eq_true rfl) dX7_covered_18 (kX7_provedByAll G) hF (fun r3 σ4 hF => ?_)
    refine ww_iconst cx dX7_covered_21 ic_m1 ?_
    refine ww_ixor cx dX7_covered_22 ?_
    refine ww_iand cx dX7_covered_23 ?_
    refine ww_goto cx dX7_covered_24 (tgt := 29) rfl ?_
    exact ww_ris hE dX7_covered_29 hF
theorem dX7_dishes_0 : decode cX7_dishes 0 = .ok (.aload_n 0, 1) := by decide +kernel
theorem dX7_dishes_1 : decode cX7_dishes 1 = .ok (.getfield 19, 3) := by decide +kernel
theorem dX7_dishes_4 : decode cX7_dishes 4 = .ok (.iload_n 1, 1) := by decide +kernel
theorem dX7_dishes_5 : decode cX7_dishes 5 = .ok (.invokevirtual 137, 3) := by decide +kernel
theorem dX7_dishes_8 : decode cX7_dishes 8 = .ok (.ifCond .ne 6, 3) := by decide +kernel
theorem dX7_dishes_11 : decode cX7_dishes 11 = .ok (.bipush (-2), 2) := by decide +kernel
theorem dX7_dishes_13 : decode cX7_dishes 13 = .ok (.ireturn, 1) := by decide +kernel
theorem dX7_dishes_14 : decode cX7_dishes 14 = .ok (.aload_n 0, 1) := by decide +kernel
theorem dX7_dishes_15 : decode cX7_dishes 15 = .ok (.invokevirtual 218, 3) := by decide +kernel
theorem dX7_dishes_18 : decode cX7_dishes 18 = .ok (.getfield 237, 3) := by decide +kernel
theorem dX7_dishes_21 : decode cX7_dishes 21 = .ok (.aload_n 0, 1) := by decide +kernel
theorem dX7_dishes_22 : decode cX7_dishes 22 = .ok (.iload_n 1, 1) := by decide +kernel
theorem dX7_dishes_23 : decode cX7_dishes 23 = .ok (.iconst 0, 1) := by decide +kernel
theorem dX7_dishes_24 : decode cX7_dishes 24 = .ok (.invokevirtual 234, 3) := by decide +kernel
theorem dX7_dishes_27 : decode cX7_dishes 27 = .ok (.iaload, 1) := by decide +kernel
theorem dX7_dishes_28 : decode cX7_dishes 28 = .ok (.aload_n 0, 1) := by decide +kernel
theorem dX7_dishes_29 : decode cX7_dishes 29 = .ok (.getfield 19, 3) := by decide +kernel
theorem dX7_dishes_32 : decode cX7_dishes 32 = .ok (.getfield 109, 3) := by decide +kernel
theorem dX7_dishes_35 : decode cX7_dishes 35 = .ok (.iconst (-1), 1) := by decide +kernel
theorem dX7_dishes_36 : decode cX7_dishes 36 = .ok (.ixor, 1) := by decide +kernel
theorem dX7_dishes_37 : decode cX7_dishes 37 = .ok (.iand, 1) := by decide +kernel
theorem dX7_dishes_38 : decode cX7_dishes 38 = .ok (.ireturn, 1) := by decide +kernel
set_option maxRecDepth 4000 in
theorem kX7_dishes (G : GT) {σ : St} {a1 : Int32} : ∀ (r : Int32) (σo : St) , fX7_dishes σ a1 = some (r, σo) → MCt G 6 yX7_dishes cX7_dishes 2 (some .int) [.ref (gad G 0), .int a1] σ (some (.int r)) σo := by
  intro r σo hF
  refine met_i (by decide) (Nat.le_of_ble_eq_true rfl) (fun X cx hE => ?_)
  have cx : Cx G X RX7 cX7_dishes 2 6 := cx
  unfold fX7_dishes at hF
  show WW G X 2 σ [(0, .ref (gad G 0)), (1, .int a1)] 0 []
  refine ww_aload_n cx dX7_dishes_0 rfl 0 rfl ?_
  refine gf_X7_19 cx dX7_dishes_1 ?_
  refine ww_iload_n cx dX7_dishes_4 rfl 1 rfl ?_
  refine ww_V1_pi kv_X7_137 rfl cx ((isTab_3).1) ⟨Nat.le_of_ble_eq_true rfl, Nat.le_of_ble_eq_true rfl⟩ (Nat.le_of_ble_eq_true rfl) dX7_dishes_5 (kX6_hasGuest G (isTab_3)) hF (fun r1 hF => ?_)
  refine ww_if_ne cx dX7_dishes_8 (tgt := 14) rfl hF (fun hF => ?_) (fun hF => ?_)
  · refine ww_aload_n cx dX7_dishes_14 rfl 0 rfl ?_
    refine ww_V0_sr kv_X7_218 rfl cx sh_0 ⟨Nat.le_of_ble_eq_true rfl, Nat.le_of_ble_eq_true rfl⟩ (Nat.le_of_ble_eq_true rfl) dX7_dishes_15 (kX7_freshProofs G) hF (fun σ2 hF => ?_)
    refine gf_X7_237 cx (isShe_49) dX7_dishes_18 ?_
    refine ww_aload_n cx dX7_dishes_21 rfl 0 rfl ?_
    refine ww_iload_n cx dX7_dishes_22 rfl 1 rfl ?_
    refine ww_iconst cx dX7_dishes_23 ic_0 ?_
    refine ww_V2_si kv_X7_234 rfl cx sh_0 ⟨Nat.le_of_ble_eq_true rfl, Nat.le_of_ble_eq_true rfl⟩ (Nat.le_of_ble_eq_true rfl) dX7_dishes_24 (kX7_menuSet G) hF (fun r3 σ4 hF => ?_)
    refine ww_iald (N := 4096) cx (ar_X5_0 isShe_49) dX7_dishes_27 hF (fun hF => ?_)
    refine ww_aload_n cx dX7_dishes_28 rfl 0 rfl ?_
    refine gf_X7_19 cx dX7_dishes_29 ?_
    refine gf_X7_109 cx (isTab_3) dX7_dishes_32 ?_
    refine ww_iconst cx dX7_dishes_35 ic_m1 ?_
    refine ww_ixor cx dX7_dishes_36 ?_
    refine ww_iand cx dX7_dishes_37 ?_
    exact ww_ris hE dX7_dishes_38 hF
  · refine ww_bipush cx dX7_dishes_11 bc_m2 ?_
    exact ww_ris hE dX7_dishes_13 hF
theorem dX7_falls_0 : decode cX7_falls 0 = .ok (.aload_n 0, 1) := by decide +kernel
theorem dX7_falls_1 : decode cX7_falls 1 = .ok (.getfield 19, 3) := by decide +kernel
theorem dX7_falls_4 : decode cX7_falls 4 = .ok (.iload_n 1, 1) := by decide +kernel
theorem dX7_falls_5 : decode cX7_falls 5 = .ok (.invokevirtual 101, 3) := by decide +kernel
theorem dX7_falls_8 : decode cX7_falls 8 = .ok (.ifCond .eq 17, 3) := by decide +kernel
theorem dX7_falls_11 : decode cX7_falls 11 = .ok (.aload_n 0, 1) := by decide +kernel
theorem dX7_falls_12 : decode cX7_falls 12 = .ok (.getfield 19, 3) := by decide +kernel
theorem dX7_falls_15 : decode cX7_falls 15 = .ok (.getfield 109, 3) := by decide +kernel
theorem dX7_falls_18 : decode cX7_falls 18 = .ok (.iload_n 1, 1) := by decide +kernel
theorem dX7_falls_19 : decode cX7_falls 19 = .ok (.ishr, 1) := by decide +kernel
theorem dX7_falls_20 : decode cX7_falls 20 = .ok (.iconst 1, 1) := by decide +kernel
theorem dX7_falls_21 : decode cX7_falls 21 = .ok (.iand, 1) := by decide +kernel
theorem dX7_falls_22 : decode cX7_falls 22 = .ok (.ifCond .ne 6, 3) := by decide +kernel
theorem dX7_falls_25 : decode cX7_falls 25 = .ok (.bipush (-2), 2) := by decide +kernel
theorem dX7_falls_27 : decode cX7_falls 27 = .ok (.ireturn, 1) := by decide +kernel
theorem dX7_falls_28 : decode cX7_falls 28 = .ok (.aload_n 0, 1) := by decide +kernel
theorem dX7_falls_29 : decode cX7_falls 29 = .ok (.invokevirtual 166, 3) := by decide +kernel
theorem dX7_falls_32 : decode cX7_falls 32 = .ok (.aload_n 0, 1) := by decide +kernel
theorem dX7_falls_33 : decode cX7_falls 33 = .ok (.getfield 19, 3) := by decide +kernel
theorem dX7_falls_36 : decode cX7_falls 36 = .ok (.aload_n 0, 1) := by decide +kernel
theorem dX7_falls_37 : decode cX7_falls 37 = .ok (.getfield 19, 3) := by decide +kernel
theorem dX7_falls_40 : decode cX7_falls 40 = .ok (.invokevirtual 222, 3) := by decide +kernel
theorem dX7_falls_43 : decode cX7_falls 43 = .ok (.aload_n 0, 1) := by decide +kernel
theorem dX7_falls_44 : decode cX7_falls 44 = .ok (.getfield 19, 3) := by decide +kernel
theorem dX7_falls_47 : decode cX7_falls 47 = .ok (.getfield 109, 3) := by decide +kernel
theorem dX7_falls_50 : decode cX7_falls 50 = .ok (.iconst 1, 1) := by decide +kernel
theorem dX7_falls_51 : decode cX7_falls 51 = .ok (.iload_n 1, 1) := by decide +kernel
theorem dX7_falls_52 : decode cX7_falls 52 = .ok (.ishl, 1) := by decide +kernel
theorem dX7_falls_53 : decode cX7_falls 53 = .ok (.iconst (-1), 1) := by decide +kernel
theorem dX7_falls_54 : decode cX7_falls 54 = .ok (.ixor, 1) := by decide +kernel
theorem dX7_falls_55 : decode cX7_falls 55 = .ok (.iand, 1) := by decide +kernel
theorem dX7_falls_56 : decode cX7_falls 56 = .ok (.invokevirtual 323, 3) := by decide +kernel
theorem dX7_falls_59 : decode cX7_falls 59 = .ok (.iconst (-1), 1) := by decide +kernel
theorem dX7_falls_60 : decode cX7_falls 60 = .ok (.ixor, 1) := by decide +kernel
theorem dX7_falls_61 : decode cX7_falls 61 = .ok (.iand, 1) := by decide +kernel
theorem dX7_falls_62 : decode cX7_falls 62 = .ok (.ireturn, 1) := by decide +kernel
set_option maxRecDepth 4000 in
theorem kX7_falls (G : GT) {σ : St} {a1 : Int32} : ∀ (r : Int32) (σo : St) , fX7_falls σ a1 = some (r, σo) → MCt G 6 yX7_falls cX7_falls 2 (some .int) [.ref (gad G 0), .int a1] σ (some (.int r)) σo := by
  intro r σo hF
  refine met_i (by decide) (Nat.le_of_ble_eq_true rfl) (fun X cx hE => ?_)
  have cx : Cx G X RX7 cX7_falls 2 6 := cx
  unfold fX7_falls at hF
  show WW G X 2 σ [(0, .ref (gad G 0)), (1, .int a1)] 0 []
  refine ww_aload_n cx dX7_falls_0 rfl 0 rfl ?_
  refine gf_X7_19 cx dX7_falls_1 ?_
  refine ww_iload_n cx dX7_falls_4 rfl 1 rfl ?_
  refine ww_V1_pi kv_X7_101 rfl cx ((isTab_3).1) ⟨Nat.le_of_ble_eq_true rfl, Nat.le_of_ble_eq_true rfl⟩ (Nat.le_of_ble_eq_true rfl) dX7_falls_5 (kX6_hasClaim G (isTab_3)) hF (fun r1 hF => ?_)
  refine ww_if_eq cx dX7_falls_8 (tgt := 25) rfl hF (fun hF => ?_) (fun hF => ?_)
  · refine ww_bipush cx dX7_falls_25 bc_m2 ?_
    exact ww_ris hE dX7_falls_27 hF
  · refine ww_aload_n cx dX7_falls_11 rfl 0 rfl ?_
    refine gf_X7_19 cx dX7_falls_12 ?_
    refine gf_X7_109 cx (isTab_3) dX7_falls_15 ?_
    refine ww_iload_n cx dX7_falls_18 rfl 1 rfl ?_
    refine ww_ishr cx dX7_falls_19 ?_
    refine ww_iconst cx dX7_falls_20 ic_1 ?_
    refine ww_iand cx dX7_falls_21 ?_
    refine ww_if_ne cx dX7_falls_22 (tgt := 28) rfl hF (fun hF => ?_) (fun hF => ?_)
    · refine ww_aload_n cx dX7_falls_28 rfl 0 rfl ?_
      refine ww_V0_si kv_X7_166 rfl cx sh_0 ⟨Nat.le_of_ble_eq_true rfl, Nat.le_of_ble_eq_true rfl⟩ (Nat.le_of_ble_eq_true rfl) dX7_falls_29 (kX7_provedByAll G) hF (fun r2 σ3 hF => ?_)
      refine ww_aload_n cx dX7_falls_32 rfl 0 rfl ?_
      refine gf_X7_19 cx dX7_falls_33 ?_
      refine ww_aload_n cx dX7_falls_36 rfl 0 rfl ?_
      refine gf_X7_19 cx dX7_falls_37 ?_
      refine ww_V0_pi kv_X7_222 rfl cx ((isTab_3).1) ⟨Nat.le_of_ble_eq_true rfl, Nat.le_of_ble_eq_true rfl⟩ (Nat.le_of_ble_eq_true rfl) dX7_falls_40 (kX6_allSteps G (isTab_3)) hF (fun r4 hF => ?_)
      refine ww_aload_n cx dX7_falls_43 rfl 0 rfl ?_
      refine gf_X7_19 cx dX7_falls_44 ?_
      refine gf_X7_109 cx (isTab_3) dX7_falls_47 ?_
      refine ww_iconst cx dX7_falls_50 ic_1 ?_
      refine ww_iload_n cx dX7_falls_51 rfl 1 rfl ?_
      refine ww_ishl cx dX7_falls_52 ?_
      refine ww_iconst cx dX7_falls_53 ic_m1 ?_
      refine ww_ixor cx dX7_falls_54 ?_
      refine ww_iand cx dX7_falls_55 ?_
      refine ww_V2_pi kv_X7_323 rfl cx ((isTab_3).1) ⟨Nat.le_of_ble_eq_true rfl, Nat.le_of_ble_eq_true rfl⟩ (Nat.le_of_ble_eq_true rfl) dX7_falls_56 (kX6_spread G (isTab_3)) hF (fun r5 hF => ?_)
      refine ww_iconst cx dX7_falls_59 ic_m1 ?_
      refine ww_ixor cx dX7_falls_60 ?_
      refine ww_iand cx dX7_falls_61 ?_
      exact ww_ris hE dX7_falls_62 hF
    · refine ww_bipush cx dX7_falls_25 bc_m2 ?_
      exact ww_ris hE dX7_falls_27 hF
theorem dX7_host_0 : decode cX7_host 0 = .ok (.aload_n 0, 1) := by decide +kernel
theorem dX7_host_1 : decode cX7_host 1 = .ok (.getfield 19, 3) := by decide +kernel
theorem dX7_host_4 : decode cX7_host 4 = .ok (.iload_n 1, 1) := by decide +kernel
theorem dX7_host_5 : decode cX7_host 5 = .ok (.invokevirtual 249, 3) := by decide +kernel
theorem dX7_host_8 : decode cX7_host 8 = .ok (.ifCond .ne 6, 3) := by decide +kernel
theorem dX7_host_11 : decode cX7_host 11 = .ok (.bipush (-2), 2) := by decide +kernel
theorem dX7_host_13 : decode cX7_host 13 = .ok (.ireturn, 1) := by decide +kernel
theorem dX7_host_14 : decode cX7_host 14 = .ok (.iconst 0, 1) := by decide +kernel
theorem dX7_host_15 : decode cX7_host 15 = .ok (.istore_n 2, 1) := by decide +kernel
theorem dX7_host_16 : decode cX7_host 16 = .ok (.iload_n 2, 1) := by decide +kernel
theorem dX7_host_17 : decode cX7_host 17 = .ok (.aload_n 0, 1) := by decide +kernel
theorem dX7_host_18 : decode cX7_host 18 = .ok (.getfield 19, 3) := by decide +kernel
theorem dX7_host_21 : decode cX7_host 21 = .ok (.getfield 252, 3) := by decide +kernel
theorem dX7_host_24 : decode cX7_host 24 = .ok (.if_icmp .ge 22, 3) := by decide +kernel
theorem dX7_host_27 : decode cX7_host 27 = .ok (.aload_n 0, 1) := by decide +kernel
theorem dX7_host_28 : decode cX7_host 28 = .ok (.iconst 1, 1) := by decide +kernel
theorem dX7_host_29 : decode cX7_host 29 = .ok (.iload_n 2, 1) := by decide +kernel
theorem dX7_host_30 : decode cX7_host 30 = .ok (.ishl, 1) := by decide +kernel
theorem dX7_host_31 : decode cX7_host 31 = .ok (.invokevirtual 246, 3) := by decide +kernel
theorem dX7_host_34 : decode cX7_host 34 = .ok (.iload_n 1, 1) := by decide +kernel
theorem dX7_host_35 : decode cX7_host 35 = .ok (.if_icmp .ne 5, 3) := by decide +kernel
theorem dX7_host_38 : decode cX7_host 38 = .ok (.iload_n 2, 1) := by decide +kernel
theorem dX7_host_39 : decode cX7_host 39 = .ok (.ireturn, 1) := by decide +kernel
theorem dX7_host_40 : decode cX7_host 40 = .ok (.iinc 2 1, 3) := by decide +kernel
theorem dX7_host_43 : decode cX7_host 43 = .ok (.goto (-27), 3) := by decide +kernel
theorem dX7_host_46 : decode cX7_host 46 = .ok (.iconst (-1), 1) := by decide +kernel
theorem dX7_host_47 : decode cX7_host 47 = .ok (.ireturn, 1) := by decide +kernel
set_option maxRecDepth 4000 in
theorem kX7_host (G : GT) {σ : St} {a1 : Int32} : ∀ (r : Int32) (σo : St) , fX7_host σ a1 = some (r, σo) → MCt G 6 yX7_host cX7_host 3 (some .int) [.ref (gad G 0), .int a1] σ (some (.int r)) σo := by
  intro r σo hF
  refine met_i (by decide) (Nat.le_of_ble_eq_true rfl) (fun X cx hE => ?_)
  have cx : Cx G X RX7 cX7_host 3 6 := cx
  have hl16 : ∀ n : Nat, ∀ (σ : St) (x1 : Int32) (x2 : Int32) , fX7_host_l16 n σ x1 x2 = some (r, σo) → WW G X 3 σ [(0, .ref (gad G 0)), (1, .int x1), (2, .int x2)] 16 [] := by
    intro n
    induction n with
    | zero =>
      intro σ x1 x2 hF
      exact absurd hF (by intro z; cases z)
    | succ n ih =>
      intro σ x1 x2 hF
      have hk16 := ih
      have hF : fX7_host_B16 (fX7_host_l16 n) σ x1 x2 = some (r, σo) := hF
      unfold fX7_host_B16 at hF
      refine ww_iload_n cx dX7_host_16 rfl 2 rfl ?_
      refine ww_aload_n cx dX7_host_17 rfl 0 rfl ?_
      refine gf_X7_19 cx dX7_host_18 ?_
      refine gf_X7_252 cx (isTab_3) dX7_host_21 ?_
      refine ww_icmp_ge cx dX7_host_24 (tgt := 46) rfl hF (fun hF => ?_) (fun hF => ?_)
      · refine ww_iconst cx dX7_host_46 ic_m1 ?_
        exact ww_ris hE dX7_host_47 hF
      · refine ww_aload_n cx dX7_host_27 rfl 0 rfl ?_
        refine ww_iconst cx dX7_host_28 ic_1 ?_
        refine ww_iload_n cx dX7_host_29 rfl 2 rfl ?_
        refine ww_ishl cx dX7_host_30 ?_
        refine ww_V1_si kv_X7_246 rfl cx sh_0 ⟨Nat.le_of_ble_eq_true rfl, Nat.le_of_ble_eq_true rfl⟩ (Nat.le_of_ble_eq_true rfl) dX7_host_31 (kX7_guestsProving G) hF (fun r1 σ2 hF => ?_)
        refine ww_iload_n cx dX7_host_34 rfl 1 rfl ?_
        refine ww_icmp_ne cx dX7_host_35 (tgt := 40) rfl hF (fun hF => ?_) (fun hF => ?_)
        · refine ww_iinc (j := 2) (ks := [0, 1, 2]) (lv' := fun v3 => [(2, .int v3), (0, .ref (gad G 0)), (1, .int x1)]) cx dX7_host_40 (by decide) rfl ic_1 hF (fun _ => rfl) (fun v3 hF => ?_)
          refine ww_goto cx dX7_host_43 (tgt := 16) rfl ?_
          exact ww_sub [1, 2, 0] rfl (hk16 _ _ _ hF)
        · refine ww_iload_n cx dX7_host_38 rfl 2 rfl ?_
          exact ww_ris hE dX7_host_39 hF
  unfold fX7_host at hF
  show WW G X 3 σ [(0, .ref (gad G 0)), (1, .int a1)] 0 []
  refine ww_aload_n cx dX7_host_0 rfl 0 rfl ?_
  refine gf_X7_19 cx dX7_host_1 ?_
  refine ww_iload_n cx dX7_host_4 rfl 1 rfl ?_
  refine ww_V1_pi kv_X7_249 rfl cx ((isTab_3).1) ⟨Nat.le_of_ble_eq_true rfl, Nat.le_of_ble_eq_true rfl⟩ (Nat.le_of_ble_eq_true rfl) dX7_host_5 (kX6_isGuestSet G (isTab_3)) hF (fun r4 hF => ?_)
  refine ww_if_ne cx dX7_host_8 (tgt := 14) rfl hF (fun hF => ?_) (fun hF => ?_)
  · refine ww_iconst cx dX7_host_14 ic_0 ?_
    refine ww_istore_n (ks := [0, 1, 2]) (lv' := fun v5 => [(2, .int v5), (0, .ref (gad G 0)), (1, .int a1)]) cx dX7_host_15 rfl (by decide) hF (fun _ => rfl) (fun v5 hF => ?_)
    exact ww_sub [1, 2, 0] rfl (hl16 FU _ _ _ hF)
  · refine ww_bipush cx dX7_host_11 bc_m2 ?_
    exact ww_ris hE dX7_host_13 hF
theorem dX7_leastTeam_0 : decode cX7_leastTeam 0 = .ok (.iconst (-1), 1) := by decide +kernel
theorem dX7_leastTeam_1 : decode cX7_leastTeam 1 = .ok (.istore_n 2, 1) := by decide +kernel
theorem dX7_leastTeam_2 : decode cX7_leastTeam 2 = .ok (.bipush 6, 2) := by decide +kernel
theorem dX7_leastTeam_4 : decode cX7_leastTeam 4 = .ok (.istore_n 3, 1) := by decide +kernel
theorem dX7_leastTeam_5 : decode cX7_leastTeam 5 = .ok (.iconst 0, 1) := by decide +kernel
theorem dX7_leastTeam_6 : decode cX7_leastTeam 6 = .ok (.istore 4, 2) := by decide +kernel
theorem dX7_leastTeam_8 : decode cX7_leastTeam 8 = .ok (.iload 4, 2) := by decide +kernel
theorem dX7_leastTeam_10 : decode cX7_leastTeam 10 = .ok (.iconst 1, 1) := by decide +kernel
theorem dX7_leastTeam_11 : decode cX7_leastTeam 11 = .ok (.aload_n 0, 1) := by decide +kernel
theorem dX7_leastTeam_12 : decode cX7_leastTeam 12 = .ok (.getfield 19, 3) := by decide +kernel
theorem dX7_leastTeam_15 : decode cX7_leastTeam 15 = .ok (.getfield 345, 3) := by decide +kernel
theorem dX7_leastTeam_18 : decode cX7_leastTeam 18 = .ok (.ishl, 1) := by decide +kernel
theorem dX7_leastTeam_19 : decode cX7_leastTeam 19 = .ok (.if_icmp .ge 38, 3) := by decide +kernel
theorem dX7_leastTeam_22 : decode cX7_leastTeam 22 = .ok (.iload 4, 2) := by decide +kernel
theorem dX7_leastTeam_24 : decode cX7_leastTeam 24 = .ok (.invokestatic 115, 3) := by decide +kernel
theorem dX7_leastTeam_27 : decode cX7_leastTeam 27 = .ok (.istore 5, 2) := by decide +kernel
theorem dX7_leastTeam_29 : decode cX7_leastTeam 29 = .ok (.iload 5, 2) := by decide +kernel
theorem dX7_leastTeam_31 : decode cX7_leastTeam 31 = .ok (.iload_n 3, 1) := by decide +kernel
theorem dX7_leastTeam_32 : decode cX7_leastTeam 32 = .ok (.if_icmp .ge 19, 3) := by decide +kernel
theorem dX7_leastTeam_35 : decode cX7_leastTeam 35 = .ok (.aload_n 0, 1) := by decide +kernel
theorem dX7_leastTeam_36 : decode cX7_leastTeam 36 = .ok (.iload 4, 2) := by decide +kernel
theorem dX7_leastTeam_38 : decode cX7_leastTeam 38 = .ok (.iload_n 1, 1) := by decide +kernel
theorem dX7_leastTeam_39 : decode cX7_leastTeam 39 = .ok (.invokevirtual 264, 3) := by decide +kernel
theorem dX7_leastTeam_42 : decode cX7_leastTeam 42 = .ok (.ifCond .eq 9, 3) := by decide +kernel
theorem dX7_leastTeam_45 : decode cX7_leastTeam 45 = .ok (.iload 4, 2) := by decide +kernel
theorem dX7_leastTeam_47 : decode cX7_leastTeam 47 = .ok (.istore_n 2, 1) := by decide +kernel
theorem dX7_leastTeam_48 : decode cX7_leastTeam 48 = .ok (.iload 5, 2) := by decide +kernel
theorem dX7_leastTeam_50 : decode cX7_leastTeam 50 = .ok (.istore_n 3, 1) := by decide +kernel
theorem dX7_leastTeam_51 : decode cX7_leastTeam 51 = .ok (.iinc 4 1, 3) := by decide +kernel
theorem dX7_leastTeam_54 : decode cX7_leastTeam 54 = .ok (.goto (-46), 3) := by decide +kernel
theorem dX7_leastTeam_57 : decode cX7_leastTeam 57 = .ok (.iload_n 2, 1) := by decide +kernel
theorem dX7_leastTeam_58 : decode cX7_leastTeam 58 = .ok (.ireturn, 1) := by decide +kernel
set_option maxRecDepth 4000 in
theorem kX7_leastTeam (G : GT) {σ : St} {a1 : Int32} : ∀ (r : Int32) (σo : St) , fX7_leastTeam σ a1 = some (r, σo) → MCt G 6 yX7_leastTeam cX7_leastTeam 6 (some .int) [.ref (gad G 0), .int a1] σ (some (.int r)) σo := by
  intro r σo hF
  refine met_i (by decide) (Nat.le_of_ble_eq_true rfl) (fun X cx hE => ?_)
  have cx : Cx G X RX7 cX7_leastTeam 6 6 := cx
  have hl8 : ∀ n : Nat, ∀ (σ : St) (x1 : Int32) (x2 : Int32) (x3 : Int32) (x4 : Int32) , fX7_leastTeam_l8 n σ x1 x2 x3 x4 = some (r, σo) → WW G X 6 σ [(0, .ref (gad G 0)), (1, .int x1), (2, .int x2), (3, .int x3), (4, .int x4)] 8 [] := by
    intro n
    induction n with
    | zero =>
      intro σ x1 x2 x3 x4 hF
      exact absurd hF (by intro z; cases z)
    | succ n ih =>
      intro σ x1 x2 x3 x4 hF
      have hk8 := ih
      have hF : fX7_leastTeam_B8 (fX7_leastTeam_l8 n) σ x1 x2 x3 x4 = some (r, σo) := hF
      unfold fX7_leastTeam_B8 at hF
      refine ww_iload cx dX7_leastTeam_8 4 rfl ?_
      refine ww_iconst cx dX7_leastTeam_10 ic_1 ?_
      refine ww_aload_n cx dX7_leastTeam_11 rfl 0 rfl ?_
      refine gf_X7_19 cx dX7_leastTeam_12 ?_
      refine gf_X7_345 cx (isTab_3) dX7_leastTeam_15 ?_
      refine ww_ishl cx dX7_leastTeam_18 ?_
      refine ww_icmp_ge cx dX7_leastTeam_19 (tgt := 57) rfl hF (fun hF => ?_) (fun hF => ?_)
      · refine ww_iload_n cx dX7_leastTeam_57 rfl 2 rfl ?_
        exact ww_ris hE dX7_leastTeam_58 hF
      · refine ww_iload cx dX7_leastTeam_22 4 rfl ?_
        refine ww_S1_pi kv_X7_115 cx ⟨Nat.le_of_ble_eq_true rfl, Nat.le_of_ble_eq_true rfl⟩ (Nat.le_of_ble_eq_true rfl) dX7_leastTeam_24 (kJ6_bitCount_0f7a4 G) hF (fun r1 hF => ?_)
        refine ww_istore (ks := [0, 1, 2, 3, 4, 5]) (lv' := fun v2 => [(5, .int v2), (0, .ref (gad G 0)), (1, .int x1), (2, .int x2), (3, .int x3), (4, .int x4)]) cx dX7_leastTeam_27 (by decide) hF (fun _ => rfl) (fun v2 hF => ?_)
        refine ww_iload cx dX7_leastTeam_29 0 rfl ?_
        refine ww_iload_n cx dX7_leastTeam_31 rfl 4 rfl ?_
        refine ww_icmp_ge cx dX7_leastTeam_32 (tgt := 51) rfl hF (fun hF => ?_) (fun hF => ?_)
        · refine ww_iinc (j := 5) (ks := [0, 2, 3, 4, 5]) (lv' := fun v3 => [(4, .int v3), (0, .ref (gad G 0)), (1, .int x1), (2, .int x2), (3, .int x3)]) cx dX7_leastTeam_51 (by decide) rfl ic_1 hF (fun _ => rfl) (fun v3 hF => ?_)
          refine ww_goto cx dX7_leastTeam_54 (tgt := 8) rfl ?_
          exact ww_sub [1, 2, 3, 4, 0] rfl (hk8 _ _ _ _ _ hF)
        · refine ww_aload_n cx dX7_leastTeam_35 rfl 1 rfl ?_
          refine ww_iload cx dX7_leastTeam_36 5 rfl ?_
          refine ww_iload_n cx dX7_leastTeam_38 rfl 2 rfl ?_
          refine ww_V2_si kv_X7_264 rfl cx sh_0 ⟨Nat.le_of_ble_eq_true rfl, Nat.le_of_ble_eq_true rfl⟩ (Nat.le_of_ble_eq_true rfl) dX7_leastTeam_39 (kX7_doesTeamProve G) hF (fun r4 σ5 hF => ?_)
          refine ww_if_eq cx dX7_leastTeam_42 (tgt := 51) rfl hF (fun hF => ?_) (fun hF => ?_)
          · refine ww_iinc (j := 5) (ks := [0, 2, 3, 4, 5]) (lv' := fun v6 => [(4, .int v6), (0, .ref (gad G 0)), (1, .int x1), (2, .int x2), (3, .int x3)]) cx dX7_leastTeam_51 (by decide) rfl ic_1 hF (fun _ => rfl) (fun v6 hF => ?_)
            refine ww_goto cx dX7_leastTeam_54 (tgt := 8) rfl ?_
            exact ww_sub [1, 2, 3, 4, 0] rfl (hk8 _ _ _ _ _ hF)
          · refine ww_iload cx dX7_leastTeam_45 5 rfl ?_
            refine ww_istore_n (ks := [0, 1, 2, 3, 5]) (lv' := fun v7 => [(2, .int v7), (5, .int v2), (0, .ref (gad G 0)), (1, .int x1), (4, .int x4)]) cx dX7_leastTeam_47 rfl (by decide) hF (fun _ => rfl) (fun v7 hF => ?_)
            refine ww_iload cx dX7_leastTeam_48 1 rfl ?_
            refine ww_istore_n (ks := [0, 1, 3, 4, 5]) (lv' := fun v8 => [(3, .int v8), (2, .int v7), (0, .ref (gad G 0)), (1, .int x1), (4, .int x4)]) cx dX7_leastTeam_50 rfl (by decide) hF (fun _ => rfl) (fun v8 hF => ?_)
            refine ww_iinc (j := 4) (ks := [0, 1, 2, 3, 4]) (lv' := fun v9 => [(4, .int v9), (3, .int v8), (2, .int v7), (0, .ref (gad G 0)), (1, .int x1)]) cx dX7_leastTeam_51 (by decide) rfl ic_1 hF (fun _ => rfl) (fun v9 hF => ?_)
            refine ww_goto cx dX7_leastTeam_54 (tgt := 8) rfl ?_
            exact ww_sub [3, 4, 2, 1, 0] rfl (hk8 _ _ _ _ _ hF)
  unfold fX7_leastTeam at hF
  show WW G X 6 σ [(0, .ref (gad G 0)), (1, .int a1)] 0 []
  refine ww_iconst cx dX7_leastTeam_0 ic_m1 ?_
  refine ww_istore_n (ks := [0, 1, 2]) (lv' := fun v10 => [(2, .int v10), (0, .ref (gad G 0)), (1, .int a1)]) cx dX7_leastTeam_1 rfl (by decide) hF (fun _ => rfl) (fun v10 hF => ?_)
  refine ww_bipush cx dX7_leastTeam_2 bc_6 ?_
  refine ww_istore_n (ks := [0, 1, 2, 3]) (lv' := fun v11 => [(3, .int v11), (2, .int v10), (0, .ref (gad G 0)), (1, .int a1)]) cx dX7_leastTeam_4 rfl (by decide) hF (fun _ => rfl) (fun v11 hF => ?_)
  refine ww_iconst cx dX7_leastTeam_5 ic_0 ?_
  refine ww_istore (ks := [0, 1, 2, 3, 4]) (lv' := fun v12 => [(4, .int v12), (3, .int v11), (2, .int v10), (0, .ref (gad G 0)), (1, .int a1)]) cx dX7_leastTeam_6 (by decide) hF (fun _ => rfl) (fun v12 hF => ?_)
  exact ww_sub [3, 4, 2, 1, 0] rfl (hl8 FU _ _ _ _ _ hF)
theorem dX7_lengthOfDuel_0 : decode cX7_lengthOfDuel 0 = .ok (.aload_n 0, 1) := by decide +kernel
theorem dX7_lengthOfDuel_1 : decode cX7_lengthOfDuel 1 = .ok (.invokevirtual 166, 3) := by decide +kernel
theorem dX7_lengthOfDuel_4 : decode cX7_lengthOfDuel 4 = .ok (.aload_n 0, 1) := by decide +kernel
theorem dX7_lengthOfDuel_5 : decode cX7_lengthOfDuel 5 = .ok (.getfield 19, 3) := by decide +kernel
theorem dX7_lengthOfDuel_8 : decode cX7_lengthOfDuel 8 = .ok (.getfield 109, 3) := by decide +kernel
theorem dX7_lengthOfDuel_11 : decode cX7_lengthOfDuel 11 = .ok (.iconst (-1), 1) := by decide +kernel
theorem dX7_lengthOfDuel_12 : decode cX7_lengthOfDuel 12 = .ok (.ixor, 1) := by decide +kernel
theorem dX7_lengthOfDuel_13 : decode cX7_lengthOfDuel 13 = .ok (.iand, 1) := by decide +kernel
theorem dX7_lengthOfDuel_14 : decode cX7_lengthOfDuel 14 = .ok (.invokestatic 115, 3) := by decide +kernel
theorem dX7_lengthOfDuel_17 : decode cX7_lengthOfDuel 17 = .ok (.ireturn, 1) := by decide +kernel
set_option maxRecDepth 4000 in
theorem kX7_lengthOfDuel (G : GT) {σ : St} : ∀ (r : Int32) (σo : St) , fX7_lengthOfDuel σ = some (r, σo) → MCt G 6 yX7_lengthOfDuel cX7_lengthOfDuel 1 (some .int) [.ref (gad G 0)] σ (some (.int r)) σo := by
  intro r σo hF
  refine met_i (by decide) (Nat.le_of_ble_eq_true rfl) (fun X cx hE => ?_)
  have cx : Cx G X RX7 cX7_lengthOfDuel 1 6 := cx
  unfold fX7_lengthOfDuel at hF
  show WW G X 1 σ [(0, .ref (gad G 0))] 0 []
  refine ww_aload_n cx dX7_lengthOfDuel_0 rfl 0 rfl ?_
  refine ww_V0_si kv_X7_166 rfl cx sh_0 ⟨Nat.le_of_ble_eq_true rfl, Nat.le_of_ble_eq_true rfl⟩ (Nat.le_of_ble_eq_true rfl) dX7_lengthOfDuel_1 (kX7_provedByAll G) hF (fun r1 σ2 hF => ?_)
  refine ww_aload_n cx dX7_lengthOfDuel_4 rfl 0 rfl ?_
  refine gf_X7_19 cx dX7_lengthOfDuel_5 ?_
  refine gf_X7_109 cx (isTab_3) dX7_lengthOfDuel_8 ?_
  refine ww_iconst cx dX7_lengthOfDuel_11 ic_m1 ?_
  refine ww_ixor cx dX7_lengthOfDuel_12 ?_
  refine ww_iand cx dX7_lengthOfDuel_13 ?_
  refine ww_S1_pi kv_X7_115 cx ⟨Nat.le_of_ble_eq_true rfl, Nat.le_of_ble_eq_true rfl⟩ (Nat.le_of_ble_eq_true rfl) dX7_lengthOfDuel_14 (kJ6_bitCount_0f7a4 G) hF (fun r3 hF => ?_)
  exact ww_ris hE dX7_lengthOfDuel_17 hF
theorem dX7_menuWorth_0 : decode cX7_menuWorth 0 = .ok (.aload_n 0, 1) := by decide +kernel
theorem dX7_menuWorth_1 : decode cX7_menuWorth 1 = .ok (.getfield 19, 3) := by decide +kernel
theorem dX7_menuWorth_4 : decode cX7_menuWorth 4 = .ok (.aload_n 0, 1) := by decide +kernel
theorem dX7_menuWorth_5 : decode cX7_menuWorth 5 = .ok (.invokevirtual 218, 3) := by decide +kernel
theorem dX7_menuWorth_8 : decode cX7_menuWorth 8 = .ok (.getfield 237, 3) := by decide +kernel
theorem dX7_menuWorth_11 : decode cX7_menuWorth 11 = .ok (.aload_n 0, 1) := by decide +kernel
theorem dX7_menuWorth_12 : decode cX7_menuWorth 12 = .ok (.iload_n 1, 1) := by decide +kernel
theorem dX7_menuWorth_13 : decode cX7_menuWorth 13 = .ok (.iload_n 2, 1) := by decide +kernel
theorem dX7_menuWorth_14 : decode cX7_menuWorth 14 = .ok (.invokevirtual 234, 3) := by decide +kernel
theorem dX7_menuWorth_17 : decode cX7_menuWorth 17 = .ok (.iaload, 1) := by decide +kernel
theorem dX7_menuWorth_18 : decode cX7_menuWorth 18 = .ok (.aload_n 0, 1) := by decide +kernel
theorem dX7_menuWorth_19 : decode cX7_menuWorth 19 = .ok (.getfield 19, 3) := by decide +kernel
theorem dX7_menuWorth_22 : decode cX7_menuWorth 22 = .ok (.getfield 109, 3) := by decide +kernel
theorem dX7_menuWorth_25 : decode cX7_menuWorth 25 = .ok (.iconst (-1), 1) := by decide +kernel
theorem dX7_menuWorth_26 : decode cX7_menuWorth 26 = .ok (.ixor, 1) := by decide +kernel
theorem dX7_menuWorth_27 : decode cX7_menuWorth 27 = .ok (.iand, 1) := by decide +kernel
theorem dX7_menuWorth_28 : decode cX7_menuWorth 28 = .ok (.invokevirtual 292, 3) := by decide +kernel
theorem dX7_menuWorth_31 : decode cX7_menuWorth 31 = .ok (.ireturn, 1) := by decide +kernel
set_option maxRecDepth 4000 in
theorem kX7_menuWorth (G : GT) {σ : St} {a1 : Int32} {a2 : Int32} : ∀ (r : Int32) (σo : St) , fX7_menuWorth σ a1 a2 = some (r, σo) → MCt G 6 yX7_menuWorth cX7_menuWorth 3 (some .int) [.ref (gad G 0), .int a1, .int a2] σ (some (.int r)) σo := by
  intro r σo hF
  refine met_i (by decide) (Nat.le_of_ble_eq_true rfl) (fun X cx hE => ?_)
  have cx : Cx G X RX7 cX7_menuWorth 3 6 := cx
  unfold fX7_menuWorth at hF
  show WW G X 3 σ [(0, .ref (gad G 0)), (1, .int a1), (2, .int a2)] 0 []
  refine ww_aload_n cx dX7_menuWorth_0 rfl 0 rfl ?_
  refine gf_X7_19 cx dX7_menuWorth_1 ?_
  refine ww_aload_n cx dX7_menuWorth_4 rfl 0 rfl ?_
  refine ww_V0_sr kv_X7_218 rfl cx sh_0 ⟨Nat.le_of_ble_eq_true rfl, Nat.le_of_ble_eq_true rfl⟩ (Nat.le_of_ble_eq_true rfl) dX7_menuWorth_5 (kX7_freshProofs G) hF (fun σ1 hF => ?_)
  refine gf_X7_237 cx (isShe_49) dX7_menuWorth_8 ?_
  refine ww_aload_n cx dX7_menuWorth_11 rfl 0 rfl ?_
  refine ww_iload_n cx dX7_menuWorth_12 rfl 1 rfl ?_
  refine ww_iload_n cx dX7_menuWorth_13 rfl 2 rfl ?_
  refine ww_V2_si kv_X7_234 rfl cx sh_0 ⟨Nat.le_of_ble_eq_true rfl, Nat.le_of_ble_eq_true rfl⟩ (Nat.le_of_ble_eq_true rfl) dX7_menuWorth_14 (kX7_menuSet G) hF (fun r2 σ3 hF => ?_)
  refine ww_iald (N := 4096) cx (ar_X5_0 isShe_49) dX7_menuWorth_17 hF (fun hF => ?_)
  refine ww_aload_n cx dX7_menuWorth_18 rfl 0 rfl ?_
  refine gf_X7_19 cx dX7_menuWorth_19 ?_
  refine gf_X7_109 cx (isTab_3) dX7_menuWorth_22 ?_
  refine ww_iconst cx dX7_menuWorth_25 ic_m1 ?_
  refine ww_ixor cx dX7_menuWorth_26 ?_
  refine ww_iand cx dX7_menuWorth_27 ?_
  refine ww_V1_pi kv_X7_292 rfl cx ((isTab_3).1) ⟨Nat.le_of_ble_eq_true rfl, Nat.le_of_ble_eq_true rfl⟩ (Nat.le_of_ble_eq_true rfl) dX7_menuWorth_28 (kX6_worthOf G (isTab_3)) hF (fun r4 hF => ?_)
  exact ww_ris hE dX7_menuWorth_31 hF
theorem dX7_needs_0 : decode cX7_needs 0 = .ok (.aload_n 0, 1) := by decide +kernel
theorem dX7_needs_1 : decode cX7_needs 1 = .ok (.getfield 19, 3) := by decide +kernel
theorem dX7_needs_4 : decode cX7_needs 4 = .ok (.iload_n 1, 1) := by decide +kernel
theorem dX7_needs_5 : decode cX7_needs 5 = .ok (.invokevirtual 101, 3) := by decide +kernel
theorem dX7_needs_8 : decode cX7_needs 8 = .ok (.ifCond .ne 6, 3) := by decide +kernel
theorem dX7_needs_11 : decode cX7_needs 11 = .ok (.bipush (-2), 2) := by decide +kernel
theorem dX7_needs_13 : decode cX7_needs 13 = .ok (.ireturn, 1) := by decide +kernel
theorem dX7_needs_14 : decode cX7_needs 14 = .ok (.aload_n 0, 1) := by decide +kernel
theorem dX7_needs_15 : decode cX7_needs 15 = .ok (.invokevirtual 166, 3) := by decide +kernel
theorem dX7_needs_18 : decode cX7_needs 18 = .ok (.iload_n 1, 1) := by decide +kernel
theorem dX7_needs_19 : decode cX7_needs 19 = .ok (.ishr, 1) := by decide +kernel
theorem dX7_needs_20 : decode cX7_needs 20 = .ok (.iconst 1, 1) := by decide +kernel
theorem dX7_needs_21 : decode cX7_needs 21 = .ok (.iand, 1) := by decide +kernel
theorem dX7_needs_22 : decode cX7_needs 22 = .ok (.ifCond .ne 5, 3) := by decide +kernel
theorem dX7_needs_25 : decode cX7_needs 25 = .ok (.iconst (-1), 1) := by decide +kernel
theorem dX7_needs_26 : decode cX7_needs 26 = .ok (.ireturn, 1) := by decide +kernel
theorem dX7_needs_27 : decode cX7_needs 27 = .ok (.iconst 0, 1) := by decide +kernel
theorem dX7_needs_28 : decode cX7_needs 28 = .ok (.istore_n 2, 1) := by decide +kernel
theorem dX7_needs_29 : decode cX7_needs 29 = .ok (.iconst 0, 1) := by decide +kernel
theorem dX7_needs_30 : decode cX7_needs 30 = .ok (.istore_n 3, 1) := by decide +kernel
theorem dX7_needs_31 : decode cX7_needs 31 = .ok (.iload_n 3, 1) := by decide +kernel
theorem dX7_needs_32 : decode cX7_needs 32 = .ok (.aload_n 0, 1) := by decide +kernel
theorem dX7_needs_33 : decode cX7_needs 33 = .ok (.getfield 19, 3) := by decide +kernel
theorem dX7_needs_36 : decode cX7_needs 36 = .ok (.getfield 202, 3) := by decide +kernel
theorem dX7_needs_39 : decode cX7_needs 39 = .ok (.if_icmp .ge 27, 3) := by decide +kernel
theorem dX7_needs_42 : decode cX7_needs 42 = .ok (.aload_n 0, 1) := by decide +kernel
theorem dX7_needs_43 : decode cX7_needs 43 = .ok (.iload_n 3, 1) := by decide +kernel
theorem dX7_needs_44 : decode cX7_needs 44 = .ok (.invokevirtual 228, 3) := by decide +kernel
theorem dX7_needs_47 : decode cX7_needs 47 = .ok (.iload_n 1, 1) := by decide +kernel
theorem dX7_needs_48 : decode cX7_needs 48 = .ok (.ishr, 1) := by decide +kernel
theorem dX7_needs_49 : decode cX7_needs 49 = .ok (.iconst 1, 1) := by decide +kernel
theorem dX7_needs_50 : decode cX7_needs 50 = .ok (.iand, 1) := by decide +kernel
theorem dX7_needs_51 : decode cX7_needs 51 = .ok (.ifCond .ne 9, 3) := by decide +kernel
theorem dX7_needs_54 : decode cX7_needs 54 = .ok (.iload_n 2, 1) := by decide +kernel
theorem dX7_needs_55 : decode cX7_needs 55 = .ok (.iconst 1, 1) := by decide +kernel
theorem dX7_needs_56 : decode cX7_needs 56 = .ok (.iload_n 3, 1) := by decide +kernel
theorem dX7_needs_57 : decode cX7_needs 57 = .ok (.ishl, 1) := by decide +kernel
theorem dX7_needs_58 : decode cX7_needs 58 = .ok (.ior, 1) := by decide +kernel
theorem dX7_needs_59 : decode cX7_needs 59 = .ok (.istore_n 2, 1) := by decide +kernel
theorem dX7_needs_60 : decode cX7_needs 60 = .ok (.iinc 3 1, 3) := by decide +kernel
theorem dX7_needs_63 : decode cX7_needs 63 = .ok (.goto (-32), 3) := by decide +kernel
theorem dX7_needs_66 : decode cX7_needs 66 = .ok (.iload_n 2, 1) := by decide +kernel
theorem dX7_needs_67 : decode cX7_needs 67 = .ok (.ireturn, 1) := by decide +kernel
set_option maxRecDepth 4000 in
theorem kX7_needs (G : GT) {σ : St} {a1 : Int32} : ∀ (r : Int32) (σo : St) , fX7_needs σ a1 = some (r, σo) → MCt G 6 yX7_needs cX7_needs 4 (some .int) [.ref (gad G 0), .int a1] σ (some (.int r)) σo := by
  intro r σo hF
  refine met_i (by decide) (Nat.le_of_ble_eq_true rfl) (fun X cx hE => ?_)
  have cx : Cx G X RX7 cX7_needs 4 6 := cx
  have hl31 : ∀ n : Nat, ∀ (σ : St) (x1 : Int32) (x2 : Int32) (x3 : Int32) , fX7_needs_l31 n σ x1 x2 x3 = some (r, σo) → WW G X 4 σ [(0, .ref (gad G 0)), (1, .int x1), (2, .int x2), (3, .int x3)] 31 [] := by
    intro n
    induction n with
    | zero =>
      intro σ x1 x2 x3 hF
      exact absurd hF (by intro z; cases z)
    | succ n ih =>
      intro σ x1 x2 x3 hF
      have hk31 := ih
      have hF : fX7_needs_B31 (fX7_needs_l31 n) σ x1 x2 x3 = some (r, σo) := hF
      unfold fX7_needs_B31 at hF
      refine ww_iload_n cx dX7_needs_31 rfl 3 rfl ?_
      refine ww_aload_n cx dX7_needs_32 rfl 0 rfl ?_
      refine gf_X7_19 cx dX7_needs_33 ?_
      refine gf_X7_202 cx (isTab_3) dX7_needs_36 ?_
      refine ww_icmp_ge cx dX7_needs_39 (tgt := 66) rfl hF (fun hF => ?_) (fun hF => ?_)
      · refine ww_iload_n cx dX7_needs_66 rfl 2 rfl ?_
        exact ww_ris hE dX7_needs_67 hF
      · refine ww_aload_n cx dX7_needs_42 rfl 0 rfl ?_
        refine ww_iload_n cx dX7_needs_43 rfl 3 rfl ?_
        refine ww_V1_si kv_X7_228 rfl cx sh_0 ⟨Nat.le_of_ble_eq_true rfl, Nat.le_of_ble_eq_true rfl⟩ (Nat.le_of_ble_eq_true rfl) dX7_needs_44 (kX7_provedWithout G) hF (fun r1 σ2 hF => ?_)
        refine ww_iload_n cx dX7_needs_47 rfl 1 rfl ?_
        refine ww_ishr cx dX7_needs_48 ?_
        refine ww_iconst cx dX7_needs_49 ic_1 ?_
        refine ww_iand cx dX7_needs_50 ?_
        refine ww_if_ne cx dX7_needs_51 (tgt := 60) rfl hF (fun hF => ?_) (fun hF => ?_)
        · refine ww_iinc (j := 3) (ks := [0, 1, 2, 3]) (lv' := fun v3 => [(3, .int v3), (0, .ref (gad G 0)), (1, .int x1), (2, .int x2)]) cx dX7_needs_60 (by decide) rfl ic_1 hF (fun _ => rfl) (fun v3 hF => ?_)
          refine ww_goto cx dX7_needs_63 (tgt := 31) rfl ?_
          exact ww_sub [1, 2, 3, 0] rfl (hk31 _ _ _ _ hF)
        · refine ww_iload_n cx dX7_needs_54 rfl 2 rfl ?_
          refine ww_iconst cx dX7_needs_55 ic_1 ?_
          refine ww_iload_n cx dX7_needs_56 rfl 3 rfl ?_
          refine ww_ishl cx dX7_needs_57 ?_
          refine ww_ior cx dX7_needs_58 ?_
          refine ww_istore_n (ks := [0, 1, 2, 3]) (lv' := fun v4 => [(2, .int v4), (0, .ref (gad G 0)), (1, .int x1), (3, .int x3)]) cx dX7_needs_59 rfl (by decide) hF (fun _ => rfl) (fun v4 hF => ?_)
          refine ww_iinc (j := 3) (ks := [0, 1, 2, 3]) (lv' := fun v5 => [(3, .int v5), (2, .int v4), (0, .ref (gad G 0)), (1, .int x1)]) cx dX7_needs_60 (by decide) rfl ic_1 hF (fun _ => rfl) (fun v5 hF => ?_)
          refine ww_goto cx dX7_needs_63 (tgt := 31) rfl ?_
          exact ww_sub [2, 3, 1, 0] rfl (hk31 _ _ _ _ hF)
  unfold fX7_needs at hF
  show WW G X 4 σ [(0, .ref (gad G 0)), (1, .int a1)] 0 []
  refine ww_aload_n cx dX7_needs_0 rfl 0 rfl ?_
  refine gf_X7_19 cx dX7_needs_1 ?_
  refine ww_iload_n cx dX7_needs_4 rfl 1 rfl ?_
  refine ww_V1_pi kv_X7_101 rfl cx ((isTab_3).1) ⟨Nat.le_of_ble_eq_true rfl, Nat.le_of_ble_eq_true rfl⟩ (Nat.le_of_ble_eq_true rfl) dX7_needs_5 (kX6_hasClaim G (isTab_3)) hF (fun r6 hF => ?_)
  refine ww_if_ne cx dX7_needs_8 (tgt := 14) rfl hF (fun hF => ?_) (fun hF => ?_)
  · refine ww_aload_n cx dX7_needs_14 rfl 0 rfl ?_
    refine ww_V0_si kv_X7_166 rfl cx sh_0 ⟨Nat.le_of_ble_eq_true rfl, Nat.le_of_ble_eq_true rfl⟩ (Nat.le_of_ble_eq_true rfl) dX7_needs_15 (kX7_provedByAll G) hF (fun r7 σ8 hF => ?_)
    refine ww_iload_n cx dX7_needs_18 rfl 1 rfl ?_
    refine ww_ishr cx dX7_needs_19 ?_
    refine ww_iconst cx dX7_needs_20 ic_1 ?_
    refine ww_iand cx dX7_needs_21 ?_
    refine ww_if_ne cx dX7_needs_22 (tgt := 27) rfl hF (fun hF => ?_) (fun hF => ?_)
    · refine ww_iconst cx dX7_needs_27 ic_0 ?_
      refine ww_istore_n (ks := [0, 1, 2]) (lv' := fun v9 => [(2, .int v9), (0, .ref (gad G 0)), (1, .int a1)]) cx dX7_needs_28 rfl (by decide) hF (fun _ => rfl) (fun v9 hF => ?_)
      refine ww_iconst cx dX7_needs_29 ic_0 ?_
      refine ww_istore_n (ks := [0, 1, 2, 3]) (lv' := fun v10 => [(3, .int v10), (2, .int v9), (0, .ref (gad G 0)), (1, .int a1)]) cx dX7_needs_30 rfl (by decide) hF (fun _ => rfl) (fun v10 hF => ?_)
      exact ww_sub [2, 3, 1, 0] rfl (hl31 FU _ _ _ _ hF)
    · refine ww_iconst cx dX7_needs_25 ic_m1 ?_
      exact ww_ris hE dX7_needs_26 hF
  · refine ww_bipush cx dX7_needs_11 bc_m2 ?_
    exact ww_ris hE dX7_needs_13 hF
theorem dX7_proof_0 : decode cX7_proof 0 = .ok (.aload_n 0, 1) := by decide +kernel
theorem dX7_proof_1 : decode cX7_proof 1 = .ok (.getfield 19, 3) := by decide +kernel
theorem dX7_proof_4 : decode cX7_proof 4 = .ok (.iload_n 1, 1) := by decide +kernel
theorem dX7_proof_5 : decode cX7_proof 5 = .ok (.invokevirtual 101, 3) := by decide +kernel
theorem dX7_proof_8 : decode cX7_proof 8 = .ok (.ifCond .eq 11, 3) := by decide +kernel
theorem dX7_proof_11 : decode cX7_proof 11 = .ok (.aload_n 0, 1) := by decide +kernel
theorem dX7_proof_12 : decode cX7_proof 12 = .ok (.iload_n 1, 1) := by decide +kernel
theorem dX7_proof_13 : decode cX7_proof 13 = .ok (.invokevirtual 208, 3) := by decide +kernel
theorem dX7_proof_16 : decode cX7_proof 16 = .ok (.goto 5, 3) := by decide +kernel
theorem dX7_proof_19 : decode cX7_proof 19 = .ok (.bipush (-2), 2) := by decide +kernel
theorem dX7_proof_21 : decode cX7_proof 21 = .ok (.ireturn, 1) := by decide +kernel
set_option maxRecDepth 4000 in
theorem kX7_proof (G : GT) {σ : St} {a1 : Int32} : ∀ (r : Int32) (σo : St) , fX7_proof σ a1 = some (r, σo) → MCt G 6 yX7_proof cX7_proof 2 (some .int) [.ref (gad G 0), .int a1] σ (some (.int r)) σo := by
  intro r σo hF
  refine met_i (by decide) (Nat.le_of_ble_eq_true rfl) (fun X cx hE => ?_)
  have cx : Cx G X RX7 cX7_proof 2 6 := cx
  unfold fX7_proof at hF
  show WW G X 2 σ [(0, .ref (gad G 0)), (1, .int a1)] 0 []
  refine ww_aload_n cx dX7_proof_0 rfl 0 rfl ?_
  refine gf_X7_19 cx dX7_proof_1 ?_
  refine ww_iload_n cx dX7_proof_4 rfl 1 rfl ?_
  refine ww_V1_pi kv_X7_101 rfl cx ((isTab_3).1) ⟨Nat.le_of_ble_eq_true rfl, Nat.le_of_ble_eq_true rfl⟩ (Nat.le_of_ble_eq_true rfl) dX7_proof_5 (kX6_hasClaim G (isTab_3)) hF (fun r1 hF => ?_)
  refine ww_if_eq cx dX7_proof_8 (tgt := 19) rfl hF (fun hF => ?_) (fun hF => ?_)
  · refine ww_bipush cx dX7_proof_19 bc_m2 ?_
    exact ww_ris hE dX7_proof_21 hF
  · refine ww_aload_n cx dX7_proof_11 rfl 0 rfl ?_
    refine ww_iload_n cx dX7_proof_12 rfl 1 rfl ?_
    refine ww_V1_si kv_X7_208 rfl cx sh_0 ⟨Nat.le_of_ble_eq_true rfl, Nat.le_of_ble_eq_true rfl⟩ (Nat.le_of_ble_eq_true rfl) dX7_proof_13 (kX7_shortestSet G) hF (fun r2 σ3 hF => ?_)
    refine ww_goto cx dX7_proof_16 (tgt := 21) rfl ?_
    exact ww_ris hE dX7_proof_21 hF
theorem dX7_proved_0 : decode cX7_proved 0 = .ok (.aload_n 0, 1) := by decide +kernel
theorem dX7_proved_1 : decode cX7_proved 1 = .ok (.getfield 19, 3) := by decide +kernel
theorem dX7_proved_4 : decode cX7_proved 4 = .ok (.invokevirtual 149, 3) := by decide +kernel
theorem dX7_proved_7 : decode cX7_proved 7 = .ok (.ifCond .eq 10, 3) := by decide +kernel
theorem dX7_proved_10 : decode cX7_proved 10 = .ok (.aload_n 0, 1) := by decide +kernel
theorem dX7_proved_11 : decode cX7_proved 11 = .ok (.invokevirtual 166, 3) := by decide +kernel
theorem dX7_proved_14 : decode cX7_proved 14 = .ok (.goto 5, 3) := by decide +kernel
theorem dX7_proved_17 : decode cX7_proved 17 = .ok (.bipush (-2), 2) := by decide +kernel
theorem dX7_proved_19 : decode cX7_proved 19 = .ok (.ireturn, 1) := by decide +kernel
set_option maxRecDepth 4000 in
theorem kX7_proved (G : GT) {σ : St} : ∀ (r : Int32) (σo : St) , fX7_proved σ = some (r, σo) → MCt G 6 yX7_proved cX7_proved 1 (some .int) [.ref (gad G 0)] σ (some (.int r)) σo := by
  intro r σo hF
  refine met_i (by decide) (Nat.le_of_ble_eq_true rfl) (fun X cx hE => ?_)
  have cx : Cx G X RX7 cX7_proved 1 6 := cx
  unfold fX7_proved at hF
  show WW G X 1 σ [(0, .ref (gad G 0))] 0 []
  refine ww_aload_n cx dX7_proved_0 rfl 0 rfl ?_
  refine gf_X7_19 cx dX7_proved_1 ?_
  refine ww_V0_pi kv_X7_149 rfl cx ((isTab_3).1) ⟨Nat.le_of_ble_eq_true rfl, Nat.le_of_ble_eq_true rfl⟩ (Nat.le_of_ble_eq_true rfl) dX7_proved_4 (kX6_isTold G (isTab_3)) hF (fun r1 hF => ?_)
  refine ww_if_eq cx dX7_proved_7 (tgt := 17) rfl hF (fun hF => ?_) (fun hF => ?_)
  · refine ww_bipush cx dX7_proved_17 bc_m2 ?_
    exact ww_ris hE dX7_proved_19 hF
  · refine ww_aload_n cx dX7_proved_10 rfl 0 rfl ?_
    refine ww_V0_si kv_X7_166 rfl cx sh_0 ⟨Nat.le_of_ble_eq_true rfl, Nat.le_of_ble_eq_true rfl⟩ (Nat.le_of_ble_eq_true rfl) dX7_proved_11 (kX7_provedByAll G) hF (fun r2 σ3 hF => ?_)
    refine ww_goto cx dX7_proved_14 (tgt := 19) rfl ?_
    exact ww_ris hE dX7_proved_19 hF
theorem dX7_rests_0 : decode cX7_rests 0 = .ok (.aload_n 0, 1) := by decide +kernel
theorem dX7_rests_1 : decode cX7_rests 1 = .ok (.getfield 19, 3) := by decide +kernel
theorem dX7_rests_4 : decode cX7_rests 4 = .ok (.iload_n 1, 1) := by decide +kernel
theorem dX7_rests_5 : decode cX7_rests 5 = .ok (.invokevirtual 121, 3) := by decide +kernel
theorem dX7_rests_8 : decode cX7_rests 8 = .ok (.ifCond .eq 18, 3) := by decide +kernel
theorem dX7_rests_11 : decode cX7_rests 11 = .ok (.aload_n 0, 1) := by decide +kernel
theorem dX7_rests_12 : decode cX7_rests 12 = .ok (.invokevirtual 166, 3) := by decide +kernel
theorem dX7_rests_15 : decode cX7_rests 15 = .ok (.aload_n 0, 1) := by decide +kernel
theorem dX7_rests_16 : decode cX7_rests 16 = .ok (.iload_n 1, 1) := by decide +kernel
theorem dX7_rests_17 : decode cX7_rests 17 = .ok (.invokevirtual 228, 3) := by decide +kernel
theorem dX7_rests_20 : decode cX7_rests 20 = .ok (.iconst (-1), 1) := by decide +kernel
theorem dX7_rests_21 : decode cX7_rests 21 = .ok (.ixor, 1) := by decide +kernel
theorem dX7_rests_22 : decode cX7_rests 22 = .ok (.iand, 1) := by decide +kernel
theorem dX7_rests_23 : decode cX7_rests 23 = .ok (.goto 5, 3) := by decide +kernel
theorem dX7_rests_26 : decode cX7_rests 26 = .ok (.bipush (-2), 2) := by decide +kernel
theorem dX7_rests_28 : decode cX7_rests 28 = .ok (.ireturn, 1) := by decide +kernel
set_option maxRecDepth 4000 in
theorem kX7_rests (G : GT) {σ : St} {a1 : Int32} : ∀ (r : Int32) (σo : St) , fX7_rests σ a1 = some (r, σo) → MCt G 6 yX7_rests cX7_rests 2 (some .int) [.ref (gad G 0), .int a1] σ (some (.int r)) σo := by
  intro r σo hF
  refine met_i (by decide) (Nat.le_of_ble_eq_true rfl) (fun X cx hE => ?_)
  have cx : Cx G X RX7 cX7_rests 2 6 := cx
  unfold fX7_rests at hF
  show WW G X 2 σ [(0, .ref (gad G 0)), (1, .int a1)] 0 []
  refine ww_aload_n cx dX7_rests_0 rfl 0 rfl ?_
  refine gf_X7_19 cx dX7_rests_1 ?_
  refine ww_iload_n cx dX7_rests_4 rfl 1 rfl ?_
  refine ww_V1_pi kv_X7_121 rfl cx ((isTab_3).1) ⟨Nat.le_of_ble_eq_true rfl, Nat.le_of_ble_eq_true rfl⟩ (Nat.le_of_ble_eq_true rfl) dX7_rests_5 (kX6_hasStep G (isTab_3)) hF (fun r1 hF => ?_)
  refine ww_if_eq cx dX7_rests_8 (tgt := 26) rfl hF (fun hF => ?_) (fun hF => ?_)
  · refine ww_bipush cx dX7_rests_26 bc_m2 ?_
    exact ww_ris hE dX7_rests_28 hF
  · refine ww_aload_n cx dX7_rests_11 rfl 0 rfl ?_
    refine ww_V0_si kv_X7_166 rfl cx sh_0 ⟨Nat.le_of_ble_eq_true rfl, Nat.le_of_ble_eq_true rfl⟩ (Nat.le_of_ble_eq_true rfl) dX7_rests_12 (kX7_provedByAll G) hF (fun r2 σ3 hF => ?_)
    refine ww_aload_n cx dX7_rests_15 rfl 0 rfl ?_
    refine ww_iload_n cx dX7_rests_16 rfl 1 rfl ?_
    refine ww_V1_si kv_X7_228 rfl cx sh_0 ⟨Nat.le_of_ble_eq_true rfl, Nat.le_of_ble_eq_true rfl⟩ (Nat.le_of_ble_eq_true rfl) dX7_rests_17 (kX7_provedWithout G) hF (fun r4 σ5 hF => ?_)
    refine ww_iconst cx dX7_rests_20 ic_m1 ?_
    refine ww_ixor cx dX7_rests_21 ?_
    refine ww_iand cx dX7_rests_22 ?_
    refine ww_goto cx dX7_rests_23 (tgt := 28) rfl ?_
    exact ww_ris hE dX7_rests_28 hF
theorem dX7_shortest_0 : decode cX7_shortest 0 = .ok (.aload_n 0, 1) := by decide +kernel
theorem dX7_shortest_1 : decode cX7_shortest 1 = .ok (.getfield 19, 3) := by decide +kernel
theorem dX7_shortest_4 : decode cX7_shortest 4 = .ok (.iload_n 1, 1) := by decide +kernel
theorem dX7_shortest_5 : decode cX7_shortest 5 = .ok (.invokevirtual 101, 3) := by decide +kernel
theorem dX7_shortest_8 : decode cX7_shortest 8 = .ok (.ifCond .ne 6, 3) := by decide +kernel
theorem dX7_shortest_11 : decode cX7_shortest 11 = .ok (.bipush (-2), 2) := by decide +kernel
theorem dX7_shortest_13 : decode cX7_shortest 13 = .ok (.ireturn, 1) := by decide +kernel
theorem dX7_shortest_14 : decode cX7_shortest 14 = .ok (.aload_n 0, 1) := by decide +kernel
theorem dX7_shortest_15 : decode cX7_shortest 15 = .ok (.iload_n 1, 1) := by decide +kernel
theorem dX7_shortest_16 : decode cX7_shortest 16 = .ok (.invokevirtual 208, 3) := by decide +kernel
theorem dX7_shortest_19 : decode cX7_shortest 19 = .ok (.invokestatic 211, 3) := by decide +kernel
theorem dX7_shortest_22 : decode cX7_shortest 22 = .ok (.ireturn, 1) := by decide +kernel
set_option maxRecDepth 4000 in
theorem kX7_shortest (G : GT) {σ : St} {a1 : Int32} : ∀ (r : Int32) (σo : St) , fX7_shortest σ a1 = some (r, σo) → MCt G 6 yX7_shortest cX7_shortest 2 (some .int) [.ref (gad G 0), .int a1] σ (some (.int r)) σo := by
  intro r σo hF
  refine met_i (by decide) (Nat.le_of_ble_eq_true rfl) (fun X cx hE => ?_)
  have cx : Cx G X RX7 cX7_shortest 2 6 := cx
  unfold fX7_shortest at hF
  show WW G X 2 σ [(0, .ref (gad G 0)), (1, .int a1)] 0 []
  refine ww_aload_n cx dX7_shortest_0 rfl 0 rfl ?_
  refine gf_X7_19 cx dX7_shortest_1 ?_
  refine ww_iload_n cx dX7_shortest_4 rfl 1 rfl ?_
  refine ww_V1_pi kv_X7_101 rfl cx ((isTab_3).1) ⟨Nat.le_of_ble_eq_true rfl, Nat.le_of_ble_eq_true rfl⟩ (Nat.le_of_ble_eq_true rfl) dX7_shortest_5 (kX6_hasClaim G (isTab_3)) hF (fun r1 hF => ?_)
  refine ww_if_ne cx dX7_shortest_8 (tgt := 14) rfl hF (fun hF => ?_) (fun hF => ?_)
  · refine ww_aload_n cx dX7_shortest_14 rfl 0 rfl ?_
    refine ww_iload_n cx dX7_shortest_15 rfl 1 rfl ?_
    refine ww_V1_si kv_X7_208 rfl cx sh_0 ⟨Nat.le_of_ble_eq_true rfl, Nat.le_of_ble_eq_true rfl⟩ (Nat.le_of_ble_eq_true rfl) dX7_shortest_16 (kX7_shortestSet G) hF (fun r2 σ3 hF => ?_)
    refine ww_S1_pi kv_X7_211 cx ⟨Nat.le_of_ble_eq_true rfl, Nat.le_of_ble_eq_true rfl⟩ (Nat.le_of_ble_eq_true rfl) dX7_shortest_19 (kX7_sizeOrNone G) hF (fun r4 hF => ?_)
    exact ww_ris hE dX7_shortest_22 hF
  · refine ww_bipush cx dX7_shortest_11 bc_m2 ?_
    exact ww_ris hE dX7_shortest_13 hF
theorem dX7_together_0 : decode cX7_together 0 = .ok (.aload_n 0, 1) := by decide +kernel
theorem dX7_together_1 : decode cX7_together 1 = .ok (.getfield 19, 3) := by decide +kernel
theorem dX7_together_4 : decode cX7_together 4 = .ok (.iload_n 1, 1) := by decide +kernel
theorem dX7_together_5 : decode cX7_together 5 = .ok (.invokevirtual 249, 3) := by decide +kernel
theorem dX7_together_8 : decode cX7_together 8 = .ok (.ifCond .eq 14, 3) := by decide +kernel
theorem dX7_together_11 : decode cX7_together 11 = .ok (.aload_n 0, 1) := by decide +kernel
theorem dX7_together_12 : decode cX7_together 12 = .ok (.getfield 19, 3) := by decide +kernel
theorem dX7_together_15 : decode cX7_together 15 = .ok (.iload_n 2, 1) := by decide +kernel
theorem dX7_together_16 : decode cX7_together 16 = .ok (.invokevirtual 101, 3) := by decide +kernel
theorem dX7_together_19 : decode cX7_together 19 = .ok (.ifCond .ne 6, 3) := by decide +kernel
theorem dX7_together_22 : decode cX7_together 22 = .ok (.bipush (-2), 2) := by decide +kernel
theorem dX7_together_24 : decode cX7_together 24 = .ok (.ireturn, 1) := by decide +kernel
theorem dX7_together_25 : decode cX7_together 25 = .ok (.aload_n 0, 1) := by decide +kernel
theorem dX7_together_26 : decode cX7_together 26 = .ok (.iload_n 1, 1) := by decide +kernel
theorem dX7_together_27 : decode cX7_together 27 = .ok (.iload_n 2, 1) := by decide +kernel
theorem dX7_together_28 : decode cX7_together 28 = .ok (.invokevirtual 264, 3) := by decide +kernel
theorem dX7_together_31 : decode cX7_together 31 = .ok (.invokestatic 133, 3) := by decide +kernel
theorem dX7_together_34 : decode cX7_together 34 = .ok (.ireturn, 1) := by decide +kernel
set_option maxRecDepth 4000 in
theorem kX7_together (G : GT) {σ : St} {a1 : Int32} {a2 : Int32} : ∀ (r : Int32) (σo : St) , fX7_together σ a1 a2 = some (r, σo) → MCt G 6 yX7_together cX7_together 3 (some .int) [.ref (gad G 0), .int a1, .int a2] σ (some (.int r)) σo := by
  intro r σo hF
  refine met_i (by decide) (Nat.le_of_ble_eq_true rfl) (fun X cx hE => ?_)
  have cx : Cx G X RX7 cX7_together 3 6 := cx
  unfold fX7_together at hF
  show WW G X 3 σ [(0, .ref (gad G 0)), (1, .int a1), (2, .int a2)] 0 []
  refine ww_aload_n cx dX7_together_0 rfl 0 rfl ?_
  refine gf_X7_19 cx dX7_together_1 ?_
  refine ww_iload_n cx dX7_together_4 rfl 1 rfl ?_
  refine ww_V1_pi kv_X7_249 rfl cx ((isTab_3).1) ⟨Nat.le_of_ble_eq_true rfl, Nat.le_of_ble_eq_true rfl⟩ (Nat.le_of_ble_eq_true rfl) dX7_together_5 (kX6_isGuestSet G (isTab_3)) hF (fun r1 hF => ?_)
  refine ww_if_eq cx dX7_together_8 (tgt := 22) rfl hF (fun hF => ?_) (fun hF => ?_)
  · refine ww_bipush cx dX7_together_22 bc_m2 ?_
    exact ww_ris hE dX7_together_24 hF
  · refine ww_aload_n cx dX7_together_11 rfl 0 rfl ?_
    refine gf_X7_19 cx dX7_together_12 ?_
    refine ww_iload_n cx dX7_together_15 rfl 2 rfl ?_
    refine ww_V1_pi kv_X7_101 rfl cx ((isTab_3).1) ⟨Nat.le_of_ble_eq_true rfl, Nat.le_of_ble_eq_true rfl⟩ (Nat.le_of_ble_eq_true rfl) dX7_together_16 (kX6_hasClaim G (isTab_3)) hF (fun r2 hF => ?_)
    refine ww_if_ne cx dX7_together_19 (tgt := 25) rfl hF (fun hF => ?_) (fun hF => ?_)
    · refine ww_aload_n cx dX7_together_25 rfl 0 rfl ?_
      refine ww_iload_n cx dX7_together_26 rfl 1 rfl ?_
      refine ww_iload_n cx dX7_together_27 rfl 2 rfl ?_
      refine ww_V2_si kv_X7_264 rfl cx sh_0 ⟨Nat.le_of_ble_eq_true rfl, Nat.le_of_ble_eq_true rfl⟩ (Nat.le_of_ble_eq_true rfl) dX7_together_28 (kX7_doesTeamProve G) hF (fun r3 σ4 hF => ?_)
      refine ww_S1_pi kv_X7_133 cx ⟨Nat.le_of_ble_eq_true rfl, Nat.le_of_ble_eq_true rfl⟩ (Nat.le_of_ble_eq_true rfl) dX7_together_31 (kX7_bit G) hF (fun r5 hF => ?_)
      exact ww_ris hE dX7_together_34 hF
    · refine ww_bipush cx dX7_together_22 bc_m2 ?_
      exact ww_ris hE dX7_together_24 hF
theorem dX7_who_0 : decode cX7_who 0 = .ok (.aload_n 0, 1) := by decide +kernel
theorem dX7_who_1 : decode cX7_who 1 = .ok (.getfield 19, 3) := by decide +kernel
theorem dX7_who_4 : decode cX7_who 4 = .ok (.iload_n 1, 1) := by decide +kernel
theorem dX7_who_5 : decode cX7_who 5 = .ok (.invokevirtual 101, 3) := by decide +kernel
theorem dX7_who_8 : decode cX7_who 8 = .ok (.ifCond .eq 13, 3) := by decide +kernel
theorem dX7_who_11 : decode cX7_who 11 = .ok (.aload_n 0, 1) := by decide +kernel
theorem dX7_who_12 : decode cX7_who 12 = .ok (.iconst 1, 1) := by decide +kernel
theorem dX7_who_13 : decode cX7_who 13 = .ok (.iload_n 1, 1) := by decide +kernel
theorem dX7_who_14 : decode cX7_who 14 = .ok (.ishl, 1) := by decide +kernel
theorem dX7_who_15 : decode cX7_who 15 = .ok (.invokevirtual 246, 3) := by decide +kernel
theorem dX7_who_18 : decode cX7_who 18 = .ok (.goto 5, 3) := by decide +kernel
theorem dX7_who_21 : decode cX7_who 21 = .ok (.bipush (-2), 2) := by decide +kernel
theorem dX7_who_23 : decode cX7_who 23 = .ok (.ireturn, 1) := by decide +kernel
set_option maxRecDepth 4000 in
theorem kX7_who (G : GT) {σ : St} {a1 : Int32} : ∀ (r : Int32) (σo : St) , fX7_who σ a1 = some (r, σo) → MCt G 6 yX7_who cX7_who 2 (some .int) [.ref (gad G 0), .int a1] σ (some (.int r)) σo := by
  intro r σo hF
  refine met_i (by decide) (Nat.le_of_ble_eq_true rfl) (fun X cx hE => ?_)
  have cx : Cx G X RX7 cX7_who 2 6 := cx
  unfold fX7_who at hF
  show WW G X 2 σ [(0, .ref (gad G 0)), (1, .int a1)] 0 []
  refine ww_aload_n cx dX7_who_0 rfl 0 rfl ?_
  refine gf_X7_19 cx dX7_who_1 ?_
  refine ww_iload_n cx dX7_who_4 rfl 1 rfl ?_
  refine ww_V1_pi kv_X7_101 rfl cx ((isTab_3).1) ⟨Nat.le_of_ble_eq_true rfl, Nat.le_of_ble_eq_true rfl⟩ (Nat.le_of_ble_eq_true rfl) dX7_who_5 (kX6_hasClaim G (isTab_3)) hF (fun r1 hF => ?_)
  refine ww_if_eq cx dX7_who_8 (tgt := 21) rfl hF (fun hF => ?_) (fun hF => ?_)
  · refine ww_bipush cx dX7_who_21 bc_m2 ?_
    exact ww_ris hE dX7_who_23 hF
  · refine ww_aload_n cx dX7_who_11 rfl 0 rfl ?_
    refine ww_iconst cx dX7_who_12 ic_1 ?_
    refine ww_iload_n cx dX7_who_13 rfl 1 rfl ?_
    refine ww_ishl cx dX7_who_14 ?_
    refine ww_V1_si kv_X7_246 rfl cx sh_0 ⟨Nat.le_of_ble_eq_true rfl, Nat.le_of_ble_eq_true rfl⟩ (Nat.le_of_ble_eq_true rfl) dX7_who_15 (kX7_guestsProving G) hF (fun r2 σ3 hF => ?_)
    refine ww_goto cx dX7_who_18 (tgt := 23) rfl ?_
    exact ww_ris hE dX7_who_23 hF
theorem dX7_wrong_0 : decode cX7_wrong 0 = .ok (.aload_n 0, 1) := by decide +kernel
theorem dX7_wrong_1 : decode cX7_wrong 1 = .ok (.getfield 19, 3) := by decide +kernel
theorem dX7_wrong_4 : decode cX7_wrong 4 = .ok (.invokevirtual 149, 3) := by decide +kernel
theorem dX7_wrong_7 : decode cX7_wrong 7 = .ok (.ifCond .eq 20, 3) := by decide +kernel
theorem dX7_wrong_10 : decode cX7_wrong 10 = .ok (.aload_n 0, 1) := by decide +kernel
theorem dX7_wrong_11 : decode cX7_wrong 11 = .ok (.invokevirtual 166, 3) := by decide +kernel
theorem dX7_wrong_14 : decode cX7_wrong 14 = .ok (.aload_n 0, 1) := by decide +kernel
theorem dX7_wrong_15 : decode cX7_wrong 15 = .ok (.getfield 19, 3) := by decide +kernel
theorem dX7_wrong_18 : decode cX7_wrong 18 = .ok (.invokevirtual 170, 3) := by decide +kernel
theorem dX7_wrong_21 : decode cX7_wrong 21 = .ok (.iconst (-1), 1) := by decide +kernel
theorem dX7_wrong_22 : decode cX7_wrong 22 = .ok (.ixor, 1) := by decide +kernel
theorem dX7_wrong_23 : decode cX7_wrong 23 = .ok (.iand, 1) := by decide +kernel
theorem dX7_wrong_24 : decode cX7_wrong 24 = .ok (.goto 5, 3) := by decide +kernel
theorem dX7_wrong_27 : decode cX7_wrong 27 = .ok (.bipush (-2), 2) := by decide +kernel
theorem dX7_wrong_29 : decode cX7_wrong 29 = .ok (.ireturn, 1) := by decide +kernel
set_option maxRecDepth 4000 in
theorem kX7_wrong (G : GT) {σ : St} : ∀ (r : Int32) (σo : St) , fX7_wrong σ = some (r, σo) → MCt G 6 yX7_wrong cX7_wrong 1 (some .int) [.ref (gad G 0)] σ (some (.int r)) σo := by
  intro r σo hF
  refine met_i (by decide) (Nat.le_of_ble_eq_true rfl) (fun X cx hE => ?_)
  have cx : Cx G X RX7 cX7_wrong 1 6 := cx
  unfold fX7_wrong at hF
  show WW G X 1 σ [(0, .ref (gad G 0))] 0 []
  refine ww_aload_n cx dX7_wrong_0 rfl 0 rfl ?_
  refine gf_X7_19 cx dX7_wrong_1 ?_
  refine ww_V0_pi kv_X7_149 rfl cx ((isTab_3).1) ⟨Nat.le_of_ble_eq_true rfl, Nat.le_of_ble_eq_true rfl⟩ (Nat.le_of_ble_eq_true rfl) dX7_wrong_4 (kX6_isTold G (isTab_3)) hF (fun r1 hF => ?_)
  refine ww_if_eq cx dX7_wrong_7 (tgt := 27) rfl hF (fun hF => ?_) (fun hF => ?_)
  · refine ww_bipush cx dX7_wrong_27 bc_m2 ?_
    exact ww_ris hE dX7_wrong_29 hF
  · refine ww_aload_n cx dX7_wrong_10 rfl 0 rfl ?_
    refine ww_V0_si kv_X7_166 rfl cx sh_0 ⟨Nat.le_of_ble_eq_true rfl, Nat.le_of_ble_eq_true rfl⟩ (Nat.le_of_ble_eq_true rfl) dX7_wrong_11 (kX7_provedByAll G) hF (fun r2 σ3 hF => ?_)
    refine ww_aload_n cx dX7_wrong_14 rfl 0 rfl ?_
    refine gf_X7_19 cx dX7_wrong_15 ?_
    refine ww_V0_pi kv_X7_170 rfl cx ((isTab_3).1) ⟨Nat.le_of_ble_eq_true rfl, Nat.le_of_ble_eq_true rfl⟩ (Nat.le_of_ble_eq_true rfl) dX7_wrong_18 (kX6_following G (isTab_3)) hF (fun r4 hF => ?_)
    refine ww_iconst cx dX7_wrong_21 ic_m1 ?_
    refine ww_ixor cx dX7_wrong_22 ?_
    refine ww_iand cx dX7_wrong_23 ?_
    refine ww_goto cx dX7_wrong_24 (tgt := 29) rfl ?_
    exact ww_ris hE dX7_wrong_29 hF
theorem dX2_operatorHere_0 : decode cX2_operatorHere 0 = .ok (.aload_n 0, 1) := by decide +kernel
theorem dX2_operatorHere_1 : decode cX2_operatorHere 1 = .ok (.ldc 183, 2) := by decide +kernel
theorem dX2_operatorHere_3 : decode cX2_operatorHere 3 = .ok (.invokevirtual 55, 3) := by decide +kernel
theorem dX2_operatorHere_6 : decode cX2_operatorHere 6 = .ok (.ifCond .eq 5, 3) := by decide +kernel
theorem dX2_operatorHere_9 : decode cX2_operatorHere 9 = .ok (.iconst 1, 1) := by decide +kernel
theorem dX2_operatorHere_10 : decode cX2_operatorHere 10 = .ok (.ireturn, 1) := by decide +kernel
theorem dX2_operatorHere_11 : decode cX2_operatorHere 11 = .ok (.aload_n 0, 1) := by decide +kernel
theorem dX2_operatorHere_12 : decode cX2_operatorHere 12 = .ok (.ldc 185, 2) := by decide +kernel
theorem dX2_operatorHere_14 : decode cX2_operatorHere 14 = .ok (.invokevirtual 55, 3) := by decide +kernel
theorem dX2_operatorHere_17 : decode cX2_operatorHere 17 = .ok (.ifCond .eq 5, 3) := by decide +kernel
theorem dX2_operatorHere_20 : decode cX2_operatorHere 20 = .ok (.iconst 2, 1) := by decide +kernel
theorem dX2_operatorHere_21 : decode cX2_operatorHere 21 = .ok (.ireturn, 1) := by decide +kernel
theorem dX2_operatorHere_22 : decode cX2_operatorHere 22 = .ok (.aload_n 0, 1) := by decide +kernel
theorem dX2_operatorHere_23 : decode cX2_operatorHere 23 = .ok (.ldc 187, 2) := by decide +kernel
theorem dX2_operatorHere_25 : decode cX2_operatorHere 25 = .ok (.invokevirtual 55, 3) := by decide +kernel
theorem dX2_operatorHere_28 : decode cX2_operatorHere 28 = .ok (.ifCond .eq 5, 3) := by decide +kernel
theorem dX2_operatorHere_31 : decode cX2_operatorHere 31 = .ok (.iconst 3, 1) := by decide +kernel
theorem dX2_operatorHere_32 : decode cX2_operatorHere 32 = .ok (.ireturn, 1) := by decide +kernel
theorem dX2_operatorHere_33 : decode cX2_operatorHere 33 = .ok (.aload_n 0, 1) := by decide +kernel
theorem dX2_operatorHere_34 : decode cX2_operatorHere 34 = .ok (.ldc 189, 2) := by decide +kernel
theorem dX2_operatorHere_36 : decode cX2_operatorHere 36 = .ok (.invokevirtual 55, 3) := by decide +kernel
theorem dX2_operatorHere_39 : decode cX2_operatorHere 39 = .ok (.ifCond .eq 7, 3) := by decide +kernel
theorem dX2_operatorHere_42 : decode cX2_operatorHere 42 = .ok (.iconst 4, 1) := by decide +kernel
theorem dX2_operatorHere_43 : decode cX2_operatorHere 43 = .ok (.goto 4, 3) := by decide +kernel
theorem dX2_operatorHere_46 : decode cX2_operatorHere 46 = .ok (.iconst 0, 1) := by decide +kernel
theorem dX2_operatorHere_47 : decode cX2_operatorHere 47 = .ok (.ireturn, 1) := by decide +kernel
set_option maxRecDepth 4000 in
theorem kX2_operatorHere (G : GT) {σ : St} : ∀ (r : Int32) , fX2_operatorHere σ = some r → MCt G 6 yX2_operatorHere cX2_operatorHere 1 (some .int) [.ref (gad G 1)] σ (some (.int r)) σ := by
  intro r hF
  refine met_i (by decide) (Nat.le_of_ble_eq_true rfl) (fun X cx hE => ?_)
  have cx : Cx G X RX2 cX2_operatorHere 1 6 := cx
  unfold fX2_operatorHere at hF
  show WW G X 1 σ [(0, .ref (gad G 1))] 0 []
  refine ww_aload_n cx dX2_operatorHere_0 rfl 0 rfl ?_
  refine ww_ldcS (w := 8) (tx := "and") cx (by decide +kernel) dX2_operatorHere_1 ?_
  refine ww_V1_pi kv_X2_55 rfl cx sh_1 ⟨Nat.le_of_ble_eq_true rfl, Nat.le_of_ble_eq_true rfl⟩ (Nat.le_of_ble_eq_true rfl) dX2_operatorHere_3 (kX2_isWord G (by decide)) hF (fun r1 hF => ?_)
  refine ww_if_eq cx dX2_operatorHere_6 (tgt := 11) rfl hF (fun hF => ?_) (fun hF => ?_)
  · refine ww_aload_n cx dX2_operatorHere_11 rfl 0 rfl ?_
    refine ww_ldcS (w := 9) (tx := "or") cx (by decide +kernel) dX2_operatorHere_12 ?_
    refine ww_V1_pi kv_X2_55 rfl cx sh_1 ⟨Nat.le_of_ble_eq_true rfl, Nat.le_of_ble_eq_true rfl⟩ (Nat.le_of_ble_eq_true rfl) dX2_operatorHere_14 (kX2_isWord G (by decide)) hF (fun r2 hF => ?_)
    refine ww_if_eq cx dX2_operatorHere_17 (tgt := 22) rfl hF (fun hF => ?_) (fun hF => ?_)
    · refine ww_aload_n cx dX2_operatorHere_22 rfl 0 rfl ?_
      refine ww_ldcS (w := 10) (tx := "if") cx (by decide +kernel) dX2_operatorHere_23 ?_
      refine ww_V1_pi kv_X2_55 rfl cx sh_1 ⟨Nat.le_of_ble_eq_true rfl, Nat.le_of_ble_eq_true rfl⟩ (Nat.le_of_ble_eq_true rfl) dX2_operatorHere_25 (kX2_isWord G (by decide)) hF (fun r3 hF => ?_)
      refine ww_if_eq cx dX2_operatorHere_28 (tgt := 33) rfl hF (fun hF => ?_) (fun hF => ?_)
      · refine ww_aload_n cx dX2_operatorHere_33 rfl 0 rfl ?_
        refine ww_ldcS (w := 11) (tx := "not") cx (by decide +kernel) dX2_operatorHere_34 ?_
        refine ww_V1_pi kv_X2_55 rfl cx sh_1 ⟨Nat.le_of_ble_eq_true rfl, Nat.le_of_ble_eq_true rfl⟩ (Nat.le_of_ble_eq_true rfl) dX2_operatorHere_36 (kX2_isWord G (by decide)) hF (fun r4 hF => ?_)
        refine ww_if_eq cx dX2_operatorHere_39 (tgt := 46) rfl hF (fun hF => ?_) (fun hF => ?_)
        · refine ww_iconst cx dX2_operatorHere_46 ic_0 ?_
          exact ww_rip hE dX2_operatorHere_47 hF
        · refine ww_iconst cx dX2_operatorHere_42 ic_4 ?_
          refine ww_goto cx dX2_operatorHere_43 (tgt := 47) rfl ?_
          exact ww_rip hE dX2_operatorHere_47 hF
      · refine ww_iconst cx dX2_operatorHere_31 ic_3 ?_
        exact ww_rip hE dX2_operatorHere_32 hF
    · refine ww_iconst cx dX2_operatorHere_20 ic_2 ?_
      exact ww_rip hE dX2_operatorHere_21 hF
  · refine ww_iconst cx dX2_operatorHere_9 ic_1 ?_
    exact ww_rip hE dX2_operatorHere_10 hF
theorem dX2_readWord_0 : decode cX2_readWord 0 = .ok (.aload_n 0, 1) := by decide +kernel
theorem dX2_readWord_1 : decode cX2_readWord 1 = .ok (.aload_n 1, 1) := by decide +kernel
theorem dX2_readWord_2 : decode cX2_readWord 2 = .ok (.invokevirtual 55, 3) := by decide +kernel
theorem dX2_readWord_5 : decode cX2_readWord 5 = .ok (.ifCond .ne 9, 3) := by decide +kernel
theorem dX2_readWord_8 : decode cX2_readWord 8 = .ok (.aload_n 0, 1) := by decide +kernel
theorem dX2_readWord_9 : decode cX2_readWord 9 = .ok (.iconst 1, 1) := by decide +kernel
theorem dX2_readWord_10 : decode cX2_readWord 10 = .ok (.invokevirtual 77, 3) := by decide +kernel
theorem dX2_readWord_13 : decode cX2_readWord 13 = .ok (.ireturn, 1) := by decide +kernel
theorem dX2_readWord_14 : decode cX2_readWord 14 = .ok (.aload_n 0, 1) := by decide +kernel
theorem dX2_readWord_15 : decode cX2_readWord 15 = .ok (.invokevirtual 33, 3) := by decide +kernel
theorem dX2_readWord_18 : decode cX2_readWord 18 = .ok (.iconst 1, 1) := by decide +kernel
theorem dX2_readWord_19 : decode cX2_readWord 19 = .ok (.ireturn, 1) := by decide +kernel
set_option maxRecDepth 4000 in
theorem kX2_readWord (G : GT) {σ : St} {w : Nat} (hw : w < 18) : ∀ (r : Int32) (σo : St) , fX2_readWord σ w = some (r, σo) → MCt G 6 yX2_readWord cX2_readWord 2 (some .boolean) [.ref (gad G 1), .ref (gsk G w)] σ (some (.int r)) σo := by
  intro r σo hF
  refine met_zz (by decide) (Nat.le_of_ble_eq_true rfl) (fun X cx hE => ?_)
  have cx : Cx G X RX2 cX2_readWord 2 6 := cx
  unfold fX2_readWord at hF
  show WW G X 2 σ [(0, .ref (gad G 1)), (1, .ref (gsk G w))] 0 []
  refine ww_aload_n cx dX2_readWord_0 rfl 0 rfl ?_
  refine ww_aload_n cx dX2_readWord_1 rfl 1 rfl ?_
  refine ww_V1_pi kv_X2_55 rfl cx sh_1 ⟨Nat.le_of_ble_eq_true rfl, Nat.le_of_ble_eq_true rfl⟩ (Nat.le_of_ble_eq_true rfl) dX2_readWord_2 (kX2_isWord G hw) hF (fun r1 hF => ?_)
  refine ww_if_ne cx dX2_readWord_5 (tgt := 14) rfl hF (fun hF => ?_) (fun hF => ?_)
  · refine ww_aload_n cx dX2_readWord_14 rfl 0 rfl ?_
    refine ww_V0_sv kv_X2_33 rfl cx sh_1 ⟨Nat.le_of_ble_eq_true rfl, Nat.le_of_ble_eq_true rfl⟩ (Nat.le_of_ble_eq_true rfl) dX2_readWord_15 (kX2_advance G) hF (fun σ2 hF => ?_)
    refine ww_iconst cx dX2_readWord_18 ic_1 ?_
    exact ww_rzs hE dX2_readWord_19 hF
  · refine ww_aload_n cx dX2_readWord_8 rfl 0 rfl ?_
    refine ww_iconst cx dX2_readWord_9 ic_1 ?_
    refine ww_V1_si kv_X2_77 rfl cx sh_1 ⟨Nat.le_of_ble_eq_true rfl, Nat.le_of_ble_eq_true rfl⟩ (Nat.le_of_ble_eq_true rfl) dX2_readWord_10 (kX2_fail G) hF (fun r3 σ4 hF => ?_)
    exact ww_rzs hE dX2_readWord_13 hF
