theorem dX7_alike_0 : decode cX7_alike 0 = .ok (.aload_n 0, 1) := by decide +kernel
theorem dX7_alike_1 : decode cX7_alike 1 = .ok (.getfield 19, 3) := by decide +kernel
theorem dX7_alike_4 : decode cX7_alike 4 = .ok (.iload_n 1, 1) := by decide +kernel
theorem dX7_alike_5 : decode cX7_alike 5 = .ok (.invokevirtual 101, 3) := by decide +kernel
theorem dX7_alike_8 : decode cX7_alike 8 = .ok (.ifCond .ne 6, 3) := by decide +kernel
theorem dX7_alike_11 : decode cX7_alike 11 = .ok (.bipush (-2), 2) := by decide +kernel
theorem dX7_alike_13 : decode cX7_alike 13 = .ok (.ireturn, 1) := by decide +kernel
theorem dX7_alike_14 : decode cX7_alike 14 = .ok (.aload_n 0, 1) := by decide +kernel
theorem dX7_alike_15 : decode cX7_alike 15 = .ok (.getfield 19, 3) := by decide +kernel
theorem dX7_alike_18 : decode cX7_alike 18 = .ok (.aload_n 0, 1) := by decide +kernel
theorem dX7_alike_19 : decode cX7_alike 19 = .ok (.getfield 19, 3) := by decide +kernel
theorem dX7_alike_22 : decode cX7_alike 22 = .ok (.getfield 112, 3) := by decide +kernel
theorem dX7_alike_25 : decode cX7_alike 25 = .ok (.iload_n 1, 1) := by decide +kernel
theorem dX7_alike_26 : decode cX7_alike 26 = .ok (.iaload, 1) := by decide +kernel
theorem dX7_alike_27 : decode cX7_alike 27 = .ok (.invokevirtual 163, 3) := by decide +kernel
theorem dX7_alike_30 : decode cX7_alike 30 = .ok (.iconst 1, 1) := by decide +kernel
theorem dX7_alike_31 : decode cX7_alike 31 = .ok (.iload_n 1, 1) := by decide +kernel
theorem dX7_alike_32 : decode cX7_alike 32 = .ok (.ishl, 1) := by decide +kernel
theorem dX7_alike_33 : decode cX7_alike 33 = .ok (.iconst (-1), 1) := by decide +kernel
theorem dX7_alike_34 : decode cX7_alike 34 = .ok (.ixor, 1) := by decide +kernel
theorem dX7_alike_35 : decode cX7_alike 35 = .ok (.iand, 1) := by decide +kernel
theorem dX7_alike_36 : decode cX7_alike 36 = .ok (.ireturn, 1) := by decide +kernel
set_option maxRecDepth 4000 in
theorem kX7_alike (G : GT) {σ : St} {a1 : Int32} : ∀ (r : Int32) , fX7_alike σ a1 = some r → MCt G 2 yX7_alike cX7_alike 2 (some .int) [.ref (gad G 0), .int a1] σ (some (.int r)) σ := by
  intro r hF
  refine met_i (by decide) (Nat.le_of_ble_eq_true rfl) (fun X cx hE => ?_)
  have cx : Cx G X RX7 cX7_alike 2 2 := cx
  unfold fX7_alike at hF
  show WW G X 2 σ [(0, .ref (gad G 0)), (1, .int a1)] 0 []
  refine ww_aload_n cx dX7_alike_0 rfl 0 rfl ?_
  refine gf_X7_19 cx dX7_alike_1 ?_
  refine ww_iload_n cx dX7_alike_4 rfl 1 rfl ?_
  refine ww_V1_pi kv_X7_101 rfl cx ((isTab_3).1) ⟨Nat.le_of_ble_eq_true rfl, Nat.le_of_ble_eq_true rfl⟩ (Nat.le_of_ble_eq_true rfl) dX7_alike_5 (kX6_hasClaim G (isTab_3)) hF (fun r1 hF => ?_)
  refine ww_if_ne cx dX7_alike_8 (tgt := 14) rfl hF (fun hF => ?_) (fun hF => ?_)
  · refine ww_aload_n cx dX7_alike_14 rfl 0 rfl ?_
    refine gf_X7_19 cx dX7_alike_15 ?_
    refine ww_aload_n cx dX7_alike_18 rfl 0 rfl ?_
    refine gf_X7_19 cx dX7_alike_19 ?_
    refine gf_X7_112 cx (isTab_3) dX7_alike_22 ?_
    refine ww_iload_n cx dX7_alike_25 rfl 1 rfl ?_
    refine ww_iald (N := 12) cx (ar_X6_9 isTab_3) dX7_alike_26 hF (fun hF => ?_)
    refine ww_V1_pi kv_X7_163 rfl cx ((isTab_3).1) ⟨Nat.le_of_ble_eq_true rfl, Nat.le_of_ble_eq_true rfl⟩ (Nat.le_of_ble_eq_true rfl) dX7_alike_27 (kX6_claimsHoldingIn G (isTab_3)) hF (fun r2 hF => ?_)
    refine ww_iconst cx dX7_alike_30 ic_1 ?_
    refine ww_iload_n cx dX7_alike_31 rfl 1 rfl ?_
    refine ww_ishl cx dX7_alike_32 ?_
    refine ww_iconst cx dX7_alike_33 ic_m1 ?_
    refine ww_ixor cx dX7_alike_34 ?_
    refine ww_iand cx dX7_alike_35 ?_
    exact ww_rip hE dX7_alike_36 hF
  · refine ww_bipush cx dX7_alike_11 bc_m2 ?_
    exact ww_rip hE dX7_alike_13 hF
theorem dX7_claim_0 : decode cX7_claim 0 = .ok (.aload_n 0, 1) := by decide +kernel
theorem dX7_claim_1 : decode cX7_claim 1 = .ok (.getfield 19, 3) := by decide +kernel
theorem dX7_claim_4 : decode cX7_claim 4 = .ok (.iload_n 1, 1) := by decide +kernel
theorem dX7_claim_5 : decode cX7_claim 5 = .ok (.invokevirtual 101, 3) := by decide +kernel
theorem dX7_claim_8 : decode cX7_claim 8 = .ok (.ifCond .ne 6, 3) := by decide +kernel
theorem dX7_claim_11 : decode cX7_claim 11 = .ok (.bipush (-2), 2) := by decide +kernel
theorem dX7_claim_13 : decode cX7_claim 13 = .ok (.ireturn, 1) := by decide +kernel
theorem dX7_claim_14 : decode cX7_claim 14 = .ok (.iload_n 2, 1) := by decide +kernel
theorem dX7_claim_15 : decode cX7_claim 15 = .ok (.tableswitch 60 0 2 #[25, 35, 47], 25) := by decide +kernel
theorem dX7_claim_40 : decode cX7_claim 40 = .ok (.aload_n 0, 1) := by decide +kernel
theorem dX7_claim_41 : decode cX7_claim 41 = .ok (.getfield 19, 3) := by decide +kernel
theorem dX7_claim_44 : decode cX7_claim 44 = .ok (.getfield 105, 3) := by decide +kernel
theorem dX7_claim_47 : decode cX7_claim 47 = .ok (.iload_n 1, 1) := by decide +kernel
theorem dX7_claim_48 : decode cX7_claim 48 = .ok (.iaload, 1) := by decide +kernel
theorem dX7_claim_49 : decode cX7_claim 49 = .ok (.ireturn, 1) := by decide +kernel
theorem dX7_claim_50 : decode cX7_claim 50 = .ok (.aload_n 0, 1) := by decide +kernel
theorem dX7_claim_51 : decode cX7_claim 51 = .ok (.getfield 19, 3) := by decide +kernel
theorem dX7_claim_54 : decode cX7_claim 54 = .ok (.getfield 109, 3) := by decide +kernel
theorem dX7_claim_57 : decode cX7_claim 57 = .ok (.iload_n 1, 1) := by decide +kernel
theorem dX7_claim_58 : decode cX7_claim 58 = .ok (.ishr, 1) := by decide +kernel
theorem dX7_claim_59 : decode cX7_claim 59 = .ok (.iconst 1, 1) := by decide +kernel
theorem dX7_claim_60 : decode cX7_claim 60 = .ok (.iand, 1) := by decide +kernel
theorem dX7_claim_61 : decode cX7_claim 61 = .ok (.ireturn, 1) := by decide +kernel
theorem dX7_claim_62 : decode cX7_claim 62 = .ok (.aload_n 0, 1) := by decide +kernel
theorem dX7_claim_63 : decode cX7_claim 63 = .ok (.getfield 19, 3) := by decide +kernel
theorem dX7_claim_66 : decode cX7_claim 66 = .ok (.getfield 112, 3) := by decide +kernel
theorem dX7_claim_69 : decode cX7_claim 69 = .ok (.iload_n 1, 1) := by decide +kernel
theorem dX7_claim_70 : decode cX7_claim 70 = .ok (.iaload, 1) := by decide +kernel
theorem dX7_claim_71 : decode cX7_claim 71 = .ok (.invokestatic 115, 3) := by decide +kernel
theorem dX7_claim_74 : decode cX7_claim 74 = .ok (.ireturn, 1) := by decide +kernel
theorem dX7_claim_75 : decode cX7_claim 75 = .ok (.bipush (-2), 2) := by decide +kernel
theorem dX7_claim_77 : decode cX7_claim 77 = .ok (.ireturn, 1) := by decide +kernel
set_option maxRecDepth 4000 in
theorem kX7_claim (G : GT) {σ : St} {a1 : Int32} {a2 : Int32} : ∀ (r : Int32) , fX7_claim σ a1 a2 = some r → MCt G 2 yX7_claim cX7_claim 3 (some .int) [.ref (gad G 0), .int a1, .int a2] σ (some (.int r)) σ := by
  intro r hF
  refine met_i (by decide) (Nat.le_of_ble_eq_true rfl) (fun X cx hE => ?_)
  have cx : Cx G X RX7 cX7_claim 3 2 := cx
  unfold fX7_claim at hF
  show WW G X 3 σ [(0, .ref (gad G 0)), (1, .int a1), (2, .int a2)] 0 []
  refine ww_aload_n cx dX7_claim_0 rfl 0 rfl ?_
  refine gf_X7_19 cx dX7_claim_1 ?_
  refine ww_iload_n cx dX7_claim_4 rfl 1 rfl ?_
  refine ww_V1_pi kv_X7_101 rfl cx ((isTab_3).1) ⟨Nat.le_of_ble_eq_true rfl, Nat.le_of_ble_eq_true rfl⟩ (Nat.le_of_ble_eq_true rfl) dX7_claim_5 (kX6_hasClaim G (isTab_3)) hF (fun r1 hF => ?_)
  refine ww_if_ne cx dX7_claim_8 (tgt := 14) rfl hF (fun hF => ?_) (fun hF => ?_)
  · refine ww_iload_n cx dX7_claim_14 rfl 2 rfl ?_
    by_cases e0 : a2 = 0
    · replace hF := it_t e0 hF
      refine ww_tsIn (v := 0) (tgt := 40) cx dX7_claim_15 e0 (by decide) (by decide) rfl rfl ?_
      refine ww_aload_n cx dX7_claim_40 rfl 0 rfl ?_
      refine gf_X7_19 cx dX7_claim_41 ?_
      refine gf_X7_105 cx (isTab_3) dX7_claim_44 ?_
      refine ww_iload_n cx dX7_claim_47 rfl 1 rfl ?_
      refine ww_iald (N := 12) cx (ar_X6_8 isTab_3) dX7_claim_48 hF (fun hF => ?_)
      exact ww_rip hE dX7_claim_49 hF
    replace hF := it_f e0 hF
    by_cases e1 : a2 = 1
    · replace hF := it_t e1 hF
      refine ww_tsIn (v := 1) (tgt := 50) cx dX7_claim_15 e1 (by decide) (by decide) rfl rfl ?_
      refine ww_aload_n cx dX7_claim_50 rfl 0 rfl ?_
      refine gf_X7_19 cx dX7_claim_51 ?_
      refine gf_X7_109 cx (isTab_3) dX7_claim_54 ?_
      refine ww_iload_n cx dX7_claim_57 rfl 1 rfl ?_
      refine ww_ishr cx dX7_claim_58 ?_
      refine ww_iconst cx dX7_claim_59 ic_1 ?_
      refine ww_iand cx dX7_claim_60 ?_
      exact ww_rip hE dX7_claim_61 hF
    replace hF := it_f e1 hF
    by_cases e2 : a2 = 2
    · replace hF := it_t e2 hF
      refine ww_tsIn (v := 2) (tgt := 62) cx dX7_claim_15 e2 (by decide) (by decide) rfl rfl ?_
      refine ww_aload_n cx dX7_claim_62 rfl 0 rfl ?_
      refine gf_X7_19 cx dX7_claim_63 ?_
      refine gf_X7_112 cx (isTab_3) dX7_claim_66 ?_
      refine ww_iload_n cx dX7_claim_69 rfl 1 rfl ?_
      refine ww_iald (N := 12) cx (ar_X6_9 isTab_3) dX7_claim_70 hF (fun hF => ?_)
      refine ww_S1_pi kv_X7_115 cx ⟨Nat.le_of_ble_eq_true rfl, Nat.le_of_ble_eq_true rfl⟩ (Nat.le_of_ble_eq_true rfl) dX7_claim_71 (kJ6_bitCount_0f7a4 G) hF (fun r2 hF => ?_)
      exact ww_rip hE dX7_claim_74 hF
    replace hF := it_f e2 hF
    refine ww_tsOut (tgt := 75) cx dX7_claim_15 (ts_out3 e0 e1 e2) rfl ?_
    refine ww_bipush cx dX7_claim_75 bc_m2 ?_
    exact ww_rip hE dX7_claim_77 hF
  · refine ww_bipush cx dX7_claim_11 bc_m2 ?_
    exact ww_rip hE dX7_claim_13 hF
theorem dX7_claims_0 : decode cX7_claims 0 = .ok (.aload_n 0, 1) := by decide +kernel
theorem dX7_claims_1 : decode cX7_claims 1 = .ok (.getfield 19, 3) := by decide +kernel
theorem dX7_claims_4 : decode cX7_claims 4 = .ok (.iload_n 1, 1) := by decide +kernel
theorem dX7_claims_5 : decode cX7_claims 5 = .ok (.invokevirtual 101, 3) := by decide +kernel
theorem dX7_claims_8 : decode cX7_claims 8 = .ok (.ifCond .eq 10, 3) := by decide +kernel
theorem dX7_claims_11 : decode cX7_claims 11 = .ok (.iload_n 2, 1) := by decide +kernel
theorem dX7_claims_12 : decode cX7_claims 12 = .ok (.invokestatic 270, 3) := by decide +kernel
theorem dX7_claims_15 : decode cX7_claims 15 = .ok (.ifCond .ne 6, 3) := by decide +kernel
theorem dX7_claims_18 : decode cX7_claims 18 = .ok (.bipush (-2), 2) := by decide +kernel
theorem dX7_claims_20 : decode cX7_claims 20 = .ok (.ireturn, 1) := by decide +kernel
theorem dX7_claims_21 : decode cX7_claims 21 = .ok (.aload_n 0, 1) := by decide +kernel
theorem dX7_claims_22 : decode cX7_claims 22 = .ok (.getfield 19, 3) := by decide +kernel
theorem dX7_claims_25 : decode cX7_claims 25 = .ok (.getfield 112, 3) := by decide +kernel
theorem dX7_claims_28 : decode cX7_claims 28 = .ok (.iload_n 1, 1) := by decide +kernel
theorem dX7_claims_29 : decode cX7_claims 29 = .ok (.iaload, 1) := by decide +kernel
theorem dX7_claims_30 : decode cX7_claims 30 = .ok (.aload_n 0, 1) := by decide +kernel
theorem dX7_claims_31 : decode cX7_claims 31 = .ok (.getfield 72, 3) := by decide +kernel
theorem dX7_claims_34 : decode cX7_claims 34 = .ok (.aload_n 0, 1) := by decide +kernel
theorem dX7_claims_35 : decode cX7_claims 35 = .ok (.getfield 19, 3) := by decide +kernel
theorem dX7_claims_38 : decode cX7_claims 38 = .ok (.iload_n 1, 1) := by decide +kernel
theorem dX7_claims_39 : decode cX7_claims 39 = .ok (.iload_n 2, 1) := by decide +kernel
theorem dX7_claims_40 : decode cX7_claims 40 = .ok (.invokevirtual 273, 3) := by decide +kernel
theorem dX7_claims_43 : decode cX7_claims 43 = .ok (.ishr, 1) := by decide +kernel
theorem dX7_claims_44 : decode cX7_claims 44 = .ok (.iconst 1, 1) := by decide +kernel
theorem dX7_claims_45 : decode cX7_claims 45 = .ok (.iand, 1) := by decide +kernel
theorem dX7_claims_46 : decode cX7_claims 46 = .ok (.ireturn, 1) := by decide +kernel
set_option maxRecDepth 4000 in
theorem kX7_claims (G : GT) {σ : St} {a1 : Int32} {a2 : Int32} : ∀ (r : Int32) (σo : St) , fX7_claims σ a1 a2 = some (r, σo) → MCt G 2 yX7_claims cX7_claims 3 (some .int) [.ref (gad G 0), .int a1, .int a2] σ (some (.int r)) σo := by
  intro r σo hF
  refine met_i (by decide) (Nat.le_of_ble_eq_true rfl) (fun X cx hE => ?_)
  have cx : Cx G X RX7 cX7_claims 3 2 := cx
  unfold fX7_claims at hF
  show WW G X 3 σ [(0, .ref (gad G 0)), (1, .int a1), (2, .int a2)] 0 []
  refine ww_aload_n cx dX7_claims_0 rfl 0 rfl ?_
  refine gf_X7_19 cx dX7_claims_1 ?_
  refine ww_iload_n cx dX7_claims_4 rfl 1 rfl ?_
  refine ww_V1_pi kv_X7_101 rfl cx ((isTab_3).1) ⟨Nat.le_of_ble_eq_true rfl, Nat.le_of_ble_eq_true rfl⟩ (Nat.le_of_ble_eq_true rfl) dX7_claims_5 (kX6_hasClaim G (isTab_3)) hF (fun r1 hF => ?_)
  refine ww_if_eq cx dX7_claims_8 (tgt := 18) rfl hF (fun hF => ?_) (fun hF => ?_)
  · refine ww_bipush cx dX7_claims_18 bc_m2 ?_
    exact ww_ris hE dX7_claims_20 hF
  · refine ww_iload_n cx dX7_claims_11 rfl 2 rfl ?_
    refine ww_S1_pi kv_X7_270 cx ⟨Nat.le_of_ble_eq_true rfl, Nat.le_of_ble_eq_true rfl⟩ (Nat.le_of_ble_eq_true rfl) dX7_claims_12 (kX7_isBit G) hF (fun r2 hF => ?_)
    refine ww_if_ne cx dX7_claims_15 (tgt := 21) rfl hF (fun hF => ?_) (fun hF => ?_)
    · refine ww_aload_n cx dX7_claims_21 rfl 0 rfl ?_
      refine gf_X7_19 cx dX7_claims_22 ?_
      refine gf_X7_112 cx (isTab_3) dX7_claims_25 ?_
      refine ww_iload_n cx dX7_claims_28 rfl 1 rfl ?_
      refine ww_iald (N := 12) cx (ar_X6_9 isTab_3) dX7_claims_29 hF (fun hF => ?_)
      refine ww_aload_n cx dX7_claims_30 rfl 0 rfl ?_
      refine gf_X7_72 cx dX7_claims_31 ?_
      refine ww_aload_n cx dX7_claims_34 rfl 0 rfl ?_
      refine gf_X7_19 cx dX7_claims_35 ?_
      refine ww_iload_n cx dX7_claims_38 rfl 1 rfl ?_
      refine ww_iload_n cx dX7_claims_39 rfl 2 rfl ?_
      refine ww_V3_si kv_X7_273 rfl cx sh_60 ⟨Nat.le_of_ble_eq_true rfl, Nat.le_of_ble_eq_true rfl⟩ (Nat.le_of_ble_eq_true rfl) dX7_claims_40 (kX0_worldThatComes G (isTab_3)) hF (fun r3 σ4 hF => ?_)
      refine ww_ishr cx dX7_claims_43 ?_
      refine ww_iconst cx dX7_claims_44 ic_1 ?_
      refine ww_iand cx dX7_claims_45 ?_
      exact ww_ris hE dX7_claims_46 hF
    · refine ww_bipush cx dX7_claims_18 bc_m2 ?_
      exact ww_ris hE dX7_claims_20 hF
theorem dX7_count_0 : decode cX7_count 0 = .ok (.iload_n 1, 1) := by decide +kernel
theorem dX7_count_1 : decode cX7_count 1 = .ok (.tableswitch 120 0 8 #[51, 59, 67, 75, 83, 91, 99, 107, 115], 51) := by decide +kernel
theorem dX7_count_52 : decode cX7_count 52 = .ok (.aload_n 0, 1) := by decide +kernel
theorem dX7_count_53 : decode cX7_count 53 = .ok (.getfield 19, 3) := by decide +kernel
theorem dX7_count_56 : decode cX7_count 56 = .ok (.getfield 361, 3) := by decide +kernel
theorem dX7_count_59 : decode cX7_count 59 = .ok (.ireturn, 1) := by decide +kernel
theorem dX7_count_60 : decode cX7_count 60 = .ok (.aload_n 0, 1) := by decide +kernel
theorem dX7_count_61 : decode cX7_count 61 = .ok (.getfield 19, 3) := by decide +kernel
theorem dX7_count_64 : decode cX7_count 64 = .ok (.getfield 364, 3) := by decide +kernel
theorem dX7_count_67 : decode cX7_count 67 = .ok (.ireturn, 1) := by decide +kernel
theorem dX7_count_68 : decode cX7_count 68 = .ok (.aload_n 0, 1) := by decide +kernel
theorem dX7_count_69 : decode cX7_count 69 = .ok (.getfield 19, 3) := by decide +kernel
theorem dX7_count_72 : decode cX7_count 72 = .ok (.getfield 367, 3) := by decide +kernel
theorem dX7_count_75 : decode cX7_count 75 = .ok (.ireturn, 1) := by decide +kernel
theorem dX7_count_76 : decode cX7_count 76 = .ok (.aload_n 0, 1) := by decide +kernel
theorem dX7_count_77 : decode cX7_count 77 = .ok (.getfield 19, 3) := by decide +kernel
theorem dX7_count_80 : decode cX7_count 80 = .ok (.getfield 252, 3) := by decide +kernel
theorem dX7_count_83 : decode cX7_count 83 = .ok (.ireturn, 1) := by decide +kernel
theorem dX7_count_84 : decode cX7_count 84 = .ok (.aload_n 0, 1) := by decide +kernel
theorem dX7_count_85 : decode cX7_count 85 = .ok (.getfield 19, 3) := by decide +kernel
theorem dX7_count_88 : decode cX7_count 88 = .ok (.getfield 202, 3) := by decide +kernel
theorem dX7_count_91 : decode cX7_count 91 = .ok (.ireturn, 1) := by decide +kernel
theorem dX7_count_92 : decode cX7_count 92 = .ok (.aload_n 0, 1) := by decide +kernel
theorem dX7_count_93 : decode cX7_count 93 = .ok (.getfield 19, 3) := by decide +kernel
theorem dX7_count_96 : decode cX7_count 96 = .ok (.getfield 345, 3) := by decide +kernel
theorem dX7_count_99 : decode cX7_count 99 = .ok (.ireturn, 1) := by decide +kernel
theorem dX7_count_100 : decode cX7_count 100 = .ok (.aload_n 0, 1) := by decide +kernel
theorem dX7_count_101 : decode cX7_count 101 = .ok (.getfield 19, 3) := by decide +kernel
theorem dX7_count_104 : decode cX7_count 104 = .ok (.getfield 92, 3) := by decide +kernel
theorem dX7_count_107 : decode cX7_count 107 = .ok (.ireturn, 1) := by decide +kernel
theorem dX7_count_108 : decode cX7_count 108 = .ok (.aload_n 0, 1) := by decide +kernel
theorem dX7_count_109 : decode cX7_count 109 = .ok (.getfield 10, 3) := by decide +kernel
theorem dX7_count_112 : decode cX7_count 112 = .ok (.getfield 76, 3) := by decide +kernel
theorem dX7_count_115 : decode cX7_count 115 = .ok (.ireturn, 1) := by decide +kernel
theorem dX7_count_116 : decode cX7_count 116 = .ok (.aload_n 0, 1) := by decide +kernel
theorem dX7_count_117 : decode cX7_count 117 = .ok (.invokevirtual 370, 3) := by decide +kernel
theorem dX7_count_120 : decode cX7_count 120 = .ok (.ireturn, 1) := by decide +kernel
theorem dX7_count_121 : decode cX7_count 121 = .ok (.iconst (-1), 1) := by decide +kernel
theorem dX7_count_122 : decode cX7_count 122 = .ok (.ireturn, 1) := by decide +kernel
set_option maxRecDepth 4000 in
theorem kX7_count (G : GT) {σ : St} {a1 : Int32} : ∀ (r : Int32) , fX7_count σ a1 = some r → MCt G 2 yX7_count cX7_count 2 (some .int) [.ref (gad G 0), .int a1] σ (some (.int r)) σ := by
  intro r hF
  refine met_i (by decide) (Nat.le_of_ble_eq_true rfl) (fun X cx hE => ?_)
  have cx : Cx G X RX7 cX7_count 2 2 := cx
  unfold fX7_count at hF
  show WW G X 2 σ [(0, .ref (gad G 0)), (1, .int a1)] 0 []
  refine ww_iload_n cx dX7_count_0 rfl 1 rfl ?_
  by_cases e0 : a1 = 0
  · replace hF := it_t e0 hF
    refine ww_tsIn (v := 0) (tgt := 52) cx dX7_count_1 e0 (by decide) (by decide) rfl rfl ?_
    refine ww_aload_n cx dX7_count_52 rfl 0 rfl ?_
    refine gf_X7_19 cx dX7_count_53 ?_
    refine gf_X7_361 cx (isTab_3) dX7_count_56 ?_
    exact ww_rip hE dX7_count_59 hF
  replace hF := it_f e0 hF
  by_cases e1 : a1 = 1
  · replace hF := it_t e1 hF
    refine ww_tsIn (v := 1) (tgt := 60) cx dX7_count_1 e1 (by decide) (by decide) rfl rfl ?_
    refine ww_aload_n cx dX7_count_60 rfl 0 rfl ?_
    refine gf_X7_19 cx dX7_count_61 ?_
    refine gf_X7_364 cx (isTab_3) dX7_count_64 ?_
    exact ww_rip hE dX7_count_67 hF
  replace hF := it_f e1 hF
  by_cases e2 : a1 = 2
  · replace hF := it_t e2 hF
    refine ww_tsIn (v := 2) (tgt := 68) cx dX7_count_1 e2 (by decide) (by decide) rfl rfl ?_
    refine ww_aload_n cx dX7_count_68 rfl 0 rfl ?_
    refine gf_X7_19 cx dX7_count_69 ?_
    refine gf_X7_367 cx (isTab_3) dX7_count_72 ?_
    exact ww_rip hE dX7_count_75 hF
  replace hF := it_f e2 hF
  by_cases e3 : a1 = 3
  · replace hF := it_t e3 hF
    refine ww_tsIn (v := 3) (tgt := 76) cx dX7_count_1 e3 (by decide) (by decide) rfl rfl ?_
    refine ww_aload_n cx dX7_count_76 rfl 0 rfl ?_
    refine gf_X7_19 cx dX7_count_77 ?_
    refine gf_X7_252 cx (isTab_3) dX7_count_80 ?_
    exact ww_rip hE dX7_count_83 hF
  replace hF := it_f e3 hF
  by_cases e4 : a1 = 4
  · replace hF := it_t e4 hF
    refine ww_tsIn (v := 4) (tgt := 84) cx dX7_count_1 e4 (by decide) (by decide) rfl rfl ?_
    refine ww_aload_n cx dX7_count_84 rfl 0 rfl ?_
    refine gf_X7_19 cx dX7_count_85 ?_
    refine gf_X7_202 cx (isTab_3) dX7_count_88 ?_
    exact ww_rip hE dX7_count_91 hF
  replace hF := it_f e4 hF
  by_cases e5 : a1 = 5
  · replace hF := it_t e5 hF
    refine ww_tsIn (v := 5) (tgt := 92) cx dX7_count_1 e5 (by decide) (by decide) rfl rfl ?_
    refine ww_aload_n cx dX7_count_92 rfl 0 rfl ?_
    refine gf_X7_19 cx dX7_count_93 ?_
    refine gf_X7_345 cx (isTab_3) dX7_count_96 ?_
    exact ww_rip hE dX7_count_99 hF
  replace hF := it_f e5 hF
  by_cases e6 : a1 = 6
  · replace hF := it_t e6 hF
    refine ww_tsIn (v := 6) (tgt := 100) cx dX7_count_1 e6 (by decide) (by decide) rfl rfl ?_
    refine ww_aload_n cx dX7_count_100 rfl 0 rfl ?_
    refine gf_X7_19 cx dX7_count_101 ?_
    refine gf_X7_92 cx (isTab_3) dX7_count_104 ?_
    exact ww_rip hE dX7_count_107 hF
  replace hF := it_f e6 hF
  by_cases e7 : a1 = 7
  · replace hF := it_t e7 hF
    refine ww_tsIn (v := 7) (tgt := 108) cx dX7_count_1 e7 (by decide) (by decide) rfl rfl ?_
    refine ww_aload_n cx dX7_count_108 rfl 0 rfl ?_
    refine gf_X7_10 cx dX7_count_109 ?_
    refine gf_X7_76 cx dX7_count_112 ?_
    exact ww_rip hE dX7_count_115 hF
  replace hF := it_f e7 hF
  by_cases e8 : a1 = 8
  · replace hF := it_t e8 hF
    refine ww_tsIn (v := 8) (tgt := 116) cx dX7_count_1 e8 (by decide) (by decide) rfl rfl ?_
    refine ww_aload_n cx dX7_count_116 rfl 0 rfl ?_
    refine ww_V0_pi kv_X7_370 rfl cx sh_0 ⟨Nat.le_of_ble_eq_true rfl, Nat.le_of_ble_eq_true rfl⟩ (Nat.le_of_ble_eq_true rfl) dX7_count_117 (kX7_rowsThere G) hF (fun r1 hF => ?_)
    exact ww_rip hE dX7_count_120 hF
  replace hF := it_f e8 hF
  refine ww_tsOut (tgt := 121) cx dX7_count_1 (ts_out9 e0 e1 e2 e3 e4 e5 e6 e7 e8) rfl ?_
  refine ww_iconst cx dX7_count_121 ic_m1 ?_
  exact ww_rip hE dX7_count_122 hF
theorem dX7_drawn_0 : decode cX7_drawn 0 = .ok (.aload_n 0, 1) := by decide +kernel
theorem dX7_drawn_1 : decode cX7_drawn 1 = .ok (.getfield 19, 3) := by decide +kernel
theorem dX7_drawn_4 : decode cX7_drawn 4 = .ok (.invokevirtual 149, 3) := by decide +kernel
theorem dX7_drawn_7 : decode cX7_drawn 7 = .ok (.ifCond .eq 21, 3) := by decide +kernel
theorem dX7_drawn_10 : decode cX7_drawn 10 = .ok (.iload_n 1, 1) := by decide +kernel
theorem dX7_drawn_11 : decode cX7_drawn 11 = .ok (.invokestatic 355, 3) := by decide +kernel
theorem dX7_drawn_14 : decode cX7_drawn 14 = .ok (.ifCond .eq 14, 3) := by decide +kernel
theorem dX7_drawn_17 : decode cX7_drawn 17 = .ok (.aload_n 0, 1) := by decide +kernel
theorem dX7_drawn_18 : decode cX7_drawn 18 = .ok (.getfield 19, 3) := by decide +kernel
theorem dX7_drawn_21 : decode cX7_drawn 21 = .ok (.iload_n 1, 1) := by decide +kernel
theorem dX7_drawn_22 : decode cX7_drawn 22 = .ok (.invokevirtual 358, 3) := by decide +kernel
theorem dX7_drawn_25 : decode cX7_drawn 25 = .ok (.goto 5, 3) := by decide +kernel
theorem dX7_drawn_28 : decode cX7_drawn 28 = .ok (.bipush (-2), 2) := by decide +kernel
theorem dX7_drawn_30 : decode cX7_drawn 30 = .ok (.ireturn, 1) := by decide +kernel
set_option maxRecDepth 4000 in
theorem kX7_drawn (G : GT) {σ : St} {a1 : Int32} : ∀ (r : Int32) , fX7_drawn σ a1 = some r → MCt G 2 yX7_drawn cX7_drawn 2 (some .int) [.ref (gad G 0), .int a1] σ (some (.int r)) σ := by
  intro r hF
  refine met_i (by decide) (Nat.le_of_ble_eq_true rfl) (fun X cx hE => ?_)
  have cx : Cx G X RX7 cX7_drawn 2 2 := cx
  unfold fX7_drawn at hF
  show WW G X 2 σ [(0, .ref (gad G 0)), (1, .int a1)] 0 []
  refine ww_aload_n cx dX7_drawn_0 rfl 0 rfl ?_
  refine gf_X7_19 cx dX7_drawn_1 ?_
  refine ww_V0_pi kv_X7_149 rfl cx ((isTab_3).1) ⟨Nat.le_of_ble_eq_true rfl, Nat.le_of_ble_eq_true rfl⟩ (Nat.le_of_ble_eq_true rfl) dX7_drawn_4 (kX6_isTold G (isTab_3)) hF (fun r1 hF => ?_)
  refine ww_if_eq cx dX7_drawn_7 (tgt := 28) rfl hF (fun hF => ?_) (fun hF => ?_)
  · refine ww_bipush cx dX7_drawn_28 bc_m2 ?_
    exact ww_rip hE dX7_drawn_30 hF
  · refine ww_iload_n cx dX7_drawn_10 rfl 1 rfl ?_
    refine ww_S1_pi kv_X7_355 cx ⟨Nat.le_of_ble_eq_true rfl, Nat.le_of_ble_eq_true rfl⟩ (Nat.le_of_ble_eq_true rfl) dX7_drawn_11 (kX7_isSeed G) hF (fun r2 hF => ?_)
    refine ww_if_eq cx dX7_drawn_14 (tgt := 28) rfl hF (fun hF => ?_) (fun hF => ?_)
    · refine ww_bipush cx dX7_drawn_28 bc_m2 ?_
      exact ww_rip hE dX7_drawn_30 hF
    · refine ww_aload_n cx dX7_drawn_17 rfl 0 rfl ?_
      refine gf_X7_19 cx dX7_drawn_18 ?_
      refine ww_iload_n cx dX7_drawn_21 rfl 1 rfl ?_
      refine ww_V1_pi kv_X7_358 rfl cx ((isTab_3).1) ⟨Nat.le_of_ble_eq_true rfl, Nat.le_of_ble_eq_true rfl⟩ (Nat.le_of_ble_eq_true rfl) dX7_drawn_22 (kX6_holedSteps G (isTab_3)) hF (fun r3 hF => ?_)
      refine ww_goto cx dX7_drawn_25 (tgt := 30) rfl ?_
      exact ww_rip hE dX7_drawn_30 hF
theorem dX7_drops_0 : decode cX7_drops 0 = .ok (.aload_n 0, 1) := by decide +kernel
theorem dX7_drops_1 : decode cX7_drops 1 = .ok (.getfield 19, 3) := by decide +kernel
theorem dX7_drops_4 : decode cX7_drops 4 = .ok (.invokevirtual 149, 3) := by decide +kernel
theorem dX7_drops_7 : decode cX7_drops 7 = .ok (.ifCond .ne 6, 3) := by decide +kernel
theorem dX7_drops_10 : decode cX7_drops 10 = .ok (.bipush (-2), 2) := by decide +kernel
theorem dX7_drops_12 : decode cX7_drops 12 = .ok (.ireturn, 1) := by decide +kernel
theorem dX7_drops_13 : decode cX7_drops 13 = .ok (.aload_n 0, 1) := by decide +kernel
theorem dX7_drops_14 : decode cX7_drops 14 = .ok (.getfield 19, 3) := by decide +kernel
theorem dX7_drops_17 : decode cX7_drops 17 = .ok (.getfield 202, 3) := by decide +kernel
theorem dX7_drops_20 : decode cX7_drops 20 = .ok (.ifCond .ne 6, 3) := by decide +kernel
theorem dX7_drops_23 : decode cX7_drops 23 = .ok (.bipush (-5), 2) := by decide +kernel
theorem dX7_drops_25 : decode cX7_drops 25 = .ok (.ireturn, 1) := by decide +kernel
theorem dX7_drops_26 : decode cX7_drops 26 = .ok (.aload_n 0, 1) := by decide +kernel
theorem dX7_drops_27 : decode cX7_drops 27 = .ok (.getfield 19, 3) := by decide +kernel
theorem dX7_drops_30 : decode cX7_drops 30 = .ok (.invokevirtual 352, 3) := by decide +kernel
theorem dX7_drops_33 : decode cX7_drops 33 = .ok (.aload_n 0, 1) := by decide +kernel
theorem dX7_drops_34 : decode cX7_drops 34 = .ok (.iconst 1, 1) := by decide +kernel
theorem dX7_drops_35 : decode cX7_drops 35 = .ok (.putfield 48, 3) := by decide +kernel
theorem dX7_drops_38 : decode cX7_drops 38 = .ok (.aload_n 0, 1) := by decide +kernel
theorem dX7_drops_39 : decode cX7_drops 39 = .ok (.getfield 19, 3) := by decide +kernel
theorem dX7_drops_42 : decode cX7_drops 42 = .ok (.getfield 202, 3) := by decide +kernel
theorem dX7_drops_45 : decode cX7_drops 45 = .ok (.ireturn, 1) := by decide +kernel
set_option maxRecDepth 4000 in
theorem kX7_drops (G : GT) {σ : St} : ∀ (r : Int32) (σo : St) , fX7_drops σ = some (r, σo) → MCt G 2 yX7_drops cX7_drops 1 (some .int) [.ref (gad G 0)] σ (some (.int r)) σo := by
  intro r σo hF
  refine met_i (by decide) (Nat.le_of_ble_eq_true rfl) (fun X cx hE => ?_)
  have cx : Cx G X RX7 cX7_drops 1 2 := cx
  unfold fX7_drops at hF
  show WW G X 1 σ [(0, .ref (gad G 0))] 0 []
  refine ww_aload_n cx dX7_drops_0 rfl 0 rfl ?_
  refine gf_X7_19 cx dX7_drops_1 ?_
  refine ww_V0_pi kv_X7_149 rfl cx ((isTab_3).1) ⟨Nat.le_of_ble_eq_true rfl, Nat.le_of_ble_eq_true rfl⟩ (Nat.le_of_ble_eq_true rfl) dX7_drops_4 (kX6_isTold G (isTab_3)) hF (fun r1 hF => ?_)
  refine ww_if_ne cx dX7_drops_7 (tgt := 13) rfl hF (fun hF => ?_) (fun hF => ?_)
  · refine ww_aload_n cx dX7_drops_13 rfl 0 rfl ?_
    refine gf_X7_19 cx dX7_drops_14 ?_
    refine gf_X7_202 cx (isTab_3) dX7_drops_17 ?_
    refine ww_if_ne cx dX7_drops_20 (tgt := 26) rfl hF (fun hF => ?_) (fun hF => ?_)
    · refine ww_aload_n cx dX7_drops_26 rfl 0 rfl ?_
      refine gf_X7_19 cx dX7_drops_27 ?_
      refine ww_V0_sv kv_X7_352 rfl cx ((isTab_3).1) ⟨Nat.le_of_ble_eq_true rfl, Nat.le_of_ble_eq_true rfl⟩ (Nat.le_of_ble_eq_true rfl) dX7_drops_30 (kX6_dropStep G (isTab_3)) hF (fun σ2 hF => ?_)
      refine ww_aload_n cx dX7_drops_33 rfl 0 rfl ?_
      refine ww_iconst cx dX7_drops_34 ic_1 ?_
      refine pf_X7_48 cx dX7_drops_35 hF (fun σ3 hF => ?_)
      refine ww_aload_n cx dX7_drops_38 rfl 0 rfl ?_
      refine gf_X7_19 cx dX7_drops_39 ?_
      refine gf_X7_202 cx (isTab_3) dX7_drops_42 ?_
      exact ww_ris hE dX7_drops_45 hF
    · refine ww_bipush cx dX7_drops_23 bc_m5 ?_
      exact ww_ris hE dX7_drops_25 hF
  · refine ww_bipush cx dX7_drops_10 bc_m2 ?_
    exact ww_ris hE dX7_drops_12 hF
theorem dX7_entails_0 : decode cX7_entails 0 = .ok (.aload_n 0, 1) := by decide +kernel
theorem dX7_entails_1 : decode cX7_entails 1 = .ok (.getfield 19, 3) := by decide +kernel
theorem dX7_entails_4 : decode cX7_entails 4 = .ok (.iload_n 1, 1) := by decide +kernel
theorem dX7_entails_5 : decode cX7_entails 5 = .ok (.invokevirtual 101, 3) := by decide +kernel
theorem dX7_entails_8 : decode cX7_entails 8 = .ok (.ifCond .eq 14, 3) := by decide +kernel
theorem dX7_entails_11 : decode cX7_entails 11 = .ok (.aload_n 0, 1) := by decide +kernel
theorem dX7_entails_12 : decode cX7_entails 12 = .ok (.getfield 19, 3) := by decide +kernel
theorem dX7_entails_15 : decode cX7_entails 15 = .ok (.iload_n 2, 1) := by decide +kernel
theorem dX7_entails_16 : decode cX7_entails 16 = .ok (.invokevirtual 101, 3) := by decide +kernel
theorem dX7_entails_19 : decode cX7_entails 19 = .ok (.ifCond .ne 6, 3) := by decide +kernel
theorem dX7_entails_22 : decode cX7_entails 22 = .ok (.bipush (-2), 2) := by decide +kernel
theorem dX7_entails_24 : decode cX7_entails 24 = .ok (.ireturn, 1) := by decide +kernel
theorem dX7_entails_25 : decode cX7_entails 25 = .ok (.aload_n 0, 1) := by decide +kernel
theorem dX7_entails_26 : decode cX7_entails 26 = .ok (.getfield 19, 3) := by decide +kernel
theorem dX7_entails_29 : decode cX7_entails 29 = .ok (.getfield 112, 3) := by decide +kernel
theorem dX7_entails_32 : decode cX7_entails 32 = .ok (.iload_n 2, 1) := by decide +kernel
theorem dX7_entails_33 : decode cX7_entails 33 = .ok (.iaload, 1) := by decide +kernel
theorem dX7_entails_34 : decode cX7_entails 34 = .ok (.aload_n 0, 1) := by decide +kernel
theorem dX7_entails_35 : decode cX7_entails 35 = .ok (.getfield 19, 3) := by decide +kernel
theorem dX7_entails_38 : decode cX7_entails 38 = .ok (.getfield 112, 3) := by decide +kernel
theorem dX7_entails_41 : decode cX7_entails 41 = .ok (.iload_n 1, 1) := by decide +kernel
theorem dX7_entails_42 : decode cX7_entails 42 = .ok (.iaload, 1) := by decide +kernel
theorem dX7_entails_43 : decode cX7_entails 43 = .ok (.iconst (-1), 1) := by decide +kernel
theorem dX7_entails_44 : decode cX7_entails 44 = .ok (.ixor, 1) := by decide +kernel
theorem dX7_entails_45 : decode cX7_entails 45 = .ok (.iand, 1) := by decide +kernel
theorem dX7_entails_46 : decode cX7_entails 46 = .ok (.ifCond .ne 7, 3) := by decide +kernel
theorem dX7_entails_49 : decode cX7_entails 49 = .ok (.iconst 1, 1) := by decide +kernel
theorem dX7_entails_50 : decode cX7_entails 50 = .ok (.goto 4, 3) := by decide +kernel
theorem dX7_entails_53 : decode cX7_entails 53 = .ok (.iconst 0, 1) := by decide +kernel
theorem dX7_entails_54 : decode cX7_entails 54 = .ok (.invokestatic 133, 3) := by decide +kernel
theorem dX7_entails_57 : decode cX7_entails 57 = .ok (.ireturn, 1) := by decide +kernel
set_option maxRecDepth 4000 in
theorem kX7_entails (G : GT) {σ : St} {a1 : Int32} {a2 : Int32} : ∀ (r : Int32) , fX7_entails σ a1 a2 = some r → MCt G 2 yX7_entails cX7_entails 3 (some .int) [.ref (gad G 0), .int a1, .int a2] σ (some (.int r)) σ := by
  intro r hF
  refine met_i (by decide) (Nat.le_of_ble_eq_true rfl) (fun X cx hE => ?_)
  have cx : Cx G X RX7 cX7_entails 3 2 := cx
  have hb54 : ∀ (y0 : Int32) , fX7_entails_b54 σ y0 = some r → WW G X 3 σ [] 54 [.int y0] := by
    intro y0 hF
    unfold fX7_entails_b54 at hF
    refine ww_S1_pi kv_X7_133 cx ⟨Nat.le_of_ble_eq_true rfl, Nat.le_of_ble_eq_true rfl⟩ (Nat.le_of_ble_eq_true rfl) dX7_entails_54 (kX7_bit G) hF (fun r1 hF => ?_)
    exact ww_rip hE dX7_entails_57 hF
  unfold fX7_entails at hF
  show WW G X 3 σ [(0, .ref (gad G 0)), (1, .int a1), (2, .int a2)] 0 []
  refine ww_aload_n cx dX7_entails_0 rfl 0 rfl ?_
  refine gf_X7_19 cx dX7_entails_1 ?_
  refine ww_iload_n cx dX7_entails_4 rfl 1 rfl ?_
  refine ww_V1_pi kv_X7_101 rfl cx ((isTab_3).1) ⟨Nat.le_of_ble_eq_true rfl, Nat.le_of_ble_eq_true rfl⟩ (Nat.le_of_ble_eq_true rfl) dX7_entails_5 (kX6_hasClaim G (isTab_3)) hF (fun r2 hF => ?_)
  refine ww_if_eq cx dX7_entails_8 (tgt := 22) rfl hF (fun hF => ?_) (fun hF => ?_)
  · refine ww_bipush cx dX7_entails_22 bc_m2 ?_
    exact ww_rip hE dX7_entails_24 hF
  · refine ww_aload_n cx dX7_entails_11 rfl 0 rfl ?_
    refine gf_X7_19 cx dX7_entails_12 ?_
    refine ww_iload_n cx dX7_entails_15 rfl 2 rfl ?_
    refine ww_V1_pi kv_X7_101 rfl cx ((isTab_3).1) ⟨Nat.le_of_ble_eq_true rfl, Nat.le_of_ble_eq_true rfl⟩ (Nat.le_of_ble_eq_true rfl) dX7_entails_16 (kX6_hasClaim G (isTab_3)) hF (fun r3 hF => ?_)
    refine ww_if_ne cx dX7_entails_19 (tgt := 25) rfl hF (fun hF => ?_) (fun hF => ?_)
    · refine ww_aload_n cx dX7_entails_25 rfl 0 rfl ?_
      refine gf_X7_19 cx dX7_entails_26 ?_
      refine gf_X7_112 cx (isTab_3) dX7_entails_29 ?_
      refine ww_iload_n cx dX7_entails_32 rfl 2 rfl ?_
      refine ww_iald (N := 12) cx (ar_X6_9 isTab_3) dX7_entails_33 hF (fun hF => ?_)
      refine ww_aload_n cx dX7_entails_34 rfl 0 rfl ?_
      refine gf_X7_19 cx dX7_entails_35 ?_
      refine gf_X7_112 cx (isTab_3) dX7_entails_38 ?_
      refine ww_iload_n cx dX7_entails_41 rfl 1 rfl ?_
      refine ww_iald (N := 12) cx (ar_X6_9 isTab_3) dX7_entails_42 hF (fun hF => ?_)
      refine ww_iconst cx dX7_entails_43 ic_m1 ?_
      refine ww_ixor cx dX7_entails_44 ?_
      refine ww_iand cx dX7_entails_45 ?_
      refine ww_if_ne cx dX7_entails_46 (tgt := 53) rfl hF (fun hF => ?_) (fun hF => ?_)
      · refine ww_iconst cx dX7_entails_53 ic_0 ?_
        exact ww_sub [] rfl (hb54 _ hF)
      · refine ww_iconst cx dX7_entails_49 ic_1 ?_
        refine ww_goto cx dX7_entails_50 (tgt := 54) rfl ?_
        exact ww_sub [] rfl (hb54 _ hF)
    · refine ww_bipush cx dX7_entails_22 bc_m2 ?_
      exact ww_rip hE dX7_entails_24 hF
theorem dX7_feed_0 : decode cX7_feed 0 = .ok (.aload_n 0, 1) := by decide +kernel
theorem dX7_feed_1 : decode cX7_feed 1 = .ok (.getfield 10, 3) := by decide +kernel
theorem dX7_feed_4 : decode cX7_feed 4 = .ok (.getfield 76, 3) := by decide +kernel
theorem dX7_feed_7 : decode cX7_feed 7 = .ok (.bipush 20, 2) := by decide +kernel
theorem dX7_feed_9 : decode cX7_feed 9 = .ok (.iadd, 1) := by decide +kernel
theorem dX7_feed_10 : decode cX7_feed 10 = .ok (.sipush 1600, 3) := by decide +kernel
theorem dX7_feed_13 : decode cX7_feed 13 = .ok (.if_icmp .le 5, 3) := by decide +kernel
theorem dX7_feed_16 : decode cX7_feed 16 = .ok (.iconst (-1), 1) := by decide +kernel
theorem dX7_feed_17 : decode cX7_feed 17 = .ok (.ireturn, 1) := by decide +kernel
theorem dX7_feed_18 : decode cX7_feed 18 = .ok (.aload_n 0, 1) := by decide +kernel
theorem dX7_feed_19 : decode cX7_feed 19 = .ok (.getfield 10, 3) := by decide +kernel
theorem dX7_feed_22 : decode cX7_feed 22 = .ok (.iload_n 1, 1) := by decide +kernel
theorem dX7_feed_23 : decode cX7_feed 23 = .ok (.invokevirtual 80, 3) := by decide +kernel
theorem dX7_feed_26 : decode cX7_feed 26 = .ok (.aload_n 0, 1) := by decide +kernel
theorem dX7_feed_27 : decode cX7_feed 27 = .ok (.getfield 10, 3) := by decide +kernel
theorem dX7_feed_30 : decode cX7_feed 30 = .ok (.iload_n 2, 1) := by decide +kernel
theorem dX7_feed_31 : decode cX7_feed 31 = .ok (.invokevirtual 80, 3) := by decide +kernel
theorem dX7_feed_34 : decode cX7_feed 34 = .ok (.aload_n 0, 1) := by decide +kernel
theorem dX7_feed_35 : decode cX7_feed 35 = .ok (.getfield 10, 3) := by decide +kernel
theorem dX7_feed_38 : decode cX7_feed 38 = .ok (.iload_n 3, 1) := by decide +kernel
theorem dX7_feed_39 : decode cX7_feed 39 = .ok (.invokevirtual 80, 3) := by decide +kernel
theorem dX7_feed_42 : decode cX7_feed 42 = .ok (.aload_n 0, 1) := by decide +kernel
theorem dX7_feed_43 : decode cX7_feed 43 = .ok (.getfield 10, 3) := by decide +kernel
theorem dX7_feed_46 : decode cX7_feed 46 = .ok (.iload 4, 2) := by decide +kernel
theorem dX7_feed_48 : decode cX7_feed 48 = .ok (.invokevirtual 80, 3) := by decide +kernel
theorem dX7_feed_51 : decode cX7_feed 51 = .ok (.aload_n 0, 1) := by decide +kernel
theorem dX7_feed_52 : decode cX7_feed 52 = .ok (.getfield 10, 3) := by decide +kernel
theorem dX7_feed_55 : decode cX7_feed 55 = .ok (.iload 5, 2) := by decide +kernel
theorem dX7_feed_57 : decode cX7_feed 57 = .ok (.invokevirtual 80, 3) := by decide +kernel
theorem dX7_feed_60 : decode cX7_feed 60 = .ok (.aload_n 0, 1) := by decide +kernel
theorem dX7_feed_61 : decode cX7_feed 61 = .ok (.getfield 10, 3) := by decide +kernel
theorem dX7_feed_64 : decode cX7_feed 64 = .ok (.getfield 76, 3) := by decide +kernel
theorem dX7_feed_67 : decode cX7_feed 67 = .ok (.ireturn, 1) := by decide +kernel
set_option maxRecDepth 4000 in
theorem kX7_feed (G : GT) {σ : St} {a1 : Int32} {a2 : Int32} {a3 : Int32} {a4 : Int32} {a5 : Int32} : ∀ (r : Int32) (σo : St) , fX7_feed σ a1 a2 a3 a4 a5 = some (r, σo) → MCt G 2 yX7_feed cX7_feed 6 (some .int) [.ref (gad G 0), .int a1, .int a2, .int a3, .int a4, .int a5] σ (some (.int r)) σo := by
  intro r σo hF
  refine met_i (by decide) (Nat.le_of_ble_eq_true rfl) (fun X cx hE => ?_)
  have cx : Cx G X RX7 cX7_feed 6 2 := cx
  unfold fX7_feed at hF
  show WW G X 6 σ [(0, .ref (gad G 0)), (1, .int a1), (2, .int a2), (3, .int a3), (4, .int a4), (5, .int a5)] 0 []
  refine ww_aload_n cx dX7_feed_0 rfl 0 rfl ?_
  refine gf_X7_10 cx dX7_feed_1 ?_
  refine gf_X7_76 cx dX7_feed_4 ?_
  refine ww_bipush cx dX7_feed_7 bc_20 ?_
  refine ww_iadd cx dX7_feed_9 ?_
  refine ww_sipush cx dX7_feed_10 sc_1600 ?_
  refine ww_icmp_le cx dX7_feed_13 (tgt := 18) rfl hF (fun hF => ?_) (fun hF => ?_)
  · refine ww_aload_n cx dX7_feed_18 rfl 0 rfl ?_
    refine gf_X7_10 cx dX7_feed_19 ?_
    refine ww_iload_n cx dX7_feed_22 rfl 1 rfl ?_
    refine ww_V1_sv kv_X7_80 rfl cx sh_1 ⟨Nat.le_of_ble_eq_true rfl, Nat.le_of_ble_eq_true rfl⟩ (Nat.le_of_ble_eq_true rfl) dX7_feed_23 (kX2_append G) hF (fun σ1 hF => ?_)
    refine ww_aload_n cx dX7_feed_26 rfl 0 rfl ?_
    refine gf_X7_10 cx dX7_feed_27 ?_
    refine ww_iload_n cx dX7_feed_30 rfl 2 rfl ?_
    refine ww_V1_sv kv_X7_80 rfl cx sh_1 ⟨Nat.le_of_ble_eq_true rfl, Nat.le_of_ble_eq_true rfl⟩ (Nat.le_of_ble_eq_true rfl) dX7_feed_31 (kX2_append G) hF (fun σ2 hF => ?_)
    refine ww_aload_n cx dX7_feed_34 rfl 0 rfl ?_
    refine gf_X7_10 cx dX7_feed_35 ?_
    refine ww_iload_n cx dX7_feed_38 rfl 3 rfl ?_
    refine ww_V1_sv kv_X7_80 rfl cx sh_1 ⟨Nat.le_of_ble_eq_true rfl, Nat.le_of_ble_eq_true rfl⟩ (Nat.le_of_ble_eq_true rfl) dX7_feed_39 (kX2_append G) hF (fun σ3 hF => ?_)
    refine ww_aload_n cx dX7_feed_42 rfl 0 rfl ?_
    refine gf_X7_10 cx dX7_feed_43 ?_
    refine ww_iload cx dX7_feed_46 4 rfl ?_
    refine ww_V1_sv kv_X7_80 rfl cx sh_1 ⟨Nat.le_of_ble_eq_true rfl, Nat.le_of_ble_eq_true rfl⟩ (Nat.le_of_ble_eq_true rfl) dX7_feed_48 (kX2_append G) hF (fun σ4 hF => ?_)
    refine ww_aload_n cx dX7_feed_51 rfl 0 rfl ?_
    refine gf_X7_10 cx dX7_feed_52 ?_
    refine ww_iload cx dX7_feed_55 5 rfl ?_
    refine ww_V1_sv kv_X7_80 rfl cx sh_1 ⟨Nat.le_of_ble_eq_true rfl, Nat.le_of_ble_eq_true rfl⟩ (Nat.le_of_ble_eq_true rfl) dX7_feed_57 (kX2_append G) hF (fun σ5 hF => ?_)
    refine ww_aload_n cx dX7_feed_60 rfl 0 rfl ?_
    refine gf_X7_10 cx dX7_feed_61 ?_
    refine gf_X7_76 cx dX7_feed_64 ?_
    exact ww_ris hE dX7_feed_67 hF
  · refine ww_iconst cx dX7_feed_16 ic_m1 ?_
    exact ww_ris hE dX7_feed_17 hF
theorem dX7_guest_0 : decode cX7_guest 0 = .ok (.aload_n 0, 1) := by decide +kernel
theorem dX7_guest_1 : decode cX7_guest 1 = .ok (.getfield 19, 3) := by decide +kernel
theorem dX7_guest_4 : decode cX7_guest 4 = .ok (.iload_n 1, 1) := by decide +kernel
theorem dX7_guest_5 : decode cX7_guest 5 = .ok (.invokevirtual 137, 3) := by decide +kernel
theorem dX7_guest_8 : decode cX7_guest 8 = .ok (.ifCond .ne 6, 3) := by decide +kernel
theorem dX7_guest_11 : decode cX7_guest 11 = .ok (.bipush (-2), 2) := by decide +kernel
theorem dX7_guest_13 : decode cX7_guest 13 = .ok (.ireturn, 1) := by decide +kernel
theorem dX7_guest_14 : decode cX7_guest 14 = .ok (.iload_n 2, 1) := by decide +kernel
theorem dX7_guest_15 : decode cX7_guest 15 = .ok (.tableswitch 54 0 2 #[25, 35, 45], 25) := by decide +kernel
theorem dX7_guest_40 : decode cX7_guest 40 = .ok (.aload_n 0, 1) := by decide +kernel
theorem dX7_guest_41 : decode cX7_guest 41 = .ok (.getfield 19, 3) := by decide +kernel
theorem dX7_guest_44 : decode cX7_guest 44 = .ok (.getfield 140, 3) := by decide +kernel
theorem dX7_guest_47 : decode cX7_guest 47 = .ok (.iload_n 1, 1) := by decide +kernel
theorem dX7_guest_48 : decode cX7_guest 48 = .ok (.iaload, 1) := by decide +kernel
theorem dX7_guest_49 : decode cX7_guest 49 = .ok (.ireturn, 1) := by decide +kernel
theorem dX7_guest_50 : decode cX7_guest 50 = .ok (.aload_n 0, 1) := by decide +kernel
theorem dX7_guest_51 : decode cX7_guest 51 = .ok (.getfield 19, 3) := by decide +kernel
theorem dX7_guest_54 : decode cX7_guest 54 = .ok (.getfield 143, 3) := by decide +kernel
theorem dX7_guest_57 : decode cX7_guest 57 = .ok (.iload_n 1, 1) := by decide +kernel
theorem dX7_guest_58 : decode cX7_guest 58 = .ok (.iaload, 1) := by decide +kernel
theorem dX7_guest_59 : decode cX7_guest 59 = .ok (.ireturn, 1) := by decide +kernel
theorem dX7_guest_60 : decode cX7_guest 60 = .ok (.aload_n 0, 1) := by decide +kernel
theorem dX7_guest_61 : decode cX7_guest 61 = .ok (.getfield 19, 3) := by decide +kernel
theorem dX7_guest_64 : decode cX7_guest 64 = .ok (.iload_n 1, 1) := by decide +kernel
theorem dX7_guest_65 : decode cX7_guest 65 = .ok (.invokevirtual 146, 3) := by decide +kernel
theorem dX7_guest_68 : decode cX7_guest 68 = .ok (.ireturn, 1) := by decide +kernel
theorem dX7_guest_69 : decode cX7_guest 69 = .ok (.bipush (-2), 2) := by decide +kernel
theorem dX7_guest_71 : decode cX7_guest 71 = .ok (.ireturn, 1) := by decide +kernel
set_option maxRecDepth 4000 in
theorem kX7_guest (G : GT) {σ : St} {a1 : Int32} {a2 : Int32} : ∀ (r : Int32) , fX7_guest σ a1 a2 = some r → MCt G 2 yX7_guest cX7_guest 3 (some .int) [.ref (gad G 0), .int a1, .int a2] σ (some (.int r)) σ := by
  intro r hF
  refine met_i (by decide) (Nat.le_of_ble_eq_true rfl) (fun X cx hE => ?_)
  have cx : Cx G X RX7 cX7_guest 3 2 := cx
  unfold fX7_guest at hF
  show WW G X 3 σ [(0, .ref (gad G 0)), (1, .int a1), (2, .int a2)] 0 []
  refine ww_aload_n cx dX7_guest_0 rfl 0 rfl ?_
  refine gf_X7_19 cx dX7_guest_1 ?_
  refine ww_iload_n cx dX7_guest_4 rfl 1 rfl ?_
  refine ww_V1_pi kv_X7_137 rfl cx ((isTab_3).1) ⟨Nat.le_of_ble_eq_true rfl, Nat.le_of_ble_eq_true rfl⟩ (Nat.le_of_ble_eq_true rfl) dX7_guest_5 (kX6_hasGuest G (isTab_3)) hF (fun r1 hF => ?_)
  refine ww_if_ne cx dX7_guest_8 (tgt := 14) rfl hF (fun hF => ?_) (fun hF => ?_)
  · refine ww_iload_n cx dX7_guest_14 rfl 2 rfl ?_
    by_cases e0 : a2 = 0
    · replace hF := it_t e0 hF
      refine ww_tsIn (v := 0) (tgt := 40) cx dX7_guest_15 e0 (by decide) (by decide) rfl rfl ?_
      refine ww_aload_n cx dX7_guest_40 rfl 0 rfl ?_
      refine gf_X7_19 cx dX7_guest_41 ?_
      refine gf_X7_140 cx (isTab_3) dX7_guest_44 ?_
      refine ww_iload_n cx dX7_guest_47 rfl 1 rfl ?_
      refine ww_iald (N := 5) cx (ar_X6_12 isTab_3) dX7_guest_48 hF (fun hF => ?_)
      exact ww_rip hE dX7_guest_49 hF
    replace hF := it_f e0 hF
    by_cases e1 : a2 = 1
    · replace hF := it_t e1 hF
      refine ww_tsIn (v := 1) (tgt := 50) cx dX7_guest_15 e1 (by decide) (by decide) rfl rfl ?_
      refine ww_aload_n cx dX7_guest_50 rfl 0 rfl ?_
      refine gf_X7_19 cx dX7_guest_51 ?_
      refine gf_X7_143 cx (isTab_3) dX7_guest_54 ?_
      refine ww_iload_n cx dX7_guest_57 rfl 1 rfl ?_
      refine ww_iald (N := 5) cx (ar_X6_13 isTab_3) dX7_guest_58 hF (fun hF => ?_)
      exact ww_rip hE dX7_guest_59 hF
    replace hF := it_f e1 hF
    by_cases e2 : a2 = 2
    · replace hF := it_t e2 hF
      refine ww_tsIn (v := 2) (tgt := 60) cx dX7_guest_15 e2 (by decide) (by decide) rfl rfl ?_
      refine ww_aload_n cx dX7_guest_60 rfl 0 rfl ?_
      refine gf_X7_19 cx dX7_guest_61 ?_
      refine ww_iload_n cx dX7_guest_64 rfl 1 rfl ?_
      refine ww_V1_pi kv_X7_146 rfl cx ((isTab_3).1) ⟨Nat.le_of_ble_eq_true rfl, Nat.le_of_ble_eq_true rfl⟩ (Nat.le_of_ble_eq_true rfl) dX7_guest_65 (kX6_canDo G (isTab_3)) hF (fun r2 hF => ?_)
      exact ww_rip hE dX7_guest_68 hF
    replace hF := it_f e2 hF
    refine ww_tsOut (tgt := 69) cx dX7_guest_15 (ts_out3 e0 e1 e2) rfl ?_
    refine ww_bipush cx dX7_guest_69 bc_m2 ?_
    exact ww_rip hE dX7_guest_71 hF
  · refine ww_bipush cx dX7_guest_11 bc_m2 ?_
    exact ww_rip hE dX7_guest_13 hF
theorem dX7_holds_0 : decode cX7_holds 0 = .ok (.aload_n 0, 1) := by decide +kernel
theorem dX7_holds_1 : decode cX7_holds 1 = .ok (.getfield 19, 3) := by decide +kernel
theorem dX7_holds_4 : decode cX7_holds 4 = .ok (.iload_n 1, 1) := by decide +kernel
theorem dX7_holds_5 : decode cX7_holds 5 = .ok (.invokevirtual 101, 3) := by decide +kernel
theorem dX7_holds_8 : decode cX7_holds 8 = .ok (.ifCond .eq 15, 3) := by decide +kernel
theorem dX7_holds_11 : decode cX7_holds 11 = .ok (.aload_n 0, 1) := by decide +kernel
theorem dX7_holds_12 : decode cX7_holds 12 = .ok (.getfield 19, 3) := by decide +kernel
theorem dX7_holds_15 : decode cX7_holds 15 = .ok (.getfield 112, 3) := by decide +kernel
theorem dX7_holds_18 : decode cX7_holds 18 = .ok (.iload_n 1, 1) := by decide +kernel
theorem dX7_holds_19 : decode cX7_holds 19 = .ok (.iaload, 1) := by decide +kernel
theorem dX7_holds_20 : decode cX7_holds 20 = .ok (.goto 5, 3) := by decide +kernel
theorem dX7_holds_23 : decode cX7_holds 23 = .ok (.bipush (-2), 2) := by decide +kernel
theorem dX7_holds_25 : decode cX7_holds 25 = .ok (.ireturn, 1) := by decide +kernel
set_option maxRecDepth 4000 in
theorem kX7_holds (G : GT) {σ : St} {a1 : Int32} : ∀ (r : Int32) , fX7_holds σ a1 = some r → MCt G 2 yX7_holds cX7_holds 2 (some .int) [.ref (gad G 0), .int a1] σ (some (.int r)) σ := by
  intro r hF
  refine met_i (by decide) (Nat.le_of_ble_eq_true rfl) (fun X cx hE => ?_)
  have cx : Cx G X RX7 cX7_holds 2 2 := cx
  unfold fX7_holds at hF
  show WW G X 2 σ [(0, .ref (gad G 0)), (1, .int a1)] 0 []
  refine ww_aload_n cx dX7_holds_0 rfl 0 rfl ?_
  refine gf_X7_19 cx dX7_holds_1 ?_
  refine ww_iload_n cx dX7_holds_4 rfl 1 rfl ?_
  refine ww_V1_pi kv_X7_101 rfl cx ((isTab_3).1) ⟨Nat.le_of_ble_eq_true rfl, Nat.le_of_ble_eq_true rfl⟩ (Nat.le_of_ble_eq_true rfl) dX7_holds_5 (kX6_hasClaim G (isTab_3)) hF (fun r1 hF => ?_)
  refine ww_if_eq cx dX7_holds_8 (tgt := 23) rfl hF (fun hF => ?_) (fun hF => ?_)
  · refine ww_bipush cx dX7_holds_23 bc_m2 ?_
    exact ww_rip hE dX7_holds_25 hF
  · refine ww_aload_n cx dX7_holds_11 rfl 0 rfl ?_
    refine gf_X7_19 cx dX7_holds_12 ?_
    refine gf_X7_112 cx (isTab_3) dX7_holds_15 ?_
    refine ww_iload_n cx dX7_holds_18 rfl 1 rfl ?_
    refine ww_iald (N := 12) cx (ar_X6_9 isTab_3) dX7_holds_19 hF (fun hF => ?_)
    refine ww_goto cx dX7_holds_20 (tgt := 25) rfl ?_
    exact ww_rip hE dX7_holds_25 hF
theorem dX7_lowestBit_0 : decode cX7_lowestBit 0 = .ok (.iload_n 0, 1) := by decide +kernel
theorem dX7_lowestBit_1 : decode cX7_lowestBit 1 = .ok (.ifCond .ne 7, 3) := by decide +kernel
theorem dX7_lowestBit_4 : decode cX7_lowestBit 4 = .ok (.iconst (-1), 1) := by decide +kernel
theorem dX7_lowestBit_5 : decode cX7_lowestBit 5 = .ok (.goto 12, 3) := by decide +kernel
theorem dX7_lowestBit_8 : decode cX7_lowestBit 8 = .ok (.iload_n 0, 1) := by decide +kernel
theorem dX7_lowestBit_9 : decode cX7_lowestBit 9 = .ok (.iload_n 0, 1) := by decide +kernel
theorem dX7_lowestBit_10 : decode cX7_lowestBit 10 = .ok (.ineg, 1) := by decide +kernel
theorem dX7_lowestBit_11 : decode cX7_lowestBit 11 = .ok (.iand, 1) := by decide +kernel
theorem dX7_lowestBit_12 : decode cX7_lowestBit 12 = .ok (.iconst 1, 1) := by decide +kernel
theorem dX7_lowestBit_13 : decode cX7_lowestBit 13 = .ok (.isub, 1) := by decide +kernel
theorem dX7_lowestBit_14 : decode cX7_lowestBit 14 = .ok (.invokestatic 115, 3) := by decide +kernel
theorem dX7_lowestBit_17 : decode cX7_lowestBit 17 = .ok (.ireturn, 1) := by decide +kernel
set_option maxRecDepth 4000 in
theorem kX7_lowestBit (G : GT) {σ : St} {a0 : Int32} : ∀ (r : Int32) , fX7_lowestBit a0 = some r → MCt G 2 yX7_lowestBit cX7_lowestBit 1 (some .int) [.int a0] σ (some (.int r)) σ := by
  intro r hF
  refine met_i (by decide) (Nat.le_of_ble_eq_true rfl) (fun X cx hE => ?_)
  have cx : Cx G X RX7 cX7_lowestBit 1 2 := cx
  unfold fX7_lowestBit at hF
  show WW G X 1 σ [(0, .int a0)] 0 []
  refine ww_iload_n cx dX7_lowestBit_0 rfl 0 rfl ?_
  refine ww_if_ne cx dX7_lowestBit_1 (tgt := 8) rfl hF (fun hF => ?_) (fun hF => ?_)
  · refine ww_iload_n cx dX7_lowestBit_8 rfl 0 rfl ?_
    refine ww_iload_n cx dX7_lowestBit_9 rfl 0 rfl ?_
    refine ww_ineg cx dX7_lowestBit_10 ?_
    refine ww_iand cx dX7_lowestBit_11 ?_
    refine ww_iconst cx dX7_lowestBit_12 ic_1 ?_
    refine ww_isub cx dX7_lowestBit_13 ?_
    refine ww_S1_pi kv_X7_115 cx ⟨Nat.le_of_ble_eq_true rfl, Nat.le_of_ble_eq_true rfl⟩ (Nat.le_of_ble_eq_true rfl) dX7_lowestBit_14 (kJ6_bitCount_0f7a4 G) hF (fun r1 hF => ?_)
    exact ww_rip hE dX7_lowestBit_17 hF
  · refine ww_iconst cx dX7_lowestBit_4 ic_m1 ?_
    refine ww_goto cx dX7_lowestBit_5 (tgt := 17) rfl ?_
    exact ww_rip hE dX7_lowestBit_17 hF
theorem dX7_outcome_0 : decode cX7_outcome 0 = .ok (.aload_n 0, 1) := by decide +kernel
theorem dX7_outcome_1 : decode cX7_outcome 1 = .ok (.getfield 19, 3) := by decide +kernel
theorem dX7_outcome_4 : decode cX7_outcome 4 = .ok (.iload_n 1, 1) := by decide +kernel
theorem dX7_outcome_5 : decode cX7_outcome 5 = .ok (.invokevirtual 101, 3) := by decide +kernel
theorem dX7_outcome_8 : decode cX7_outcome 8 = .ok (.ifCond .eq 10, 3) := by decide +kernel
theorem dX7_outcome_11 : decode cX7_outcome 11 = .ok (.iload_n 2, 1) := by decide +kernel
theorem dX7_outcome_12 : decode cX7_outcome 12 = .ok (.invokestatic 270, 3) := by decide +kernel
theorem dX7_outcome_15 : decode cX7_outcome 15 = .ok (.ifCond .ne 6, 3) := by decide +kernel
theorem dX7_outcome_18 : decode cX7_outcome 18 = .ok (.bipush (-2), 2) := by decide +kernel
theorem dX7_outcome_20 : decode cX7_outcome 20 = .ok (.ireturn, 1) := by decide +kernel
theorem dX7_outcome_21 : decode cX7_outcome 21 = .ok (.aload_n 0, 1) := by decide +kernel
theorem dX7_outcome_22 : decode cX7_outcome 22 = .ok (.getfield 72, 3) := by decide +kernel
theorem dX7_outcome_25 : decode cX7_outcome 25 = .ok (.aload_n 0, 1) := by decide +kernel
theorem dX7_outcome_26 : decode cX7_outcome 26 = .ok (.getfield 19, 3) := by decide +kernel
theorem dX7_outcome_29 : decode cX7_outcome 29 = .ok (.iload_n 1, 1) := by decide +kernel
theorem dX7_outcome_30 : decode cX7_outcome 30 = .ok (.iload_n 2, 1) := by decide +kernel
theorem dX7_outcome_31 : decode cX7_outcome 31 = .ok (.invokevirtual 273, 3) := by decide +kernel
theorem dX7_outcome_34 : decode cX7_outcome 34 = .ok (.ireturn, 1) := by decide +kernel
set_option maxRecDepth 4000 in
theorem kX7_outcome (G : GT) {σ : St} {a1 : Int32} {a2 : Int32} : ∀ (r : Int32) (σo : St) , fX7_outcome σ a1 a2 = some (r, σo) → MCt G 2 yX7_outcome cX7_outcome 3 (some .int) [.ref (gad G 0), .int a1, .int a2] σ (some (.int r)) σo := by
  intro r σo hF
  refine met_i (by decide) (Nat.le_of_ble_eq_true rfl) (fun X cx hE => ?_)
  have cx : Cx G X RX7 cX7_outcome 3 2 := cx
  unfold fX7_outcome at hF
  show WW G X 3 σ [(0, .ref (gad G 0)), (1, .int a1), (2, .int a2)] 0 []
  refine ww_aload_n cx dX7_outcome_0 rfl 0 rfl ?_
  refine gf_X7_19 cx dX7_outcome_1 ?_
  refine ww_iload_n cx dX7_outcome_4 rfl 1 rfl ?_
  refine ww_V1_pi kv_X7_101 rfl cx ((isTab_3).1) ⟨Nat.le_of_ble_eq_true rfl, Nat.le_of_ble_eq_true rfl⟩ (Nat.le_of_ble_eq_true rfl) dX7_outcome_5 (kX6_hasClaim G (isTab_3)) hF (fun r1 hF => ?_)
  refine ww_if_eq cx dX7_outcome_8 (tgt := 18) rfl hF (fun hF => ?_) (fun hF => ?_)
  · refine ww_bipush cx dX7_outcome_18 bc_m2 ?_
    exact ww_ris hE dX7_outcome_20 hF
  · refine ww_iload_n cx dX7_outcome_11 rfl 2 rfl ?_
    refine ww_S1_pi kv_X7_270 cx ⟨Nat.le_of_ble_eq_true rfl, Nat.le_of_ble_eq_true rfl⟩ (Nat.le_of_ble_eq_true rfl) dX7_outcome_12 (kX7_isBit G) hF (fun r2 hF => ?_)
    refine ww_if_ne cx dX7_outcome_15 (tgt := 21) rfl hF (fun hF => ?_) (fun hF => ?_)
    · refine ww_aload_n cx dX7_outcome_21 rfl 0 rfl ?_
      refine gf_X7_72 cx dX7_outcome_22 ?_
      refine ww_aload_n cx dX7_outcome_25 rfl 0 rfl ?_
      refine gf_X7_19 cx dX7_outcome_26 ?_
      refine ww_iload_n cx dX7_outcome_29 rfl 1 rfl ?_
      refine ww_iload_n cx dX7_outcome_30 rfl 2 rfl ?_
      refine ww_V3_si kv_X7_273 rfl cx sh_60 ⟨Nat.le_of_ble_eq_true rfl, Nat.le_of_ble_eq_true rfl⟩ (Nat.le_of_ble_eq_true rfl) dX7_outcome_31 (kX0_worldThatComes G (isTab_3)) hF (fun r3 σ4 hF => ?_)
      exact ww_ris hE dX7_outcome_34 hF
    · refine ww_bipush cx dX7_outcome_18 bc_m2 ?_
      exact ww_ris hE dX7_outcome_20 hF
theorem dX7_partOfFraction_0 : decode cX7_partOfFraction 0 = .ok (.iload_n 0, 1) := by decide +kernel
theorem dX7_partOfFraction_1 : decode cX7_partOfFraction 1 = .ok (.iload_n 1, 1) := by decide +kernel
theorem dX7_partOfFraction_2 : decode cX7_partOfFraction 2 = .ok (.invokestatic 390, 3) := by decide +kernel
theorem dX7_partOfFraction_5 : decode cX7_partOfFraction 5 = .ok (.istore_n 3, 1) := by decide +kernel
theorem dX7_partOfFraction_6 : decode cX7_partOfFraction 6 = .ok (.iload_n 1, 1) := by decide +kernel
theorem dX7_partOfFraction_7 : decode cX7_partOfFraction 7 = .ok (.ifCond .le 7, 3) := by decide +kernel
theorem dX7_partOfFraction_10 : decode cX7_partOfFraction 10 = .ok (.iload_n 3, 1) := by decide +kernel
theorem dX7_partOfFraction_11 : decode cX7_partOfFraction 11 = .ok (.ifCond .gt 13, 3) := by decide +kernel
theorem dX7_partOfFraction_14 : decode cX7_partOfFraction 14 = .ok (.iload_n 2, 1) := by decide +kernel
theorem dX7_partOfFraction_15 : decode cX7_partOfFraction 15 = .ok (.ifCond .ne 7, 3) := by decide +kernel
theorem dX7_partOfFraction_18 : decode cX7_partOfFraction 18 = .ok (.iconst 0, 1) := by decide +kernel
theorem dX7_partOfFraction_19 : decode cX7_partOfFraction 19 = .ok (.goto 4, 3) := by decide +kernel
theorem dX7_partOfFraction_22 : decode cX7_partOfFraction 22 = .ok (.iconst 1, 1) := by decide +kernel
theorem dX7_partOfFraction_23 : decode cX7_partOfFraction 23 = .ok (.ireturn, 1) := by decide +kernel
theorem dX7_partOfFraction_24 : decode cX7_partOfFraction 24 = .ok (.iload_n 2, 1) := by decide +kernel
theorem dX7_partOfFraction_25 : decode cX7_partOfFraction 25 = .ok (.ifCond .ne 9, 3) := by decide +kernel
theorem dX7_partOfFraction_28 : decode cX7_partOfFraction 28 = .ok (.iload_n 0, 1) := by decide +kernel
theorem dX7_partOfFraction_29 : decode cX7_partOfFraction 29 = .ok (.iload_n 3, 1) := by decide +kernel
theorem dX7_partOfFraction_30 : decode cX7_partOfFraction 30 = .ok (.idiv, 1) := by decide +kernel
theorem dX7_partOfFraction_31 : decode cX7_partOfFraction 31 = .ok (.goto 6, 3) := by decide +kernel
theorem dX7_partOfFraction_34 : decode cX7_partOfFraction 34 = .ok (.iload_n 1, 1) := by decide +kernel
theorem dX7_partOfFraction_35 : decode cX7_partOfFraction 35 = .ok (.iload_n 3, 1) := by decide +kernel
theorem dX7_partOfFraction_36 : decode cX7_partOfFraction 36 = .ok (.idiv, 1) := by decide +kernel
theorem dX7_partOfFraction_37 : decode cX7_partOfFraction 37 = .ok (.ireturn, 1) := by decide +kernel
set_option maxRecDepth 4000 in
theorem kX7_partOfFraction (G : GT) {σ : St} {a0 : Int32} {a1 : Int32} {a2 : Int32} : ∀ (r : Int32) , fX7_partOfFraction a0 a1 a2 = some r → MCt G 2 yX7_partOfFraction cX7_partOfFraction 4 (some .int) [.int a0, .int a1, .int a2] σ (some (.int r)) σ := by
  intro r hF
  refine met_i (by decide) (Nat.le_of_ble_eq_true rfl) (fun X cx hE => ?_)
  have cx : Cx G X RX7 cX7_partOfFraction 4 2 := cx
  have hb14 : ∀ (x2 : Int32) , fX7_partOfFraction_b14 x2 = some r → WW G X 4 σ [(2, .int x2)] 14 [] := by
    intro x2 hF
    unfold fX7_partOfFraction_b14 at hF
    refine ww_iload_n cx dX7_partOfFraction_14 rfl 0 rfl ?_
    refine ww_if_ne cx dX7_partOfFraction_15 (tgt := 22) rfl hF (fun hF => ?_) (fun hF => ?_)
    · refine ww_iconst cx dX7_partOfFraction_22 ic_1 ?_
      exact ww_rip hE dX7_partOfFraction_23 hF
    · refine ww_iconst cx dX7_partOfFraction_18 ic_0 ?_
      refine ww_goto cx dX7_partOfFraction_19 (tgt := 23) rfl ?_
      exact ww_rip hE dX7_partOfFraction_23 hF
  unfold fX7_partOfFraction at hF
  show WW G X 4 σ [(0, .int a0), (1, .int a1), (2, .int a2)] 0 []
  refine ww_iload_n cx dX7_partOfFraction_0 rfl 0 rfl ?_
  refine ww_iload_n cx dX7_partOfFraction_1 rfl 1 rfl ?_
  refine ww_S2_pi kv_X7_390 cx ⟨Nat.le_of_ble_eq_true rfl, Nat.le_of_ble_eq_true rfl⟩ (Nat.le_of_ble_eq_true rfl) dX7_partOfFraction_2 (kX7_greatestDivisor G) hF (fun r1 hF => ?_)
  refine ww_istore_n (ks := [0, 1, 2, 3]) (lv' := fun v2 => [(3, .int v2), (0, .int a0), (1, .int a1), (2, .int a2)]) cx dX7_partOfFraction_5 rfl (by decide) hF (fun _ => rfl) (fun v2 hF => ?_)
  refine ww_iload_n cx dX7_partOfFraction_6 rfl 2 rfl ?_
  refine ww_if_le cx dX7_partOfFraction_7 (tgt := 14) rfl hF (fun hF => ?_) (fun hF => ?_)
  · exact ww_sub [3] rfl (hb14 _ hF)
  · refine ww_iload_n cx dX7_partOfFraction_10 rfl 0 rfl ?_
    refine ww_if_gt cx dX7_partOfFraction_11 (tgt := 24) rfl hF (fun hF => ?_) (fun hF => ?_)
    · refine ww_iload_n cx dX7_partOfFraction_24 rfl 3 rfl ?_
      refine ww_if_ne cx dX7_partOfFraction_25 (tgt := 34) rfl hF (fun hF => ?_) (fun hF => ?_)
      · refine ww_iload_n cx dX7_partOfFraction_34 rfl 2 rfl ?_
        refine ww_iload_n cx dX7_partOfFraction_35 rfl 0 rfl ?_
        refine ww_idiv cx dX7_partOfFraction_36 hF (fun hF => ?_)
        exact ww_rip hE dX7_partOfFraction_37 hF
      · refine ww_iload_n cx dX7_partOfFraction_28 rfl 1 rfl ?_
        refine ww_iload_n cx dX7_partOfFraction_29 rfl 0 rfl ?_
        refine ww_idiv cx dX7_partOfFraction_30 hF (fun hF => ?_)
        refine ww_goto cx dX7_partOfFraction_31 (tgt := 37) rfl ?_
        exact ww_rip hE dX7_partOfFraction_37 hF
    · exact ww_sub [3] rfl (hb14 _ hF)
theorem dX7_paste_0 : decode cX7_paste 0 = .ok (.iload_n 1, 1) := by decide +kernel
theorem dX7_paste_1 : decode cX7_paste 1 = .ok (.invokestatic 196, 3) := by decide +kernel
theorem dX7_paste_4 : decode cX7_paste 4 = .ok (.ifCond .eq 10, 3) := by decide +kernel
theorem dX7_paste_7 : decode cX7_paste 7 = .ok (.iload_n 3, 1) := by decide +kernel
theorem dX7_paste_8 : decode cX7_paste 8 = .ok (.invokestatic 196, 3) := by decide +kernel
theorem dX7_paste_11 : decode cX7_paste 11 = .ok (.ifCond .ne 6, 3) := by decide +kernel
theorem dX7_paste_14 : decode cX7_paste 14 = .ok (.bipush (-2), 2) := by decide +kernel
theorem dX7_paste_16 : decode cX7_paste 16 = .ok (.ireturn, 1) := by decide +kernel
theorem dX7_paste_17 : decode cX7_paste 17 = .ok (.aload_n 0, 1) := by decide +kernel
theorem dX7_paste_18 : decode cX7_paste 18 = .ok (.getfield 36, 3) := by decide +kernel
theorem dX7_paste_21 : decode cX7_paste 21 = .ok (.iload_n 1, 1) := by decide +kernel
theorem dX7_paste_22 : decode cX7_paste 22 = .ok (.aaload, 1) := by decide +kernel
theorem dX7_paste_23 : decode cX7_paste 23 = .ok (.astore 6, 2) := by decide +kernel
theorem dX7_paste_25 : decode cX7_paste 25 = .ok (.aload_n 0, 1) := by decide +kernel
theorem dX7_paste_26 : decode cX7_paste 26 = .ok (.getfield 36, 3) := by decide +kernel
theorem dX7_paste_29 : decode cX7_paste 29 = .ok (.iload_n 3, 1) := by decide +kernel
theorem dX7_paste_30 : decode cX7_paste 30 = .ok (.aaload, 1) := by decide +kernel
theorem dX7_paste_31 : decode cX7_paste 31 = .ok (.astore 7, 2) := by decide +kernel
theorem dX7_paste_33 : decode cX7_paste 33 = .ok (.aload 6, 2) := by decide +kernel
theorem dX7_paste_35 : decode cX7_paste 35 = .ok (.getfield 199, 3) := by decide +kernel
theorem dX7_paste_38 : decode cX7_paste 38 = .ok (.ifCond .eq 11, 3) := by decide +kernel
theorem dX7_paste_41 : decode cX7_paste 41 = .ok (.aload 7, 2) := by decide +kernel
theorem dX7_paste_43 : decode cX7_paste 43 = .ok (.getfield 199, 3) := by decide +kernel
theorem dX7_paste_46 : decode cX7_paste 46 = .ok (.ifCond .ne 6, 3) := by decide +kernel
theorem dX7_paste_49 : decode cX7_paste 49 = .ok (.bipush (-6), 2) := by decide +kernel
theorem dX7_paste_51 : decode cX7_paste 51 = .ok (.ireturn, 1) := by decide +kernel
theorem dX7_paste_52 : decode cX7_paste 52 = .ok (.aload 6, 2) := by decide +kernel
theorem dX7_paste_54 : decode cX7_paste 54 = .ok (.getfield 380, 3) := by decide +kernel
theorem dX7_paste_57 : decode cX7_paste 57 = .ok (.aload 7, 2) := by decide +kernel
theorem dX7_paste_59 : decode cX7_paste 59 = .ok (.getfield 380, 3) := by decide +kernel
theorem dX7_paste_62 : decode cX7_paste 62 = .ok (.if_icmp .eq 6, 3) := by decide +kernel
theorem dX7_paste_65 : decode cX7_paste 65 = .ok (.bipush (-8), 2) := by decide +kernel
theorem dX7_paste_67 : decode cX7_paste 67 = .ok (.ireturn, 1) := by decide +kernel
theorem dX7_paste_68 : decode cX7_paste 68 = .ok (.iload_n 2, 1) := by decide +kernel
theorem dX7_paste_69 : decode cX7_paste 69 = .ok (.ifCond .lt 38, 3) := by decide +kernel
theorem dX7_paste_72 : decode cX7_paste 72 = .ok (.iload 4, 2) := by decide +kernel
theorem dX7_paste_74 : decode cX7_paste 74 = .ok (.ifCond .lt 33, 3) := by decide +kernel
theorem dX7_paste_77 : decode cX7_paste 77 = .ok (.iload 5, 2) := by decide +kernel
theorem dX7_paste_79 : decode cX7_paste 79 = .ok (.ifCond .lt 28, 3) := by decide +kernel
theorem dX7_paste_82 : decode cX7_paste 82 = .ok (.iload 5, 2) := by decide +kernel
theorem dX7_paste_84 : decode cX7_paste 84 = .ok (.aload 6, 2) := by decide +kernel
theorem dX7_paste_86 : decode cX7_paste 86 = .ok (.getfield 338, 3) := by decide +kernel
theorem dX7_paste_89 : decode cX7_paste 89 = .ok (.iload_n 2, 1) := by decide +kernel
theorem dX7_paste_90 : decode cX7_paste 90 = .ok (.isub, 1) := by decide +kernel
theorem dX7_paste_91 : decode cX7_paste 91 = .ok (.if_icmp .gt 16, 3) := by decide +kernel
theorem dX7_paste_94 : decode cX7_paste 94 = .ok (.iload 5, 2) := by decide +kernel
theorem dX7_paste_96 : decode cX7_paste 96 = .ok (.aload 7, 2) := by decide +kernel
theorem dX7_paste_98 : decode cX7_paste 98 = .ok (.getfield 338, 3) := by decide +kernel
theorem dX7_paste_101 : decode cX7_paste 101 = .ok (.iload 4, 2) := by decide +kernel
theorem dX7_paste_103 : decode cX7_paste 103 = .ok (.isub, 1) := by decide +kernel
theorem dX7_paste_104 : decode cX7_paste 104 = .ok (.if_icmp .le 6, 3) := by decide +kernel
theorem dX7_paste_107 : decode cX7_paste 107 = .ok (.bipush (-7), 2) := by decide +kernel
theorem dX7_paste_109 : decode cX7_paste 109 = .ok (.ireturn, 1) := by decide +kernel
theorem dX7_paste_110 : decode cX7_paste 110 = .ok (.aload 6, 2) := by decide +kernel
theorem dX7_paste_112 : decode cX7_paste 112 = .ok (.getfield 341, 3) := by decide +kernel
theorem dX7_paste_115 : decode cX7_paste 115 = .ok (.iload_n 2, 1) := by decide +kernel
theorem dX7_paste_116 : decode cX7_paste 116 = .ok (.aload 7, 2) := by decide +kernel
theorem dX7_paste_118 : decode cX7_paste 118 = .ok (.getfield 341, 3) := by decide +kernel
theorem dX7_paste_121 : decode cX7_paste 121 = .ok (.iload 4, 2) := by decide +kernel
theorem dX7_paste_123 : decode cX7_paste 123 = .ok (.iload 5, 2) := by decide +kernel
theorem dX7_paste_125 : decode cX7_paste 125 = .ok (.invokestatic 383, 3) := by decide +kernel
theorem dX7_paste_128 : decode cX7_paste 128 = .ok (.iconst 0, 1) := by decide +kernel
theorem dX7_paste_129 : decode cX7_paste 129 = .ok (.ireturn, 1) := by decide +kernel
set_option maxRecDepth 4000 in
theorem kX7_paste (G : GT) {σ : St} {a1 : Int32} {a2 : Int32} {a3 : Int32} {a4 : Int32} {a5 : Int32} : ∀ (r : Int32) (σo : St) , fX7_paste σ a1 a2 a3 a4 a5 = some (r, σo) → MCt G 2 yX7_paste cX7_paste 8 (some .int) [.ref (gad G 0), .int a1, .int a2, .int a3, .int a4, .int a5] σ (some (.int r)) σo := by
  intro r σo hF
  refine met_i (by decide) (Nat.le_of_ble_eq_true rfl) (fun X cx hE => ?_)
  have cx : Cx G X RX7 cX7_paste 8 2 := cx
  unfold fX7_paste at hF
  show WW G X 8 σ [(0, .ref (gad G 0)), (1, .int a1), (2, .int a2), (3, .int a3), (4, .int a4), (5, .int a5)] 0 []
  refine ww_iload_n cx dX7_paste_0 rfl 1 rfl ?_
  refine ww_S1_pi kv_X7_196 cx ⟨Nat.le_of_ble_eq_true rfl, Nat.le_of_ble_eq_true rfl⟩ (Nat.le_of_ble_eq_true rfl) dX7_paste_1 (kX7_isSlot G) hF (fun r1 hF => ?_)
  refine ww_if_eq cx dX7_paste_4 (tgt := 14) rfl hF (fun hF => ?_) (fun hF => ?_)
  · refine ww_bipush cx dX7_paste_14 bc_m2 ?_
    exact ww_ris hE dX7_paste_16 hF
  · refine ww_iload_n cx dX7_paste_7 rfl 3 rfl ?_
    refine ww_S1_pi kv_X7_196 cx ⟨Nat.le_of_ble_eq_true rfl, Nat.le_of_ble_eq_true rfl⟩ (Nat.le_of_ble_eq_true rfl) dX7_paste_8 (kX7_isSlot G) hF (fun r2 hF => ?_)
    refine ww_if_ne cx dX7_paste_11 (tgt := 17) rfl hF (fun hF => ?_) (fun hF => ?_)
    · refine ww_aload_n cx dX7_paste_17 rfl 0 rfl ?_
      refine gf_X7_36 cx dX7_paste_18 ?_
      refine ww_iload_n cx dX7_paste_21 rfl 1 rfl ?_
      refine ww_aaldR cx dX7_paste_22 hF (fun k3 hk3 hF => ?_)
      refine ww_astore (ks := [0, 1, 3, 4, 5, 6]) (lv' := [(6, .ref (gad G k3)), (0, .ref (gad G 0)), (2, .int a2), (3, .int a3), (4, .int a4), (5, .int a5)]) cx dX7_paste_23 (by decide) rfl ?_
      refine ww_aload_n cx dX7_paste_25 rfl 1 rfl ?_
      refine gf_X7_36 cx dX7_paste_26 ?_
      refine ww_iload_n cx dX7_paste_29 rfl 3 rfl ?_
      refine ww_aaldR cx dX7_paste_30 hF (fun k4 hk4 hF => ?_)
      refine ww_astore (ks := [0, 1, 3, 5, 6]) (lv' := [(7, .ref (gad G k4)), (6, .ref (gad G k3)), (2, .int a2), (4, .int a4), (5, .int a5)]) cx dX7_paste_31 (by decide) rfl ?_
      refine ww_aload cx dX7_paste_33 1 rfl ?_
      refine gf_X7_199 cx (hk3) dX7_paste_35 ?_
      refine ww_if_eq cx dX7_paste_38 (tgt := 49) rfl hF (fun hF => ?_) (fun hF => ?_)
      · refine ww_bipush cx dX7_paste_49 bc_m6 ?_
        exact ww_ris hE dX7_paste_51 hF
      · refine ww_aload cx dX7_paste_41 0 rfl ?_
        refine gf_X7_199 cx (hk4) dX7_paste_43 ?_
        refine ww_if_ne cx dX7_paste_46 (tgt := 52) rfl hF (fun hF => ?_) (fun hF => ?_)
        · refine ww_aload cx dX7_paste_52 1 rfl ?_
          refine gf_X7_380 cx (hk3) dX7_paste_54 ?_
          refine ww_aload cx dX7_paste_57 0 rfl ?_
          refine gf_X7_380 cx (hk4) dX7_paste_59 ?_
          refine ww_icmp_eq cx dX7_paste_62 (tgt := 68) rfl hF (fun hF => ?_) (fun hF => ?_)
          · refine ww_iload_n cx dX7_paste_68 rfl 2 rfl ?_
            refine ww_if_lt cx dX7_paste_69 (tgt := 107) rfl hF (fun hF => ?_) (fun hF => ?_)
            · refine ww_bipush cx dX7_paste_107 bc_m7 ?_
              exact ww_ris hE dX7_paste_109 hF
            · refine ww_iload cx dX7_paste_72 3 rfl ?_
              refine ww_if_lt cx dX7_paste_74 (tgt := 107) rfl hF (fun hF => ?_) (fun hF => ?_)
              · refine ww_bipush cx dX7_paste_107 bc_m7 ?_
                exact ww_ris hE dX7_paste_109 hF
              · refine ww_iload cx dX7_paste_77 4 rfl ?_
                refine ww_if_lt cx dX7_paste_79 (tgt := 107) rfl hF (fun hF => ?_) (fun hF => ?_)
                · refine ww_bipush cx dX7_paste_107 bc_m7 ?_
                  exact ww_ris hE dX7_paste_109 hF
                · refine ww_iload cx dX7_paste_82 4 rfl ?_
                  refine ww_aload cx dX7_paste_84 1 rfl ?_
                  refine gf_X7_338 cx (hk3) dX7_paste_86 ?_
                  refine ww_iload_n cx dX7_paste_89 rfl 2 rfl ?_
                  refine ww_isub cx dX7_paste_90 ?_
                  refine ww_icmp_gt cx dX7_paste_91 (tgt := 107) rfl hF (fun hF => ?_) (fun hF => ?_)
                  · refine ww_bipush cx dX7_paste_107 bc_m7 ?_
                    exact ww_ris hE dX7_paste_109 hF
                  · refine ww_iload cx dX7_paste_94 4 rfl ?_
                    refine ww_aload cx dX7_paste_96 0 rfl ?_
                    refine gf_X7_338 cx (hk4) dX7_paste_98 ?_
                    refine ww_iload cx dX7_paste_101 3 rfl ?_
                    refine ww_isub cx dX7_paste_103 ?_
                    refine ww_icmp_le cx dX7_paste_104 (tgt := 110) rfl hF (fun hF => ?_) (fun hF => ?_)
                    · refine ww_aload cx dX7_paste_110 1 rfl ?_
                      refine gf_X7_341 cx (hk3) dX7_paste_112 ?_
                      refine ww_iload_n cx dX7_paste_115 rfl 2 rfl ?_
                      refine ww_aload cx dX7_paste_116 0 rfl ?_
                      refine gf_X7_341 cx (hk4) dX7_paste_118 ?_
                      refine ww_iload cx dX7_paste_121 3 rfl ?_
                      refine ww_iload cx dX7_paste_123 4 rfl ?_
                      refine ww_copyJ (N0 := 60) (N1 := 60) cx ml_X7_383 (ar_X4_3 hk3) (ar_X4_3 hk4) (by decide) (Nat.le_of_ble_eq_true rfl) dX7_paste_125 hF (fun σ5 hF => ?_)
                      refine ww_iconst cx dX7_paste_128 ic_0 ?_
                      exact ww_ris hE dX7_paste_129 hF
                    · refine ww_bipush cx dX7_paste_107 bc_m7 ?_
                      exact ww_ris hE dX7_paste_109 hF
          · refine ww_bipush cx dX7_paste_65 bc_m8 ?_
            exact ww_ris hE dX7_paste_67 hF
        · refine ww_bipush cx dX7_paste_49 bc_m6 ?_
          exact ww_ris hE dX7_paste_51 hF
    · refine ww_bipush cx dX7_paste_14 bc_m2 ?_
      exact ww_ris hE dX7_paste_16 hF
theorem dX7_refusalOfSlot_0 : decode cX7_refusalOfSlot 0 = .ok (.aload_n 0, 1) := by decide +kernel
theorem dX7_refusalOfSlot_1 : decode cX7_refusalOfSlot 1 = .ok (.getfield 19, 3) := by decide +kernel
theorem dX7_refusalOfSlot_4 : decode cX7_refusalOfSlot 4 = .ok (.invokevirtual 149, 3) := by decide +kernel
theorem dX7_refusalOfSlot_7 : decode cX7_refusalOfSlot 7 = .ok (.ifCond .eq 10, 3) := by decide +kernel
theorem dX7_refusalOfSlot_10 : decode cX7_refusalOfSlot 10 = .ok (.iload_n 1, 1) := by decide +kernel
theorem dX7_refusalOfSlot_11 : decode cX7_refusalOfSlot 11 = .ok (.invokestatic 196, 3) := by decide +kernel
theorem dX7_refusalOfSlot_14 : decode cX7_refusalOfSlot 14 = .ok (.ifCond .ne 6, 3) := by decide +kernel
theorem dX7_refusalOfSlot_17 : decode cX7_refusalOfSlot 17 = .ok (.bipush (-2), 2) := by decide +kernel
theorem dX7_refusalOfSlot_19 : decode cX7_refusalOfSlot 19 = .ok (.ireturn, 1) := by decide +kernel
theorem dX7_refusalOfSlot_20 : decode cX7_refusalOfSlot 20 = .ok (.aload_n 0, 1) := by decide +kernel
theorem dX7_refusalOfSlot_21 : decode cX7_refusalOfSlot 21 = .ok (.getfield 36, 3) := by decide +kernel
theorem dX7_refusalOfSlot_24 : decode cX7_refusalOfSlot 24 = .ok (.iload_n 1, 1) := by decide +kernel
theorem dX7_refusalOfSlot_25 : decode cX7_refusalOfSlot 25 = .ok (.aaload, 1) := by decide +kernel
theorem dX7_refusalOfSlot_26 : decode cX7_refusalOfSlot 26 = .ok (.getfield 199, 3) := by decide +kernel
theorem dX7_refusalOfSlot_29 : decode cX7_refusalOfSlot 29 = .ok (.ifCond .eq 7, 3) := by decide +kernel
theorem dX7_refusalOfSlot_32 : decode cX7_refusalOfSlot 32 = .ok (.iconst 0, 1) := by decide +kernel
theorem dX7_refusalOfSlot_33 : decode cX7_refusalOfSlot 33 = .ok (.goto 5, 3) := by decide +kernel
theorem dX7_refusalOfSlot_36 : decode cX7_refusalOfSlot 36 = .ok (.bipush (-6), 2) := by decide +kernel
theorem dX7_refusalOfSlot_38 : decode cX7_refusalOfSlot 38 = .ok (.ireturn, 1) := by decide +kernel
set_option maxRecDepth 4000 in
theorem kX7_refusalOfSlot (G : GT) {σ : St} {a1 : Int32} : ∀ (r : Int32) , fX7_refusalOfSlot σ a1 = some r → MCt G 2 yX7_refusalOfSlot cX7_refusalOfSlot 2 (some .int) [.ref (gad G 0), .int a1] σ (some (.int r)) σ := by
  intro r hF
  refine met_i (by decide) (Nat.le_of_ble_eq_true rfl) (fun X cx hE => ?_)
  have cx : Cx G X RX7 cX7_refusalOfSlot 2 2 := cx
  unfold fX7_refusalOfSlot at hF
  show WW G X 2 σ [(0, .ref (gad G 0)), (1, .int a1)] 0 []
  refine ww_aload_n cx dX7_refusalOfSlot_0 rfl 0 rfl ?_
  refine gf_X7_19 cx dX7_refusalOfSlot_1 ?_
  refine ww_V0_pi kv_X7_149 rfl cx ((isTab_3).1) ⟨Nat.le_of_ble_eq_true rfl, Nat.le_of_ble_eq_true rfl⟩ (Nat.le_of_ble_eq_true rfl) dX7_refusalOfSlot_4 (kX6_isTold G (isTab_3)) hF (fun r1 hF => ?_)
  refine ww_if_eq cx dX7_refusalOfSlot_7 (tgt := 17) rfl hF (fun hF => ?_) (fun hF => ?_)
  · refine ww_bipush cx dX7_refusalOfSlot_17 bc_m2 ?_
    exact ww_rip hE dX7_refusalOfSlot_19 hF
  · refine ww_iload_n cx dX7_refusalOfSlot_10 rfl 1 rfl ?_
    refine ww_S1_pi kv_X7_196 cx ⟨Nat.le_of_ble_eq_true rfl, Nat.le_of_ble_eq_true rfl⟩ (Nat.le_of_ble_eq_true rfl) dX7_refusalOfSlot_11 (kX7_isSlot G) hF (fun r2 hF => ?_)
    refine ww_if_ne cx dX7_refusalOfSlot_14 (tgt := 20) rfl hF (fun hF => ?_) (fun hF => ?_)
    · refine ww_aload_n cx dX7_refusalOfSlot_20 rfl 0 rfl ?_
      refine gf_X7_36 cx dX7_refusalOfSlot_21 ?_
      refine ww_iload_n cx dX7_refusalOfSlot_24 rfl 1 rfl ?_
      refine ww_aaldR cx dX7_refusalOfSlot_25 hF (fun k3 hk3 hF => ?_)
      refine gf_X7_199 cx (hk3) dX7_refusalOfSlot_26 ?_
      refine ww_if_eq cx dX7_refusalOfSlot_29 (tgt := 36) rfl hF (fun hF => ?_) (fun hF => ?_)
      · refine ww_bipush cx dX7_refusalOfSlot_36 bc_m6 ?_
        exact ww_rip hE dX7_refusalOfSlot_38 hF
      · refine ww_iconst cx dX7_refusalOfSlot_32 ic_0 ?_
        refine ww_goto cx dX7_refusalOfSlot_33 (tgt := 38) rfl ?_
        exact ww_rip hE dX7_refusalOfSlot_38 hF
    · refine ww_bipush cx dX7_refusalOfSlot_17 bc_m2 ?_
      exact ww_rip hE dX7_refusalOfSlot_19 hF
theorem dX7_row_0 : decode cX7_row 0 = .ok (.iload_n 1, 1) := by decide +kernel
theorem dX7_row_1 : decode cX7_row 1 = .ok (.invokestatic 196, 3) := by decide +kernel
theorem dX7_row_4 : decode cX7_row 4 = .ok (.ifCond .eq 18, 3) := by decide +kernel
theorem dX7_row_7 : decode cX7_row 7 = .ok (.iload_n 2, 1) := by decide +kernel
theorem dX7_row_8 : decode cX7_row 8 = .ok (.ifCond .lt 14, 3) := by decide +kernel
theorem dX7_row_11 : decode cX7_row 11 = .ok (.iload_n 2, 1) := by decide +kernel
theorem dX7_row_12 : decode cX7_row 12 = .ok (.iconst 3, 1) := by decide +kernel
theorem dX7_row_13 : decode cX7_row 13 = .ok (.if_icmp .gt 9, 3) := by decide +kernel
theorem dX7_row_16 : decode cX7_row 16 = .ok (.iload_n 3, 1) := by decide +kernel
theorem dX7_row_17 : decode cX7_row 17 = .ok (.bipush 60, 2) := by decide +kernel
theorem dX7_row_19 : decode cX7_row 19 = .ok (.if_icmp .le 6, 3) := by decide +kernel
theorem dX7_row_22 : decode cX7_row 22 = .ok (.bipush (-2), 2) := by decide +kernel
theorem dX7_row_24 : decode cX7_row 24 = .ok (.ireturn, 1) := by decide +kernel
theorem dX7_row_25 : decode cX7_row 25 = .ok (.iload_n 3, 1) := by decide +kernel
theorem dX7_row_26 : decode cX7_row 26 = .ok (.ifCond .ge 6, 3) := by decide +kernel
theorem dX7_row_29 : decode cX7_row 29 = .ok (.bipush (-3), 2) := by decide +kernel
theorem dX7_row_31 : decode cX7_row 31 = .ok (.ireturn, 1) := by decide +kernel
theorem dX7_row_32 : decode cX7_row 32 = .ok (.aload_n 0, 1) := by decide +kernel
theorem dX7_row_33 : decode cX7_row 33 = .ok (.getfield 36, 3) := by decide +kernel
theorem dX7_row_36 : decode cX7_row 36 = .ok (.iload_n 1, 1) := by decide +kernel
theorem dX7_row_37 : decode cX7_row 37 = .ok (.aaload, 1) := by decide +kernel
theorem dX7_row_38 : decode cX7_row 38 = .ok (.iload_n 2, 1) := by decide +kernel
theorem dX7_row_39 : decode cX7_row 39 = .ok (.iload_n 3, 1) := by decide +kernel
theorem dX7_row_40 : decode cX7_row 40 = .ok (.invokevirtual 373, 3) := by decide +kernel
theorem dX7_row_43 : decode cX7_row 43 = .ok (.iconst 0, 1) := by decide +kernel
theorem dX7_row_44 : decode cX7_row 44 = .ok (.ireturn, 1) := by decide +kernel
set_option maxRecDepth 4000 in
theorem kX7_row (G : GT) {σ : St} {a1 : Int32} {a2 : Int32} {a3 : Int32} : ∀ (r : Int32) (σo : St) , fX7_row σ a1 a2 a3 = some (r, σo) → MCt G 2 yX7_row cX7_row 4 (some .int) [.ref (gad G 0), .int a1, .int a2, .int a3] σ (some (.int r)) σo := by
  intro r σo hF
  refine met_i (by decide) (Nat.le_of_ble_eq_true rfl) (fun X cx hE => ?_)
  have cx : Cx G X RX7 cX7_row 4 2 := cx
  unfold fX7_row at hF
  show WW G X 4 σ [(0, .ref (gad G 0)), (1, .int a1), (2, .int a2), (3, .int a3)] 0 []
  refine ww_iload_n cx dX7_row_0 rfl 1 rfl ?_
  refine ww_S1_pi kv_X7_196 cx ⟨Nat.le_of_ble_eq_true rfl, Nat.le_of_ble_eq_true rfl⟩ (Nat.le_of_ble_eq_true rfl) dX7_row_1 (kX7_isSlot G) hF (fun r1 hF => ?_)
  refine ww_if_eq cx dX7_row_4 (tgt := 22) rfl hF (fun hF => ?_) (fun hF => ?_)
  · refine ww_bipush cx dX7_row_22 bc_m2 ?_
    exact ww_ris hE dX7_row_24 hF
  · refine ww_iload_n cx dX7_row_7 rfl 2 rfl ?_
    refine ww_if_lt cx dX7_row_8 (tgt := 22) rfl hF (fun hF => ?_) (fun hF => ?_)
    · refine ww_bipush cx dX7_row_22 bc_m2 ?_
      exact ww_ris hE dX7_row_24 hF
    · refine ww_iload_n cx dX7_row_11 rfl 2 rfl ?_
      refine ww_iconst cx dX7_row_12 ic_3 ?_
      refine ww_icmp_gt cx dX7_row_13 (tgt := 22) rfl hF (fun hF => ?_) (fun hF => ?_)
      · refine ww_bipush cx dX7_row_22 bc_m2 ?_
        exact ww_ris hE dX7_row_24 hF
      · refine ww_iload_n cx dX7_row_16 rfl 3 rfl ?_
        refine ww_bipush cx dX7_row_17 bc_60 ?_
        refine ww_icmp_le cx dX7_row_19 (tgt := 25) rfl hF (fun hF => ?_) (fun hF => ?_)
        · refine ww_iload_n cx dX7_row_25 rfl 3 rfl ?_
          refine ww_if_ge cx dX7_row_26 (tgt := 32) rfl hF (fun hF => ?_) (fun hF => ?_)
          · refine ww_aload_n cx dX7_row_32 rfl 0 rfl ?_
            refine gf_X7_36 cx dX7_row_33 ?_
            refine ww_iload_n cx dX7_row_36 rfl 1 rfl ?_
            refine ww_aaldR cx dX7_row_37 hF (fun k2 hk2 hF => ?_)
            refine ww_iload_n cx dX7_row_38 rfl 2 rfl ?_
            refine ww_iload_n cx dX7_row_39 rfl 3 rfl ?_
            refine ww_V2_sv kv_X7_373 rfl cx ((hk2).1) ⟨Nat.le_of_ble_eq_true rfl, Nat.le_of_ble_eq_true rfl⟩ (Nat.le_of_ble_eq_true rfl) dX7_row_40 (kX4_begin G (hk2)) hF (fun σ3 hF => ?_)
            refine ww_iconst cx dX7_row_43 ic_0 ?_
            exact ww_ris hE dX7_row_44 hF
          · refine ww_bipush cx dX7_row_29 bc_m3 ?_
            exact ww_ris hE dX7_row_31 hF
        · refine ww_bipush cx dX7_row_22 bc_m2 ?_
          exact ww_ris hE dX7_row_24 hF
theorem dX7_salt_0 : decode cX7_salt 0 = .ok (.aload_n 0, 1) := by decide +kernel
theorem dX7_salt_1 : decode cX7_salt 1 = .ok (.getfield 19, 3) := by decide +kernel
theorem dX7_salt_4 : decode cX7_salt 4 = .ok (.iload_n 1, 1) := by decide +kernel
theorem dX7_salt_5 : decode cX7_salt 5 = .ok (.invokevirtual 101, 3) := by decide +kernel
theorem dX7_salt_8 : decode cX7_salt 8 = .ok (.ifCond .eq 10, 3) := by decide +kernel
theorem dX7_salt_11 : decode cX7_salt 11 = .ok (.iload_n 2, 1) := by decide +kernel
theorem dX7_salt_12 : decode cX7_salt 12 = .ok (.invokestatic 270, 3) := by decide +kernel
theorem dX7_salt_15 : decode cX7_salt 15 = .ok (.ifCond .ne 6, 3) := by decide +kernel
theorem dX7_salt_18 : decode cX7_salt 18 = .ok (.bipush (-2), 2) := by decide +kernel
theorem dX7_salt_20 : decode cX7_salt 20 = .ok (.ireturn, 1) := by decide +kernel
theorem dX7_salt_21 : decode cX7_salt 21 = .ok (.aload_n 0, 1) := by decide +kernel
theorem dX7_salt_22 : decode cX7_salt 22 = .ok (.getfield 19, 3) := by decide +kernel
theorem dX7_salt_25 : decode cX7_salt 25 = .ok (.getfield 109, 3) := by decide +kernel
theorem dX7_salt_28 : decode cX7_salt 28 = .ok (.iload_n 1, 1) := by decide +kernel
theorem dX7_salt_29 : decode cX7_salt 29 = .ok (.ishr, 1) := by decide +kernel
theorem dX7_salt_30 : decode cX7_salt 30 = .ok (.iconst 1, 1) := by decide +kernel
theorem dX7_salt_31 : decode cX7_salt 31 = .ok (.iand, 1) := by decide +kernel
theorem dX7_salt_32 : decode cX7_salt 32 = .ok (.istore_n 3, 1) := by decide +kernel
theorem dX7_salt_33 : decode cX7_salt 33 = .ok (.aload_n 0, 1) := by decide +kernel
theorem dX7_salt_34 : decode cX7_salt 34 = .ok (.getfield 19, 3) := by decide +kernel
theorem dX7_salt_37 : decode cX7_salt 37 = .ok (.aload_n 0, 1) := by decide +kernel
theorem dX7_salt_38 : decode cX7_salt 38 = .ok (.getfield 19, 3) := by decide +kernel
theorem dX7_salt_41 : decode cX7_salt 41 = .ok (.getfield 109, 3) := by decide +kernel
theorem dX7_salt_44 : decode cX7_salt 44 = .ok (.iload_n 1, 1) := by decide +kernel
theorem dX7_salt_45 : decode cX7_salt 45 = .ok (.iload_n 2, 1) := by decide +kernel
theorem dX7_salt_46 : decode cX7_salt 46 = .ok (.invokestatic 329, 3) := by decide +kernel
theorem dX7_salt_49 : decode cX7_salt 49 = .ok (.putfield 109, 3) := by decide +kernel
theorem dX7_salt_52 : decode cX7_salt 52 = .ok (.aload_n 0, 1) := by decide +kernel
theorem dX7_salt_53 : decode cX7_salt 53 = .ok (.iconst 1, 1) := by decide +kernel
theorem dX7_salt_54 : decode cX7_salt 54 = .ok (.putfield 48, 3) := by decide +kernel
theorem dX7_salt_57 : decode cX7_salt 57 = .ok (.iload_n 3, 1) := by decide +kernel
theorem dX7_salt_58 : decode cX7_salt 58 = .ok (.ireturn, 1) := by decide +kernel
set_option maxRecDepth 4000 in
theorem kX7_salt (G : GT) {σ : St} {a1 : Int32} {a2 : Int32} : ∀ (r : Int32) (σo : St) , fX7_salt σ a1 a2 = some (r, σo) → MCt G 2 yX7_salt cX7_salt 4 (some .int) [.ref (gad G 0), .int a1, .int a2] σ (some (.int r)) σo := by
  intro r σo hF
  refine met_i (by decide) (Nat.le_of_ble_eq_true rfl) (fun X cx hE => ?_)
  have cx : Cx G X RX7 cX7_salt 4 2 := cx
  unfold fX7_salt at hF
  show WW G X 4 σ [(0, .ref (gad G 0)), (1, .int a1), (2, .int a2)] 0 []
  refine ww_aload_n cx dX7_salt_0 rfl 0 rfl ?_
  refine gf_X7_19 cx dX7_salt_1 ?_
  refine ww_iload_n cx dX7_salt_4 rfl 1 rfl ?_
  refine ww_V1_pi kv_X7_101 rfl cx ((isTab_3).1) ⟨Nat.le_of_ble_eq_true rfl, Nat.le_of_ble_eq_true rfl⟩ (Nat.le_of_ble_eq_true rfl) dX7_salt_5 (kX6_hasClaim G (isTab_3)) hF (fun r1 hF => ?_)
  refine ww_if_eq cx dX7_salt_8 (tgt := 18) rfl hF (fun hF => ?_) (fun hF => ?_)
  · refine ww_bipush cx dX7_salt_18 bc_m2 ?_
    exact ww_ris hE dX7_salt_20 hF
  · refine ww_iload_n cx dX7_salt_11 rfl 2 rfl ?_
    refine ww_S1_pi kv_X7_270 cx ⟨Nat.le_of_ble_eq_true rfl, Nat.le_of_ble_eq_true rfl⟩ (Nat.le_of_ble_eq_true rfl) dX7_salt_12 (kX7_isBit G) hF (fun r2 hF => ?_)
    refine ww_if_ne cx dX7_salt_15 (tgt := 21) rfl hF (fun hF => ?_) (fun hF => ?_)
    · refine ww_aload_n cx dX7_salt_21 rfl 0 rfl ?_
      refine gf_X7_19 cx dX7_salt_22 ?_
      refine gf_X7_109 cx (isTab_3) dX7_salt_25 ?_
      refine ww_iload_n cx dX7_salt_28 rfl 1 rfl ?_
      refine ww_ishr cx dX7_salt_29 ?_
      refine ww_iconst cx dX7_salt_30 ic_1 ?_
      refine ww_iand cx dX7_salt_31 ?_
      refine ww_istore_n (ks := [0, 1, 2, 3]) (lv' := fun v3 => [(3, .int v3), (0, .ref (gad G 0)), (1, .int a1), (2, .int a2)]) cx dX7_salt_32 rfl (by decide) hF (fun _ => rfl) (fun v3 hF => ?_)
      refine ww_aload_n cx dX7_salt_33 rfl 1 rfl ?_
      refine gf_X7_19 cx dX7_salt_34 ?_
      refine ww_aload_n cx dX7_salt_37 rfl 1 rfl ?_
      refine gf_X7_19 cx dX7_salt_38 ?_
      refine gf_X7_109 cx (isTab_3) dX7_salt_41 ?_
      refine ww_iload_n cx dX7_salt_44 rfl 2 rfl ?_
      refine ww_iload_n cx dX7_salt_45 rfl 3 rfl ?_
      refine ww_S3_pi kv_X7_329 cx ⟨Nat.le_of_ble_eq_true rfl, Nat.le_of_ble_eq_true rfl⟩ (Nat.le_of_ble_eq_true rfl) dX7_salt_46 (kX7_withBit G) hF (fun r4 hF => ?_)
      refine pf_X7_109 cx (isTab_3) dX7_salt_49 hF (fun σ5 hF => ?_)
      refine ww_aload_n cx dX7_salt_52 rfl 1 rfl ?_
      refine ww_iconst cx dX7_salt_53 ic_1 ?_
      refine pf_X7_48 cx dX7_salt_54 hF (fun σ6 hF => ?_)
      refine ww_iload_n cx dX7_salt_57 rfl 0 rfl ?_
      exact ww_ris hE dX7_salt_58 hF
    · refine ww_bipush cx dX7_salt_18 bc_m2 ?_
      exact ww_ris hE dX7_salt_20 hF
theorem dX7_sizeOrNone_0 : decode cX7_sizeOrNone 0 = .ok (.iload_n 0, 1) := by decide +kernel
theorem dX7_sizeOrNone_1 : decode cX7_sizeOrNone 1 = .ok (.iconst (-1), 1) := by decide +kernel
theorem dX7_sizeOrNone_2 : decode cX7_sizeOrNone 2 = .ok (.if_icmp .ne 7, 3) := by decide +kernel
theorem dX7_sizeOrNone_5 : decode cX7_sizeOrNone 5 = .ok (.iconst (-1), 1) := by decide +kernel
theorem dX7_sizeOrNone_6 : decode cX7_sizeOrNone 6 = .ok (.goto 7, 3) := by decide +kernel
theorem dX7_sizeOrNone_9 : decode cX7_sizeOrNone 9 = .ok (.iload_n 0, 1) := by decide +kernel
theorem dX7_sizeOrNone_10 : decode cX7_sizeOrNone 10 = .ok (.invokestatic 115, 3) := by decide +kernel
theorem dX7_sizeOrNone_13 : decode cX7_sizeOrNone 13 = .ok (.ireturn, 1) := by decide +kernel
set_option maxRecDepth 4000 in
theorem kX7_sizeOrNone (G : GT) {σ : St} {a0 : Int32} : ∀ (r : Int32) , fX7_sizeOrNone a0 = some r → MCt G 2 yX7_sizeOrNone cX7_sizeOrNone 1 (some .int) [.int a0] σ (some (.int r)) σ := by
  intro r hF
  refine met_i (by decide) (Nat.le_of_ble_eq_true rfl) (fun X cx hE => ?_)
  have cx : Cx G X RX7 cX7_sizeOrNone 1 2 := cx
  unfold fX7_sizeOrNone at hF
  show WW G X 1 σ [(0, .int a0)] 0 []
  refine ww_iload_n cx dX7_sizeOrNone_0 rfl 0 rfl ?_
  refine ww_iconst cx dX7_sizeOrNone_1 ic_m1 ?_
  refine ww_icmp_ne cx dX7_sizeOrNone_2 (tgt := 9) rfl hF (fun hF => ?_) (fun hF => ?_)
  · refine ww_iload_n cx dX7_sizeOrNone_9 rfl 0 rfl ?_
    refine ww_S1_pi kv_X7_115 cx ⟨Nat.le_of_ble_eq_true rfl, Nat.le_of_ble_eq_true rfl⟩ (Nat.le_of_ble_eq_true rfl) dX7_sizeOrNone_10 (kJ6_bitCount_0f7a4 G) hF (fun r1 hF => ?_)
    exact ww_rip hE dX7_sizeOrNone_13 hF
  · refine ww_iconst cx dX7_sizeOrNone_5 ic_m1 ?_
    refine ww_goto cx dX7_sizeOrNone_6 (tgt := 13) rfl ?_
    exact ww_rip hE dX7_sizeOrNone_13 hF
theorem dX7_teach_0 : decode cX7_teach 0 = .ok (.aload_n 0, 1) := by decide +kernel
theorem dX7_teach_1 : decode cX7_teach 1 = .ok (.getfield 19, 3) := by decide +kernel
theorem dX7_teach_4 : decode cX7_teach 4 = .ok (.iload_n 1, 1) := by decide +kernel
theorem dX7_teach_5 : decode cX7_teach 5 = .ok (.invokevirtual 137, 3) := by decide +kernel
theorem dX7_teach_8 : decode cX7_teach 8 = .ok (.ifCond .eq 21, 3) := by decide +kernel
theorem dX7_teach_11 : decode cX7_teach 11 = .ok (.aload_n 0, 1) := by decide +kernel
theorem dX7_teach_12 : decode cX7_teach 12 = .ok (.getfield 19, 3) := by decide +kernel
theorem dX7_teach_15 : decode cX7_teach 15 = .ok (.iload_n 2, 1) := by decide +kernel
theorem dX7_teach_16 : decode cX7_teach 16 = .ok (.invokevirtual 121, 3) := by decide +kernel
theorem dX7_teach_19 : decode cX7_teach 19 = .ok (.ifCond .eq 10, 3) := by decide +kernel
theorem dX7_teach_22 : decode cX7_teach 22 = .ok (.iload_n 3, 1) := by decide +kernel
theorem dX7_teach_23 : decode cX7_teach 23 = .ok (.invokestatic 270, 3) := by decide +kernel
theorem dX7_teach_26 : decode cX7_teach 26 = .ok (.ifCond .ne 6, 3) := by decide +kernel
theorem dX7_teach_29 : decode cX7_teach 29 = .ok (.bipush (-2), 2) := by decide +kernel
theorem dX7_teach_31 : decode cX7_teach 31 = .ok (.ireturn, 1) := by decide +kernel
theorem dX7_teach_32 : decode cX7_teach 32 = .ok (.aload_n 0, 1) := by decide +kernel
theorem dX7_teach_33 : decode cX7_teach 33 = .ok (.getfield 19, 3) := by decide +kernel
theorem dX7_teach_36 : decode cX7_teach 36 = .ok (.getfield 143, 3) := by decide +kernel
theorem dX7_teach_39 : decode cX7_teach 39 = .ok (.iload_n 1, 1) := by decide +kernel
theorem dX7_teach_40 : decode cX7_teach 40 = .ok (.iaload, 1) := by decide +kernel
theorem dX7_teach_41 : decode cX7_teach 41 = .ok (.iload_n 2, 1) := by decide +kernel
theorem dX7_teach_42 : decode cX7_teach 42 = .ok (.ishr, 1) := by decide +kernel
theorem dX7_teach_43 : decode cX7_teach 43 = .ok (.iconst 1, 1) := by decide +kernel
theorem dX7_teach_44 : decode cX7_teach 44 = .ok (.iand, 1) := by decide +kernel
theorem dX7_teach_45 : decode cX7_teach 45 = .ok (.istore 4, 2) := by decide +kernel
theorem dX7_teach_47 : decode cX7_teach 47 = .ok (.aload_n 0, 1) := by decide +kernel
theorem dX7_teach_48 : decode cX7_teach 48 = .ok (.getfield 19, 3) := by decide +kernel
theorem dX7_teach_51 : decode cX7_teach 51 = .ok (.getfield 143, 3) := by decide +kernel
theorem dX7_teach_54 : decode cX7_teach 54 = .ok (.iload_n 1, 1) := by decide +kernel
theorem dX7_teach_55 : decode cX7_teach 55 = .ok (.aload_n 0, 1) := by decide +kernel
theorem dX7_teach_56 : decode cX7_teach 56 = .ok (.getfield 19, 3) := by decide +kernel
theorem dX7_teach_59 : decode cX7_teach 59 = .ok (.getfield 143, 3) := by decide +kernel
theorem dX7_teach_62 : decode cX7_teach 62 = .ok (.iload_n 1, 1) := by decide +kernel
theorem dX7_teach_63 : decode cX7_teach 63 = .ok (.iaload, 1) := by decide +kernel
theorem dX7_teach_64 : decode cX7_teach 64 = .ok (.iload_n 2, 1) := by decide +kernel
theorem dX7_teach_65 : decode cX7_teach 65 = .ok (.iload_n 3, 1) := by decide +kernel
theorem dX7_teach_66 : decode cX7_teach 66 = .ok (.invokestatic 329, 3) := by decide +kernel
theorem dX7_teach_69 : decode cX7_teach 69 = .ok (.iastore, 1) := by decide +kernel
theorem dX7_teach_70 : decode cX7_teach 70 = .ok (.iload 4, 2) := by decide +kernel
theorem dX7_teach_72 : decode cX7_teach 72 = .ok (.ireturn, 1) := by decide +kernel
set_option maxRecDepth 4000 in
theorem kX7_teach (G : GT) {σ : St} {a1 : Int32} {a2 : Int32} {a3 : Int32} : ∀ (r : Int32) (σo : St) , fX7_teach σ a1 a2 a3 = some (r, σo) → MCt G 2 yX7_teach cX7_teach 5 (some .int) [.ref (gad G 0), .int a1, .int a2, .int a3] σ (some (.int r)) σo := by
  intro r σo hF
  refine met_i (by decide) (Nat.le_of_ble_eq_true rfl) (fun X cx hE => ?_)
  have cx : Cx G X RX7 cX7_teach 5 2 := cx
  unfold fX7_teach at hF
  show WW G X 5 σ [(0, .ref (gad G 0)), (1, .int a1), (2, .int a2), (3, .int a3)] 0 []
  refine ww_aload_n cx dX7_teach_0 rfl 0 rfl ?_
  refine gf_X7_19 cx dX7_teach_1 ?_
  refine ww_iload_n cx dX7_teach_4 rfl 1 rfl ?_
  refine ww_V1_pi kv_X7_137 rfl cx ((isTab_3).1) ⟨Nat.le_of_ble_eq_true rfl, Nat.le_of_ble_eq_true rfl⟩ (Nat.le_of_ble_eq_true rfl) dX7_teach_5 (kX6_hasGuest G (isTab_3)) hF (fun r1 hF => ?_)
  refine ww_if_eq cx dX7_teach_8 (tgt := 29) rfl hF (fun hF => ?_) (fun hF => ?_)
  · refine ww_bipush cx dX7_teach_29 bc_m2 ?_
    exact ww_ris hE dX7_teach_31 hF
  · refine ww_aload_n cx dX7_teach_11 rfl 0 rfl ?_
    refine gf_X7_19 cx dX7_teach_12 ?_
    refine ww_iload_n cx dX7_teach_15 rfl 2 rfl ?_
    refine ww_V1_pi kv_X7_121 rfl cx ((isTab_3).1) ⟨Nat.le_of_ble_eq_true rfl, Nat.le_of_ble_eq_true rfl⟩ (Nat.le_of_ble_eq_true rfl) dX7_teach_16 (kX6_hasStep G (isTab_3)) hF (fun r2 hF => ?_)
    refine ww_if_eq cx dX7_teach_19 (tgt := 29) rfl hF (fun hF => ?_) (fun hF => ?_)
    · refine ww_bipush cx dX7_teach_29 bc_m2 ?_
      exact ww_ris hE dX7_teach_31 hF
    · refine ww_iload_n cx dX7_teach_22 rfl 3 rfl ?_
      refine ww_S1_pi kv_X7_270 cx ⟨Nat.le_of_ble_eq_true rfl, Nat.le_of_ble_eq_true rfl⟩ (Nat.le_of_ble_eq_true rfl) dX7_teach_23 (kX7_isBit G) hF (fun r3 hF => ?_)
      refine ww_if_ne cx dX7_teach_26 (tgt := 32) rfl hF (fun hF => ?_) (fun hF => ?_)
      · refine ww_aload_n cx dX7_teach_32 rfl 0 rfl ?_
        refine gf_X7_19 cx dX7_teach_33 ?_
        refine gf_X7_143 cx (isTab_3) dX7_teach_36 ?_
        refine ww_iload_n cx dX7_teach_39 rfl 1 rfl ?_
        refine ww_iald (N := 5) cx (ar_X6_13 isTab_3) dX7_teach_40 hF (fun hF => ?_)
        refine ww_iload_n cx dX7_teach_41 rfl 2 rfl ?_
        refine ww_ishr cx dX7_teach_42 ?_
        refine ww_iconst cx dX7_teach_43 ic_1 ?_
        refine ww_iand cx dX7_teach_44 ?_
        refine ww_istore (ks := [0, 1, 2, 3, 4]) (lv' := fun v4 => [(4, .int v4), (0, .ref (gad G 0)), (1, .int a1), (2, .int a2), (3, .int a3)]) cx dX7_teach_45 (by decide) hF (fun _ => rfl) (fun v4 hF => ?_)
        refine ww_aload_n cx dX7_teach_47 rfl 1 rfl ?_
        refine gf_X7_19 cx dX7_teach_48 ?_
        refine gf_X7_143 cx (isTab_3) dX7_teach_51 ?_
        refine ww_iload_n cx dX7_teach_54 rfl 2 rfl ?_
        refine ww_aload_n cx dX7_teach_55 rfl 1 rfl ?_
        refine gf_X7_19 cx dX7_teach_56 ?_
        refine gf_X7_143 cx (isTab_3) dX7_teach_59 ?_
        refine ww_iload_n cx dX7_teach_62 rfl 2 rfl ?_
        refine ww_iald (N := 5) cx (ar_X6_13 isTab_3) dX7_teach_63 hF (fun hF => ?_)
        refine ww_iload_n cx dX7_teach_64 rfl 3 rfl ?_
        refine ww_iload_n cx dX7_teach_65 rfl 4 rfl ?_
        refine ww_S3_pi kv_X7_329 cx ⟨Nat.le_of_ble_eq_true rfl, Nat.le_of_ble_eq_true rfl⟩ (Nat.le_of_ble_eq_true rfl) dX7_teach_66 (kX7_withBit G) hF (fun r5 hF => ?_)
        refine ww_iast (N := 5) cx (ar_X6_13 isTab_3) dX7_teach_69 hF (fun σ6 hF => ?_)
        refine ww_iload cx dX7_teach_70 0 rfl ?_
        exact ww_ris hE dX7_teach_72 hF
      · refine ww_bipush cx dX7_teach_29 bc_m2 ?_
        exact ww_ris hE dX7_teach_31 hF
theorem dX7_unlike_0 : decode cX7_unlike 0 = .ok (.aload_n 0, 1) := by decide +kernel
theorem dX7_unlike_1 : decode cX7_unlike 1 = .ok (.getfield 19, 3) := by decide +kernel
theorem dX7_unlike_4 : decode cX7_unlike 4 = .ok (.invokevirtual 149, 3) := by decide +kernel
theorem dX7_unlike_7 : decode cX7_unlike 7 = .ok (.ifCond .ne 6, 3) := by decide +kernel
theorem dX7_unlike_10 : decode cX7_unlike 10 = .ok (.bipush (-2), 2) := by decide +kernel
theorem dX7_unlike_12 : decode cX7_unlike 12 = .ok (.ireturn, 1) := by decide +kernel
theorem dX7_unlike_13 : decode cX7_unlike 13 = .ok (.iconst 0, 1) := by decide +kernel
theorem dX7_unlike_14 : decode cX7_unlike 14 = .ok (.istore_n 1, 1) := by decide +kernel
theorem dX7_unlike_15 : decode cX7_unlike 15 = .ok (.iconst 0, 1) := by decide +kernel
theorem dX7_unlike_16 : decode cX7_unlike 16 = .ok (.istore_n 2, 1) := by decide +kernel
theorem dX7_unlike_17 : decode cX7_unlike 17 = .ok (.iload_n 2, 1) := by decide +kernel
theorem dX7_unlike_18 : decode cX7_unlike 18 = .ok (.aload_n 0, 1) := by decide +kernel
theorem dX7_unlike_19 : decode cX7_unlike 19 = .ok (.getfield 19, 3) := by decide +kernel
theorem dX7_unlike_22 : decode cX7_unlike 22 = .ok (.getfield 252, 3) := by decide +kernel
theorem dX7_unlike_25 : decode cX7_unlike 25 = .ok (.if_icmp .ge 39, 3) := by decide +kernel
theorem dX7_unlike_28 : decode cX7_unlike 28 = .ok (.aload_n 0, 1) := by decide +kernel
theorem dX7_unlike_29 : decode cX7_unlike 29 = .ok (.getfield 19, 3) := by decide +kernel
theorem dX7_unlike_32 : decode cX7_unlike 32 = .ok (.aload_n 0, 1) := by decide +kernel
theorem dX7_unlike_33 : decode cX7_unlike 33 = .ok (.getfield 19, 3) := by decide +kernel
theorem dX7_unlike_36 : decode cX7_unlike 36 = .ok (.getfield 112, 3) := by decide +kernel
theorem dX7_unlike_39 : decode cX7_unlike 39 = .ok (.iload_n 2, 1) := by decide +kernel
theorem dX7_unlike_40 : decode cX7_unlike 40 = .ok (.iaload, 1) := by decide +kernel
theorem dX7_unlike_41 : decode cX7_unlike 41 = .ok (.invokevirtual 163, 3) := by decide +kernel
theorem dX7_unlike_44 : decode cX7_unlike 44 = .ok (.iconst 1, 1) := by decide +kernel
theorem dX7_unlike_45 : decode cX7_unlike 45 = .ok (.iload_n 2, 1) := by decide +kernel
theorem dX7_unlike_46 : decode cX7_unlike 46 = .ok (.ishl, 1) := by decide +kernel
theorem dX7_unlike_47 : decode cX7_unlike 47 = .ok (.iconst 1, 1) := by decide +kernel
theorem dX7_unlike_48 : decode cX7_unlike 48 = .ok (.isub, 1) := by decide +kernel
theorem dX7_unlike_49 : decode cX7_unlike 49 = .ok (.iand, 1) := by decide +kernel
theorem dX7_unlike_50 : decode cX7_unlike 50 = .ok (.istore_n 3, 1) := by decide +kernel
theorem dX7_unlike_51 : decode cX7_unlike 51 = .ok (.iload_n 3, 1) := by decide +kernel
theorem dX7_unlike_52 : decode cX7_unlike 52 = .ok (.ifCond .ne 6, 3) := by decide +kernel
theorem dX7_unlike_55 : decode cX7_unlike 55 = .ok (.iinc 1 1, 3) := by decide +kernel
theorem dX7_unlike_58 : decode cX7_unlike 58 = .ok (.iinc 2 1, 3) := by decide +kernel
theorem dX7_unlike_61 : decode cX7_unlike 61 = .ok (.goto (-44), 3) := by decide +kernel
theorem dX7_unlike_64 : decode cX7_unlike 64 = .ok (.iload_n 1, 1) := by decide +kernel
theorem dX7_unlike_65 : decode cX7_unlike 65 = .ok (.ireturn, 1) := by decide +kernel
set_option maxRecDepth 4000 in
theorem kX7_unlike (G : GT) {σ : St} : ∀ (r : Int32) , fX7_unlike σ = some r → MCt G 2 yX7_unlike cX7_unlike 4 (some .int) [.ref (gad G 0)] σ (some (.int r)) σ := by
  intro r hF
  refine met_i (by decide) (Nat.le_of_ble_eq_true rfl) (fun X cx hE => ?_)
  have cx : Cx G X RX7 cX7_unlike 4 2 := cx
  have hl17 : ∀ n : Nat, ∀ (x1 : Int32) (x2 : Int32) , fX7_unlike_l17 σ n x1 x2 = some r → WW G X 4 σ [(0, .ref (gad G 0)), (1, .int x1), (2, .int x2)] 17 [] := by
    intro n
    induction n with
    | zero =>
      intro x1 x2 hF
      exact absurd hF (by intro z; cases z)
    | succ n ih =>
      intro x1 x2 hF
      have hk17 := ih
      have hF : fX7_unlike_B17 σ (fX7_unlike_l17 σ n) x1 x2 = some r := hF
      unfold fX7_unlike_B17 at hF
      refine ww_iload_n cx dX7_unlike_17 rfl 2 rfl ?_
      refine ww_aload_n cx dX7_unlike_18 rfl 0 rfl ?_
      refine gf_X7_19 cx dX7_unlike_19 ?_
      refine gf_X7_252 cx (isTab_3) dX7_unlike_22 ?_
      refine ww_icmp_ge cx dX7_unlike_25 (tgt := 64) rfl hF (fun hF => ?_) (fun hF => ?_)
      · refine ww_iload_n cx dX7_unlike_64 rfl 1 rfl ?_
        exact ww_rip hE dX7_unlike_65 hF
      · refine ww_aload_n cx dX7_unlike_28 rfl 0 rfl ?_
        refine gf_X7_19 cx dX7_unlike_29 ?_
        refine ww_aload_n cx dX7_unlike_32 rfl 0 rfl ?_
        refine gf_X7_19 cx dX7_unlike_33 ?_
        refine gf_X7_112 cx (isTab_3) dX7_unlike_36 ?_
        refine ww_iload_n cx dX7_unlike_39 rfl 2 rfl ?_
        refine ww_iald (N := 12) cx (ar_X6_9 isTab_3) dX7_unlike_40 hF (fun hF => ?_)
        refine ww_V1_pi kv_X7_163 rfl cx ((isTab_3).1) ⟨Nat.le_of_ble_eq_true rfl, Nat.le_of_ble_eq_true rfl⟩ (Nat.le_of_ble_eq_true rfl) dX7_unlike_41 (kX6_claimsHoldingIn G (isTab_3)) hF (fun r1 hF => ?_)
        refine ww_iconst cx dX7_unlike_44 ic_1 ?_
        refine ww_iload_n cx dX7_unlike_45 rfl 2 rfl ?_
        refine ww_ishl cx dX7_unlike_46 ?_
        refine ww_iconst cx dX7_unlike_47 ic_1 ?_
        refine ww_isub cx dX7_unlike_48 ?_
        refine ww_iand cx dX7_unlike_49 ?_
        refine ww_istore_n (ks := [0, 1, 2, 3]) (lv' := fun v2 => [(3, .int v2), (0, .ref (gad G 0)), (1, .int x1), (2, .int x2)]) cx dX7_unlike_50 rfl (by decide) hF (fun _ => rfl) (fun v2 hF => ?_)
        refine ww_iload_n cx dX7_unlike_51 rfl 0 rfl ?_
        refine ww_if_ne cx dX7_unlike_52 (tgt := 58) rfl hF (fun hF => ?_) (fun hF => ?_)
        · refine ww_iinc (j := 3) (ks := [0, 2, 3]) (lv' := fun v3 => [(2, .int v3), (0, .ref (gad G 0)), (1, .int x1)]) cx dX7_unlike_58 (by decide) rfl ic_1 hF (fun _ => rfl) (fun v3 hF => ?_)
          refine ww_goto cx dX7_unlike_61 (tgt := 17) rfl ?_
          exact ww_sub [1, 2, 0] rfl (hk17 _ _ hF)
        · refine ww_iinc (j := 2) (ks := [0, 2, 3]) (lv' := fun v4 => [(1, .int v4), (0, .ref (gad G 0)), (2, .int x2)]) cx dX7_unlike_55 (by decide) rfl ic_1 hF (fun _ => rfl) (fun v4 hF => ?_)
          refine ww_iinc (j := 2) (ks := [0, 1, 2]) (lv' := fun v5 => [(2, .int v5), (1, .int v4), (0, .ref (gad G 0))]) cx dX7_unlike_58 (by decide) rfl ic_1 hF (fun _ => rfl) (fun v5 hF => ?_)
          refine ww_goto cx dX7_unlike_61 (tgt := 17) rfl ?_
          exact ww_sub [2, 1, 0] rfl (hk17 _ _ hF)
  unfold fX7_unlike at hF
  show WW G X 4 σ [(0, .ref (gad G 0))] 0 []
  refine ww_aload_n cx dX7_unlike_0 rfl 0 rfl ?_
  refine gf_X7_19 cx dX7_unlike_1 ?_
  refine ww_V0_pi kv_X7_149 rfl cx ((isTab_3).1) ⟨Nat.le_of_ble_eq_true rfl, Nat.le_of_ble_eq_true rfl⟩ (Nat.le_of_ble_eq_true rfl) dX7_unlike_4 (kX6_isTold G (isTab_3)) hF (fun r6 hF => ?_)
  refine ww_if_ne cx dX7_unlike_7 (tgt := 13) rfl hF (fun hF => ?_) (fun hF => ?_)
  · refine ww_iconst cx dX7_unlike_13 ic_0 ?_
    refine ww_istore_n (ks := [0, 1]) (lv' := fun v7 => [(1, .int v7), (0, .ref (gad G 0))]) cx dX7_unlike_14 rfl (by decide) hF (fun _ => rfl) (fun v7 hF => ?_)
    refine ww_iconst cx dX7_unlike_15 ic_0 ?_
    refine ww_istore_n (ks := [0, 1, 2]) (lv' := fun v8 => [(2, .int v8), (1, .int v7), (0, .ref (gad G 0))]) cx dX7_unlike_16 rfl (by decide) hF (fun _ => rfl) (fun v8 hF => ?_)
    exact ww_sub [2, 1, 0] rfl (hl17 FU _ _ hF)
  · refine ww_bipush cx dX7_unlike_10 bc_m2 ?_
    exact ww_rip hE dX7_unlike_12 hF
theorem dX7_write_0 : decode cX7_write 0 = .ok (.iload_n 1, 1) := by decide +kernel
theorem dX7_write_1 : decode cX7_write 1 = .ok (.invokestatic 196, 3) := by decide +kernel
theorem dX7_write_4 : decode cX7_write 4 = .ok (.ifCond .ne 6, 3) := by decide +kernel
theorem dX7_write_7 : decode cX7_write 7 = .ok (.bipush (-2), 2) := by decide +kernel
theorem dX7_write_9 : decode cX7_write 9 = .ok (.ireturn, 1) := by decide +kernel
theorem dX7_write_10 : decode cX7_write 10 = .ok (.aload_n 0, 1) := by decide +kernel
theorem dX7_write_11 : decode cX7_write 11 = .ok (.getfield 36, 3) := by decide +kernel
theorem dX7_write_14 : decode cX7_write 14 = .ok (.iload_n 1, 1) := by decide +kernel
theorem dX7_write_15 : decode cX7_write 15 = .ok (.aaload, 1) := by decide +kernel
theorem dX7_write_16 : decode cX7_write 16 = .ok (.getfield 199, 3) := by decide +kernel
theorem dX7_write_19 : decode cX7_write 19 = .ok (.ifCond .ne 6, 3) := by decide +kernel
theorem dX7_write_22 : decode cX7_write 22 = .ok (.bipush (-6), 2) := by decide +kernel
theorem dX7_write_24 : decode cX7_write 24 = .ok (.ireturn, 1) := by decide +kernel
theorem dX7_write_25 : decode cX7_write 25 = .ok (.iload_n 2, 1) := by decide +kernel
theorem dX7_write_26 : decode cX7_write 26 = .ok (.ifCond .lt 16, 3) := by decide +kernel
theorem dX7_write_29 : decode cX7_write 29 = .ok (.iload_n 2, 1) := by decide +kernel
theorem dX7_write_30 : decode cX7_write 30 = .ok (.aload_n 0, 1) := by decide +kernel
theorem dX7_write_31 : decode cX7_write 31 = .ok (.getfield 36, 3) := by decide +kernel
theorem dX7_write_34 : decode cX7_write 34 = .ok (.iload_n 1, 1) := by decide +kernel
theorem dX7_write_35 : decode cX7_write 35 = .ok (.aaload, 1) := by decide +kernel
theorem dX7_write_36 : decode cX7_write 36 = .ok (.getfield 338, 3) := by decide +kernel
theorem dX7_write_39 : decode cX7_write 39 = .ok (.if_icmp .lt 6, 3) := by decide +kernel
theorem dX7_write_42 : decode cX7_write 42 = .ok (.bipush (-7), 2) := by decide +kernel
theorem dX7_write_44 : decode cX7_write 44 = .ok (.ireturn, 1) := by decide +kernel
theorem dX7_write_45 : decode cX7_write 45 = .ok (.aload_n 0, 1) := by decide +kernel
theorem dX7_write_46 : decode cX7_write 46 = .ok (.getfield 36, 3) := by decide +kernel
theorem dX7_write_49 : decode cX7_write 49 = .ok (.iload_n 1, 1) := by decide +kernel
theorem dX7_write_50 : decode cX7_write 50 = .ok (.aaload, 1) := by decide +kernel
theorem dX7_write_51 : decode cX7_write 51 = .ok (.getfield 341, 3) := by decide +kernel
theorem dX7_write_54 : decode cX7_write 54 = .ok (.iload_n 2, 1) := by decide +kernel
theorem dX7_write_55 : decode cX7_write 55 = .ok (.aload_n 0, 1) := by decide +kernel
theorem dX7_write_56 : decode cX7_write 56 = .ok (.getfield 36, 3) := by decide +kernel
theorem dX7_write_59 : decode cX7_write 59 = .ok (.iload_n 1, 1) := by decide +kernel
theorem dX7_write_60 : decode cX7_write 60 = .ok (.aaload, 1) := by decide +kernel
theorem dX7_write_61 : decode cX7_write 61 = .ok (.lload_n 3, 1) := by decide +kernel
theorem dX7_write_62 : decode cX7_write 62 = .ok (.invokevirtual 376, 3) := by decide +kernel
theorem dX7_write_65 : decode cX7_write 65 = .ok (.lastore, 1) := by decide +kernel
theorem dX7_write_66 : decode cX7_write 66 = .ok (.iconst 0, 1) := by decide +kernel
theorem dX7_write_67 : decode cX7_write 67 = .ok (.ireturn, 1) := by decide +kernel
set_option maxRecDepth 4000 in
theorem kX7_write (G : GT) {σ : St} {a1 : Int32} {a2 : Int32} {a3 : Int64} : ∀ (r : Int32) (σo : St) , fX7_write σ a1 a2 a3 = some (r, σo) → MCt G 2 yX7_write cX7_write 5 (some .int) [.ref (gad G 0), .int a1, .int a2, .long a3] σ (some (.int r)) σo := by
  intro r σo hF
  refine met_i (by decide) (Nat.le_of_ble_eq_true rfl) (fun X cx hE => ?_)
  have cx : Cx G X RX7 cX7_write 5 2 := cx
  unfold fX7_write at hF
  show WW G X 5 σ [(0, .ref (gad G 0)), (1, .int a1), (2, .int a2), (3, .long a3)] 0 []
  refine ww_iload_n cx dX7_write_0 rfl 1 rfl ?_
  refine ww_S1_pi kv_X7_196 cx ⟨Nat.le_of_ble_eq_true rfl, Nat.le_of_ble_eq_true rfl⟩ (Nat.le_of_ble_eq_true rfl) dX7_write_1 (kX7_isSlot G) hF (fun r1 hF => ?_)
  refine ww_if_ne cx dX7_write_4 (tgt := 10) rfl hF (fun hF => ?_) (fun hF => ?_)
  · refine ww_aload_n cx dX7_write_10 rfl 0 rfl ?_
    refine gf_X7_36 cx dX7_write_11 ?_
    refine ww_iload_n cx dX7_write_14 rfl 1 rfl ?_
    refine ww_aaldR cx dX7_write_15 hF (fun k2 hk2 hF => ?_)
    refine gf_X7_199 cx (hk2) dX7_write_16 ?_
    refine ww_if_ne cx dX7_write_19 (tgt := 25) rfl hF (fun hF => ?_) (fun hF => ?_)
    · refine ww_iload_n cx dX7_write_25 rfl 2 rfl ?_
      refine ww_if_lt cx dX7_write_26 (tgt := 42) rfl hF (fun hF => ?_) (fun hF => ?_)
      · refine ww_bipush cx dX7_write_42 bc_m7 ?_
        exact ww_ris hE dX7_write_44 hF
      · refine ww_iload_n cx dX7_write_29 rfl 2 rfl ?_
        refine ww_aload_n cx dX7_write_30 rfl 0 rfl ?_
        refine gf_X7_36 cx dX7_write_31 ?_
        refine ww_iload_n cx dX7_write_34 rfl 1 rfl ?_
        refine ww_aaldR cx dX7_write_35 hF (fun k3 hk3 hF => ?_)
        refine gf_X7_338 cx (hk3) dX7_write_36 ?_
        refine ww_icmp_lt cx dX7_write_39 (tgt := 45) rfl hF (fun hF => ?_) (fun hF => ?_)
        · refine ww_aload_n cx dX7_write_45 rfl 0 rfl ?_
          refine gf_X7_36 cx dX7_write_46 ?_
          refine ww_iload_n cx dX7_write_49 rfl 1 rfl ?_
          refine ww_aaldR cx dX7_write_50 hF (fun k4 hk4 hF => ?_)
          refine gf_X7_341 cx (hk4) dX7_write_51 ?_
          refine ww_iload_n cx dX7_write_54 rfl 2 rfl ?_
          refine ww_aload_n cx dX7_write_55 rfl 0 rfl ?_
          refine gf_X7_36 cx dX7_write_56 ?_
          refine ww_iload_n cx dX7_write_59 rfl 1 rfl ?_
          refine ww_aaldR cx dX7_write_60 hF (fun k5 hk5 hF => ?_)
          refine ww_lload_n cx dX7_write_61 rfl 3 rfl ?_
          refine ww_V1_pl kv_X7_376 rfl cx ((hk5).1) ⟨Nat.le_of_ble_eq_true rfl, Nat.le_of_ble_eq_true rfl⟩ (Nat.le_of_ble_eq_true rfl) dX7_write_62 (kX4_cut G (hk5)) hF (fun r6 hF => ?_)
          refine ww_last (N := 60) cx (ar_X4_3 hk4) dX7_write_65 hF (fun σ7 hF => ?_)
          refine ww_iconst cx dX7_write_66 ic_0 ?_
          exact ww_ris hE dX7_write_67 hF
        · refine ww_bipush cx dX7_write_42 bc_m7 ?_
          exact ww_ris hE dX7_write_44 hF
    · refine ww_bipush cx dX7_write_22 bc_m6 ?_
      exact ww_ris hE dX7_write_24 hF
  · refine ww_bipush cx dX7_write_7 bc_m2 ?_
    exact ww_ris hE dX7_write_9 hF
theorem dX1_hourOfAll_0 : decode cX1_hourOfAll 0 = .ok (.iconst 0, 1) := by decide +kernel
theorem dX1_hourOfAll_1 : decode cX1_hourOfAll 1 = .ok (.istore_n 3, 1) := by decide +kernel
theorem dX1_hourOfAll_2 : decode cX1_hourOfAll 2 = .ok (.iconst 0, 1) := by decide +kernel
theorem dX1_hourOfAll_3 : decode cX1_hourOfAll 3 = .ok (.istore 4, 2) := by decide +kernel
theorem dX1_hourOfAll_5 : decode cX1_hourOfAll 5 = .ok (.iload 4, 2) := by decide +kernel
theorem dX1_hourOfAll_7 : decode cX1_hourOfAll 7 = .ok (.aload_n 1, 1) := by decide +kernel
theorem dX1_hourOfAll_8 : decode cX1_hourOfAll 8 = .ok (.getfield 85, 3) := by decide +kernel
theorem dX1_hourOfAll_11 : decode cX1_hourOfAll 11 = .ok (.if_icmp .ge 44, 3) := by decide +kernel
theorem dX1_hourOfAll_14 : decode cX1_hourOfAll 14 = .ok (.iload_n 2, 1) := by decide +kernel
theorem dX1_hourOfAll_15 : decode cX1_hourOfAll 15 = .ok (.iload 4, 2) := by decide +kernel
theorem dX1_hourOfAll_17 : decode cX1_hourOfAll 17 = .ok (.ishr, 1) := by decide +kernel
theorem dX1_hourOfAll_18 : decode cX1_hourOfAll 18 = .ok (.iconst 1, 1) := by decide +kernel
theorem dX1_hourOfAll_19 : decode cX1_hourOfAll 19 = .ok (.iand, 1) := by decide +kernel
theorem dX1_hourOfAll_20 : decode cX1_hourOfAll 20 = .ok (.iconst 1, 1) := by decide +kernel
theorem dX1_hourOfAll_21 : decode cX1_hourOfAll 21 = .ok (.if_icmp .ne 28, 3) := by decide +kernel
theorem dX1_hourOfAll_24 : decode cX1_hourOfAll 24 = .ok (.aload_n 0, 1) := by decide +kernel
theorem dX1_hourOfAll_25 : decode cX1_hourOfAll 25 = .ok (.getfield 9, 3) := by decide +kernel
theorem dX1_hourOfAll_28 : decode cX1_hourOfAll 28 = .ok (.iload 4, 2) := by decide +kernel
theorem dX1_hourOfAll_30 : decode cX1_hourOfAll 30 = .ok (.iaload, 1) := by decide +kernel
theorem dX1_hourOfAll_31 : decode cX1_hourOfAll 31 = .ok (.iconst (-1), 1) := by decide +kernel
theorem dX1_hourOfAll_32 : decode cX1_hourOfAll 32 = .ok (.if_icmp .ne 5, 3) := by decide +kernel
theorem dX1_hourOfAll_35 : decode cX1_hourOfAll 35 = .ok (.iconst (-1), 1) := by decide +kernel
theorem dX1_hourOfAll_36 : decode cX1_hourOfAll 36 = .ok (.ireturn, 1) := by decide +kernel
theorem dX1_hourOfAll_37 : decode cX1_hourOfAll 37 = .ok (.iload_n 3, 1) := by decide +kernel
theorem dX1_hourOfAll_38 : decode cX1_hourOfAll 38 = .ok (.aload_n 0, 1) := by decide +kernel
theorem dX1_hourOfAll_39 : decode cX1_hourOfAll 39 = .ok (.getfield 9, 3) := by decide +kernel
theorem dX1_hourOfAll_42 : decode cX1_hourOfAll 42 = .ok (.iload 4, 2) := by decide +kernel
theorem dX1_hourOfAll_44 : decode cX1_hourOfAll 44 = .ok (.iaload, 1) := by decide +kernel
theorem dX1_hourOfAll_45 : decode cX1_hourOfAll 45 = .ok (.invokestatic 66, 3) := by decide +kernel
theorem dX1_hourOfAll_48 : decode cX1_hourOfAll 48 = .ok (.istore_n 3, 1) := by decide +kernel
theorem dX1_hourOfAll_49 : decode cX1_hourOfAll 49 = .ok (.iinc 4 1, 3) := by decide +kernel
theorem dX1_hourOfAll_52 : decode cX1_hourOfAll 52 = .ok (.goto (-47), 3) := by decide +kernel
theorem dX1_hourOfAll_55 : decode cX1_hourOfAll 55 = .ok (.iload_n 3, 1) := by decide +kernel
theorem dX1_hourOfAll_56 : decode cX1_hourOfAll 56 = .ok (.ireturn, 1) := by decide +kernel
set_option maxRecDepth 4000 in
theorem kX1_hourOfAll (G : GT) {σ : St} {t : Nat} {a2 : Int32} (ht : isTab t) : ∀ (r : Int32) , fX1_hourOfAll σ t a2 = some r → MCt G 2 yX1_hourOfAll cX1_hourOfAll 5 (some .int) [.ref (gad G 55), .ref (gad G t), .int a2] σ (some (.int r)) σ := by
  intro r hF
  refine met_i (by decide) (Nat.le_of_ble_eq_true rfl) (fun X cx hE => ?_)
  have cx : Cx G X RX1 cX1_hourOfAll 5 2 := cx
  have hl5 : ∀ n : Nat, ∀ (x2 : Int32) (x3 : Int32) (x4 : Int32) , fX1_hourOfAll_l5 σ t n x2 x3 x4 = some r → WW G X 5 σ [(0, .ref (gad G 55)), (1, .ref (gad G t)), (2, .int x2), (3, .int x3), (4, .int x4)] 5 [] := by
    intro n
    induction n with
    | zero =>
      intro x2 x3 x4 hF
      exact absurd hF (by intro z; cases z)
    | succ n ih =>
      intro x2 x3 x4 hF
      have hk5 := ih
      have hF : fX1_hourOfAll_B5 σ t (fX1_hourOfAll_l5 σ t n) x2 x3 x4 = some r := hF
      unfold fX1_hourOfAll_B5 at hF
      refine ww_iload cx dX1_hourOfAll_5 4 rfl ?_
      refine ww_aload_n cx dX1_hourOfAll_7 rfl 1 rfl ?_
      refine gf_X1_85 cx (ht) dX1_hourOfAll_8 ?_
      refine ww_icmp_ge cx dX1_hourOfAll_11 (tgt := 55) rfl hF (fun hF => ?_) (fun hF => ?_)
      · refine ww_iload_n cx dX1_hourOfAll_55 rfl 3 rfl ?_
        exact ww_rip hE dX1_hourOfAll_56 hF
      · refine ww_iload_n cx dX1_hourOfAll_14 rfl 2 rfl ?_
        refine ww_iload cx dX1_hourOfAll_15 4 rfl ?_
        refine ww_ishr cx dX1_hourOfAll_17 ?_
        refine ww_iconst cx dX1_hourOfAll_18 ic_1 ?_
        refine ww_iand cx dX1_hourOfAll_19 ?_
        refine ww_iconst cx dX1_hourOfAll_20 ic_1 ?_
        refine ww_icmp_ne cx dX1_hourOfAll_21 (tgt := 49) rfl hF (fun hF => ?_) (fun hF => ?_)
        · refine ww_iinc (j := 4) (ks := [0, 1, 2, 3, 4]) (lv' := fun v1 => [(4, .int v1), (0, .ref (gad G 55)), (1, .ref (gad G t)), (2, .int x2), (3, .int x3)]) cx dX1_hourOfAll_49 (by decide) rfl ic_1 hF (fun _ => rfl) (fun v1 hF => ?_)
          refine ww_goto cx dX1_hourOfAll_52 (tgt := 5) rfl ?_
          exact ww_sub [1, 2, 3, 4, 0] rfl (hk5 _ _ _ hF)
        · refine ww_aload_n cx dX1_hourOfAll_24 rfl 0 rfl ?_
          refine gf_X1_9 cx dX1_hourOfAll_25 ?_
          refine ww_iload cx dX1_hourOfAll_28 4 rfl ?_
          refine ww_iald (N := 12) cx (sh_56) dX1_hourOfAll_30 hF (fun hF => ?_)
          refine ww_iconst cx dX1_hourOfAll_31 ic_m1 ?_
          refine ww_icmp_ne cx dX1_hourOfAll_32 (tgt := 37) rfl hF (fun hF => ?_) (fun hF => ?_)
          · refine ww_iload_n cx dX1_hourOfAll_37 rfl 3 rfl ?_
            refine ww_aload_n cx dX1_hourOfAll_38 rfl 0 rfl ?_
            refine gf_X1_9 cx dX1_hourOfAll_39 ?_
            refine ww_iload cx dX1_hourOfAll_42 4 rfl ?_
            refine ww_iald (N := 12) cx (sh_56) dX1_hourOfAll_44 hF (fun hF => ?_)
            refine ww_mmax cx ml_X1_66 (by decide) (Nat.le_of_ble_eq_true rfl) dX1_hourOfAll_45 ?_
            refine ww_istore_n (ks := [0, 1, 2, 3, 4]) (lv' := fun v2 => [(3, .int v2), (0, .ref (gad G 55)), (1, .ref (gad G t)), (2, .int x2), (4, .int x4)]) cx dX1_hourOfAll_48 rfl (by decide) hF (fun _ => rfl) (fun v2 hF => ?_)
            refine ww_iinc (j := 4) (ks := [0, 1, 2, 3, 4]) (lv' := fun v3 => [(4, .int v3), (3, .int v2), (0, .ref (gad G 55)), (1, .ref (gad G t)), (2, .int x2)]) cx dX1_hourOfAll_49 (by decide) rfl ic_1 hF (fun _ => rfl) (fun v3 hF => ?_)
            refine ww_goto cx dX1_hourOfAll_52 (tgt := 5) rfl ?_
            exact ww_sub [2, 3, 4, 1, 0] rfl (hk5 _ _ _ hF)
          · refine ww_iconst cx dX1_hourOfAll_35 ic_m1 ?_
            exact ww_rip hE dX1_hourOfAll_36 hF
  unfold fX1_hourOfAll at hF
  show WW G X 5 σ [(0, .ref (gad G 55)), (1, .ref (gad G t)), (2, .int a2)] 0 []
  refine ww_iconst cx dX1_hourOfAll_0 ic_0 ?_
  refine ww_istore_n (ks := [0, 1, 2, 3]) (lv' := fun v4 => [(3, .int v4), (0, .ref (gad G 55)), (1, .ref (gad G t)), (2, .int a2)]) cx dX1_hourOfAll_1 rfl (by decide) hF (fun _ => rfl) (fun v4 hF => ?_)
  refine ww_iconst cx dX1_hourOfAll_2 ic_0 ?_
  refine ww_istore (ks := [0, 1, 2, 3, 4]) (lv' := fun v5 => [(4, .int v5), (3, .int v4), (0, .ref (gad G 55)), (1, .ref (gad G t)), (2, .int a2)]) cx dX1_hourOfAll_3 (by decide) hF (fun _ => rfl) (fun v5 hF => ?_)
  exact ww_sub [2, 3, 4, 1, 0] rfl (hl5 FU _ _ _ hF)
theorem dX2_advance_0 : decode cX2_advance 0 = .ok (.aload_n 0, 1) := by decide +kernel
theorem dX2_advance_1 : decode cX2_advance 1 = .ok (.getfield 30, 3) := by decide +kernel
theorem dX2_advance_4 : decode cX2_advance 4 = .ok (.istore_n 1, 1) := by decide +kernel
theorem dX2_advance_5 : decode cX2_advance 5 = .ok (.iload_n 1, 1) := by decide +kernel
theorem dX2_advance_6 : decode cX2_advance 6 = .ok (.aload_n 0, 1) := by decide +kernel
theorem dX2_advance_7 : decode cX2_advance 7 = .ok (.getfield 19, 3) := by decide +kernel
theorem dX2_advance_10 : decode cX2_advance 10 = .ok (.if_icmp .ge 31, 3) := by decide +kernel
theorem dX2_advance_13 : decode cX2_advance 13 = .ok (.aload_n 0, 1) := by decide +kernel
theorem dX2_advance_14 : decode cX2_advance 14 = .ok (.getfield 9, 3) := by decide +kernel
theorem dX2_advance_17 : decode cX2_advance 17 = .ok (.iload_n 1, 1) := by decide +kernel
theorem dX2_advance_18 : decode cX2_advance 18 = .ok (.baload, 1) := by decide +kernel
theorem dX2_advance_19 : decode cX2_advance 19 = .ok (.bipush 32, 2) := by decide +kernel
theorem dX2_advance_21 : decode cX2_advance 21 = .ok (.if_icmp .eq 14, 3) := by decide +kernel
theorem dX2_advance_24 : decode cX2_advance 24 = .ok (.aload_n 0, 1) := by decide +kernel
theorem dX2_advance_25 : decode cX2_advance 25 = .ok (.getfield 9, 3) := by decide +kernel
theorem dX2_advance_28 : decode cX2_advance 28 = .ok (.iload_n 1, 1) := by decide +kernel
theorem dX2_advance_29 : decode cX2_advance 29 = .ok (.baload, 1) := by decide +kernel
theorem dX2_advance_30 : decode cX2_advance 30 = .ok (.bipush 10, 2) := by decide +kernel
theorem dX2_advance_32 : decode cX2_advance 32 = .ok (.if_icmp .ne 9, 3) := by decide +kernel
theorem dX2_advance_35 : decode cX2_advance 35 = .ok (.iinc 1 1, 3) := by decide +kernel
theorem dX2_advance_38 : decode cX2_advance 38 = .ok (.goto (-33), 3) := by decide +kernel
theorem dX2_advance_41 : decode cX2_advance 41 = .ok (.aload_n 0, 1) := by decide +kernel
theorem dX2_advance_42 : decode cX2_advance 42 = .ok (.iload_n 1, 1) := by decide +kernel
theorem dX2_advance_43 : decode cX2_advance 43 = .ok (.putfield 177, 3) := by decide +kernel
theorem dX2_advance_46 : decode cX2_advance 46 = .ok (.aload_n 0, 1) := by decide +kernel
theorem dX2_advance_47 : decode cX2_advance 47 = .ok (.aload_n 0, 1) := by decide +kernel
theorem dX2_advance_48 : decode cX2_advance 48 = .ok (.iload_n 1, 1) := by decide +kernel
theorem dX2_advance_49 : decode cX2_advance 49 = .ok (.invokevirtual 199, 3) := by decide +kernel
theorem dX2_advance_52 : decode cX2_advance 52 = .ok (.putfield 36, 3) := by decide +kernel
theorem dX2_advance_55 : decode cX2_advance 55 = .ok (.aload_n 0, 1) := by decide +kernel
theorem dX2_advance_56 : decode cX2_advance 56 = .ok (.iconst 0, 1) := by decide +kernel
theorem dX2_advance_57 : decode cX2_advance 57 = .ok (.putfield 122, 3) := by decide +kernel
theorem dX2_advance_60 : decode cX2_advance 60 = .ok (.aload_n 0, 1) := by decide +kernel
theorem dX2_advance_61 : decode cX2_advance 61 = .ok (.getfield 36, 3) := by decide +kernel
theorem dX2_advance_64 : decode cX2_advance 64 = .ok (.iconst 1, 1) := by decide +kernel
theorem dX2_advance_65 : decode cX2_advance 65 = .ok (.if_icmp .eq 11, 3) := by decide +kernel
theorem dX2_advance_68 : decode cX2_advance 68 = .ok (.aload_n 0, 1) := by decide +kernel
theorem dX2_advance_69 : decode cX2_advance 69 = .ok (.getfield 36, 3) := by decide +kernel
theorem dX2_advance_72 : decode cX2_advance 72 = .ok (.iconst 2, 1) := by decide +kernel
theorem dX2_advance_73 : decode cX2_advance 73 = .ok (.if_icmp .ne 67, 3) := by decide +kernel
theorem dX2_advance_76 : decode cX2_advance 76 = .ok (.iload_n 1, 1) := by decide +kernel
theorem dX2_advance_77 : decode cX2_advance 77 = .ok (.aload_n 0, 1) := by decide +kernel
theorem dX2_advance_78 : decode cX2_advance 78 = .ok (.getfield 19, 3) := by decide +kernel
theorem dX2_advance_81 : decode cX2_advance 81 = .ok (.if_icmp .ge 69, 3) := by decide +kernel
theorem dX2_advance_84 : decode cX2_advance 84 = .ok (.aload_n 0, 1) := by decide +kernel
theorem dX2_advance_85 : decode cX2_advance 85 = .ok (.iload_n 1, 1) := by decide +kernel
theorem dX2_advance_86 : decode cX2_advance 86 = .ok (.invokevirtual 199, 3) := by decide +kernel
theorem dX2_advance_89 : decode cX2_advance 89 = .ok (.aload_n 0, 1) := by decide +kernel
theorem dX2_advance_90 : decode cX2_advance 90 = .ok (.getfield 36, 3) := by decide +kernel
theorem dX2_advance_93 : decode cX2_advance 93 = .ok (.if_icmp .ne 57, 3) := by decide +kernel
theorem dX2_advance_96 : decode cX2_advance 96 = .ok (.aload_n 0, 1) := by decide +kernel
theorem dX2_advance_97 : decode cX2_advance 97 = .ok (.aload_n 0, 1) := by decide +kernel
theorem dX2_advance_98 : decode cX2_advance 98 = .ok (.getfield 36, 3) := by decide +kernel
theorem dX2_advance_101 : decode cX2_advance 101 = .ok (.iconst 2, 1) := by decide +kernel
theorem dX2_advance_102 : decode cX2_advance 102 = .ok (.if_icmp .ne 28, 3) := by decide +kernel
theorem dX2_advance_105 : decode cX2_advance 105 = .ok (.ldc 202, 2) := by decide +kernel
theorem dX2_advance_107 : decode cX2_advance 107 = .ok (.aload_n 0, 1) := by decide +kernel
theorem dX2_advance_108 : decode cX2_advance 108 = .ok (.getfield 122, 3) := by decide +kernel
theorem dX2_advance_111 : decode cX2_advance 111 = .ok (.bipush 10, 2) := by decide +kernel
theorem dX2_advance_113 : decode cX2_advance 113 = .ok (.imul, 1) := by decide +kernel
theorem dX2_advance_114 : decode cX2_advance 114 = .ok (.aload_n 0, 1) := by decide +kernel
theorem dX2_advance_115 : decode cX2_advance 115 = .ok (.getfield 9, 3) := by decide +kernel
theorem dX2_advance_118 : decode cX2_advance 118 = .ok (.iload_n 1, 1) := by decide +kernel
theorem dX2_advance_119 : decode cX2_advance 119 = .ok (.baload, 1) := by decide +kernel
theorem dX2_advance_120 : decode cX2_advance 120 = .ok (.iadd, 1) := by decide +kernel
theorem dX2_advance_121 : decode cX2_advance 121 = .ok (.bipush 48, 2) := by decide +kernel
theorem dX2_advance_123 : decode cX2_advance 123 = .ok (.isub, 1) := by decide +kernel
theorem dX2_advance_124 : decode cX2_advance 124 = .ok (.invokestatic 203, 3) := by decide +kernel
theorem dX2_advance_127 : decode cX2_advance 127 = .ok (.goto 4, 3) := by decide +kernel
theorem dX2_advance_130 : decode cX2_advance 130 = .ok (.iconst 0, 1) := by decide +kernel
theorem dX2_advance_131 : decode cX2_advance 131 = .ok (.putfield 122, 3) := by decide +kernel
theorem dX2_advance_134 : decode cX2_advance 134 = .ok (.iinc 1 1, 3) := by decide +kernel
theorem dX2_advance_137 : decode cX2_advance 137 = .ok (.goto (-61), 3) := by decide +kernel
theorem dX2_advance_140 : decode cX2_advance 140 = .ok (.aload_n 0, 1) := by decide +kernel
theorem dX2_advance_141 : decode cX2_advance 141 = .ok (.getfield 36, 3) := by decide +kernel
theorem dX2_advance_144 : decode cX2_advance 144 = .ok (.ifCond .eq 6, 3) := by decide +kernel
theorem dX2_advance_147 : decode cX2_advance 147 = .ok (.iinc 1 1, 3) := by decide +kernel
theorem dX2_advance_150 : decode cX2_advance 150 = .ok (.aload_n 0, 1) := by decide +kernel
theorem dX2_advance_151 : decode cX2_advance 151 = .ok (.iload_n 1, 1) := by decide +kernel
theorem dX2_advance_152 : decode cX2_advance 152 = .ok (.putfield 30, 3) := by decide +kernel
theorem dX2_advance_155 : decode cX2_advance 155 = .ok (.return_, 1) := by decide +kernel
set_option maxRecDepth 4000 in
theorem kX2_advance (G : GT) {σ : St} : ∀ (σo : St) , fX2_advance σ = some σo → MCt G 2 yX2_advance cX2_advance 2 (none) [.ref (gad G 1)] σ (none) σo := by
  intro σo hF
  refine met_v (by decide) (Nat.le_of_ble_eq_true rfl) (fun X cx hE => ?_)
  have cx : Cx G X RX2 cX2_advance 2 2 := cx
  have hl76 : ∀ n : Nat, ∀ (σ : St) (x1 : Int32) , fX2_advance_l76 n σ x1 = some σo → WW G X 2 σ [(0, .ref (gad G 1)), (1, .int x1)] 76 [] := by
    intro n
    induction n with
    | zero =>
      intro σ x1 hF
      exact absurd hF (by intro z; cases z)
    | succ n ih =>
      intro σ x1 hF
      have hk76 := ih
      have hF : fX2_advance_B76 (fX2_advance_l76 n) σ x1 = some σo := hF
      unfold fX2_advance_B76 at hF
      refine ww_iload_n cx dX2_advance_76 rfl 1 rfl ?_
      refine ww_aload_n cx dX2_advance_77 rfl 0 rfl ?_
      refine gf_X2_19 cx dX2_advance_78 ?_
      refine ww_icmp_ge cx dX2_advance_81 (tgt := 150) rfl hF (fun hF => ?_) (fun hF => ?_)
      · refine ww_aload_n cx dX2_advance_150 rfl 0 rfl ?_
        refine ww_iload_n cx dX2_advance_151 rfl 1 rfl ?_
        refine pf_X2_30 cx dX2_advance_152 hF (fun σ1 hF => ?_)
        exact ww_rvs hE dX2_advance_155 hF
      · refine ww_aload_n cx dX2_advance_84 rfl 0 rfl ?_
        refine ww_iload_n cx dX2_advance_85 rfl 1 rfl ?_
        refine ww_V1_pi kv_X2_199 rfl cx sh_1 ⟨Nat.le_of_ble_eq_true rfl, Nat.le_of_ble_eq_true rfl⟩ (Nat.le_of_ble_eq_true rfl) dX2_advance_86 (kX2_kindAt G) hF (fun r2 hF => ?_)
        refine ww_aload_n cx dX2_advance_89 rfl 0 rfl ?_
        refine gf_X2_36 cx dX2_advance_90 ?_
        refine ww_icmp_ne cx dX2_advance_93 (tgt := 150) rfl hF (fun hF => ?_) (fun hF => ?_)
        · refine ww_aload_n cx dX2_advance_150 rfl 0 rfl ?_
          refine ww_iload_n cx dX2_advance_151 rfl 1 rfl ?_
          refine pf_X2_30 cx dX2_advance_152 hF (fun σ3 hF => ?_)
          exact ww_rvs hE dX2_advance_155 hF
        · refine ww_aload_n cx dX2_advance_96 rfl 0 rfl ?_
          refine ww_aload_n cx dX2_advance_97 rfl 0 rfl ?_
          refine gf_X2_36 cx dX2_advance_98 ?_
          refine ww_iconst cx dX2_advance_101 ic_2 ?_
          refine ww_icmp_ne cx dX2_advance_102 (tgt := 130) rfl hF (fun hF => ?_) (fun hF => ?_)
          · refine ww_iconst cx dX2_advance_130 ic_0 ?_
            refine pf_X2_122 cx dX2_advance_131 hF (fun σ4 hF => ?_)
            refine ww_iinc (j := 1) (ks := [0, 1]) (lv' := fun v5 => [(1, .int v5), (0, .ref (gad G 1))]) cx dX2_advance_134 (by decide) rfl ic_1 hF (fun _ => rfl) (fun v5 hF => ?_)
            refine ww_goto cx dX2_advance_137 (tgt := 76) rfl ?_
            exact ww_sub [1, 0] rfl (hk76 _ _ hF)
          · refine ww_ldc (v := 100000) cx dX2_advance_105 cn_X2_202 ?_
            refine ww_aload_n cx dX2_advance_107 rfl 0 rfl ?_
            refine gf_X2_122 cx dX2_advance_108 ?_
            refine ww_bipush cx dX2_advance_111 bc_10 ?_
            refine ww_imul cx dX2_advance_113 ?_
            refine ww_aload_n cx dX2_advance_114 rfl 0 rfl ?_
            refine gf_X2_9 cx dX2_advance_115 ?_
            refine ww_iload_n cx dX2_advance_118 rfl 1 rfl ?_
            refine ww_bald (N := 1600) cx (sh_2) dX2_advance_119 hF (fun hF => ?_)
            refine ww_iadd cx dX2_advance_120 ?_
            refine ww_bipush cx dX2_advance_121 bc_48 ?_
            refine ww_isub cx dX2_advance_123 ?_
            refine ww_mmin cx ml_X2_203 (by decide) (Nat.le_of_ble_eq_true rfl) dX2_advance_124 ?_
            refine ww_goto cx dX2_advance_127 (tgt := 131) rfl ?_
            refine pf_X2_122 cx dX2_advance_131 hF (fun σ6 hF => ?_)
            refine ww_iinc (j := 1) (ks := [0, 1]) (lv' := fun v7 => [(1, .int v7), (0, .ref (gad G 1))]) cx dX2_advance_134 (by decide) rfl ic_1 hF (fun _ => rfl) (fun v7 hF => ?_)
            refine ww_goto cx dX2_advance_137 (tgt := 76) rfl ?_
            exact ww_sub [1, 0] rfl (hk76 _ _ hF)
  have hb41 : ∀ (σ : St) (x1 : Int32) , fX2_advance_b41 σ x1 = some σo → WW G X 2 σ [(0, .ref (gad G 1)), (1, .int x1)] 41 [] := by
    intro σ x1 hF
    unfold fX2_advance_b41 at hF
    refine ww_aload_n cx dX2_advance_41 rfl 0 rfl ?_
    refine ww_iload_n cx dX2_advance_42 rfl 1 rfl ?_
    refine pf_X2_177 cx dX2_advance_43 hF (fun σ8 hF => ?_)
    refine ww_aload_n cx dX2_advance_46 rfl 0 rfl ?_
    refine ww_aload_n cx dX2_advance_47 rfl 0 rfl ?_
    refine ww_iload_n cx dX2_advance_48 rfl 1 rfl ?_
    refine ww_V1_pi kv_X2_199 rfl cx sh_1 ⟨Nat.le_of_ble_eq_true rfl, Nat.le_of_ble_eq_true rfl⟩ (Nat.le_of_ble_eq_true rfl) dX2_advance_49 (kX2_kindAt G) hF (fun r9 hF => ?_)
    refine pf_X2_36 cx dX2_advance_52 hF (fun σ10 hF => ?_)
    refine ww_aload_n cx dX2_advance_55 rfl 0 rfl ?_
    refine ww_iconst cx dX2_advance_56 ic_0 ?_
    refine pf_X2_122 cx dX2_advance_57 hF (fun σ11 hF => ?_)
    refine ww_aload_n cx dX2_advance_60 rfl 0 rfl ?_
    refine gf_X2_36 cx dX2_advance_61 ?_
    refine ww_iconst cx dX2_advance_64 ic_1 ?_
    refine ww_icmp_eq cx dX2_advance_65 (tgt := 76) rfl hF (fun hF => ?_) (fun hF => ?_)
    · exact hl76 FU _ _ hF
    · refine ww_aload_n cx dX2_advance_68 rfl 0 rfl ?_
      refine gf_X2_36 cx dX2_advance_69 ?_
      refine ww_iconst cx dX2_advance_72 ic_2 ?_
      refine ww_icmp_ne cx dX2_advance_73 (tgt := 140) rfl hF (fun hF => ?_) (fun hF => ?_)
      · refine ww_aload_n cx dX2_advance_140 rfl 0 rfl ?_
        refine gf_X2_36 cx dX2_advance_141 ?_
        refine ww_if_eq cx dX2_advance_144 (tgt := 150) rfl hF (fun hF => ?_) (fun hF => ?_)
        · refine ww_aload_n cx dX2_advance_150 rfl 0 rfl ?_
          refine ww_iload_n cx dX2_advance_151 rfl 1 rfl ?_
          refine pf_X2_30 cx dX2_advance_152 hF (fun σ12 hF => ?_)
          exact ww_rvs hE dX2_advance_155 hF
        · refine ww_iinc (j := 1) (ks := [0, 1]) (lv' := fun v13 => [(1, .int v13), (0, .ref (gad G 1))]) cx dX2_advance_147 (by decide) rfl ic_1 hF (fun _ => rfl) (fun v13 hF => ?_)
          refine ww_aload_n cx dX2_advance_150 rfl 1 rfl ?_
          refine ww_iload_n cx dX2_advance_151 rfl 0 rfl ?_
          refine pf_X2_30 cx dX2_advance_152 hF (fun σ14 hF => ?_)
          exact ww_rvs hE dX2_advance_155 hF
      · exact hl76 FU _ _ hF
  have hl5 : ∀ n : Nat, ∀ (σ : St) (x1 : Int32) , fX2_advance_l5 n σ x1 = some σo → WW G X 2 σ [(0, .ref (gad G 1)), (1, .int x1)] 5 [] := by
    intro n
    induction n with
    | zero =>
      intro σ x1 hF
      exact absurd hF (by intro z; cases z)
    | succ n ih =>
      intro σ x1 hF
      have hk5 := ih
      have hF : fX2_advance_B5 (fX2_advance_l5 n) σ x1 = some σo := hF
      unfold fX2_advance_B5 at hF
      refine ww_iload_n cx dX2_advance_5 rfl 1 rfl ?_
      refine ww_aload_n cx dX2_advance_6 rfl 0 rfl ?_
      refine gf_X2_19 cx dX2_advance_7 ?_
      refine ww_icmp_ge cx dX2_advance_10 (tgt := 41) rfl hF (fun hF => ?_) (fun hF => ?_)
      · exact hb41 _ _ hF
      · refine ww_aload_n cx dX2_advance_13 rfl 0 rfl ?_
        refine gf_X2_9 cx dX2_advance_14 ?_
        refine ww_iload_n cx dX2_advance_17 rfl 1 rfl ?_
        refine ww_bald (N := 1600) cx (sh_2) dX2_advance_18 hF (fun hF => ?_)
        refine ww_bipush cx dX2_advance_19 bc_32 ?_
        refine ww_icmp_eq cx dX2_advance_21 (tgt := 35) rfl hF (fun hF => ?_) (fun hF => ?_)
        · refine ww_iinc (j := 1) (ks := [0, 1]) (lv' := fun v15 => [(1, .int v15), (0, .ref (gad G 1))]) cx dX2_advance_35 (by decide) rfl ic_1 hF (fun _ => rfl) (fun v15 hF => ?_)
          refine ww_goto cx dX2_advance_38 (tgt := 5) rfl ?_
          exact ww_sub [1, 0] rfl (hk5 _ _ hF)
        · refine ww_aload_n cx dX2_advance_24 rfl 0 rfl ?_
          refine gf_X2_9 cx dX2_advance_25 ?_
          refine ww_iload_n cx dX2_advance_28 rfl 1 rfl ?_
          refine ww_bald (N := 1600) cx (sh_2) dX2_advance_29 hF (fun hF => ?_)
          refine ww_bipush cx dX2_advance_30 bc_10 ?_
          refine ww_icmp_ne cx dX2_advance_32 (tgt := 41) rfl hF (fun hF => ?_) (fun hF => ?_)
          · exact hb41 _ _ hF
          · refine ww_iinc (j := 1) (ks := [0, 1]) (lv' := fun v16 => [(1, .int v16), (0, .ref (gad G 1))]) cx dX2_advance_35 (by decide) rfl ic_1 hF (fun _ => rfl) (fun v16 hF => ?_)
            refine ww_goto cx dX2_advance_38 (tgt := 5) rfl ?_
            exact ww_sub [1, 0] rfl (hk5 _ _ hF)
  unfold fX2_advance at hF
  show WW G X 2 σ [(0, .ref (gad G 1))] 0 []
  refine ww_aload_n cx dX2_advance_0 rfl 0 rfl ?_
  refine gf_X2_30 cx dX2_advance_1 ?_
  refine ww_istore_n (ks := [0, 1]) (lv' := fun v17 => [(1, .int v17), (0, .ref (gad G 1))]) cx dX2_advance_4 rfl (by decide) hF (fun _ => rfl) (fun v17 hF => ?_)
  exact ww_sub [1, 0] rfl (hl5 FU _ _ hF)
