theorem dX6_leftAtWorst_0 : decode cX6_leftAtWorst 0 = .ok (.aload_n 0, 1) := by decide +kernel
theorem dX6_leftAtWorst_1 : decode cX6_leftAtWorst 1 = .ok (.aload_n 0, 1) := by decide +kernel
theorem dX6_leftAtWorst_2 : decode cX6_leftAtWorst 2 = .ok (.getfield 52, 3) := by decide +kernel
theorem dX6_leftAtWorst_5 : decode cX6_leftAtWorst 5 = .ok (.invokevirtual 69, 3) := by decide +kernel
theorem dX6_leftAtWorst_8 : decode cX6_leftAtWorst 8 = .ok (.istore_n 2, 1) := by decide +kernel
theorem dX6_leftAtWorst_9 : decode cX6_leftAtWorst 9 = .ok (.iload_n 2, 1) := by decide +kernel
theorem dX6_leftAtWorst_10 : decode cX6_leftAtWorst 10 = .ok (.aload_n 0, 1) := by decide +kernel
theorem dX6_leftAtWorst_11 : decode cX6_leftAtWorst 11 = .ok (.getfield 15, 3) := by decide +kernel
theorem dX6_leftAtWorst_14 : decode cX6_leftAtWorst 14 = .ok (.iload_n 1, 1) := by decide +kernel
theorem dX6_leftAtWorst_15 : decode cX6_leftAtWorst 15 = .ok (.iaload, 1) := by decide +kernel
theorem dX6_leftAtWorst_16 : decode cX6_leftAtWorst 16 = .ok (.iand, 1) := by decide +kernel
theorem dX6_leftAtWorst_17 : decode cX6_leftAtWorst 17 = .ok (.invokestatic 73, 3) := by decide +kernel
theorem dX6_leftAtWorst_20 : decode cX6_leftAtWorst 20 = .ok (.istore_n 3, 1) := by decide +kernel
theorem dX6_leftAtWorst_21 : decode cX6_leftAtWorst 21 = .ok (.iload_n 3, 1) := by decide +kernel
theorem dX6_leftAtWorst_22 : decode cX6_leftAtWorst 22 = .ok (.iload_n 2, 1) := by decide +kernel
theorem dX6_leftAtWorst_23 : decode cX6_leftAtWorst 23 = .ok (.invokestatic 73, 3) := by decide +kernel
theorem dX6_leftAtWorst_26 : decode cX6_leftAtWorst 26 = .ok (.iload_n 3, 1) := by decide +kernel
theorem dX6_leftAtWorst_27 : decode cX6_leftAtWorst 27 = .ok (.isub, 1) := by decide +kernel
theorem dX6_leftAtWorst_28 : decode cX6_leftAtWorst 28 = .ok (.invokestatic 78, 3) := by decide +kernel
theorem dX6_leftAtWorst_31 : decode cX6_leftAtWorst 31 = .ok (.ireturn, 1) := by decide +kernel
set_option maxRecDepth 4000 in
theorem kX6_leftAtWorst (G : GT) {σ : St} {t : Nat} {a1 : Int32} (ht : isTab t) : ∀ (r : Int32) , fX6_leftAtWorst σ t a1 = some r → MCt G 3 yX6_leftAtWorst cX6_leftAtWorst 4 (some .int) [.ref (gad G t), .int a1] σ (some (.int r)) σ := by
  intro r hF
  refine met_i (by decide) (Nat.le_of_ble_eq_true rfl) (fun X cx hE => ?_)
  have cx : Cx G X RX6 cX6_leftAtWorst 4 3 := cx
  unfold fX6_leftAtWorst at hF
  show WW G X 4 σ [(0, .ref (gad G t)), (1, .int a1)] 0 []
  refine ww_aload_n cx dX6_leftAtWorst_0 rfl 0 rfl ?_
  refine ww_aload_n cx dX6_leftAtWorst_1 rfl 0 rfl ?_
  refine gf_X6_52 cx (ht) dX6_leftAtWorst_2 ?_
  refine ww_V1_pi kv_X6_69 rfl cx ((ht).1) ⟨Nat.le_of_ble_eq_true rfl, Nat.le_of_ble_eq_true rfl⟩ (Nat.le_of_ble_eq_true rfl) dX6_leftAtWorst_5 (kX6_worldsOf G (ht)) hF (fun r1 hF => ?_)
  refine ww_istore_n (ks := [0, 1, 2]) (lv' := fun v2 => [(2, .int v2), (0, .ref (gad G t)), (1, .int a1)]) cx dX6_leftAtWorst_8 rfl (by decide) hF (fun _ => rfl) (fun v2 hF => ?_)
  refine ww_iload_n cx dX6_leftAtWorst_9 rfl 0 rfl ?_
  refine ww_aload_n cx dX6_leftAtWorst_10 rfl 1 rfl ?_
  refine gf_X6_15 cx (ht) dX6_leftAtWorst_11 ?_
  refine ww_iload_n cx dX6_leftAtWorst_14 rfl 2 rfl ?_
  refine ww_iald (N := 12) cx (ar_X6_9 ht) dX6_leftAtWorst_15 hF (fun hF => ?_)
  refine ww_iand cx dX6_leftAtWorst_16 ?_
  refine ww_S1_pi kv_X6_73 cx ⟨Nat.le_of_ble_eq_true rfl, Nat.le_of_ble_eq_true rfl⟩ (Nat.le_of_ble_eq_true rfl) dX6_leftAtWorst_17 (kJ6_bitCount_0f7a4 G) hF (fun r3 hF => ?_)
  refine ww_istore_n (ks := [0, 1]) (lv' := fun v4 => [(3, .int v4), (2, .int v2)]) cx dX6_leftAtWorst_20 rfl (by decide) hF (fun _ => rfl) (fun v4 hF => ?_)
  refine ww_iload_n cx dX6_leftAtWorst_21 rfl 0 rfl ?_
  refine ww_iload_n cx dX6_leftAtWorst_22 rfl 1 rfl ?_
  refine ww_S1_pi kv_X6_73 cx ⟨Nat.le_of_ble_eq_true rfl, Nat.le_of_ble_eq_true rfl⟩ (Nat.le_of_ble_eq_true rfl) dX6_leftAtWorst_23 (kJ6_bitCount_0f7a4 G) hF (fun r5 hF => ?_)
  refine ww_iload_n cx dX6_leftAtWorst_26 rfl 0 rfl ?_
  refine ww_isub cx dX6_leftAtWorst_27 ?_
  refine ww_mmax cx ml_X6_78 (by decide) (Nat.le_of_ble_eq_true rfl) dX6_leftAtWorst_28 ?_
  exact ww_rip hE dX6_leftAtWorst_31 hF
theorem dX8_adds_0 : decode cX8_adds 0 = .ok (.aload_n 0, 1) := by decide +kernel
theorem dX8_adds_1 : decode cX8_adds 1 = .ok (.iload_n 1, 1) := by decide +kernel
theorem dX8_adds_2 : decode cX8_adds 2 = .ok (.i2l, 1) := by decide +kernel
theorem dX8_adds_3 : decode cX8_adds 3 = .ok (.invokevirtual 269, 3) := by decide +kernel
theorem dX8_adds_6 : decode cX8_adds 6 = .ok (.ifCond .eq 26, 3) := by decide +kernel
theorem dX8_adds_9 : decode cX8_adds 9 = .ok (.aload_n 0, 1) := by decide +kernel
theorem dX8_adds_10 : decode cX8_adds 10 = .ok (.iload_n 2, 1) := by decide +kernel
theorem dX8_adds_11 : decode cX8_adds 11 = .ok (.invokevirtual 366, 3) := by decide +kernel
theorem dX8_adds_14 : decode cX8_adds 14 = .ok (.ifCond .eq 18, 3) := by decide +kernel
theorem dX8_adds_17 : decode cX8_adds 17 = .ok (.iload_n 2, 1) := by decide +kernel
theorem dX8_adds_18 : decode cX8_adds 18 = .ok (.invokestatic 273, 3) := by decide +kernel
theorem dX8_adds_21 : decode cX8_adds 21 = .ok (.i2l, 1) := by decide +kernel
theorem dX8_adds_22 : decode cX8_adds 22 = .ok (.lconst 1, 1) := by decide +kernel
theorem dX8_adds_23 : decode cX8_adds 23 = .ok (.ldc2_w 445, 3) := by decide +kernel
theorem dX8_adds_26 : decode cX8_adds 26 = .ok (.invokestatic 83, 3) := by decide +kernel
theorem dX8_adds_29 : decode cX8_adds 29 = .ok (.ifCond .ne 6, 3) := by decide +kernel
theorem dX8_adds_32 : decode cX8_adds 32 = .ok (.bipush (-2), 2) := by decide +kernel
theorem dX8_adds_34 : decode cX8_adds 34 = .ok (.ireturn, 1) := by decide +kernel
theorem dX8_adds_35 : decode cX8_adds 35 = .ok (.aload_n 0, 1) := by decide +kernel
theorem dX8_adds_36 : decode cX8_adds 36 = .ok (.getfield 9, 3) := by decide +kernel
theorem dX8_adds_39 : decode cX8_adds 39 = .ok (.iconst 4, 1) := by decide +kernel
theorem dX8_adds_40 : decode cX8_adds 40 = .ok (.iaload, 1) := by decide +kernel
theorem dX8_adds_41 : decode cX8_adds 41 = .ok (.bipush 12, 2) := by decide +kernel
theorem dX8_adds_43 : decode cX8_adds 43 = .ok (.if_icmp .ne 6, 3) := by decide +kernel
theorem dX8_adds_46 : decode cX8_adds 46 = .ok (.bipush (-3), 2) := by decide +kernel
theorem dX8_adds_48 : decode cX8_adds 48 = .ok (.ireturn, 1) := by decide +kernel
theorem dX8_adds_49 : decode cX8_adds 49 = .ok (.aload_n 0, 1) := by decide +kernel
theorem dX8_adds_50 : decode cX8_adds 50 = .ok (.getfield 9, 3) := by decide +kernel
theorem dX8_adds_53 : decode cX8_adds 53 = .ok (.bipush 43, 2) := by decide +kernel
theorem dX8_adds_55 : decode cX8_adds 55 = .ok (.iconst 2, 1) := by decide +kernel
theorem dX8_adds_56 : decode cX8_adds 56 = .ok (.aload_n 0, 1) := by decide +kernel
theorem dX8_adds_57 : decode cX8_adds 57 = .ok (.getfield 9, 3) := by decide +kernel
theorem dX8_adds_60 : decode cX8_adds 60 = .ok (.iconst 4, 1) := by decide +kernel
theorem dX8_adds_61 : decode cX8_adds 61 = .ok (.iaload, 1) := by decide +kernel
theorem dX8_adds_62 : decode cX8_adds 62 = .ok (.imul, 1) := by decide +kernel
theorem dX8_adds_63 : decode cX8_adds 63 = .ok (.iadd, 1) := by decide +kernel
theorem dX8_adds_64 : decode cX8_adds 64 = .ok (.iconst 0, 1) := by decide +kernel
theorem dX8_adds_65 : decode cX8_adds 65 = .ok (.iadd, 1) := by decide +kernel
theorem dX8_adds_66 : decode cX8_adds 66 = .ok (.iload_n 1, 1) := by decide +kernel
theorem dX8_adds_67 : decode cX8_adds 67 = .ok (.iastore, 1) := by decide +kernel
theorem dX8_adds_68 : decode cX8_adds 68 = .ok (.aload_n 0, 1) := by decide +kernel
theorem dX8_adds_69 : decode cX8_adds 69 = .ok (.getfield 9, 3) := by decide +kernel
theorem dX8_adds_72 : decode cX8_adds 72 = .ok (.bipush 43, 2) := by decide +kernel
theorem dX8_adds_74 : decode cX8_adds 74 = .ok (.iconst 2, 1) := by decide +kernel
theorem dX8_adds_75 : decode cX8_adds 75 = .ok (.aload_n 0, 1) := by decide +kernel
theorem dX8_adds_76 : decode cX8_adds 76 = .ok (.getfield 9, 3) := by decide +kernel
theorem dX8_adds_79 : decode cX8_adds 79 = .ok (.iconst 4, 1) := by decide +kernel
theorem dX8_adds_80 : decode cX8_adds 80 = .ok (.iaload, 1) := by decide +kernel
theorem dX8_adds_81 : decode cX8_adds 81 = .ok (.imul, 1) := by decide +kernel
theorem dX8_adds_82 : decode cX8_adds 82 = .ok (.iadd, 1) := by decide +kernel
theorem dX8_adds_83 : decode cX8_adds 83 = .ok (.iconst 1, 1) := by decide +kernel
theorem dX8_adds_84 : decode cX8_adds 84 = .ok (.iadd, 1) := by decide +kernel
theorem dX8_adds_85 : decode cX8_adds 85 = .ok (.iload_n 2, 1) := by decide +kernel
theorem dX8_adds_86 : decode cX8_adds 86 = .ok (.iastore, 1) := by decide +kernel
theorem dX8_adds_87 : decode cX8_adds 87 = .ok (.aload_n 0, 1) := by decide +kernel
theorem dX8_adds_88 : decode cX8_adds 88 = .ok (.getfield 9, 3) := by decide +kernel
theorem dX8_adds_91 : decode cX8_adds 91 = .ok (.iconst 4, 1) := by decide +kernel
theorem dX8_adds_92 : decode cX8_adds 92 = .ok (.dup2, 1) := by decide +kernel
theorem dX8_adds_93 : decode cX8_adds 93 = .ok (.iaload, 1) := by decide +kernel
theorem dX8_adds_94 : decode cX8_adds 94 = .ok (.iconst 1, 1) := by decide +kernel
theorem dX8_adds_95 : decode cX8_adds 95 = .ok (.iadd, 1) := by decide +kernel
theorem dX8_adds_96 : decode cX8_adds 96 = .ok (.iastore, 1) := by decide +kernel
theorem dX8_adds_97 : decode cX8_adds 97 = .ok (.aload_n 0, 1) := by decide +kernel
theorem dX8_adds_98 : decode cX8_adds 98 = .ok (.getfield 9, 3) := by decide +kernel
theorem dX8_adds_101 : decode cX8_adds 101 = .ok (.iconst 4, 1) := by decide +kernel
theorem dX8_adds_102 : decode cX8_adds 102 = .ok (.iaload, 1) := by decide +kernel
theorem dX8_adds_103 : decode cX8_adds 103 = .ok (.iconst 1, 1) := by decide +kernel
theorem dX8_adds_104 : decode cX8_adds 104 = .ok (.isub, 1) := by decide +kernel
theorem dX8_adds_105 : decode cX8_adds 105 = .ok (.ireturn, 1) := by decide +kernel
set_option maxRecDepth 4000 in
theorem kX8_adds (G : GT) {σ : St} {a1 : Int32} {a2 : Int32} : ∀ (r : Int32) (σo : St) , fX8_adds σ a1 a2 = some (r, σo) → MCt G 3 yX8_adds cX8_adds 3 (some .int) [.ref (gad G 62), .int a1, .int a2] σ (some (.int r)) σo := by
  intro r σo hF
  refine met_i (by decide) (Nat.le_of_ble_eq_true rfl) (fun X cx hE => ?_)
  have cx : Cx G X RX8 cX8_adds 3 3 := cx
  unfold fX8_adds at hF
  show WW G X 3 σ [(0, .ref (gad G 62)), (1, .int a1), (2, .int a2)] 0 []
  refine ww_aload_n cx dX8_adds_0 rfl 0 rfl ?_
  refine ww_iload_n cx dX8_adds_1 rfl 1 rfl ?_
  refine ww_i2l cx dX8_adds_2 ?_
  refine ww_V1_pi kv_X8_269 rfl cx sh_62 ⟨Nat.le_of_ble_eq_true rfl, Nat.le_of_ble_eq_true rfl⟩ (Nat.le_of_ble_eq_true rfl) dX8_adds_3 (kX8_isClaim G) hF (fun r1 hF => ?_)
  refine ww_if_eq cx dX8_adds_6 (tgt := 32) rfl hF (fun hF => ?_) (fun hF => ?_)
  · refine ww_bipush cx dX8_adds_32 bc_m2 ?_
    exact ww_ris hE dX8_adds_34 hF
  · refine ww_aload_n cx dX8_adds_9 rfl 0 rfl ?_
    refine ww_iload_n cx dX8_adds_10 rfl 2 rfl ?_
    refine ww_V1_pi kv_X8_366 rfl cx sh_62 ⟨Nat.le_of_ble_eq_true rfl, Nat.le_of_ble_eq_true rfl⟩ (Nat.le_of_ble_eq_true rfl) dX8_adds_11 (kX8_areClaims G) hF (fun r2 hF => ?_)
    refine ww_if_eq cx dX8_adds_14 (tgt := 32) rfl hF (fun hF => ?_) (fun hF => ?_)
    · refine ww_bipush cx dX8_adds_32 bc_m2 ?_
      exact ww_ris hE dX8_adds_34 hF
    · refine ww_iload_n cx dX8_adds_17 rfl 2 rfl ?_
      refine ww_S1_pi kv_X8_273 cx ⟨Nat.le_of_ble_eq_true rfl, Nat.le_of_ble_eq_true rfl⟩ (Nat.le_of_ble_eq_true rfl) dX8_adds_18 (kX8_bits G) hF (fun r3 hF => ?_)
      refine ww_i2l cx dX8_adds_21 ?_
      refine ww_lconst cx dX8_adds_22 lc_1 ?_
      refine ww_ldc2 (v := 3) cx dX8_adds_23 cn_X8_445 ?_
      refine ww_S3_pi kv_X8_83 cx ⟨Nat.le_of_ble_eq_true rfl, Nat.le_of_ble_eq_true rfl⟩ (Nat.le_of_ble_eq_true rfl) dX8_adds_26 (kX8_in G) hF (fun r4 hF => ?_)
      refine ww_if_ne cx dX8_adds_29 (tgt := 35) rfl hF (fun hF => ?_) (fun hF => ?_)
      · refine ww_aload_n cx dX8_adds_35 rfl 0 rfl ?_
        refine gf_X8_9 cx dX8_adds_36 ?_
        refine ww_iconst cx dX8_adds_39 ic_4 ?_
        refine ww_iald (N := 77) cx (sh_63) dX8_adds_40 hF (fun hF => ?_)
        refine ww_bipush cx dX8_adds_41 bc_12 ?_
        refine ww_icmp_ne cx dX8_adds_43 (tgt := 49) rfl hF (fun hF => ?_) (fun hF => ?_)
        · refine ww_aload_n cx dX8_adds_49 rfl 0 rfl ?_
          refine gf_X8_9 cx dX8_adds_50 ?_
          refine ww_bipush cx dX8_adds_53 bc_43 ?_
          refine ww_iconst cx dX8_adds_55 ic_2 ?_
          refine ww_aload_n cx dX8_adds_56 rfl 0 rfl ?_
          refine gf_X8_9 cx dX8_adds_57 ?_
          refine ww_iconst cx dX8_adds_60 ic_4 ?_
          refine ww_iald (N := 77) cx (sh_63) dX8_adds_61 hF (fun hF => ?_)
          refine ww_imul cx dX8_adds_62 ?_
          refine ww_iadd cx dX8_adds_63 ?_
          refine ww_iconst cx dX8_adds_64 ic_0 ?_
          refine ww_iadd cx dX8_adds_65 ?_
          refine ww_iload_n cx dX8_adds_66 rfl 1 rfl ?_
          refine ww_iast (N := 77) cx (sh_63) dX8_adds_67 hF (fun σ5 hF => ?_)
          refine ww_aload_n cx dX8_adds_68 rfl 0 rfl ?_
          refine gf_X8_9 cx dX8_adds_69 ?_
          refine ww_bipush cx dX8_adds_72 bc_43 ?_
          refine ww_iconst cx dX8_adds_74 ic_2 ?_
          refine ww_aload_n cx dX8_adds_75 rfl 0 rfl ?_
          refine gf_X8_9 cx dX8_adds_76 ?_
          refine ww_iconst cx dX8_adds_79 ic_4 ?_
          refine ww_iald (N := 77) cx (sh_63) dX8_adds_80 hF (fun hF => ?_)
          refine ww_imul cx dX8_adds_81 ?_
          refine ww_iadd cx dX8_adds_82 ?_
          refine ww_iconst cx dX8_adds_83 ic_1 ?_
          refine ww_iadd cx dX8_adds_84 ?_
          refine ww_iload_n cx dX8_adds_85 rfl 2 rfl ?_
          refine ww_iast (N := 77) cx (sh_63) dX8_adds_86 hF (fun σ6 hF => ?_)
          refine ww_aload_n cx dX8_adds_87 rfl 0 rfl ?_
          refine gf_X8_9 cx dX8_adds_88 ?_
          refine ww_iconst cx dX8_adds_91 ic_4 ?_
          refine ww_dup2 cx dX8_adds_92 rfl rfl ?_
          refine ww_iald (N := 77) cx (sh_63) dX8_adds_93 hF (fun hF => ?_)
          refine ww_iconst cx dX8_adds_94 ic_1 ?_
          refine ww_iadd cx dX8_adds_95 ?_
          refine ww_iast (N := 77) cx (sh_63) dX8_adds_96 hF (fun σ7 hF => ?_)
          refine ww_aload_n cx dX8_adds_97 rfl 0 rfl ?_
          refine gf_X8_9 cx dX8_adds_98 ?_
          refine ww_iconst cx dX8_adds_101 ic_4 ?_
          refine ww_iald (N := 77) cx (sh_63) dX8_adds_102 hF (fun hF => ?_)
          refine ww_iconst cx dX8_adds_103 ic_1 ?_
          refine ww_isub cx dX8_adds_104 ?_
          exact ww_ris hE dX8_adds_105 hF
        · refine ww_bipush cx dX8_adds_46 bc_m3 ?_
          exact ww_ris hE dX8_adds_48 hF
      · refine ww_bipush cx dX8_adds_32 bc_m2 ?_
        exact ww_ris hE dX8_adds_34 hF
theorem dX8_alike_0 : decode cX8_alike 0 = .ok (.aload_n 0, 1) := by decide +kernel
theorem dX8_alike_1 : decode cX8_alike 1 = .ok (.iload_n 1, 1) := by decide +kernel
theorem dX8_alike_2 : decode cX8_alike 2 = .ok (.i2l, 1) := by decide +kernel
theorem dX8_alike_3 : decode cX8_alike 3 = .ok (.invokevirtual 269, 3) := by decide +kernel
theorem dX8_alike_6 : decode cX8_alike 6 = .ok (.ifCond .ne 6, 3) := by decide +kernel
theorem dX8_alike_9 : decode cX8_alike 9 = .ok (.bipush (-2), 2) := by decide +kernel
theorem dX8_alike_11 : decode cX8_alike 11 = .ok (.ireturn, 1) := by decide +kernel
theorem dX8_alike_12 : decode cX8_alike 12 = .ok (.iconst 0, 1) := by decide +kernel
theorem dX8_alike_13 : decode cX8_alike 13 = .ok (.istore_n 2, 1) := by decide +kernel
theorem dX8_alike_14 : decode cX8_alike 14 = .ok (.iconst 0, 1) := by decide +kernel
theorem dX8_alike_15 : decode cX8_alike 15 = .ok (.istore_n 3, 1) := by decide +kernel
theorem dX8_alike_16 : decode cX8_alike 16 = .ok (.iload_n 3, 1) := by decide +kernel
theorem dX8_alike_17 : decode cX8_alike 17 = .ok (.aload_n 0, 1) := by decide +kernel
theorem dX8_alike_18 : decode cX8_alike 18 = .ok (.getfield 9, 3) := by decide +kernel
theorem dX8_alike_21 : decode cX8_alike 21 = .ok (.iconst 3, 1) := by decide +kernel
theorem dX8_alike_22 : decode cX8_alike 22 = .ok (.iaload, 1) := by decide +kernel
theorem dX8_alike_23 : decode cX8_alike 23 = .ok (.if_icmp .ge 39, 3) := by decide +kernel
theorem dX8_alike_26 : decode cX8_alike 26 = .ok (.iload_n 2, 1) := by decide +kernel
theorem dX8_alike_27 : decode cX8_alike 27 = .ok (.iload_n 3, 1) := by decide +kernel
theorem dX8_alike_28 : decode cX8_alike 28 = .ok (.iload_n 1, 1) := by decide +kernel
theorem dX8_alike_29 : decode cX8_alike 29 = .ok (.if_icmp .eq 24, 3) := by decide +kernel
theorem dX8_alike_32 : decode cX8_alike 32 = .ok (.aload_n 0, 1) := by decide +kernel
theorem dX8_alike_33 : decode cX8_alike 33 = .ok (.iload_n 3, 1) := by decide +kernel
theorem dX8_alike_34 : decode cX8_alike 34 = .ok (.iconst 2, 1) := by decide +kernel
theorem dX8_alike_35 : decode cX8_alike 35 = .ok (.invokevirtual 91, 3) := by decide +kernel
theorem dX8_alike_38 : decode cX8_alike 38 = .ok (.aload_n 0, 1) := by decide +kernel
theorem dX8_alike_39 : decode cX8_alike 39 = .ok (.iload_n 1, 1) := by decide +kernel
theorem dX8_alike_40 : decode cX8_alike 40 = .ok (.iconst 2, 1) := by decide +kernel
theorem dX8_alike_41 : decode cX8_alike 41 = .ok (.invokevirtual 91, 3) := by decide +kernel
theorem dX8_alike_44 : decode cX8_alike 44 = .ok (.if_icmp .ne 9, 3) := by decide +kernel
theorem dX8_alike_47 : decode cX8_alike 47 = .ok (.iconst 1, 1) := by decide +kernel
theorem dX8_alike_48 : decode cX8_alike 48 = .ok (.iload_n 3, 1) := by decide +kernel
theorem dX8_alike_49 : decode cX8_alike 49 = .ok (.ishl, 1) := by decide +kernel
theorem dX8_alike_50 : decode cX8_alike 50 = .ok (.goto 4, 3) := by decide +kernel
theorem dX8_alike_53 : decode cX8_alike 53 = .ok (.iconst 0, 1) := by decide +kernel
theorem dX8_alike_54 : decode cX8_alike 54 = .ok (.ior, 1) := by decide +kernel
theorem dX8_alike_55 : decode cX8_alike 55 = .ok (.istore_n 2, 1) := by decide +kernel
theorem dX8_alike_56 : decode cX8_alike 56 = .ok (.iinc 3 1, 3) := by decide +kernel
theorem dX8_alike_59 : decode cX8_alike 59 = .ok (.goto (-43), 3) := by decide +kernel
theorem dX8_alike_62 : decode cX8_alike 62 = .ok (.iload_n 2, 1) := by decide +kernel
theorem dX8_alike_63 : decode cX8_alike 63 = .ok (.ireturn, 1) := by decide +kernel
set_option maxRecDepth 4000 in
theorem kX8_alike (G : GT) {σ : St} {a1 : Int32} : ∀ (r : Int32) , fX8_alike σ a1 = some r → MCt G 3 yX8_alike cX8_alike 4 (some .int) [.ref (gad G 62), .int a1] σ (some (.int r)) σ := by
  intro r hF
  refine met_i (by decide) (Nat.le_of_ble_eq_true rfl) (fun X cx hE => ?_)
  have cx : Cx G X RX8 cX8_alike 4 3 := cx
  have hb54 : ∀ (kr16 : Int32 → Int32 → Int32 → Option (Int32)), (∀ (x1 : Int32) (x2 : Int32) (x3 : Int32) , kr16 x1 x2 x3 = some r → WW G X 4 σ [(0, .ref (gad G 62)), (1, .int x1), (2, .int x2), (3, .int x3)] 16 []) → ∀ (x1 : Int32) (x3 : Int32) (y0 : Int32) (y1 : Int32) , fX8_alike_b54 σ kr16 x1 x3 y0 y1 = some r → WW G X 4 σ [(0, .ref (gad G 62)), (1, .int x1), (3, .int x3)] 54 [.int y1, .int y0] := by
    intro kr16 hk16
    intro x1 x3 y0 y1 hF
    unfold fX8_alike_b54 at hF
    refine ww_ior cx dX8_alike_54 ?_
    refine ww_istore_n (ks := [0, 1, 2, 3]) (lv' := fun v1 => [(2, .int v1), (0, .ref (gad G 62)), (1, .int x1), (3, .int x3)]) cx dX8_alike_55 rfl (by decide) hF (fun _ => rfl) (fun v1 hF => ?_)
    refine ww_iinc (j := 3) (ks := [0, 1, 2, 3]) (lv' := fun v2 => [(3, .int v2), (2, .int v1), (0, .ref (gad G 62)), (1, .int x1)]) cx dX8_alike_56 (by decide) rfl ic_1 hF (fun _ => rfl) (fun v2 hF => ?_)
    refine ww_goto cx dX8_alike_59 (tgt := 16) rfl ?_
    exact ww_sub [2, 3, 1, 0] rfl (hk16 _ _ _ hF)
  have hb53 : ∀ (kr16 : Int32 → Int32 → Int32 → Option (Int32)), (∀ (x1 : Int32) (x2 : Int32) (x3 : Int32) , kr16 x1 x2 x3 = some r → WW G X 4 σ [(0, .ref (gad G 62)), (1, .int x1), (2, .int x2), (3, .int x3)] 16 []) → ∀ (x1 : Int32) (x3 : Int32) (y0 : Int32) , fX8_alike_b53 σ kr16 x1 x3 y0 = some r → WW G X 4 σ [(0, .ref (gad G 62)), (1, .int x1), (3, .int x3)] 53 [.int y0] := by
    intro kr16 hk16
    intro x1 x3 y0 hF
    unfold fX8_alike_b53 at hF
    refine ww_iconst cx dX8_alike_53 ic_0 ?_
    exact hb54 _ hk16 _ _ _ _ hF
  have hl16 : ∀ n : Nat, ∀ (x1 : Int32) (x2 : Int32) (x3 : Int32) , fX8_alike_l16 σ n x1 x2 x3 = some r → WW G X 4 σ [(0, .ref (gad G 62)), (1, .int x1), (2, .int x2), (3, .int x3)] 16 [] := by
    intro n
    induction n with
    | zero =>
      intro x1 x2 x3 hF
      exact absurd hF (by intro z; cases z)
    | succ n ih =>
      intro x1 x2 x3 hF
      have hk16 := ih
      have hF : fX8_alike_B16 σ (fX8_alike_l16 σ n) x1 x2 x3 = some r := hF
      unfold fX8_alike_B16 at hF
      refine ww_iload_n cx dX8_alike_16 rfl 3 rfl ?_
      refine ww_aload_n cx dX8_alike_17 rfl 0 rfl ?_
      refine gf_X8_9 cx dX8_alike_18 ?_
      refine ww_iconst cx dX8_alike_21 ic_3 ?_
      refine ww_iald (N := 77) cx (sh_63) dX8_alike_22 hF (fun hF => ?_)
      refine ww_icmp_ge cx dX8_alike_23 (tgt := 62) rfl hF (fun hF => ?_) (fun hF => ?_)
      · refine ww_iload_n cx dX8_alike_62 rfl 2 rfl ?_
        exact ww_rip hE dX8_alike_63 hF
      · refine ww_iload_n cx dX8_alike_26 rfl 2 rfl ?_
        refine ww_iload_n cx dX8_alike_27 rfl 3 rfl ?_
        refine ww_iload_n cx dX8_alike_28 rfl 1 rfl ?_
        refine ww_icmp_eq cx dX8_alike_29 (tgt := 53) rfl hF (fun hF => ?_) (fun hF => ?_)
        · exact ww_sub [0, 1, 3] rfl (hb53 _ hk16 _ _ _ hF)
        · refine ww_aload_n cx dX8_alike_32 rfl 0 rfl ?_
          refine ww_iload_n cx dX8_alike_33 rfl 3 rfl ?_
          refine ww_iconst cx dX8_alike_34 ic_2 ?_
          refine ww_V2_pi kv_X8_91 rfl cx sh_62 ⟨Nat.le_of_ble_eq_true rfl, Nat.le_of_ble_eq_true rfl⟩ (Nat.le_of_ble_eq_true rfl) dX8_alike_35 (kX8_ofClaim G) hF (fun r3 hF => ?_)
          refine ww_aload_n cx dX8_alike_38 rfl 0 rfl ?_
          refine ww_iload_n cx dX8_alike_39 rfl 1 rfl ?_
          refine ww_iconst cx dX8_alike_40 ic_2 ?_
          refine ww_V2_pi kv_X8_91 rfl cx sh_62 ⟨Nat.le_of_ble_eq_true rfl, Nat.le_of_ble_eq_true rfl⟩ (Nat.le_of_ble_eq_true rfl) dX8_alike_41 (kX8_ofClaim G) hF (fun r4 hF => ?_)
          refine ww_icmp_ne cx dX8_alike_44 (tgt := 53) rfl hF (fun hF => ?_) (fun hF => ?_)
          · exact ww_sub [0, 1, 3] rfl (hb53 _ hk16 _ _ _ hF)
          · refine ww_iconst cx dX8_alike_47 ic_1 ?_
            refine ww_iload_n cx dX8_alike_48 rfl 3 rfl ?_
            refine ww_ishl cx dX8_alike_49 ?_
            refine ww_goto cx dX8_alike_50 (tgt := 54) rfl ?_
            exact ww_sub [0, 1, 3] rfl (hb54 _ hk16 _ _ _ _ hF)
  unfold fX8_alike at hF
  show WW G X 4 σ [(0, .ref (gad G 62)), (1, .int a1)] 0 []
  refine ww_aload_n cx dX8_alike_0 rfl 0 rfl ?_
  refine ww_iload_n cx dX8_alike_1 rfl 1 rfl ?_
  refine ww_i2l cx dX8_alike_2 ?_
  refine ww_V1_pi kv_X8_269 rfl cx sh_62 ⟨Nat.le_of_ble_eq_true rfl, Nat.le_of_ble_eq_true rfl⟩ (Nat.le_of_ble_eq_true rfl) dX8_alike_3 (kX8_isClaim G) hF (fun r5 hF => ?_)
  refine ww_if_ne cx dX8_alike_6 (tgt := 12) rfl hF (fun hF => ?_) (fun hF => ?_)
  · refine ww_iconst cx dX8_alike_12 ic_0 ?_
    refine ww_istore_n (ks := [0, 1, 2]) (lv' := fun v6 => [(2, .int v6), (0, .ref (gad G 62)), (1, .int a1)]) cx dX8_alike_13 rfl (by decide) hF (fun _ => rfl) (fun v6 hF => ?_)
    refine ww_iconst cx dX8_alike_14 ic_0 ?_
    refine ww_istore_n (ks := [0, 1, 2, 3]) (lv' := fun v7 => [(3, .int v7), (2, .int v6), (0, .ref (gad G 62)), (1, .int a1)]) cx dX8_alike_15 rfl (by decide) hF (fun _ => rfl) (fun v7 hF => ?_)
    exact ww_sub [2, 3, 1, 0] rfl (hl16 FU _ _ _ hF)
  · refine ww_bipush cx dX8_alike_9 bc_m2 ?_
    exact ww_rip hE dX8_alike_11 hF
theorem dX8_asksEaten_0 : decode cX8_asksEaten 0 = .ok (.iload_n 1, 1) := by decide +kernel
theorem dX8_asksEaten_1 : decode cX8_asksEaten 1 = .ok (.invokestatic 316, 3) := by decide +kernel
theorem dX8_asksEaten_4 : decode cX8_asksEaten 4 = .ok (.ifCond .eq 14, 3) := by decide +kernel
theorem dX8_asksEaten_7 : decode cX8_asksEaten 7 = .ok (.aload_n 0, 1) := by decide +kernel
theorem dX8_asksEaten_8 : decode cX8_asksEaten 8 = .ok (.invokevirtual 291, 3) := by decide +kernel
theorem dX8_asksEaten_11 : decode cX8_asksEaten 11 = .ok (.ifCond .eq 7, 3) := by decide +kernel
theorem dX8_asksEaten_14 : decode cX8_asksEaten 14 = .ok (.iload_n 2, 1) := by decide +kernel
theorem dX8_asksEaten_15 : decode cX8_asksEaten 15 = .ok (.ifCond .ne 6, 3) := by decide +kernel
theorem dX8_asksEaten_18 : decode cX8_asksEaten 18 = .ok (.bipush (-2), 2) := by decide +kernel
theorem dX8_asksEaten_20 : decode cX8_asksEaten 20 = .ok (.ireturn, 1) := by decide +kernel
theorem dX8_asksEaten_21 : decode cX8_asksEaten 21 = .ok (.aload_n 0, 1) := by decide +kernel
theorem dX8_asksEaten_22 : decode cX8_asksEaten 22 = .ok (.getfield 61, 3) := by decide +kernel
theorem dX8_asksEaten_25 : decode cX8_asksEaten 25 = .ok (.iload_n 1, 1) := by decide +kernel
theorem dX8_asksEaten_26 : decode cX8_asksEaten 26 = .ok (.iaload, 1) := by decide +kernel
theorem dX8_asksEaten_27 : decode cX8_asksEaten 27 = .ok (.iconst (-1), 1) := by decide +kernel
theorem dX8_asksEaten_28 : decode cX8_asksEaten 28 = .ok (.if_icmp .ne 6, 3) := by decide +kernel
theorem dX8_asksEaten_31 : decode cX8_asksEaten 31 = .ok (.bipush (-6), 2) := by decide +kernel
theorem dX8_asksEaten_33 : decode cX8_asksEaten 33 = .ok (.ireturn, 1) := by decide +kernel
theorem dX8_asksEaten_34 : decode cX8_asksEaten 34 = .ok (.iconst 0, 1) := by decide +kernel
theorem dX8_asksEaten_35 : decode cX8_asksEaten 35 = .ok (.istore_n 3, 1) := by decide +kernel
theorem dX8_asksEaten_36 : decode cX8_asksEaten 36 = .ok (.iload_n 3, 1) := by decide +kernel
theorem dX8_asksEaten_37 : decode cX8_asksEaten 37 = .ok (.aload_n 0, 1) := by decide +kernel
theorem dX8_asksEaten_38 : decode cX8_asksEaten 38 = .ok (.getfield 61, 3) := by decide +kernel
theorem dX8_asksEaten_41 : decode cX8_asksEaten 41 = .ok (.iload_n 1, 1) := by decide +kernel
theorem dX8_asksEaten_42 : decode cX8_asksEaten 42 = .ok (.iaload, 1) := by decide +kernel
theorem dX8_asksEaten_43 : decode cX8_asksEaten 43 = .ok (.if_icmp .ge 41, 3) := by decide +kernel
theorem dX8_asksEaten_46 : decode cX8_asksEaten 46 = .ok (.aload_n 0, 1) := by decide +kernel
theorem dX8_asksEaten_47 : decode cX8_asksEaten 47 = .ok (.aload_n 0, 1) := by decide +kernel
theorem dX8_asksEaten_48 : decode cX8_asksEaten 48 = .ok (.iload_n 1, 1) := by decide +kernel
theorem dX8_asksEaten_49 : decode cX8_asksEaten 49 = .ok (.iload_n 3, 1) := by decide +kernel
theorem dX8_asksEaten_50 : decode cX8_asksEaten 50 = .ok (.invokevirtual 319, 3) := by decide +kernel
theorem dX8_asksEaten_53 : decode cX8_asksEaten 53 = .ok (.invokevirtual 269, 3) := by decide +kernel
theorem dX8_asksEaten_56 : decode cX8_asksEaten 56 = .ok (.ifCond .eq 19, 3) := by decide +kernel
theorem dX8_asksEaten_59 : decode cX8_asksEaten 59 = .ok (.aload_n 0, 1) := by decide +kernel
theorem dX8_asksEaten_60 : decode cX8_asksEaten 60 = .ok (.aload_n 0, 1) := by decide +kernel
theorem dX8_asksEaten_61 : decode cX8_asksEaten 61 = .ok (.iload_n 1, 1) := by decide +kernel
theorem dX8_asksEaten_62 : decode cX8_asksEaten 62 = .ok (.iload_n 3, 1) := by decide +kernel
theorem dX8_asksEaten_63 : decode cX8_asksEaten 63 = .ok (.invokevirtual 319, 3) := by decide +kernel
theorem dX8_asksEaten_66 : decode cX8_asksEaten 66 = .ok (.l2i, 1) := by decide +kernel
theorem dX8_asksEaten_67 : decode cX8_asksEaten 67 = .ok (.iconst 1, 1) := by decide +kernel
theorem dX8_asksEaten_68 : decode cX8_asksEaten 68 = .ok (.invokevirtual 91, 3) := by decide +kernel
theorem dX8_asksEaten_71 : decode cX8_asksEaten 71 = .ok (.iconst 1, 1) := by decide +kernel
theorem dX8_asksEaten_72 : decode cX8_asksEaten 72 = .ok (.if_icmp .ne 6, 3) := by decide +kernel
theorem dX8_asksEaten_75 : decode cX8_asksEaten 75 = .ok (.bipush (-2), 2) := by decide +kernel
theorem dX8_asksEaten_77 : decode cX8_asksEaten 77 = .ok (.ireturn, 1) := by decide +kernel
theorem dX8_asksEaten_78 : decode cX8_asksEaten 78 = .ok (.iinc 3 1, 3) := by decide +kernel
theorem dX8_asksEaten_81 : decode cX8_asksEaten 81 = .ok (.goto (-45), 3) := by decide +kernel
theorem dX8_asksEaten_84 : decode cX8_asksEaten 84 = .ok (.iconst 0, 1) := by decide +kernel
theorem dX8_asksEaten_85 : decode cX8_asksEaten 85 = .ok (.ireturn, 1) := by decide +kernel
set_option maxRecDepth 4000 in
theorem kX8_asksEaten (G : GT) {σ : St} {a1 : Int32} {a2 : Int32} : ∀ (r : Int32) , fX8_asksEaten σ a1 a2 = some r → MCt G 3 yX8_asksEaten cX8_asksEaten 4 (some .int) [.ref (gad G 62), .int a1, .int a2] σ (some (.int r)) σ := by
  intro r hF
  refine met_i (by decide) (Nat.le_of_ble_eq_true rfl) (fun X cx hE => ?_)
  have cx : Cx G X RX8 cX8_asksEaten 4 3 := cx
  have hl36 : ∀ n : Nat, ∀ (x1 : Int32) (x3 : Int32) , fX8_asksEaten_l36 σ n x1 x3 = some r → WW G X 4 σ [(0, .ref (gad G 62)), (1, .int x1), (3, .int x3)] 36 [] := by
    intro n
    induction n with
    | zero =>
      intro x1 x3 hF
      exact absurd hF (by intro z; cases z)
    | succ n ih =>
      intro x1 x3 hF
      have hk36 := ih
      have hF : fX8_asksEaten_B36 σ (fX8_asksEaten_l36 σ n) x1 x3 = some r := hF
      unfold fX8_asksEaten_B36 at hF
      refine ww_iload_n cx dX8_asksEaten_36 rfl 2 rfl ?_
      refine ww_aload_n cx dX8_asksEaten_37 rfl 0 rfl ?_
      refine gf_X8_61 cx dX8_asksEaten_38 ?_
      refine ww_iload_n cx dX8_asksEaten_41 rfl 1 rfl ?_
      refine ww_iald (N := 4) cx (sh_78) dX8_asksEaten_42 hF (fun hF => ?_)
      refine ww_icmp_ge cx dX8_asksEaten_43 (tgt := 84) rfl hF (fun hF => ?_) (fun hF => ?_)
      · refine ww_iconst cx dX8_asksEaten_84 ic_0 ?_
        exact ww_rip hE dX8_asksEaten_85 hF
      · refine ww_aload_n cx dX8_asksEaten_46 rfl 0 rfl ?_
        refine ww_aload_n cx dX8_asksEaten_47 rfl 0 rfl ?_
        refine ww_iload_n cx dX8_asksEaten_48 rfl 1 rfl ?_
        refine ww_iload_n cx dX8_asksEaten_49 rfl 2 rfl ?_
        refine ww_V2_pl kv_X8_319 rfl cx sh_62 ⟨Nat.le_of_ble_eq_true rfl, Nat.le_of_ble_eq_true rfl⟩ (Nat.le_of_ble_eq_true rfl) dX8_asksEaten_50 (kX8_numberAt G) hF (fun r1 hF => ?_)
        refine ww_V1_pi kv_X8_269 rfl cx sh_62 ⟨Nat.le_of_ble_eq_true rfl, Nat.le_of_ble_eq_true rfl⟩ (Nat.le_of_ble_eq_true rfl) dX8_asksEaten_53 (kX8_isClaim G) hF (fun r2 hF => ?_)
        refine ww_if_eq cx dX8_asksEaten_56 (tgt := 75) rfl hF (fun hF => ?_) (fun hF => ?_)
        · refine ww_bipush cx dX8_asksEaten_75 bc_m2 ?_
          exact ww_rip hE dX8_asksEaten_77 hF
        · refine ww_aload_n cx dX8_asksEaten_59 rfl 0 rfl ?_
          refine ww_aload_n cx dX8_asksEaten_60 rfl 0 rfl ?_
          refine ww_iload_n cx dX8_asksEaten_61 rfl 1 rfl ?_
          refine ww_iload_n cx dX8_asksEaten_62 rfl 2 rfl ?_
          refine ww_V2_pl kv_X8_319 rfl cx sh_62 ⟨Nat.le_of_ble_eq_true rfl, Nat.le_of_ble_eq_true rfl⟩ (Nat.le_of_ble_eq_true rfl) dX8_asksEaten_63 (kX8_numberAt G) hF (fun r3 hF => ?_)
          refine ww_l2i cx dX8_asksEaten_66 ?_
          refine ww_iconst cx dX8_asksEaten_67 ic_1 ?_
          refine ww_V2_pi kv_X8_91 rfl cx sh_62 ⟨Nat.le_of_ble_eq_true rfl, Nat.le_of_ble_eq_true rfl⟩ (Nat.le_of_ble_eq_true rfl) dX8_asksEaten_68 (kX8_ofClaim G) hF (fun r4 hF => ?_)
          refine ww_iconst cx dX8_asksEaten_71 ic_1 ?_
          refine ww_icmp_ne cx dX8_asksEaten_72 (tgt := 78) rfl hF (fun hF => ?_) (fun hF => ?_)
          · refine ww_iinc (j := 2) (ks := [0, 1, 2]) (lv' := fun v5 => [(3, .int v5), (0, .ref (gad G 62)), (1, .int x1)]) cx dX8_asksEaten_78 (by decide) rfl ic_1 hF (fun _ => rfl) (fun v5 hF => ?_)
            refine ww_goto cx dX8_asksEaten_81 (tgt := 36) rfl ?_
            exact ww_sub [1, 2, 0] rfl (hk36 _ _ hF)
          · refine ww_bipush cx dX8_asksEaten_75 bc_m2 ?_
            exact ww_rip hE dX8_asksEaten_77 hF
  unfold fX8_asksEaten at hF
  show WW G X 4 σ [(0, .ref (gad G 62)), (1, .int a1), (2, .int a2)] 0 []
  refine ww_iload_n cx dX8_asksEaten_0 rfl 1 rfl ?_
  refine ww_S1_pi kv_X8_316 cx ⟨Nat.le_of_ble_eq_true rfl, Nat.le_of_ble_eq_true rfl⟩ (Nat.le_of_ble_eq_true rfl) dX8_asksEaten_1 (kX8_isSlot G) hF (fun r6 hF => ?_)
  refine ww_if_eq cx dX8_asksEaten_4 (tgt := 18) rfl hF (fun hF => ?_) (fun hF => ?_)
  · refine ww_bipush cx dX8_asksEaten_18 bc_m2 ?_
    exact ww_rip hE dX8_asksEaten_20 hF
  · refine ww_aload_n cx dX8_asksEaten_7 rfl 0 rfl ?_
    refine ww_V0_pi kv_X8_291 rfl cx sh_62 ⟨Nat.le_of_ble_eq_true rfl, Nat.le_of_ble_eq_true rfl⟩ (Nat.le_of_ble_eq_true rfl) dX8_asksEaten_8 (kX8_isTable G) hF (fun r7 hF => ?_)
    refine ww_if_eq cx dX8_asksEaten_11 (tgt := 18) rfl hF (fun hF => ?_) (fun hF => ?_)
    · refine ww_bipush cx dX8_asksEaten_18 bc_m2 ?_
      exact ww_rip hE dX8_asksEaten_20 hF
    · refine ww_iload_n cx dX8_asksEaten_14 rfl 2 rfl ?_
      refine ww_if_ne cx dX8_asksEaten_15 (tgt := 21) rfl hF (fun hF => ?_) (fun hF => ?_)
      · refine ww_aload_n cx dX8_asksEaten_21 rfl 0 rfl ?_
        refine gf_X8_61 cx dX8_asksEaten_22 ?_
        refine ww_iload_n cx dX8_asksEaten_25 rfl 1 rfl ?_
        refine ww_iald (N := 4) cx (sh_78) dX8_asksEaten_26 hF (fun hF => ?_)
        refine ww_iconst cx dX8_asksEaten_27 ic_m1 ?_
        refine ww_icmp_ne cx dX8_asksEaten_28 (tgt := 34) rfl hF (fun hF => ?_) (fun hF => ?_)
        · refine ww_iconst cx dX8_asksEaten_34 ic_0 ?_
          refine ww_istore_n (ks := [0, 1, 2]) (lv' := fun v8 => [(3, .int v8), (0, .ref (gad G 62)), (1, .int a1)]) cx dX8_asksEaten_35 rfl (by decide) hF (fun _ => rfl) (fun v8 hF => ?_)
          exact ww_sub [1, 2, 0] rfl (hl36 FU _ _ hF)
        · refine ww_bipush cx dX8_asksEaten_31 bc_m6 ?_
          exact ww_rip hE dX8_asksEaten_33 hF
      · refine ww_bipush cx dX8_asksEaten_18 bc_m2 ?_
        exact ww_rip hE dX8_asksEaten_20 hF
theorem dX8_asksKitchen_0 : decode cX8_asksKitchen 0 = .ok (.iload_n 1, 1) := by decide +kernel
theorem dX8_asksKitchen_1 : decode cX8_asksKitchen 1 = .ok (.invokestatic 316, 3) := by decide +kernel
theorem dX8_asksKitchen_4 : decode cX8_asksKitchen 4 = .ok (.ifCond .eq 14, 3) := by decide +kernel
theorem dX8_asksKitchen_7 : decode cX8_asksKitchen 7 = .ok (.aload_n 0, 1) := by decide +kernel
theorem dX8_asksKitchen_8 : decode cX8_asksKitchen 8 = .ok (.invokevirtual 291, 3) := by decide +kernel
theorem dX8_asksKitchen_11 : decode cX8_asksKitchen 11 = .ok (.ifCond .eq 7, 3) := by decide +kernel
theorem dX8_asksKitchen_14 : decode cX8_asksKitchen 14 = .ok (.iload_n 2, 1) := by decide +kernel
theorem dX8_asksKitchen_15 : decode cX8_asksKitchen 15 = .ok (.ifCond .ne 6, 3) := by decide +kernel
theorem dX8_asksKitchen_18 : decode cX8_asksKitchen 18 = .ok (.bipush (-2), 2) := by decide +kernel
theorem dX8_asksKitchen_20 : decode cX8_asksKitchen 20 = .ok (.ireturn, 1) := by decide +kernel
theorem dX8_asksKitchen_21 : decode cX8_asksKitchen 21 = .ok (.aload_n 0, 1) := by decide +kernel
theorem dX8_asksKitchen_22 : decode cX8_asksKitchen 22 = .ok (.getfield 61, 3) := by decide +kernel
theorem dX8_asksKitchen_25 : decode cX8_asksKitchen 25 = .ok (.iload_n 1, 1) := by decide +kernel
theorem dX8_asksKitchen_26 : decode cX8_asksKitchen 26 = .ok (.iaload, 1) := by decide +kernel
theorem dX8_asksKitchen_27 : decode cX8_asksKitchen 27 = .ok (.iconst (-1), 1) := by decide +kernel
theorem dX8_asksKitchen_28 : decode cX8_asksKitchen 28 = .ok (.if_icmp .ne 6, 3) := by decide +kernel
theorem dX8_asksKitchen_31 : decode cX8_asksKitchen 31 = .ok (.bipush (-6), 2) := by decide +kernel
theorem dX8_asksKitchen_33 : decode cX8_asksKitchen 33 = .ok (.ireturn, 1) := by decide +kernel
theorem dX8_asksKitchen_34 : decode cX8_asksKitchen 34 = .ok (.aload_n 0, 1) := by decide +kernel
theorem dX8_asksKitchen_35 : decode cX8_asksKitchen 35 = .ok (.getfield 61, 3) := by decide +kernel
theorem dX8_asksKitchen_38 : decode cX8_asksKitchen 38 = .ok (.iload_n 1, 1) := by decide +kernel
theorem dX8_asksKitchen_39 : decode cX8_asksKitchen 39 = .ok (.iaload, 1) := by decide +kernel
theorem dX8_asksKitchen_40 : decode cX8_asksKitchen 40 = .ok (.iconst 2, 1) := by decide +kernel
theorem dX8_asksKitchen_41 : decode cX8_asksKitchen 41 = .ok (.irem, 1) := by decide +kernel
theorem dX8_asksKitchen_42 : decode cX8_asksKitchen 42 = .ok (.ifCond .eq 6, 3) := by decide +kernel
theorem dX8_asksKitchen_45 : decode cX8_asksKitchen 45 = .ok (.bipush (-2), 2) := by decide +kernel
theorem dX8_asksKitchen_47 : decode cX8_asksKitchen 47 = .ok (.ireturn, 1) := by decide +kernel
theorem dX8_asksKitchen_48 : decode cX8_asksKitchen 48 = .ok (.iconst 0, 1) := by decide +kernel
theorem dX8_asksKitchen_49 : decode cX8_asksKitchen 49 = .ok (.istore_n 3, 1) := by decide +kernel
theorem dX8_asksKitchen_50 : decode cX8_asksKitchen 50 = .ok (.iload_n 3, 1) := by decide +kernel
theorem dX8_asksKitchen_51 : decode cX8_asksKitchen 51 = .ok (.aload_n 0, 1) := by decide +kernel
theorem dX8_asksKitchen_52 : decode cX8_asksKitchen 52 = .ok (.getfield 61, 3) := by decide +kernel
theorem dX8_asksKitchen_55 : decode cX8_asksKitchen 55 = .ok (.iload_n 1, 1) := by decide +kernel
theorem dX8_asksKitchen_56 : decode cX8_asksKitchen 56 = .ok (.iaload, 1) := by decide +kernel
theorem dX8_asksKitchen_57 : decode cX8_asksKitchen 57 = .ok (.if_icmp .ge 40, 3) := by decide +kernel
theorem dX8_asksKitchen_60 : decode cX8_asksKitchen 60 = .ok (.aload_n 0, 1) := by decide +kernel
theorem dX8_asksKitchen_61 : decode cX8_asksKitchen 61 = .ok (.aload_n 0, 1) := by decide +kernel
theorem dX8_asksKitchen_62 : decode cX8_asksKitchen 62 = .ok (.iload_n 1, 1) := by decide +kernel
theorem dX8_asksKitchen_63 : decode cX8_asksKitchen 63 = .ok (.iload_n 3, 1) := by decide +kernel
theorem dX8_asksKitchen_64 : decode cX8_asksKitchen 64 = .ok (.invokevirtual 319, 3) := by decide +kernel
theorem dX8_asksKitchen_67 : decode cX8_asksKitchen 67 = .ok (.invokevirtual 285, 3) := by decide +kernel
theorem dX8_asksKitchen_70 : decode cX8_asksKitchen 70 = .ok (.ifCond .eq 18, 3) := by decide +kernel
theorem dX8_asksKitchen_73 : decode cX8_asksKitchen 73 = .ok (.aload_n 0, 1) := by decide +kernel
theorem dX8_asksKitchen_74 : decode cX8_asksKitchen 74 = .ok (.aload_n 0, 1) := by decide +kernel
theorem dX8_asksKitchen_75 : decode cX8_asksKitchen 75 = .ok (.iload_n 1, 1) := by decide +kernel
theorem dX8_asksKitchen_76 : decode cX8_asksKitchen 76 = .ok (.iload_n 3, 1) := by decide +kernel
theorem dX8_asksKitchen_77 : decode cX8_asksKitchen 77 = .ok (.iconst 1, 1) := by decide +kernel
theorem dX8_asksKitchen_78 : decode cX8_asksKitchen 78 = .ok (.iadd, 1) := by decide +kernel
theorem dX8_asksKitchen_79 : decode cX8_asksKitchen 79 = .ok (.invokevirtual 319, 3) := by decide +kernel
theorem dX8_asksKitchen_82 : decode cX8_asksKitchen 82 = .ok (.invokevirtual 276, 3) := by decide +kernel
theorem dX8_asksKitchen_85 : decode cX8_asksKitchen 85 = .ok (.ifCond .ne 6, 3) := by decide +kernel
theorem dX8_asksKitchen_88 : decode cX8_asksKitchen 88 = .ok (.bipush (-2), 2) := by decide +kernel
theorem dX8_asksKitchen_90 : decode cX8_asksKitchen 90 = .ok (.ireturn, 1) := by decide +kernel
theorem dX8_asksKitchen_91 : decode cX8_asksKitchen 91 = .ok (.iinc 3 2, 3) := by decide +kernel
theorem dX8_asksKitchen_94 : decode cX8_asksKitchen 94 = .ok (.goto (-44), 3) := by decide +kernel
theorem dX8_asksKitchen_97 : decode cX8_asksKitchen 97 = .ok (.iconst 0, 1) := by decide +kernel
theorem dX8_asksKitchen_98 : decode cX8_asksKitchen 98 = .ok (.ireturn, 1) := by decide +kernel
set_option maxRecDepth 4000 in
theorem kX8_asksKitchen (G : GT) {σ : St} {a1 : Int32} {a2 : Int32} : ∀ (r : Int32) , fX8_asksKitchen σ a1 a2 = some r → MCt G 3 yX8_asksKitchen cX8_asksKitchen 4 (some .int) [.ref (gad G 62), .int a1, .int a2] σ (some (.int r)) σ := by
  intro r hF
  refine met_i (by decide) (Nat.le_of_ble_eq_true rfl) (fun X cx hE => ?_)
  have cx : Cx G X RX8 cX8_asksKitchen 4 3 := cx
  have hl50 : ∀ n : Nat, ∀ (x1 : Int32) (x3 : Int32) , fX8_asksKitchen_l50 σ n x1 x3 = some r → WW G X 4 σ [(0, .ref (gad G 62)), (1, .int x1), (3, .int x3)] 50 [] := by
    intro n
    induction n with
    | zero =>
      intro x1 x3 hF
      exact absurd hF (by intro z; cases z)
    | succ n ih =>
      intro x1 x3 hF
      have hk50 := ih
      have hF : fX8_asksKitchen_B50 σ (fX8_asksKitchen_l50 σ n) x1 x3 = some r := hF
      unfold fX8_asksKitchen_B50 at hF
      refine ww_iload_n cx dX8_asksKitchen_50 rfl 2 rfl ?_
      refine ww_aload_n cx dX8_asksKitchen_51 rfl 0 rfl ?_
      refine gf_X8_61 cx dX8_asksKitchen_52 ?_
      refine ww_iload_n cx dX8_asksKitchen_55 rfl 1 rfl ?_
      refine ww_iald (N := 4) cx (sh_78) dX8_asksKitchen_56 hF (fun hF => ?_)
      refine ww_icmp_ge cx dX8_asksKitchen_57 (tgt := 97) rfl hF (fun hF => ?_) (fun hF => ?_)
      · refine ww_iconst cx dX8_asksKitchen_97 ic_0 ?_
        exact ww_rip hE dX8_asksKitchen_98 hF
      · refine ww_aload_n cx dX8_asksKitchen_60 rfl 0 rfl ?_
        refine ww_aload_n cx dX8_asksKitchen_61 rfl 0 rfl ?_
        refine ww_iload_n cx dX8_asksKitchen_62 rfl 1 rfl ?_
        refine ww_iload_n cx dX8_asksKitchen_63 rfl 2 rfl ?_
        refine ww_V2_pl kv_X8_319 rfl cx sh_62 ⟨Nat.le_of_ble_eq_true rfl, Nat.le_of_ble_eq_true rfl⟩ (Nat.le_of_ble_eq_true rfl) dX8_asksKitchen_64 (kX8_numberAt G) hF (fun r1 hF => ?_)
        refine ww_V1_pi kv_X8_285 rfl cx sh_62 ⟨Nat.le_of_ble_eq_true rfl, Nat.le_of_ble_eq_true rfl⟩ (Nat.le_of_ble_eq_true rfl) dX8_asksKitchen_67 (kX8_isGuest G) hF (fun r2 hF => ?_)
        refine ww_if_eq cx dX8_asksKitchen_70 (tgt := 88) rfl hF (fun hF => ?_) (fun hF => ?_)
        · refine ww_bipush cx dX8_asksKitchen_88 bc_m2 ?_
          exact ww_rip hE dX8_asksKitchen_90 hF
        · refine ww_aload_n cx dX8_asksKitchen_73 rfl 0 rfl ?_
          refine ww_aload_n cx dX8_asksKitchen_74 rfl 0 rfl ?_
          refine ww_iload_n cx dX8_asksKitchen_75 rfl 1 rfl ?_
          refine ww_iload_n cx dX8_asksKitchen_76 rfl 2 rfl ?_
          refine ww_iconst cx dX8_asksKitchen_77 ic_1 ?_
          refine ww_iadd cx dX8_asksKitchen_78 ?_
          refine ww_V2_pl kv_X8_319 rfl cx sh_62 ⟨Nat.le_of_ble_eq_true rfl, Nat.le_of_ble_eq_true rfl⟩ (Nat.le_of_ble_eq_true rfl) dX8_asksKitchen_79 (kX8_numberAt G) hF (fun r3 hF => ?_)
          refine ww_V1_pi kv_X8_276 rfl cx sh_62 ⟨Nat.le_of_ble_eq_true rfl, Nat.le_of_ble_eq_true rfl⟩ (Nat.le_of_ble_eq_true rfl) dX8_asksKitchen_82 (kX8_isStep G) hF (fun r4 hF => ?_)
          refine ww_if_ne cx dX8_asksKitchen_85 (tgt := 91) rfl hF (fun hF => ?_) (fun hF => ?_)
          · refine ww_iinc (j := 2) (ks := [0, 1, 2]) (lv' := fun v5 => [(3, .int v5), (0, .ref (gad G 62)), (1, .int x1)]) cx dX8_asksKitchen_91 (by decide) rfl ic_2 hF (fun _ => rfl) (fun v5 hF => ?_)
            refine ww_goto cx dX8_asksKitchen_94 (tgt := 50) rfl ?_
            exact ww_sub [1, 2, 0] rfl (hk50 _ _ hF)
          · refine ww_bipush cx dX8_asksKitchen_88 bc_m2 ?_
            exact ww_rip hE dX8_asksKitchen_90 hF
  unfold fX8_asksKitchen at hF
  show WW G X 4 σ [(0, .ref (gad G 62)), (1, .int a1), (2, .int a2)] 0 []
  refine ww_iload_n cx dX8_asksKitchen_0 rfl 1 rfl ?_
  refine ww_S1_pi kv_X8_316 cx ⟨Nat.le_of_ble_eq_true rfl, Nat.le_of_ble_eq_true rfl⟩ (Nat.le_of_ble_eq_true rfl) dX8_asksKitchen_1 (kX8_isSlot G) hF (fun r6 hF => ?_)
  refine ww_if_eq cx dX8_asksKitchen_4 (tgt := 18) rfl hF (fun hF => ?_) (fun hF => ?_)
  · refine ww_bipush cx dX8_asksKitchen_18 bc_m2 ?_
    exact ww_rip hE dX8_asksKitchen_20 hF
  · refine ww_aload_n cx dX8_asksKitchen_7 rfl 0 rfl ?_
    refine ww_V0_pi kv_X8_291 rfl cx sh_62 ⟨Nat.le_of_ble_eq_true rfl, Nat.le_of_ble_eq_true rfl⟩ (Nat.le_of_ble_eq_true rfl) dX8_asksKitchen_8 (kX8_isTable G) hF (fun r7 hF => ?_)
    refine ww_if_eq cx dX8_asksKitchen_11 (tgt := 18) rfl hF (fun hF => ?_) (fun hF => ?_)
    · refine ww_bipush cx dX8_asksKitchen_18 bc_m2 ?_
      exact ww_rip hE dX8_asksKitchen_20 hF
    · refine ww_iload_n cx dX8_asksKitchen_14 rfl 2 rfl ?_
      refine ww_if_ne cx dX8_asksKitchen_15 (tgt := 21) rfl hF (fun hF => ?_) (fun hF => ?_)
      · refine ww_aload_n cx dX8_asksKitchen_21 rfl 0 rfl ?_
        refine gf_X8_61 cx dX8_asksKitchen_22 ?_
        refine ww_iload_n cx dX8_asksKitchen_25 rfl 1 rfl ?_
        refine ww_iald (N := 4) cx (sh_78) dX8_asksKitchen_26 hF (fun hF => ?_)
        refine ww_iconst cx dX8_asksKitchen_27 ic_m1 ?_
        refine ww_icmp_ne cx dX8_asksKitchen_28 (tgt := 34) rfl hF (fun hF => ?_) (fun hF => ?_)
        · refine ww_aload_n cx dX8_asksKitchen_34 rfl 0 rfl ?_
          refine gf_X8_61 cx dX8_asksKitchen_35 ?_
          refine ww_iload_n cx dX8_asksKitchen_38 rfl 1 rfl ?_
          refine ww_iald (N := 4) cx (sh_78) dX8_asksKitchen_39 hF (fun hF => ?_)
          refine ww_iconst cx dX8_asksKitchen_40 ic_2 ?_
          refine ww_irem cx dX8_asksKitchen_41 hF (fun hF => ?_)
          refine ww_if_eq cx dX8_asksKitchen_42 (tgt := 48) rfl hF (fun hF => ?_) (fun hF => ?_)
          · refine ww_iconst cx dX8_asksKitchen_48 ic_0 ?_
            refine ww_istore_n (ks := [0, 1, 2]) (lv' := fun v8 => [(3, .int v8), (0, .ref (gad G 62)), (1, .int a1)]) cx dX8_asksKitchen_49 rfl (by decide) hF (fun _ => rfl) (fun v8 hF => ?_)
            exact ww_sub [1, 2, 0] rfl (hl50 FU _ _ hF)
          · refine ww_bipush cx dX8_asksKitchen_45 bc_m2 ?_
            exact ww_rip hE dX8_asksKitchen_47 hF
        · refine ww_bipush cx dX8_asksKitchen_31 bc_m6 ?_
          exact ww_rip hE dX8_asksKitchen_33 hF
      · refine ww_bipush cx dX8_asksKitchen_18 bc_m2 ?_
        exact ww_rip hE dX8_asksKitchen_20 hF
theorem dX8_asksRow_0 : decode cX8_asksRow 0 = .ok (.iload_n 1, 1) := by decide +kernel
theorem dX8_asksRow_1 : decode cX8_asksRow 1 = .ok (.invokestatic 316, 3) := by decide +kernel
theorem dX8_asksRow_4 : decode cX8_asksRow 4 = .ok (.ifCond .eq 14, 3) := by decide +kernel
theorem dX8_asksRow_7 : decode cX8_asksRow 7 = .ok (.aload_n 0, 1) := by decide +kernel
theorem dX8_asksRow_8 : decode cX8_asksRow 8 = .ok (.invokevirtual 291, 3) := by decide +kernel
theorem dX8_asksRow_11 : decode cX8_asksRow 11 = .ok (.ifCond .eq 7, 3) := by decide +kernel
theorem dX8_asksRow_14 : decode cX8_asksRow 14 = .ok (.iload_n 2, 1) := by decide +kernel
theorem dX8_asksRow_15 : decode cX8_asksRow 15 = .ok (.ifCond .ne 6, 3) := by decide +kernel
theorem dX8_asksRow_18 : decode cX8_asksRow 18 = .ok (.bipush (-2), 2) := by decide +kernel
theorem dX8_asksRow_20 : decode cX8_asksRow 20 = .ok (.ireturn, 1) := by decide +kernel
theorem dX8_asksRow_21 : decode cX8_asksRow 21 = .ok (.aload_n 0, 1) := by decide +kernel
theorem dX8_asksRow_22 : decode cX8_asksRow 22 = .ok (.getfield 61, 3) := by decide +kernel
theorem dX8_asksRow_25 : decode cX8_asksRow 25 = .ok (.iload_n 1, 1) := by decide +kernel
theorem dX8_asksRow_26 : decode cX8_asksRow 26 = .ok (.iaload, 1) := by decide +kernel
theorem dX8_asksRow_27 : decode cX8_asksRow 27 = .ok (.iconst (-1), 1) := by decide +kernel
theorem dX8_asksRow_28 : decode cX8_asksRow 28 = .ok (.if_icmp .ne 6, 3) := by decide +kernel
theorem dX8_asksRow_31 : decode cX8_asksRow 31 = .ok (.bipush (-6), 2) := by decide +kernel
theorem dX8_asksRow_33 : decode cX8_asksRow 33 = .ok (.ireturn, 1) := by decide +kernel
theorem dX8_asksRow_34 : decode cX8_asksRow 34 = .ok (.iconst 0, 1) := by decide +kernel
theorem dX8_asksRow_35 : decode cX8_asksRow 35 = .ok (.istore_n 3, 1) := by decide +kernel
theorem dX8_asksRow_36 : decode cX8_asksRow 36 = .ok (.iload_n 3, 1) := by decide +kernel
theorem dX8_asksRow_37 : decode cX8_asksRow 37 = .ok (.aload_n 0, 1) := by decide +kernel
theorem dX8_asksRow_38 : decode cX8_asksRow 38 = .ok (.getfield 61, 3) := by decide +kernel
theorem dX8_asksRow_41 : decode cX8_asksRow 41 = .ok (.iload_n 1, 1) := by decide +kernel
theorem dX8_asksRow_42 : decode cX8_asksRow 42 = .ok (.iaload, 1) := by decide +kernel
theorem dX8_asksRow_43 : decode cX8_asksRow 43 = .ok (.if_icmp .ge 25, 3) := by decide +kernel
theorem dX8_asksRow_46 : decode cX8_asksRow 46 = .ok (.aload_n 0, 1) := by decide +kernel
theorem dX8_asksRow_47 : decode cX8_asksRow 47 = .ok (.aload_n 0, 1) := by decide +kernel
theorem dX8_asksRow_48 : decode cX8_asksRow 48 = .ok (.iload_n 1, 1) := by decide +kernel
theorem dX8_asksRow_49 : decode cX8_asksRow 49 = .ok (.iload_n 3, 1) := by decide +kernel
theorem dX8_asksRow_50 : decode cX8_asksRow 50 = .ok (.invokevirtual 319, 3) := by decide +kernel
theorem dX8_asksRow_53 : decode cX8_asksRow 53 = .ok (.invokevirtual 276, 3) := by decide +kernel
theorem dX8_asksRow_56 : decode cX8_asksRow 56 = .ok (.ifCond .ne 6, 3) := by decide +kernel
theorem dX8_asksRow_59 : decode cX8_asksRow 59 = .ok (.bipush (-2), 2) := by decide +kernel
theorem dX8_asksRow_61 : decode cX8_asksRow 61 = .ok (.ireturn, 1) := by decide +kernel
theorem dX8_asksRow_62 : decode cX8_asksRow 62 = .ok (.iinc 3 1, 3) := by decide +kernel
theorem dX8_asksRow_65 : decode cX8_asksRow 65 = .ok (.goto (-29), 3) := by decide +kernel
theorem dX8_asksRow_68 : decode cX8_asksRow 68 = .ok (.iconst 0, 1) := by decide +kernel
theorem dX8_asksRow_69 : decode cX8_asksRow 69 = .ok (.ireturn, 1) := by decide +kernel
set_option maxRecDepth 4000 in
theorem kX8_asksRow (G : GT) {σ : St} {a1 : Int32} {a2 : Int32} : ∀ (r : Int32) , fX8_asksRow σ a1 a2 = some r → MCt G 3 yX8_asksRow cX8_asksRow 4 (some .int) [.ref (gad G 62), .int a1, .int a2] σ (some (.int r)) σ := by
  intro r hF
  refine met_i (by decide) (Nat.le_of_ble_eq_true rfl) (fun X cx hE => ?_)
  have cx : Cx G X RX8 cX8_asksRow 4 3 := cx
  have hl36 : ∀ n : Nat, ∀ (x1 : Int32) (x3 : Int32) , fX8_asksRow_l36 σ n x1 x3 = some r → WW G X 4 σ [(0, .ref (gad G 62)), (1, .int x1), (3, .int x3)] 36 [] := by
    intro n
    induction n with
    | zero =>
      intro x1 x3 hF
      exact absurd hF (by intro z; cases z)
    | succ n ih =>
      intro x1 x3 hF
      have hk36 := ih
      have hF : fX8_asksRow_B36 σ (fX8_asksRow_l36 σ n) x1 x3 = some r := hF
      unfold fX8_asksRow_B36 at hF
      refine ww_iload_n cx dX8_asksRow_36 rfl 2 rfl ?_
      refine ww_aload_n cx dX8_asksRow_37 rfl 0 rfl ?_
      refine gf_X8_61 cx dX8_asksRow_38 ?_
      refine ww_iload_n cx dX8_asksRow_41 rfl 1 rfl ?_
      refine ww_iald (N := 4) cx (sh_78) dX8_asksRow_42 hF (fun hF => ?_)
      refine ww_icmp_ge cx dX8_asksRow_43 (tgt := 68) rfl hF (fun hF => ?_) (fun hF => ?_)
      · refine ww_iconst cx dX8_asksRow_68 ic_0 ?_
        exact ww_rip hE dX8_asksRow_69 hF
      · refine ww_aload_n cx dX8_asksRow_46 rfl 0 rfl ?_
        refine ww_aload_n cx dX8_asksRow_47 rfl 0 rfl ?_
        refine ww_iload_n cx dX8_asksRow_48 rfl 1 rfl ?_
        refine ww_iload_n cx dX8_asksRow_49 rfl 2 rfl ?_
        refine ww_V2_pl kv_X8_319 rfl cx sh_62 ⟨Nat.le_of_ble_eq_true rfl, Nat.le_of_ble_eq_true rfl⟩ (Nat.le_of_ble_eq_true rfl) dX8_asksRow_50 (kX8_numberAt G) hF (fun r1 hF => ?_)
        refine ww_V1_pi kv_X8_276 rfl cx sh_62 ⟨Nat.le_of_ble_eq_true rfl, Nat.le_of_ble_eq_true rfl⟩ (Nat.le_of_ble_eq_true rfl) dX8_asksRow_53 (kX8_isStep G) hF (fun r2 hF => ?_)
        refine ww_if_ne cx dX8_asksRow_56 (tgt := 62) rfl hF (fun hF => ?_) (fun hF => ?_)
        · refine ww_iinc (j := 2) (ks := [0, 1, 2]) (lv' := fun v3 => [(3, .int v3), (0, .ref (gad G 62)), (1, .int x1)]) cx dX8_asksRow_62 (by decide) rfl ic_1 hF (fun _ => rfl) (fun v3 hF => ?_)
          refine ww_goto cx dX8_asksRow_65 (tgt := 36) rfl ?_
          exact ww_sub [1, 2, 0] rfl (hk36 _ _ hF)
        · refine ww_bipush cx dX8_asksRow_59 bc_m2 ?_
          exact ww_rip hE dX8_asksRow_61 hF
  unfold fX8_asksRow at hF
  show WW G X 4 σ [(0, .ref (gad G 62)), (1, .int a1), (2, .int a2)] 0 []
  refine ww_iload_n cx dX8_asksRow_0 rfl 1 rfl ?_
  refine ww_S1_pi kv_X8_316 cx ⟨Nat.le_of_ble_eq_true rfl, Nat.le_of_ble_eq_true rfl⟩ (Nat.le_of_ble_eq_true rfl) dX8_asksRow_1 (kX8_isSlot G) hF (fun r4 hF => ?_)
  refine ww_if_eq cx dX8_asksRow_4 (tgt := 18) rfl hF (fun hF => ?_) (fun hF => ?_)
  · refine ww_bipush cx dX8_asksRow_18 bc_m2 ?_
    exact ww_rip hE dX8_asksRow_20 hF
  · refine ww_aload_n cx dX8_asksRow_7 rfl 0 rfl ?_
    refine ww_V0_pi kv_X8_291 rfl cx sh_62 ⟨Nat.le_of_ble_eq_true rfl, Nat.le_of_ble_eq_true rfl⟩ (Nat.le_of_ble_eq_true rfl) dX8_asksRow_8 (kX8_isTable G) hF (fun r5 hF => ?_)
    refine ww_if_eq cx dX8_asksRow_11 (tgt := 18) rfl hF (fun hF => ?_) (fun hF => ?_)
    · refine ww_bipush cx dX8_asksRow_18 bc_m2 ?_
      exact ww_rip hE dX8_asksRow_20 hF
    · refine ww_iload_n cx dX8_asksRow_14 rfl 2 rfl ?_
      refine ww_if_ne cx dX8_asksRow_15 (tgt := 21) rfl hF (fun hF => ?_) (fun hF => ?_)
      · refine ww_aload_n cx dX8_asksRow_21 rfl 0 rfl ?_
        refine gf_X8_61 cx dX8_asksRow_22 ?_
        refine ww_iload_n cx dX8_asksRow_25 rfl 1 rfl ?_
        refine ww_iald (N := 4) cx (sh_78) dX8_asksRow_26 hF (fun hF => ?_)
        refine ww_iconst cx dX8_asksRow_27 ic_m1 ?_
        refine ww_icmp_ne cx dX8_asksRow_28 (tgt := 34) rfl hF (fun hF => ?_) (fun hF => ?_)
        · refine ww_iconst cx dX8_asksRow_34 ic_0 ?_
          refine ww_istore_n (ks := [0, 1, 2]) (lv' := fun v6 => [(3, .int v6), (0, .ref (gad G 62)), (1, .int a1)]) cx dX8_asksRow_35 rfl (by decide) hF (fun _ => rfl) (fun v6 hF => ?_)
          exact ww_sub [1, 2, 0] rfl (hl36 FU _ _ hF)
        · refine ww_bipush cx dX8_asksRow_31 bc_m6 ?_
          exact ww_rip hE dX8_asksRow_33 hF
      · refine ww_bipush cx dX8_asksRow_18 bc_m2 ?_
        exact ww_rip hE dX8_asksRow_20 hF
theorem dX8_claim_0 : decode cX8_claim 0 = .ok (.aload_n 0, 1) := by decide +kernel
theorem dX8_claim_1 : decode cX8_claim 1 = .ok (.iload_n 1, 1) := by decide +kernel
theorem dX8_claim_2 : decode cX8_claim 2 = .ok (.i2l, 1) := by decide +kernel
theorem dX8_claim_3 : decode cX8_claim 3 = .ok (.invokevirtual 269, 3) := by decide +kernel
theorem dX8_claim_6 : decode cX8_claim 6 = .ok (.ifCond .eq 15, 3) := by decide +kernel
theorem dX8_claim_9 : decode cX8_claim 9 = .ok (.iload_n 2, 1) := by decide +kernel
theorem dX8_claim_10 : decode cX8_claim 10 = .ok (.i2l, 1) := by decide +kernel
theorem dX8_claim_11 : decode cX8_claim 11 = .ok (.lconst 0, 1) := by decide +kernel
theorem dX8_claim_12 : decode cX8_claim 12 = .ok (.ldc2_w 81, 3) := by decide +kernel
theorem dX8_claim_15 : decode cX8_claim 15 = .ok (.invokestatic 83, 3) := by decide +kernel
theorem dX8_claim_18 : decode cX8_claim 18 = .ok (.ifCond .ne 6, 3) := by decide +kernel
theorem dX8_claim_21 : decode cX8_claim 21 = .ok (.bipush (-2), 2) := by decide +kernel
theorem dX8_claim_23 : decode cX8_claim 23 = .ok (.ireturn, 1) := by decide +kernel
theorem dX8_claim_24 : decode cX8_claim 24 = .ok (.iload_n 2, 1) := by decide +kernel
theorem dX8_claim_25 : decode cX8_claim 25 = .ok (.iconst 2, 1) := by decide +kernel
theorem dX8_claim_26 : decode cX8_claim 26 = .ok (.if_icmp .ge 12, 3) := by decide +kernel
theorem dX8_claim_29 : decode cX8_claim 29 = .ok (.aload_n 0, 1) := by decide +kernel
theorem dX8_claim_30 : decode cX8_claim 30 = .ok (.iload_n 1, 1) := by decide +kernel
theorem dX8_claim_31 : decode cX8_claim 31 = .ok (.iload_n 2, 1) := by decide +kernel
theorem dX8_claim_32 : decode cX8_claim 32 = .ok (.invokevirtual 91, 3) := by decide +kernel
theorem dX8_claim_35 : decode cX8_claim 35 = .ok (.goto 12, 3) := by decide +kernel
theorem dX8_claim_38 : decode cX8_claim 38 = .ok (.aload_n 0, 1) := by decide +kernel
theorem dX8_claim_39 : decode cX8_claim 39 = .ok (.iload_n 1, 1) := by decide +kernel
theorem dX8_claim_40 : decode cX8_claim 40 = .ok (.iconst 2, 1) := by decide +kernel
theorem dX8_claim_41 : decode cX8_claim 41 = .ok (.invokevirtual 91, 3) := by decide +kernel
theorem dX8_claim_44 : decode cX8_claim 44 = .ok (.invokestatic 273, 3) := by decide +kernel
theorem dX8_claim_47 : decode cX8_claim 47 = .ok (.ireturn, 1) := by decide +kernel
set_option maxRecDepth 4000 in
theorem kX8_claim (G : GT) {σ : St} {a1 : Int32} {a2 : Int32} : ∀ (r : Int32) , fX8_claim σ a1 a2 = some r → MCt G 3 yX8_claim cX8_claim 3 (some .int) [.ref (gad G 62), .int a1, .int a2] σ (some (.int r)) σ := by
  intro r hF
  refine met_i (by decide) (Nat.le_of_ble_eq_true rfl) (fun X cx hE => ?_)
  have cx : Cx G X RX8 cX8_claim 3 3 := cx
  unfold fX8_claim at hF
  show WW G X 3 σ [(0, .ref (gad G 62)), (1, .int a1), (2, .int a2)] 0 []
  refine ww_aload_n cx dX8_claim_0 rfl 0 rfl ?_
  refine ww_iload_n cx dX8_claim_1 rfl 1 rfl ?_
  refine ww_i2l cx dX8_claim_2 ?_
  refine ww_V1_pi kv_X8_269 rfl cx sh_62 ⟨Nat.le_of_ble_eq_true rfl, Nat.le_of_ble_eq_true rfl⟩ (Nat.le_of_ble_eq_true rfl) dX8_claim_3 (kX8_isClaim G) hF (fun r1 hF => ?_)
  refine ww_if_eq cx dX8_claim_6 (tgt := 21) rfl hF (fun hF => ?_) (fun hF => ?_)
  · refine ww_bipush cx dX8_claim_21 bc_m2 ?_
    exact ww_rip hE dX8_claim_23 hF
  · refine ww_iload_n cx dX8_claim_9 rfl 2 rfl ?_
    refine ww_i2l cx dX8_claim_10 ?_
    refine ww_lconst cx dX8_claim_11 lc_0 ?_
    refine ww_ldc2 (v := 2) cx dX8_claim_12 cn_X8_81 ?_
    refine ww_S3_pi kv_X8_83 cx ⟨Nat.le_of_ble_eq_true rfl, Nat.le_of_ble_eq_true rfl⟩ (Nat.le_of_ble_eq_true rfl) dX8_claim_15 (kX8_in G) hF (fun r2 hF => ?_)
    refine ww_if_ne cx dX8_claim_18 (tgt := 24) rfl hF (fun hF => ?_) (fun hF => ?_)
    · refine ww_iload_n cx dX8_claim_24 rfl 2 rfl ?_
      refine ww_iconst cx dX8_claim_25 ic_2 ?_
      refine ww_icmp_ge cx dX8_claim_26 (tgt := 38) rfl hF (fun hF => ?_) (fun hF => ?_)
      · refine ww_aload_n cx dX8_claim_38 rfl 0 rfl ?_
        refine ww_iload_n cx dX8_claim_39 rfl 1 rfl ?_
        refine ww_iconst cx dX8_claim_40 ic_2 ?_
        refine ww_V2_pi kv_X8_91 rfl cx sh_62 ⟨Nat.le_of_ble_eq_true rfl, Nat.le_of_ble_eq_true rfl⟩ (Nat.le_of_ble_eq_true rfl) dX8_claim_41 (kX8_ofClaim G) hF (fun r3 hF => ?_)
        refine ww_S1_pi kv_X8_273 cx ⟨Nat.le_of_ble_eq_true rfl, Nat.le_of_ble_eq_true rfl⟩ (Nat.le_of_ble_eq_true rfl) dX8_claim_44 (kX8_bits G) hF (fun r4 hF => ?_)
        exact ww_rip hE dX8_claim_47 hF
      · refine ww_aload_n cx dX8_claim_29 rfl 0 rfl ?_
        refine ww_iload_n cx dX8_claim_30 rfl 1 rfl ?_
        refine ww_iload_n cx dX8_claim_31 rfl 2 rfl ?_
        refine ww_V2_pi kv_X8_91 rfl cx sh_62 ⟨Nat.le_of_ble_eq_true rfl, Nat.le_of_ble_eq_true rfl⟩ (Nat.le_of_ble_eq_true rfl) dX8_claim_32 (kX8_ofClaim G) hF (fun r5 hF => ?_)
        refine ww_goto cx dX8_claim_35 (tgt := 47) rfl ?_
        exact ww_rip hE dX8_claim_47 hF
    · refine ww_bipush cx dX8_claim_21 bc_m2 ?_
      exact ww_rip hE dX8_claim_23 hF
theorem dX8_claims_0 : decode cX8_claims 0 = .ok (.aload_n 0, 1) := by decide +kernel
theorem dX8_claims_1 : decode cX8_claims 1 = .ok (.iload_n 1, 1) := by decide +kernel
theorem dX8_claims_2 : decode cX8_claims 2 = .ok (.i2l, 1) := by decide +kernel
theorem dX8_claims_3 : decode cX8_claims 3 = .ok (.invokevirtual 269, 3) := by decide +kernel
theorem dX8_claims_6 : decode cX8_claims 6 = .ok (.ifCond .eq 13, 3) := by decide +kernel
theorem dX8_claims_9 : decode cX8_claims 9 = .ok (.iload_n 2, 1) := by decide +kernel
theorem dX8_claims_10 : decode cX8_claims 10 = .ok (.i2l, 1) := by decide +kernel
theorem dX8_claims_11 : decode cX8_claims 11 = .ok (.lconst 0, 1) := by decide +kernel
theorem dX8_claims_12 : decode cX8_claims 12 = .ok (.lconst 1, 1) := by decide +kernel
theorem dX8_claims_13 : decode cX8_claims 13 = .ok (.invokestatic 83, 3) := by decide +kernel
theorem dX8_claims_16 : decode cX8_claims 16 = .ok (.ifCond .ne 6, 3) := by decide +kernel
theorem dX8_claims_19 : decode cX8_claims 19 = .ok (.bipush (-2), 2) := by decide +kernel
theorem dX8_claims_21 : decode cX8_claims 21 = .ok (.ireturn, 1) := by decide +kernel
theorem dX8_claims_22 : decode cX8_claims 22 = .ok (.aload_n 0, 1) := by decide +kernel
theorem dX8_claims_23 : decode cX8_claims 23 = .ok (.iload_n 1, 1) := by decide +kernel
theorem dX8_claims_24 : decode cX8_claims 24 = .ok (.iload_n 2, 1) := by decide +kernel
theorem dX8_claims_25 : decode cX8_claims 25 = .ok (.invokevirtual 393, 3) := by decide +kernel
theorem dX8_claims_28 : decode cX8_claims 28 = .ok (.aload_n 0, 1) := by decide +kernel
theorem dX8_claims_29 : decode cX8_claims 29 = .ok (.getfield 43, 3) := by decide +kernel
theorem dX8_claims_32 : decode cX8_claims 32 = .ok (.iconst 1, 1) := by decide +kernel
theorem dX8_claims_33 : decode cX8_claims 33 = .ok (.baload, 1) := by decide +kernel
theorem dX8_claims_34 : decode cX8_claims 34 = .ok (.ifCond .eq 7, 3) := by decide +kernel
theorem dX8_claims_37 : decode cX8_claims 37 = .ok (.iconst 1, 1) := by decide +kernel
theorem dX8_claims_38 : decode cX8_claims 38 = .ok (.goto 4, 3) := by decide +kernel
theorem dX8_claims_41 : decode cX8_claims 41 = .ok (.iconst 0, 1) := by decide +kernel
theorem dX8_claims_42 : decode cX8_claims 42 = .ok (.ireturn, 1) := by decide +kernel
set_option maxRecDepth 4000 in
theorem kX8_claims (G : GT) {σ : St} {a1 : Int32} {a2 : Int32} : ∀ (r : Int32) (σo : St) , fX8_claims σ a1 a2 = some (r, σo) → MCt G 3 yX8_claims cX8_claims 3 (some .int) [.ref (gad G 62), .int a1, .int a2] σ (some (.int r)) σo := by
  intro r σo hF
  refine met_i (by decide) (Nat.le_of_ble_eq_true rfl) (fun X cx hE => ?_)
  have cx : Cx G X RX8 cX8_claims 3 3 := cx
  unfold fX8_claims at hF
  show WW G X 3 σ [(0, .ref (gad G 62)), (1, .int a1), (2, .int a2)] 0 []
  refine ww_aload_n cx dX8_claims_0 rfl 0 rfl ?_
  refine ww_iload_n cx dX8_claims_1 rfl 1 rfl ?_
  refine ww_i2l cx dX8_claims_2 ?_
  refine ww_V1_pi kv_X8_269 rfl cx sh_62 ⟨Nat.le_of_ble_eq_true rfl, Nat.le_of_ble_eq_true rfl⟩ (Nat.le_of_ble_eq_true rfl) dX8_claims_3 (kX8_isClaim G) hF (fun r1 hF => ?_)
  refine ww_if_eq cx dX8_claims_6 (tgt := 19) rfl hF (fun hF => ?_) (fun hF => ?_)
  · refine ww_bipush cx dX8_claims_19 bc_m2 ?_
    exact ww_ris hE dX8_claims_21 hF
  · refine ww_iload_n cx dX8_claims_9 rfl 2 rfl ?_
    refine ww_i2l cx dX8_claims_10 ?_
    refine ww_lconst cx dX8_claims_11 lc_0 ?_
    refine ww_lconst cx dX8_claims_12 lc_1 ?_
    refine ww_S3_pi kv_X8_83 cx ⟨Nat.le_of_ble_eq_true rfl, Nat.le_of_ble_eq_true rfl⟩ (Nat.le_of_ble_eq_true rfl) dX8_claims_13 (kX8_in G) hF (fun r2 hF => ?_)
    refine ww_if_ne cx dX8_claims_16 (tgt := 22) rfl hF (fun hF => ?_) (fun hF => ?_)
    · refine ww_aload_n cx dX8_claims_22 rfl 0 rfl ?_
      refine ww_iload_n cx dX8_claims_23 rfl 1 rfl ?_
      refine ww_iload_n cx dX8_claims_24 rfl 2 rfl ?_
      refine ww_V2_sv kv_X8_393 rfl cx sh_62 ⟨Nat.le_of_ble_eq_true rfl, Nat.le_of_ble_eq_true rfl⟩ (Nat.le_of_ble_eq_true rfl) dX8_claims_25 (kX8_fillDoubt G) hF (fun σ3 hF => ?_)
      refine ww_aload_n cx dX8_claims_28 rfl 0 rfl ?_
      refine gf_X8_43 cx dX8_claims_29 ?_
      refine ww_iconst cx dX8_claims_32 ic_1 ?_
      refine ww_zald (N := 32) cx (sh_72) dX8_claims_33 hF (fun hF => ?_)
      refine ww_if_eq cx dX8_claims_34 (tgt := 41) rfl hF (fun hF => ?_) (fun hF => ?_)
      · refine ww_iconst cx dX8_claims_41 ic_0 ?_
        exact ww_ris hE dX8_claims_42 hF
      · refine ww_iconst cx dX8_claims_37 ic_1 ?_
        refine ww_goto cx dX8_claims_38 (tgt := 42) rfl ?_
        exact ww_ris hE dX8_claims_42 hF
    · refine ww_bipush cx dX8_claims_19 bc_m2 ?_
      exact ww_ris hE dX8_claims_21 hF
theorem dX8_drawn_0 : decode cX8_drawn 0 = .ok (.aload_n 0, 1) := by decide +kernel
theorem dX8_drawn_1 : decode cX8_drawn 1 = .ok (.invokevirtual 291, 3) := by decide +kernel
theorem dX8_drawn_4 : decode cX8_drawn 4 = .ok (.ifCond .eq 19, 3) := by decide +kernel
theorem dX8_drawn_7 : decode cX8_drawn 7 = .ok (.iload_n 1, 1) := by decide +kernel
theorem dX8_drawn_8 : decode cX8_drawn 8 = .ok (.invokestatic 459, 3) := by decide +kernel
theorem dX8_drawn_11 : decode cX8_drawn 11 = .ok (.ifCond .eq 12, 3) := by decide +kernel
theorem dX8_drawn_14 : decode cX8_drawn 14 = .ok (.aload_n 0, 1) := by decide +kernel
theorem dX8_drawn_15 : decode cX8_drawn 15 = .ok (.iload_n 1, 1) := by decide +kernel
theorem dX8_drawn_16 : decode cX8_drawn 16 = .ok (.i2l, 1) := by decide +kernel
theorem dX8_drawn_17 : decode cX8_drawn 17 = .ok (.invokevirtual 462, 3) := by decide +kernel
theorem dX8_drawn_20 : decode cX8_drawn 20 = .ok (.goto 5, 3) := by decide +kernel
theorem dX8_drawn_23 : decode cX8_drawn 23 = .ok (.bipush (-2), 2) := by decide +kernel
theorem dX8_drawn_25 : decode cX8_drawn 25 = .ok (.ireturn, 1) := by decide +kernel
set_option maxRecDepth 4000 in
theorem kX8_drawn (G : GT) {σ : St} {a1 : Int32} : ∀ (r : Int32) , fX8_drawn σ a1 = some r → MCt G 3 yX8_drawn cX8_drawn 2 (some .int) [.ref (gad G 62), .int a1] σ (some (.int r)) σ := by
  intro r hF
  refine met_i (by decide) (Nat.le_of_ble_eq_true rfl) (fun X cx hE => ?_)
  have cx : Cx G X RX8 cX8_drawn 2 3 := cx
  unfold fX8_drawn at hF
  show WW G X 2 σ [(0, .ref (gad G 62)), (1, .int a1)] 0 []
  refine ww_aload_n cx dX8_drawn_0 rfl 0 rfl ?_
  refine ww_V0_pi kv_X8_291 rfl cx sh_62 ⟨Nat.le_of_ble_eq_true rfl, Nat.le_of_ble_eq_true rfl⟩ (Nat.le_of_ble_eq_true rfl) dX8_drawn_1 (kX8_isTable G) hF (fun r1 hF => ?_)
  refine ww_if_eq cx dX8_drawn_4 (tgt := 23) rfl hF (fun hF => ?_) (fun hF => ?_)
  · refine ww_bipush cx dX8_drawn_23 bc_m2 ?_
    exact ww_rip hE dX8_drawn_25 hF
  · refine ww_iload_n cx dX8_drawn_7 rfl 1 rfl ?_
    refine ww_S1_pi kv_X8_459 cx ⟨Nat.le_of_ble_eq_true rfl, Nat.le_of_ble_eq_true rfl⟩ (Nat.le_of_ble_eq_true rfl) dX8_drawn_8 (kX8_isSeed G) hF (fun r2 hF => ?_)
    refine ww_if_eq cx dX8_drawn_11 (tgt := 23) rfl hF (fun hF => ?_) (fun hF => ?_)
    · refine ww_bipush cx dX8_drawn_23 bc_m2 ?_
      exact ww_rip hE dX8_drawn_25 hF
    · refine ww_aload_n cx dX8_drawn_14 rfl 0 rfl ?_
      refine ww_iload_n cx dX8_drawn_15 rfl 1 rfl ?_
      refine ww_i2l cx dX8_drawn_16 ?_
      refine ww_V1_pi kv_X8_462 rfl cx sh_62 ⟨Nat.le_of_ble_eq_true rfl, Nat.le_of_ble_eq_true rfl⟩ (Nat.le_of_ble_eq_true rfl) dX8_drawn_17 (kX8_holesBy G) hF (fun r3 hF => ?_)
      refine ww_goto cx dX8_drawn_20 (tgt := 25) rfl ?_
      exact ww_rip hE dX8_drawn_25 hF
theorem dX8_entails_0 : decode cX8_entails 0 = .ok (.aload_n 0, 1) := by decide +kernel
theorem dX8_entails_1 : decode cX8_entails 1 = .ok (.iload_n 1, 1) := by decide +kernel
theorem dX8_entails_2 : decode cX8_entails 2 = .ok (.i2l, 1) := by decide +kernel
theorem dX8_entails_3 : decode cX8_entails 3 = .ok (.invokevirtual 269, 3) := by decide +kernel
theorem dX8_entails_6 : decode cX8_entails 6 = .ok (.ifCond .eq 38, 3) := by decide +kernel
theorem dX8_entails_9 : decode cX8_entails 9 = .ok (.aload_n 0, 1) := by decide +kernel
theorem dX8_entails_10 : decode cX8_entails 10 = .ok (.iload_n 2, 1) := by decide +kernel
theorem dX8_entails_11 : decode cX8_entails 11 = .ok (.i2l, 1) := by decide +kernel
theorem dX8_entails_12 : decode cX8_entails 12 = .ok (.invokevirtual 269, 3) := by decide +kernel
theorem dX8_entails_15 : decode cX8_entails 15 = .ok (.ifCond .eq 29, 3) := by decide +kernel
theorem dX8_entails_18 : decode cX8_entails 18 = .ok (.aload_n 0, 1) := by decide +kernel
theorem dX8_entails_19 : decode cX8_entails 19 = .ok (.iload_n 2, 1) := by decide +kernel
theorem dX8_entails_20 : decode cX8_entails 20 = .ok (.iconst 2, 1) := by decide +kernel
theorem dX8_entails_21 : decode cX8_entails 21 = .ok (.invokevirtual 91, 3) := by decide +kernel
theorem dX8_entails_24 : decode cX8_entails 24 = .ok (.aload_n 0, 1) := by decide +kernel
theorem dX8_entails_25 : decode cX8_entails 25 = .ok (.iload_n 1, 1) := by decide +kernel
theorem dX8_entails_26 : decode cX8_entails 26 = .ok (.iconst 2, 1) := by decide +kernel
theorem dX8_entails_27 : decode cX8_entails 27 = .ok (.invokevirtual 91, 3) := by decide +kernel
theorem dX8_entails_30 : decode cX8_entails 30 = .ok (.iconst (-1), 1) := by decide +kernel
theorem dX8_entails_31 : decode cX8_entails 31 = .ok (.ixor, 1) := by decide +kernel
theorem dX8_entails_32 : decode cX8_entails 32 = .ok (.iand, 1) := by decide +kernel
theorem dX8_entails_33 : decode cX8_entails 33 = .ok (.ifCond .ne 7, 3) := by decide +kernel
theorem dX8_entails_36 : decode cX8_entails 36 = .ok (.iconst 1, 1) := by decide +kernel
theorem dX8_entails_37 : decode cX8_entails 37 = .ok (.goto 9, 3) := by decide +kernel
theorem dX8_entails_40 : decode cX8_entails 40 = .ok (.iconst 0, 1) := by decide +kernel
theorem dX8_entails_41 : decode cX8_entails 41 = .ok (.goto 5, 3) := by decide +kernel
theorem dX8_entails_44 : decode cX8_entails 44 = .ok (.bipush (-2), 2) := by decide +kernel
theorem dX8_entails_46 : decode cX8_entails 46 = .ok (.ireturn, 1) := by decide +kernel
set_option maxRecDepth 4000 in
theorem kX8_entails (G : GT) {σ : St} {a1 : Int32} {a2 : Int32} : ∀ (r : Int32) , fX8_entails σ a1 a2 = some r → MCt G 3 yX8_entails cX8_entails 3 (some .int) [.ref (gad G 62), .int a1, .int a2] σ (some (.int r)) σ := by
  intro r hF
  refine met_i (by decide) (Nat.le_of_ble_eq_true rfl) (fun X cx hE => ?_)
  have cx : Cx G X RX8 cX8_entails 3 3 := cx
  unfold fX8_entails at hF
  show WW G X 3 σ [(0, .ref (gad G 62)), (1, .int a1), (2, .int a2)] 0 []
  refine ww_aload_n cx dX8_entails_0 rfl 0 rfl ?_
  refine ww_iload_n cx dX8_entails_1 rfl 1 rfl ?_
  refine ww_i2l cx dX8_entails_2 ?_
  refine ww_V1_pi kv_X8_269 rfl cx sh_62 ⟨Nat.le_of_ble_eq_true rfl, Nat.le_of_ble_eq_true rfl⟩ (Nat.le_of_ble_eq_true rfl) dX8_entails_3 (kX8_isClaim G) hF (fun r1 hF => ?_)
  refine ww_if_eq cx dX8_entails_6 (tgt := 44) rfl hF (fun hF => ?_) (fun hF => ?_)
  · refine ww_bipush cx dX8_entails_44 bc_m2 ?_
    exact ww_rip hE dX8_entails_46 hF
  · refine ww_aload_n cx dX8_entails_9 rfl 0 rfl ?_
    refine ww_iload_n cx dX8_entails_10 rfl 2 rfl ?_
    refine ww_i2l cx dX8_entails_11 ?_
    refine ww_V1_pi kv_X8_269 rfl cx sh_62 ⟨Nat.le_of_ble_eq_true rfl, Nat.le_of_ble_eq_true rfl⟩ (Nat.le_of_ble_eq_true rfl) dX8_entails_12 (kX8_isClaim G) hF (fun r2 hF => ?_)
    refine ww_if_eq cx dX8_entails_15 (tgt := 44) rfl hF (fun hF => ?_) (fun hF => ?_)
    · refine ww_bipush cx dX8_entails_44 bc_m2 ?_
      exact ww_rip hE dX8_entails_46 hF
    · refine ww_aload_n cx dX8_entails_18 rfl 0 rfl ?_
      refine ww_iload_n cx dX8_entails_19 rfl 2 rfl ?_
      refine ww_iconst cx dX8_entails_20 ic_2 ?_
      refine ww_V2_pi kv_X8_91 rfl cx sh_62 ⟨Nat.le_of_ble_eq_true rfl, Nat.le_of_ble_eq_true rfl⟩ (Nat.le_of_ble_eq_true rfl) dX8_entails_21 (kX8_ofClaim G) hF (fun r3 hF => ?_)
      refine ww_aload_n cx dX8_entails_24 rfl 0 rfl ?_
      refine ww_iload_n cx dX8_entails_25 rfl 1 rfl ?_
      refine ww_iconst cx dX8_entails_26 ic_2 ?_
      refine ww_V2_pi kv_X8_91 rfl cx sh_62 ⟨Nat.le_of_ble_eq_true rfl, Nat.le_of_ble_eq_true rfl⟩ (Nat.le_of_ble_eq_true rfl) dX8_entails_27 (kX8_ofClaim G) hF (fun r4 hF => ?_)
      refine ww_iconst cx dX8_entails_30 ic_m1 ?_
      refine ww_ixor cx dX8_entails_31 ?_
      refine ww_iand cx dX8_entails_32 ?_
      refine ww_if_ne cx dX8_entails_33 (tgt := 40) rfl hF (fun hF => ?_) (fun hF => ?_)
      · refine ww_iconst cx dX8_entails_40 ic_0 ?_
        refine ww_goto cx dX8_entails_41 (tgt := 46) rfl ?_
        exact ww_rip hE dX8_entails_46 hF
      · refine ww_iconst cx dX8_entails_36 ic_1 ?_
        refine ww_goto cx dX8_entails_37 (tgt := 46) rfl ?_
        exact ww_rip hE dX8_entails_46 hF
theorem dX8_fillDuel_0 : decode cX8_fillDuel 0 = .ok (.aload_n 0, 1) := by decide +kernel
theorem dX8_fillDuel_1 : decode cX8_fillDuel 1 = .ok (.invokevirtual 363, 3) := by decide +kernel
theorem dX8_fillDuel_4 : decode cX8_fillDuel 4 = .ok (.istore_n 1, 1) := by decide +kernel
theorem dX8_fillDuel_5 : decode cX8_fillDuel 5 = .ok (.iload_n 1, 1) := by decide +kernel
theorem dX8_fillDuel_6 : decode cX8_fillDuel 6 = .ok (.ifCond .lt 77, 3) := by decide +kernel
theorem dX8_fillDuel_9 : decode cX8_fillDuel 9 = .ok (.aload_n 0, 1) := by decide +kernel
theorem dX8_fillDuel_10 : decode cX8_fillDuel 10 = .ok (.getfield 58, 3) := by decide +kernel
theorem dX8_fillDuel_13 : decode cX8_fillDuel 13 = .ok (.iload_n 1, 1) := by decide +kernel
theorem dX8_fillDuel_14 : decode cX8_fillDuel 14 = .ok (.bipush (-100), 2) := by decide +kernel
theorem dX8_fillDuel_16 : decode cX8_fillDuel 16 = .ok (.iastore, 1) := by decide +kernel
theorem dX8_fillDuel_17 : decode cX8_fillDuel 17 = .ok (.iconst 0, 1) := by decide +kernel
theorem dX8_fillDuel_18 : decode cX8_fillDuel 18 = .ok (.istore_n 2, 1) := by decide +kernel
theorem dX8_fillDuel_19 : decode cX8_fillDuel 19 = .ok (.iload_n 2, 1) := by decide +kernel
theorem dX8_fillDuel_20 : decode cX8_fillDuel 20 = .ok (.aload_n 0, 1) := by decide +kernel
theorem dX8_fillDuel_21 : decode cX8_fillDuel 21 = .ok (.getfield 9, 3) := by decide +kernel
theorem dX8_fillDuel_24 : decode cX8_fillDuel 24 = .ok (.iconst 4, 1) := by decide +kernel
theorem dX8_fillDuel_25 : decode cX8_fillDuel 25 = .ok (.iaload, 1) := by decide +kernel
theorem dX8_fillDuel_26 : decode cX8_fillDuel 26 = .ok (.if_icmp .ge 51, 3) := by decide +kernel
theorem dX8_fillDuel_29 : decode cX8_fillDuel 29 = .ok (.aload_n 0, 1) := by decide +kernel
theorem dX8_fillDuel_30 : decode cX8_fillDuel 30 = .ok (.iload_n 2, 1) := by decide +kernel
theorem dX8_fillDuel_31 : decode cX8_fillDuel 31 = .ok (.iload_n 1, 1) := by decide +kernel
theorem dX8_fillDuel_32 : decode cX8_fillDuel 32 = .ok (.invokevirtual 300, 3) := by decide +kernel
theorem dX8_fillDuel_35 : decode cX8_fillDuel 35 = .ok (.ifCond .eq 36, 3) := by decide +kernel
theorem dX8_fillDuel_38 : decode cX8_fillDuel 38 = .ok (.aload_n 0, 1) := by decide +kernel
theorem dX8_fillDuel_39 : decode cX8_fillDuel 39 = .ok (.getfield 58, 3) := by decide +kernel
theorem dX8_fillDuel_42 : decode cX8_fillDuel 42 = .ok (.iload_n 1, 1) := by decide +kernel
theorem dX8_fillDuel_43 : decode cX8_fillDuel 43 = .ok (.aload_n 0, 1) := by decide +kernel
theorem dX8_fillDuel_44 : decode cX8_fillDuel 44 = .ok (.getfield 58, 3) := by decide +kernel
theorem dX8_fillDuel_47 : decode cX8_fillDuel 47 = .ok (.iload_n 1, 1) := by decide +kernel
theorem dX8_fillDuel_48 : decode cX8_fillDuel 48 = .ok (.iaload, 1) := by decide +kernel
theorem dX8_fillDuel_49 : decode cX8_fillDuel 49 = .ok (.aload_n 0, 1) := by decide +kernel
theorem dX8_fillDuel_50 : decode cX8_fillDuel 50 = .ok (.getfield 58, 3) := by decide +kernel
theorem dX8_fillDuel_53 : decode cX8_fillDuel 53 = .ok (.iload_n 1, 1) := by decide +kernel
theorem dX8_fillDuel_54 : decode cX8_fillDuel 54 = .ok (.iconst 1, 1) := by decide +kernel
theorem dX8_fillDuel_55 : decode cX8_fillDuel 55 = .ok (.aload_n 0, 1) := by decide +kernel
theorem dX8_fillDuel_56 : decode cX8_fillDuel 56 = .ok (.iload_n 2, 1) := by decide +kernel
theorem dX8_fillDuel_57 : decode cX8_fillDuel 57 = .ok (.iconst 0, 1) := by decide +kernel
theorem dX8_fillDuel_58 : decode cX8_fillDuel 58 = .ok (.invokevirtual 263, 3) := by decide +kernel
theorem dX8_fillDuel_61 : decode cX8_fillDuel 61 = .ok (.ishl, 1) := by decide +kernel
theorem dX8_fillDuel_62 : decode cX8_fillDuel 62 = .ok (.ior, 1) := by decide +kernel
theorem dX8_fillDuel_63 : decode cX8_fillDuel 63 = .ok (.iaload, 1) := by decide +kernel
theorem dX8_fillDuel_64 : decode cX8_fillDuel 64 = .ok (.invokestatic 415, 3) := by decide +kernel
theorem dX8_fillDuel_67 : decode cX8_fillDuel 67 = .ok (.invokestatic 397, 3) := by decide +kernel
theorem dX8_fillDuel_70 : decode cX8_fillDuel 70 = .ok (.iastore, 1) := by decide +kernel
theorem dX8_fillDuel_71 : decode cX8_fillDuel 71 = .ok (.iinc 2 1, 3) := by decide +kernel
theorem dX8_fillDuel_74 : decode cX8_fillDuel 74 = .ok (.goto (-55), 3) := by decide +kernel
theorem dX8_fillDuel_77 : decode cX8_fillDuel 77 = .ok (.iinc 1 (-1), 3) := by decide +kernel
theorem dX8_fillDuel_80 : decode cX8_fillDuel 80 = .ok (.goto (-75), 3) := by decide +kernel
theorem dX8_fillDuel_83 : decode cX8_fillDuel 83 = .ok (.return_, 1) := by decide +kernel
set_option maxRecDepth 4000 in
theorem kX8_fillDuel (G : GT) {σ : St} : ∀ (σo : St) , fX8_fillDuel σ = some σo → MCt G 3 yX8_fillDuel cX8_fillDuel 3 (none) [.ref (gad G 62)] σ (none) σo := by
  intro σo hF
  refine met_v (by decide) (Nat.le_of_ble_eq_true rfl) (fun X cx hE => ?_)
  have cx : Cx G X RX8 cX8_fillDuel 3 3 := cx
  have hl19 : ∀ (kr5 : St → Int32 → Option (St)), (∀ (σ : St) (x1 : Int32) , kr5 σ x1 = some σo → WW G X 3 σ [(0, .ref (gad G 62)), (1, .int x1)] 5 []) → ∀ n : Nat, ∀ (σ : St) (x1 : Int32) (x2 : Int32) , fX8_fillDuel_l19 kr5 n σ x1 x2 = some σo → WW G X 3 σ [(0, .ref (gad G 62)), (1, .int x1), (2, .int x2)] 19 [] := by
    intro kr5 hk5
    intro n
    induction n with
    | zero =>
      intro σ x1 x2 hF
      exact absurd hF (by intro z; cases z)
    | succ n ih =>
      intro σ x1 x2 hF
      have hk19 := ih
      have hF : fX8_fillDuel_B19 kr5 (fX8_fillDuel_l19 kr5 n) σ x1 x2 = some σo := hF
      unfold fX8_fillDuel_B19 at hF
      refine ww_iload_n cx dX8_fillDuel_19 rfl 2 rfl ?_
      refine ww_aload_n cx dX8_fillDuel_20 rfl 0 rfl ?_
      refine gf_X8_9 cx dX8_fillDuel_21 ?_
      refine ww_iconst cx dX8_fillDuel_24 ic_4 ?_
      refine ww_iald (N := 77) cx (sh_63) dX8_fillDuel_25 hF (fun hF => ?_)
      refine ww_icmp_ge cx dX8_fillDuel_26 (tgt := 77) rfl hF (fun hF => ?_) (fun hF => ?_)
      · refine ww_iinc (j := 1) (ks := [0, 1]) (lv' := fun v1 => [(1, .int v1), (0, .ref (gad G 62))]) cx dX8_fillDuel_77 (by decide) rfl ic_m1 hF (fun _ => rfl) (fun v1 hF => ?_)
        refine ww_goto cx dX8_fillDuel_80 (tgt := 5) rfl ?_
        exact ww_sub [1, 0] rfl (hk5 _ _ hF)
      · refine ww_aload_n cx dX8_fillDuel_29 rfl 0 rfl ?_
        refine ww_iload_n cx dX8_fillDuel_30 rfl 2 rfl ?_
        refine ww_iload_n cx dX8_fillDuel_31 rfl 1 rfl ?_
        refine ww_V2_pi kv_X8_300 rfl cx sh_62 ⟨Nat.le_of_ble_eq_true rfl, Nat.le_of_ble_eq_true rfl⟩ (Nat.le_of_ble_eq_true rfl) dX8_fillDuel_32 (kX8_goes G) hF (fun r2 hF => ?_)
        refine ww_if_eq cx dX8_fillDuel_35 (tgt := 71) rfl hF (fun hF => ?_) (fun hF => ?_)
        · refine ww_iinc (j := 2) (ks := [0, 1, 2]) (lv' := fun v3 => [(2, .int v3), (0, .ref (gad G 62)), (1, .int x1)]) cx dX8_fillDuel_71 (by decide) rfl ic_1 hF (fun _ => rfl) (fun v3 hF => ?_)
          refine ww_goto cx dX8_fillDuel_74 (tgt := 19) rfl ?_
          exact ww_sub [1, 2, 0] rfl (hk19 _ _ _ hF)
        · refine ww_aload_n cx dX8_fillDuel_38 rfl 0 rfl ?_
          refine gf_X8_58 cx dX8_fillDuel_39 ?_
          refine ww_iload_n cx dX8_fillDuel_42 rfl 1 rfl ?_
          refine ww_aload_n cx dX8_fillDuel_43 rfl 0 rfl ?_
          refine gf_X8_58 cx dX8_fillDuel_44 ?_
          refine ww_iload_n cx dX8_fillDuel_47 rfl 1 rfl ?_
          refine ww_iald (N := 4096) cx (sh_77) dX8_fillDuel_48 hF (fun hF => ?_)
          refine ww_aload_n cx dX8_fillDuel_49 rfl 0 rfl ?_
          refine gf_X8_58 cx dX8_fillDuel_50 ?_
          refine ww_iload_n cx dX8_fillDuel_53 rfl 1 rfl ?_
          refine ww_iconst cx dX8_fillDuel_54 ic_1 ?_
          refine ww_aload_n cx dX8_fillDuel_55 rfl 0 rfl ?_
          refine ww_iload_n cx dX8_fillDuel_56 rfl 2 rfl ?_
          refine ww_iconst cx dX8_fillDuel_57 ic_0 ?_
          refine ww_V2_pi kv_X8_263 rfl cx sh_62 ⟨Nat.le_of_ble_eq_true rfl, Nat.le_of_ble_eq_true rfl⟩ (Nat.le_of_ble_eq_true rfl) dX8_fillDuel_58 (kX8_ofStep G) hF (fun r4 hF => ?_)
          refine ww_ishl cx dX8_fillDuel_61 ?_
          refine ww_ior cx dX8_fillDuel_62 ?_
          refine ww_iald (N := 4096) cx (sh_77) dX8_fillDuel_63 hF (fun hF => ?_)
          refine ww_S1_pi kv_X8_415 cx ⟨Nat.le_of_ble_eq_true rfl, Nat.le_of_ble_eq_true rfl⟩ (Nat.le_of_ble_eq_true rfl) dX8_fillDuel_64 (kX8_mine G) hF (fun r5 hF => ?_)
          refine ww_mmax cx ml_X8_397 (by decide) (Nat.le_of_ble_eq_true rfl) dX8_fillDuel_67 ?_
          refine ww_iast (N := 4096) cx (sh_77) dX8_fillDuel_70 hF (fun σ6 hF => ?_)
          refine ww_iinc (j := 2) (ks := [0, 1, 2]) (lv' := fun v7 => [(2, .int v7), (0, .ref (gad G 62)), (1, .int x1)]) cx dX8_fillDuel_71 (by decide) rfl ic_1 hF (fun _ => rfl) (fun v7 hF => ?_)
          refine ww_goto cx dX8_fillDuel_74 (tgt := 19) rfl ?_
          exact ww_sub [1, 2, 0] rfl (hk19 _ _ _ hF)
  have hl5 : ∀ n : Nat, ∀ (σ : St) (x1 : Int32) , fX8_fillDuel_l5 n σ x1 = some σo → WW G X 3 σ [(0, .ref (gad G 62)), (1, .int x1)] 5 [] := by
    intro n
    induction n with
    | zero =>
      intro σ x1 hF
      exact absurd hF (by intro z; cases z)
    | succ n ih =>
      intro σ x1 hF
      have hk5 := ih
      have hF : fX8_fillDuel_B5 (fX8_fillDuel_l5 n) σ x1 = some σo := hF
      unfold fX8_fillDuel_B5 at hF
      refine ww_iload_n cx dX8_fillDuel_5 rfl 1 rfl ?_
      refine ww_if_lt cx dX8_fillDuel_6 (tgt := 83) rfl hF (fun hF => ?_) (fun hF => ?_)
      · exact ww_rvs hE dX8_fillDuel_83 hF
      · refine ww_aload_n cx dX8_fillDuel_9 rfl 0 rfl ?_
        refine gf_X8_58 cx dX8_fillDuel_10 ?_
        refine ww_iload_n cx dX8_fillDuel_13 rfl 1 rfl ?_
        refine ww_bipush cx dX8_fillDuel_14 bc_m100 ?_
        refine ww_iast (N := 4096) cx (sh_77) dX8_fillDuel_16 hF (fun σ8 hF => ?_)
        refine ww_iconst cx dX8_fillDuel_17 ic_0 ?_
        refine ww_istore_n (ks := [0, 1, 2]) (lv' := fun v9 => [(2, .int v9), (0, .ref (gad G 62)), (1, .int x1)]) cx dX8_fillDuel_18 rfl (by decide) hF (fun _ => rfl) (fun v9 hF => ?_)
        exact ww_sub [1, 2, 0] rfl (hl19 _ hk5 FU _ _ _ hF)
  unfold fX8_fillDuel at hF
  show WW G X 3 σ [(0, .ref (gad G 62))] 0 []
  refine ww_aload_n cx dX8_fillDuel_0 rfl 0 rfl ?_
  refine ww_V0_pi kv_X8_363 rfl cx sh_62 ⟨Nat.le_of_ble_eq_true rfl, Nat.le_of_ble_eq_true rfl⟩ (Nat.le_of_ble_eq_true rfl) dX8_fillDuel_1 (kX8_allClaims G) hF (fun r10 hF => ?_)
  refine ww_istore_n (ks := [0, 1]) (lv' := fun v11 => [(1, .int v11), (0, .ref (gad G 62))]) cx dX8_fillDuel_4 rfl (by decide) hF (fun _ => rfl) (fun v11 hF => ?_)
  exact ww_sub [1, 0] rfl (hl5 FU _ _ hF)
theorem dX8_goKitchen_0 : decode cX8_goKitchen 0 = .ok (.iconst 0, 1) := by decide +kernel
theorem dX8_goKitchen_1 : decode cX8_goKitchen 1 = .ok (.istore_n 2, 1) := by decide +kernel
theorem dX8_goKitchen_2 : decode cX8_goKitchen 2 = .ok (.iload_n 2, 1) := by decide +kernel
theorem dX8_goKitchen_3 : decode cX8_goKitchen 3 = .ok (.bipush 12, 2) := by decide +kernel
theorem dX8_goKitchen_5 : decode cX8_goKitchen 5 = .ok (.if_icmp .ge 39, 3) := by decide +kernel
theorem dX8_goKitchen_8 : decode cX8_goKitchen 8 = .ok (.aload_n 0, 1) := by decide +kernel
theorem dX8_goKitchen_9 : decode cX8_goKitchen 9 = .ok (.getfield 46, 3) := by decide +kernel
theorem dX8_goKitchen_12 : decode cX8_goKitchen 12 = .ok (.iload_n 2, 1) := by decide +kernel
theorem dX8_goKitchen_13 : decode cX8_goKitchen 13 = .ok (.aload_n 0, 1) := by decide +kernel
theorem dX8_goKitchen_14 : decode cX8_goKitchen 14 = .ok (.invokevirtual 257, 3) := by decide +kernel
theorem dX8_goKitchen_17 : decode cX8_goKitchen 17 = .ok (.iload_n 2, 1) := by decide +kernel
theorem dX8_goKitchen_18 : decode cX8_goKitchen 18 = .ok (.invokestatic 168, 3) := by decide +kernel
theorem dX8_goKitchen_21 : decode cX8_goKitchen 21 = .ok (.iconst 1, 1) := by decide +kernel
theorem dX8_goKitchen_22 : decode cX8_goKitchen 22 = .ok (.if_icmp .ne 7, 3) := by decide +kernel
theorem dX8_goKitchen_25 : decode cX8_goKitchen 25 = .ok (.iconst 0, 1) := by decide +kernel
theorem dX8_goKitchen_26 : decode cX8_goKitchen 26 = .ok (.goto 4, 3) := by decide +kernel
theorem dX8_goKitchen_29 : decode cX8_goKitchen 29 = .ok (.iconst (-1), 1) := by decide +kernel
theorem dX8_goKitchen_30 : decode cX8_goKitchen 30 = .ok (.iastore, 1) := by decide +kernel
theorem dX8_goKitchen_31 : decode cX8_goKitchen 31 = .ok (.aload_n 0, 1) := by decide +kernel
theorem dX8_goKitchen_32 : decode cX8_goKitchen 32 = .ok (.getfield 49, 3) := by decide +kernel
theorem dX8_goKitchen_35 : decode cX8_goKitchen 35 = .ok (.iload_n 2, 1) := by decide +kernel
theorem dX8_goKitchen_36 : decode cX8_goKitchen 36 = .ok (.iconst 0, 1) := by decide +kernel
theorem dX8_goKitchen_37 : decode cX8_goKitchen 37 = .ok (.iastore, 1) := by decide +kernel
theorem dX8_goKitchen_38 : decode cX8_goKitchen 38 = .ok (.iinc 2 1, 3) := by decide +kernel
theorem dX8_goKitchen_41 : decode cX8_goKitchen 41 = .ok (.goto (-39), 3) := by decide +kernel
theorem dX8_goKitchen_44 : decode cX8_goKitchen 44 = .ok (.iconst 0, 1) := by decide +kernel
theorem dX8_goKitchen_45 : decode cX8_goKitchen 45 = .ok (.istore_n 2, 1) := by decide +kernel
theorem dX8_goKitchen_46 : decode cX8_goKitchen 46 = .ok (.iload_n 2, 1) := by decide +kernel
theorem dX8_goKitchen_47 : decode cX8_goKitchen 47 = .ok (.iconst 5, 1) := by decide +kernel
theorem dX8_goKitchen_48 : decode cX8_goKitchen 48 = .ok (.if_icmp .ge 23, 3) := by decide +kernel
theorem dX8_goKitchen_51 : decode cX8_goKitchen 51 = .ok (.aload_n 0, 1) := by decide +kernel
theorem dX8_goKitchen_52 : decode cX8_goKitchen 52 = .ok (.getfield 52, 3) := by decide +kernel
theorem dX8_goKitchen_55 : decode cX8_goKitchen 55 = .ok (.iload_n 2, 1) := by decide +kernel
theorem dX8_goKitchen_56 : decode cX8_goKitchen 56 = .ok (.iconst 0, 1) := by decide +kernel
theorem dX8_goKitchen_57 : decode cX8_goKitchen 57 = .ok (.iastore, 1) := by decide +kernel
theorem dX8_goKitchen_58 : decode cX8_goKitchen 58 = .ok (.aload_n 0, 1) := by decide +kernel
theorem dX8_goKitchen_59 : decode cX8_goKitchen 59 = .ok (.getfield 55, 3) := by decide +kernel
theorem dX8_goKitchen_62 : decode cX8_goKitchen 62 = .ok (.iload_n 2, 1) := by decide +kernel
theorem dX8_goKitchen_63 : decode cX8_goKitchen 63 = .ok (.iconst 0, 1) := by decide +kernel
theorem dX8_goKitchen_64 : decode cX8_goKitchen 64 = .ok (.iastore, 1) := by decide +kernel
theorem dX8_goKitchen_65 : decode cX8_goKitchen 65 = .ok (.iinc 2 1, 3) := by decide +kernel
theorem dX8_goKitchen_68 : decode cX8_goKitchen 68 = .ok (.goto (-22), 3) := by decide +kernel
theorem dX8_goKitchen_71 : decode cX8_goKitchen 71 = .ok (.aload_n 0, 1) := by decide +kernel
theorem dX8_goKitchen_72 : decode cX8_goKitchen 72 = .ok (.iconst 0, 1) := by decide +kernel
theorem dX8_goKitchen_73 : decode cX8_goKitchen 73 = .ok (.putfield 400, 3) := by decide +kernel
theorem dX8_goKitchen_76 : decode cX8_goKitchen 76 = .ok (.aload_n 0, 1) := by decide +kernel
theorem dX8_goKitchen_77 : decode cX8_goKitchen 77 = .ok (.iconst 0, 1) := by decide +kernel
theorem dX8_goKitchen_78 : decode cX8_goKitchen 78 = .ok (.putfield 403, 3) := by decide +kernel
theorem dX8_goKitchen_81 : decode cX8_goKitchen 81 = .ok (.iconst 2, 1) := by decide +kernel
theorem dX8_goKitchen_82 : decode cX8_goKitchen 82 = .ok (.aload_n 0, 1) := by decide +kernel
theorem dX8_goKitchen_83 : decode cX8_goKitchen 83 = .ok (.getfield 403, 3) := by decide +kernel
theorem dX8_goKitchen_86 : decode cX8_goKitchen 86 = .ok (.imul, 1) := by decide +kernel
theorem dX8_goKitchen_87 : decode cX8_goKitchen 87 = .ok (.aload_n 0, 1) := by decide +kernel
theorem dX8_goKitchen_88 : decode cX8_goKitchen 88 = .ok (.getfield 61, 3) := by decide +kernel
theorem dX8_goKitchen_91 : decode cX8_goKitchen 91 = .ok (.iload_n 1, 1) := by decide +kernel
theorem dX8_goKitchen_92 : decode cX8_goKitchen 92 = .ok (.iaload, 1) := by decide +kernel
theorem dX8_goKitchen_93 : decode cX8_goKitchen 93 = .ok (.if_icmp .ge 49, 3) := by decide +kernel
theorem dX8_goKitchen_96 : decode cX8_goKitchen 96 = .ok (.aload_n 0, 1) := by decide +kernel
theorem dX8_goKitchen_97 : decode cX8_goKitchen 97 = .ok (.aload_n 0, 1) := by decide +kernel
theorem dX8_goKitchen_98 : decode cX8_goKitchen 98 = .ok (.iload_n 1, 1) := by decide +kernel
theorem dX8_goKitchen_99 : decode cX8_goKitchen 99 = .ok (.iconst 2, 1) := by decide +kernel
theorem dX8_goKitchen_100 : decode cX8_goKitchen 100 = .ok (.aload_n 0, 1) := by decide +kernel
theorem dX8_goKitchen_101 : decode cX8_goKitchen 101 = .ok (.getfield 403, 3) := by decide +kernel
theorem dX8_goKitchen_104 : decode cX8_goKitchen 104 = .ok (.imul, 1) := by decide +kernel
theorem dX8_goKitchen_105 : decode cX8_goKitchen 105 = .ok (.invokevirtual 319, 3) := by decide +kernel
theorem dX8_goKitchen_108 : decode cX8_goKitchen 108 = .ok (.l2i, 1) := by decide +kernel
theorem dX8_goKitchen_109 : decode cX8_goKitchen 109 = .ok (.aload_n 0, 1) := by decide +kernel
theorem dX8_goKitchen_110 : decode cX8_goKitchen 110 = .ok (.iload_n 1, 1) := by decide +kernel
theorem dX8_goKitchen_111 : decode cX8_goKitchen 111 = .ok (.iconst 2, 1) := by decide +kernel
theorem dX8_goKitchen_112 : decode cX8_goKitchen 112 = .ok (.aload_n 0, 1) := by decide +kernel
theorem dX8_goKitchen_113 : decode cX8_goKitchen 113 = .ok (.getfield 403, 3) := by decide +kernel
theorem dX8_goKitchen_116 : decode cX8_goKitchen 116 = .ok (.imul, 1) := by decide +kernel
theorem dX8_goKitchen_117 : decode cX8_goKitchen 117 = .ok (.iconst 1, 1) := by decide +kernel
theorem dX8_goKitchen_118 : decode cX8_goKitchen 118 = .ok (.iadd, 1) := by decide +kernel
theorem dX8_goKitchen_119 : decode cX8_goKitchen 119 = .ok (.invokevirtual 319, 3) := by decide +kernel
theorem dX8_goKitchen_122 : decode cX8_goKitchen 122 = .ok (.l2i, 1) := by decide +kernel
theorem dX8_goKitchen_123 : decode cX8_goKitchen 123 = .ok (.invokevirtual 406, 3) := by decide +kernel
theorem dX8_goKitchen_126 : decode cX8_goKitchen 126 = .ok (.ifCond .eq 16, 3) := by decide +kernel
theorem dX8_goKitchen_129 : decode cX8_goKitchen 129 = .ok (.aload_n 0, 1) := by decide +kernel
theorem dX8_goKitchen_130 : decode cX8_goKitchen 130 = .ok (.dup, 1) := by decide +kernel
theorem dX8_goKitchen_131 : decode cX8_goKitchen 131 = .ok (.getfield 403, 3) := by decide +kernel
theorem dX8_goKitchen_134 : decode cX8_goKitchen 134 = .ok (.iconst 1, 1) := by decide +kernel
theorem dX8_goKitchen_135 : decode cX8_goKitchen 135 = .ok (.iadd, 1) := by decide +kernel
theorem dX8_goKitchen_136 : decode cX8_goKitchen 136 = .ok (.putfield 403, 3) := by decide +kernel
theorem dX8_goKitchen_139 : decode cX8_goKitchen 139 = .ok (.goto (-58), 3) := by decide +kernel
theorem dX8_goKitchen_142 : decode cX8_goKitchen 142 = .ok (.return_, 1) := by decide +kernel
set_option maxRecDepth 4000 in
theorem kX8_goKitchen (G : GT) {σ : St} {a1 : Int32} : ∀ (σo : St) , fX8_goKitchen σ a1 = some σo → MCt G 3 yX8_goKitchen cX8_goKitchen 3 (none) [.ref (gad G 62), .int a1] σ (none) σo := by
  intro σo hF
  refine met_v (by decide) (Nat.le_of_ble_eq_true rfl) (fun X cx hE => ?_)
  have cx : Cx G X RX8 cX8_goKitchen 3 3 := cx
  have hl81 : ∀ n : Nat, ∀ (σ : St) (x1 : Int32) , fX8_goKitchen_l81 n σ x1 = some σo → WW G X 3 σ [(0, .ref (gad G 62)), (1, .int x1)] 81 [] := by
    intro n
    induction n with
    | zero =>
      intro σ x1 hF
      exact absurd hF (by intro z; cases z)
    | succ n ih =>
      intro σ x1 hF
      have hk81 := ih
      have hF : fX8_goKitchen_B81 (fX8_goKitchen_l81 n) σ x1 = some σo := hF
      unfold fX8_goKitchen_B81 at hF
      refine ww_iconst cx dX8_goKitchen_81 ic_2 ?_
      refine ww_aload_n cx dX8_goKitchen_82 rfl 0 rfl ?_
      refine gf_X8_403 cx dX8_goKitchen_83 ?_
      refine ww_imul cx dX8_goKitchen_86 ?_
      refine ww_aload_n cx dX8_goKitchen_87 rfl 0 rfl ?_
      refine gf_X8_61 cx dX8_goKitchen_88 ?_
      refine ww_iload_n cx dX8_goKitchen_91 rfl 1 rfl ?_
      refine ww_iald (N := 4) cx (sh_78) dX8_goKitchen_92 hF (fun hF => ?_)
      refine ww_icmp_ge cx dX8_goKitchen_93 (tgt := 142) rfl hF (fun hF => ?_) (fun hF => ?_)
      · exact ww_rvs hE dX8_goKitchen_142 hF
      · refine ww_aload_n cx dX8_goKitchen_96 rfl 0 rfl ?_
        refine ww_aload_n cx dX8_goKitchen_97 rfl 0 rfl ?_
        refine ww_iload_n cx dX8_goKitchen_98 rfl 1 rfl ?_
        refine ww_iconst cx dX8_goKitchen_99 ic_2 ?_
        refine ww_aload_n cx dX8_goKitchen_100 rfl 0 rfl ?_
        refine gf_X8_403 cx dX8_goKitchen_101 ?_
        refine ww_imul cx dX8_goKitchen_104 ?_
        refine ww_V2_pl kv_X8_319 rfl cx sh_62 ⟨Nat.le_of_ble_eq_true rfl, Nat.le_of_ble_eq_true rfl⟩ (Nat.le_of_ble_eq_true rfl) dX8_goKitchen_105 (kX8_numberAt G) hF (fun r1 hF => ?_)
        refine ww_l2i cx dX8_goKitchen_108 ?_
        refine ww_aload_n cx dX8_goKitchen_109 rfl 0 rfl ?_
        refine ww_iload_n cx dX8_goKitchen_110 rfl 1 rfl ?_
        refine ww_iconst cx dX8_goKitchen_111 ic_2 ?_
        refine ww_aload_n cx dX8_goKitchen_112 rfl 0 rfl ?_
        refine gf_X8_403 cx dX8_goKitchen_113 ?_
        refine ww_imul cx dX8_goKitchen_116 ?_
        refine ww_iconst cx dX8_goKitchen_117 ic_1 ?_
        refine ww_iadd cx dX8_goKitchen_118 ?_
        refine ww_V2_pl kv_X8_319 rfl cx sh_62 ⟨Nat.le_of_ble_eq_true rfl, Nat.le_of_ble_eq_true rfl⟩ (Nat.le_of_ble_eq_true rfl) dX8_goKitchen_119 (kX8_numberAt G) hF (fun r2 hF => ?_)
        refine ww_l2i cx dX8_goKitchen_122 ?_
        refine ww_V2_si kv_X8_406 rfl cx sh_62 ⟨Nat.le_of_ble_eq_true rfl, Nat.le_of_ble_eq_true rfl⟩ (Nat.le_of_ble_eq_true rfl) dX8_goKitchen_123 (kX8_cooks G) hF (fun r3 σ4 hF => ?_)
        refine ww_if_eq cx dX8_goKitchen_126 (tgt := 142) rfl hF (fun hF => ?_) (fun hF => ?_)
        · exact ww_rvs hE dX8_goKitchen_142 hF
        · refine ww_aload_n cx dX8_goKitchen_129 rfl 0 rfl ?_
          refine ww_dup cx dX8_goKitchen_130 rfl ?_
          refine gf_X8_403 cx dX8_goKitchen_131 ?_
          refine ww_iconst cx dX8_goKitchen_134 ic_1 ?_
          refine ww_iadd cx dX8_goKitchen_135 ?_
          refine pf_X8_403 cx dX8_goKitchen_136 hF (fun σ5 hF => ?_)
          refine ww_goto cx dX8_goKitchen_139 (tgt := 81) rfl ?_
          exact hk81 _ _ hF
  have hl46 : ∀ n : Nat, ∀ (σ : St) (x1 : Int32) (x2 : Int32) , fX8_goKitchen_l46 n σ x1 x2 = some σo → WW G X 3 σ [(0, .ref (gad G 62)), (1, .int x1), (2, .int x2)] 46 [] := by
    intro n
    induction n with
    | zero =>
      intro σ x1 x2 hF
      exact absurd hF (by intro z; cases z)
    | succ n ih =>
      intro σ x1 x2 hF
      have hk46 := ih
      have hF : fX8_goKitchen_B46 (fX8_goKitchen_l46 n) σ x1 x2 = some σo := hF
      unfold fX8_goKitchen_B46 at hF
      refine ww_iload_n cx dX8_goKitchen_46 rfl 2 rfl ?_
      refine ww_iconst cx dX8_goKitchen_47 ic_5 ?_
      refine ww_icmp_ge cx dX8_goKitchen_48 (tgt := 71) rfl hF (fun hF => ?_) (fun hF => ?_)
      · refine ww_aload_n cx dX8_goKitchen_71 rfl 0 rfl ?_
        refine ww_iconst cx dX8_goKitchen_72 ic_0 ?_
        refine pf_X8_400 cx dX8_goKitchen_73 hF (fun σ6 hF => ?_)
        refine ww_aload_n cx dX8_goKitchen_76 rfl 0 rfl ?_
        refine ww_iconst cx dX8_goKitchen_77 ic_0 ?_
        refine pf_X8_403 cx dX8_goKitchen_78 hF (fun σ7 hF => ?_)
        exact ww_sub [0, 1] rfl (hl81 FU _ _ hF)
      · refine ww_aload_n cx dX8_goKitchen_51 rfl 0 rfl ?_
        refine gf_X8_52 cx dX8_goKitchen_52 ?_
        refine ww_iload_n cx dX8_goKitchen_55 rfl 2 rfl ?_
        refine ww_iconst cx dX8_goKitchen_56 ic_0 ?_
        refine ww_iast (N := 5) cx (sh_75) dX8_goKitchen_57 hF (fun σ8 hF => ?_)
        refine ww_aload_n cx dX8_goKitchen_58 rfl 0 rfl ?_
        refine gf_X8_55 cx dX8_goKitchen_59 ?_
        refine ww_iload_n cx dX8_goKitchen_62 rfl 2 rfl ?_
        refine ww_iconst cx dX8_goKitchen_63 ic_0 ?_
        refine ww_iast (N := 5) cx (sh_76) dX8_goKitchen_64 hF (fun σ9 hF => ?_)
        refine ww_iinc (j := 2) (ks := [0, 1, 2]) (lv' := fun v10 => [(2, .int v10), (0, .ref (gad G 62)), (1, .int x1)]) cx dX8_goKitchen_65 (by decide) rfl ic_1 hF (fun _ => rfl) (fun v10 hF => ?_)
        refine ww_goto cx dX8_goKitchen_68 (tgt := 46) rfl ?_
        exact ww_sub [1, 2, 0] rfl (hk46 _ _ _ hF)
  have hb30 : ∀ (kr2 : St → Int32 → Int32 → Option (St)), (∀ (σ : St) (x1 : Int32) (x2 : Int32) , kr2 σ x1 x2 = some σo → WW G X 3 σ [(0, .ref (gad G 62)), (1, .int x1), (2, .int x2)] 2 []) → ∀ (σ : St) (x1 : Int32) (x2 : Int32) (y1 : Int32) (y2 : Int32) , fX8_goKitchen_b30 kr2 σ x1 x2 y1 y2 = some σo → WW G X 3 σ [(0, .ref (gad G 62)), (1, .int x1), (2, .int x2)] 30 [.int y2, .int y1, .ref (gad G 73)] := by
    intro kr2 hk2
    intro σ x1 x2 y1 y2 hF
    unfold fX8_goKitchen_b30 at hF
    refine ww_iast (N := 12) cx (sh_73) dX8_goKitchen_30 hF (fun σ11 hF => ?_)
    refine ww_aload_n cx dX8_goKitchen_31 rfl 0 rfl ?_
    refine gf_X8_49 cx dX8_goKitchen_32 ?_
    refine ww_iload_n cx dX8_goKitchen_35 rfl 2 rfl ?_
    refine ww_iconst cx dX8_goKitchen_36 ic_0 ?_
    refine ww_iast (N := 12) cx (sh_74) dX8_goKitchen_37 hF (fun σ12 hF => ?_)
    refine ww_iinc (j := 2) (ks := [0, 1, 2]) (lv' := fun v13 => [(2, .int v13), (0, .ref (gad G 62)), (1, .int x1)]) cx dX8_goKitchen_38 (by decide) rfl ic_1 hF (fun _ => rfl) (fun v13 hF => ?_)
    refine ww_goto cx dX8_goKitchen_41 (tgt := 2) rfl ?_
    exact ww_sub [1, 2, 0] rfl (hk2 _ _ _ hF)
  have hl2 : ∀ n : Nat, ∀ (σ : St) (x1 : Int32) (x2 : Int32) , fX8_goKitchen_l2 n σ x1 x2 = some σo → WW G X 3 σ [(0, .ref (gad G 62)), (1, .int x1), (2, .int x2)] 2 [] := by
    intro n
    induction n with
    | zero =>
      intro σ x1 x2 hF
      exact absurd hF (by intro z; cases z)
    | succ n ih =>
      intro σ x1 x2 hF
      have hk2 := ih
      have hF : fX8_goKitchen_B2 (fX8_goKitchen_l2 n) σ x1 x2 = some σo := hF
      unfold fX8_goKitchen_B2 at hF
      refine ww_iload_n cx dX8_goKitchen_2 rfl 2 rfl ?_
      refine ww_bipush cx dX8_goKitchen_3 bc_12 ?_
      refine ww_icmp_ge cx dX8_goKitchen_5 (tgt := 44) rfl hF (fun hF => ?_) (fun hF => ?_)
      · refine ww_iconst cx dX8_goKitchen_44 ic_0 ?_
        refine ww_istore_n (ks := [0, 1, 2]) (lv' := fun v14 => [(2, .int v14), (0, .ref (gad G 62)), (1, .int x1)]) cx dX8_goKitchen_45 rfl (by decide) hF (fun _ => rfl) (fun v14 hF => ?_)
        exact ww_sub [1, 2, 0] rfl (hl46 FU _ _ _ hF)
      · refine ww_aload_n cx dX8_goKitchen_8 rfl 0 rfl ?_
        refine gf_X8_46 cx dX8_goKitchen_9 ?_
        refine ww_iload_n cx dX8_goKitchen_12 rfl 2 rfl ?_
        refine ww_aload_n cx dX8_goKitchen_13 rfl 0 rfl ?_
        refine ww_V0_pi kv_X8_257 rfl cx sh_62 ⟨Nat.le_of_ble_eq_true rfl, Nat.le_of_ble_eq_true rfl⟩ (Nat.le_of_ble_eq_true rfl) dX8_goKitchen_14 (kX8_saltNow G) hF (fun r15 hF => ?_)
        refine ww_iload_n cx dX8_goKitchen_17 rfl 2 rfl ?_
        refine ww_S2_pi kv_X8_168 cx ⟨Nat.le_of_ble_eq_true rfl, Nat.le_of_ble_eq_true rfl⟩ (Nat.le_of_ble_eq_true rfl) dX8_goKitchen_18 (kX8_bit G) hF (fun r16 hF => ?_)
        refine ww_iconst cx dX8_goKitchen_21 ic_1 ?_
        refine ww_icmp_ne cx dX8_goKitchen_22 (tgt := 29) rfl hF (fun hF => ?_) (fun hF => ?_)
        · refine ww_iconst cx dX8_goKitchen_29 ic_m1 ?_
          exact hb30 _ hk2 _ _ _ _ _ hF
        · refine ww_iconst cx dX8_goKitchen_25 ic_0 ?_
          refine ww_goto cx dX8_goKitchen_26 (tgt := 30) rfl ?_
          exact hb30 _ hk2 _ _ _ _ _ hF
  unfold fX8_goKitchen at hF
  show WW G X 3 σ [(0, .ref (gad G 62)), (1, .int a1)] 0 []
  refine ww_iconst cx dX8_goKitchen_0 ic_0 ?_
  refine ww_istore_n (ks := [0, 1, 2]) (lv' := fun v17 => [(2, .int v17), (0, .ref (gad G 62)), (1, .int a1)]) cx dX8_goKitchen_1 rfl (by decide) hF (fun _ => rfl) (fun v17 hF => ?_)
  exact ww_sub [1, 2, 0] rfl (hl2 FU _ _ _ hF)
theorem dX8_guest_0 : decode cX8_guest 0 = .ok (.aload_n 0, 1) := by decide +kernel
theorem dX8_guest_1 : decode cX8_guest 1 = .ok (.iload_n 1, 1) := by decide +kernel
theorem dX8_guest_2 : decode cX8_guest 2 = .ok (.i2l, 1) := by decide +kernel
theorem dX8_guest_3 : decode cX8_guest 3 = .ok (.invokevirtual 285, 3) := by decide +kernel
theorem dX8_guest_6 : decode cX8_guest 6 = .ok (.ifCond .eq 15, 3) := by decide +kernel
theorem dX8_guest_9 : decode cX8_guest 9 = .ok (.iload_n 2, 1) := by decide +kernel
theorem dX8_guest_10 : decode cX8_guest 10 = .ok (.i2l, 1) := by decide +kernel
theorem dX8_guest_11 : decode cX8_guest 11 = .ok (.lconst 0, 1) := by decide +kernel
theorem dX8_guest_12 : decode cX8_guest 12 = .ok (.ldc2_w 81, 3) := by decide +kernel
theorem dX8_guest_15 : decode cX8_guest 15 = .ok (.invokestatic 83, 3) := by decide +kernel
theorem dX8_guest_18 : decode cX8_guest 18 = .ok (.ifCond .ne 6, 3) := by decide +kernel
theorem dX8_guest_21 : decode cX8_guest 21 = .ok (.bipush (-2), 2) := by decide +kernel
theorem dX8_guest_23 : decode cX8_guest 23 = .ok (.ireturn, 1) := by decide +kernel
theorem dX8_guest_24 : decode cX8_guest 24 = .ok (.iload_n 2, 1) := by decide +kernel
theorem dX8_guest_25 : decode cX8_guest 25 = .ok (.iconst 2, 1) := by decide +kernel
theorem dX8_guest_26 : decode cX8_guest 26 = .ok (.if_icmp .ge 12, 3) := by decide +kernel
theorem dX8_guest_29 : decode cX8_guest 29 = .ok (.aload_n 0, 1) := by decide +kernel
theorem dX8_guest_30 : decode cX8_guest 30 = .ok (.iload_n 1, 1) := by decide +kernel
theorem dX8_guest_31 : decode cX8_guest 31 = .ok (.iload_n 2, 1) := by decide +kernel
theorem dX8_guest_32 : decode cX8_guest 32 = .ok (.invokevirtual 282, 3) := by decide +kernel
theorem dX8_guest_35 : decode cX8_guest 35 = .ok (.goto 8, 3) := by decide +kernel
theorem dX8_guest_38 : decode cX8_guest 38 = .ok (.aload_n 0, 1) := by decide +kernel
theorem dX8_guest_39 : decode cX8_guest 39 = .ok (.iload_n 1, 1) := by decide +kernel
theorem dX8_guest_40 : decode cX8_guest 40 = .ok (.invokevirtual 288, 3) := by decide +kernel
theorem dX8_guest_43 : decode cX8_guest 43 = .ok (.ireturn, 1) := by decide +kernel
set_option maxRecDepth 4000 in
theorem kX8_guest (G : GT) {σ : St} {a1 : Int32} {a2 : Int32} : ∀ (r : Int32) , fX8_guest σ a1 a2 = some r → MCt G 3 yX8_guest cX8_guest 3 (some .int) [.ref (gad G 62), .int a1, .int a2] σ (some (.int r)) σ := by
  intro r hF
  refine met_i (by decide) (Nat.le_of_ble_eq_true rfl) (fun X cx hE => ?_)
  have cx : Cx G X RX8 cX8_guest 3 3 := cx
  unfold fX8_guest at hF
  show WW G X 3 σ [(0, .ref (gad G 62)), (1, .int a1), (2, .int a2)] 0 []
  refine ww_aload_n cx dX8_guest_0 rfl 0 rfl ?_
  refine ww_iload_n cx dX8_guest_1 rfl 1 rfl ?_
  refine ww_i2l cx dX8_guest_2 ?_
  refine ww_V1_pi kv_X8_285 rfl cx sh_62 ⟨Nat.le_of_ble_eq_true rfl, Nat.le_of_ble_eq_true rfl⟩ (Nat.le_of_ble_eq_true rfl) dX8_guest_3 (kX8_isGuest G) hF (fun r1 hF => ?_)
  refine ww_if_eq cx dX8_guest_6 (tgt := 21) rfl hF (fun hF => ?_) (fun hF => ?_)
  · refine ww_bipush cx dX8_guest_21 bc_m2 ?_
    exact ww_rip hE dX8_guest_23 hF
  · refine ww_iload_n cx dX8_guest_9 rfl 2 rfl ?_
    refine ww_i2l cx dX8_guest_10 ?_
    refine ww_lconst cx dX8_guest_11 lc_0 ?_
    refine ww_ldc2 (v := 2) cx dX8_guest_12 cn_X8_81 ?_
    refine ww_S3_pi kv_X8_83 cx ⟨Nat.le_of_ble_eq_true rfl, Nat.le_of_ble_eq_true rfl⟩ (Nat.le_of_ble_eq_true rfl) dX8_guest_15 (kX8_in G) hF (fun r2 hF => ?_)
    refine ww_if_ne cx dX8_guest_18 (tgt := 24) rfl hF (fun hF => ?_) (fun hF => ?_)
    · refine ww_iload_n cx dX8_guest_24 rfl 2 rfl ?_
      refine ww_iconst cx dX8_guest_25 ic_2 ?_
      refine ww_icmp_ge cx dX8_guest_26 (tgt := 38) rfl hF (fun hF => ?_) (fun hF => ?_)
      · refine ww_aload_n cx dX8_guest_38 rfl 0 rfl ?_
        refine ww_iload_n cx dX8_guest_39 rfl 1 rfl ?_
        refine ww_V1_pi kv_X8_288 rfl cx sh_62 ⟨Nat.le_of_ble_eq_true rfl, Nat.le_of_ble_eq_true rfl⟩ (Nat.le_of_ble_eq_true rfl) dX8_guest_40 (kX8_canDo G) hF (fun r3 hF => ?_)
        exact ww_rip hE dX8_guest_43 hF
      · refine ww_aload_n cx dX8_guest_29 rfl 0 rfl ?_
        refine ww_iload_n cx dX8_guest_30 rfl 1 rfl ?_
        refine ww_iload_n cx dX8_guest_31 rfl 2 rfl ?_
        refine ww_V2_pi kv_X8_282 rfl cx sh_62 ⟨Nat.le_of_ble_eq_true rfl, Nat.le_of_ble_eq_true rfl⟩ (Nat.le_of_ble_eq_true rfl) dX8_guest_32 (kX8_ofGuest G) hF (fun r4 hF => ?_)
        refine ww_goto cx dX8_guest_35 (tgt := 43) rfl ?_
        exact ww_rip hE dX8_guest_43 hF
    · refine ww_bipush cx dX8_guest_21 bc_m2 ?_
      exact ww_rip hE dX8_guest_23 hF
theorem dX8_holds_0 : decode cX8_holds 0 = .ok (.aload_n 0, 1) := by decide +kernel
theorem dX8_holds_1 : decode cX8_holds 1 = .ok (.iload_n 1, 1) := by decide +kernel
theorem dX8_holds_2 : decode cX8_holds 2 = .ok (.i2l, 1) := by decide +kernel
theorem dX8_holds_3 : decode cX8_holds 3 = .ok (.invokevirtual 269, 3) := by decide +kernel
theorem dX8_holds_6 : decode cX8_holds 6 = .ok (.ifCond .eq 12, 3) := by decide +kernel
theorem dX8_holds_9 : decode cX8_holds 9 = .ok (.aload_n 0, 1) := by decide +kernel
theorem dX8_holds_10 : decode cX8_holds 10 = .ok (.iload_n 1, 1) := by decide +kernel
theorem dX8_holds_11 : decode cX8_holds 11 = .ok (.iconst 2, 1) := by decide +kernel
theorem dX8_holds_12 : decode cX8_holds 12 = .ok (.invokevirtual 91, 3) := by decide +kernel
theorem dX8_holds_15 : decode cX8_holds 15 = .ok (.goto 5, 3) := by decide +kernel
theorem dX8_holds_18 : decode cX8_holds 18 = .ok (.bipush (-2), 2) := by decide +kernel
theorem dX8_holds_20 : decode cX8_holds 20 = .ok (.ireturn, 1) := by decide +kernel
set_option maxRecDepth 4000 in
theorem kX8_holds (G : GT) {σ : St} {a1 : Int32} : ∀ (r : Int32) , fX8_holds σ a1 = some r → MCt G 3 yX8_holds cX8_holds 2 (some .int) [.ref (gad G 62), .int a1] σ (some (.int r)) σ := by
  intro r hF
  refine met_i (by decide) (Nat.le_of_ble_eq_true rfl) (fun X cx hE => ?_)
  have cx : Cx G X RX8 cX8_holds 2 3 := cx
  unfold fX8_holds at hF
  show WW G X 2 σ [(0, .ref (gad G 62)), (1, .int a1)] 0 []
  refine ww_aload_n cx dX8_holds_0 rfl 0 rfl ?_
  refine ww_iload_n cx dX8_holds_1 rfl 1 rfl ?_
  refine ww_i2l cx dX8_holds_2 ?_
  refine ww_V1_pi kv_X8_269 rfl cx sh_62 ⟨Nat.le_of_ble_eq_true rfl, Nat.le_of_ble_eq_true rfl⟩ (Nat.le_of_ble_eq_true rfl) dX8_holds_3 (kX8_isClaim G) hF (fun r1 hF => ?_)
  refine ww_if_eq cx dX8_holds_6 (tgt := 18) rfl hF (fun hF => ?_) (fun hF => ?_)
  · refine ww_bipush cx dX8_holds_18 bc_m2 ?_
    exact ww_rip hE dX8_holds_20 hF
  · refine ww_aload_n cx dX8_holds_9 rfl 0 rfl ?_
    refine ww_iload_n cx dX8_holds_10 rfl 1 rfl ?_
    refine ww_iconst cx dX8_holds_11 ic_2 ?_
    refine ww_V2_pi kv_X8_91 rfl cx sh_62 ⟨Nat.le_of_ble_eq_true rfl, Nat.le_of_ble_eq_true rfl⟩ (Nat.le_of_ble_eq_true rfl) dX8_holds_12 (kX8_ofClaim G) hF (fun r2 hF => ?_)
    refine ww_goto cx dX8_holds_15 (tgt := 20) rfl ?_
    exact ww_rip hE dX8_holds_20 hF
theorem dX8_number_0 : decode cX8_number 0 = .ok (.aload_n 0, 1) := by decide +kernel
theorem dX8_number_1 : decode cX8_number 1 = .ok (.invokevirtual 134, 3) := by decide +kernel
theorem dX8_number_4 : decode cX8_number 4 = .ok (.ifCond .eq 16, 3) := by decide +kernel
theorem dX8_number_7 : decode cX8_number 7 = .ok (.aload_n 0, 1) := by decide +kernel
theorem dX8_number_8 : decode cX8_number 8 = .ok (.getfield 111, 3) := by decide +kernel
theorem dX8_number_11 : decode cX8_number 11 = .ok (.iconst 2, 1) := by decide +kernel
theorem dX8_number_12 : decode cX8_number 12 = .ok (.if_icmp .eq 8, 3) := by decide +kernel
theorem dX8_number_15 : decode cX8_number 15 = .ok (.aload_n 0, 1) := by decide +kernel
theorem dX8_number_16 : decode cX8_number 16 = .ok (.iconst 1, 1) := by decide +kernel
theorem dX8_number_17 : decode cX8_number 17 = .ok (.invokevirtual 157, 3) := by decide +kernel
theorem dX8_number_20 : decode cX8_number 20 = .ok (.aload_n 0, 1) := by decide +kernel
theorem dX8_number_21 : decode cX8_number 21 = .ok (.invokevirtual 134, 3) := by decide +kernel
theorem dX8_number_24 : decode cX8_number 24 = .ok (.ifCond .eq 23, 3) := by decide +kernel
theorem dX8_number_27 : decode cX8_number 27 = .ok (.aload_n 0, 1) := by decide +kernel
theorem dX8_number_28 : decode cX8_number 28 = .ok (.getfield 122, 3) := by decide +kernel
theorem dX8_number_31 : decode cX8_number 31 = .ok (.i2l, 1) := by decide +kernel
theorem dX8_number_32 : decode cX8_number 32 = .ok (.iload_n 1, 1) := by decide +kernel
theorem dX8_number_33 : decode cX8_number 33 = .ok (.i2l, 1) := by decide +kernel
theorem dX8_number_34 : decode cX8_number 34 = .ok (.iload_n 2, 1) := by decide +kernel
theorem dX8_number_35 : decode cX8_number 35 = .ok (.i2l, 1) := by decide +kernel
theorem dX8_number_36 : decode cX8_number 36 = .ok (.invokestatic 83, 3) := by decide +kernel
theorem dX8_number_39 : decode cX8_number 39 = .ok (.ifCond .ne 8, 3) := by decide +kernel
theorem dX8_number_42 : decode cX8_number 42 = .ok (.aload_n 0, 1) := by decide +kernel
theorem dX8_number_43 : decode cX8_number 43 = .ok (.iconst 2, 1) := by decide +kernel
theorem dX8_number_44 : decode cX8_number 44 = .ok (.invokevirtual 157, 3) := by decide +kernel
theorem dX8_number_47 : decode cX8_number 47 = .ok (.aload_n 0, 1) := by decide +kernel
theorem dX8_number_48 : decode cX8_number 48 = .ok (.invokevirtual 134, 3) := by decide +kernel
theorem dX8_number_51 : decode cX8_number 51 = .ok (.ifCond .ne 5, 3) := by decide +kernel
theorem dX8_number_54 : decode cX8_number 54 = .ok (.iconst 0, 1) := by decide +kernel
theorem dX8_number_55 : decode cX8_number 55 = .ok (.ireturn, 1) := by decide +kernel
theorem dX8_number_56 : decode cX8_number 56 = .ok (.aload_n 0, 1) := by decide +kernel
theorem dX8_number_57 : decode cX8_number 57 = .ok (.getfield 122, 3) := by decide +kernel
theorem dX8_number_60 : decode cX8_number 60 = .ok (.istore_n 3, 1) := by decide +kernel
theorem dX8_number_61 : decode cX8_number 61 = .ok (.aload_n 0, 1) := by decide +kernel
theorem dX8_number_62 : decode cX8_number 62 = .ok (.invokevirtual 151, 3) := by decide +kernel
theorem dX8_number_65 : decode cX8_number 65 = .ok (.iload_n 3, 1) := by decide +kernel
theorem dX8_number_66 : decode cX8_number 66 = .ok (.ireturn, 1) := by decide +kernel
set_option maxRecDepth 4000 in
theorem kX8_number (G : GT) {σ : St} {a1 : Int32} {a2 : Int32} : ∀ (r : Int32) (σo : St) , fX8_number σ a1 a2 = some (r, σo) → MCt G 3 yX8_number cX8_number 4 (some .int) [.ref (gad G 62), .int a1, .int a2] σ (some (.int r)) σo := by
  intro r σo hF
  refine met_i (by decide) (Nat.le_of_ble_eq_true rfl) (fun X cx hE => ?_)
  have cx : Cx G X RX8 cX8_number 4 3 := cx
  have hb47 : ∀ (σ : St) , fX8_number_b47 σ = some (r, σo) → WW G X 4 σ [(0, .ref (gad G 62))] 47 [] := by
    intro σ hF
    unfold fX8_number_b47 at hF
    refine ww_aload_n cx dX8_number_47 rfl 0 rfl ?_
    refine ww_V0_pi kv_X8_134 rfl cx sh_62 ⟨Nat.le_of_ble_eq_true rfl, Nat.le_of_ble_eq_true rfl⟩ (Nat.le_of_ble_eq_true rfl) dX8_number_48 (kX8_good G) hF (fun r1 hF => ?_)
    refine ww_if_ne cx dX8_number_51 (tgt := 56) rfl hF (fun hF => ?_) (fun hF => ?_)
    · refine ww_aload_n cx dX8_number_56 rfl 0 rfl ?_
      refine gf_X8_122 cx dX8_number_57 ?_
      refine ww_istore_n (ks := [0, 1]) (lv' := fun v2 => [(3, .int v2), (0, .ref (gad G 62))]) cx dX8_number_60 rfl (by decide) hF (fun _ => rfl) (fun v2 hF => ?_)
      refine ww_aload_n cx dX8_number_61 rfl 1 rfl ?_
      refine ww_V0_sv kv_X8_151 rfl cx sh_62 ⟨Nat.le_of_ble_eq_true rfl, Nat.le_of_ble_eq_true rfl⟩ (Nat.le_of_ble_eq_true rfl) dX8_number_62 (kX8_advance G) hF (fun σ3 hF => ?_)
      refine ww_iload_n cx dX8_number_65 rfl 0 rfl ?_
      exact ww_ris hE dX8_number_66 hF
    · refine ww_iconst cx dX8_number_54 ic_0 ?_
      exact ww_ris hE dX8_number_55 hF
  have hb20 : ∀ (σ : St) (x1 : Int32) (x2 : Int32) , fX8_number_b20 σ x1 x2 = some (r, σo) → WW G X 4 σ [(0, .ref (gad G 62)), (1, .int x1), (2, .int x2)] 20 [] := by
    intro σ x1 x2 hF
    unfold fX8_number_b20 at hF
    refine ww_aload_n cx dX8_number_20 rfl 0 rfl ?_
    refine ww_V0_pi kv_X8_134 rfl cx sh_62 ⟨Nat.le_of_ble_eq_true rfl, Nat.le_of_ble_eq_true rfl⟩ (Nat.le_of_ble_eq_true rfl) dX8_number_21 (kX8_good G) hF (fun r4 hF => ?_)
    refine ww_if_eq cx dX8_number_24 (tgt := 47) rfl hF (fun hF => ?_) (fun hF => ?_)
    · exact ww_sub [0] rfl (hb47 _ hF)
    · refine ww_aload_n cx dX8_number_27 rfl 0 rfl ?_
      refine gf_X8_122 cx dX8_number_28 ?_
      refine ww_i2l cx dX8_number_31 ?_
      refine ww_iload_n cx dX8_number_32 rfl 1 rfl ?_
      refine ww_i2l cx dX8_number_33 ?_
      refine ww_iload_n cx dX8_number_34 rfl 2 rfl ?_
      refine ww_i2l cx dX8_number_35 ?_
      refine ww_S3_pi kv_X8_83 cx ⟨Nat.le_of_ble_eq_true rfl, Nat.le_of_ble_eq_true rfl⟩ (Nat.le_of_ble_eq_true rfl) dX8_number_36 (kX8_in G) hF (fun r5 hF => ?_)
      refine ww_if_ne cx dX8_number_39 (tgt := 47) rfl hF (fun hF => ?_) (fun hF => ?_)
      · exact ww_sub [0] rfl (hb47 _ hF)
      · refine ww_aload_n cx dX8_number_42 rfl 0 rfl ?_
        refine ww_iconst cx dX8_number_43 ic_2 ?_
        refine ww_V1_sv kv_X8_157 rfl cx sh_62 ⟨Nat.le_of_ble_eq_true rfl, Nat.le_of_ble_eq_true rfl⟩ (Nat.le_of_ble_eq_true rfl) dX8_number_44 (kX8_errs G) hF (fun σ6 hF => ?_)
        exact ww_sub [0] rfl (hb47 _ hF)
  unfold fX8_number at hF
  show WW G X 4 σ [(0, .ref (gad G 62)), (1, .int a1), (2, .int a2)] 0 []
  refine ww_aload_n cx dX8_number_0 rfl 0 rfl ?_
  refine ww_V0_pi kv_X8_134 rfl cx sh_62 ⟨Nat.le_of_ble_eq_true rfl, Nat.le_of_ble_eq_true rfl⟩ (Nat.le_of_ble_eq_true rfl) dX8_number_1 (kX8_good G) hF (fun r7 hF => ?_)
  refine ww_if_eq cx dX8_number_4 (tgt := 20) rfl hF (fun hF => ?_) (fun hF => ?_)
  · exact hb20 _ _ _ hF
  · refine ww_aload_n cx dX8_number_7 rfl 0 rfl ?_
    refine gf_X8_111 cx dX8_number_8 ?_
    refine ww_iconst cx dX8_number_11 ic_2 ?_
    refine ww_icmp_eq cx dX8_number_12 (tgt := 20) rfl hF (fun hF => ?_) (fun hF => ?_)
    · exact hb20 _ _ _ hF
    · refine ww_aload_n cx dX8_number_15 rfl 0 rfl ?_
      refine ww_iconst cx dX8_number_16 ic_1 ?_
      refine ww_V1_sv kv_X8_157 rfl cx sh_62 ⟨Nat.le_of_ble_eq_true rfl, Nat.le_of_ble_eq_true rfl⟩ (Nat.le_of_ble_eq_true rfl) dX8_number_17 (kX8_errs G) hF (fun σ8 hF => ?_)
      exact hb20 _ _ _ hF
theorem dX8_outcome_0 : decode cX8_outcome 0 = .ok (.aload_n 0, 1) := by decide +kernel
theorem dX8_outcome_1 : decode cX8_outcome 1 = .ok (.iload_n 1, 1) := by decide +kernel
theorem dX8_outcome_2 : decode cX8_outcome 2 = .ok (.i2l, 1) := by decide +kernel
theorem dX8_outcome_3 : decode cX8_outcome 3 = .ok (.invokevirtual 269, 3) := by decide +kernel
theorem dX8_outcome_6 : decode cX8_outcome 6 = .ok (.ifCond .eq 13, 3) := by decide +kernel
theorem dX8_outcome_9 : decode cX8_outcome 9 = .ok (.iload_n 2, 1) := by decide +kernel
theorem dX8_outcome_10 : decode cX8_outcome 10 = .ok (.i2l, 1) := by decide +kernel
theorem dX8_outcome_11 : decode cX8_outcome 11 = .ok (.lconst 0, 1) := by decide +kernel
theorem dX8_outcome_12 : decode cX8_outcome 12 = .ok (.lconst 1, 1) := by decide +kernel
theorem dX8_outcome_13 : decode cX8_outcome 13 = .ok (.invokestatic 83, 3) := by decide +kernel
theorem dX8_outcome_16 : decode cX8_outcome 16 = .ok (.ifCond .ne 6, 3) := by decide +kernel
theorem dX8_outcome_19 : decode cX8_outcome 19 = .ok (.bipush (-2), 2) := by decide +kernel
theorem dX8_outcome_21 : decode cX8_outcome 21 = .ok (.ireturn, 1) := by decide +kernel
theorem dX8_outcome_22 : decode cX8_outcome 22 = .ok (.aload_n 0, 1) := by decide +kernel
theorem dX8_outcome_23 : decode cX8_outcome 23 = .ok (.iload_n 1, 1) := by decide +kernel
theorem dX8_outcome_24 : decode cX8_outcome 24 = .ok (.iload_n 2, 1) := by decide +kernel
theorem dX8_outcome_25 : decode cX8_outcome 25 = .ok (.invokevirtual 393, 3) := by decide +kernel
theorem dX8_outcome_28 : decode cX8_outcome 28 = .ok (.iconst 0, 1) := by decide +kernel
theorem dX8_outcome_29 : decode cX8_outcome 29 = .ok (.istore_n 3, 1) := by decide +kernel
theorem dX8_outcome_30 : decode cX8_outcome 30 = .ok (.iconst 0, 1) := by decide +kernel
theorem dX8_outcome_31 : decode cX8_outcome 31 = .ok (.istore 4, 2) := by decide +kernel
theorem dX8_outcome_33 : decode cX8_outcome 33 = .ok (.iload 4, 2) := by decide +kernel
theorem dX8_outcome_35 : decode cX8_outcome 35 = .ok (.aload_n 0, 1) := by decide +kernel
theorem dX8_outcome_36 : decode cX8_outcome 36 = .ok (.getfield 9, 3) := by decide +kernel
theorem dX8_outcome_39 : decode cX8_outcome 39 = .ok (.iconst 0, 1) := by decide +kernel
theorem dX8_outcome_40 : decode cX8_outcome 40 = .ok (.iaload, 1) := by decide +kernel
theorem dX8_outcome_41 : decode cX8_outcome 41 = .ok (.if_icmp .ge 80, 3) := by decide +kernel
theorem dX8_outcome_44 : decode cX8_outcome 44 = .ok (.iload 4, 2) := by decide +kernel
theorem dX8_outcome_46 : decode cX8_outcome 46 = .ok (.iconst 2, 1) := by decide +kernel
theorem dX8_outcome_47 : decode cX8_outcome 47 = .ok (.irem, 1) := by decide +kernel
theorem dX8_outcome_48 : decode cX8_outcome 48 = .ok (.iload_n 2, 1) := by decide +kernel
theorem dX8_outcome_49 : decode cX8_outcome 49 = .ok (.if_icmp .ne 7, 3) := by decide +kernel
theorem dX8_outcome_52 : decode cX8_outcome 52 = .ok (.iconst 1, 1) := by decide +kernel
theorem dX8_outcome_53 : decode cX8_outcome 53 = .ok (.goto 4, 3) := by decide +kernel
theorem dX8_outcome_56 : decode cX8_outcome 56 = .ok (.iconst 0, 1) := by decide +kernel
theorem dX8_outcome_57 : decode cX8_outcome 57 = .ok (.istore 5, 2) := by decide +kernel
theorem dX8_outcome_59 : decode cX8_outcome 59 = .ok (.aload_n 0, 1) := by decide +kernel
theorem dX8_outcome_60 : decode cX8_outcome 60 = .ok (.getfield 43, 3) := by decide +kernel
theorem dX8_outcome_63 : decode cX8_outcome 63 = .ok (.iconst 2, 1) := by decide +kernel
theorem dX8_outcome_64 : decode cX8_outcome 64 = .ok (.iload 4, 2) := by decide +kernel
theorem dX8_outcome_66 : decode cX8_outcome 66 = .ok (.ishl, 1) := by decide +kernel
theorem dX8_outcome_67 : decode cX8_outcome 67 = .ok (.iload_n 3, 1) := by decide +kernel
theorem dX8_outcome_68 : decode cX8_outcome 68 = .ok (.iadd, 1) := by decide +kernel
theorem dX8_outcome_69 : decode cX8_outcome 69 = .ok (.baload, 1) := by decide +kernel
theorem dX8_outcome_70 : decode cX8_outcome 70 = .ok (.istore 6, 2) := by decide +kernel
theorem dX8_outcome_72 : decode cX8_outcome 72 = .ok (.aload_n 0, 1) := by decide +kernel
theorem dX8_outcome_73 : decode cX8_outcome 73 = .ok (.getfield 43, 3) := by decide +kernel
theorem dX8_outcome_76 : decode cX8_outcome 76 = .ok (.iconst 2, 1) := by decide +kernel
theorem dX8_outcome_77 : decode cX8_outcome 77 = .ok (.iload 4, 2) := by decide +kernel
theorem dX8_outcome_79 : decode cX8_outcome 79 = .ok (.ishl, 1) := by decide +kernel
theorem dX8_outcome_80 : decode cX8_outcome 80 = .ok (.iload_n 3, 1) := by decide +kernel
theorem dX8_outcome_81 : decode cX8_outcome 81 = .ok (.iconst 1, 1) := by decide +kernel
theorem dX8_outcome_82 : decode cX8_outcome 82 = .ok (.iload 4, 2) := by decide +kernel
theorem dX8_outcome_84 : decode cX8_outcome 84 = .ok (.ishl, 1) := by decide +kernel
theorem dX8_outcome_85 : decode cX8_outcome 85 = .ok (.ior, 1) := by decide +kernel
theorem dX8_outcome_86 : decode cX8_outcome 86 = .ok (.iadd, 1) := by decide +kernel
theorem dX8_outcome_87 : decode cX8_outcome 87 = .ok (.baload, 1) := by decide +kernel
theorem dX8_outcome_88 : decode cX8_outcome 88 = .ok (.istore 7, 2) := by decide +kernel
theorem dX8_outcome_90 : decode cX8_outcome 90 = .ok (.iload_n 3, 1) := by decide +kernel
theorem dX8_outcome_91 : decode cX8_outcome 91 = .ok (.iload 6, 2) := by decide +kernel
theorem dX8_outcome_93 : decode cX8_outcome 93 = .ok (.iload 7, 2) := by decide +kernel
theorem dX8_outcome_95 : decode cX8_outcome 95 = .ok (.if_icmp .eq 17, 3) := by decide +kernel
theorem dX8_outcome_98 : decode cX8_outcome 98 = .ok (.iload 7, 2) := by decide +kernel
theorem dX8_outcome_100 : decode cX8_outcome 100 = .ok (.iload 5, 2) := by decide +kernel
theorem dX8_outcome_102 : decode cX8_outcome 102 = .ok (.if_icmp .ne 10, 3) := by decide +kernel
theorem dX8_outcome_105 : decode cX8_outcome 105 = .ok (.iconst 1, 1) := by decide +kernel
theorem dX8_outcome_106 : decode cX8_outcome 106 = .ok (.iload 4, 2) := by decide +kernel
theorem dX8_outcome_108 : decode cX8_outcome 108 = .ok (.ishl, 1) := by decide +kernel
theorem dX8_outcome_109 : decode cX8_outcome 109 = .ok (.goto 4, 3) := by decide +kernel
theorem dX8_outcome_112 : decode cX8_outcome 112 = .ok (.iconst 0, 1) := by decide +kernel
theorem dX8_outcome_113 : decode cX8_outcome 113 = .ok (.ior, 1) := by decide +kernel
theorem dX8_outcome_114 : decode cX8_outcome 114 = .ok (.istore_n 3, 1) := by decide +kernel
theorem dX8_outcome_115 : decode cX8_outcome 115 = .ok (.iinc 4 1, 3) := by decide +kernel
theorem dX8_outcome_118 : decode cX8_outcome 118 = .ok (.goto (-85), 3) := by decide +kernel
theorem dX8_outcome_121 : decode cX8_outcome 121 = .ok (.iload_n 3, 1) := by decide +kernel
theorem dX8_outcome_122 : decode cX8_outcome 122 = .ok (.ireturn, 1) := by decide +kernel
set_option maxRecDepth 4000 in
theorem kX8_outcome (G : GT) {σ : St} {a1 : Int32} {a2 : Int32} : ∀ (r : Int32) (σo : St) , fX8_outcome σ a1 a2 = some (r, σo) → MCt G 3 yX8_outcome cX8_outcome 8 (some .int) [.ref (gad G 62), .int a1, .int a2] σ (some (.int r)) σo := by
  intro r σo hF
  refine met_i (by decide) (Nat.le_of_ble_eq_true rfl) (fun X cx hE => ?_)
  have cx : Cx G X RX8 cX8_outcome 8 3 := cx
  have hb113 : ∀ (kr33 : St → Int32 → Int32 → Int32 → Option (Int32 × St)), (∀ (σ : St) (x2 : Int32) (x3 : Int32) (x4 : Int32) , kr33 σ x2 x3 x4 = some (r, σo) → WW G X 8 σ [(0, .ref (gad G 62)), (2, .int x2), (3, .int x3), (4, .int x4)] 33 []) → ∀ (σ : St) (x2 : Int32) (x4 : Int32) (y0 : Int32) (y1 : Int32) , fX8_outcome_b113 kr33 σ x2 x4 y0 y1 = some (r, σo) → WW G X 8 σ [(0, .ref (gad G 62)), (2, .int x2), (4, .int x4)] 113 [.int y1, .int y0] := by
    intro kr33 hk33
    intro σ x2 x4 y0 y1 hF
    unfold fX8_outcome_b113 at hF
    refine ww_ior cx dX8_outcome_113 ?_
    refine ww_istore_n (ks := [0, 1, 2, 3]) (lv' := fun v1 => [(3, .int v1), (0, .ref (gad G 62)), (2, .int x2), (4, .int x4)]) cx dX8_outcome_114 rfl (by decide) hF (fun _ => rfl) (fun v1 hF => ?_)
    refine ww_iinc (j := 3) (ks := [0, 1, 2, 3]) (lv' := fun v2 => [(4, .int v2), (3, .int v1), (0, .ref (gad G 62)), (2, .int x2)]) cx dX8_outcome_115 (by decide) rfl ic_1 hF (fun _ => rfl) (fun v2 hF => ?_)
    refine ww_goto cx dX8_outcome_118 (tgt := 33) rfl ?_
    exact ww_sub [2, 3, 1, 0] rfl (hk33 _ _ _ _ hF)
  have hb112 : ∀ (kr33 : St → Int32 → Int32 → Int32 → Option (Int32 × St)), (∀ (σ : St) (x2 : Int32) (x3 : Int32) (x4 : Int32) , kr33 σ x2 x3 x4 = some (r, σo) → WW G X 8 σ [(0, .ref (gad G 62)), (2, .int x2), (3, .int x3), (4, .int x4)] 33 []) → ∀ (σ : St) (x2 : Int32) (x4 : Int32) (y0 : Int32) , fX8_outcome_b112 kr33 σ x2 x4 y0 = some (r, σo) → WW G X 8 σ [(0, .ref (gad G 62)), (2, .int x2), (4, .int x4)] 112 [.int y0] := by
    intro kr33 hk33
    intro σ x2 x4 y0 hF
    unfold fX8_outcome_b112 at hF
    refine ww_iconst cx dX8_outcome_112 ic_0 ?_
    exact hb113 _ hk33 _ _ _ _ _ hF
  have hb57 : ∀ (kr33 : St → Int32 → Int32 → Int32 → Option (Int32 × St)), (∀ (σ : St) (x2 : Int32) (x3 : Int32) (x4 : Int32) , kr33 σ x2 x3 x4 = some (r, σo) → WW G X 8 σ [(0, .ref (gad G 62)), (2, .int x2), (3, .int x3), (4, .int x4)] 33 []) → ∀ (σ : St) (x2 : Int32) (x3 : Int32) (x4 : Int32) (y0 : Int32) , fX8_outcome_b57 kr33 σ x2 x3 x4 y0 = some (r, σo) → WW G X 8 σ [(0, .ref (gad G 62)), (2, .int x2), (3, .int x3), (4, .int x4)] 57 [.int y0] := by
    intro kr33 hk33
    intro σ x2 x3 x4 y0 hF
    unfold fX8_outcome_b57 at hF
    refine ww_istore (ks := [0, 1, 2, 3, 4]) (lv' := fun v3 => [(5, .int v3), (0, .ref (gad G 62)), (2, .int x2), (3, .int x3), (4, .int x4)]) cx dX8_outcome_57 (by decide) hF (fun _ => rfl) (fun v3 hF => ?_)
    refine ww_aload_n cx dX8_outcome_59 rfl 1 rfl ?_
    refine gf_X8_43 cx dX8_outcome_60 ?_
    refine ww_iconst cx dX8_outcome_63 ic_2 ?_
    refine ww_iload cx dX8_outcome_64 4 rfl ?_
    refine ww_ishl cx dX8_outcome_66 ?_
    refine ww_iload_n cx dX8_outcome_67 rfl 3 rfl ?_
    refine ww_iadd cx dX8_outcome_68 ?_
    refine ww_zald (N := 32) cx (sh_72) dX8_outcome_69 hF (fun hF => ?_)
    refine ww_istore (ks := [0, 1, 2, 3, 4, 5]) (lv' := fun v4 => [(6, .int v4), (5, .int v3), (0, .ref (gad G 62)), (2, .int x2), (3, .int x3), (4, .int x4)]) cx dX8_outcome_70 (by decide) hF (fun _ => rfl) (fun v4 hF => ?_)
    refine ww_aload_n cx dX8_outcome_72 rfl 2 rfl ?_
    refine gf_X8_43 cx dX8_outcome_73 ?_
    refine ww_iconst cx dX8_outcome_76 ic_2 ?_
    refine ww_iload cx dX8_outcome_77 5 rfl ?_
    refine ww_ishl cx dX8_outcome_79 ?_
    refine ww_iload_n cx dX8_outcome_80 rfl 4 rfl ?_
    refine ww_iconst cx dX8_outcome_81 ic_1 ?_
    refine ww_iload cx dX8_outcome_82 5 rfl ?_
    refine ww_ishl cx dX8_outcome_84 ?_
    refine ww_ior cx dX8_outcome_85 ?_
    refine ww_iadd cx dX8_outcome_86 ?_
    refine ww_zald (N := 32) cx (sh_72) dX8_outcome_87 hF (fun hF => ?_)
    refine ww_istore (ks := [0, 1, 2, 3, 4, 5, 6]) (lv' := fun v5 => [(7, .int v5), (6, .int v4), (5, .int v3), (0, .ref (gad G 62)), (2, .int x2), (3, .int x3), (4, .int x4)]) cx dX8_outcome_88 (by decide) hF (fun _ => rfl) (fun v5 hF => ?_)
    refine ww_iload_n cx dX8_outcome_90 rfl 5 rfl ?_
    refine ww_iload cx dX8_outcome_91 1 rfl ?_
    refine ww_iload cx dX8_outcome_93 0 rfl ?_
    refine ww_icmp_eq cx dX8_outcome_95 (tgt := 112) rfl hF (fun hF => ?_) (fun hF => ?_)
    · exact ww_sub [3, 4, 6] rfl (hb112 _ hk33 _ _ _ _ hF)
    · refine ww_iload cx dX8_outcome_98 0 rfl ?_
      refine ww_iload cx dX8_outcome_100 2 rfl ?_
      refine ww_icmp_ne cx dX8_outcome_102 (tgt := 112) rfl hF (fun hF => ?_) (fun hF => ?_)
      · exact ww_sub [3, 4, 6] rfl (hb112 _ hk33 _ _ _ _ hF)
      · refine ww_iconst cx dX8_outcome_105 ic_1 ?_
        refine ww_iload cx dX8_outcome_106 6 rfl ?_
        refine ww_ishl cx dX8_outcome_108 ?_
        refine ww_goto cx dX8_outcome_109 (tgt := 113) rfl ?_
        exact ww_sub [3, 4, 6] rfl (hb113 _ hk33 _ _ _ _ _ hF)
  have hl33 : ∀ n : Nat, ∀ (σ : St) (x2 : Int32) (x3 : Int32) (x4 : Int32) , fX8_outcome_l33 n σ x2 x3 x4 = some (r, σo) → WW G X 8 σ [(0, .ref (gad G 62)), (2, .int x2), (3, .int x3), (4, .int x4)] 33 [] := by
    intro n
    induction n with
    | zero =>
      intro σ x2 x3 x4 hF
      exact absurd hF (by intro z; cases z)
    | succ n ih =>
      intro σ x2 x3 x4 hF
      have hk33 := ih
      have hF : fX8_outcome_B33 (fX8_outcome_l33 n) σ x2 x3 x4 = some (r, σo) := hF
      unfold fX8_outcome_B33 at hF
      refine ww_iload cx dX8_outcome_33 3 rfl ?_
      refine ww_aload_n cx dX8_outcome_35 rfl 0 rfl ?_
      refine gf_X8_9 cx dX8_outcome_36 ?_
      refine ww_iconst cx dX8_outcome_39 ic_0 ?_
      refine ww_iald (N := 77) cx (sh_63) dX8_outcome_40 hF (fun hF => ?_)
      refine ww_icmp_ge cx dX8_outcome_41 (tgt := 121) rfl hF (fun hF => ?_) (fun hF => ?_)
      · refine ww_iload_n cx dX8_outcome_121 rfl 2 rfl ?_
        exact ww_ris hE dX8_outcome_122 hF
      · refine ww_iload cx dX8_outcome_44 3 rfl ?_
        refine ww_iconst cx dX8_outcome_46 ic_2 ?_
        refine ww_irem cx dX8_outcome_47 hF (fun hF => ?_)
        refine ww_iload_n cx dX8_outcome_48 rfl 1 rfl ?_
        refine ww_icmp_ne cx dX8_outcome_49 (tgt := 56) rfl hF (fun hF => ?_) (fun hF => ?_)
        · refine ww_iconst cx dX8_outcome_56 ic_0 ?_
          exact hb57 _ hk33 _ _ _ _ _ hF
        · refine ww_iconst cx dX8_outcome_52 ic_1 ?_
          refine ww_goto cx dX8_outcome_53 (tgt := 57) rfl ?_
          exact hb57 _ hk33 _ _ _ _ _ hF
  unfold fX8_outcome at hF
  show WW G X 8 σ [(0, .ref (gad G 62)), (1, .int a1), (2, .int a2)] 0 []
  refine ww_aload_n cx dX8_outcome_0 rfl 0 rfl ?_
  refine ww_iload_n cx dX8_outcome_1 rfl 1 rfl ?_
  refine ww_i2l cx dX8_outcome_2 ?_
  refine ww_V1_pi kv_X8_269 rfl cx sh_62 ⟨Nat.le_of_ble_eq_true rfl, Nat.le_of_ble_eq_true rfl⟩ (Nat.le_of_ble_eq_true rfl) dX8_outcome_3 (kX8_isClaim G) hF (fun r6 hF => ?_)
  refine ww_if_eq cx dX8_outcome_6 (tgt := 19) rfl hF (fun hF => ?_) (fun hF => ?_)
  · refine ww_bipush cx dX8_outcome_19 bc_m2 ?_
    exact ww_ris hE dX8_outcome_21 hF
  · refine ww_iload_n cx dX8_outcome_9 rfl 2 rfl ?_
    refine ww_i2l cx dX8_outcome_10 ?_
    refine ww_lconst cx dX8_outcome_11 lc_0 ?_
    refine ww_lconst cx dX8_outcome_12 lc_1 ?_
    refine ww_S3_pi kv_X8_83 cx ⟨Nat.le_of_ble_eq_true rfl, Nat.le_of_ble_eq_true rfl⟩ (Nat.le_of_ble_eq_true rfl) dX8_outcome_13 (kX8_in G) hF (fun r7 hF => ?_)
    refine ww_if_ne cx dX8_outcome_16 (tgt := 22) rfl hF (fun hF => ?_) (fun hF => ?_)
    · refine ww_aload_n cx dX8_outcome_22 rfl 0 rfl ?_
      refine ww_iload_n cx dX8_outcome_23 rfl 1 rfl ?_
      refine ww_iload_n cx dX8_outcome_24 rfl 2 rfl ?_
      refine ww_V2_sv kv_X8_393 rfl cx sh_62 ⟨Nat.le_of_ble_eq_true rfl, Nat.le_of_ble_eq_true rfl⟩ (Nat.le_of_ble_eq_true rfl) dX8_outcome_25 (kX8_fillDoubt G) hF (fun σ8 hF => ?_)
      refine ww_iconst cx dX8_outcome_28 ic_0 ?_
      refine ww_istore_n (ks := [0, 1, 3]) (lv' := fun v9 => [(3, .int v9), (0, .ref (gad G 62)), (2, .int a2)]) cx dX8_outcome_29 rfl (by decide) hF (fun _ => rfl) (fun v9 hF => ?_)
      refine ww_iconst cx dX8_outcome_30 ic_0 ?_
      refine ww_istore (ks := [0, 1, 2, 3]) (lv' := fun v10 => [(4, .int v10), (3, .int v9), (0, .ref (gad G 62)), (2, .int a2)]) cx dX8_outcome_31 (by decide) hF (fun _ => rfl) (fun v10 hF => ?_)
      exact ww_sub [2, 3, 1, 0] rfl (hl33 FU _ _ _ _ hF)
    · refine ww_bipush cx dX8_outcome_19 bc_m2 ?_
      exact ww_ris hE dX8_outcome_21 hF
