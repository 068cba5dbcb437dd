theorem dX8_readClaim_0 : decode cX8_readClaim 0 = .ok (.bipush 7, 2) := by decide +kernel
theorem dX8_readClaim_2 : decode cX8_readClaim 2 = .ok (.iconst 3, 1) := by decide +kernel
theorem dX8_readClaim_3 : decode cX8_readClaim 3 = .ok (.aload_n 0, 1) := by decide +kernel
theorem dX8_readClaim_4 : decode cX8_readClaim 4 = .ok (.getfield 31, 3) := by decide +kernel
theorem dX8_readClaim_7 : decode cX8_readClaim 7 = .ok (.iconst 3, 1) := by decide +kernel
theorem dX8_readClaim_8 : decode cX8_readClaim 8 = .ok (.iaload, 1) := by decide +kernel
theorem dX8_readClaim_9 : decode cX8_readClaim 9 = .ok (.imul, 1) := by decide +kernel
theorem dX8_readClaim_10 : decode cX8_readClaim 10 = .ok (.iadd, 1) := by decide +kernel
theorem dX8_readClaim_11 : decode cX8_readClaim 11 = .ok (.istore_n 1, 1) := by decide +kernel
theorem dX8_readClaim_12 : decode cX8_readClaim 12 = .ok (.aload_n 0, 1) := by decide +kernel
theorem dX8_readClaim_13 : decode cX8_readClaim 13 = .ok (.ldc 199, 2) := by decide +kernel
theorem dX8_readClaim_15 : decode cX8_readClaim 15 = .ok (.iconst 0, 1) := by decide +kernel
theorem dX8_readClaim_16 : decode cX8_readClaim 16 = .ok (.bipush 99, 2) := by decide +kernel
theorem dX8_readClaim_18 : decode cX8_readClaim 18 = .ok (.invokevirtual 201, 3) := by decide +kernel
theorem dX8_readClaim_21 : decode cX8_readClaim 21 = .ok (.istore_n 2, 1) := by decide +kernel
theorem dX8_readClaim_22 : decode cX8_readClaim 22 = .ok (.aload_n 0, 1) := by decide +kernel
theorem dX8_readClaim_23 : decode cX8_readClaim 23 = .ok (.invokevirtual 205, 3) := by decide +kernel
theorem dX8_readClaim_26 : decode cX8_readClaim 26 = .ok (.istore_n 3, 1) := by decide +kernel
theorem dX8_readClaim_27 : decode cX8_readClaim 27 = .ok (.aload_n 0, 1) := by decide +kernel
theorem dX8_readClaim_28 : decode cX8_readClaim 28 = .ok (.invokevirtual 134, 3) := by decide +kernel
theorem dX8_readClaim_31 : decode cX8_readClaim 31 = .ok (.ifCond .ne 4, 3) := by decide +kernel
theorem dX8_readClaim_34 : decode cX8_readClaim 34 = .ok (.return_, 1) := by decide +kernel
theorem dX8_readClaim_35 : decode cX8_readClaim 35 = .ok (.aload_n 0, 1) := by decide +kernel
theorem dX8_readClaim_36 : decode cX8_readClaim 36 = .ok (.getfield 31, 3) := by decide +kernel
theorem dX8_readClaim_39 : decode cX8_readClaim 39 = .ok (.iload_n 1, 1) := by decide +kernel
theorem dX8_readClaim_40 : decode cX8_readClaim 40 = .ok (.iconst 0, 1) := by decide +kernel
theorem dX8_readClaim_41 : decode cX8_readClaim 41 = .ok (.iadd, 1) := by decide +kernel
theorem dX8_readClaim_42 : decode cX8_readClaim 42 = .ok (.iload_n 2, 1) := by decide +kernel
theorem dX8_readClaim_43 : decode cX8_readClaim 43 = .ok (.iastore, 1) := by decide +kernel
theorem dX8_readClaim_44 : decode cX8_readClaim 44 = .ok (.aload_n 0, 1) := by decide +kernel
theorem dX8_readClaim_45 : decode cX8_readClaim 45 = .ok (.getfield 31, 3) := by decide +kernel
theorem dX8_readClaim_48 : decode cX8_readClaim 48 = .ok (.iload_n 1, 1) := by decide +kernel
theorem dX8_readClaim_49 : decode cX8_readClaim 49 = .ok (.iconst 1, 1) := by decide +kernel
theorem dX8_readClaim_50 : decode cX8_readClaim 50 = .ok (.iadd, 1) := by decide +kernel
theorem dX8_readClaim_51 : decode cX8_readClaim 51 = .ok (.iconst 0, 1) := by decide +kernel
theorem dX8_readClaim_52 : decode cX8_readClaim 52 = .ok (.iastore, 1) := by decide +kernel
theorem dX8_readClaim_53 : decode cX8_readClaim 53 = .ok (.aload_n 0, 1) := by decide +kernel
theorem dX8_readClaim_54 : decode cX8_readClaim 54 = .ok (.getfield 31, 3) := by decide +kernel
theorem dX8_readClaim_57 : decode cX8_readClaim 57 = .ok (.iload_n 1, 1) := by decide +kernel
theorem dX8_readClaim_58 : decode cX8_readClaim 58 = .ok (.iconst 2, 1) := by decide +kernel
theorem dX8_readClaim_59 : decode cX8_readClaim 59 = .ok (.iadd, 1) := by decide +kernel
theorem dX8_readClaim_60 : decode cX8_readClaim 60 = .ok (.iload_n 3, 1) := by decide +kernel
theorem dX8_readClaim_61 : decode cX8_readClaim 61 = .ok (.iastore, 1) := by decide +kernel
theorem dX8_readClaim_62 : decode cX8_readClaim 62 = .ok (.aload_n 0, 1) := by decide +kernel
theorem dX8_readClaim_63 : decode cX8_readClaim 63 = .ok (.getfield 31, 3) := by decide +kernel
theorem dX8_readClaim_66 : decode cX8_readClaim 66 = .ok (.iconst 3, 1) := by decide +kernel
theorem dX8_readClaim_67 : decode cX8_readClaim 67 = .ok (.dup2, 1) := by decide +kernel
theorem dX8_readClaim_68 : decode cX8_readClaim 68 = .ok (.iaload, 1) := by decide +kernel
theorem dX8_readClaim_69 : decode cX8_readClaim 69 = .ok (.iconst 1, 1) := by decide +kernel
theorem dX8_readClaim_70 : decode cX8_readClaim 70 = .ok (.iadd, 1) := by decide +kernel
theorem dX8_readClaim_71 : decode cX8_readClaim 71 = .ok (.iastore, 1) := by decide +kernel
theorem dX8_readClaim_72 : decode cX8_readClaim 72 = .ok (.return_, 1) := by decide +kernel
set_option maxRecDepth 4000 in
theorem kX8_readClaim (G : GT) {σ : St} : ∀ (σo : St) , fX8_readClaim σ = some σo → MCt G 9 yX8_readClaim cX8_readClaim 4 (none) [.ref (gad G 62)] σ (none) σo := by
  intro σo hF
  refine met_v (by decide) (Nat.le_of_ble_eq_true rfl) (fun X cx hE => ?_)
  have cx : Cx G X RX8 cX8_readClaim 4 9 := cx
  unfold fX8_readClaim at hF
  show WW G X 4 σ [(0, .ref (gad G 62))] 0 []
  refine ww_bipush cx dX8_readClaim_0 bc_7 ?_
  refine ww_iconst cx dX8_readClaim_2 ic_3 ?_
  refine ww_aload_n cx dX8_readClaim_3 rfl 0 rfl ?_
  refine gf_X8_31 cx dX8_readClaim_4 ?_
  refine ww_iconst cx dX8_readClaim_7 ic_3 ?_
  refine ww_iald (N := 77) cx (sh_68) dX8_readClaim_8 hF (fun hF => ?_)
  refine ww_imul cx dX8_readClaim_9 ?_
  refine ww_iadd cx dX8_readClaim_10 ?_
  refine ww_istore_n (ks := [0, 1]) (lv' := fun v1 => [(1, .int v1), (0, .ref (gad G 62))]) cx dX8_readClaim_11 rfl (by decide) hF (fun _ => rfl) (fun v1 hF => ?_)
  refine ww_aload_n cx dX8_readClaim_12 rfl 1 rfl ?_
  refine ww_ldcS (w := 5) (tx := "worth") cx (by decide +kernel) dX8_readClaim_13 ?_
  refine ww_iconst cx dX8_readClaim_15 ic_0 ?_
  refine ww_bipush cx dX8_readClaim_16 bc_99 ?_
  refine ww_V3_si kv_X8_201 rfl cx sh_62 ⟨Nat.le_of_ble_eq_true rfl, Nat.le_of_ble_eq_true rfl⟩ (Nat.le_of_ble_eq_true rfl) dX8_readClaim_18 (kX8_told G (by decide)) hF (fun r2 σ3 hF => ?_)
  refine ww_istore_n (ks := [0, 1, 2]) (lv' := fun v4 => [(2, .int v4), (1, .int v1), (0, .ref (gad G 62))]) cx dX8_readClaim_21 rfl (by decide) hF (fun _ => rfl) (fun v4 hF => ?_)
  refine ww_aload_n cx dX8_readClaim_22 rfl 2 rfl ?_
  refine ww_V0_si kv_X8_205 rfl cx sh_62 ⟨Nat.le_of_ble_eq_true rfl, Nat.le_of_ble_eq_true rfl⟩ (Nat.le_of_ble_eq_true rfl) dX8_readClaim_23 (kX8_form G) hF (fun r5 σ6 hF => ?_)
  refine ww_istore_n (ks := [0, 1, 2, 3]) (lv' := fun v7 => [(3, .int v7), (2, .int v4), (1, .int v1), (0, .ref (gad G 62))]) cx dX8_readClaim_26 rfl (by decide) hF (fun _ => rfl) (fun v7 hF => ?_)
  refine ww_aload_n cx dX8_readClaim_27 rfl 3 rfl ?_
  refine ww_V0_pi kv_X8_134 rfl cx sh_62 ⟨Nat.le_of_ble_eq_true rfl, Nat.le_of_ble_eq_true rfl⟩ (Nat.le_of_ble_eq_true rfl) dX8_readClaim_28 (kX8_good G) hF (fun r8 hF => ?_)
  refine ww_if_ne cx dX8_readClaim_31 (tgt := 35) rfl hF (fun hF => ?_) (fun hF => ?_)
  · refine ww_aload_n cx dX8_readClaim_35 rfl 3 rfl ?_
    refine gf_X8_31 cx dX8_readClaim_36 ?_
    refine ww_iload_n cx dX8_readClaim_39 rfl 2 rfl ?_
    refine ww_iconst cx dX8_readClaim_40 ic_0 ?_
    refine ww_iadd cx dX8_readClaim_41 ?_
    refine ww_iload_n cx dX8_readClaim_42 rfl 1 rfl ?_
    refine ww_iast (N := 77) cx (sh_68) dX8_readClaim_43 hF (fun σ9 hF => ?_)
    refine ww_aload_n cx dX8_readClaim_44 rfl 3 rfl ?_
    refine gf_X8_31 cx dX8_readClaim_45 ?_
    refine ww_iload_n cx dX8_readClaim_48 rfl 2 rfl ?_
    refine ww_iconst cx dX8_readClaim_49 ic_1 ?_
    refine ww_iadd cx dX8_readClaim_50 ?_
    refine ww_iconst cx dX8_readClaim_51 ic_0 ?_
    refine ww_iast (N := 77) cx (sh_68) dX8_readClaim_52 hF (fun σ10 hF => ?_)
    refine ww_aload_n cx dX8_readClaim_53 rfl 3 rfl ?_
    refine gf_X8_31 cx dX8_readClaim_54 ?_
    refine ww_iload_n cx dX8_readClaim_57 rfl 2 rfl ?_
    refine ww_iconst cx dX8_readClaim_58 ic_2 ?_
    refine ww_iadd cx dX8_readClaim_59 ?_
    refine ww_iload_n cx dX8_readClaim_60 rfl 0 rfl ?_
    refine ww_iast (N := 77) cx (sh_68) dX8_readClaim_61 hF (fun σ11 hF => ?_)
    refine ww_aload_n cx dX8_readClaim_62 rfl 3 rfl ?_
    refine gf_X8_31 cx dX8_readClaim_63 ?_
    refine ww_iconst cx dX8_readClaim_66 ic_3 ?_
    refine ww_dup2 cx dX8_readClaim_67 rfl rfl ?_
    refine ww_iald (N := 77) cx (sh_68) dX8_readClaim_68 hF (fun hF => ?_)
    refine ww_iconst cx dX8_readClaim_69 ic_1 ?_
    refine ww_iadd cx dX8_readClaim_70 ?_
    refine ww_iast (N := 77) cx (sh_68) dX8_readClaim_71 hF (fun σ12 hF => ?_)
    exact ww_rvs hE dX8_readClaim_72 hF
  · exact ww_rvs hE dX8_readClaim_34 hF
theorem dX8_readGuest_0 : decode cX8_readGuest 0 = .ok (.bipush 67, 2) := by decide +kernel
theorem dX8_readGuest_2 : decode cX8_readGuest 2 = .ok (.iconst 2, 1) := by decide +kernel
theorem dX8_readGuest_3 : decode cX8_readGuest 3 = .ok (.aload_n 0, 1) := by decide +kernel
theorem dX8_readGuest_4 : decode cX8_readGuest 4 = .ok (.getfield 31, 3) := by decide +kernel
theorem dX8_readGuest_7 : decode cX8_readGuest 7 = .ok (.iconst 5, 1) := by decide +kernel
theorem dX8_readGuest_8 : decode cX8_readGuest 8 = .ok (.iaload, 1) := by decide +kernel
theorem dX8_readGuest_9 : decode cX8_readGuest 9 = .ok (.imul, 1) := by decide +kernel
theorem dX8_readGuest_10 : decode cX8_readGuest 10 = .ok (.iadd, 1) := by decide +kernel
theorem dX8_readGuest_11 : decode cX8_readGuest 11 = .ok (.istore_n 1, 1) := by decide +kernel
theorem dX8_readGuest_12 : decode cX8_readGuest 12 = .ok (.aload_n 0, 1) := by decide +kernel
theorem dX8_readGuest_13 : decode cX8_readGuest 13 = .ok (.ldc 216, 2) := by decide +kernel
theorem dX8_readGuest_15 : decode cX8_readGuest 15 = .ok (.iconst 1, 1) := by decide +kernel
theorem dX8_readGuest_16 : decode cX8_readGuest 16 = .ok (.bipush 9, 2) := by decide +kernel
theorem dX8_readGuest_18 : decode cX8_readGuest 18 = .ok (.invokevirtual 201, 3) := by decide +kernel
theorem dX8_readGuest_21 : decode cX8_readGuest 21 = .ok (.istore_n 2, 1) := by decide +kernel
theorem dX8_readGuest_22 : decode cX8_readGuest 22 = .ok (.aload_n 0, 1) := by decide +kernel
theorem dX8_readGuest_23 : decode cX8_readGuest 23 = .ok (.ldc 218, 2) := by decide +kernel
theorem dX8_readGuest_25 : decode cX8_readGuest 25 = .ok (.invokevirtual 161, 3) := by decide +kernel
theorem dX8_readGuest_28 : decode cX8_readGuest 28 = .ok (.iconst 0, 1) := by decide +kernel
theorem dX8_readGuest_29 : decode cX8_readGuest 29 = .ok (.istore_n 3, 1) := by decide +kernel
theorem dX8_readGuest_30 : decode cX8_readGuest 30 = .ok (.aload_n 0, 1) := by decide +kernel
theorem dX8_readGuest_31 : decode cX8_readGuest 31 = .ok (.iconst 0, 1) := by decide +kernel
theorem dX8_readGuest_32 : decode cX8_readGuest 32 = .ok (.aload_n 0, 1) := by decide +kernel
theorem dX8_readGuest_33 : decode cX8_readGuest 33 = .ok (.getfield 31, 3) := by decide +kernel
theorem dX8_readGuest_36 : decode cX8_readGuest 36 = .ok (.iconst 4, 1) := by decide +kernel
theorem dX8_readGuest_37 : decode cX8_readGuest 37 = .ok (.iaload, 1) := by decide +kernel
theorem dX8_readGuest_38 : decode cX8_readGuest 38 = .ok (.iconst 1, 1) := by decide +kernel
theorem dX8_readGuest_39 : decode cX8_readGuest 39 = .ok (.isub, 1) := by decide +kernel
theorem dX8_readGuest_40 : decode cX8_readGuest 40 = .ok (.invokevirtual 165, 3) := by decide +kernel
theorem dX8_readGuest_43 : decode cX8_readGuest 43 = .ok (.istore 4, 2) := by decide +kernel
theorem dX8_readGuest_45 : decode cX8_readGuest 45 = .ok (.aload_n 0, 1) := by decide +kernel
theorem dX8_readGuest_46 : decode cX8_readGuest 46 = .ok (.invokevirtual 134, 3) := by decide +kernel
theorem dX8_readGuest_49 : decode cX8_readGuest 49 = .ok (.ifCond .ne 4, 3) := by decide +kernel
theorem dX8_readGuest_52 : decode cX8_readGuest 52 = .ok (.return_, 1) := by decide +kernel
theorem dX8_readGuest_53 : decode cX8_readGuest 53 = .ok (.iload_n 3, 1) := by decide +kernel
theorem dX8_readGuest_54 : decode cX8_readGuest 54 = .ok (.iconst 1, 1) := by decide +kernel
theorem dX8_readGuest_55 : decode cX8_readGuest 55 = .ok (.iload 4, 2) := by decide +kernel
theorem dX8_readGuest_57 : decode cX8_readGuest 57 = .ok (.ishl, 1) := by decide +kernel
theorem dX8_readGuest_58 : decode cX8_readGuest 58 = .ok (.ior, 1) := by decide +kernel
theorem dX8_readGuest_59 : decode cX8_readGuest 59 = .ok (.istore_n 3, 1) := by decide +kernel
theorem dX8_readGuest_60 : decode cX8_readGuest 60 = .ok (.aload_n 0, 1) := by decide +kernel
theorem dX8_readGuest_61 : decode cX8_readGuest 61 = .ok (.getfield 111, 3) := by decide +kernel
theorem dX8_readGuest_64 : decode cX8_readGuest 64 = .ok (.iconst 3, 1) := by decide +kernel
theorem dX8_readGuest_65 : decode cX8_readGuest 65 = .ok (.if_icmp .ne (-35), 3) := by decide +kernel
theorem dX8_readGuest_68 : decode cX8_readGuest 68 = .ok (.aload_n 0, 1) := by decide +kernel
theorem dX8_readGuest_69 : decode cX8_readGuest 69 = .ok (.getfield 31, 3) := by decide +kernel
theorem dX8_readGuest_72 : decode cX8_readGuest 72 = .ok (.iload_n 1, 1) := by decide +kernel
theorem dX8_readGuest_73 : decode cX8_readGuest 73 = .ok (.iconst 0, 1) := by decide +kernel
theorem dX8_readGuest_74 : decode cX8_readGuest 74 = .ok (.iadd, 1) := by decide +kernel
theorem dX8_readGuest_75 : decode cX8_readGuest 75 = .ok (.iload_n 2, 1) := by decide +kernel
theorem dX8_readGuest_76 : decode cX8_readGuest 76 = .ok (.iastore, 1) := by decide +kernel
theorem dX8_readGuest_77 : decode cX8_readGuest 77 = .ok (.aload_n 0, 1) := by decide +kernel
theorem dX8_readGuest_78 : decode cX8_readGuest 78 = .ok (.getfield 31, 3) := by decide +kernel
theorem dX8_readGuest_81 : decode cX8_readGuest 81 = .ok (.iload_n 1, 1) := by decide +kernel
theorem dX8_readGuest_82 : decode cX8_readGuest 82 = .ok (.iconst 1, 1) := by decide +kernel
theorem dX8_readGuest_83 : decode cX8_readGuest 83 = .ok (.iadd, 1) := by decide +kernel
theorem dX8_readGuest_84 : decode cX8_readGuest 84 = .ok (.iload_n 3, 1) := by decide +kernel
theorem dX8_readGuest_85 : decode cX8_readGuest 85 = .ok (.iastore, 1) := by decide +kernel
theorem dX8_readGuest_86 : decode cX8_readGuest 86 = .ok (.aload_n 0, 1) := by decide +kernel
theorem dX8_readGuest_87 : decode cX8_readGuest 87 = .ok (.getfield 31, 3) := by decide +kernel
theorem dX8_readGuest_90 : decode cX8_readGuest 90 = .ok (.iconst 5, 1) := by decide +kernel
theorem dX8_readGuest_91 : decode cX8_readGuest 91 = .ok (.dup2, 1) := by decide +kernel
theorem dX8_readGuest_92 : decode cX8_readGuest 92 = .ok (.iaload, 1) := by decide +kernel
theorem dX8_readGuest_93 : decode cX8_readGuest 93 = .ok (.iconst 1, 1) := by decide +kernel
theorem dX8_readGuest_94 : decode cX8_readGuest 94 = .ok (.iadd, 1) := by decide +kernel
theorem dX8_readGuest_95 : decode cX8_readGuest 95 = .ok (.iastore, 1) := by decide +kernel
theorem dX8_readGuest_96 : decode cX8_readGuest 96 = .ok (.return_, 1) := by decide +kernel
set_option maxRecDepth 4000 in
theorem kX8_readGuest (G : GT) {σ : St} : ∀ (σo : St) , fX8_readGuest σ = some σo → MCt G 9 yX8_readGuest cX8_readGuest 5 (none) [.ref (gad G 62)] σ (none) σo := by
  intro σo hF
  refine met_v (by decide) (Nat.le_of_ble_eq_true rfl) (fun X cx hE => ?_)
  have cx : Cx G X RX8 cX8_readGuest 5 9 := cx
  have hl30 : ∀ n : Nat, ∀ (σ : St) (x1 : Int32) (x2 : Int32) (x3 : Int32) , fX8_readGuest_l30 n σ x1 x2 x3 = some σo → WW G X 5 σ [(0, .ref (gad G 62)), (1, .int x1), (2, .int x2), (3, .int x3)] 30 [] := by
    intro n
    induction n with
    | zero =>
      intro σ x1 x2 x3 hF
      exact absurd hF (by intro z; cases z)
    | succ n ih =>
      intro σ x1 x2 x3 hF
      have hk30 := ih
      have hF : fX8_readGuest_B30 (fX8_readGuest_l30 n) σ x1 x2 x3 = some σo := hF
      unfold fX8_readGuest_B30 at hF
      refine ww_aload_n cx dX8_readGuest_30 rfl 0 rfl ?_
      refine ww_iconst cx dX8_readGuest_31 ic_0 ?_
      refine ww_aload_n cx dX8_readGuest_32 rfl 0 rfl ?_
      refine gf_X8_31 cx dX8_readGuest_33 ?_
      refine ww_iconst cx dX8_readGuest_36 ic_4 ?_
      refine ww_iald (N := 77) cx (sh_68) dX8_readGuest_37 hF (fun hF => ?_)
      refine ww_iconst cx dX8_readGuest_38 ic_1 ?_
      refine ww_isub cx dX8_readGuest_39 ?_
      refine ww_V2_si kv_X8_165 rfl cx sh_62 ⟨Nat.le_of_ble_eq_true rfl, Nat.le_of_ble_eq_true rfl⟩ (Nat.le_of_ble_eq_true rfl) dX8_readGuest_40 (kX8_number G) hF (fun r1 σ2 hF => ?_)
      refine ww_istore (ks := [0, 1, 2, 3, 4]) (lv' := fun v3 => [(4, .int v3), (0, .ref (gad G 62)), (1, .int x1), (2, .int x2), (3, .int x3)]) cx dX8_readGuest_43 (by decide) hF (fun _ => rfl) (fun v3 hF => ?_)
      refine ww_aload_n cx dX8_readGuest_45 rfl 1 rfl ?_
      refine ww_V0_pi kv_X8_134 rfl cx sh_62 ⟨Nat.le_of_ble_eq_true rfl, Nat.le_of_ble_eq_true rfl⟩ (Nat.le_of_ble_eq_true rfl) dX8_readGuest_46 (kX8_good G) hF (fun r4 hF => ?_)
      refine ww_if_ne cx dX8_readGuest_49 (tgt := 53) rfl hF (fun hF => ?_) (fun hF => ?_)
      · refine ww_iload_n cx dX8_readGuest_53 rfl 4 rfl ?_
        refine ww_iconst cx dX8_readGuest_54 ic_1 ?_
        refine ww_iload cx dX8_readGuest_55 0 rfl ?_
        refine ww_ishl cx dX8_readGuest_57 ?_
        refine ww_ior cx dX8_readGuest_58 ?_
        refine ww_istore_n (ks := [0, 2, 3, 4]) (lv' := fun v5 => [(3, .int v5), (0, .ref (gad G 62)), (1, .int x1), (2, .int x2)]) cx dX8_readGuest_59 rfl (by decide) hF (fun _ => rfl) (fun v5 hF => ?_)
        refine ww_aload_n cx dX8_readGuest_60 rfl 1 rfl ?_
        refine gf_X8_111 cx dX8_readGuest_61 ?_
        refine ww_iconst cx dX8_readGuest_64 ic_3 ?_
        refine ww_icmp_ne cx dX8_readGuest_65 (tgt := 30) rfl hF (fun hF => ?_) (fun hF => ?_)
        · exact ww_sub [1, 2, 3, 0] rfl (hk30 _ _ _ _ hF)
        · refine ww_aload_n cx dX8_readGuest_68 rfl 1 rfl ?_
          refine gf_X8_31 cx dX8_readGuest_69 ?_
          refine ww_iload_n cx dX8_readGuest_72 rfl 2 rfl ?_
          refine ww_iconst cx dX8_readGuest_73 ic_0 ?_
          refine ww_iadd cx dX8_readGuest_74 ?_
          refine ww_iload_n cx dX8_readGuest_75 rfl 3 rfl ?_
          refine ww_iast (N := 77) cx (sh_68) dX8_readGuest_76 hF (fun σ6 hF => ?_)
          refine ww_aload_n cx dX8_readGuest_77 rfl 1 rfl ?_
          refine gf_X8_31 cx dX8_readGuest_78 ?_
          refine ww_iload_n cx dX8_readGuest_81 rfl 2 rfl ?_
          refine ww_iconst cx dX8_readGuest_82 ic_1 ?_
          refine ww_iadd cx dX8_readGuest_83 ?_
          refine ww_iload_n cx dX8_readGuest_84 rfl 0 rfl ?_
          refine ww_iast (N := 77) cx (sh_68) dX8_readGuest_85 hF (fun σ7 hF => ?_)
          refine ww_aload_n cx dX8_readGuest_86 rfl 1 rfl ?_
          refine gf_X8_31 cx dX8_readGuest_87 ?_
          refine ww_iconst cx dX8_readGuest_90 ic_5 ?_
          refine ww_dup2 cx dX8_readGuest_91 rfl rfl ?_
          refine ww_iald (N := 77) cx (sh_68) dX8_readGuest_92 hF (fun hF => ?_)
          refine ww_iconst cx dX8_readGuest_93 ic_1 ?_
          refine ww_iadd cx dX8_readGuest_94 ?_
          refine ww_iast (N := 77) cx (sh_68) dX8_readGuest_95 hF (fun σ8 hF => ?_)
          exact ww_rvs hE dX8_readGuest_96 hF
      · exact ww_rvs hE dX8_readGuest_52 hF
  unfold fX8_readGuest at hF
  show WW G X 5 σ [(0, .ref (gad G 62))] 0 []
  refine ww_bipush cx dX8_readGuest_0 bc_67 ?_
  refine ww_iconst cx dX8_readGuest_2 ic_2 ?_
  refine ww_aload_n cx dX8_readGuest_3 rfl 0 rfl ?_
  refine gf_X8_31 cx dX8_readGuest_4 ?_
  refine ww_iconst cx dX8_readGuest_7 ic_5 ?_
  refine ww_iald (N := 77) cx (sh_68) dX8_readGuest_8 hF (fun hF => ?_)
  refine ww_imul cx dX8_readGuest_9 ?_
  refine ww_iadd cx dX8_readGuest_10 ?_
  refine ww_istore_n (ks := [0, 1]) (lv' := fun v9 => [(1, .int v9), (0, .ref (gad G 62))]) cx dX8_readGuest_11 rfl (by decide) hF (fun _ => rfl) (fun v9 hF => ?_)
  refine ww_aload_n cx dX8_readGuest_12 rfl 1 rfl ?_
  refine ww_ldcS (w := 16) (tx := "speed") cx (by decide +kernel) dX8_readGuest_13 ?_
  refine ww_iconst cx dX8_readGuest_15 ic_1 ?_
  refine ww_bipush cx dX8_readGuest_16 bc_9 ?_
  refine ww_V3_si kv_X8_201 rfl cx sh_62 ⟨Nat.le_of_ble_eq_true rfl, Nat.le_of_ble_eq_true rfl⟩ (Nat.le_of_ble_eq_true rfl) dX8_readGuest_18 (kX8_told G (by decide)) hF (fun r10 σ11 hF => ?_)
  refine ww_istore_n (ks := [0, 1, 2]) (lv' := fun v12 => [(2, .int v12), (1, .int v9), (0, .ref (gad G 62))]) cx dX8_readGuest_21 rfl (by decide) hF (fun _ => rfl) (fun v12 hF => ?_)
  refine ww_aload_n cx dX8_readGuest_22 rfl 2 rfl ?_
  refine ww_ldcS (w := 17) (tx := "knows") cx (by decide +kernel) dX8_readGuest_23 ?_
  refine ww_V1_sv kv_X8_161 rfl cx sh_62 ⟨Nat.le_of_ble_eq_true rfl, Nat.le_of_ble_eq_true rfl⟩ (Nat.le_of_ble_eq_true rfl) dX8_readGuest_25 (kX8_needs G (by decide)) hF (fun σ13 hF => ?_)
  refine ww_iconst cx dX8_readGuest_28 ic_0 ?_
  refine ww_istore_n (ks := [0, 1, 2, 3]) (lv' := fun v14 => [(3, .int v14), (2, .int v12), (1, .int v9), (0, .ref (gad G 62))]) cx dX8_readGuest_29 rfl (by decide) hF (fun _ => rfl) (fun v14 hF => ?_)
  exact ww_sub [3, 2, 1, 0] rfl (hl30 FU _ _ _ _ hF)
theorem dX8_readNext_0 : decode cX8_readNext 0 = .ok (.aload_n 0, 1) := by decide +kernel
theorem dX8_readNext_1 : decode cX8_readNext 1 = .ok (.ldc 220, 2) := by decide +kernel
theorem dX8_readNext_3 : decode cX8_readNext 3 = .ok (.invokevirtual 147, 3) := by decide +kernel
theorem dX8_readNext_6 : decode cX8_readNext 6 = .ok (.ifCond .ne 30, 3) := by decide +kernel
theorem dX8_readNext_9 : decode cX8_readNext 9 = .ok (.aload_n 0, 1) := by decide +kernel
theorem dX8_readNext_10 : decode cX8_readNext 10 = .ok (.ldc 222, 2) := by decide +kernel
theorem dX8_readNext_12 : decode cX8_readNext 12 = .ok (.invokevirtual 147, 3) := by decide +kernel
theorem dX8_readNext_15 : decode cX8_readNext 15 = .ok (.ifCond .ne 21, 3) := by decide +kernel
theorem dX8_readNext_18 : decode cX8_readNext 18 = .ok (.aload_n 0, 1) := by decide +kernel
theorem dX8_readNext_19 : decode cX8_readNext 19 = .ok (.ldc 224, 2) := by decide +kernel
theorem dX8_readNext_21 : decode cX8_readNext 21 = .ok (.invokevirtual 147, 3) := by decide +kernel
theorem dX8_readNext_24 : decode cX8_readNext 24 = .ok (.ifCond .ne 12, 3) := by decide +kernel
theorem dX8_readNext_27 : decode cX8_readNext 27 = .ok (.aload_n 0, 1) := by decide +kernel
theorem dX8_readNext_28 : decode cX8_readNext 28 = .ok (.ldc 226, 2) := by decide +kernel
theorem dX8_readNext_30 : decode cX8_readNext 30 = .ok (.invokevirtual 147, 3) := by decide +kernel
theorem dX8_readNext_33 : decode cX8_readNext 33 = .ok (.ifCond .eq 7, 3) := by decide +kernel
theorem dX8_readNext_36 : decode cX8_readNext 36 = .ok (.iconst 1, 1) := by decide +kernel
theorem dX8_readNext_37 : decode cX8_readNext 37 = .ok (.goto 4, 3) := by decide +kernel
theorem dX8_readNext_40 : decode cX8_readNext 40 = .ok (.iconst 0, 1) := by decide +kernel
theorem dX8_readNext_41 : decode cX8_readNext 41 = .ok (.istore_n 1, 1) := by decide +kernel
theorem dX8_readNext_42 : decode cX8_readNext 42 = .ok (.iload_n 1, 1) := by decide +kernel
theorem dX8_readNext_43 : decode cX8_readNext 43 = .ok (.ifCond .ne 8, 3) := by decide +kernel
theorem dX8_readNext_46 : decode cX8_readNext 46 = .ok (.aload_n 0, 1) := by decide +kernel
theorem dX8_readNext_47 : decode cX8_readNext 47 = .ok (.iconst 1, 1) := by decide +kernel
theorem dX8_readNext_48 : decode cX8_readNext 48 = .ok (.invokevirtual 157, 3) := by decide +kernel
theorem dX8_readNext_51 : decode cX8_readNext 51 = .ok (.aload_n 0, 1) := by decide +kernel
theorem dX8_readNext_52 : decode cX8_readNext 52 = .ok (.ldc 220, 2) := by decide +kernel
theorem dX8_readNext_54 : decode cX8_readNext 54 = .ok (.invokevirtual 147, 3) := by decide +kernel
theorem dX8_readNext_57 : decode cX8_readNext 57 = .ok (.ifCond .eq 14, 3) := by decide +kernel
theorem dX8_readNext_60 : decode cX8_readNext 60 = .ok (.aload_n 0, 1) := by decide +kernel
theorem dX8_readNext_61 : decode cX8_readNext 61 = .ok (.getfield 31, 3) := by decide +kernel
theorem dX8_readNext_64 : decode cX8_readNext 64 = .ok (.iconst 3, 1) := by decide +kernel
theorem dX8_readNext_65 : decode cX8_readNext 65 = .ok (.iaload, 1) := by decide +kernel
theorem dX8_readNext_66 : decode cX8_readNext 66 = .ok (.bipush 12, 2) := by decide +kernel
theorem dX8_readNext_68 : decode cX8_readNext 68 = .ok (.if_icmp .eq 42, 3) := by decide +kernel
theorem dX8_readNext_71 : decode cX8_readNext 71 = .ok (.aload_n 0, 1) := by decide +kernel
theorem dX8_readNext_72 : decode cX8_readNext 72 = .ok (.ldc 224, 2) := by decide +kernel
theorem dX8_readNext_74 : decode cX8_readNext 74 = .ok (.invokevirtual 147, 3) := by decide +kernel
theorem dX8_readNext_77 : decode cX8_readNext 77 = .ok (.ifCond .eq 14, 3) := by decide +kernel
theorem dX8_readNext_80 : decode cX8_readNext 80 = .ok (.aload_n 0, 1) := by decide +kernel
theorem dX8_readNext_81 : decode cX8_readNext 81 = .ok (.getfield 31, 3) := by decide +kernel
theorem dX8_readNext_84 : decode cX8_readNext 84 = .ok (.iconst 4, 1) := by decide +kernel
theorem dX8_readNext_85 : decode cX8_readNext 85 = .ok (.iaload, 1) := by decide +kernel
theorem dX8_readNext_86 : decode cX8_readNext 86 = .ok (.bipush 12, 2) := by decide +kernel
theorem dX8_readNext_88 : decode cX8_readNext 88 = .ok (.if_icmp .eq 22, 3) := by decide +kernel
theorem dX8_readNext_91 : decode cX8_readNext 91 = .ok (.aload_n 0, 1) := by decide +kernel
theorem dX8_readNext_92 : decode cX8_readNext 92 = .ok (.ldc 226, 2) := by decide +kernel
theorem dX8_readNext_94 : decode cX8_readNext 94 = .ok (.invokevirtual 147, 3) := by decide +kernel
theorem dX8_readNext_97 : decode cX8_readNext 97 = .ok (.ifCond .eq 18, 3) := by decide +kernel
theorem dX8_readNext_100 : decode cX8_readNext 100 = .ok (.aload_n 0, 1) := by decide +kernel
theorem dX8_readNext_101 : decode cX8_readNext 101 = .ok (.getfield 31, 3) := by decide +kernel
theorem dX8_readNext_104 : decode cX8_readNext 104 = .ok (.iconst 5, 1) := by decide +kernel
theorem dX8_readNext_105 : decode cX8_readNext 105 = .ok (.iaload, 1) := by decide +kernel
theorem dX8_readNext_106 : decode cX8_readNext 106 = .ok (.iconst 5, 1) := by decide +kernel
theorem dX8_readNext_107 : decode cX8_readNext 107 = .ok (.if_icmp .ne 8, 3) := by decide +kernel
theorem dX8_readNext_110 : decode cX8_readNext 110 = .ok (.aload_n 0, 1) := by decide +kernel
theorem dX8_readNext_111 : decode cX8_readNext 111 = .ok (.iconst 3, 1) := by decide +kernel
theorem dX8_readNext_112 : decode cX8_readNext 112 = .ok (.invokevirtual 157, 3) := by decide +kernel
theorem dX8_readNext_115 : decode cX8_readNext 115 = .ok (.aload_n 0, 1) := by decide +kernel
theorem dX8_readNext_116 : decode cX8_readNext 116 = .ok (.invokevirtual 134, 3) := by decide +kernel
theorem dX8_readNext_119 : decode cX8_readNext 119 = .ok (.ifCond .ne 4, 3) := by decide +kernel
theorem dX8_readNext_122 : decode cX8_readNext 122 = .ok (.return_, 1) := by decide +kernel
theorem dX8_readNext_123 : decode cX8_readNext 123 = .ok (.aload_n 0, 1) := by decide +kernel
theorem dX8_readNext_124 : decode cX8_readNext 124 = .ok (.ldc 220, 2) := by decide +kernel
theorem dX8_readNext_126 : decode cX8_readNext 126 = .ok (.invokevirtual 154, 3) := by decide +kernel
theorem dX8_readNext_129 : decode cX8_readNext 129 = .ok (.ifCond .eq 10, 3) := by decide +kernel
theorem dX8_readNext_132 : decode cX8_readNext 132 = .ok (.aload_n 0, 1) := by decide +kernel
theorem dX8_readNext_133 : decode cX8_readNext 133 = .ok (.invokevirtual 228, 3) := by decide +kernel
theorem dX8_readNext_136 : decode cX8_readNext 136 = .ok (.goto 43, 3) := by decide +kernel
theorem dX8_readNext_139 : decode cX8_readNext 139 = .ok (.aload_n 0, 1) := by decide +kernel
theorem dX8_readNext_140 : decode cX8_readNext 140 = .ok (.ldc 222, 2) := by decide +kernel
theorem dX8_readNext_142 : decode cX8_readNext 142 = .ok (.invokevirtual 154, 3) := by decide +kernel
theorem dX8_readNext_145 : decode cX8_readNext 145 = .ok (.ifCond .eq 10, 3) := by decide +kernel
theorem dX8_readNext_148 : decode cX8_readNext 148 = .ok (.aload_n 0, 1) := by decide +kernel
theorem dX8_readNext_149 : decode cX8_readNext 149 = .ok (.invokevirtual 231, 3) := by decide +kernel
theorem dX8_readNext_152 : decode cX8_readNext 152 = .ok (.goto 27, 3) := by decide +kernel
theorem dX8_readNext_155 : decode cX8_readNext 155 = .ok (.aload_n 0, 1) := by decide +kernel
theorem dX8_readNext_156 : decode cX8_readNext 156 = .ok (.ldc 224, 2) := by decide +kernel
theorem dX8_readNext_158 : decode cX8_readNext 158 = .ok (.invokevirtual 154, 3) := by decide +kernel
theorem dX8_readNext_161 : decode cX8_readNext 161 = .ok (.ifCond .eq 10, 3) := by decide +kernel
theorem dX8_readNext_164 : decode cX8_readNext 164 = .ok (.aload_n 0, 1) := by decide +kernel
theorem dX8_readNext_165 : decode cX8_readNext 165 = .ok (.invokevirtual 234, 3) := by decide +kernel
theorem dX8_readNext_168 : decode cX8_readNext 168 = .ok (.goto 11, 3) := by decide +kernel
theorem dX8_readNext_171 : decode cX8_readNext 171 = .ok (.aload_n 0, 1) := by decide +kernel
theorem dX8_readNext_172 : decode cX8_readNext 172 = .ok (.invokevirtual 151, 3) := by decide +kernel
theorem dX8_readNext_175 : decode cX8_readNext 175 = .ok (.aload_n 0, 1) := by decide +kernel
theorem dX8_readNext_176 : decode cX8_readNext 176 = .ok (.invokevirtual 237, 3) := by decide +kernel
theorem dX8_readNext_179 : decode cX8_readNext 179 = .ok (.return_, 1) := by decide +kernel
set_option maxRecDepth 4000 in
theorem kX8_readNext (G : GT) {σ : St} : ∀ (σo : St) , fX8_readNext σ = some σo → MCt G 10 yX8_readNext cX8_readNext 2 (none) [.ref (gad G 62)] σ (none) σo := by
  intro σo hF
  refine met_v (by decide) (Nat.le_of_ble_eq_true rfl) (fun X cx hE => ?_)
  have cx : Cx G X RX8 cX8_readNext 2 10 := cx
  have hb115 : ∀ (σ : St) , fX8_readNext_b115 σ = some σo → WW G X 2 σ [(0, .ref (gad G 62))] 115 [] := by
    intro σ hF
    unfold fX8_readNext_b115 at hF
    refine ww_aload_n cx dX8_readNext_115 rfl 0 rfl ?_
    refine ww_V0_pi kv_X8_134 rfl cx sh_62 ⟨Nat.le_of_ble_eq_true rfl, Nat.le_of_ble_eq_true rfl⟩ (Nat.le_of_ble_eq_true rfl) dX8_readNext_116 (kX8_good G) hF (fun r1 hF => ?_)
    refine ww_if_ne cx dX8_readNext_119 (tgt := 123) rfl hF (fun hF => ?_) (fun hF => ?_)
    · refine ww_aload_n cx dX8_readNext_123 rfl 0 rfl ?_
      refine ww_ldcS (w := 4) (tx := "claim") cx (by decide +kernel) dX8_readNext_124 ?_
      refine ww_V1_si kv_X8_154 rfl cx sh_62 ⟨Nat.le_of_ble_eq_true rfl, Nat.le_of_ble_eq_true rfl⟩ (Nat.le_of_ble_eq_true rfl) dX8_readNext_126 (kX8_takes G (by decide)) hF (fun r2 σ3 hF => ?_)
      refine ww_if_eq cx dX8_readNext_129 (tgt := 139) rfl hF (fun hF => ?_) (fun hF => ?_)
      · refine ww_aload_n cx dX8_readNext_139 rfl 0 rfl ?_
        refine ww_ldcS (w := 12) (tx := "salt") cx (by decide +kernel) dX8_readNext_140 ?_
        refine ww_V1_si kv_X8_154 rfl cx sh_62 ⟨Nat.le_of_ble_eq_true rfl, Nat.le_of_ble_eq_true rfl⟩ (Nat.le_of_ble_eq_true rfl) dX8_readNext_142 (kX8_takes G (by decide)) hF (fun r4 σ5 hF => ?_)
        refine ww_if_eq cx dX8_readNext_145 (tgt := 155) rfl hF (fun hF => ?_) (fun hF => ?_)
        · refine ww_aload_n cx dX8_readNext_155 rfl 0 rfl ?_
          refine ww_ldcS (w := 13) (tx := "step") cx (by decide +kernel) dX8_readNext_156 ?_
          refine ww_V1_si kv_X8_154 rfl cx sh_62 ⟨Nat.le_of_ble_eq_true rfl, Nat.le_of_ble_eq_true rfl⟩ (Nat.le_of_ble_eq_true rfl) dX8_readNext_158 (kX8_takes G (by decide)) hF (fun r6 σ7 hF => ?_)
          refine ww_if_eq cx dX8_readNext_161 (tgt := 171) rfl hF (fun hF => ?_) (fun hF => ?_)
          · refine ww_aload_n cx dX8_readNext_171 rfl 0 rfl ?_
            refine ww_V0_sv kv_X8_151 rfl cx sh_62 ⟨Nat.le_of_ble_eq_true rfl, Nat.le_of_ble_eq_true rfl⟩ (Nat.le_of_ble_eq_true rfl) dX8_readNext_172 (kX8_advance G) hF (fun σ8 hF => ?_)
            refine ww_aload_n cx dX8_readNext_175 rfl 0 rfl ?_
            refine ww_V0_sv kv_X8_237 rfl cx sh_62 ⟨Nat.le_of_ble_eq_true rfl, Nat.le_of_ble_eq_true rfl⟩ (Nat.le_of_ble_eq_true rfl) dX8_readNext_176 (kX8_readGuest G) hF (fun σ9 hF => ?_)
            exact ww_rvs hE dX8_readNext_179 hF
          · refine ww_aload_n cx dX8_readNext_164 rfl 0 rfl ?_
            refine ww_V0_sv kv_X8_234 rfl cx sh_62 ⟨Nat.le_of_ble_eq_true rfl, Nat.le_of_ble_eq_true rfl⟩ (Nat.le_of_ble_eq_true rfl) dX8_readNext_165 (kX8_readStep G) hF (fun σ10 hF => ?_)
            refine ww_goto cx dX8_readNext_168 (tgt := 179) rfl ?_
            exact ww_rvs hE dX8_readNext_179 hF
        · refine ww_aload_n cx dX8_readNext_148 rfl 0 rfl ?_
          refine ww_V0_sv kv_X8_231 rfl cx sh_62 ⟨Nat.le_of_ble_eq_true rfl, Nat.le_of_ble_eq_true rfl⟩ (Nat.le_of_ble_eq_true rfl) dX8_readNext_149 (kX8_readSalt G) hF (fun σ11 hF => ?_)
          refine ww_goto cx dX8_readNext_152 (tgt := 179) rfl ?_
          exact ww_rvs hE dX8_readNext_179 hF
      · refine ww_aload_n cx dX8_readNext_132 rfl 0 rfl ?_
        refine ww_V0_sv kv_X8_228 rfl cx sh_62 ⟨Nat.le_of_ble_eq_true rfl, Nat.le_of_ble_eq_true rfl⟩ (Nat.le_of_ble_eq_true rfl) dX8_readNext_133 (kX8_readClaim G) hF (fun σ12 hF => ?_)
        refine ww_goto cx dX8_readNext_136 (tgt := 179) rfl ?_
        exact ww_rvs hE dX8_readNext_179 hF
    · exact ww_rvs hE dX8_readNext_122 hF
  have hb110 : ∀ (σ : St) , fX8_readNext_b110 σ = some σo → WW G X 2 σ [(0, .ref (gad G 62))] 110 [] := by
    intro σ hF
    unfold fX8_readNext_b110 at hF
    refine ww_aload_n cx dX8_readNext_110 rfl 0 rfl ?_
    refine ww_iconst cx dX8_readNext_111 ic_3 ?_
    refine ww_V1_sv kv_X8_157 rfl cx sh_62 ⟨Nat.le_of_ble_eq_true rfl, Nat.le_of_ble_eq_true rfl⟩ (Nat.le_of_ble_eq_true rfl) dX8_readNext_112 (kX8_errs G) hF (fun σ13 hF => ?_)
    exact hb115 _ hF
  have hb91 : ∀ (σ : St) , fX8_readNext_b91 σ = some σo → WW G X 2 σ [(0, .ref (gad G 62))] 91 [] := by
    intro σ hF
    unfold fX8_readNext_b91 at hF
    refine ww_aload_n cx dX8_readNext_91 rfl 0 rfl ?_
    refine ww_ldcS (w := 15) (tx := "guest") cx (by decide +kernel) dX8_readNext_92 ?_
    refine ww_V1_pi kv_X8_147 rfl cx sh_62 ⟨Nat.le_of_ble_eq_true rfl, Nat.le_of_ble_eq_true rfl⟩ (Nat.le_of_ble_eq_true rfl) dX8_readNext_94 (kX8_is G (by decide)) hF (fun r14 hF => ?_)
    refine ww_if_eq cx dX8_readNext_97 (tgt := 115) rfl hF (fun hF => ?_) (fun hF => ?_)
    · exact hb115 _ hF
    · refine ww_aload_n cx dX8_readNext_100 rfl 0 rfl ?_
      refine gf_X8_31 cx dX8_readNext_101 ?_
      refine ww_iconst cx dX8_readNext_104 ic_5 ?_
      refine ww_iald (N := 77) cx (sh_68) dX8_readNext_105 hF (fun hF => ?_)
      refine ww_iconst cx dX8_readNext_106 ic_5 ?_
      refine ww_icmp_ne cx dX8_readNext_107 (tgt := 115) rfl hF (fun hF => ?_) (fun hF => ?_)
      · exact hb115 _ hF
      · exact hb110 _ hF
  have hb71 : ∀ (σ : St) , fX8_readNext_b71 σ = some σo → WW G X 2 σ [(0, .ref (gad G 62))] 71 [] := by
    intro σ hF
    unfold fX8_readNext_b71 at hF
    refine ww_aload_n cx dX8_readNext_71 rfl 0 rfl ?_
    refine ww_ldcS (w := 13) (tx := "step") cx (by decide +kernel) dX8_readNext_72 ?_
    refine ww_V1_pi kv_X8_147 rfl cx sh_62 ⟨Nat.le_of_ble_eq_true rfl, Nat.le_of_ble_eq_true rfl⟩ (Nat.le_of_ble_eq_true rfl) dX8_readNext_74 (kX8_is G (by decide)) hF (fun r15 hF => ?_)
    refine ww_if_eq cx dX8_readNext_77 (tgt := 91) rfl hF (fun hF => ?_) (fun hF => ?_)
    · exact hb91 _ hF
    · refine ww_aload_n cx dX8_readNext_80 rfl 0 rfl ?_
      refine gf_X8_31 cx dX8_readNext_81 ?_
      refine ww_iconst cx dX8_readNext_84 ic_4 ?_
      refine ww_iald (N := 77) cx (sh_68) dX8_readNext_85 hF (fun hF => ?_)
      refine ww_bipush cx dX8_readNext_86 bc_12 ?_
      refine ww_icmp_eq cx dX8_readNext_88 (tgt := 110) rfl hF (fun hF => ?_) (fun hF => ?_)
      · exact hb110 _ hF
      · exact hb91 _ hF
  have hb51 : ∀ (σ : St) , fX8_readNext_b51 σ = some σo → WW G X 2 σ [(0, .ref (gad G 62))] 51 [] := by
    intro σ hF
    unfold fX8_readNext_b51 at hF
    refine ww_aload_n cx dX8_readNext_51 rfl 0 rfl ?_
    refine ww_ldcS (w := 4) (tx := "claim") cx (by decide +kernel) dX8_readNext_52 ?_
    refine ww_V1_pi kv_X8_147 rfl cx sh_62 ⟨Nat.le_of_ble_eq_true rfl, Nat.le_of_ble_eq_true rfl⟩ (Nat.le_of_ble_eq_true rfl) dX8_readNext_54 (kX8_is G (by decide)) hF (fun r16 hF => ?_)
    refine ww_if_eq cx dX8_readNext_57 (tgt := 71) rfl hF (fun hF => ?_) (fun hF => ?_)
    · exact hb71 _ hF
    · refine ww_aload_n cx dX8_readNext_60 rfl 0 rfl ?_
      refine gf_X8_31 cx dX8_readNext_61 ?_
      refine ww_iconst cx dX8_readNext_64 ic_3 ?_
      refine ww_iald (N := 77) cx (sh_68) dX8_readNext_65 hF (fun hF => ?_)
      refine ww_bipush cx dX8_readNext_66 bc_12 ?_
      refine ww_icmp_eq cx dX8_readNext_68 (tgt := 110) rfl hF (fun hF => ?_) (fun hF => ?_)
      · exact hb110 _ hF
      · exact hb71 _ hF
  have hb41 : ∀ (σ : St) (y0 : Int32) , fX8_readNext_b41 σ y0 = some σo → WW G X 2 σ [(0, .ref (gad G 62))] 41 [.int y0] := by
    intro σ y0 hF
    unfold fX8_readNext_b41 at hF
    refine ww_istore_n (ks := [0, 1]) (lv' := fun v17 => [(1, .int v17), (0, .ref (gad G 62))]) cx dX8_readNext_41 rfl (by decide) hF (fun _ => rfl) (fun v17 hF => ?_)
    refine ww_iload_n cx dX8_readNext_42 rfl 0 rfl ?_
    refine ww_if_ne cx dX8_readNext_43 (tgt := 51) rfl hF (fun hF => ?_) (fun hF => ?_)
    · exact ww_sub [1] rfl (hb51 _ hF)
    · refine ww_aload_n cx dX8_readNext_46 rfl 1 rfl ?_
      refine ww_iconst cx dX8_readNext_47 ic_1 ?_
      refine ww_V1_sv kv_X8_157 rfl cx sh_62 ⟨Nat.le_of_ble_eq_true rfl, Nat.le_of_ble_eq_true rfl⟩ (Nat.le_of_ble_eq_true rfl) dX8_readNext_48 (kX8_errs G) hF (fun σ18 hF => ?_)
      exact ww_sub [1] rfl (hb51 _ hF)
  have hb36 : ∀ (σ : St) , fX8_readNext_b36 σ = some σo → WW G X 2 σ [(0, .ref (gad G 62))] 36 [] := by
    intro σ hF
    unfold fX8_readNext_b36 at hF
    refine ww_iconst cx dX8_readNext_36 ic_1 ?_
    refine ww_goto cx dX8_readNext_37 (tgt := 41) rfl ?_
    exact hb41 _ _ hF
  unfold fX8_readNext at hF
  show WW G X 2 σ [(0, .ref (gad G 62))] 0 []
  refine ww_aload_n cx dX8_readNext_0 rfl 0 rfl ?_
  refine ww_ldcS (w := 4) (tx := "claim") cx (by decide +kernel) dX8_readNext_1 ?_
  refine ww_V1_pi kv_X8_147 rfl cx sh_62 ⟨Nat.le_of_ble_eq_true rfl, Nat.le_of_ble_eq_true rfl⟩ (Nat.le_of_ble_eq_true rfl) dX8_readNext_3 (kX8_is G (by decide)) hF (fun r19 hF => ?_)
  refine ww_if_ne cx dX8_readNext_6 (tgt := 36) rfl hF (fun hF => ?_) (fun hF => ?_)
  · exact hb36 _ hF
  · refine ww_aload_n cx dX8_readNext_9 rfl 0 rfl ?_
    refine ww_ldcS (w := 12) (tx := "salt") cx (by decide +kernel) dX8_readNext_10 ?_
    refine ww_V1_pi kv_X8_147 rfl cx sh_62 ⟨Nat.le_of_ble_eq_true rfl, Nat.le_of_ble_eq_true rfl⟩ (Nat.le_of_ble_eq_true rfl) dX8_readNext_12 (kX8_is G (by decide)) hF (fun r20 hF => ?_)
    refine ww_if_ne cx dX8_readNext_15 (tgt := 36) rfl hF (fun hF => ?_) (fun hF => ?_)
    · exact hb36 _ hF
    · refine ww_aload_n cx dX8_readNext_18 rfl 0 rfl ?_
      refine ww_ldcS (w := 13) (tx := "step") cx (by decide +kernel) dX8_readNext_19 ?_
      refine ww_V1_pi kv_X8_147 rfl cx sh_62 ⟨Nat.le_of_ble_eq_true rfl, Nat.le_of_ble_eq_true rfl⟩ (Nat.le_of_ble_eq_true rfl) dX8_readNext_21 (kX8_is G (by decide)) hF (fun r21 hF => ?_)
      refine ww_if_ne cx dX8_readNext_24 (tgt := 36) rfl hF (fun hF => ?_) (fun hF => ?_)
      · exact hb36 _ hF
      · refine ww_aload_n cx dX8_readNext_27 rfl 0 rfl ?_
        refine ww_ldcS (w := 15) (tx := "guest") cx (by decide +kernel) dX8_readNext_28 ?_
        refine ww_V1_pi kv_X8_147 rfl cx sh_62 ⟨Nat.le_of_ble_eq_true rfl, Nat.le_of_ble_eq_true rfl⟩ (Nat.le_of_ble_eq_true rfl) dX8_readNext_30 (kX8_is G (by decide)) hF (fun r22 hF => ?_)
        refine ww_if_eq cx dX8_readNext_33 (tgt := 40) rfl hF (fun hF => ?_) (fun hF => ?_)
        · refine ww_iconst cx dX8_readNext_40 ic_0 ?_
          exact hb41 _ _ hF
        · exact hb36 _ hF
theorem dX8_readLine_0 : decode cX8_readLine 0 = .ok (.aload_n 0, 1) := by decide +kernel
theorem dX8_readLine_1 : decode cX8_readLine 1 = .ok (.getfield 31, 3) := by decide +kernel
theorem dX8_readLine_4 : decode cX8_readLine 4 = .ok (.bipush 6, 2) := by decide +kernel
theorem dX8_readLine_6 : decode cX8_readLine 6 = .ok (.iaload, 1) := by decide +kernel
theorem dX8_readLine_7 : decode cX8_readLine 7 = .ok (.ifCond .ne 56, 3) := by decide +kernel
theorem dX8_readLine_10 : decode cX8_readLine 10 = .ok (.aload_n 0, 1) := by decide +kernel
theorem dX8_readLine_11 : decode cX8_readLine 11 = .ok (.ldc 240, 2) := by decide +kernel
theorem dX8_readLine_13 : decode cX8_readLine 13 = .ok (.invokevirtual 161, 3) := by decide +kernel
theorem dX8_readLine_16 : decode cX8_readLine 16 = .ok (.aload_n 0, 1) := by decide +kernel
theorem dX8_readLine_17 : decode cX8_readLine 17 = .ok (.getfield 31, 3) := by decide +kernel
theorem dX8_readLine_20 : decode cX8_readLine 20 = .ok (.iconst 0, 1) := by decide +kernel
theorem dX8_readLine_21 : decode cX8_readLine 21 = .ok (.aload_n 0, 1) := by decide +kernel
theorem dX8_readLine_22 : decode cX8_readLine 22 = .ok (.ldc 242, 2) := by decide +kernel
theorem dX8_readLine_24 : decode cX8_readLine 24 = .ok (.iconst 2, 1) := by decide +kernel
theorem dX8_readLine_25 : decode cX8_readLine 25 = .ok (.iconst 4, 1) := by decide +kernel
theorem dX8_readLine_26 : decode cX8_readLine 26 = .ok (.invokevirtual 201, 3) := by decide +kernel
theorem dX8_readLine_29 : decode cX8_readLine 29 = .ok (.iastore, 1) := by decide +kernel
theorem dX8_readLine_30 : decode cX8_readLine 30 = .ok (.aload_n 0, 1) := by decide +kernel
theorem dX8_readLine_31 : decode cX8_readLine 31 = .ok (.getfield 31, 3) := by decide +kernel
theorem dX8_readLine_34 : decode cX8_readLine 34 = .ok (.iconst 1, 1) := by decide +kernel
theorem dX8_readLine_35 : decode cX8_readLine 35 = .ok (.aload_n 0, 1) := by decide +kernel
theorem dX8_readLine_36 : decode cX8_readLine 36 = .ok (.ldc 244, 2) := by decide +kernel
theorem dX8_readLine_38 : decode cX8_readLine 38 = .ok (.iconst 1, 1) := by decide +kernel
theorem dX8_readLine_39 : decode cX8_readLine 39 = .ok (.bipush 99, 2) := by decide +kernel
theorem dX8_readLine_41 : decode cX8_readLine 41 = .ok (.invokevirtual 201, 3) := by decide +kernel
theorem dX8_readLine_44 : decode cX8_readLine 44 = .ok (.iastore, 1) := by decide +kernel
theorem dX8_readLine_45 : decode cX8_readLine 45 = .ok (.aload_n 0, 1) := by decide +kernel
theorem dX8_readLine_46 : decode cX8_readLine 46 = .ok (.getfield 31, 3) := by decide +kernel
theorem dX8_readLine_49 : decode cX8_readLine 49 = .ok (.iconst 2, 1) := by decide +kernel
theorem dX8_readLine_50 : decode cX8_readLine 50 = .ok (.aload_n 0, 1) := by decide +kernel
theorem dX8_readLine_51 : decode cX8_readLine 51 = .ok (.ldc 246, 2) := by decide +kernel
theorem dX8_readLine_53 : decode cX8_readLine 53 = .ok (.iconst 0, 1) := by decide +kernel
theorem dX8_readLine_54 : decode cX8_readLine 54 = .ok (.bipush 100, 2) := by decide +kernel
theorem dX8_readLine_56 : decode cX8_readLine 56 = .ok (.invokevirtual 201, 3) := by decide +kernel
theorem dX8_readLine_59 : decode cX8_readLine 59 = .ok (.iastore, 1) := by decide +kernel
theorem dX8_readLine_60 : decode cX8_readLine 60 = .ok (.goto 7, 3) := by decide +kernel
theorem dX8_readLine_63 : decode cX8_readLine 63 = .ok (.aload_n 0, 1) := by decide +kernel
theorem dX8_readLine_64 : decode cX8_readLine 64 = .ok (.invokevirtual 248, 3) := by decide +kernel
theorem dX8_readLine_67 : decode cX8_readLine 67 = .ok (.aload_n 0, 1) := by decide +kernel
theorem dX8_readLine_68 : decode cX8_readLine 68 = .ok (.invokevirtual 134, 3) := by decide +kernel
theorem dX8_readLine_71 : decode cX8_readLine 71 = .ok (.ifCond .eq 16, 3) := by decide +kernel
theorem dX8_readLine_74 : decode cX8_readLine 74 = .ok (.aload_n 0, 1) := by decide +kernel
theorem dX8_readLine_75 : decode cX8_readLine 75 = .ok (.getfield 111, 3) := by decide +kernel
theorem dX8_readLine_78 : decode cX8_readLine 78 = .ok (.iconst 3, 1) := by decide +kernel
theorem dX8_readLine_79 : decode cX8_readLine 79 = .ok (.if_icmp .eq 8, 3) := by decide +kernel
theorem dX8_readLine_82 : decode cX8_readLine 82 = .ok (.aload_n 0, 1) := by decide +kernel
theorem dX8_readLine_83 : decode cX8_readLine 83 = .ok (.iconst 1, 1) := by decide +kernel
theorem dX8_readLine_84 : decode cX8_readLine 84 = .ok (.invokevirtual 157, 3) := by decide +kernel
theorem dX8_readLine_87 : decode cX8_readLine 87 = .ok (.aload_n 0, 1) := by decide +kernel
theorem dX8_readLine_88 : decode cX8_readLine 88 = .ok (.invokevirtual 134, 3) := by decide +kernel
theorem dX8_readLine_91 : decode cX8_readLine 91 = .ok (.ifCond .eq 7, 3) := by decide +kernel
theorem dX8_readLine_94 : decode cX8_readLine 94 = .ok (.aload_n 0, 1) := by decide +kernel
theorem dX8_readLine_95 : decode cX8_readLine 95 = .ok (.invokevirtual 151, 3) := by decide +kernel
theorem dX8_readLine_98 : decode cX8_readLine 98 = .ok (.aload_n 0, 1) := by decide +kernel
theorem dX8_readLine_99 : decode cX8_readLine 99 = .ok (.getfield 31, 3) := by decide +kernel
theorem dX8_readLine_102 : decode cX8_readLine 102 = .ok (.bipush 6, 2) := by decide +kernel
theorem dX8_readLine_104 : decode cX8_readLine 104 = .ok (.dup2, 1) := by decide +kernel
theorem dX8_readLine_105 : decode cX8_readLine 105 = .ok (.iaload, 1) := by decide +kernel
theorem dX8_readLine_106 : decode cX8_readLine 106 = .ok (.iconst 1, 1) := by decide +kernel
theorem dX8_readLine_107 : decode cX8_readLine 107 = .ok (.iadd, 1) := by decide +kernel
theorem dX8_readLine_108 : decode cX8_readLine 108 = .ok (.iastore, 1) := by decide +kernel
theorem dX8_readLine_109 : decode cX8_readLine 109 = .ok (.return_, 1) := by decide +kernel
set_option maxRecDepth 4000 in
theorem kX8_readLine (G : GT) {σ : St} : ∀ (σo : St) , fX8_readLine σ = some σo → MCt G 11 yX8_readLine cX8_readLine 1 (none) [.ref (gad G 62)] σ (none) σo := by
  intro σo hF
  refine met_v (by decide) (Nat.le_of_ble_eq_true rfl) (fun X cx hE => ?_)
  have cx : Cx G X RX8 cX8_readLine 1 11 := cx
  have hb98 : ∀ (σ : St) , fX8_readLine_b98 σ = some σo → WW G X 1 σ [(0, .ref (gad G 62))] 98 [] := by
    intro σ hF
    unfold fX8_readLine_b98 at hF
    refine ww_aload_n cx dX8_readLine_98 rfl 0 rfl ?_
    refine gf_X8_31 cx dX8_readLine_99 ?_
    refine ww_bipush cx dX8_readLine_102 bc_6 ?_
    refine ww_dup2 cx dX8_readLine_104 rfl rfl ?_
    refine ww_iald (N := 77) cx (sh_68) dX8_readLine_105 hF (fun hF => ?_)
    refine ww_iconst cx dX8_readLine_106 ic_1 ?_
    refine ww_iadd cx dX8_readLine_107 ?_
    refine ww_iast (N := 77) cx (sh_68) dX8_readLine_108 hF (fun σ1 hF => ?_)
    exact ww_rvs hE dX8_readLine_109 hF
  have hb87 : ∀ (σ : St) , fX8_readLine_b87 σ = some σo → WW G X 1 σ [(0, .ref (gad G 62))] 87 [] := by
    intro σ hF
    unfold fX8_readLine_b87 at hF
    refine ww_aload_n cx dX8_readLine_87 rfl 0 rfl ?_
    refine ww_V0_pi kv_X8_134 rfl cx sh_62 ⟨Nat.le_of_ble_eq_true rfl, Nat.le_of_ble_eq_true rfl⟩ (Nat.le_of_ble_eq_true rfl) dX8_readLine_88 (kX8_good G) hF (fun r2 hF => ?_)
    refine ww_if_eq cx dX8_readLine_91 (tgt := 98) rfl hF (fun hF => ?_) (fun hF => ?_)
    · exact hb98 _ hF
    · refine ww_aload_n cx dX8_readLine_94 rfl 0 rfl ?_
      refine ww_V0_sv kv_X8_151 rfl cx sh_62 ⟨Nat.le_of_ble_eq_true rfl, Nat.le_of_ble_eq_true rfl⟩ (Nat.le_of_ble_eq_true rfl) dX8_readLine_95 (kX8_advance G) hF (fun σ3 hF => ?_)
      exact hb98 _ hF
  have hb67 : ∀ (σ : St) , fX8_readLine_b67 σ = some σo → WW G X 1 σ [(0, .ref (gad G 62))] 67 [] := by
    intro σ hF
    unfold fX8_readLine_b67 at hF
    refine ww_aload_n cx dX8_readLine_67 rfl 0 rfl ?_
    refine ww_V0_pi kv_X8_134 rfl cx sh_62 ⟨Nat.le_of_ble_eq_true rfl, Nat.le_of_ble_eq_true rfl⟩ (Nat.le_of_ble_eq_true rfl) dX8_readLine_68 (kX8_good G) hF (fun r4 hF => ?_)
    refine ww_if_eq cx dX8_readLine_71 (tgt := 87) rfl hF (fun hF => ?_) (fun hF => ?_)
    · exact hb87 _ hF
    · refine ww_aload_n cx dX8_readLine_74 rfl 0 rfl ?_
      refine gf_X8_111 cx dX8_readLine_75 ?_
      refine ww_iconst cx dX8_readLine_78 ic_3 ?_
      refine ww_icmp_eq cx dX8_readLine_79 (tgt := 87) rfl hF (fun hF => ?_) (fun hF => ?_)
      · exact hb87 _ hF
      · refine ww_aload_n cx dX8_readLine_82 rfl 0 rfl ?_
        refine ww_iconst cx dX8_readLine_83 ic_1 ?_
        refine ww_V1_sv kv_X8_157 rfl cx sh_62 ⟨Nat.le_of_ble_eq_true rfl, Nat.le_of_ble_eq_true rfl⟩ (Nat.le_of_ble_eq_true rfl) dX8_readLine_84 (kX8_errs G) hF (fun σ5 hF => ?_)
        exact hb87 _ hF
  unfold fX8_readLine at hF
  show WW G X 1 σ [(0, .ref (gad G 62))] 0 []
  refine ww_aload_n cx dX8_readLine_0 rfl 0 rfl ?_
  refine gf_X8_31 cx dX8_readLine_1 ?_
  refine ww_bipush cx dX8_readLine_4 bc_6 ?_
  refine ww_iald (N := 77) cx (sh_68) dX8_readLine_6 hF (fun hF => ?_)
  refine ww_if_ne cx dX8_readLine_7 (tgt := 63) rfl hF (fun hF => ?_) (fun hF => ?_)
  · refine ww_aload_n cx dX8_readLine_63 rfl 0 rfl ?_
    refine ww_V0_sv kv_X8_248 rfl cx sh_62 ⟨Nat.le_of_ble_eq_true rfl, Nat.le_of_ble_eq_true rfl⟩ (Nat.le_of_ble_eq_true rfl) dX8_readLine_64 (kX8_readNext G) hF (fun σ6 hF => ?_)
    exact hb67 _ hF
  · refine ww_aload_n cx dX8_readLine_10 rfl 0 rfl ?_
    refine ww_ldcS (w := 0) (tx := "table") cx (by decide +kernel) dX8_readLine_11 ?_
    refine ww_V1_sv kv_X8_161 rfl cx sh_62 ⟨Nat.le_of_ble_eq_true rfl, Nat.le_of_ble_eq_true rfl⟩ (Nat.le_of_ble_eq_true rfl) dX8_readLine_13 (kX8_needs G (by decide)) hF (fun σ7 hF => ?_)
    refine ww_aload_n cx dX8_readLine_16 rfl 0 rfl ?_
    refine gf_X8_31 cx dX8_readLine_17 ?_
    refine ww_iconst cx dX8_readLine_20 ic_0 ?_
    refine ww_aload_n cx dX8_readLine_21 rfl 0 rfl ?_
    refine ww_ldcS (w := 1) (tx := "atoms") cx (by decide +kernel) dX8_readLine_22 ?_
    refine ww_iconst cx dX8_readLine_24 ic_2 ?_
    refine ww_iconst cx dX8_readLine_25 ic_4 ?_
    refine ww_V3_si kv_X8_201 rfl cx sh_62 ⟨Nat.le_of_ble_eq_true rfl, Nat.le_of_ble_eq_true rfl⟩ (Nat.le_of_ble_eq_true rfl) dX8_readLine_26 (kX8_told G (by decide)) hF (fun r8 σ9 hF => ?_)
    refine ww_iast (N := 77) cx (sh_68) dX8_readLine_29 hF (fun σ10 hF => ?_)
    refine ww_aload_n cx dX8_readLine_30 rfl 0 rfl ?_
    refine gf_X8_31 cx dX8_readLine_31 ?_
    refine ww_iconst cx dX8_readLine_34 ic_1 ?_
    refine ww_aload_n cx dX8_readLine_35 rfl 0 rfl ?_
    refine ww_ldcS (w := 2) (tx := "hours") cx (by decide +kernel) dX8_readLine_36 ?_
    refine ww_iconst cx dX8_readLine_38 ic_1 ?_
    refine ww_bipush cx dX8_readLine_39 bc_99 ?_
    refine ww_V3_si kv_X8_201 rfl cx sh_62 ⟨Nat.le_of_ble_eq_true rfl, Nat.le_of_ble_eq_true rfl⟩ (Nat.le_of_ble_eq_true rfl) dX8_readLine_41 (kX8_told G (by decide)) hF (fun r11 σ12 hF => ?_)
    refine ww_iast (N := 77) cx (sh_68) dX8_readLine_44 hF (fun σ13 hF => ?_)
    refine ww_aload_n cx dX8_readLine_45 rfl 0 rfl ?_
    refine gf_X8_31 cx dX8_readLine_46 ?_
    refine ww_iconst cx dX8_readLine_49 ic_2 ?_
    refine ww_aload_n cx dX8_readLine_50 rfl 0 rfl ?_
    refine ww_ldcS (w := 3) (tx := "holes") cx (by decide +kernel) dX8_readLine_51 ?_
    refine ww_iconst cx dX8_readLine_53 ic_0 ?_
    refine ww_bipush cx dX8_readLine_54 bc_100 ?_
    refine ww_V3_si kv_X8_201 rfl cx sh_62 ⟨Nat.le_of_ble_eq_true rfl, Nat.le_of_ble_eq_true rfl⟩ (Nat.le_of_ble_eq_true rfl) dX8_readLine_56 (kX8_told G (by decide)) hF (fun r14 σ15 hF => ?_)
    refine ww_iast (N := 77) cx (sh_68) dX8_readLine_59 hF (fun σ16 hF => ?_)
    refine ww_goto cx dX8_readLine_60 (tgt := 67) rfl ?_
    exact hb67 _ hF
theorem dX8_table_0 : decode cX8_table 0 = .ok (.aload_n 0, 1) := by decide +kernel
theorem dX8_table_1 : decode cX8_table 1 = .ok (.aload_n 0, 1) := by decide +kernel
theorem dX8_table_2 : decode cX8_table 2 = .ok (.getfield 95, 3) := by decide +kernel
theorem dX8_table_5 : decode cX8_table 5 = .ok (.putfield 98, 3) := by decide +kernel
theorem dX8_table_8 : decode cX8_table 8 = .ok (.aload_n 0, 1) := by decide +kernel
theorem dX8_table_9 : decode cX8_table 9 = .ok (.iconst 0, 1) := by decide +kernel
theorem dX8_table_10 : decode cX8_table 10 = .ok (.putfield 95, 3) := by decide +kernel
theorem dX8_table_13 : decode cX8_table 13 = .ok (.aload_n 0, 1) := by decide +kernel
theorem dX8_table_14 : decode cX8_table 14 = .ok (.iconst 0, 1) := by decide +kernel
theorem dX8_table_15 : decode cX8_table 15 = .ok (.putfield 101, 3) := by decide +kernel
theorem dX8_table_18 : decode cX8_table 18 = .ok (.aload_n 0, 1) := by decide +kernel
theorem dX8_table_19 : decode cX8_table 19 = .ok (.iconst 0, 1) := by decide +kernel
theorem dX8_table_20 : decode cX8_table 20 = .ok (.putfield 131, 3) := by decide +kernel
theorem dX8_table_23 : decode cX8_table 23 = .ok (.aload_n 0, 1) := by decide +kernel
theorem dX8_table_24 : decode cX8_table 24 = .ok (.iconst (-1), 1) := by decide +kernel
theorem dX8_table_25 : decode cX8_table 25 = .ok (.putfield 27, 3) := by decide +kernel
theorem dX8_table_28 : decode cX8_table 28 = .ok (.iconst 0, 1) := by decide +kernel
theorem dX8_table_29 : decode cX8_table 29 = .ok (.istore_n 1, 1) := by decide +kernel
theorem dX8_table_30 : decode cX8_table 30 = .ok (.iload_n 1, 1) := by decide +kernel
theorem dX8_table_31 : decode cX8_table 31 = .ok (.bipush 77, 2) := by decide +kernel
theorem dX8_table_33 : decode cX8_table 33 = .ok (.if_icmp .ge 16, 3) := by decide +kernel
theorem dX8_table_36 : decode cX8_table 36 = .ok (.aload_n 0, 1) := by decide +kernel
theorem dX8_table_37 : decode cX8_table 37 = .ok (.getfield 31, 3) := by decide +kernel
theorem dX8_table_40 : decode cX8_table 40 = .ok (.iload_n 1, 1) := by decide +kernel
theorem dX8_table_41 : decode cX8_table 41 = .ok (.iconst 0, 1) := by decide +kernel
theorem dX8_table_42 : decode cX8_table 42 = .ok (.iastore, 1) := by decide +kernel
theorem dX8_table_43 : decode cX8_table 43 = .ok (.iinc 1 1, 3) := by decide +kernel
theorem dX8_table_46 : decode cX8_table 46 = .ok (.goto (-16), 3) := by decide +kernel
theorem dX8_table_49 : decode cX8_table 49 = .ok (.aload_n 0, 1) := by decide +kernel
theorem dX8_table_50 : decode cX8_table 50 = .ok (.invokevirtual 151, 3) := by decide +kernel
theorem dX8_table_53 : decode cX8_table 53 = .ok (.aload_n 0, 1) := by decide +kernel
theorem dX8_table_54 : decode cX8_table 54 = .ok (.invokevirtual 134, 3) := by decide +kernel
theorem dX8_table_57 : decode cX8_table 57 = .ok (.ifCond .eq 17, 3) := by decide +kernel
theorem dX8_table_60 : decode cX8_table 60 = .ok (.aload_n 0, 1) := by decide +kernel
theorem dX8_table_61 : decode cX8_table 61 = .ok (.getfield 111, 3) := by decide +kernel
theorem dX8_table_64 : decode cX8_table 64 = .ok (.ifCond .eq 10, 3) := by decide +kernel
theorem dX8_table_67 : decode cX8_table 67 = .ok (.aload_n 0, 1) := by decide +kernel
theorem dX8_table_68 : decode cX8_table 68 = .ok (.invokevirtual 251, 3) := by decide +kernel
theorem dX8_table_71 : decode cX8_table 71 = .ok (.goto (-18), 3) := by decide +kernel
theorem dX8_table_74 : decode cX8_table 74 = .ok (.aload_n 0, 1) := by decide +kernel
theorem dX8_table_75 : decode cX8_table 75 = .ok (.invokevirtual 134, 3) := by decide +kernel
theorem dX8_table_78 : decode cX8_table 78 = .ok (.ifCond .ne 6, 3) := by decide +kernel
theorem dX8_table_81 : decode cX8_table 81 = .ok (.bipush (-4), 2) := by decide +kernel
theorem dX8_table_83 : decode cX8_table 83 = .ok (.ireturn, 1) := by decide +kernel
theorem dX8_table_84 : decode cX8_table 84 = .ok (.iconst 0, 1) := by decide +kernel
theorem dX8_table_85 : decode cX8_table 85 = .ok (.istore_n 1, 1) := by decide +kernel
theorem dX8_table_86 : decode cX8_table 86 = .ok (.iload_n 1, 1) := by decide +kernel
theorem dX8_table_87 : decode cX8_table 87 = .ok (.bipush 77, 2) := by decide +kernel
theorem dX8_table_89 : decode cX8_table 89 = .ok (.if_icmp .ge 21, 3) := by decide +kernel
theorem dX8_table_92 : decode cX8_table 92 = .ok (.aload_n 0, 1) := by decide +kernel
theorem dX8_table_93 : decode cX8_table 93 = .ok (.getfield 9, 3) := by decide +kernel
theorem dX8_table_96 : decode cX8_table 96 = .ok (.iload_n 1, 1) := by decide +kernel
theorem dX8_table_97 : decode cX8_table 97 = .ok (.aload_n 0, 1) := by decide +kernel
theorem dX8_table_98 : decode cX8_table 98 = .ok (.getfield 31, 3) := by decide +kernel
theorem dX8_table_101 : decode cX8_table 101 = .ok (.iload_n 1, 1) := by decide +kernel
theorem dX8_table_102 : decode cX8_table 102 = .ok (.iaload, 1) := by decide +kernel
theorem dX8_table_103 : decode cX8_table 103 = .ok (.iastore, 1) := by decide +kernel
theorem dX8_table_104 : decode cX8_table 104 = .ok (.iinc 1 1, 3) := by decide +kernel
theorem dX8_table_107 : decode cX8_table 107 = .ok (.goto (-21), 3) := by decide +kernel
theorem dX8_table_110 : decode cX8_table 110 = .ok (.aload_n 0, 1) := by decide +kernel
theorem dX8_table_111 : decode cX8_table 111 = .ok (.getfield 9, 3) := by decide +kernel
theorem dX8_table_114 : decode cX8_table 114 = .ok (.bipush 6, 2) := by decide +kernel
theorem dX8_table_116 : decode cX8_table 116 = .ok (.iaload, 1) := by decide +kernel
theorem dX8_table_117 : decode cX8_table 117 = .ok (.ireturn, 1) := by decide +kernel
set_option maxRecDepth 4000 in
theorem kX8_table (G : GT) {σ : St} : ∀ (r : Int32) (σo : St) , fX8_table σ = some (r, σo) → MCt G 12 yX8_table cX8_table 2 (some .int) [.ref (gad G 62)] σ (some (.int r)) σo := by
  intro r σo hF
  refine met_i (by decide) (Nat.le_of_ble_eq_true rfl) (fun X cx hE => ?_)
  have cx : Cx G X RX8 cX8_table 2 12 := cx
  have hl86 : ∀ n : Nat, ∀ (σ : St) (x1 : Int32) , fX8_table_l86 n σ x1 = some (r, σo) → WW G X 2 σ [(0, .ref (gad G 62)), (1, .int x1)] 86 [] := by
    intro n
    induction n with
    | zero =>
      intro σ x1 hF
      exact absurd hF (by intro z; cases z)
    | succ n ih =>
      intro σ x1 hF
      have hk86 := ih
      have hF : fX8_table_B86 (fX8_table_l86 n) σ x1 = some (r, σo) := hF
      unfold fX8_table_B86 at hF
      refine ww_iload_n cx dX8_table_86 rfl 1 rfl ?_
      refine ww_bipush cx dX8_table_87 bc_77 ?_
      refine ww_icmp_ge cx dX8_table_89 (tgt := 110) rfl hF (fun hF => ?_) (fun hF => ?_)
      · refine ww_aload_n cx dX8_table_110 rfl 0 rfl ?_
        refine gf_X8_9 cx dX8_table_111 ?_
        refine ww_bipush cx dX8_table_114 bc_6 ?_
        refine ww_iald (N := 77) cx (sh_63) dX8_table_116 hF (fun hF => ?_)
        exact ww_ris hE dX8_table_117 hF
      · refine ww_aload_n cx dX8_table_92 rfl 0 rfl ?_
        refine gf_X8_9 cx dX8_table_93 ?_
        refine ww_iload_n cx dX8_table_96 rfl 1 rfl ?_
        refine ww_aload_n cx dX8_table_97 rfl 0 rfl ?_
        refine gf_X8_31 cx dX8_table_98 ?_
        refine ww_iload_n cx dX8_table_101 rfl 1 rfl ?_
        refine ww_iald (N := 77) cx (sh_68) dX8_table_102 hF (fun hF => ?_)
        refine ww_iast (N := 77) cx (sh_63) dX8_table_103 hF (fun σ1 hF => ?_)
        refine ww_iinc (j := 1) (ks := [0, 1]) (lv' := fun v2 => [(1, .int v2), (0, .ref (gad G 62))]) cx dX8_table_104 (by decide) rfl ic_1 hF (fun _ => rfl) (fun v2 hF => ?_)
        refine ww_goto cx dX8_table_107 (tgt := 86) rfl ?_
        exact ww_sub [1, 0] rfl (hk86 _ _ hF)
  have hb74 : ∀ (σ : St) , fX8_table_b74 σ = some (r, σo) → WW G X 2 σ [(0, .ref (gad G 62))] 74 [] := by
    intro σ hF
    unfold fX8_table_b74 at hF
    refine ww_aload_n cx dX8_table_74 rfl 0 rfl ?_
    refine ww_V0_pi kv_X8_134 rfl cx sh_62 ⟨Nat.le_of_ble_eq_true rfl, Nat.le_of_ble_eq_true rfl⟩ (Nat.le_of_ble_eq_true rfl) dX8_table_75 (kX8_good G) hF (fun r3 hF => ?_)
    refine ww_if_ne cx dX8_table_78 (tgt := 84) rfl hF (fun hF => ?_) (fun hF => ?_)
    · refine ww_iconst cx dX8_table_84 ic_0 ?_
      refine ww_istore_n (ks := [0, 1]) (lv' := fun v4 => [(1, .int v4), (0, .ref (gad G 62))]) cx dX8_table_85 rfl (by decide) hF (fun _ => rfl) (fun v4 hF => ?_)
      exact ww_sub [1, 0] rfl (hl86 FU _ _ hF)
    · refine ww_bipush cx dX8_table_81 bc_m4 ?_
      exact ww_ris hE dX8_table_83 hF
  have hl53 : ∀ n : Nat, ∀ (σ : St) , fX8_table_l53 n σ = some (r, σo) → WW G X 2 σ [(0, .ref (gad G 62))] 53 [] := by
    intro n
    induction n with
    | zero =>
      intro σ hF
      exact absurd hF (by intro z; cases z)
    | succ n ih =>
      intro σ hF
      have hk53 := ih
      have hF : fX8_table_B53 (fX8_table_l53 n) σ = some (r, σo) := hF
      unfold fX8_table_B53 at hF
      refine ww_aload_n cx dX8_table_53 rfl 0 rfl ?_
      refine ww_V0_pi kv_X8_134 rfl cx sh_62 ⟨Nat.le_of_ble_eq_true rfl, Nat.le_of_ble_eq_true rfl⟩ (Nat.le_of_ble_eq_true rfl) dX8_table_54 (kX8_good G) hF (fun r5 hF => ?_)
      refine ww_if_eq cx dX8_table_57 (tgt := 74) rfl hF (fun hF => ?_) (fun hF => ?_)
      · exact hb74 _ hF
      · refine ww_aload_n cx dX8_table_60 rfl 0 rfl ?_
        refine gf_X8_111 cx dX8_table_61 ?_
        refine ww_if_eq cx dX8_table_64 (tgt := 74) rfl hF (fun hF => ?_) (fun hF => ?_)
        · exact hb74 _ hF
        · refine ww_aload_n cx dX8_table_67 rfl 0 rfl ?_
          refine ww_V0_sv kv_X8_251 rfl cx sh_62 ⟨Nat.le_of_ble_eq_true rfl, Nat.le_of_ble_eq_true rfl⟩ (Nat.le_of_ble_eq_true rfl) dX8_table_68 (kX8_readLine G) hF (fun σ6 hF => ?_)
          refine ww_goto cx dX8_table_71 (tgt := 53) rfl ?_
          exact hk53 _ hF
  have hl30 : ∀ n : Nat, ∀ (σ : St) (x1 : Int32) , fX8_table_l30 n σ x1 = some (r, σo) → WW G X 2 σ [(0, .ref (gad G 62)), (1, .int x1)] 30 [] := by
    intro n
    induction n with
    | zero =>
      intro σ x1 hF
      exact absurd hF (by intro z; cases z)
    | succ n ih =>
      intro σ x1 hF
      have hk30 := ih
      have hF : fX8_table_B30 (fX8_table_l30 n) σ x1 = some (r, σo) := hF
      unfold fX8_table_B30 at hF
      refine ww_iload_n cx dX8_table_30 rfl 1 rfl ?_
      refine ww_bipush cx dX8_table_31 bc_77 ?_
      refine ww_icmp_ge cx dX8_table_33 (tgt := 49) rfl hF (fun hF => ?_) (fun hF => ?_)
      · refine ww_aload_n cx dX8_table_49 rfl 0 rfl ?_
        refine ww_V0_sv kv_X8_151 rfl cx sh_62 ⟨Nat.le_of_ble_eq_true rfl, Nat.le_of_ble_eq_true rfl⟩ (Nat.le_of_ble_eq_true rfl) dX8_table_50 (kX8_advance G) hF (fun σ7 hF => ?_)
        exact ww_sub [0] rfl (hl53 FU _ hF)
      · refine ww_aload_n cx dX8_table_36 rfl 0 rfl ?_
        refine gf_X8_31 cx dX8_table_37 ?_
        refine ww_iload_n cx dX8_table_40 rfl 1 rfl ?_
        refine ww_iconst cx dX8_table_41 ic_0 ?_
        refine ww_iast (N := 77) cx (sh_68) dX8_table_42 hF (fun σ8 hF => ?_)
        refine ww_iinc (j := 1) (ks := [0, 1]) (lv' := fun v9 => [(1, .int v9), (0, .ref (gad G 62))]) cx dX8_table_43 (by decide) rfl ic_1 hF (fun _ => rfl) (fun v9 hF => ?_)
        refine ww_goto cx dX8_table_46 (tgt := 30) rfl ?_
        exact ww_sub [1, 0] rfl (hk30 _ _ hF)
  unfold fX8_table at hF
  show WW G X 2 σ [(0, .ref (gad G 62))] 0 []
  refine ww_aload_n cx dX8_table_0 rfl 0 rfl ?_
  refine ww_aload_n cx dX8_table_1 rfl 0 rfl ?_
  refine gf_X8_95 cx dX8_table_2 ?_
  refine pf_X8_98 cx dX8_table_5 hF (fun σ10 hF => ?_)
  refine ww_aload_n cx dX8_table_8 rfl 0 rfl ?_
  refine ww_iconst cx dX8_table_9 ic_0 ?_
  refine pf_X8_95 cx dX8_table_10 hF (fun σ11 hF => ?_)
  refine ww_aload_n cx dX8_table_13 rfl 0 rfl ?_
  refine ww_iconst cx dX8_table_14 ic_0 ?_
  refine pf_X8_101 cx dX8_table_15 hF (fun σ12 hF => ?_)
  refine ww_aload_n cx dX8_table_18 rfl 0 rfl ?_
  refine ww_iconst cx dX8_table_19 ic_0 ?_
  refine pf_X8_131 cx dX8_table_20 hF (fun σ13 hF => ?_)
  refine ww_aload_n cx dX8_table_23 rfl 0 rfl ?_
  refine ww_iconst cx dX8_table_24 ic_m1 ?_
  refine pf_X8_27 cx dX8_table_25 hF (fun σ14 hF => ?_)
  refine ww_iconst cx dX8_table_28 ic_0 ?_
  refine ww_istore_n (ks := [0, 1]) (lv' := fun v15 => [(1, .int v15), (0, .ref (gad G 62))]) cx dX8_table_29 rfl (by decide) hF (fun _ => rfl) (fun v15 hF => ?_)
  exact ww_sub [1, 0] rfl (hl30 FU _ _ hF)
theorem dX2_readForm_0 : decode cX2_readForm 0 = .ok (.aload_n 0, 1) := by decide +kernel
theorem dX2_readForm_1 : decode cX2_readForm 1 = .ok (.aload_n 1, 1) := by decide +kernel
theorem dX2_readForm_2 : decode cX2_readForm 2 = .ok (.invokevirtual 158, 3) := by decide +kernel
theorem dX2_readForm_5 : decode cX2_readForm 5 = .ok (.istore_n 3, 1) := by decide +kernel
theorem dX2_readForm_6 : decode cX2_readForm 6 = .ok (.aload_n 0, 1) := by decide +kernel
theorem dX2_readForm_7 : decode cX2_readForm 7 = .ok (.invokevirtual 162, 3) := by decide +kernel
theorem dX2_readForm_10 : decode cX2_readForm 10 = .ok (.istore 4, 2) := by decide +kernel
theorem dX2_readForm_12 : decode cX2_readForm 12 = .ok (.iload_n 3, 1) := by decide +kernel
theorem dX2_readForm_13 : decode cX2_readForm 13 = .ok (.iconst (-1), 1) := by decide +kernel
theorem dX2_readForm_14 : decode cX2_readForm 14 = .ok (.if_icmp .ne 16, 3) := by decide +kernel
theorem dX2_readForm_17 : decode cX2_readForm 17 = .ok (.iload 4, 2) := by decide +kernel
theorem dX2_readForm_19 : decode cX2_readForm 19 = .ok (.ifCond .ne 11, 3) := by decide +kernel
theorem dX2_readForm_22 : decode cX2_readForm 22 = .ok (.aload_n 0, 1) := by decide +kernel
theorem dX2_readForm_23 : decode cX2_readForm 23 = .ok (.iconst 1, 1) := by decide +kernel
theorem dX2_readForm_24 : decode cX2_readForm 24 = .ok (.invokevirtual 77, 3) := by decide +kernel
theorem dX2_readForm_27 : decode cX2_readForm 27 = .ok (.pop, 1) := by decide +kernel
theorem dX2_readForm_28 : decode cX2_readForm 28 = .ok (.iconst (-1), 1) := by decide +kernel
theorem dX2_readForm_29 : decode cX2_readForm 29 = .ok (.ireturn, 1) := by decide +kernel
theorem dX2_readForm_30 : decode cX2_readForm 30 = .ok (.iload_n 2, 1) := by decide +kernel
theorem dX2_readForm_31 : decode cX2_readForm 31 = .ok (.bipush 8, 2) := by decide +kernel
theorem dX2_readForm_33 : decode cX2_readForm 33 = .ok (.if_icmp .lt 11, 3) := by decide +kernel
theorem dX2_readForm_36 : decode cX2_readForm 36 = .ok (.aload_n 0, 1) := by decide +kernel
theorem dX2_readForm_37 : decode cX2_readForm 37 = .ok (.iconst 3, 1) := by decide +kernel
theorem dX2_readForm_38 : decode cX2_readForm 38 = .ok (.invokevirtual 77, 3) := by decide +kernel
theorem dX2_readForm_41 : decode cX2_readForm 41 = .ok (.pop, 1) := by decide +kernel
theorem dX2_readForm_42 : decode cX2_readForm 42 = .ok (.iconst (-1), 1) := by decide +kernel
theorem dX2_readForm_43 : decode cX2_readForm 43 = .ok (.ireturn, 1) := by decide +kernel
theorem dX2_readForm_44 : decode cX2_readForm 44 = .ok (.aload_n 0, 1) := by decide +kernel
theorem dX2_readForm_45 : decode cX2_readForm 45 = .ok (.invokevirtual 33, 3) := by decide +kernel
theorem dX2_readForm_48 : decode cX2_readForm 48 = .ok (.iload 4, 2) := by decide +kernel
theorem dX2_readForm_50 : decode cX2_readForm 50 = .ok (.ifCond .ne 7, 3) := by decide +kernel
theorem dX2_readForm_53 : decode cX2_readForm 53 = .ok (.iload_n 3, 1) := by decide +kernel
theorem dX2_readForm_54 : decode cX2_readForm 54 = .ok (.goto 13, 3) := by decide +kernel
theorem dX2_readForm_57 : decode cX2_readForm 57 = .ok (.aload_n 0, 1) := by decide +kernel
theorem dX2_readForm_58 : decode cX2_readForm 58 = .ok (.aload_n 1, 1) := by decide +kernel
theorem dX2_readForm_59 : decode cX2_readForm 59 = .ok (.iload 4, 2) := by decide +kernel
theorem dX2_readForm_61 : decode cX2_readForm 61 = .ok (.iload_n 2, 1) := by decide +kernel
theorem dX2_readForm_62 : decode cX2_readForm 62 = .ok (.iconst 1, 1) := by decide +kernel
theorem dX2_readForm_63 : decode cX2_readForm 63 = .ok (.iadd, 1) := by decide +kernel
theorem dX2_readForm_64 : decode cX2_readForm 64 = .ok (.invokevirtual 166, 3) := by decide +kernel
theorem dX2_readForm_67 : decode cX2_readForm 67 = .ok (.ireturn, 1) := by decide +kernel
set_option maxRecDepth 4000 in
theorem kX2_readForm_B (G : GT) (n kk : Nat) (hn : 7 ≤ n) (hkk : kk + 1 ≤ n) (rp : St → Nat → Int32 → Int32 → Option (Int32 × St)) (hrec : ∀ (σ : St) (t : Nat) (ht : isTab t) (b1 b2 : Int32) (r : Int32) (σ1 : St), rp σ t b1 b2 = some (r, σ1) → MCt G kk yX2_readParts cX2_readParts 6 (some .int) [.ref (gad G 1), .ref (gad G t), .int b1, .int b2] σ (some (.int r)) σ1) {σ : St} {t : Nat} {a2 : Int32} (ht : isTab t) : ∀ (r : Int32) (σo : St) , fX2_readForm_B rp σ t a2 = some (r, σo) → MCt G n yX2_readForm cX2_readForm 5 (some .int) [.ref (gad G 1), .ref (gad G t), .int a2] σ (some (.int r)) σo := by
  intro r σo hF
  refine met_i (by decide) (Nat.le_of_ble_eq_true rfl) (fun X cx hE => ?_)
  have cx : Cx G X RX2 cX2_readForm 5 n := cx
  have hb30 : ∀ (σ : St) (x2 : Int32) (x3 : Int32) (x4 : Int32) , fX2_readForm_b30 rp t σ x2 x3 x4 = some (r, σo) → WW G X 5 σ [(0, .ref (gad G 1)), (1, .ref (gad G t)), (2, .int x2), (3, .int x3), (4, .int x4)] 30 [] := by
    intro σ x2 x3 x4 hF
    unfold fX2_readForm_b30 at hF
    refine ww_iload_n cx dX2_readForm_30 rfl 2 rfl ?_
    refine ww_bipush cx dX2_readForm_31 bc_8 ?_
    refine ww_icmp_lt cx dX2_readForm_33 (tgt := 44) rfl hF (fun hF => ?_) (fun hF => ?_)
    · refine ww_aload_n cx dX2_readForm_44 rfl 0 rfl ?_
      refine ww_V0_sv kv_X2_33 rfl cx sh_1 ⟨by omega, Nat.le_of_ble_eq_true rfl⟩ (Nat.le_of_ble_eq_true rfl) dX2_readForm_45 (kX2_advance G) hF (fun σ1 hF => ?_)
      refine ww_iload cx dX2_readForm_48 4 rfl ?_
      refine ww_if_ne cx dX2_readForm_50 (tgt := 57) rfl hF (fun hF => ?_) (fun hF => ?_)
      · refine ww_aload_n cx dX2_readForm_57 rfl 0 rfl ?_
        refine ww_aload_n cx dX2_readForm_58 rfl 1 rfl ?_
        refine ww_iload cx dX2_readForm_59 4 rfl ?_
        refine ww_iload_n cx dX2_readForm_61 rfl 2 rfl ?_
        refine ww_iconst cx dX2_readForm_62 ic_1 ?_
        refine ww_iadd cx dX2_readForm_63 ?_
        refine ww_V3_si kv_X2_166 rfl cx sh_1 ⟨by omega, Nat.le_of_ble_eq_true rfl⟩ (Nat.le_of_ble_eq_true rfl) dX2_readForm_64 (fun r σ1 h => hrec _ _ (ht) _ _ r σ1 h) hF (fun r2 σ3 hF => ?_)
        exact ww_ris hE dX2_readForm_67 hF
      · refine ww_iload_n cx dX2_readForm_53 rfl 3 rfl ?_
        refine ww_goto cx dX2_readForm_54 (tgt := 67) rfl ?_
        exact ww_ris hE dX2_readForm_67 hF
    · refine ww_aload_n cx dX2_readForm_36 rfl 0 rfl ?_
      refine ww_iconst cx dX2_readForm_37 ic_3 ?_
      refine ww_V1_si kv_X2_77 rfl cx sh_1 ⟨by omega, Nat.le_of_ble_eq_true rfl⟩ (Nat.le_of_ble_eq_true rfl) dX2_readForm_38 (kX2_fail G) hF (fun r4 σ5 hF => ?_)
      refine ww_pop cx dX2_readForm_41 rfl ?_
      refine ww_iconst cx dX2_readForm_42 ic_m1 ?_
      exact ww_ris hE dX2_readForm_43 hF
  unfold fX2_readForm_B at hF
  show WW G X 5 σ [(0, .ref (gad G 1)), (1, .ref (gad G t)), (2, .int a2)] 0 []
  refine ww_aload_n cx dX2_readForm_0 rfl 0 rfl ?_
  refine ww_aload_n cx dX2_readForm_1 rfl 1 rfl ?_
  refine ww_V1_pi kv_X2_158 rfl cx sh_1 ⟨by omega, Nat.le_of_ble_eq_true rfl⟩ (Nat.le_of_ble_eq_true rfl) dX2_readForm_2 (kX2_worldsOfLeaf G (ht)) hF (fun r6 hF => ?_)
  refine ww_istore_n (ks := [0, 1, 2, 3]) (lv' := fun v7 => [(3, .int v7), (0, .ref (gad G 1)), (1, .ref (gad G t)), (2, .int a2)]) cx dX2_readForm_5 rfl (by decide) hF (fun _ => rfl) (fun v7 hF => ?_)
  refine ww_aload_n cx dX2_readForm_6 rfl 1 rfl ?_
  refine ww_V0_pi kv_X2_162 rfl cx sh_1 ⟨by omega, Nat.le_of_ble_eq_true rfl⟩ (Nat.le_of_ble_eq_true rfl) dX2_readForm_7 (kX2_operatorHere G) hF (fun r8 hF => ?_)
  refine ww_istore (ks := [0, 1, 2, 3, 4]) (lv' := fun v9 => [(4, .int v9), (3, .int v7), (0, .ref (gad G 1)), (1, .ref (gad G t)), (2, .int a2)]) cx dX2_readForm_10 (by decide) hF (fun _ => rfl) (fun v9 hF => ?_)
  refine ww_iload_n cx dX2_readForm_12 rfl 1 rfl ?_
  refine ww_iconst cx dX2_readForm_13 ic_m1 ?_
  refine ww_icmp_ne cx dX2_readForm_14 (tgt := 30) rfl hF (fun hF => ?_) (fun hF => ?_)
  · exact ww_sub [2, 3, 4, 1, 0] rfl (hb30 _ _ _ _ hF)
  · refine ww_iload cx dX2_readForm_17 0 rfl ?_
    refine ww_if_ne cx dX2_readForm_19 (tgt := 30) rfl hF (fun hF => ?_) (fun hF => ?_)
    · exact ww_sub [2, 3, 4, 1, 0] rfl (hb30 _ _ _ _ hF)
    · refine ww_aload_n cx dX2_readForm_22 rfl 2 rfl ?_
      refine ww_iconst cx dX2_readForm_23 ic_1 ?_
      refine ww_V1_si kv_X2_77 rfl cx sh_1 ⟨by omega, Nat.le_of_ble_eq_true rfl⟩ (Nat.le_of_ble_eq_true rfl) dX2_readForm_24 (kX2_fail G) hF (fun r10 σ11 hF => ?_)
      refine ww_pop cx dX2_readForm_27 rfl ?_
      refine ww_iconst cx dX2_readForm_28 ic_m1 ?_
      exact ww_ris hE dX2_readForm_29 hF
theorem dX2_readParts_0 : decode cX2_readParts 0 = .ok (.aload_n 0, 1) := by decide +kernel
theorem dX2_readParts_1 : decode cX2_readParts 1 = .ok (.aload_n 1, 1) := by decide +kernel
theorem dX2_readParts_2 : decode cX2_readParts 2 = .ok (.iload_n 3, 1) := by decide +kernel
theorem dX2_readParts_3 : decode cX2_readParts 3 = .ok (.invokevirtual 107, 3) := by decide +kernel
theorem dX2_readParts_6 : decode cX2_readParts 6 = .ok (.istore 4, 2) := by decide +kernel
theorem dX2_readParts_8 : decode cX2_readParts 8 = .ok (.iload 4, 2) := by decide +kernel
theorem dX2_readParts_10 : decode cX2_readParts 10 = .ok (.iconst (-1), 1) := by decide +kernel
theorem dX2_readParts_11 : decode cX2_readParts 11 = .ok (.if_icmp .eq 8, 3) := by decide +kernel
theorem dX2_readParts_14 : decode cX2_readParts 14 = .ok (.iload_n 2, 1) := by decide +kernel
theorem dX2_readParts_15 : decode cX2_readParts 15 = .ok (.iconst 4, 1) := by decide +kernel
theorem dX2_readParts_16 : decode cX2_readParts 16 = .ok (.if_icmp .ne 23, 3) := by decide +kernel
theorem dX2_readParts_19 : decode cX2_readParts 19 = .ok (.iload 4, 2) := by decide +kernel
theorem dX2_readParts_21 : decode cX2_readParts 21 = .ok (.iconst (-1), 1) := by decide +kernel
theorem dX2_readParts_22 : decode cX2_readParts 22 = .ok (.if_icmp .ne 7, 3) := by decide +kernel
theorem dX2_readParts_25 : decode cX2_readParts 25 = .ok (.iconst (-1), 1) := by decide +kernel
theorem dX2_readParts_26 : decode cX2_readParts 26 = .ok (.goto 12, 3) := by decide +kernel
theorem dX2_readParts_29 : decode cX2_readParts 29 = .ok (.aload_n 1, 1) := by decide +kernel
theorem dX2_readParts_30 : decode cX2_readParts 30 = .ok (.invokevirtual 170, 3) := by decide +kernel
theorem dX2_readParts_33 : decode cX2_readParts 33 = .ok (.iload 4, 2) := by decide +kernel
theorem dX2_readParts_35 : decode cX2_readParts 35 = .ok (.iconst (-1), 1) := by decide +kernel
theorem dX2_readParts_36 : decode cX2_readParts 36 = .ok (.ixor, 1) := by decide +kernel
theorem dX2_readParts_37 : decode cX2_readParts 37 = .ok (.iand, 1) := by decide +kernel
theorem dX2_readParts_38 : decode cX2_readParts 38 = .ok (.ireturn, 1) := by decide +kernel
theorem dX2_readParts_39 : decode cX2_readParts 39 = .ok (.aload_n 0, 1) := by decide +kernel
theorem dX2_readParts_40 : decode cX2_readParts 40 = .ok (.aload_n 1, 1) := by decide +kernel
theorem dX2_readParts_41 : decode cX2_readParts 41 = .ok (.iload_n 3, 1) := by decide +kernel
theorem dX2_readParts_42 : decode cX2_readParts 42 = .ok (.invokevirtual 107, 3) := by decide +kernel
theorem dX2_readParts_45 : decode cX2_readParts 45 = .ok (.istore 5, 2) := by decide +kernel
theorem dX2_readParts_47 : decode cX2_readParts 47 = .ok (.iload 5, 2) := by decide +kernel
theorem dX2_readParts_49 : decode cX2_readParts 49 = .ok (.iconst (-1), 1) := by decide +kernel
theorem dX2_readParts_50 : decode cX2_readParts 50 = .ok (.if_icmp .ne 5, 3) := by decide +kernel
theorem dX2_readParts_53 : decode cX2_readParts 53 = .ok (.iconst (-1), 1) := by decide +kernel
theorem dX2_readParts_54 : decode cX2_readParts 54 = .ok (.ireturn, 1) := by decide +kernel
theorem dX2_readParts_55 : decode cX2_readParts 55 = .ok (.iload_n 2, 1) := by decide +kernel
theorem dX2_readParts_56 : decode cX2_readParts 56 = .ok (.lookupswitch 40 #[(1, 28), (2, 34)], 28) := by decide +kernel
theorem dX2_readParts_84 : decode cX2_readParts 84 = .ok (.iload 4, 2) := by decide +kernel
theorem dX2_readParts_86 : decode cX2_readParts 86 = .ok (.iload 5, 2) := by decide +kernel
theorem dX2_readParts_88 : decode cX2_readParts 88 = .ok (.iand, 1) := by decide +kernel
theorem dX2_readParts_89 : decode cX2_readParts 89 = .ok (.ireturn, 1) := by decide +kernel
theorem dX2_readParts_90 : decode cX2_readParts 90 = .ok (.iload 4, 2) := by decide +kernel
theorem dX2_readParts_92 : decode cX2_readParts 92 = .ok (.iload 5, 2) := by decide +kernel
theorem dX2_readParts_94 : decode cX2_readParts 94 = .ok (.ior, 1) := by decide +kernel
theorem dX2_readParts_95 : decode cX2_readParts 95 = .ok (.ireturn, 1) := by decide +kernel
theorem dX2_readParts_96 : decode cX2_readParts 96 = .ok (.aload_n 1, 1) := by decide +kernel
theorem dX2_readParts_97 : decode cX2_readParts 97 = .ok (.invokevirtual 170, 3) := by decide +kernel
theorem dX2_readParts_100 : decode cX2_readParts 100 = .ok (.iload 4, 2) := by decide +kernel
theorem dX2_readParts_102 : decode cX2_readParts 102 = .ok (.iconst (-1), 1) := by decide +kernel
theorem dX2_readParts_103 : decode cX2_readParts 103 = .ok (.ixor, 1) := by decide +kernel
theorem dX2_readParts_104 : decode cX2_readParts 104 = .ok (.iload 5, 2) := by decide +kernel
theorem dX2_readParts_106 : decode cX2_readParts 106 = .ok (.ior, 1) := by decide +kernel
theorem dX2_readParts_107 : decode cX2_readParts 107 = .ok (.iand, 1) := by decide +kernel
theorem dX2_readParts_108 : decode cX2_readParts 108 = .ok (.ireturn, 1) := by decide +kernel
set_option maxRecDepth 4000 in
theorem kX2_readParts_B (G : GT) (n kk : Nat) (hn : 7 ≤ n) (hkk : kk + 1 ≤ n) (rf : St → Nat → Int32 → Option (Int32 × St)) (hrec : ∀ (σ : St) (t : Nat) (ht : isTab t) (b1 : Int32) (r : Int32) (σ1 : St), rf σ t b1 = some (r, σ1) → MCt G kk yX2_readForm cX2_readForm 5 (some .int) [.ref (gad G 1), .ref (gad G t), .int b1] σ (some (.int r)) σ1) {σ : St} {t : Nat} {a2 : Int32} {a3 : Int32} (ht : isTab t) : ∀ (r : Int32) (σo : St) , fX2_readParts_B rf σ t a2 a3 = some (r, σo) → MCt G n yX2_readParts cX2_readParts 6 (some .int) [.ref (gad G 1), .ref (gad G t), .int a2, .int a3] σ (some (.int r)) σo := by
  intro r σo hF
  refine met_i (by decide) (Nat.le_of_ble_eq_true rfl) (fun X cx hE => ?_)
  have cx : Cx G X RX2 cX2_readParts 6 n := cx
  have hb19 : ∀ (σ : St) (x4 : Int32) , fX2_readParts_b19 rf t σ x4 = some (r, σo) → WW G X 6 σ [(1, .ref (gad G t)), (4, .int x4)] 19 [] := by
    intro σ x4 hF
    unfold fX2_readParts_b19 at hF
    refine ww_iload cx dX2_readParts_19 1 rfl ?_
    refine ww_iconst cx dX2_readParts_21 ic_m1 ?_
    refine ww_icmp_ne cx dX2_readParts_22 (tgt := 29) rfl hF (fun hF => ?_) (fun hF => ?_)
    · refine ww_aload_n cx dX2_readParts_29 rfl 0 rfl ?_
      refine ww_V0_pi kv_X2_170 rfl cx ((ht).1) ⟨by omega, Nat.le_of_ble_eq_true rfl⟩ (Nat.le_of_ble_eq_true rfl) dX2_readParts_30 (kX6_allWorlds G (ht)) hF (fun r1 hF => ?_)
      refine ww_iload cx dX2_readParts_33 1 rfl ?_
      refine ww_iconst cx dX2_readParts_35 ic_m1 ?_
      refine ww_ixor cx dX2_readParts_36 ?_
      refine ww_iand cx dX2_readParts_37 ?_
      exact ww_ris hE dX2_readParts_38 hF
    · refine ww_iconst cx dX2_readParts_25 ic_m1 ?_
      refine ww_goto cx dX2_readParts_26 (tgt := 38) rfl ?_
      exact ww_ris hE dX2_readParts_38 hF
  unfold fX2_readParts_B at hF
  show WW G X 6 σ [(0, .ref (gad G 1)), (1, .ref (gad G t)), (2, .int a2), (3, .int a3)] 0 []
  refine ww_aload_n cx dX2_readParts_0 rfl 0 rfl ?_
  refine ww_aload_n cx dX2_readParts_1 rfl 1 rfl ?_
  refine ww_iload_n cx dX2_readParts_2 rfl 3 rfl ?_
  refine ww_V2_si kv_X2_107 rfl cx sh_1 ⟨by omega, Nat.le_of_ble_eq_true rfl⟩ (Nat.le_of_ble_eq_true rfl) dX2_readParts_3 (fun r σ1 h => hrec _ _ (ht) _ r σ1 h) hF (fun r2 σ3 hF => ?_)
  refine ww_istore (ks := [0, 1, 2, 3, 4]) (lv' := fun v4 => [(4, .int v4), (0, .ref (gad G 1)), (1, .ref (gad G t)), (2, .int a2), (3, .int a3)]) cx dX2_readParts_6 (by decide) hF (fun _ => rfl) (fun v4 hF => ?_)
  refine ww_iload cx dX2_readParts_8 0 rfl ?_
  refine ww_iconst cx dX2_readParts_10 ic_m1 ?_
  refine ww_icmp_eq cx dX2_readParts_11 (tgt := 19) rfl hF (fun hF => ?_) (fun hF => ?_)
  · exact ww_sub [2, 0] rfl (hb19 _ _ hF)
  · refine ww_iload_n cx dX2_readParts_14 rfl 3 rfl ?_
    refine ww_iconst cx dX2_readParts_15 ic_4 ?_
    refine ww_icmp_ne cx dX2_readParts_16 (tgt := 39) rfl hF (fun hF => ?_) (fun hF => ?_)
    · refine ww_aload_n cx dX2_readParts_39 rfl 1 rfl ?_
      refine ww_aload_n cx dX2_readParts_40 rfl 2 rfl ?_
      refine ww_iload_n cx dX2_readParts_41 rfl 4 rfl ?_
      refine ww_V2_si kv_X2_107 rfl cx sh_1 ⟨by omega, Nat.le_of_ble_eq_true rfl⟩ (Nat.le_of_ble_eq_true rfl) dX2_readParts_42 (fun r σ1 h => hrec _ _ (ht) _ r σ1 h) hF (fun r5 σ6 hF => ?_)
      refine ww_istore (ks := [0, 1, 3, 4]) (lv' := fun v7 => [(5, .int v7), (4, .int v4), (1, .ref (gad G t)), (2, .int a2)]) cx dX2_readParts_45 (by decide) hF (fun _ => rfl) (fun v7 hF => ?_)
      refine ww_iload cx dX2_readParts_47 0 rfl ?_
      refine ww_iconst cx dX2_readParts_49 ic_m1 ?_
      refine ww_icmp_ne cx dX2_readParts_50 (tgt := 55) rfl hF (fun hF => ?_) (fun hF => ?_)
      · refine ww_iload_n cx dX2_readParts_55 rfl 3 rfl ?_
        by_cases e0 : a2 = 1
        · replace hF := it_t e0 hF
          refine ww_lsIn (v := 1) (tgt := 84) cx dX2_readParts_56 e0 (by decide +kernel) rfl rfl ?_
          refine ww_iload cx dX2_readParts_84 1 rfl ?_
          refine ww_iload cx dX2_readParts_86 0 rfl ?_
          refine ww_iand cx dX2_readParts_88 ?_
          exact ww_ris hE dX2_readParts_89 hF
        replace hF := it_f e0 hF
        by_cases e1 : a2 = 2
        · replace hF := it_t e1 hF
          refine ww_lsIn (v := 2) (tgt := 90) cx dX2_readParts_56 e1 (by decide +kernel) rfl rfl ?_
          refine ww_iload cx dX2_readParts_90 1 rfl ?_
          refine ww_iload cx dX2_readParts_92 0 rfl ?_
          refine ww_ior cx dX2_readParts_94 ?_
          exact ww_ris hE dX2_readParts_95 hF
        replace hF := it_f e1 hF
        refine ww_lsOut (tgt := 96) cx dX2_readParts_56 (by decide +kernel) (ls_out2 e0 e1) rfl ?_
        refine ww_aload_n cx dX2_readParts_96 rfl 2 rfl ?_
        refine ww_V0_pi kv_X2_170 rfl cx ((ht).1) ⟨by omega, Nat.le_of_ble_eq_true rfl⟩ (Nat.le_of_ble_eq_true rfl) dX2_readParts_97 (kX6_allWorlds G (ht)) hF (fun r8 hF => ?_)
        refine ww_iload cx dX2_readParts_100 1 rfl ?_
        refine ww_iconst cx dX2_readParts_102 ic_m1 ?_
        refine ww_ixor cx dX2_readParts_103 ?_
        refine ww_iload cx dX2_readParts_104 0 rfl ?_
        refine ww_ior cx dX2_readParts_106 ?_
        refine ww_iand cx dX2_readParts_107 ?_
        exact ww_ris hE dX2_readParts_108 hF
      · refine ww_iconst cx dX2_readParts_53 ic_m1 ?_
        exact ww_ris hE dX2_readParts_54 hF
    · exact ww_sub [2, 0] rfl (hb19 _ _ hF)
theorem kX2_readForm (G : GT) : ∀ (d : Nat) {σ : St} {t : Nat} {a2 : Int32} (ht : isTab t) (r : Int32) (σo : St), fX2_readForm d σ t a2 = some (r, σo) → MCt G (7 + 2 * d) yX2_readForm cX2_readForm 5 (some .int) [.ref (gad G 1), .ref (gad G t), .int a2] σ (some (.int r)) σo := by
  intro d
  induction d with
  | zero => intro σ t a2 ht r σo h; cases h
  | succ d ih =>
    intro σ t a2 ht r σo h
    refine kX2_readForm_B G (7 + 2 * (d + 1)) (7 + 2 * d + 1) (by omega) (by omega) (fX2_readParts_B (fX2_readForm d)) ?_ ht r σo h
    intro σ t ht b1 b2 r σ1 h
    exact kX2_readParts_B G (7 + 2 * d + 1) (7 + 2 * d) (by omega) (by omega) (fX2_readForm d) (fun σ t ht b1 r σ1 h => ih ht r σ1 h) ht r σ1 h
theorem dX2_readClaim_0 : decode cX2_readClaim 0 = .ok (.aload_n 1, 1) := by decide +kernel
theorem dX2_readClaim_1 : decode cX2_readClaim 1 = .ok (.getfield 102, 3) := by decide +kernel
theorem dX2_readClaim_4 : decode cX2_readClaim 4 = .ok (.bipush 12, 2) := by decide +kernel
theorem dX2_readClaim_6 : decode cX2_readClaim 6 = .ok (.if_icmp .lt 9, 3) := by decide +kernel
theorem dX2_readClaim_9 : decode cX2_readClaim 9 = .ok (.aload_n 0, 1) := by decide +kernel
theorem dX2_readClaim_10 : decode cX2_readClaim 10 = .ok (.iconst 3, 1) := by decide +kernel
theorem dX2_readClaim_11 : decode cX2_readClaim 11 = .ok (.invokevirtual 77, 3) := by decide +kernel
theorem dX2_readClaim_14 : decode cX2_readClaim 14 = .ok (.ireturn, 1) := by decide +kernel
theorem dX2_readClaim_15 : decode cX2_readClaim 15 = .ok (.aload_n 0, 1) := by decide +kernel
theorem dX2_readClaim_16 : decode cX2_readClaim 16 = .ok (.invokevirtual 33, 3) := by decide +kernel
theorem dX2_readClaim_19 : decode cX2_readClaim 19 = .ok (.aload_n 0, 1) := by decide +kernel
theorem dX2_readClaim_20 : decode cX2_readClaim 20 = .ok (.ldc 105, 2) := by decide +kernel
theorem dX2_readClaim_22 : decode cX2_readClaim 22 = .ok (.iconst 0, 1) := by decide +kernel
theorem dX2_readClaim_23 : decode cX2_readClaim 23 = .ok (.bipush 99, 2) := by decide +kernel
theorem dX2_readClaim_25 : decode cX2_readClaim 25 = .ok (.invokevirtual 88, 3) := by decide +kernel
theorem dX2_readClaim_28 : decode cX2_readClaim 28 = .ok (.istore_n 2, 1) := by decide +kernel
theorem dX2_readClaim_29 : decode cX2_readClaim 29 = .ok (.iload_n 2, 1) := by decide +kernel
theorem dX2_readClaim_30 : decode cX2_readClaim 30 = .ok (.iconst (-1), 1) := by decide +kernel
theorem dX2_readClaim_31 : decode cX2_readClaim 31 = .ok (.if_icmp .ne 5, 3) := by decide +kernel
theorem dX2_readClaim_34 : decode cX2_readClaim 34 = .ok (.iconst 0, 1) := by decide +kernel
theorem dX2_readClaim_35 : decode cX2_readClaim 35 = .ok (.ireturn, 1) := by decide +kernel
theorem dX2_readClaim_36 : decode cX2_readClaim 36 = .ok (.aload_n 0, 1) := by decide +kernel
theorem dX2_readClaim_37 : decode cX2_readClaim 37 = .ok (.aload_n 1, 1) := by decide +kernel
theorem dX2_readClaim_38 : decode cX2_readClaim 38 = .ok (.iconst 0, 1) := by decide +kernel
theorem dX2_readClaim_39 : decode cX2_readClaim 39 = .ok (.invokevirtual 107, 3) := by decide +kernel
theorem dX2_readClaim_42 : decode cX2_readClaim 42 = .ok (.istore_n 3, 1) := by decide +kernel
theorem dX2_readClaim_43 : decode cX2_readClaim 43 = .ok (.iload_n 3, 1) := by decide +kernel
theorem dX2_readClaim_44 : decode cX2_readClaim 44 = .ok (.iconst (-1), 1) := by decide +kernel
theorem dX2_readClaim_45 : decode cX2_readClaim 45 = .ok (.if_icmp .ne 5, 3) := by decide +kernel
theorem dX2_readClaim_48 : decode cX2_readClaim 48 = .ok (.iconst 0, 1) := by decide +kernel
theorem dX2_readClaim_49 : decode cX2_readClaim 49 = .ok (.ireturn, 1) := by decide +kernel
theorem dX2_readClaim_50 : decode cX2_readClaim 50 = .ok (.aload_n 1, 1) := by decide +kernel
theorem dX2_readClaim_51 : decode cX2_readClaim 51 = .ok (.getfield 111, 3) := by decide +kernel
theorem dX2_readClaim_54 : decode cX2_readClaim 54 = .ok (.aload_n 1, 1) := by decide +kernel
theorem dX2_readClaim_55 : decode cX2_readClaim 55 = .ok (.getfield 102, 3) := by decide +kernel
theorem dX2_readClaim_58 : decode cX2_readClaim 58 = .ok (.iload_n 2, 1) := by decide +kernel
theorem dX2_readClaim_59 : decode cX2_readClaim 59 = .ok (.iastore, 1) := by decide +kernel
theorem dX2_readClaim_60 : decode cX2_readClaim 60 = .ok (.aload_n 1, 1) := by decide +kernel
theorem dX2_readClaim_61 : decode cX2_readClaim 61 = .ok (.getfield 114, 3) := by decide +kernel
theorem dX2_readClaim_64 : decode cX2_readClaim 64 = .ok (.aload_n 1, 1) := by decide +kernel
theorem dX2_readClaim_65 : decode cX2_readClaim 65 = .ok (.getfield 102, 3) := by decide +kernel
theorem dX2_readClaim_68 : decode cX2_readClaim 68 = .ok (.iload_n 3, 1) := by decide +kernel
theorem dX2_readClaim_69 : decode cX2_readClaim 69 = .ok (.iastore, 1) := by decide +kernel
theorem dX2_readClaim_70 : decode cX2_readClaim 70 = .ok (.aload_n 1, 1) := by decide +kernel
theorem dX2_readClaim_71 : decode cX2_readClaim 71 = .ok (.dup, 1) := by decide +kernel
theorem dX2_readClaim_72 : decode cX2_readClaim 72 = .ok (.getfield 102, 3) := by decide +kernel
theorem dX2_readClaim_75 : decode cX2_readClaim 75 = .ok (.iconst 1, 1) := by decide +kernel
theorem dX2_readClaim_76 : decode cX2_readClaim 76 = .ok (.iadd, 1) := by decide +kernel
theorem dX2_readClaim_77 : decode cX2_readClaim 77 = .ok (.putfield 102, 3) := by decide +kernel
theorem dX2_readClaim_80 : decode cX2_readClaim 80 = .ok (.iconst 1, 1) := by decide +kernel
theorem dX2_readClaim_81 : decode cX2_readClaim 81 = .ok (.ireturn, 1) := by decide +kernel
set_option maxRecDepth 4000 in
theorem kX2_readClaim (G : GT) {σ : St} {t : Nat} (ht : isTab t) : ∀ (r : Int32) (σo : St) , fX2_readClaim σ t = some (r, σo) → MCt G 28 yX2_readClaim cX2_readClaim 4 (some .boolean) [.ref (gad G 1), .ref (gad G t)] σ (some (.int r)) σo := by
  intro r σo hF
  refine met_zz (by decide) (Nat.le_of_ble_eq_true rfl) (fun X cx hE => ?_)
  have cx : Cx G X RX2 cX2_readClaim 4 28 := cx
  unfold fX2_readClaim at hF
  show WW G X 4 σ [(0, .ref (gad G 1)), (1, .ref (gad G t))] 0 []
  refine ww_aload_n cx dX2_readClaim_0 rfl 1 rfl ?_
  refine gf_X2_102 cx (ht) dX2_readClaim_1 ?_
  refine ww_bipush cx dX2_readClaim_4 bc_12 ?_
  refine ww_icmp_lt cx dX2_readClaim_6 (tgt := 15) rfl hF (fun hF => ?_) (fun hF => ?_)
  · refine ww_aload_n cx dX2_readClaim_15 rfl 0 rfl ?_
    refine ww_V0_sv kv_X2_33 rfl cx sh_1 ⟨Nat.le_of_ble_eq_true rfl, Nat.le_of_ble_eq_true rfl⟩ (Nat.le_of_ble_eq_true rfl) dX2_readClaim_16 (kX2_advance G) hF (fun σ1 hF => ?_)
    refine ww_aload_n cx dX2_readClaim_19 rfl 0 rfl ?_
    refine ww_ldcS (w := 5) (tx := "worth") cx (by decide +kernel) dX2_readClaim_20 ?_
    refine ww_iconst cx dX2_readClaim_22 ic_0 ?_
    refine ww_bipush cx dX2_readClaim_23 bc_99 ?_
    refine ww_V3_si kv_X2_88 rfl cx sh_1 ⟨Nat.le_of_ble_eq_true rfl, Nat.le_of_ble_eq_true rfl⟩ (Nat.le_of_ble_eq_true rfl) dX2_readClaim_25 (kX2_readNamed G (by decide)) hF (fun r2 σ3 hF => ?_)
    refine ww_istore_n (ks := [0, 1, 2]) (lv' := fun v4 => [(2, .int v4), (0, .ref (gad G 1)), (1, .ref (gad G t))]) cx dX2_readClaim_28 rfl (by decide) hF (fun _ => rfl) (fun v4 hF => ?_)
    refine ww_iload_n cx dX2_readClaim_29 rfl 0 rfl ?_
    refine ww_iconst cx dX2_readClaim_30 ic_m1 ?_
    refine ww_icmp_ne cx dX2_readClaim_31 (tgt := 36) rfl hF (fun hF => ?_) (fun hF => ?_)
    · refine ww_aload_n cx dX2_readClaim_36 rfl 1 rfl ?_
      refine ww_aload_n cx dX2_readClaim_37 rfl 2 rfl ?_
      refine ww_iconst cx dX2_readClaim_38 ic_0 ?_
      refine ww_V2_si kv_X2_107 rfl cx sh_1 ⟨Nat.le_of_ble_eq_true rfl, Nat.le_of_ble_eq_true rfl⟩ (Nat.le_of_ble_eq_true rfl) dX2_readClaim_39 (kX2_readForm G FD (ht)) hF (fun r5 σ6 hF => ?_)
      refine ww_istore_n (ks := [0, 1, 3]) (lv' := fun v7 => [(3, .int v7), (2, .int v4), (1, .ref (gad G t))]) cx dX2_readClaim_42 rfl (by decide) hF (fun _ => rfl) (fun v7 hF => ?_)
      refine ww_iload_n cx dX2_readClaim_43 rfl 0 rfl ?_
      refine ww_iconst cx dX2_readClaim_44 ic_m1 ?_
      refine ww_icmp_ne cx dX2_readClaim_45 (tgt := 50) rfl hF (fun hF => ?_) (fun hF => ?_)
      · refine ww_aload_n cx dX2_readClaim_50 rfl 2 rfl ?_
        refine gf_X2_111 cx (ht) dX2_readClaim_51 ?_
        refine ww_aload_n cx dX2_readClaim_54 rfl 2 rfl ?_
        refine gf_X2_102 cx (ht) dX2_readClaim_55 ?_
        refine ww_iload_n cx dX2_readClaim_58 rfl 1 rfl ?_
        refine ww_iast (N := 12) cx (ar_X6_8 ht) dX2_readClaim_59 hF (fun σ8 hF => ?_)
        refine ww_aload_n cx dX2_readClaim_60 rfl 2 rfl ?_
        refine gf_X2_114 cx (ht) dX2_readClaim_61 ?_
        refine ww_aload_n cx dX2_readClaim_64 rfl 2 rfl ?_
        refine gf_X2_102 cx (ht) dX2_readClaim_65 ?_
        refine ww_iload_n cx dX2_readClaim_68 rfl 0 rfl ?_
        refine ww_iast (N := 12) cx (ar_X6_9 ht) dX2_readClaim_69 hF (fun σ9 hF => ?_)
        refine ww_aload_n cx dX2_readClaim_70 rfl 2 rfl ?_
        refine ww_dup cx dX2_readClaim_71 rfl ?_
        refine gf_X2_102 cx (ht) dX2_readClaim_72 ?_
        refine ww_iconst cx dX2_readClaim_75 ic_1 ?_
        refine ww_iadd cx dX2_readClaim_76 ?_
        refine pf_X2_102 cx (ht) dX2_readClaim_77 hF (fun σ10 hF => ?_)
        refine ww_iconst cx dX2_readClaim_80 ic_1 ?_
        exact ww_rzs hE dX2_readClaim_81 hF
      · refine ww_iconst cx dX2_readClaim_48 ic_0 ?_
        exact ww_rzs hE dX2_readClaim_49 hF
    · refine ww_iconst cx dX2_readClaim_34 ic_0 ?_
      exact ww_rzs hE dX2_readClaim_35 hF
  · refine ww_aload_n cx dX2_readClaim_9 rfl 0 rfl ?_
    refine ww_iconst cx dX2_readClaim_10 ic_3 ?_
    refine ww_V1_si kv_X2_77 rfl cx sh_1 ⟨Nat.le_of_ble_eq_true rfl, Nat.le_of_ble_eq_true rfl⟩ (Nat.le_of_ble_eq_true rfl) dX2_readClaim_11 (kX2_fail G) hF (fun r11 σ12 hF => ?_)
    exact ww_rzs hE dX2_readClaim_14 hF
theorem dX2_readLine_0 : decode cX2_readLine 0 = .ok (.aload_n 1, 1) := by decide +kernel
theorem dX2_readLine_1 : decode cX2_readLine 1 = .ok (.getfield 47, 3) := by decide +kernel
theorem dX2_readLine_4 : decode cX2_readLine 4 = .ok (.ifCond .ne 9, 3) := by decide +kernel
theorem dX2_readLine_7 : decode cX2_readLine 7 = .ok (.aload_n 0, 1) := by decide +kernel
theorem dX2_readLine_8 : decode cX2_readLine 8 = .ok (.aload_n 1, 1) := by decide +kernel
theorem dX2_readLine_9 : decode cX2_readLine 9 = .ok (.invokevirtual 50, 3) := by decide +kernel
theorem dX2_readLine_12 : decode cX2_readLine 12 = .ok (.ireturn, 1) := by decide +kernel
theorem dX2_readLine_13 : decode cX2_readLine 13 = .ok (.aload_n 0, 1) := by decide +kernel
theorem dX2_readLine_14 : decode cX2_readLine 14 = .ok (.ldc 53, 2) := by decide +kernel
theorem dX2_readLine_16 : decode cX2_readLine 16 = .ok (.invokevirtual 55, 3) := by decide +kernel
theorem dX2_readLine_19 : decode cX2_readLine 19 = .ok (.ifCond .eq 9, 3) := by decide +kernel
theorem dX2_readLine_22 : decode cX2_readLine 22 = .ok (.aload_n 0, 1) := by decide +kernel
theorem dX2_readLine_23 : decode cX2_readLine 23 = .ok (.aload_n 1, 1) := by decide +kernel
theorem dX2_readLine_24 : decode cX2_readLine 24 = .ok (.invokevirtual 59, 3) := by decide +kernel
theorem dX2_readLine_27 : decode cX2_readLine 27 = .ok (.ireturn, 1) := by decide +kernel
theorem dX2_readLine_28 : decode cX2_readLine 28 = .ok (.aload_n 0, 1) := by decide +kernel
theorem dX2_readLine_29 : decode cX2_readLine 29 = .ok (.ldc 62, 2) := by decide +kernel
theorem dX2_readLine_31 : decode cX2_readLine 31 = .ok (.invokevirtual 55, 3) := by decide +kernel
theorem dX2_readLine_34 : decode cX2_readLine 34 = .ok (.ifCond .eq 9, 3) := by decide +kernel
theorem dX2_readLine_37 : decode cX2_readLine 37 = .ok (.aload_n 0, 1) := by decide +kernel
theorem dX2_readLine_38 : decode cX2_readLine 38 = .ok (.aload_n 1, 1) := by decide +kernel
theorem dX2_readLine_39 : decode cX2_readLine 39 = .ok (.invokevirtual 64, 3) := by decide +kernel
theorem dX2_readLine_42 : decode cX2_readLine 42 = .ok (.ireturn, 1) := by decide +kernel
theorem dX2_readLine_43 : decode cX2_readLine 43 = .ok (.aload_n 0, 1) := by decide +kernel
theorem dX2_readLine_44 : decode cX2_readLine 44 = .ok (.ldc 67, 2) := by decide +kernel
theorem dX2_readLine_46 : decode cX2_readLine 46 = .ok (.invokevirtual 55, 3) := by decide +kernel
theorem dX2_readLine_49 : decode cX2_readLine 49 = .ok (.ifCond .eq 9, 3) := by decide +kernel
theorem dX2_readLine_52 : decode cX2_readLine 52 = .ok (.aload_n 0, 1) := by decide +kernel
theorem dX2_readLine_53 : decode cX2_readLine 53 = .ok (.aload_n 1, 1) := by decide +kernel
theorem dX2_readLine_54 : decode cX2_readLine 54 = .ok (.invokevirtual 69, 3) := by decide +kernel
theorem dX2_readLine_57 : decode cX2_readLine 57 = .ok (.ireturn, 1) := by decide +kernel
theorem dX2_readLine_58 : decode cX2_readLine 58 = .ok (.aload_n 0, 1) := by decide +kernel
theorem dX2_readLine_59 : decode cX2_readLine 59 = .ok (.ldc 72, 2) := by decide +kernel
theorem dX2_readLine_61 : decode cX2_readLine 61 = .ok (.invokevirtual 55, 3) := by decide +kernel
theorem dX2_readLine_64 : decode cX2_readLine 64 = .ok (.ifCond .eq 9, 3) := by decide +kernel
theorem dX2_readLine_67 : decode cX2_readLine 67 = .ok (.aload_n 0, 1) := by decide +kernel
theorem dX2_readLine_68 : decode cX2_readLine 68 = .ok (.aload_n 1, 1) := by decide +kernel
theorem dX2_readLine_69 : decode cX2_readLine 69 = .ok (.invokevirtual 74, 3) := by decide +kernel
theorem dX2_readLine_72 : decode cX2_readLine 72 = .ok (.ireturn, 1) := by decide +kernel
theorem dX2_readLine_73 : decode cX2_readLine 73 = .ok (.aload_n 0, 1) := by decide +kernel
theorem dX2_readLine_74 : decode cX2_readLine 74 = .ok (.iconst 1, 1) := by decide +kernel
theorem dX2_readLine_75 : decode cX2_readLine 75 = .ok (.invokevirtual 77, 3) := by decide +kernel
theorem dX2_readLine_78 : decode cX2_readLine 78 = .ok (.ireturn, 1) := by decide +kernel
set_option maxRecDepth 4000 in
theorem kX2_readLine (G : GT) {σ : St} {t : Nat} (ht : isTab t) : ∀ (r : Int32) (σo : St) , fX2_readLine σ t = some (r, σo) → MCt G 29 yX2_readLine cX2_readLine 2 (some .boolean) [.ref (gad G 1), .ref (gad G t)] σ (some (.int r)) σo := by
  intro r σo hF
  refine met_zz (by decide) (Nat.le_of_ble_eq_true rfl) (fun X cx hE => ?_)
  have cx : Cx G X RX2 cX2_readLine 2 29 := cx
  unfold fX2_readLine at hF
  show WW G X 2 σ [(0, .ref (gad G 1)), (1, .ref (gad G t))] 0 []
  refine ww_aload_n cx dX2_readLine_0 rfl 1 rfl ?_
  refine gf_X2_47 cx (ht) dX2_readLine_1 ?_
  refine ww_if_ne cx dX2_readLine_4 (tgt := 13) rfl hF (fun hF => ?_) (fun hF => ?_)
  · refine ww_aload_n cx dX2_readLine_13 rfl 0 rfl ?_
    refine ww_ldcS (w := 4) (tx := "claim") cx (by decide +kernel) dX2_readLine_14 ?_
    refine ww_V1_pi kv_X2_55 rfl cx sh_1 ⟨Nat.le_of_ble_eq_true rfl, Nat.le_of_ble_eq_true rfl⟩ (Nat.le_of_ble_eq_true rfl) dX2_readLine_16 (kX2_isWord G (by decide)) hF (fun r1 hF => ?_)
    refine ww_if_eq cx dX2_readLine_19 (tgt := 28) rfl hF (fun hF => ?_) (fun hF => ?_)
    · refine ww_aload_n cx dX2_readLine_28 rfl 0 rfl ?_
      refine ww_ldcS (w := 12) (tx := "salt") cx (by decide +kernel) dX2_readLine_29 ?_
      refine ww_V1_pi kv_X2_55 rfl cx sh_1 ⟨Nat.le_of_ble_eq_true rfl, Nat.le_of_ble_eq_true rfl⟩ (Nat.le_of_ble_eq_true rfl) dX2_readLine_31 (kX2_isWord G (by decide)) hF (fun r2 hF => ?_)
      refine ww_if_eq cx dX2_readLine_34 (tgt := 43) rfl hF (fun hF => ?_) (fun hF => ?_)
      · refine ww_aload_n cx dX2_readLine_43 rfl 0 rfl ?_
        refine ww_ldcS (w := 13) (tx := "step") cx (by decide +kernel) dX2_readLine_44 ?_
        refine ww_V1_pi kv_X2_55 rfl cx sh_1 ⟨Nat.le_of_ble_eq_true rfl, Nat.le_of_ble_eq_true rfl⟩ (Nat.le_of_ble_eq_true rfl) dX2_readLine_46 (kX2_isWord G (by decide)) hF (fun r3 hF => ?_)
        refine ww_if_eq cx dX2_readLine_49 (tgt := 58) rfl hF (fun hF => ?_) (fun hF => ?_)
        · refine ww_aload_n cx dX2_readLine_58 rfl 0 rfl ?_
          refine ww_ldcS (w := 15) (tx := "guest") cx (by decide +kernel) dX2_readLine_59 ?_
          refine ww_V1_pi kv_X2_55 rfl cx sh_1 ⟨Nat.le_of_ble_eq_true rfl, Nat.le_of_ble_eq_true rfl⟩ (Nat.le_of_ble_eq_true rfl) dX2_readLine_61 (kX2_isWord G (by decide)) hF (fun r4 hF => ?_)
          refine ww_if_eq cx dX2_readLine_64 (tgt := 73) rfl hF (fun hF => ?_) (fun hF => ?_)
          · refine ww_aload_n cx dX2_readLine_73 rfl 0 rfl ?_
            refine ww_iconst cx dX2_readLine_74 ic_1 ?_
            refine ww_V1_si kv_X2_77 rfl cx sh_1 ⟨Nat.le_of_ble_eq_true rfl, Nat.le_of_ble_eq_true rfl⟩ (Nat.le_of_ble_eq_true rfl) dX2_readLine_75 (kX2_fail G) hF (fun r5 σ6 hF => ?_)
            exact ww_rzs hE dX2_readLine_78 hF
          · refine ww_aload_n cx dX2_readLine_67 rfl 0 rfl ?_
            refine ww_aload_n cx dX2_readLine_68 rfl 1 rfl ?_
            refine ww_V1_si kv_X2_74 rfl cx sh_1 ⟨Nat.le_of_ble_eq_true rfl, Nat.le_of_ble_eq_true rfl⟩ (Nat.le_of_ble_eq_true rfl) dX2_readLine_69 (kX2_readGuest G (ht)) hF (fun r7 σ8 hF => ?_)
            exact ww_rzs hE dX2_readLine_72 hF
        · refine ww_aload_n cx dX2_readLine_52 rfl 0 rfl ?_
          refine ww_aload_n cx dX2_readLine_53 rfl 1 rfl ?_
          refine ww_V1_si kv_X2_69 rfl cx sh_1 ⟨Nat.le_of_ble_eq_true rfl, Nat.le_of_ble_eq_true rfl⟩ (Nat.le_of_ble_eq_true rfl) dX2_readLine_54 (kX2_readStep G (ht)) hF (fun r9 σ10 hF => ?_)
          exact ww_rzs hE dX2_readLine_57 hF
      · refine ww_aload_n cx dX2_readLine_37 rfl 0 rfl ?_
        refine ww_aload_n cx dX2_readLine_38 rfl 1 rfl ?_
        refine ww_V1_si kv_X2_64 rfl cx sh_1 ⟨Nat.le_of_ble_eq_true rfl, Nat.le_of_ble_eq_true rfl⟩ (Nat.le_of_ble_eq_true rfl) dX2_readLine_39 (kX2_readSalt G (ht)) hF (fun r11 σ12 hF => ?_)
        exact ww_rzs hE dX2_readLine_42 hF
    · refine ww_aload_n cx dX2_readLine_22 rfl 0 rfl ?_
      refine ww_aload_n cx dX2_readLine_23 rfl 1 rfl ?_
      refine ww_V1_si kv_X2_59 rfl cx sh_1 ⟨Nat.le_of_ble_eq_true rfl, Nat.le_of_ble_eq_true rfl⟩ (Nat.le_of_ble_eq_true rfl) dX2_readLine_24 (kX2_readClaim G (ht)) hF (fun r13 σ14 hF => ?_)
      exact ww_rzs hE dX2_readLine_27 hF
  · refine ww_aload_n cx dX2_readLine_7 rfl 0 rfl ?_
    refine ww_aload_n cx dX2_readLine_8 rfl 1 rfl ?_
    refine ww_V1_si kv_X2_50 rfl cx sh_1 ⟨Nat.le_of_ble_eq_true rfl, Nat.le_of_ble_eq_true rfl⟩ (Nat.le_of_ble_eq_true rfl) dX2_readLine_9 (kX2_readHead G (ht)) hF (fun r15 σ16 hF => ?_)
    exact ww_rzs hE dX2_readLine_12 hF
theorem dX2_readTable_0 : decode cX2_readTable 0 = .ok (.aload_n 1, 1) := by decide +kernel
theorem dX2_readTable_1 : decode cX2_readTable 1 = .ok (.invokevirtual 22, 3) := by decide +kernel
theorem dX2_readTable_4 : decode cX2_readTable 4 = .ok (.aload_n 0, 1) := by decide +kernel
theorem dX2_readTable_5 : decode cX2_readTable 5 = .ok (.iconst 0, 1) := by decide +kernel
theorem dX2_readTable_6 : decode cX2_readTable 6 = .ok (.putfield 27, 3) := by decide +kernel
theorem dX2_readTable_9 : decode cX2_readTable 9 = .ok (.aload_n 0, 1) := by decide +kernel
theorem dX2_readTable_10 : decode cX2_readTable 10 = .ok (.iconst (-1), 1) := by decide +kernel
theorem dX2_readTable_11 : decode cX2_readTable 11 = .ok (.putfield 15, 3) := by decide +kernel
theorem dX2_readTable_14 : decode cX2_readTable 14 = .ok (.aload_n 0, 1) := by decide +kernel
theorem dX2_readTable_15 : decode cX2_readTable 15 = .ok (.iconst 0, 1) := by decide +kernel
theorem dX2_readTable_16 : decode cX2_readTable 16 = .ok (.putfield 30, 3) := by decide +kernel
theorem dX2_readTable_19 : decode cX2_readTable 19 = .ok (.aload_n 0, 1) := by decide +kernel
theorem dX2_readTable_20 : decode cX2_readTable 20 = .ok (.invokevirtual 33, 3) := by decide +kernel
theorem dX2_readTable_23 : decode cX2_readTable 23 = .ok (.iconst 0, 1) := by decide +kernel
theorem dX2_readTable_24 : decode cX2_readTable 24 = .ok (.istore_n 2, 1) := by decide +kernel
theorem dX2_readTable_25 : decode cX2_readTable 25 = .ok (.iload_n 2, 1) := by decide +kernel
theorem dX2_readTable_26 : decode cX2_readTable 26 = .ok (.sipush 1600, 3) := by decide +kernel
theorem dX2_readTable_29 : decode cX2_readTable 29 = .ok (.if_icmp .ge 43, 3) := by decide +kernel
theorem dX2_readTable_32 : decode cX2_readTable 32 = .ok (.aload_n 0, 1) := by decide +kernel
theorem dX2_readTable_33 : decode cX2_readTable 33 = .ok (.getfield 36, 3) := by decide +kernel
theorem dX2_readTable_36 : decode cX2_readTable 36 = .ok (.ifCond .eq 36, 3) := by decide +kernel
theorem dX2_readTable_39 : decode cX2_readTable 39 = .ok (.aload_n 0, 1) := by decide +kernel
theorem dX2_readTable_40 : decode cX2_readTable 40 = .ok (.aload_n 1, 1) := by decide +kernel
theorem dX2_readTable_41 : decode cX2_readTable 41 = .ok (.invokevirtual 39, 3) := by decide +kernel
theorem dX2_readTable_44 : decode cX2_readTable 44 = .ok (.ifCond .eq 10, 3) := by decide +kernel
theorem dX2_readTable_47 : decode cX2_readTable 47 = .ok (.aload_n 0, 1) := by decide +kernel
theorem dX2_readTable_48 : decode cX2_readTable 48 = .ok (.invokevirtual 43, 3) := by decide +kernel
theorem dX2_readTable_51 : decode cX2_readTable 51 = .ok (.ifCond .ne 5, 3) := by decide +kernel
theorem dX2_readTable_54 : decode cX2_readTable 54 = .ok (.iconst 0, 1) := by decide +kernel
theorem dX2_readTable_55 : decode cX2_readTable 55 = .ok (.ireturn, 1) := by decide +kernel
theorem dX2_readTable_56 : decode cX2_readTable 56 = .ok (.aload_n 1, 1) := by decide +kernel
theorem dX2_readTable_57 : decode cX2_readTable 57 = .ok (.dup, 1) := by decide +kernel
theorem dX2_readTable_58 : decode cX2_readTable 58 = .ok (.getfield 47, 3) := by decide +kernel
theorem dX2_readTable_61 : decode cX2_readTable 61 = .ok (.iconst 1, 1) := by decide +kernel
theorem dX2_readTable_62 : decode cX2_readTable 62 = .ok (.iadd, 1) := by decide +kernel
theorem dX2_readTable_63 : decode cX2_readTable 63 = .ok (.putfield 47, 3) := by decide +kernel
theorem dX2_readTable_66 : decode cX2_readTable 66 = .ok (.iinc 2 1, 3) := by decide +kernel
theorem dX2_readTable_69 : decode cX2_readTable 69 = .ok (.goto (-44), 3) := by decide +kernel
theorem dX2_readTable_72 : decode cX2_readTable 72 = .ok (.iconst 1, 1) := by decide +kernel
theorem dX2_readTable_73 : decode cX2_readTable 73 = .ok (.ireturn, 1) := by decide +kernel
set_option maxRecDepth 4000 in
theorem kX2_readTable (G : GT) {σ : St} {t : Nat} (ht : isTab t) : ∀ (r : Int32) (σo : St) , fX2_readTable σ t = some (r, σo) → MCt G 30 yX2_readTable cX2_readTable 3 (some .boolean) [.ref (gad G 1), .ref (gad G t)] σ (some (.int r)) σo := by
  intro r σo hF
  refine met_zz (by decide) (Nat.le_of_ble_eq_true rfl) (fun X cx hE => ?_)
  have cx : Cx G X RX2 cX2_readTable 3 30 := cx
  have hl25 : ∀ n : Nat, ∀ (σ : St) (x2 : Int32) , fX2_readTable_l25 t n σ x2 = some (r, σo) → WW G X 3 σ [(0, .ref (gad G 1)), (1, .ref (gad G t)), (2, .int x2)] 25 [] := by
    intro n
    induction n with
    | zero =>
      intro σ x2 hF
      exact absurd hF (by intro z; cases z)
    | succ n ih =>
      intro σ x2 hF
      have hk25 := ih
      have hF : fX2_readTable_B25 t (fX2_readTable_l25 t n) σ x2 = some (r, σo) := hF
      unfold fX2_readTable_B25 at hF
      refine ww_iload_n cx dX2_readTable_25 rfl 2 rfl ?_
      refine ww_sipush cx dX2_readTable_26 sc_1600 ?_
      refine ww_icmp_ge cx dX2_readTable_29 (tgt := 72) rfl hF (fun hF => ?_) (fun hF => ?_)
      · refine ww_iconst cx dX2_readTable_72 ic_1 ?_
        exact ww_rzs hE dX2_readTable_73 hF
      · refine ww_aload_n cx dX2_readTable_32 rfl 0 rfl ?_
        refine gf_X2_36 cx dX2_readTable_33 ?_
        refine ww_if_eq cx dX2_readTable_36 (tgt := 72) rfl hF (fun hF => ?_) (fun hF => ?_)
        · refine ww_iconst cx dX2_readTable_72 ic_1 ?_
          exact ww_rzs hE dX2_readTable_73 hF
        · refine ww_aload_n cx dX2_readTable_39 rfl 0 rfl ?_
          refine ww_aload_n cx dX2_readTable_40 rfl 1 rfl ?_
          refine ww_V1_si kv_X2_39 rfl cx sh_1 ⟨Nat.le_of_ble_eq_true rfl, Nat.le_of_ble_eq_true rfl⟩ (Nat.le_of_ble_eq_true rfl) dX2_readTable_41 (kX2_readLine G (ht)) hF (fun r1 σ2 hF => ?_)
          refine ww_if_eq cx dX2_readTable_44 (tgt := 54) rfl hF (fun hF => ?_) (fun hF => ?_)
          · refine ww_iconst cx dX2_readTable_54 ic_0 ?_
            exact ww_rzs hE dX2_readTable_55 hF
          · refine ww_aload_n cx dX2_readTable_47 rfl 0 rfl ?_
            refine ww_V0_si kv_X2_43 rfl cx sh_1 ⟨Nat.le_of_ble_eq_true rfl, Nat.le_of_ble_eq_true rfl⟩ (Nat.le_of_ble_eq_true rfl) dX2_readTable_48 (kX2_readSign G) hF (fun r3 σ4 hF => ?_)
            refine ww_if_ne cx dX2_readTable_51 (tgt := 56) rfl hF (fun hF => ?_) (fun hF => ?_)
            · refine ww_aload_n cx dX2_readTable_56 rfl 1 rfl ?_
              refine ww_dup cx dX2_readTable_57 rfl ?_
              refine gf_X2_47 cx (ht) dX2_readTable_58 ?_
              refine ww_iconst cx dX2_readTable_61 ic_1 ?_
              refine ww_iadd cx dX2_readTable_62 ?_
              refine pf_X2_47 cx (ht) dX2_readTable_63 hF (fun σ5 hF => ?_)
              refine ww_iinc (j := 2) (ks := [0, 1, 2]) (lv' := fun v6 => [(2, .int v6), (0, .ref (gad G 1)), (1, .ref (gad G t))]) cx dX2_readTable_66 (by decide) rfl ic_1 hF (fun _ => rfl) (fun v6 hF => ?_)
              refine ww_goto cx dX2_readTable_69 (tgt := 25) rfl ?_
              exact ww_sub [1, 2, 0] rfl (hk25 _ _ hF)
            · refine ww_iconst cx dX2_readTable_54 ic_0 ?_
              exact ww_rzs hE dX2_readTable_55 hF
  unfold fX2_readTable at hF
  show WW G X 3 σ [(0, .ref (gad G 1)), (1, .ref (gad G t))] 0 []
  refine ww_aload_n cx dX2_readTable_0 rfl 1 rfl ?_
  refine ww_V0_sv kv_X2_22 rfl cx ((ht).1) ⟨Nat.le_of_ble_eq_true rfl, Nat.le_of_ble_eq_true rfl⟩ (Nat.le_of_ble_eq_true rfl) dX2_readTable_1 (kX6_clear G (ht)) hF (fun σ7 hF => ?_)
  refine ww_aload_n cx dX2_readTable_4 rfl 0 rfl ?_
  refine ww_iconst cx dX2_readTable_5 ic_0 ?_
  refine pf_X2_27 cx dX2_readTable_6 hF (fun σ8 hF => ?_)
  refine ww_aload_n cx dX2_readTable_9 rfl 0 rfl ?_
  refine ww_iconst cx dX2_readTable_10 ic_m1 ?_
  refine pf_X2_15 cx dX2_readTable_11 hF (fun σ9 hF => ?_)
  refine ww_aload_n cx dX2_readTable_14 rfl 0 rfl ?_
  refine ww_iconst cx dX2_readTable_15 ic_0 ?_
  refine pf_X2_30 cx dX2_readTable_16 hF (fun σ10 hF => ?_)
  refine ww_aload_n cx dX2_readTable_19 rfl 0 rfl ?_
  refine ww_V0_sv kv_X2_33 rfl cx sh_1 ⟨Nat.le_of_ble_eq_true rfl, Nat.le_of_ble_eq_true rfl⟩ (Nat.le_of_ble_eq_true rfl) dX2_readTable_20 (kX2_advance G) hF (fun σ11 hF => ?_)
  refine ww_iconst cx dX2_readTable_23 ic_0 ?_
  refine ww_istore_n (ks := [0, 1, 2]) (lv' := fun v12 => [(2, .int v12), (0, .ref (gad G 1)), (1, .ref (gad G t))]) cx dX2_readTable_24 rfl (by decide) hF (fun _ => rfl) (fun v12 hF => ?_)
  exact ww_sub [1, 2, 0] rfl (hl25 FU _ _ hF)
theorem dX7_table_0 : decode cX7_table 0 = .ok (.aload_n 0, 1) := by decide +kernel
theorem dX7_table_1 : decode cX7_table 1 = .ok (.getfield 10, 3) := by decide +kernel
theorem dX7_table_4 : decode cX7_table 4 = .ok (.aload_n 0, 1) := by decide +kernel
theorem dX7_table_5 : decode cX7_table 5 = .ok (.getfield 23, 3) := by decide +kernel
theorem dX7_table_8 : decode cX7_table 8 = .ok (.invokevirtual 84, 3) := by decide +kernel
theorem dX7_table_11 : decode cX7_table 11 = .ok (.istore_n 1, 1) := by decide +kernel
theorem dX7_table_12 : decode cX7_table 12 = .ok (.aload_n 0, 1) := by decide +kernel
theorem dX7_table_13 : decode cX7_table 13 = .ok (.getfield 10, 3) := by decide +kernel
theorem dX7_table_16 : decode cX7_table 16 = .ok (.iconst 0, 1) := by decide +kernel
theorem dX7_table_17 : decode cX7_table 17 = .ok (.putfield 76, 3) := by decide +kernel
theorem dX7_table_20 : decode cX7_table 20 = .ok (.iload_n 1, 1) := by decide +kernel
theorem dX7_table_21 : decode cX7_table 21 = .ok (.ifCond .ne 6, 3) := by decide +kernel
theorem dX7_table_24 : decode cX7_table 24 = .ok (.bipush (-4), 2) := by decide +kernel
theorem dX7_table_26 : decode cX7_table 26 = .ok (.ireturn, 1) := by decide +kernel
theorem dX7_table_27 : decode cX7_table 27 = .ok (.aload_n 0, 1) := by decide +kernel
theorem dX7_table_28 : decode cX7_table 28 = .ok (.getfield 19, 3) := by decide +kernel
theorem dX7_table_31 : decode cX7_table 31 = .ok (.aload_n 0, 1) := by decide +kernel
theorem dX7_table_32 : decode cX7_table 32 = .ok (.getfield 23, 3) := by decide +kernel
theorem dX7_table_35 : decode cX7_table 35 = .ok (.invokevirtual 88, 3) := by decide +kernel
theorem dX7_table_38 : decode cX7_table 38 = .ok (.aload_n 0, 1) := by decide +kernel
theorem dX7_table_39 : decode cX7_table 39 = .ok (.iconst 1, 1) := by decide +kernel
theorem dX7_table_40 : decode cX7_table 40 = .ok (.putfield 48, 3) := by decide +kernel
theorem dX7_table_43 : decode cX7_table 43 = .ok (.aload_n 0, 1) := by decide +kernel
theorem dX7_table_44 : decode cX7_table 44 = .ok (.getfield 19, 3) := by decide +kernel
theorem dX7_table_47 : decode cX7_table 47 = .ok (.getfield 92, 3) := by decide +kernel
theorem dX7_table_50 : decode cX7_table 50 = .ok (.ireturn, 1) := by decide +kernel
set_option maxRecDepth 4000 in
theorem kX7_table (G : GT) {σ : St} : ∀ (r : Int32) (σo : St) , fX7_table σ = some (r, σo) → MCt G 31 yX7_table cX7_table 2 (some .int) [.ref (gad G 0)] σ (some (.int r)) σo := by
  intro r σo hF
  refine met_i (by decide) (Nat.le_of_ble_eq_true rfl) (fun X cx hE => ?_)
  have cx : Cx G X RX7 cX7_table 2 31 := cx
  unfold fX7_table at hF
  show WW G X 2 σ [(0, .ref (gad G 0))] 0 []
  refine ww_aload_n cx dX7_table_0 rfl 0 rfl ?_
  refine gf_X7_10 cx dX7_table_1 ?_
  refine ww_aload_n cx dX7_table_4 rfl 0 rfl ?_
  refine gf_X7_23 cx dX7_table_5 ?_
  refine ww_V1_si kv_X7_84 rfl cx sh_1 ⟨Nat.le_of_ble_eq_true rfl, Nat.le_of_ble_eq_true rfl⟩ (Nat.le_of_ble_eq_true rfl) dX7_table_8 (kX2_readTable G (isTab_10)) hF (fun r1 σ2 hF => ?_)
  refine ww_istore_n (ks := [0, 1]) (lv' := fun v3 => [(1, .int v3), (0, .ref (gad G 0))]) cx dX7_table_11 rfl (by decide) hF (fun _ => rfl) (fun v3 hF => ?_)
  refine ww_aload_n cx dX7_table_12 rfl 1 rfl ?_
  refine gf_X7_10 cx dX7_table_13 ?_
  refine ww_iconst cx dX7_table_16 ic_0 ?_
  refine pf_X7_76 cx dX7_table_17 hF (fun σ4 hF => ?_)
  refine ww_iload_n cx dX7_table_20 rfl 0 rfl ?_
  refine ww_if_ne cx dX7_table_21 (tgt := 27) rfl hF (fun hF => ?_) (fun hF => ?_)
  · refine ww_aload_n cx dX7_table_27 rfl 1 rfl ?_
    refine gf_X7_19 cx dX7_table_28 ?_
    refine ww_aload_n cx dX7_table_31 rfl 1 rfl ?_
    refine gf_X7_23 cx dX7_table_32 ?_
    refine ww_V1_sv kv_X7_88 rfl cx ((isTab_3).1) ⟨Nat.le_of_ble_eq_true rfl, Nat.le_of_ble_eq_true rfl⟩ (Nat.le_of_ble_eq_true rfl) dX7_table_35 (kX6_copyFrom G (isTab_3) (isTab_10)) hF (fun σ5 hF => ?_)
    refine ww_aload_n cx dX7_table_38 rfl 1 rfl ?_
    refine ww_iconst cx dX7_table_39 ic_1 ?_
    refine pf_X7_48 cx dX7_table_40 hF (fun σ6 hF => ?_)
    refine ww_aload_n cx dX7_table_43 rfl 1 rfl ?_
    refine gf_X7_19 cx dX7_table_44 ?_
    refine gf_X7_92 cx (isTab_3) dX7_table_47 ?_
    exact ww_ris hE dX7_table_50 hF
  · refine ww_bipush cx dX7_table_24 bc_m4 ?_
    exact ww_ris hE dX7_table_26 hF
