theorem dX2_worldsOfLeaf_0 : decode cX2_worldsOfLeaf 0 = .ok (.aload_n 0, 1) := by decide +kernel
theorem dX2_worldsOfLeaf_1 : decode cX2_worldsOfLeaf 1 = .ok (.ldc 173, 2) := by decide +kernel
theorem dX2_worldsOfLeaf_3 : decode cX2_worldsOfLeaf 3 = .ok (.invokevirtual 55, 3) := by decide +kernel
theorem dX2_worldsOfLeaf_6 : decode cX2_worldsOfLeaf 6 = .ok (.ifCond .eq 8, 3) := by decide +kernel
theorem dX2_worldsOfLeaf_9 : decode cX2_worldsOfLeaf 9 = .ok (.aload_n 1, 1) := by decide +kernel
theorem dX2_worldsOfLeaf_10 : decode cX2_worldsOfLeaf 10 = .ok (.invokevirtual 170, 3) := by decide +kernel
theorem dX2_worldsOfLeaf_13 : decode cX2_worldsOfLeaf 13 = .ok (.ireturn, 1) := by decide +kernel
theorem dX2_worldsOfLeaf_14 : decode cX2_worldsOfLeaf 14 = .ok (.aload_n 0, 1) := by decide +kernel
theorem dX2_worldsOfLeaf_15 : decode cX2_worldsOfLeaf 15 = .ok (.ldc 175, 2) := by decide +kernel
theorem dX2_worldsOfLeaf_17 : decode cX2_worldsOfLeaf 17 = .ok (.invokevirtual 55, 3) := by decide +kernel
theorem dX2_worldsOfLeaf_20 : decode cX2_worldsOfLeaf 20 = .ok (.ifCond .eq 5, 3) := by decide +kernel
theorem dX2_worldsOfLeaf_23 : decode cX2_worldsOfLeaf 23 = .ok (.iconst 0, 1) := by decide +kernel
theorem dX2_worldsOfLeaf_24 : decode cX2_worldsOfLeaf 24 = .ok (.ireturn, 1) := by decide +kernel
theorem dX2_worldsOfLeaf_25 : decode cX2_worldsOfLeaf 25 = .ok (.aload_n 0, 1) := by decide +kernel
theorem dX2_worldsOfLeaf_26 : decode cX2_worldsOfLeaf 26 = .ok (.getfield 36, 3) := by decide +kernel
theorem dX2_worldsOfLeaf_29 : decode cX2_worldsOfLeaf 29 = .ok (.iconst 1, 1) := by decide +kernel
theorem dX2_worldsOfLeaf_30 : decode cX2_worldsOfLeaf 30 = .ok (.if_icmp .ne 47, 3) := by decide +kernel
theorem dX2_worldsOfLeaf_33 : decode cX2_worldsOfLeaf 33 = .ok (.aload_n 0, 1) := by decide +kernel
theorem dX2_worldsOfLeaf_34 : decode cX2_worldsOfLeaf 34 = .ok (.getfield 30, 3) := by decide +kernel
theorem dX2_worldsOfLeaf_37 : decode cX2_worldsOfLeaf 37 = .ok (.aload_n 0, 1) := by decide +kernel
theorem dX2_worldsOfLeaf_38 : decode cX2_worldsOfLeaf 38 = .ok (.getfield 177, 3) := by decide +kernel
theorem dX2_worldsOfLeaf_41 : decode cX2_worldsOfLeaf 41 = .ok (.isub, 1) := by decide +kernel
theorem dX2_worldsOfLeaf_42 : decode cX2_worldsOfLeaf 42 = .ok (.iconst 1, 1) := by decide +kernel
theorem dX2_worldsOfLeaf_43 : decode cX2_worldsOfLeaf 43 = .ok (.if_icmp .ne 34, 3) := by decide +kernel
theorem dX2_worldsOfLeaf_46 : decode cX2_worldsOfLeaf 46 = .ok (.aload_n 0, 1) := by decide +kernel
theorem dX2_worldsOfLeaf_47 : decode cX2_worldsOfLeaf 47 = .ok (.getfield 9, 3) := by decide +kernel
theorem dX2_worldsOfLeaf_50 : decode cX2_worldsOfLeaf 50 = .ok (.aload_n 0, 1) := by decide +kernel
theorem dX2_worldsOfLeaf_51 : decode cX2_worldsOfLeaf 51 = .ok (.getfield 177, 3) := by decide +kernel
theorem dX2_worldsOfLeaf_54 : decode cX2_worldsOfLeaf 54 = .ok (.baload, 1) := by decide +kernel
theorem dX2_worldsOfLeaf_55 : decode cX2_worldsOfLeaf 55 = .ok (.bipush 97, 2) := by decide +kernel
theorem dX2_worldsOfLeaf_57 : decode cX2_worldsOfLeaf 57 = .ok (.isub, 1) := by decide +kernel
theorem dX2_worldsOfLeaf_58 : decode cX2_worldsOfLeaf 58 = .ok (.istore_n 2, 1) := by decide +kernel
theorem dX2_worldsOfLeaf_59 : decode cX2_worldsOfLeaf 59 = .ok (.iload_n 2, 1) := by decide +kernel
theorem dX2_worldsOfLeaf_60 : decode cX2_worldsOfLeaf 60 = .ok (.aload_n 1, 1) := by decide +kernel
theorem dX2_worldsOfLeaf_61 : decode cX2_worldsOfLeaf 61 = .ok (.getfield 92, 3) := by decide +kernel
theorem dX2_worldsOfLeaf_64 : decode cX2_worldsOfLeaf 64 = .ok (.if_icmp .ge 11, 3) := by decide +kernel
theorem dX2_worldsOfLeaf_67 : decode cX2_worldsOfLeaf 67 = .ok (.aload_n 1, 1) := by decide +kernel
theorem dX2_worldsOfLeaf_68 : decode cX2_worldsOfLeaf 68 = .ok (.iload_n 2, 1) := by decide +kernel
theorem dX2_worldsOfLeaf_69 : decode cX2_worldsOfLeaf 69 = .ok (.invokevirtual 180, 3) := by decide +kernel
theorem dX2_worldsOfLeaf_72 : decode cX2_worldsOfLeaf 72 = .ok (.goto 4, 3) := by decide +kernel
theorem dX2_worldsOfLeaf_75 : decode cX2_worldsOfLeaf 75 = .ok (.iconst (-1), 1) := by decide +kernel
theorem dX2_worldsOfLeaf_76 : decode cX2_worldsOfLeaf 76 = .ok (.ireturn, 1) := by decide +kernel
theorem dX2_worldsOfLeaf_77 : decode cX2_worldsOfLeaf 77 = .ok (.iconst (-1), 1) := by decide +kernel
theorem dX2_worldsOfLeaf_78 : decode cX2_worldsOfLeaf 78 = .ok (.ireturn, 1) := by decide +kernel
set_option maxRecDepth 4000 in
theorem kX2_worldsOfLeaf (G : GT) {σ : St} {t : Nat} (ht : isTab t) : ∀ (r : Int32) , fX2_worldsOfLeaf σ t = some r → MCt G 6 yX2_worldsOfLeaf cX2_worldsOfLeaf 3 (some .int) [.ref (gad G 1), .ref (gad G t)] σ (some (.int r)) σ := by
  intro r hF
  refine met_i (by decide) (Nat.le_of_ble_eq_true rfl) (fun X cx hE => ?_)
  have cx : Cx G X RX2 cX2_worldsOfLeaf 3 6 := cx
  unfold fX2_worldsOfLeaf at hF
  show WW G X 3 σ [(0, .ref (gad G 1)), (1, .ref (gad G t))] 0 []
  refine ww_aload_n cx dX2_worldsOfLeaf_0 rfl 0 rfl ?_
  refine ww_ldcS (w := 6) (tx := "yes") cx (by decide +kernel) dX2_worldsOfLeaf_1 ?_
  refine ww_V1_pi kv_X2_55 rfl cx sh_1 ⟨Nat.le_of_ble_eq_true rfl, Nat.le_of_ble_eq_true rfl⟩ (Nat.le_of_ble_eq_true rfl) dX2_worldsOfLeaf_3 (kX2_isWord G (by decide)) hF (fun r1 hF => ?_)
  refine ww_if_eq cx dX2_worldsOfLeaf_6 (tgt := 14) rfl hF (fun hF => ?_) (fun hF => ?_)
  · refine ww_aload_n cx dX2_worldsOfLeaf_14 rfl 0 rfl ?_
    refine ww_ldcS (w := 7) (tx := "no") cx (by decide +kernel) dX2_worldsOfLeaf_15 ?_
    refine ww_V1_pi kv_X2_55 rfl cx sh_1 ⟨Nat.le_of_ble_eq_true rfl, Nat.le_of_ble_eq_true rfl⟩ (Nat.le_of_ble_eq_true rfl) dX2_worldsOfLeaf_17 (kX2_isWord G (by decide)) hF (fun r2 hF => ?_)
    refine ww_if_eq cx dX2_worldsOfLeaf_20 (tgt := 25) rfl hF (fun hF => ?_) (fun hF => ?_)
    · refine ww_aload_n cx dX2_worldsOfLeaf_25 rfl 0 rfl ?_
      refine gf_X2_36 cx dX2_worldsOfLeaf_26 ?_
      refine ww_iconst cx dX2_worldsOfLeaf_29 ic_1 ?_
      refine ww_icmp_ne cx dX2_worldsOfLeaf_30 (tgt := 77) rfl hF (fun hF => ?_) (fun hF => ?_)
      · refine ww_iconst cx dX2_worldsOfLeaf_77 ic_m1 ?_
        exact ww_rip hE dX2_worldsOfLeaf_78 hF
      · refine ww_aload_n cx dX2_worldsOfLeaf_33 rfl 0 rfl ?_
        refine gf_X2_30 cx dX2_worldsOfLeaf_34 ?_
        refine ww_aload_n cx dX2_worldsOfLeaf_37 rfl 0 rfl ?_
        refine gf_X2_177 cx dX2_worldsOfLeaf_38 ?_
        refine ww_isub cx dX2_worldsOfLeaf_41 ?_
        refine ww_iconst cx dX2_worldsOfLeaf_42 ic_1 ?_
        refine ww_icmp_ne cx dX2_worldsOfLeaf_43 (tgt := 77) rfl hF (fun hF => ?_) (fun hF => ?_)
        · refine ww_iconst cx dX2_worldsOfLeaf_77 ic_m1 ?_
          exact ww_rip hE dX2_worldsOfLeaf_78 hF
        · refine ww_aload_n cx dX2_worldsOfLeaf_46 rfl 0 rfl ?_
          refine gf_X2_9 cx dX2_worldsOfLeaf_47 ?_
          refine ww_aload_n cx dX2_worldsOfLeaf_50 rfl 0 rfl ?_
          refine gf_X2_177 cx dX2_worldsOfLeaf_51 ?_
          refine ww_bald (N := 1600) cx (sh_2) dX2_worldsOfLeaf_54 hF (fun hF => ?_)
          refine ww_bipush cx dX2_worldsOfLeaf_55 bc_97 ?_
          refine ww_isub cx dX2_worldsOfLeaf_57 ?_
          refine ww_istore_n (ks := [0, 2]) (lv' := fun v3 => [(2, .int v3), (1, .ref (gad G t))]) cx dX2_worldsOfLeaf_58 rfl (by decide) hF (fun _ => rfl) (fun v3 hF => ?_)
          refine ww_iload_n cx dX2_worldsOfLeaf_59 rfl 0 rfl ?_
          refine ww_aload_n cx dX2_worldsOfLeaf_60 rfl 1 rfl ?_
          refine gf_X2_92 cx (ht) dX2_worldsOfLeaf_61 ?_
          refine ww_icmp_ge cx dX2_worldsOfLeaf_64 (tgt := 75) rfl hF (fun hF => ?_) (fun hF => ?_)
          · refine ww_iconst cx dX2_worldsOfLeaf_75 ic_m1 ?_
            exact ww_rip hE dX2_worldsOfLeaf_76 hF
          · refine ww_aload_n cx dX2_worldsOfLeaf_67 rfl 1 rfl ?_
            refine ww_iload_n cx dX2_worldsOfLeaf_68 rfl 0 rfl ?_
            refine ww_V1_pi kv_X2_180 rfl cx ((ht).1) ⟨Nat.le_of_ble_eq_true rfl, Nat.le_of_ble_eq_true rfl⟩ (Nat.le_of_ble_eq_true rfl) dX2_worldsOfLeaf_69 (kX6_worldsOfAtom G (ht)) hF (fun r4 hF => ?_)
            refine ww_goto cx dX2_worldsOfLeaf_72 (tgt := 76) rfl ?_
            exact ww_rip hE dX2_worldsOfLeaf_76 hF
    · refine ww_iconst cx dX2_worldsOfLeaf_23 ic_0 ?_
      exact ww_rip hE dX2_worldsOfLeaf_24 hF
  · refine ww_aload_n cx dX2_worldsOfLeaf_9 rfl 1 rfl ?_
    refine ww_V0_pi kv_X2_170 rfl cx ((ht).1) ⟨Nat.le_of_ble_eq_true rfl, Nat.le_of_ble_eq_true rfl⟩ (Nat.le_of_ble_eq_true rfl) dX2_worldsOfLeaf_10 (kX6_allWorlds G (ht)) hF (fun r5 hF => ?_)
    exact ww_rip hE dX2_worldsOfLeaf_13 hF
theorem dX8_askOf_0 : decode cX8_askOf 0 = .ok (.iconst (-1), 1) := by decide +kernel
theorem dX8_askOf_1 : decode cX8_askOf 1 = .ok (.istore_n 1, 1) := by decide +kernel
theorem dX8_askOf_2 : decode cX8_askOf 2 = .ok (.aload_n 0, 1) := by decide +kernel
theorem dX8_askOf_3 : decode cX8_askOf 3 = .ok (.invokevirtual 266, 3) := by decide +kernel
theorem dX8_askOf_6 : decode cX8_askOf 6 = .ok (.invokestatic 273, 3) := by decide +kernel
theorem dX8_askOf_9 : decode cX8_askOf 9 = .ok (.istore_n 2, 1) := by decide +kernel
theorem dX8_askOf_10 : decode cX8_askOf 10 = .ok (.iconst 0, 1) := by decide +kernel
theorem dX8_askOf_11 : decode cX8_askOf 11 = .ok (.istore_n 3, 1) := by decide +kernel
theorem dX8_askOf_12 : decode cX8_askOf 12 = .ok (.iload_n 3, 1) := by decide +kernel
theorem dX8_askOf_13 : decode cX8_askOf 13 = .ok (.aload_n 0, 1) := by decide +kernel
theorem dX8_askOf_14 : decode cX8_askOf 14 = .ok (.getfield 9, 3) := by decide +kernel
theorem dX8_askOf_17 : decode cX8_askOf 17 = .ok (.iconst 3, 1) := by decide +kernel
theorem dX8_askOf_18 : decode cX8_askOf 18 = .ok (.iaload, 1) := by decide +kernel
theorem dX8_askOf_19 : decode cX8_askOf 19 = .ok (.if_icmp .ge 29, 3) := by decide +kernel
theorem dX8_askOf_22 : decode cX8_askOf 22 = .ok (.aload_n 0, 1) := by decide +kernel
theorem dX8_askOf_23 : decode cX8_askOf 23 = .ok (.iload_n 3, 1) := by decide +kernel
theorem dX8_askOf_24 : decode cX8_askOf 24 = .ok (.invokevirtual 430, 3) := by decide +kernel
theorem dX8_askOf_27 : decode cX8_askOf 27 = .ok (.iload_n 2, 1) := by decide +kernel
theorem dX8_askOf_28 : decode cX8_askOf 28 = .ok (.if_icmp .lt 6, 3) := by decide +kernel
theorem dX8_askOf_31 : decode cX8_askOf 31 = .ok (.goto 11, 3) := by decide +kernel
theorem dX8_askOf_34 : decode cX8_askOf 34 = .ok (.aload_n 0, 1) := by decide +kernel
theorem dX8_askOf_35 : decode cX8_askOf 35 = .ok (.iload_n 3, 1) := by decide +kernel
theorem dX8_askOf_36 : decode cX8_askOf 36 = .ok (.invokevirtual 430, 3) := by decide +kernel
theorem dX8_askOf_39 : decode cX8_askOf 39 = .ok (.istore_n 2, 1) := by decide +kernel
theorem dX8_askOf_40 : decode cX8_askOf 40 = .ok (.iload_n 3, 1) := by decide +kernel
theorem dX8_askOf_41 : decode cX8_askOf 41 = .ok (.istore_n 1, 1) := by decide +kernel
theorem dX8_askOf_42 : decode cX8_askOf 42 = .ok (.iinc 3 1, 3) := by decide +kernel
theorem dX8_askOf_45 : decode cX8_askOf 45 = .ok (.goto (-33), 3) := by decide +kernel
theorem dX8_askOf_48 : decode cX8_askOf 48 = .ok (.iload_n 1, 1) := by decide +kernel
theorem dX8_askOf_49 : decode cX8_askOf 49 = .ok (.ireturn, 1) := by decide +kernel
set_option maxRecDepth 4000 in
theorem kX8_askOf (G : GT) {σ : St} : ∀ (r : Int32) , fX8_askOf σ = some r → MCt G 6 yX8_askOf cX8_askOf 4 (some .int) [.ref (gad G 62)] σ (some (.int r)) σ := by
  intro r hF
  refine met_i (by decide) (Nat.le_of_ble_eq_true rfl) (fun X cx hE => ?_)
  have cx : Cx G X RX8 cX8_askOf 4 6 := cx
  have hl12 : ∀ n : Nat, ∀ (x1 : Int32) (x2 : Int32) (x3 : Int32) , fX8_askOf_l12 σ n x1 x2 x3 = some r → WW G X 4 σ [(0, .ref (gad G 62)), (1, .int x1), (2, .int x2), (3, .int x3)] 12 [] := by
    intro n
    induction n with
    | zero =>
      intro x1 x2 x3 hF
      exact absurd hF (by intro z; cases z)
    | succ n ih =>
      intro x1 x2 x3 hF
      have hk12 := ih
      have hF : fX8_askOf_B12 σ (fX8_askOf_l12 σ n) x1 x2 x3 = some r := hF
      unfold fX8_askOf_B12 at hF
      refine ww_iload_n cx dX8_askOf_12 rfl 3 rfl ?_
      refine ww_aload_n cx dX8_askOf_13 rfl 0 rfl ?_
      refine gf_X8_9 cx dX8_askOf_14 ?_
      refine ww_iconst cx dX8_askOf_17 ic_3 ?_
      refine ww_iald (N := 77) cx (sh_63) dX8_askOf_18 hF (fun hF => ?_)
      refine ww_icmp_ge cx dX8_askOf_19 (tgt := 48) rfl hF (fun hF => ?_) (fun hF => ?_)
      · refine ww_iload_n cx dX8_askOf_48 rfl 1 rfl ?_
        exact ww_rip hE dX8_askOf_49 hF
      · refine ww_aload_n cx dX8_askOf_22 rfl 0 rfl ?_
        refine ww_iload_n cx dX8_askOf_23 rfl 3 rfl ?_
        refine ww_V1_pi kv_X8_430 rfl cx sh_62 ⟨Nat.le_of_ble_eq_true rfl, Nat.le_of_ble_eq_true rfl⟩ (Nat.le_of_ble_eq_true rfl) dX8_askOf_24 (kX8_worstOf G) hF (fun r1 hF => ?_)
        refine ww_iload_n cx dX8_askOf_27 rfl 2 rfl ?_
        refine ww_icmp_lt cx dX8_askOf_28 (tgt := 34) rfl hF (fun hF => ?_) (fun hF => ?_)
        · refine ww_aload_n cx dX8_askOf_34 rfl 0 rfl ?_
          refine ww_iload_n cx dX8_askOf_35 rfl 3 rfl ?_
          refine ww_V1_pi kv_X8_430 rfl cx sh_62 ⟨Nat.le_of_ble_eq_true rfl, Nat.le_of_ble_eq_true rfl⟩ (Nat.le_of_ble_eq_true rfl) dX8_askOf_36 (kX8_worstOf G) hF (fun r2 hF => ?_)
          refine ww_istore_n (ks := [0, 1, 3]) (lv' := fun v3 => [(2, .int v3), (0, .ref (gad G 62)), (3, .int x3)]) cx dX8_askOf_39 rfl (by decide) hF (fun _ => rfl) (fun v3 hF => ?_)
          refine ww_iload_n cx dX8_askOf_40 rfl 2 rfl ?_
          refine ww_istore_n (ks := [0, 1, 2, 3]) (lv' := fun v4 => [(1, .int v4), (2, .int v3), (0, .ref (gad G 62)), (3, .int x3)]) cx dX8_askOf_41 rfl (by decide) hF (fun _ => rfl) (fun v4 hF => ?_)
          refine ww_iinc (j := 3) (ks := [0, 1, 2, 3]) (lv' := fun v5 => [(3, .int v5), (1, .int v4), (2, .int v3), (0, .ref (gad G 62))]) cx dX8_askOf_42 (by decide) rfl ic_1 hF (fun _ => rfl) (fun v5 hF => ?_)
          refine ww_goto cx dX8_askOf_45 (tgt := 12) rfl ?_
          exact ww_sub [3, 1, 2, 0] rfl (hk12 _ _ _ hF)
        · refine ww_goto cx dX8_askOf_31 (tgt := 42) rfl ?_
          refine ww_iinc (j := 3) (ks := [0, 1, 2, 3]) (lv' := fun v6 => [(3, .int v6), (0, .ref (gad G 62)), (1, .int x1), (2, .int x2)]) cx dX8_askOf_42 (by decide) rfl ic_1 hF (fun _ => rfl) (fun v6 hF => ?_)
          refine ww_goto cx dX8_askOf_45 (tgt := 12) rfl ?_
          exact ww_sub [1, 2, 3, 0] rfl (hk12 _ _ _ hF)
  unfold fX8_askOf at hF
  show WW G X 4 σ [(0, .ref (gad G 62))] 0 []
  refine ww_iconst cx dX8_askOf_0 ic_m1 ?_
  refine ww_istore_n (ks := [0, 1]) (lv' := fun v7 => [(1, .int v7), (0, .ref (gad G 62))]) cx dX8_askOf_1 rfl (by decide) hF (fun _ => rfl) (fun v7 hF => ?_)
  refine ww_aload_n cx dX8_askOf_2 rfl 1 rfl ?_
  refine ww_V0_pi kv_X8_266 rfl cx sh_62 ⟨Nat.le_of_ble_eq_true rfl, Nat.le_of_ble_eq_true rfl⟩ (Nat.le_of_ble_eq_true rfl) dX8_askOf_3 (kX8_saltedNow G) hF (fun r8 hF => ?_)
  refine ww_S1_pi kv_X8_273 cx ⟨Nat.le_of_ble_eq_true rfl, Nat.le_of_ble_eq_true rfl⟩ (Nat.le_of_ble_eq_true rfl) dX8_askOf_6 (kX8_bits G) hF (fun r9 hF => ?_)
  refine ww_istore_n (ks := [0, 1, 2]) (lv' := fun v10 => [(2, .int v10), (1, .int v7), (0, .ref (gad G 62))]) cx dX8_askOf_9 rfl (by decide) hF (fun _ => rfl) (fun v10 hF => ?_)
  refine ww_iconst cx dX8_askOf_10 ic_0 ?_
  refine ww_istore_n (ks := [0, 1, 2, 3]) (lv' := fun v11 => [(3, .int v11), (2, .int v10), (1, .int v7), (0, .ref (gad G 62))]) cx dX8_askOf_11 rfl (by decide) hF (fun _ => rfl) (fun v11 hF => ?_)
  exact ww_sub [3, 2, 1, 0] rfl (hl12 FU _ _ _ hF)
theorem dX8_ate_0 : decode cX8_ate 0 = .ok (.aload_n 0, 1) := by decide +kernel
theorem dX8_ate_1 : decode cX8_ate 1 = .ok (.iload_n 1, 1) := by decide +kernel
theorem dX8_ate_2 : decode cX8_ate 2 = .ok (.iconst 1, 1) := by decide +kernel
theorem dX8_ate_3 : decode cX8_ate 3 = .ok (.invokevirtual 439, 3) := by decide +kernel
theorem dX8_ate_6 : decode cX8_ate 6 = .ok (.istore_n 2, 1) := by decide +kernel
theorem dX8_ate_7 : decode cX8_ate 7 = .ok (.iload_n 2, 1) := by decide +kernel
theorem dX8_ate_8 : decode cX8_ate 8 = .ok (.ifCond .ge 5, 3) := by decide +kernel
theorem dX8_ate_11 : decode cX8_ate 11 = .ok (.iload_n 2, 1) := by decide +kernel
theorem dX8_ate_12 : decode cX8_ate 12 = .ok (.ireturn, 1) := by decide +kernel
theorem dX8_ate_13 : decode cX8_ate 13 = .ok (.iconst 0, 1) := by decide +kernel
theorem dX8_ate_14 : decode cX8_ate 14 = .ok (.istore_n 3, 1) := by decide +kernel
theorem dX8_ate_15 : decode cX8_ate 15 = .ok (.iconst 0, 1) := by decide +kernel
theorem dX8_ate_16 : decode cX8_ate 16 = .ok (.istore 4, 2) := by decide +kernel
theorem dX8_ate_18 : decode cX8_ate 18 = .ok (.iload 4, 2) := by decide +kernel
theorem dX8_ate_20 : decode cX8_ate 20 = .ok (.aload_n 0, 1) := by decide +kernel
theorem dX8_ate_21 : decode cX8_ate 21 = .ok (.getfield 9, 3) := by decide +kernel
theorem dX8_ate_24 : decode cX8_ate 24 = .ok (.iconst 5, 1) := by decide +kernel
theorem dX8_ate_25 : decode cX8_ate 25 = .ok (.iaload, 1) := by decide +kernel
theorem dX8_ate_26 : decode cX8_ate 26 = .ok (.if_icmp .ge 34, 3) := by decide +kernel
theorem dX8_ate_29 : decode cX8_ate 29 = .ok (.iload_n 3, 1) := by decide +kernel
theorem dX8_ate_30 : decode cX8_ate 30 = .ok (.aload_n 0, 1) := by decide +kernel
theorem dX8_ate_31 : decode cX8_ate 31 = .ok (.iload 4, 2) := by decide +kernel
theorem dX8_ate_33 : decode cX8_ate 33 = .ok (.aload_n 0, 1) := by decide +kernel
theorem dX8_ate_34 : decode cX8_ate 34 = .ok (.iload_n 1, 1) := by decide +kernel
theorem dX8_ate_35 : decode cX8_ate 35 = .ok (.invokevirtual 442, 3) := by decide +kernel
theorem dX8_ate_38 : decode cX8_ate 38 = .ok (.invokevirtual 369, 3) := by decide +kernel
theorem dX8_ate_41 : decode cX8_ate 41 = .ok (.ifCond .eq 10, 3) := by decide +kernel
theorem dX8_ate_44 : decode cX8_ate 44 = .ok (.iconst 1, 1) := by decide +kernel
theorem dX8_ate_45 : decode cX8_ate 45 = .ok (.iload 4, 2) := by decide +kernel
theorem dX8_ate_47 : decode cX8_ate 47 = .ok (.ishl, 1) := by decide +kernel
theorem dX8_ate_48 : decode cX8_ate 48 = .ok (.goto 4, 3) := by decide +kernel
theorem dX8_ate_51 : decode cX8_ate 51 = .ok (.iconst 0, 1) := by decide +kernel
theorem dX8_ate_52 : decode cX8_ate 52 = .ok (.ior, 1) := by decide +kernel
theorem dX8_ate_53 : decode cX8_ate 53 = .ok (.istore_n 3, 1) := by decide +kernel
theorem dX8_ate_54 : decode cX8_ate 54 = .ok (.iinc 4 1, 3) := by decide +kernel
theorem dX8_ate_57 : decode cX8_ate 57 = .ok (.goto (-39), 3) := by decide +kernel
theorem dX8_ate_60 : decode cX8_ate 60 = .ok (.iload_n 3, 1) := by decide +kernel
theorem dX8_ate_61 : decode cX8_ate 61 = .ok (.ireturn, 1) := by decide +kernel
set_option maxRecDepth 4000 in
theorem kX8_ate (G : GT) {σ : St} {a1 : Int32} : ∀ (r : Int32) , fX8_ate σ a1 = some r → MCt G 6 yX8_ate cX8_ate 5 (some .int) [.ref (gad G 62), .int a1] σ (some (.int r)) σ := by
  intro r hF
  refine met_i (by decide) (Nat.le_of_ble_eq_true rfl) (fun X cx hE => ?_)
  have cx : Cx G X RX8 cX8_ate 5 6 := cx
  have hb52 : ∀ (kr18 : Int32 → Int32 → Int32 → Option (Int32)), (∀ (x1 : Int32) (x3 : Int32) (x4 : Int32) , kr18 x1 x3 x4 = some r → WW G X 5 σ [(0, .ref (gad G 62)), (1, .int x1), (3, .int x3), (4, .int x4)] 18 []) → ∀ (x1 : Int32) (x4 : Int32) (y0 : Int32) (y1 : Int32) , fX8_ate_b52 σ kr18 x1 x4 y0 y1 = some r → WW G X 5 σ [(0, .ref (gad G 62)), (1, .int x1), (4, .int x4)] 52 [.int y1, .int y0] := by
    intro kr18 hk18
    intro x1 x4 y0 y1 hF
    unfold fX8_ate_b52 at hF
    refine ww_ior cx dX8_ate_52 ?_
    refine ww_istore_n (ks := [0, 1, 2, 3]) (lv' := fun v1 => [(3, .int v1), (0, .ref (gad G 62)), (1, .int x1), (4, .int x4)]) cx dX8_ate_53 rfl (by decide) hF (fun _ => rfl) (fun v1 hF => ?_)
    refine ww_iinc (j := 3) (ks := [0, 1, 2, 3]) (lv' := fun v2 => [(4, .int v2), (3, .int v1), (0, .ref (gad G 62)), (1, .int x1)]) cx dX8_ate_54 (by decide) rfl ic_1 hF (fun _ => rfl) (fun v2 hF => ?_)
    refine ww_goto cx dX8_ate_57 (tgt := 18) rfl ?_
    exact ww_sub [2, 3, 1, 0] rfl (hk18 _ _ _ hF)
  have hl18 : ∀ n : Nat, ∀ (x1 : Int32) (x3 : Int32) (x4 : Int32) , fX8_ate_l18 σ n x1 x3 x4 = some r → WW G X 5 σ [(0, .ref (gad G 62)), (1, .int x1), (3, .int x3), (4, .int x4)] 18 [] := by
    intro n
    induction n with
    | zero =>
      intro x1 x3 x4 hF
      exact absurd hF (by intro z; cases z)
    | succ n ih =>
      intro x1 x3 x4 hF
      have hk18 := ih
      have hF : fX8_ate_B18 σ (fX8_ate_l18 σ n) x1 x3 x4 = some r := hF
      unfold fX8_ate_B18 at hF
      refine ww_iload cx dX8_ate_18 3 rfl ?_
      refine ww_aload_n cx dX8_ate_20 rfl 0 rfl ?_
      refine gf_X8_9 cx dX8_ate_21 ?_
      refine ww_iconst cx dX8_ate_24 ic_5 ?_
      refine ww_iald (N := 77) cx (sh_63) dX8_ate_25 hF (fun hF => ?_)
      refine ww_icmp_ge cx dX8_ate_26 (tgt := 60) rfl hF (fun hF => ?_) (fun hF => ?_)
      · refine ww_iload_n cx dX8_ate_60 rfl 2 rfl ?_
        exact ww_rip hE dX8_ate_61 hF
      · refine ww_iload_n cx dX8_ate_29 rfl 2 rfl ?_
        refine ww_aload_n cx dX8_ate_30 rfl 0 rfl ?_
        refine ww_iload cx dX8_ate_31 3 rfl ?_
        refine ww_aload_n cx dX8_ate_33 rfl 0 rfl ?_
        refine ww_iload_n cx dX8_ate_34 rfl 1 rfl ?_
        refine ww_V1_pi kv_X8_442 rfl cx sh_62 ⟨Nat.le_of_ble_eq_true rfl, Nat.le_of_ble_eq_true rfl⟩ (Nat.le_of_ble_eq_true rfl) dX8_ate_35 (kX8_eatenBy G) hF (fun r3 hF => ?_)
        refine ww_V2_pi kv_X8_369 rfl cx sh_62 ⟨Nat.le_of_ble_eq_true rfl, Nat.le_of_ble_eq_true rfl⟩ (Nat.le_of_ble_eq_true rfl) dX8_ate_38 (kX8_canProve G) hF (fun r4 hF => ?_)
        refine ww_if_eq cx dX8_ate_41 (tgt := 51) rfl hF (fun hF => ?_) (fun hF => ?_)
        · refine ww_iconst cx dX8_ate_51 ic_0 ?_
          exact ww_sub [0, 1, 3] rfl (hb52 _ hk18 _ _ _ _ hF)
        · refine ww_iconst cx dX8_ate_44 ic_1 ?_
          refine ww_iload cx dX8_ate_45 3 rfl ?_
          refine ww_ishl cx dX8_ate_47 ?_
          refine ww_goto cx dX8_ate_48 (tgt := 52) rfl ?_
          exact ww_sub [0, 1, 3] rfl (hb52 _ hk18 _ _ _ _ hF)
  unfold fX8_ate at hF
  show WW G X 5 σ [(0, .ref (gad G 62)), (1, .int a1)] 0 []
  refine ww_aload_n cx dX8_ate_0 rfl 0 rfl ?_
  refine ww_iload_n cx dX8_ate_1 rfl 1 rfl ?_
  refine ww_iconst cx dX8_ate_2 ic_1 ?_
  refine ww_V2_pi kv_X8_439 rfl cx sh_62 ⟨Nat.le_of_ble_eq_true rfl, Nat.le_of_ble_eq_true rfl⟩ (Nat.le_of_ble_eq_true rfl) dX8_ate_3 (kX8_asksEaten G) hF (fun r5 hF => ?_)
  refine ww_istore_n (ks := [0, 1, 2]) (lv' := fun v6 => [(2, .int v6), (0, .ref (gad G 62)), (1, .int a1)]) cx dX8_ate_6 rfl (by decide) hF (fun _ => rfl) (fun v6 hF => ?_)
  refine ww_iload_n cx dX8_ate_7 rfl 0 rfl ?_
  refine ww_if_ge cx dX8_ate_8 (tgt := 13) rfl hF (fun hF => ?_) (fun hF => ?_)
  · refine ww_iconst cx dX8_ate_13 ic_0 ?_
    refine ww_istore_n (ks := [0, 2, 3]) (lv' := fun v7 => [(3, .int v7), (0, .ref (gad G 62)), (1, .int a1)]) cx dX8_ate_14 rfl (by decide) hF (fun _ => rfl) (fun v7 hF => ?_)
    refine ww_iconst cx dX8_ate_15 ic_0 ?_
    refine ww_istore (ks := [0, 1, 2, 3]) (lv' := fun v8 => [(4, .int v8), (3, .int v7), (0, .ref (gad G 62)), (1, .int a1)]) cx dX8_ate_16 (by decide) hF (fun _ => rfl) (fun v8 hF => ?_)
    exact ww_sub [2, 3, 1, 0] rfl (hl18 FU _ _ _ hF)
  · refine ww_iload_n cx dX8_ate_11 rfl 0 rfl ?_
    exact ww_rip hE dX8_ate_12 hF
theorem dX8_bite_0 : decode cX8_bite 0 = .ok (.aload_n 0, 1) := by decide +kernel
theorem dX8_bite_1 : decode cX8_bite 1 = .ok (.iload_n 1, 1) := by decide +kernel
theorem dX8_bite_2 : decode cX8_bite 2 = .ok (.i2l, 1) := by decide +kernel
theorem dX8_bite_3 : decode cX8_bite 3 = .ok (.invokevirtual 269, 3) := by decide +kernel
theorem dX8_bite_6 : decode cX8_bite 6 = .ok (.ifCond .ne 6, 3) := by decide +kernel
theorem dX8_bite_9 : decode cX8_bite 9 = .ok (.bipush (-2), 2) := by decide +kernel
theorem dX8_bite_11 : decode cX8_bite 11 = .ok (.ireturn, 1) := by decide +kernel
theorem dX8_bite_12 : decode cX8_bite 12 = .ok (.aload_n 0, 1) := by decide +kernel
theorem dX8_bite_13 : decode cX8_bite 13 = .ok (.iload_n 1, 1) := by decide +kernel
theorem dX8_bite_14 : decode cX8_bite 14 = .ok (.invokevirtual 342, 3) := by decide +kernel
theorem dX8_bite_17 : decode cX8_bite 17 = .ok (.istore_n 3, 1) := by decide +kernel
theorem dX8_bite_18 : decode cX8_bite 18 = .ok (.iload_n 3, 1) := by decide +kernel
theorem dX8_bite_19 : decode cX8_bite 19 = .ok (.iconst (-1), 1) := by decide +kernel
theorem dX8_bite_20 : decode cX8_bite 20 = .ok (.if_icmp .eq 19, 3) := by decide +kernel
theorem dX8_bite_23 : decode cX8_bite 23 = .ok (.iload_n 2, 1) := by decide +kernel
theorem dX8_bite_24 : decode cX8_bite 24 = .ok (.i2l, 1) := by decide +kernel
theorem dX8_bite_25 : decode cX8_bite 25 = .ok (.lconst 0, 1) := by decide +kernel
theorem dX8_bite_26 : decode cX8_bite 26 = .ok (.iload_n 3, 1) := by decide +kernel
theorem dX8_bite_27 : decode cX8_bite 27 = .ok (.invokestatic 273, 3) := by decide +kernel
theorem dX8_bite_30 : decode cX8_bite 30 = .ok (.iconst 1, 1) := by decide +kernel
theorem dX8_bite_31 : decode cX8_bite 31 = .ok (.isub, 1) := by decide +kernel
theorem dX8_bite_32 : decode cX8_bite 32 = .ok (.i2l, 1) := by decide +kernel
theorem dX8_bite_33 : decode cX8_bite 33 = .ok (.invokestatic 83, 3) := by decide +kernel
theorem dX8_bite_36 : decode cX8_bite 36 = .ok (.ifCond .ne 5, 3) := by decide +kernel
theorem dX8_bite_39 : decode cX8_bite 39 = .ok (.iconst (-1), 1) := by decide +kernel
theorem dX8_bite_40 : decode cX8_bite 40 = .ok (.ireturn, 1) := by decide +kernel
theorem dX8_bite_41 : decode cX8_bite 41 = .ok (.aload_n 0, 1) := by decide +kernel
theorem dX8_bite_42 : decode cX8_bite 42 = .ok (.invokevirtual 257, 3) := by decide +kernel
theorem dX8_bite_45 : decode cX8_bite 45 = .ok (.istore 4, 2) := by decide +kernel
theorem dX8_bite_47 : decode cX8_bite 47 = .ok (.iconst 0, 1) := by decide +kernel
theorem dX8_bite_48 : decode cX8_bite 48 = .ok (.istore 5, 2) := by decide +kernel
theorem dX8_bite_50 : decode cX8_bite 50 = .ok (.iconst 0, 1) := by decide +kernel
theorem dX8_bite_51 : decode cX8_bite 51 = .ok (.istore 6, 2) := by decide +kernel
theorem dX8_bite_53 : decode cX8_bite 53 = .ok (.iload 6, 2) := by decide +kernel
theorem dX8_bite_55 : decode cX8_bite 55 = .ok (.iload_n 2, 1) := by decide +kernel
theorem dX8_bite_56 : decode cX8_bite 56 = .ok (.if_icmp .gt 76, 3) := by decide +kernel
theorem dX8_bite_59 : decode cX8_bite 59 = .ok (.iconst 0, 1) := by decide +kernel
theorem dX8_bite_60 : decode cX8_bite 60 = .ok (.istore 5, 2) := by decide +kernel
theorem dX8_bite_62 : decode cX8_bite 62 = .ok (.iload 5, 2) := by decide +kernel
theorem dX8_bite_64 : decode cX8_bite 64 = .ok (.aload_n 0, 1) := by decide +kernel
theorem dX8_bite_65 : decode cX8_bite 65 = .ok (.getfield 9, 3) := by decide +kernel
theorem dX8_bite_68 : decode cX8_bite 68 = .ok (.iconst 4, 1) := by decide +kernel
theorem dX8_bite_69 : decode cX8_bite 69 = .ok (.iaload, 1) := by decide +kernel
theorem dX8_bite_70 : decode cX8_bite 70 = .ok (.if_icmp .ge 29, 3) := by decide +kernel
theorem dX8_bite_73 : decode cX8_bite 73 = .ok (.iload_n 3, 1) := by decide +kernel
theorem dX8_bite_74 : decode cX8_bite 74 = .ok (.iload 5, 2) := by decide +kernel
theorem dX8_bite_76 : decode cX8_bite 76 = .ok (.invokestatic 168, 3) := by decide +kernel
theorem dX8_bite_79 : decode cX8_bite 79 = .ok (.ifCond .eq 14, 3) := by decide +kernel
theorem dX8_bite_82 : decode cX8_bite 82 = .ok (.aload_n 0, 1) := by decide +kernel
theorem dX8_bite_83 : decode cX8_bite 83 = .ok (.iload 5, 2) := by decide +kernel
theorem dX8_bite_85 : decode cX8_bite 85 = .ok (.iload 4, 2) := by decide +kernel
theorem dX8_bite_87 : decode cX8_bite 87 = .ok (.invokevirtual 300, 3) := by decide +kernel
theorem dX8_bite_90 : decode cX8_bite 90 = .ok (.ifCond .ne 9, 3) := by decide +kernel
theorem dX8_bite_93 : decode cX8_bite 93 = .ok (.iinc 5 1, 3) := by decide +kernel
theorem dX8_bite_96 : decode cX8_bite 96 = .ok (.goto (-34), 3) := by decide +kernel
theorem dX8_bite_99 : decode cX8_bite 99 = .ok (.iload 5, 2) := by decide +kernel
theorem dX8_bite_101 : decode cX8_bite 101 = .ok (.aload_n 0, 1) := by decide +kernel
theorem dX8_bite_102 : decode cX8_bite 102 = .ok (.getfield 9, 3) := by decide +kernel
theorem dX8_bite_105 : decode cX8_bite 105 = .ok (.iconst 4, 1) := by decide +kernel
theorem dX8_bite_106 : decode cX8_bite 106 = .ok (.iaload, 1) := by decide +kernel
theorem dX8_bite_107 : decode cX8_bite 107 = .ok (.if_icmp .ne 5, 3) := by decide +kernel
theorem dX8_bite_110 : decode cX8_bite 110 = .ok (.iconst (-1), 1) := by decide +kernel
theorem dX8_bite_111 : decode cX8_bite 111 = .ok (.ireturn, 1) := by decide +kernel
theorem dX8_bite_112 : decode cX8_bite 112 = .ok (.iload 4, 2) := by decide +kernel
theorem dX8_bite_114 : decode cX8_bite 114 = .ok (.iconst 1, 1) := by decide +kernel
theorem dX8_bite_115 : decode cX8_bite 115 = .ok (.aload_n 0, 1) := by decide +kernel
theorem dX8_bite_116 : decode cX8_bite 116 = .ok (.iload 5, 2) := by decide +kernel
theorem dX8_bite_118 : decode cX8_bite 118 = .ok (.iconst 0, 1) := by decide +kernel
theorem dX8_bite_119 : decode cX8_bite 119 = .ok (.invokevirtual 263, 3) := by decide +kernel
theorem dX8_bite_122 : decode cX8_bite 122 = .ok (.ishl, 1) := by decide +kernel
theorem dX8_bite_123 : decode cX8_bite 123 = .ok (.ior, 1) := by decide +kernel
theorem dX8_bite_124 : decode cX8_bite 124 = .ok (.istore 4, 2) := by decide +kernel
theorem dX8_bite_126 : decode cX8_bite 126 = .ok (.iinc 6 1, 3) := by decide +kernel
theorem dX8_bite_129 : decode cX8_bite 129 = .ok (.goto (-76), 3) := by decide +kernel
theorem dX8_bite_132 : decode cX8_bite 132 = .ok (.iload 5, 2) := by decide +kernel
theorem dX8_bite_134 : decode cX8_bite 134 = .ok (.ireturn, 1) := by decide +kernel
set_option maxRecDepth 4000 in
theorem kX8_bite (G : GT) {σ : St} {a1 : Int32} {a2 : Int32} : ∀ (r : Int32) , fX8_bite σ a1 a2 = some r → MCt G 6 yX8_bite cX8_bite 7 (some .int) [.ref (gad G 62), .int a1, .int a2] σ (some (.int r)) σ := by
  intro r hF
  refine met_i (by decide) (Nat.le_of_ble_eq_true rfl) (fun X cx hE => ?_)
  have cx : Cx G X RX8 cX8_bite 7 6 := cx
  have hb99 : ∀ (kr53 : Int32 → Int32 → Int32 → Int32 → Int32 → Option (Int32)), (∀ (x2 : Int32) (x3 : Int32) (x4 : Int32) (x5 : Int32) (x6 : Int32) , kr53 x2 x3 x4 x5 x6 = some r → WW G X 7 σ [(0, .ref (gad G 62)), (2, .int x2), (3, .int x3), (4, .int x4), (5, .int x5), (6, .int x6)] 53 []) → ∀ (x2 : Int32) (x3 : Int32) (x4 : Int32) (x5 : Int32) (x6 : Int32) , fX8_bite_b99 σ kr53 x2 x3 x4 x5 x6 = some r → WW G X 7 σ [(0, .ref (gad G 62)), (2, .int x2), (3, .int x3), (4, .int x4), (5, .int x5), (6, .int x6)] 99 [] := by
    intro kr53 hk53
    intro x2 x3 x4 x5 x6 hF
    unfold fX8_bite_b99 at hF
    refine ww_iload cx dX8_bite_99 4 rfl ?_
    refine ww_aload_n cx dX8_bite_101 rfl 0 rfl ?_
    refine gf_X8_9 cx dX8_bite_102 ?_
    refine ww_iconst cx dX8_bite_105 ic_4 ?_
    refine ww_iald (N := 77) cx (sh_63) dX8_bite_106 hF (fun hF => ?_)
    refine ww_icmp_ne cx dX8_bite_107 (tgt := 112) rfl hF (fun hF => ?_) (fun hF => ?_)
    · refine ww_iload cx dX8_bite_112 3 rfl ?_
      refine ww_iconst cx dX8_bite_114 ic_1 ?_
      refine ww_aload_n cx dX8_bite_115 rfl 0 rfl ?_
      refine ww_iload cx dX8_bite_116 4 rfl ?_
      refine ww_iconst cx dX8_bite_118 ic_0 ?_
      refine ww_V2_pi kv_X8_263 rfl cx sh_62 ⟨Nat.le_of_ble_eq_true rfl, Nat.le_of_ble_eq_true rfl⟩ (Nat.le_of_ble_eq_true rfl) dX8_bite_119 (kX8_ofStep G) hF (fun r1 hF => ?_)
      refine ww_ishl cx dX8_bite_122 ?_
      refine ww_ior cx dX8_bite_123 ?_
      refine ww_istore (ks := [0, 1, 2, 3, 4, 5]) (lv' := fun v2 => [(4, .int v2), (0, .ref (gad G 62)), (2, .int x2), (3, .int x3), (5, .int x5), (6, .int x6)]) cx dX8_bite_124 (by decide) hF (fun _ => rfl) (fun v2 hF => ?_)
      refine ww_iinc (j := 5) (ks := [0, 1, 2, 3, 4, 5]) (lv' := fun v3 => [(6, .int v3), (4, .int v2), (0, .ref (gad G 62)), (2, .int x2), (3, .int x3), (5, .int x5)]) cx dX8_bite_126 (by decide) rfl ic_1 hF (fun _ => rfl) (fun v3 hF => ?_)
      refine ww_goto cx dX8_bite_129 (tgt := 53) rfl ?_
      exact ww_sub [2, 3, 4, 1, 5, 0] rfl (hk53 _ _ _ _ _ hF)
    · refine ww_iconst cx dX8_bite_110 ic_m1 ?_
      exact ww_rip hE dX8_bite_111 hF
  have hl62 : ∀ (kr53 : Int32 → Int32 → Int32 → Int32 → Int32 → Option (Int32)), (∀ (x2 : Int32) (x3 : Int32) (x4 : Int32) (x5 : Int32) (x6 : Int32) , kr53 x2 x3 x4 x5 x6 = some r → WW G X 7 σ [(0, .ref (gad G 62)), (2, .int x2), (3, .int x3), (4, .int x4), (5, .int x5), (6, .int x6)] 53 []) → ∀ n : Nat, ∀ (x2 : Int32) (x3 : Int32) (x4 : Int32) (x5 : Int32) (x6 : Int32) , fX8_bite_l62 σ kr53 n x2 x3 x4 x5 x6 = some r → WW G X 7 σ [(0, .ref (gad G 62)), (2, .int x2), (3, .int x3), (4, .int x4), (5, .int x5), (6, .int x6)] 62 [] := by
    intro kr53 hk53
    intro n
    induction n with
    | zero =>
      intro x2 x3 x4 x5 x6 hF
      exact absurd hF (by intro z; cases z)
    | succ n ih =>
      intro x2 x3 x4 x5 x6 hF
      have hk62 := ih
      have hF : fX8_bite_B62 σ kr53 (fX8_bite_l62 σ kr53 n) x2 x3 x4 x5 x6 = some r := hF
      unfold fX8_bite_B62 at hF
      refine ww_iload cx dX8_bite_62 4 rfl ?_
      refine ww_aload_n cx dX8_bite_64 rfl 0 rfl ?_
      refine gf_X8_9 cx dX8_bite_65 ?_
      refine ww_iconst cx dX8_bite_68 ic_4 ?_
      refine ww_iald (N := 77) cx (sh_63) dX8_bite_69 hF (fun hF => ?_)
      refine ww_icmp_ge cx dX8_bite_70 (tgt := 99) rfl hF (fun hF => ?_) (fun hF => ?_)
      · exact hb99 _ hk53 _ _ _ _ _ hF
      · refine ww_iload_n cx dX8_bite_73 rfl 2 rfl ?_
        refine ww_iload cx dX8_bite_74 4 rfl ?_
        refine ww_S2_pi kv_X8_168 cx ⟨Nat.le_of_ble_eq_true rfl, Nat.le_of_ble_eq_true rfl⟩ (Nat.le_of_ble_eq_true rfl) dX8_bite_76 (kX8_bit G) hF (fun r4 hF => ?_)
        refine ww_if_eq cx dX8_bite_79 (tgt := 93) rfl hF (fun hF => ?_) (fun hF => ?_)
        · refine ww_iinc (j := 4) (ks := [0, 1, 2, 3, 4, 5]) (lv' := fun v5 => [(5, .int v5), (0, .ref (gad G 62)), (2, .int x2), (3, .int x3), (4, .int x4), (6, .int x6)]) cx dX8_bite_93 (by decide) rfl ic_1 hF (fun _ => rfl) (fun v5 hF => ?_)
          refine ww_goto cx dX8_bite_96 (tgt := 62) rfl ?_
          exact ww_sub [1, 2, 3, 4, 0, 5] rfl (hk62 _ _ _ _ _ hF)
        · refine ww_aload_n cx dX8_bite_82 rfl 0 rfl ?_
          refine ww_iload cx dX8_bite_83 4 rfl ?_
          refine ww_iload cx dX8_bite_85 3 rfl ?_
          refine ww_V2_pi kv_X8_300 rfl cx sh_62 ⟨Nat.le_of_ble_eq_true rfl, Nat.le_of_ble_eq_true rfl⟩ (Nat.le_of_ble_eq_true rfl) dX8_bite_87 (kX8_goes G) hF (fun r6 hF => ?_)
          refine ww_if_ne cx dX8_bite_90 (tgt := 99) rfl hF (fun hF => ?_) (fun hF => ?_)
          · exact hb99 _ hk53 _ _ _ _ _ hF
          · refine ww_iinc (j := 4) (ks := [0, 1, 2, 3, 4, 5]) (lv' := fun v7 => [(5, .int v7), (0, .ref (gad G 62)), (2, .int x2), (3, .int x3), (4, .int x4), (6, .int x6)]) cx dX8_bite_93 (by decide) rfl ic_1 hF (fun _ => rfl) (fun v7 hF => ?_)
            refine ww_goto cx dX8_bite_96 (tgt := 62) rfl ?_
            exact ww_sub [1, 2, 3, 4, 0, 5] rfl (hk62 _ _ _ _ _ hF)
  have hl53 : ∀ n : Nat, ∀ (x2 : Int32) (x3 : Int32) (x4 : Int32) (x5 : Int32) (x6 : Int32) , fX8_bite_l53 σ n x2 x3 x4 x5 x6 = some r → WW G X 7 σ [(0, .ref (gad G 62)), (2, .int x2), (3, .int x3), (4, .int x4), (5, .int x5), (6, .int x6)] 53 [] := by
    intro n
    induction n with
    | zero =>
      intro x2 x3 x4 x5 x6 hF
      exact absurd hF (by intro z; cases z)
    | succ n ih =>
      intro x2 x3 x4 x5 x6 hF
      have hk53 := ih
      have hF : fX8_bite_B53 σ (fX8_bite_l53 σ n) x2 x3 x4 x5 x6 = some r := hF
      unfold fX8_bite_B53 at hF
      refine ww_iload cx dX8_bite_53 5 rfl ?_
      refine ww_iload_n cx dX8_bite_55 rfl 1 rfl ?_
      refine ww_icmp_gt cx dX8_bite_56 (tgt := 132) rfl hF (fun hF => ?_) (fun hF => ?_)
      · refine ww_iload cx dX8_bite_132 4 rfl ?_
        exact ww_rip hE dX8_bite_134 hF
      · refine ww_iconst cx dX8_bite_59 ic_0 ?_
        refine ww_istore (ks := [0, 1, 2, 3, 4, 5]) (lv' := fun v8 => [(5, .int v8), (0, .ref (gad G 62)), (2, .int x2), (3, .int x3), (4, .int x4), (6, .int x6)]) cx dX8_bite_60 (by decide) hF (fun _ => rfl) (fun v8 hF => ?_)
        exact ww_sub [1, 2, 3, 4, 0, 5] rfl (hl62 _ hk53 FU _ _ _ _ _ hF)
  unfold fX8_bite at hF
  show WW G X 7 σ [(0, .ref (gad G 62)), (1, .int a1), (2, .int a2)] 0 []
  refine ww_aload_n cx dX8_bite_0 rfl 0 rfl ?_
  refine ww_iload_n cx dX8_bite_1 rfl 1 rfl ?_
  refine ww_i2l cx dX8_bite_2 ?_
  refine ww_V1_pi kv_X8_269 rfl cx sh_62 ⟨Nat.le_of_ble_eq_true rfl, Nat.le_of_ble_eq_true rfl⟩ (Nat.le_of_ble_eq_true rfl) dX8_bite_3 (kX8_isClaim G) hF (fun r9 hF => ?_)
  refine ww_if_ne cx dX8_bite_6 (tgt := 12) rfl hF (fun hF => ?_) (fun hF => ?_)
  · refine ww_aload_n cx dX8_bite_12 rfl 0 rfl ?_
    refine ww_iload_n cx dX8_bite_13 rfl 1 rfl ?_
    refine ww_V1_pi kv_X8_342 rfl cx sh_62 ⟨Nat.le_of_ble_eq_true rfl, Nat.le_of_ble_eq_true rfl⟩ (Nat.le_of_ble_eq_true rfl) dX8_bite_14 (kX8_proofOf G) hF (fun r10 hF => ?_)
    refine ww_istore_n (ks := [0, 1, 3]) (lv' := fun v11 => [(3, .int v11), (0, .ref (gad G 62)), (2, .int a2)]) cx dX8_bite_17 rfl (by decide) hF (fun _ => rfl) (fun v11 hF => ?_)
    refine ww_iload_n cx dX8_bite_18 rfl 0 rfl ?_
    refine ww_iconst cx dX8_bite_19 ic_m1 ?_
    refine ww_icmp_eq cx dX8_bite_20 (tgt := 39) rfl hF (fun hF => ?_) (fun hF => ?_)
    · refine ww_iconst cx dX8_bite_39 ic_m1 ?_
      exact ww_rip hE dX8_bite_40 hF
    · refine ww_iload_n cx dX8_bite_23 rfl 2 rfl ?_
      refine ww_i2l cx dX8_bite_24 ?_
      refine ww_lconst cx dX8_bite_25 lc_0 ?_
      refine ww_iload_n cx dX8_bite_26 rfl 0 rfl ?_
      refine ww_S1_pi kv_X8_273 cx ⟨Nat.le_of_ble_eq_true rfl, Nat.le_of_ble_eq_true rfl⟩ (Nat.le_of_ble_eq_true rfl) dX8_bite_27 (kX8_bits G) hF (fun r12 hF => ?_)
      refine ww_iconst cx dX8_bite_30 ic_1 ?_
      refine ww_isub cx dX8_bite_31 ?_
      refine ww_i2l cx dX8_bite_32 ?_
      refine ww_S3_pi kv_X8_83 cx ⟨Nat.le_of_ble_eq_true rfl, Nat.le_of_ble_eq_true rfl⟩ (Nat.le_of_ble_eq_true rfl) dX8_bite_33 (kX8_in G) hF (fun r13 hF => ?_)
      refine ww_if_ne cx dX8_bite_36 (tgt := 41) rfl hF (fun hF => ?_) (fun hF => ?_)
      · refine ww_aload_n cx dX8_bite_41 rfl 1 rfl ?_
        refine ww_V0_pi kv_X8_257 rfl cx sh_62 ⟨Nat.le_of_ble_eq_true rfl, Nat.le_of_ble_eq_true rfl⟩ (Nat.le_of_ble_eq_true rfl) dX8_bite_42 (kX8_saltNow G) hF (fun r14 hF => ?_)
        refine ww_istore (ks := [0, 1, 2, 3]) (lv' := fun v15 => [(4, .int v15), (3, .int v11), (0, .ref (gad G 62)), (2, .int a2)]) cx dX8_bite_45 (by decide) hF (fun _ => rfl) (fun v15 hF => ?_)
        refine ww_iconst cx dX8_bite_47 ic_0 ?_
        refine ww_istore (ks := [0, 1, 2, 3, 4]) (lv' := fun v16 => [(5, .int v16), (4, .int v15), (3, .int v11), (0, .ref (gad G 62)), (2, .int a2)]) cx dX8_bite_48 (by decide) hF (fun _ => rfl) (fun v16 hF => ?_)
        refine ww_iconst cx dX8_bite_50 ic_0 ?_
        refine ww_istore (ks := [0, 1, 2, 3, 4, 5]) (lv' := fun v17 => [(6, .int v17), (5, .int v16), (4, .int v15), (3, .int v11), (0, .ref (gad G 62)), (2, .int a2)]) cx dX8_bite_51 (by decide) hF (fun _ => rfl) (fun v17 hF => ?_)
        exact ww_sub [4, 5, 3, 2, 1, 0] rfl (hl53 FU _ _ _ _ _ hF)
      · refine ww_iconst cx dX8_bite_39 ic_m1 ?_
        exact ww_rip hE dX8_bite_40 hF
  · refine ww_bipush cx dX8_bite_9 bc_m2 ?_
    exact ww_rip hE dX8_bite_11 hF
theorem dX8_course_0 : decode cX8_course 0 = .ok (.aload_n 0, 1) := by decide +kernel
theorem dX8_course_1 : decode cX8_course 1 = .ok (.iload_n 1, 1) := by decide +kernel
theorem dX8_course_2 : decode cX8_course 2 = .ok (.i2l, 1) := by decide +kernel
theorem dX8_course_3 : decode cX8_course 3 = .ok (.invokevirtual 285, 3) := by decide +kernel
theorem dX8_course_6 : decode cX8_course 6 = .ok (.ifCond .ne 6, 3) := by decide +kernel
theorem dX8_course_9 : decode cX8_course 9 = .ok (.bipush (-2), 2) := by decide +kernel
theorem dX8_course_11 : decode cX8_course 11 = .ok (.ireturn, 1) := by decide +kernel
theorem dX8_course_12 : decode cX8_course 12 = .ok (.aload_n 0, 1) := by decide +kernel
theorem dX8_course_13 : decode cX8_course 13 = .ok (.iload_n 1, 1) := by decide +kernel
theorem dX8_course_14 : decode cX8_course 14 = .ok (.invokevirtual 360, 3) := by decide +kernel
theorem dX8_course_17 : decode cX8_course 17 = .ok (.pop, 1) := by decide +kernel
theorem dX8_course_18 : decode cX8_course 18 = .ok (.aload_n 0, 1) := by decide +kernel
theorem dX8_course_19 : decode cX8_course 19 = .ok (.getfield 351, 3) := by decide +kernel
theorem dX8_course_22 : decode cX8_course 22 = .ok (.ireturn, 1) := by decide +kernel
set_option maxRecDepth 4000 in
theorem kX8_course (G : GT) {σ : St} {a1 : Int32} : ∀ (r : Int32) (σo : St) , fX8_course σ a1 = some (r, σo) → MCt G 6 yX8_course cX8_course 2 (some .int) [.ref (gad G 62), .int a1] σ (some (.int r)) σo := by
  intro r σo hF
  refine met_i (by decide) (Nat.le_of_ble_eq_true rfl) (fun X cx hE => ?_)
  have cx : Cx G X RX8 cX8_course 2 6 := cx
  unfold fX8_course at hF
  show WW G X 2 σ [(0, .ref (gad G 62)), (1, .int a1)] 0 []
  refine ww_aload_n cx dX8_course_0 rfl 0 rfl ?_
  refine ww_iload_n cx dX8_course_1 rfl 1 rfl ?_
  refine ww_i2l cx dX8_course_2 ?_
  refine ww_V1_pi kv_X8_285 rfl cx sh_62 ⟨Nat.le_of_ble_eq_true rfl, Nat.le_of_ble_eq_true rfl⟩ (Nat.le_of_ble_eq_true rfl) dX8_course_3 (kX8_isGuest G) hF (fun r1 hF => ?_)
  refine ww_if_ne cx dX8_course_6 (tgt := 12) rfl hF (fun hF => ?_) (fun hF => ?_)
  · refine ww_aload_n cx dX8_course_12 rfl 0 rfl ?_
    refine ww_iload_n cx dX8_course_13 rfl 1 rfl ?_
    refine ww_V1_si kv_X8_360 rfl cx sh_62 ⟨Nat.le_of_ble_eq_true rfl, Nat.le_of_ble_eq_true rfl⟩ (Nat.le_of_ble_eq_true rfl) dX8_course_14 (kX8_menuOf G) hF (fun r2 σ3 hF => ?_)
    refine ww_pop cx dX8_course_17 rfl ?_
    refine ww_aload_n cx dX8_course_18 rfl 0 rfl ?_
    refine gf_X8_351 cx dX8_course_19 ?_
    exact ww_ris hE dX8_course_22 hF
  · refine ww_bipush cx dX8_course_9 bc_m2 ?_
    exact ww_ris hE dX8_course_11 hF
theorem dX8_dishes_0 : decode cX8_dishes 0 = .ok (.aload_n 0, 1) := by decide +kernel
theorem dX8_dishes_1 : decode cX8_dishes 1 = .ok (.iload_n 1, 1) := by decide +kernel
theorem dX8_dishes_2 : decode cX8_dishes 2 = .ok (.i2l, 1) := by decide +kernel
theorem dX8_dishes_3 : decode cX8_dishes 3 = .ok (.invokevirtual 285, 3) := by decide +kernel
theorem dX8_dishes_6 : decode cX8_dishes 6 = .ok (.ifCond .ne 6, 3) := by decide +kernel
theorem dX8_dishes_9 : decode cX8_dishes 9 = .ok (.bipush (-2), 2) := by decide +kernel
theorem dX8_dishes_11 : decode cX8_dishes 11 = .ok (.ireturn, 1) := by decide +kernel
theorem dX8_dishes_12 : decode cX8_dishes 12 = .ok (.aload_n 0, 1) := by decide +kernel
theorem dX8_dishes_13 : decode cX8_dishes 13 = .ok (.iload_n 1, 1) := by decide +kernel
theorem dX8_dishes_14 : decode cX8_dishes 14 = .ok (.invokevirtual 360, 3) := by decide +kernel
theorem dX8_dishes_17 : decode cX8_dishes 17 = .ok (.pop, 1) := by decide +kernel
theorem dX8_dishes_18 : decode cX8_dishes 18 = .ok (.aload_n 0, 1) := by decide +kernel
theorem dX8_dishes_19 : decode cX8_dishes 19 = .ok (.aload_n 0, 1) := by decide +kernel
theorem dX8_dishes_20 : decode cX8_dishes 20 = .ok (.invokevirtual 257, 3) := by decide +kernel
theorem dX8_dishes_23 : decode cX8_dishes 23 = .ok (.aload_n 0, 1) := by decide +kernel
theorem dX8_dishes_24 : decode cX8_dishes 24 = .ok (.getfield 351, 3) := by decide +kernel
theorem dX8_dishes_27 : decode cX8_dishes 27 = .ok (.invokevirtual 307, 3) := by decide +kernel
theorem dX8_dishes_30 : decode cX8_dishes 30 = .ok (.aload_n 0, 1) := by decide +kernel
theorem dX8_dishes_31 : decode cX8_dishes 31 = .ok (.invokevirtual 257, 3) := by decide +kernel
theorem dX8_dishes_34 : decode cX8_dishes 34 = .ok (.iconst (-1), 1) := by decide +kernel
theorem dX8_dishes_35 : decode cX8_dishes 35 = .ok (.ixor, 1) := by decide +kernel
theorem dX8_dishes_36 : decode cX8_dishes 36 = .ok (.iand, 1) := by decide +kernel
theorem dX8_dishes_37 : decode cX8_dishes 37 = .ok (.ireturn, 1) := by decide +kernel
set_option maxRecDepth 4000 in
theorem kX8_dishes (G : GT) {σ : St} {a1 : Int32} : ∀ (r : Int32) (σo : St) , fX8_dishes σ a1 = some (r, σo) → MCt G 6 yX8_dishes cX8_dishes 2 (some .int) [.ref (gad G 62), .int a1] σ (some (.int r)) σo := by
  intro r σo hF
  refine met_i (by decide) (Nat.le_of_ble_eq_true rfl) (fun X cx hE => ?_)
  have cx : Cx G X RX8 cX8_dishes 2 6 := cx
  unfold fX8_dishes at hF
  show WW G X 2 σ [(0, .ref (gad G 62)), (1, .int a1)] 0 []
  refine ww_aload_n cx dX8_dishes_0 rfl 0 rfl ?_
  refine ww_iload_n cx dX8_dishes_1 rfl 1 rfl ?_
  refine ww_i2l cx dX8_dishes_2 ?_
  refine ww_V1_pi kv_X8_285 rfl cx sh_62 ⟨Nat.le_of_ble_eq_true rfl, Nat.le_of_ble_eq_true rfl⟩ (Nat.le_of_ble_eq_true rfl) dX8_dishes_3 (kX8_isGuest G) hF (fun r1 hF => ?_)
  refine ww_if_ne cx dX8_dishes_6 (tgt := 12) rfl hF (fun hF => ?_) (fun hF => ?_)
  · refine ww_aload_n cx dX8_dishes_12 rfl 0 rfl ?_
    refine ww_iload_n cx dX8_dishes_13 rfl 1 rfl ?_
    refine ww_V1_si kv_X8_360 rfl cx sh_62 ⟨Nat.le_of_ble_eq_true rfl, Nat.le_of_ble_eq_true rfl⟩ (Nat.le_of_ble_eq_true rfl) dX8_dishes_14 (kX8_menuOf G) hF (fun r2 σ3 hF => ?_)
    refine ww_pop cx dX8_dishes_17 rfl ?_
    refine ww_aload_n cx dX8_dishes_18 rfl 0 rfl ?_
    refine ww_aload_n cx dX8_dishes_19 rfl 0 rfl ?_
    refine ww_V0_pi kv_X8_257 rfl cx sh_62 ⟨Nat.le_of_ble_eq_true rfl, Nat.le_of_ble_eq_true rfl⟩ (Nat.le_of_ble_eq_true rfl) dX8_dishes_20 (kX8_saltNow G) hF (fun r4 hF => ?_)
    refine ww_aload_n cx dX8_dishes_23 rfl 0 rfl ?_
    refine gf_X8_351 cx dX8_dishes_24 ?_
    refine ww_V2_pi kv_X8_307 rfl cx sh_62 ⟨Nat.le_of_ble_eq_true rfl, Nat.le_of_ble_eq_true rfl⟩ (Nat.le_of_ble_eq_true rfl) dX8_dishes_27 (kX8_provedBy G) hF (fun r5 hF => ?_)
    refine ww_aload_n cx dX8_dishes_30 rfl 0 rfl ?_
    refine ww_V0_pi kv_X8_257 rfl cx sh_62 ⟨Nat.le_of_ble_eq_true rfl, Nat.le_of_ble_eq_true rfl⟩ (Nat.le_of_ble_eq_true rfl) dX8_dishes_31 (kX8_saltNow G) hF (fun r6 hF => ?_)
    refine ww_iconst cx dX8_dishes_34 ic_m1 ?_
    refine ww_ixor cx dX8_dishes_35 ?_
    refine ww_iand cx dX8_dishes_36 ?_
    exact ww_ris hE dX8_dishes_37 hF
  · refine ww_bipush cx dX8_dishes_9 bc_m2 ?_
    exact ww_ris hE dX8_dishes_11 hF
theorem dX8_feast_0 : decode cX8_feast 0 = .ok (.iload_n 1, 1) := by decide +kernel
theorem dX8_feast_1 : decode cX8_feast 1 = .ok (.invokestatic 459, 3) := by decide +kernel
theorem dX8_feast_4 : decode cX8_feast 4 = .ok (.ifCond .eq 22, 3) := by decide +kernel
theorem dX8_feast_7 : decode cX8_feast 7 = .ok (.aload_n 0, 1) := by decide +kernel
theorem dX8_feast_8 : decode cX8_feast 8 = .ok (.iload_n 2, 1) := by decide +kernel
theorem dX8_feast_9 : decode cX8_feast 9 = .ok (.i2l, 1) := by decide +kernel
theorem dX8_feast_10 : decode cX8_feast 10 = .ok (.invokevirtual 285, 3) := by decide +kernel
theorem dX8_feast_13 : decode cX8_feast 13 = .ok (.ifCond .eq 13, 3) := by decide +kernel
theorem dX8_feast_16 : decode cX8_feast 16 = .ok (.aload_n 0, 1) := by decide +kernel
theorem dX8_feast_17 : decode cX8_feast 17 = .ok (.iload_n 1, 1) := by decide +kernel
theorem dX8_feast_18 : decode cX8_feast 18 = .ok (.i2l, 1) := by decide +kernel
theorem dX8_feast_19 : decode cX8_feast 19 = .ok (.iload_n 2, 1) := by decide +kernel
theorem dX8_feast_20 : decode cX8_feast 20 = .ok (.invokevirtual 466, 3) := by decide +kernel
theorem dX8_feast_23 : decode cX8_feast 23 = .ok (.goto 5, 3) := by decide +kernel
theorem dX8_feast_26 : decode cX8_feast 26 = .ok (.bipush (-2), 2) := by decide +kernel
theorem dX8_feast_28 : decode cX8_feast 28 = .ok (.ireturn, 1) := by decide +kernel
set_option maxRecDepth 4000 in
theorem kX8_feast (G : GT) {σ : St} {a1 : Int32} {a2 : Int32} : ∀ (r : Int32) (σo : St) , fX8_feast σ a1 a2 = some (r, σo) → MCt G 6 yX8_feast cX8_feast 3 (some .int) [.ref (gad G 62), .int a1, .int a2] σ (some (.int r)) σo := by
  intro r σo hF
  refine met_i (by decide) (Nat.le_of_ble_eq_true rfl) (fun X cx hE => ?_)
  have cx : Cx G X RX8 cX8_feast 3 6 := cx
  unfold fX8_feast at hF
  show WW G X 3 σ [(0, .ref (gad G 62)), (1, .int a1), (2, .int a2)] 0 []
  refine ww_iload_n cx dX8_feast_0 rfl 1 rfl ?_
  refine ww_S1_pi kv_X8_459 cx ⟨Nat.le_of_ble_eq_true rfl, Nat.le_of_ble_eq_true rfl⟩ (Nat.le_of_ble_eq_true rfl) dX8_feast_1 (kX8_isSeed G) hF (fun r1 hF => ?_)
  refine ww_if_eq cx dX8_feast_4 (tgt := 26) rfl hF (fun hF => ?_) (fun hF => ?_)
  · refine ww_bipush cx dX8_feast_26 bc_m2 ?_
    exact ww_ris hE dX8_feast_28 hF
  · refine ww_aload_n cx dX8_feast_7 rfl 0 rfl ?_
    refine ww_iload_n cx dX8_feast_8 rfl 2 rfl ?_
    refine ww_i2l cx dX8_feast_9 ?_
    refine ww_V1_pi kv_X8_285 rfl cx sh_62 ⟨Nat.le_of_ble_eq_true rfl, Nat.le_of_ble_eq_true rfl⟩ (Nat.le_of_ble_eq_true rfl) dX8_feast_10 (kX8_isGuest G) hF (fun r2 hF => ?_)
    refine ww_if_eq cx dX8_feast_13 (tgt := 26) rfl hF (fun hF => ?_) (fun hF => ?_)
    · refine ww_bipush cx dX8_feast_26 bc_m2 ?_
      exact ww_ris hE dX8_feast_28 hF
    · refine ww_aload_n cx dX8_feast_16 rfl 0 rfl ?_
      refine ww_iload_n cx dX8_feast_17 rfl 1 rfl ?_
      refine ww_i2l cx dX8_feast_18 ?_
      refine ww_iload_n cx dX8_feast_19 rfl 2 rfl ?_
      refine ww_V2_si kv_X8_466 rfl cx sh_62 ⟨Nat.le_of_ble_eq_true rfl, Nat.le_of_ble_eq_true rfl⟩ (Nat.le_of_ble_eq_true rfl) dX8_feast_20 (kX8_feastOf G) hF (fun r3 σ4 hF => ?_)
      refine ww_goto cx dX8_feast_23 (tgt := 28) rfl ?_
      exact ww_ris hE dX8_feast_28 hF
theorem dX8_following_0 : decode cX8_following 0 = .ok (.iconst 0, 1) := by decide +kernel
theorem dX8_following_1 : decode cX8_following 1 = .ok (.istore_n 1, 1) := by decide +kernel
theorem dX8_following_2 : decode cX8_following 2 = .ok (.iconst 0, 1) := by decide +kernel
theorem dX8_following_3 : decode cX8_following 3 = .ok (.istore_n 2, 1) := by decide +kernel
theorem dX8_following_4 : decode cX8_following 4 = .ok (.iload_n 2, 1) := by decide +kernel
theorem dX8_following_5 : decode cX8_following 5 = .ok (.aload_n 0, 1) := by decide +kernel
theorem dX8_following_6 : decode cX8_following 6 = .ok (.getfield 9, 3) := by decide +kernel
theorem dX8_following_9 : decode cX8_following 9 = .ok (.iconst 3, 1) := by decide +kernel
theorem dX8_following_10 : decode cX8_following 10 = .ok (.iaload, 1) := by decide +kernel
theorem dX8_following_11 : decode cX8_following 11 = .ok (.if_icmp .ge 27, 3) := by decide +kernel
theorem dX8_following_14 : decode cX8_following 14 = .ok (.iload_n 1, 1) := by decide +kernel
theorem dX8_following_15 : decode cX8_following 15 = .ok (.aload_n 0, 1) := by decide +kernel
theorem dX8_following_16 : decode cX8_following 16 = .ok (.iload_n 2, 1) := by decide +kernel
theorem dX8_following_17 : decode cX8_following 17 = .ok (.invokevirtual 294, 3) := by decide +kernel
theorem dX8_following_20 : decode cX8_following 20 = .ok (.ifCond .eq 9, 3) := by decide +kernel
theorem dX8_following_23 : decode cX8_following 23 = .ok (.iconst 1, 1) := by decide +kernel
theorem dX8_following_24 : decode cX8_following 24 = .ok (.iload_n 2, 1) := by decide +kernel
theorem dX8_following_25 : decode cX8_following 25 = .ok (.ishl, 1) := by decide +kernel
theorem dX8_following_26 : decode cX8_following 26 = .ok (.goto 4, 3) := by decide +kernel
theorem dX8_following_29 : decode cX8_following 29 = .ok (.iconst 0, 1) := by decide +kernel
theorem dX8_following_30 : decode cX8_following 30 = .ok (.ior, 1) := by decide +kernel
theorem dX8_following_31 : decode cX8_following 31 = .ok (.istore_n 1, 1) := by decide +kernel
theorem dX8_following_32 : decode cX8_following 32 = .ok (.iinc 2 1, 3) := by decide +kernel
theorem dX8_following_35 : decode cX8_following 35 = .ok (.goto (-31), 3) := by decide +kernel
theorem dX8_following_38 : decode cX8_following 38 = .ok (.iload_n 1, 1) := by decide +kernel
theorem dX8_following_39 : decode cX8_following 39 = .ok (.ireturn, 1) := by decide +kernel
set_option maxRecDepth 4000 in
theorem kX8_following (G : GT) {σ : St} : ∀ (r : Int32) , fX8_following σ = some r → MCt G 6 yX8_following cX8_following 3 (some .int) [.ref (gad G 62)] σ (some (.int r)) σ := by
  intro r hF
  refine met_i (by decide) (Nat.le_of_ble_eq_true rfl) (fun X cx hE => ?_)
  have cx : Cx G X RX8 cX8_following 3 6 := cx
  have hb30 : ∀ (kr4 : Int32 → Int32 → Option (Int32)), (∀ (x1 : Int32) (x2 : Int32) , kr4 x1 x2 = some r → WW G X 3 σ [(0, .ref (gad G 62)), (1, .int x1), (2, .int x2)] 4 []) → ∀ (x2 : Int32) (y0 : Int32) (y1 : Int32) , fX8_following_b30 σ kr4 x2 y0 y1 = some r → WW G X 3 σ [(0, .ref (gad G 62)), (2, .int x2)] 30 [.int y1, .int y0] := by
    intro kr4 hk4
    intro x2 y0 y1 hF
    unfold fX8_following_b30 at hF
    refine ww_ior cx dX8_following_30 ?_
    refine ww_istore_n (ks := [0, 1, 2]) (lv' := fun v1 => [(1, .int v1), (0, .ref (gad G 62)), (2, .int x2)]) cx dX8_following_31 rfl (by decide) hF (fun _ => rfl) (fun v1 hF => ?_)
    refine ww_iinc (j := 2) (ks := [0, 1, 2]) (lv' := fun v2 => [(2, .int v2), (1, .int v1), (0, .ref (gad G 62))]) cx dX8_following_32 (by decide) rfl ic_1 hF (fun _ => rfl) (fun v2 hF => ?_)
    refine ww_goto cx dX8_following_35 (tgt := 4) rfl ?_
    exact ww_sub [2, 1, 0] rfl (hk4 _ _ hF)
  have hl4 : ∀ n : Nat, ∀ (x1 : Int32) (x2 : Int32) , fX8_following_l4 σ n x1 x2 = some r → WW G X 3 σ [(0, .ref (gad G 62)), (1, .int x1), (2, .int x2)] 4 [] := by
    intro n
    induction n with
    | zero =>
      intro x1 x2 hF
      exact absurd hF (by intro z; cases z)
    | succ n ih =>
      intro x1 x2 hF
      have hk4 := ih
      have hF : fX8_following_B4 σ (fX8_following_l4 σ n) x1 x2 = some r := hF
      unfold fX8_following_B4 at hF
      refine ww_iload_n cx dX8_following_4 rfl 2 rfl ?_
      refine ww_aload_n cx dX8_following_5 rfl 0 rfl ?_
      refine gf_X8_9 cx dX8_following_6 ?_
      refine ww_iconst cx dX8_following_9 ic_3 ?_
      refine ww_iald (N := 77) cx (sh_63) dX8_following_10 hF (fun hF => ?_)
      refine ww_icmp_ge cx dX8_following_11 (tgt := 38) rfl hF (fun hF => ?_) (fun hF => ?_)
      · refine ww_iload_n cx dX8_following_38 rfl 1 rfl ?_
        exact ww_rip hE dX8_following_39 hF
      · refine ww_iload_n cx dX8_following_14 rfl 1 rfl ?_
        refine ww_aload_n cx dX8_following_15 rfl 0 rfl ?_
        refine ww_iload_n cx dX8_following_16 rfl 2 rfl ?_
        refine ww_V1_pi kv_X8_294 rfl cx sh_62 ⟨Nat.le_of_ble_eq_true rfl, Nat.le_of_ble_eq_true rfl⟩ (Nat.le_of_ble_eq_true rfl) dX8_following_17 (kX8_isFollowing G) hF (fun r3 hF => ?_)
        refine ww_if_eq cx dX8_following_20 (tgt := 29) rfl hF (fun hF => ?_) (fun hF => ?_)
        · refine ww_iconst cx dX8_following_29 ic_0 ?_
          exact ww_sub [0, 2] rfl (hb30 _ hk4 _ _ _ hF)
        · refine ww_iconst cx dX8_following_23 ic_1 ?_
          refine ww_iload_n cx dX8_following_24 rfl 2 rfl ?_
          refine ww_ishl cx dX8_following_25 ?_
          refine ww_goto cx dX8_following_26 (tgt := 30) rfl ?_
          exact ww_sub [0, 2] rfl (hb30 _ hk4 _ _ _ hF)
  unfold fX8_following at hF
  show WW G X 3 σ [(0, .ref (gad G 62))] 0 []
  refine ww_iconst cx dX8_following_0 ic_0 ?_
  refine ww_istore_n (ks := [0, 1]) (lv' := fun v4 => [(1, .int v4), (0, .ref (gad G 62))]) cx dX8_following_1 rfl (by decide) hF (fun _ => rfl) (fun v4 hF => ?_)
  refine ww_iconst cx dX8_following_2 ic_0 ?_
  refine ww_istore_n (ks := [0, 1, 2]) (lv' := fun v5 => [(2, .int v5), (1, .int v4), (0, .ref (gad G 62))]) cx dX8_following_3 rfl (by decide) hF (fun _ => rfl) (fun v5 hF => ?_)
  exact ww_sub [2, 1, 0] rfl (hl4 FU _ _ hF)
theorem dX8_follows_0 : decode cX8_follows 0 = .ok (.aload_n 0, 1) := by decide +kernel
theorem dX8_follows_1 : decode cX8_follows 1 = .ok (.iload_n 1, 1) := by decide +kernel
theorem dX8_follows_2 : decode cX8_follows 2 = .ok (.i2l, 1) := by decide +kernel
theorem dX8_follows_3 : decode cX8_follows 3 = .ok (.invokevirtual 269, 3) := by decide +kernel
theorem dX8_follows_6 : decode cX8_follows 6 = .ok (.ifCond .eq 19, 3) := by decide +kernel
theorem dX8_follows_9 : decode cX8_follows 9 = .ok (.aload_n 0, 1) := by decide +kernel
theorem dX8_follows_10 : decode cX8_follows 10 = .ok (.iload_n 1, 1) := by decide +kernel
theorem dX8_follows_11 : decode cX8_follows 11 = .ok (.invokevirtual 294, 3) := by decide +kernel
theorem dX8_follows_14 : decode cX8_follows 14 = .ok (.ifCond .eq 7, 3) := by decide +kernel
theorem dX8_follows_17 : decode cX8_follows 17 = .ok (.iconst 1, 1) := by decide +kernel
theorem dX8_follows_18 : decode cX8_follows 18 = .ok (.goto 9, 3) := by decide +kernel
theorem dX8_follows_21 : decode cX8_follows 21 = .ok (.iconst 0, 1) := by decide +kernel
theorem dX8_follows_22 : decode cX8_follows 22 = .ok (.goto 5, 3) := by decide +kernel
theorem dX8_follows_25 : decode cX8_follows 25 = .ok (.bipush (-2), 2) := by decide +kernel
theorem dX8_follows_27 : decode cX8_follows 27 = .ok (.ireturn, 1) := by decide +kernel
set_option maxRecDepth 4000 in
theorem kX8_follows (G : GT) {σ : St} {a1 : Int32} : ∀ (r : Int32) , fX8_follows σ a1 = some r → MCt G 6 yX8_follows cX8_follows 2 (some .int) [.ref (gad G 62), .int a1] σ (some (.int r)) σ := by
  intro r hF
  refine met_i (by decide) (Nat.le_of_ble_eq_true rfl) (fun X cx hE => ?_)
  have cx : Cx G X RX8 cX8_follows 2 6 := cx
  unfold fX8_follows at hF
  show WW G X 2 σ [(0, .ref (gad G 62)), (1, .int a1)] 0 []
  refine ww_aload_n cx dX8_follows_0 rfl 0 rfl ?_
  refine ww_iload_n cx dX8_follows_1 rfl 1 rfl ?_
  refine ww_i2l cx dX8_follows_2 ?_
  refine ww_V1_pi kv_X8_269 rfl cx sh_62 ⟨Nat.le_of_ble_eq_true rfl, Nat.le_of_ble_eq_true rfl⟩ (Nat.le_of_ble_eq_true rfl) dX8_follows_3 (kX8_isClaim G) hF (fun r1 hF => ?_)
  refine ww_if_eq cx dX8_follows_6 (tgt := 25) rfl hF (fun hF => ?_) (fun hF => ?_)
  · refine ww_bipush cx dX8_follows_25 bc_m2 ?_
    exact ww_rip hE dX8_follows_27 hF
  · refine ww_aload_n cx dX8_follows_9 rfl 0 rfl ?_
    refine ww_iload_n cx dX8_follows_10 rfl 1 rfl ?_
    refine ww_V1_pi kv_X8_294 rfl cx sh_62 ⟨Nat.le_of_ble_eq_true rfl, Nat.le_of_ble_eq_true rfl⟩ (Nat.le_of_ble_eq_true rfl) dX8_follows_11 (kX8_isFollowing G) hF (fun r2 hF => ?_)
    refine ww_if_eq cx dX8_follows_14 (tgt := 21) rfl hF (fun hF => ?_) (fun hF => ?_)
    · refine ww_iconst cx dX8_follows_21 ic_0 ?_
      refine ww_goto cx dX8_follows_22 (tgt := 27) rfl ?_
      exact ww_rip hE dX8_follows_27 hF
    · refine ww_iconst cx dX8_follows_17 ic_1 ?_
      refine ww_goto cx dX8_follows_18 (tgt := 27) rfl ?_
      exact ww_rip hE dX8_follows_27 hF
theorem dX8_formWord_0 : decode cX8_formWord 0 = .ok (.aload_n 0, 1) := by decide +kernel
theorem dX8_formWord_1 : decode cX8_formWord 1 = .ok (.ldc 171, 2) := by decide +kernel
theorem dX8_formWord_3 : decode cX8_formWord 3 = .ok (.invokevirtual 147, 3) := by decide +kernel
theorem dX8_formWord_6 : decode cX8_formWord 6 = .ok (.ifCond .eq 5, 3) := by decide +kernel
theorem dX8_formWord_9 : decode cX8_formWord 9 = .ok (.iconst 0, 1) := by decide +kernel
theorem dX8_formWord_10 : decode cX8_formWord 10 = .ok (.ireturn, 1) := by decide +kernel
theorem dX8_formWord_11 : decode cX8_formWord 11 = .ok (.aload_n 0, 1) := by decide +kernel
theorem dX8_formWord_12 : decode cX8_formWord 12 = .ok (.ldc 173, 2) := by decide +kernel
theorem dX8_formWord_14 : decode cX8_formWord 14 = .ok (.invokevirtual 147, 3) := by decide +kernel
theorem dX8_formWord_17 : decode cX8_formWord 17 = .ok (.ifCond .eq 5, 3) := by decide +kernel
theorem dX8_formWord_20 : decode cX8_formWord 20 = .ok (.iconst 1, 1) := by decide +kernel
theorem dX8_formWord_21 : decode cX8_formWord 21 = .ok (.ireturn, 1) := by decide +kernel
theorem dX8_formWord_22 : decode cX8_formWord 22 = .ok (.aload_n 0, 1) := by decide +kernel
theorem dX8_formWord_23 : decode cX8_formWord 23 = .ok (.ldc 175, 2) := by decide +kernel
theorem dX8_formWord_25 : decode cX8_formWord 25 = .ok (.invokevirtual 147, 3) := by decide +kernel
theorem dX8_formWord_28 : decode cX8_formWord 28 = .ok (.ifCond .eq 5, 3) := by decide +kernel
theorem dX8_formWord_31 : decode cX8_formWord 31 = .ok (.iconst 2, 1) := by decide +kernel
theorem dX8_formWord_32 : decode cX8_formWord 32 = .ok (.ireturn, 1) := by decide +kernel
theorem dX8_formWord_33 : decode cX8_formWord 33 = .ok (.aload_n 0, 1) := by decide +kernel
theorem dX8_formWord_34 : decode cX8_formWord 34 = .ok (.ldc 177, 2) := by decide +kernel
theorem dX8_formWord_36 : decode cX8_formWord 36 = .ok (.invokevirtual 147, 3) := by decide +kernel
theorem dX8_formWord_39 : decode cX8_formWord 39 = .ok (.ifCond .eq 5, 3) := by decide +kernel
theorem dX8_formWord_42 : decode cX8_formWord 42 = .ok (.iconst 3, 1) := by decide +kernel
theorem dX8_formWord_43 : decode cX8_formWord 43 = .ok (.ireturn, 1) := by decide +kernel
theorem dX8_formWord_44 : decode cX8_formWord 44 = .ok (.aload_n 0, 1) := by decide +kernel
theorem dX8_formWord_45 : decode cX8_formWord 45 = .ok (.aload_n 0, 1) := by decide +kernel
theorem dX8_formWord_46 : decode cX8_formWord 46 = .ok (.ldc 179, 2) := by decide +kernel
theorem dX8_formWord_48 : decode cX8_formWord 48 = .ok (.invokevirtual 147, 3) := by decide +kernel
theorem dX8_formWord_51 : decode cX8_formWord 51 = .ok (.ifCond .eq 10, 3) := by decide +kernel
theorem dX8_formWord_54 : decode cX8_formWord 54 = .ok (.aload_n 0, 1) := by decide +kernel
theorem dX8_formWord_55 : decode cX8_formWord 55 = .ok (.invokevirtual 181, 3) := by decide +kernel
theorem dX8_formWord_58 : decode cX8_formWord 58 = .ok (.goto 17, 3) := by decide +kernel
theorem dX8_formWord_61 : decode cX8_formWord 61 = .ok (.aload_n 0, 1) := by decide +kernel
theorem dX8_formWord_62 : decode cX8_formWord 62 = .ok (.ldc 184, 2) := by decide +kernel
theorem dX8_formWord_64 : decode cX8_formWord 64 = .ok (.invokevirtual 147, 3) := by decide +kernel
theorem dX8_formWord_67 : decode cX8_formWord 67 = .ok (.ifCond .eq 7, 3) := by decide +kernel
theorem dX8_formWord_70 : decode cX8_formWord 70 = .ok (.iconst 0, 1) := by decide +kernel
theorem dX8_formWord_71 : decode cX8_formWord 71 = .ok (.goto 4, 3) := by decide +kernel
theorem dX8_formWord_74 : decode cX8_formWord 74 = .ok (.iconst (-1), 1) := by decide +kernel
theorem dX8_formWord_75 : decode cX8_formWord 75 = .ok (.putfield 186, 3) := by decide +kernel
theorem dX8_formWord_78 : decode cX8_formWord 78 = .ok (.aload_n 0, 1) := by decide +kernel
theorem dX8_formWord_79 : decode cX8_formWord 79 = .ok (.getfield 186, 3) := by decide +kernel
theorem dX8_formWord_82 : decode cX8_formWord 82 = .ok (.iconst (-1), 1) := by decide +kernel
theorem dX8_formWord_83 : decode cX8_formWord 83 = .ok (.if_icmp .eq 5, 3) := by decide +kernel
theorem dX8_formWord_86 : decode cX8_formWord 86 = .ok (.iconst 4, 1) := by decide +kernel
theorem dX8_formWord_87 : decode cX8_formWord 87 = .ok (.ireturn, 1) := by decide +kernel
theorem dX8_formWord_88 : decode cX8_formWord 88 = .ok (.aload_n 0, 1) := by decide +kernel
theorem dX8_formWord_89 : decode cX8_formWord 89 = .ok (.invokevirtual 134, 3) := by decide +kernel
theorem dX8_formWord_92 : decode cX8_formWord 92 = .ok (.ifCond .eq 75, 3) := by decide +kernel
theorem dX8_formWord_95 : decode cX8_formWord 95 = .ok (.aload_n 0, 1) := by decide +kernel
theorem dX8_formWord_96 : decode cX8_formWord 96 = .ok (.getfield 111, 3) := by decide +kernel
theorem dX8_formWord_99 : decode cX8_formWord 99 = .ok (.iconst 1, 1) := by decide +kernel
theorem dX8_formWord_100 : decode cX8_formWord 100 = .ok (.if_icmp .ne 67, 3) := by decide +kernel
theorem dX8_formWord_103 : decode cX8_formWord 103 = .ok (.aload_n 0, 1) := by decide +kernel
theorem dX8_formWord_104 : decode cX8_formWord 104 = .ok (.getfield 101, 3) := by decide +kernel
theorem dX8_formWord_107 : decode cX8_formWord 107 = .ok (.aload_n 0, 1) := by decide +kernel
theorem dX8_formWord_108 : decode cX8_formWord 108 = .ok (.getfield 108, 3) := by decide +kernel
theorem dX8_formWord_111 : decode cX8_formWord 111 = .ok (.isub, 1) := by decide +kernel
theorem dX8_formWord_112 : decode cX8_formWord 112 = .ok (.iconst 1, 1) := by decide +kernel
theorem dX8_formWord_113 : decode cX8_formWord 113 = .ok (.if_icmp .ne 54, 3) := by decide +kernel
theorem dX8_formWord_116 : decode cX8_formWord 116 = .ok (.aload_n 0, 1) := by decide +kernel
theorem dX8_formWord_117 : decode cX8_formWord 117 = .ok (.getfield 20, 3) := by decide +kernel
theorem dX8_formWord_120 : decode cX8_formWord 120 = .ok (.aload_n 0, 1) := by decide +kernel
theorem dX8_formWord_121 : decode cX8_formWord 121 = .ok (.getfield 108, 3) := by decide +kernel
theorem dX8_formWord_124 : decode cX8_formWord 124 = .ok (.baload, 1) := by decide +kernel
theorem dX8_formWord_125 : decode cX8_formWord 125 = .ok (.bipush 97, 2) := by decide +kernel
theorem dX8_formWord_127 : decode cX8_formWord 127 = .ok (.isub, 1) := by decide +kernel
theorem dX8_formWord_128 : decode cX8_formWord 128 = .ok (.i2l, 1) := by decide +kernel
theorem dX8_formWord_129 : decode cX8_formWord 129 = .ok (.lconst 0, 1) := by decide +kernel
theorem dX8_formWord_130 : decode cX8_formWord 130 = .ok (.aload_n 0, 1) := by decide +kernel
theorem dX8_formWord_131 : decode cX8_formWord 131 = .ok (.getfield 31, 3) := by decide +kernel
theorem dX8_formWord_134 : decode cX8_formWord 134 = .ok (.iconst 0, 1) := by decide +kernel
theorem dX8_formWord_135 : decode cX8_formWord 135 = .ok (.iaload, 1) := by decide +kernel
theorem dX8_formWord_136 : decode cX8_formWord 136 = .ok (.iconst 1, 1) := by decide +kernel
theorem dX8_formWord_137 : decode cX8_formWord 137 = .ok (.isub, 1) := by decide +kernel
theorem dX8_formWord_138 : decode cX8_formWord 138 = .ok (.i2l, 1) := by decide +kernel
theorem dX8_formWord_139 : decode cX8_formWord 139 = .ok (.invokestatic 83, 3) := by decide +kernel
theorem dX8_formWord_142 : decode cX8_formWord 142 = .ok (.ifCond .eq 25, 3) := by decide +kernel
theorem dX8_formWord_145 : decode cX8_formWord 145 = .ok (.aload_n 0, 1) := by decide +kernel
theorem dX8_formWord_146 : decode cX8_formWord 146 = .ok (.aload_n 0, 1) := by decide +kernel
theorem dX8_formWord_147 : decode cX8_formWord 147 = .ok (.aload_n 0, 1) := by decide +kernel
theorem dX8_formWord_148 : decode cX8_formWord 148 = .ok (.getfield 20, 3) := by decide +kernel
theorem dX8_formWord_151 : decode cX8_formWord 151 = .ok (.aload_n 0, 1) := by decide +kernel
theorem dX8_formWord_152 : decode cX8_formWord 152 = .ok (.getfield 108, 3) := by decide +kernel
theorem dX8_formWord_155 : decode cX8_formWord 155 = .ok (.baload, 1) := by decide +kernel
theorem dX8_formWord_156 : decode cX8_formWord 156 = .ok (.bipush 97, 2) := by decide +kernel
theorem dX8_formWord_158 : decode cX8_formWord 158 = .ok (.isub, 1) := by decide +kernel
theorem dX8_formWord_159 : decode cX8_formWord 159 = .ok (.invokevirtual 189, 3) := by decide +kernel
theorem dX8_formWord_162 : decode cX8_formWord 162 = .ok (.putfield 186, 3) := by decide +kernel
theorem dX8_formWord_165 : decode cX8_formWord 165 = .ok (.iconst 4, 1) := by decide +kernel
theorem dX8_formWord_166 : decode cX8_formWord 166 = .ok (.ireturn, 1) := by decide +kernel
theorem dX8_formWord_167 : decode cX8_formWord 167 = .ok (.iconst 5, 1) := by decide +kernel
theorem dX8_formWord_168 : decode cX8_formWord 168 = .ok (.ireturn, 1) := by decide +kernel
set_option maxRecDepth 4000 in
theorem kX8_formWord (G : GT) {σ : St} : ∀ (r : Int32) (σo : St) , fX8_formWord σ = some (r, σo) → MCt G 6 yX8_formWord cX8_formWord 1 (some .int) [.ref (gad G 62)] σ (some (.int r)) σo := by
  intro r σo hF
  refine met_i (by decide) (Nat.le_of_ble_eq_true rfl) (fun X cx hE => ?_)
  have cx : Cx G X RX8 cX8_formWord 1 6 := cx
  have hb75 : ∀ (σ : St) (y1 : Int32) , fX8_formWord_b75 σ y1 = some (r, σo) → WW G X 1 σ [(0, .ref (gad G 62))] 75 [.int y1, .ref (gad G 62)] := by
    intro σ y1 hF
    unfold fX8_formWord_b75 at hF
    refine pf_X8_186 cx dX8_formWord_75 hF (fun σ1 hF => ?_)
    refine ww_aload_n cx dX8_formWord_78 rfl 0 rfl ?_
    refine gf_X8_186 cx dX8_formWord_79 ?_
    refine ww_iconst cx dX8_formWord_82 ic_m1 ?_
    refine ww_icmp_eq cx dX8_formWord_83 (tgt := 88) rfl hF (fun hF => ?_) (fun hF => ?_)
    · refine ww_aload_n cx dX8_formWord_88 rfl 0 rfl ?_
      refine ww_V0_pi kv_X8_134 rfl cx sh_62 ⟨Nat.le_of_ble_eq_true rfl, Nat.le_of_ble_eq_true rfl⟩ (Nat.le_of_ble_eq_true rfl) dX8_formWord_89 (kX8_good G) hF (fun r2 hF => ?_)
      refine ww_if_eq cx dX8_formWord_92 (tgt := 167) rfl hF (fun hF => ?_) (fun hF => ?_)
      · refine ww_iconst cx dX8_formWord_167 ic_5 ?_
        exact ww_ris hE dX8_formWord_168 hF
      · refine ww_aload_n cx dX8_formWord_95 rfl 0 rfl ?_
        refine gf_X8_111 cx dX8_formWord_96 ?_
        refine ww_iconst cx dX8_formWord_99 ic_1 ?_
        refine ww_icmp_ne cx dX8_formWord_100 (tgt := 167) rfl hF (fun hF => ?_) (fun hF => ?_)
        · refine ww_iconst cx dX8_formWord_167 ic_5 ?_
          exact ww_ris hE dX8_formWord_168 hF
        · refine ww_aload_n cx dX8_formWord_103 rfl 0 rfl ?_
          refine gf_X8_101 cx dX8_formWord_104 ?_
          refine ww_aload_n cx dX8_formWord_107 rfl 0 rfl ?_
          refine gf_X8_108 cx dX8_formWord_108 ?_
          refine ww_isub cx dX8_formWord_111 ?_
          refine ww_iconst cx dX8_formWord_112 ic_1 ?_
          refine ww_icmp_ne cx dX8_formWord_113 (tgt := 167) rfl hF (fun hF => ?_) (fun hF => ?_)
          · refine ww_iconst cx dX8_formWord_167 ic_5 ?_
            exact ww_ris hE dX8_formWord_168 hF
          · refine ww_aload_n cx dX8_formWord_116 rfl 0 rfl ?_
            refine gf_X8_20 cx dX8_formWord_117 ?_
            refine ww_aload_n cx dX8_formWord_120 rfl 0 rfl ?_
            refine gf_X8_108 cx dX8_formWord_121 ?_
            refine ww_bald (N := 1600) cx (sh_66) dX8_formWord_124 hF (fun hF => ?_)
            refine ww_bipush cx dX8_formWord_125 bc_97 ?_
            refine ww_isub cx dX8_formWord_127 ?_
            refine ww_i2l cx dX8_formWord_128 ?_
            refine ww_lconst cx dX8_formWord_129 lc_0 ?_
            refine ww_aload_n cx dX8_formWord_130 rfl 0 rfl ?_
            refine gf_X8_31 cx dX8_formWord_131 ?_
            refine ww_iconst cx dX8_formWord_134 ic_0 ?_
            refine ww_iald (N := 77) cx (sh_68) dX8_formWord_135 hF (fun hF => ?_)
            refine ww_iconst cx dX8_formWord_136 ic_1 ?_
            refine ww_isub cx dX8_formWord_137 ?_
            refine ww_i2l cx dX8_formWord_138 ?_
            refine ww_S3_pi kv_X8_83 cx ⟨Nat.le_of_ble_eq_true rfl, Nat.le_of_ble_eq_true rfl⟩ (Nat.le_of_ble_eq_true rfl) dX8_formWord_139 (kX8_in G) hF (fun r3 hF => ?_)
            refine ww_if_eq cx dX8_formWord_142 (tgt := 167) rfl hF (fun hF => ?_) (fun hF => ?_)
            · refine ww_iconst cx dX8_formWord_167 ic_5 ?_
              exact ww_ris hE dX8_formWord_168 hF
            · refine ww_aload_n cx dX8_formWord_145 rfl 0 rfl ?_
              refine ww_aload_n cx dX8_formWord_146 rfl 0 rfl ?_
              refine ww_aload_n cx dX8_formWord_147 rfl 0 rfl ?_
              refine gf_X8_20 cx dX8_formWord_148 ?_
              refine ww_aload_n cx dX8_formWord_151 rfl 0 rfl ?_
              refine gf_X8_108 cx dX8_formWord_152 ?_
              refine ww_bald (N := 1600) cx (sh_66) dX8_formWord_155 hF (fun hF => ?_)
              refine ww_bipush cx dX8_formWord_156 bc_97 ?_
              refine ww_isub cx dX8_formWord_158 ?_
              refine ww_V1_pi kv_X8_189 rfl cx sh_62 ⟨Nat.le_of_ble_eq_true rfl, Nat.le_of_ble_eq_true rfl⟩ (Nat.le_of_ble_eq_true rfl) dX8_formWord_159 (kX8_atomWorlds G) hF (fun r4 hF => ?_)
              refine pf_X8_186 cx dX8_formWord_162 hF (fun σ5 hF => ?_)
              refine ww_iconst cx dX8_formWord_165 ic_4 ?_
              exact ww_ris hE dX8_formWord_166 hF
    · refine ww_iconst cx dX8_formWord_86 ic_4 ?_
      exact ww_ris hE dX8_formWord_87 hF
  unfold fX8_formWord at hF
  show WW G X 1 σ [(0, .ref (gad G 62))] 0 []
  refine ww_aload_n cx dX8_formWord_0 rfl 0 rfl ?_
  refine ww_ldcS (w := 8) (tx := "and") cx (by decide +kernel) dX8_formWord_1 ?_
  refine ww_V1_pi kv_X8_147 rfl cx sh_62 ⟨Nat.le_of_ble_eq_true rfl, Nat.le_of_ble_eq_true rfl⟩ (Nat.le_of_ble_eq_true rfl) dX8_formWord_3 (kX8_is G (by decide)) hF (fun r6 hF => ?_)
  refine ww_if_eq cx dX8_formWord_6 (tgt := 11) rfl hF (fun hF => ?_) (fun hF => ?_)
  · refine ww_aload_n cx dX8_formWord_11 rfl 0 rfl ?_
    refine ww_ldcS (w := 9) (tx := "or") cx (by decide +kernel) dX8_formWord_12 ?_
    refine ww_V1_pi kv_X8_147 rfl cx sh_62 ⟨Nat.le_of_ble_eq_true rfl, Nat.le_of_ble_eq_true rfl⟩ (Nat.le_of_ble_eq_true rfl) dX8_formWord_14 (kX8_is G (by decide)) hF (fun r7 hF => ?_)
    refine ww_if_eq cx dX8_formWord_17 (tgt := 22) rfl hF (fun hF => ?_) (fun hF => ?_)
    · refine ww_aload_n cx dX8_formWord_22 rfl 0 rfl ?_
      refine ww_ldcS (w := 10) (tx := "if") cx (by decide +kernel) dX8_formWord_23 ?_
      refine ww_V1_pi kv_X8_147 rfl cx sh_62 ⟨Nat.le_of_ble_eq_true rfl, Nat.le_of_ble_eq_true rfl⟩ (Nat.le_of_ble_eq_true rfl) dX8_formWord_25 (kX8_is G (by decide)) hF (fun r8 hF => ?_)
      refine ww_if_eq cx dX8_formWord_28 (tgt := 33) rfl hF (fun hF => ?_) (fun hF => ?_)
      · refine ww_aload_n cx dX8_formWord_33 rfl 0 rfl ?_
        refine ww_ldcS (w := 11) (tx := "not") cx (by decide +kernel) dX8_formWord_34 ?_
        refine ww_V1_pi kv_X8_147 rfl cx sh_62 ⟨Nat.le_of_ble_eq_true rfl, Nat.le_of_ble_eq_true rfl⟩ (Nat.le_of_ble_eq_true rfl) dX8_formWord_36 (kX8_is G (by decide)) hF (fun r9 hF => ?_)
        refine ww_if_eq cx dX8_formWord_39 (tgt := 44) rfl hF (fun hF => ?_) (fun hF => ?_)
        · refine ww_aload_n cx dX8_formWord_44 rfl 0 rfl ?_
          refine ww_aload_n cx dX8_formWord_45 rfl 0 rfl ?_
          refine ww_ldcS (w := 6) (tx := "yes") cx (by decide +kernel) dX8_formWord_46 ?_
          refine ww_V1_pi kv_X8_147 rfl cx sh_62 ⟨Nat.le_of_ble_eq_true rfl, Nat.le_of_ble_eq_true rfl⟩ (Nat.le_of_ble_eq_true rfl) dX8_formWord_48 (kX8_is G (by decide)) hF (fun r10 hF => ?_)
          refine ww_if_eq cx dX8_formWord_51 (tgt := 61) rfl hF (fun hF => ?_) (fun hF => ?_)
          · refine ww_aload_n cx dX8_formWord_61 rfl 0 rfl ?_
            refine ww_ldcS (w := 7) (tx := "no") cx (by decide +kernel) dX8_formWord_62 ?_
            refine ww_V1_pi kv_X8_147 rfl cx sh_62 ⟨Nat.le_of_ble_eq_true rfl, Nat.le_of_ble_eq_true rfl⟩ (Nat.le_of_ble_eq_true rfl) dX8_formWord_64 (kX8_is G (by decide)) hF (fun r11 hF => ?_)
            refine ww_if_eq cx dX8_formWord_67 (tgt := 74) rfl hF (fun hF => ?_) (fun hF => ?_)
            · refine ww_iconst cx dX8_formWord_74 ic_m1 ?_
              exact hb75 _ _ hF
            · refine ww_iconst cx dX8_formWord_70 ic_0 ?_
              refine ww_goto cx dX8_formWord_71 (tgt := 75) rfl ?_
              exact hb75 _ _ hF
          · refine ww_aload_n cx dX8_formWord_54 rfl 0 rfl ?_
            refine ww_V0_pi kv_X8_181 rfl cx sh_62 ⟨Nat.le_of_ble_eq_true rfl, Nat.le_of_ble_eq_true rfl⟩ (Nat.le_of_ble_eq_true rfl) dX8_formWord_55 (kX8_freshAll G) hF (fun r12 hF => ?_)
            refine ww_goto cx dX8_formWord_58 (tgt := 75) rfl ?_
            exact hb75 _ _ hF
        · refine ww_iconst cx dX8_formWord_42 ic_3 ?_
          exact ww_ris hE dX8_formWord_43 hF
      · refine ww_iconst cx dX8_formWord_31 ic_2 ?_
        exact ww_ris hE dX8_formWord_32 hF
    · refine ww_iconst cx dX8_formWord_20 ic_1 ?_
      exact ww_ris hE dX8_formWord_21 hF
  · refine ww_iconst cx dX8_formWord_9 ic_0 ?_
    exact ww_ris hE dX8_formWord_10 hF
theorem dX8_lemmaOf_0 : decode cX8_lemmaOf 0 = .ok (.iconst (-1), 1) := by decide +kernel
theorem dX8_lemmaOf_1 : decode cX8_lemmaOf 1 = .ok (.istore_n 2, 1) := by decide +kernel
theorem dX8_lemmaOf_2 : decode cX8_lemmaOf 2 = .ok (.aload_n 0, 1) := by decide +kernel
theorem dX8_lemmaOf_3 : decode cX8_lemmaOf 3 = .ok (.iload_n 1, 1) := by decide +kernel
theorem dX8_lemmaOf_4 : decode cX8_lemmaOf 4 = .ok (.invokevirtual 360, 3) := by decide +kernel
theorem dX8_lemmaOf_7 : decode cX8_lemmaOf 7 = .ok (.istore_n 3, 1) := by decide +kernel
theorem dX8_lemmaOf_8 : decode cX8_lemmaOf 8 = .ok (.iconst 0, 1) := by decide +kernel
theorem dX8_lemmaOf_9 : decode cX8_lemmaOf 9 = .ok (.istore 4, 2) := by decide +kernel
theorem dX8_lemmaOf_11 : decode cX8_lemmaOf 11 = .ok (.iload 4, 2) := by decide +kernel
theorem dX8_lemmaOf_13 : decode cX8_lemmaOf 13 = .ok (.aload_n 0, 1) := by decide +kernel
theorem dX8_lemmaOf_14 : decode cX8_lemmaOf 14 = .ok (.getfield 9, 3) := by decide +kernel
theorem dX8_lemmaOf_17 : decode cX8_lemmaOf 17 = .ok (.iconst 3, 1) := by decide +kernel
theorem dX8_lemmaOf_18 : decode cX8_lemmaOf 18 = .ok (.iaload, 1) := by decide +kernel
theorem dX8_lemmaOf_19 : decode cX8_lemmaOf 19 = .ok (.if_icmp .ge 50, 3) := by decide +kernel
theorem dX8_lemmaOf_22 : decode cX8_lemmaOf 22 = .ok (.aload_n 0, 1) := by decide +kernel
theorem dX8_lemmaOf_23 : decode cX8_lemmaOf 23 = .ok (.aload_n 0, 1) := by decide +kernel
theorem dX8_lemmaOf_24 : decode cX8_lemmaOf 24 = .ok (.invokevirtual 257, 3) := by decide +kernel
theorem dX8_lemmaOf_27 : decode cX8_lemmaOf 27 = .ok (.iconst 1, 1) := by decide +kernel
theorem dX8_lemmaOf_28 : decode cX8_lemmaOf 28 = .ok (.iload 4, 2) := by decide +kernel
theorem dX8_lemmaOf_30 : decode cX8_lemmaOf 30 = .ok (.ishl, 1) := by decide +kernel
theorem dX8_lemmaOf_31 : decode cX8_lemmaOf 31 = .ok (.ior, 1) := by decide +kernel
theorem dX8_lemmaOf_32 : decode cX8_lemmaOf 32 = .ok (.aload_n 0, 1) := by decide +kernel
theorem dX8_lemmaOf_33 : decode cX8_lemmaOf 33 = .ok (.iload_n 1, 1) := by decide +kernel
theorem dX8_lemmaOf_34 : decode cX8_lemmaOf 34 = .ok (.iconst 1, 1) := by decide +kernel
theorem dX8_lemmaOf_35 : decode cX8_lemmaOf 35 = .ok (.invokevirtual 282, 3) := by decide +kernel
theorem dX8_lemmaOf_38 : decode cX8_lemmaOf 38 = .ok (.aload_n 0, 1) := by decide +kernel
theorem dX8_lemmaOf_39 : decode cX8_lemmaOf 39 = .ok (.iload_n 1, 1) := by decide +kernel
theorem dX8_lemmaOf_40 : decode cX8_lemmaOf 40 = .ok (.invokevirtual 288, 3) := by decide +kernel
theorem dX8_lemmaOf_43 : decode cX8_lemmaOf 43 = .ok (.invokevirtual 357, 3) := by decide +kernel
theorem dX8_lemmaOf_46 : decode cX8_lemmaOf 46 = .ok (.istore 5, 2) := by decide +kernel
theorem dX8_lemmaOf_48 : decode cX8_lemmaOf 48 = .ok (.iload 5, 2) := by decide +kernel
theorem dX8_lemmaOf_50 : decode cX8_lemmaOf 50 = .ok (.iload_n 3, 1) := by decide +kernel
theorem dX8_lemmaOf_51 : decode cX8_lemmaOf 51 = .ok (.if_icmp .gt 6, 3) := by decide +kernel
theorem dX8_lemmaOf_54 : decode cX8_lemmaOf 54 = .ok (.goto 9, 3) := by decide +kernel
theorem dX8_lemmaOf_57 : decode cX8_lemmaOf 57 = .ok (.iload 5, 2) := by decide +kernel
theorem dX8_lemmaOf_59 : decode cX8_lemmaOf 59 = .ok (.istore_n 3, 1) := by decide +kernel
theorem dX8_lemmaOf_60 : decode cX8_lemmaOf 60 = .ok (.iload 4, 2) := by decide +kernel
theorem dX8_lemmaOf_62 : decode cX8_lemmaOf 62 = .ok (.istore_n 2, 1) := by decide +kernel
theorem dX8_lemmaOf_63 : decode cX8_lemmaOf 63 = .ok (.iinc 4 1, 3) := by decide +kernel
theorem dX8_lemmaOf_66 : decode cX8_lemmaOf 66 = .ok (.goto (-55), 3) := by decide +kernel
theorem dX8_lemmaOf_69 : decode cX8_lemmaOf 69 = .ok (.iload_n 2, 1) := by decide +kernel
theorem dX8_lemmaOf_70 : decode cX8_lemmaOf 70 = .ok (.ireturn, 1) := by decide +kernel
set_option maxRecDepth 4000 in
theorem kX8_lemmaOf (G : GT) {σ : St} {a1 : Int32} : ∀ (r : Int32) (σo : St) , fX8_lemmaOf σ a1 = some (r, σo) → MCt G 6 yX8_lemmaOf cX8_lemmaOf 6 (some .int) [.ref (gad G 62), .int a1] σ (some (.int r)) σo := by
  intro r σo hF
  refine met_i (by decide) (Nat.le_of_ble_eq_true rfl) (fun X cx hE => ?_)
  have cx : Cx G X RX8 cX8_lemmaOf 6 6 := cx
  have hl11 : ∀ n : Nat, ∀ (σ : St) (x1 : Int32) (x2 : Int32) (x3 : Int32) (x4 : Int32) , fX8_lemmaOf_l11 n σ x1 x2 x3 x4 = some (r, σo) → WW G X 6 σ [(0, .ref (gad G 62)), (1, .int x1), (2, .int x2), (3, .int x3), (4, .int x4)] 11 [] := by
    intro n
    induction n with
    | zero =>
      intro σ x1 x2 x3 x4 hF
      exact absurd hF (by intro z; cases z)
    | succ n ih =>
      intro σ x1 x2 x3 x4 hF
      have hk11 := ih
      have hF : fX8_lemmaOf_B11 (fX8_lemmaOf_l11 n) σ x1 x2 x3 x4 = some (r, σo) := hF
      unfold fX8_lemmaOf_B11 at hF
      refine ww_iload cx dX8_lemmaOf_11 4 rfl ?_
      refine ww_aload_n cx dX8_lemmaOf_13 rfl 0 rfl ?_
      refine gf_X8_9 cx dX8_lemmaOf_14 ?_
      refine ww_iconst cx dX8_lemmaOf_17 ic_3 ?_
      refine ww_iald (N := 77) cx (sh_63) dX8_lemmaOf_18 hF (fun hF => ?_)
      refine ww_icmp_ge cx dX8_lemmaOf_19 (tgt := 69) rfl hF (fun hF => ?_) (fun hF => ?_)
      · refine ww_iload_n cx dX8_lemmaOf_69 rfl 2 rfl ?_
        exact ww_ris hE dX8_lemmaOf_70 hF
      · refine ww_aload_n cx dX8_lemmaOf_22 rfl 0 rfl ?_
        refine ww_aload_n cx dX8_lemmaOf_23 rfl 0 rfl ?_
        refine ww_V0_pi kv_X8_257 rfl cx sh_62 ⟨Nat.le_of_ble_eq_true rfl, Nat.le_of_ble_eq_true rfl⟩ (Nat.le_of_ble_eq_true rfl) dX8_lemmaOf_24 (kX8_saltNow G) hF (fun r1 hF => ?_)
        refine ww_iconst cx dX8_lemmaOf_27 ic_1 ?_
        refine ww_iload cx dX8_lemmaOf_28 4 rfl ?_
        refine ww_ishl cx dX8_lemmaOf_30 ?_
        refine ww_ior cx dX8_lemmaOf_31 ?_
        refine ww_aload_n cx dX8_lemmaOf_32 rfl 0 rfl ?_
        refine ww_iload_n cx dX8_lemmaOf_33 rfl 1 rfl ?_
        refine ww_iconst cx dX8_lemmaOf_34 ic_1 ?_
        refine ww_V2_pi kv_X8_282 rfl cx sh_62 ⟨Nat.le_of_ble_eq_true rfl, Nat.le_of_ble_eq_true rfl⟩ (Nat.le_of_ble_eq_true rfl) dX8_lemmaOf_35 (kX8_ofGuest G) hF (fun r2 hF => ?_)
        refine ww_aload_n cx dX8_lemmaOf_38 rfl 0 rfl ?_
        refine ww_iload_n cx dX8_lemmaOf_39 rfl 1 rfl ?_
        refine ww_V1_pi kv_X8_288 rfl cx sh_62 ⟨Nat.le_of_ble_eq_true rfl, Nat.le_of_ble_eq_true rfl⟩ (Nat.le_of_ble_eq_true rfl) dX8_lemmaOf_40 (kX8_canDo G) hF (fun r3 hF => ?_)
        refine ww_V3_si kv_X8_357 rfl cx sh_62 ⟨Nat.le_of_ble_eq_true rfl, Nat.le_of_ble_eq_true rfl⟩ (Nat.le_of_ble_eq_true rfl) dX8_lemmaOf_43 (kX8_mostBy G) hF (fun r4 σ5 hF => ?_)
        refine ww_istore (ks := [0, 1, 2, 3, 4, 5]) (lv' := fun v6 => [(5, .int v6), (0, .ref (gad G 62)), (1, .int x1), (2, .int x2), (3, .int x3), (4, .int x4)]) cx dX8_lemmaOf_46 (by decide) hF (fun _ => rfl) (fun v6 hF => ?_)
        refine ww_iload cx dX8_lemmaOf_48 0 rfl ?_
        refine ww_iload_n cx dX8_lemmaOf_50 rfl 4 rfl ?_
        refine ww_icmp_gt cx dX8_lemmaOf_51 (tgt := 57) rfl hF (fun hF => ?_) (fun hF => ?_)
        · refine ww_iload cx dX8_lemmaOf_57 0 rfl ?_
          refine ww_istore_n (ks := [0, 2, 3, 5]) (lv' := fun v7 => [(3, .int v7), (0, .ref (gad G 62)), (1, .int x1), (4, .int x4)]) cx dX8_lemmaOf_59 rfl (by decide) hF (fun _ => rfl) (fun v7 hF => ?_)
          refine ww_iload cx dX8_lemmaOf_60 3 rfl ?_
          refine ww_istore_n (ks := [0, 1, 2, 3, 4]) (lv' := fun v8 => [(2, .int v8), (3, .int v7), (0, .ref (gad G 62)), (1, .int x1), (4, .int x4)]) cx dX8_lemmaOf_62 rfl (by decide) hF (fun _ => rfl) (fun v8 hF => ?_)
          refine ww_iinc (j := 4) (ks := [0, 1, 2, 3, 4]) (lv' := fun v9 => [(4, .int v9), (2, .int v8), (3, .int v7), (0, .ref (gad G 62)), (1, .int x1)]) cx dX8_lemmaOf_63 (by decide) rfl ic_1 hF (fun _ => rfl) (fun v9 hF => ?_)
          refine ww_goto cx dX8_lemmaOf_66 (tgt := 11) rfl ?_
          exact ww_sub [3, 4, 1, 2, 0] rfl (hk11 _ _ _ _ _ hF)
        · refine ww_goto cx dX8_lemmaOf_54 (tgt := 63) rfl ?_
          refine ww_iinc (j := 5) (ks := [0, 2, 3, 4, 5]) (lv' := fun v10 => [(4, .int v10), (0, .ref (gad G 62)), (1, .int x1), (2, .int x2), (3, .int x3)]) cx dX8_lemmaOf_63 (by decide) rfl ic_1 hF (fun _ => rfl) (fun v10 hF => ?_)
          refine ww_goto cx dX8_lemmaOf_66 (tgt := 11) rfl ?_
          exact ww_sub [1, 2, 3, 4, 0] rfl (hk11 _ _ _ _ _ hF)
  unfold fX8_lemmaOf at hF
  show WW G X 6 σ [(0, .ref (gad G 62)), (1, .int a1)] 0 []
  refine ww_iconst cx dX8_lemmaOf_0 ic_m1 ?_
  refine ww_istore_n (ks := [0, 1, 2]) (lv' := fun v11 => [(2, .int v11), (0, .ref (gad G 62)), (1, .int a1)]) cx dX8_lemmaOf_1 rfl (by decide) hF (fun _ => rfl) (fun v11 hF => ?_)
  refine ww_aload_n cx dX8_lemmaOf_2 rfl 1 rfl ?_
  refine ww_iload_n cx dX8_lemmaOf_3 rfl 2 rfl ?_
  refine ww_V1_si kv_X8_360 rfl cx sh_62 ⟨Nat.le_of_ble_eq_true rfl, Nat.le_of_ble_eq_true rfl⟩ (Nat.le_of_ble_eq_true rfl) dX8_lemmaOf_4 (kX8_menuOf G) hF (fun r12 σ13 hF => ?_)
  refine ww_istore_n (ks := [0, 1, 2, 3]) (lv' := fun v14 => [(3, .int v14), (2, .int v11), (0, .ref (gad G 62)), (1, .int a1)]) cx dX8_lemmaOf_7 rfl (by decide) hF (fun _ => rfl) (fun v14 hF => ?_)
  refine ww_iconst cx dX8_lemmaOf_8 ic_0 ?_
  refine ww_istore (ks := [0, 1, 2, 3, 4]) (lv' := fun v15 => [(4, .int v15), (3, .int v14), (2, .int v11), (0, .ref (gad G 62)), (1, .int a1)]) cx dX8_lemmaOf_9 (by decide) hF (fun _ => rfl) (fun v15 hF => ?_)
  exact ww_sub [3, 4, 2, 1, 0] rfl (hl11 FU _ _ _ _ _ hF)
theorem dX8_mean_0 : decode cX8_mean 0 = .ok (.iload_n 1, 1) := by decide +kernel
theorem dX8_mean_1 : decode cX8_mean 1 = .ok (.invokestatic 459, 3) := by decide +kernel
theorem dX8_mean_4 : decode cX8_mean 4 = .ok (.ifCond .eq 35, 3) := by decide +kernel
theorem dX8_mean_7 : decode cX8_mean 7 = .ok (.iload_n 2, 1) := by decide +kernel
theorem dX8_mean_8 : decode cX8_mean 8 = .ok (.i2l, 1) := by decide +kernel
theorem dX8_mean_9 : decode cX8_mean 9 = .ok (.lconst 1, 1) := by decide +kernel
theorem dX8_mean_10 : decode cX8_mean 10 = .ok (.ldc2_w 470, 3) := by decide +kernel
theorem dX8_mean_13 : decode cX8_mean 13 = .ok (.invokestatic 83, 3) := by decide +kernel
theorem dX8_mean_16 : decode cX8_mean 16 = .ok (.ifCond .eq 23, 3) := by decide +kernel
theorem dX8_mean_19 : decode cX8_mean 19 = .ok (.aload_n 0, 1) := by decide +kernel
theorem dX8_mean_20 : decode cX8_mean 20 = .ok (.iload_n 3, 1) := by decide +kernel
theorem dX8_mean_21 : decode cX8_mean 21 = .ok (.i2l, 1) := by decide +kernel
theorem dX8_mean_22 : decode cX8_mean 22 = .ok (.invokevirtual 285, 3) := by decide +kernel
theorem dX8_mean_25 : decode cX8_mean 25 = .ok (.ifCond .eq 14, 3) := by decide +kernel
theorem dX8_mean_28 : decode cX8_mean 28 = .ok (.iload 4, 2) := by decide +kernel
theorem dX8_mean_30 : decode cX8_mean 30 = .ok (.i2l, 1) := by decide +kernel
theorem dX8_mean_31 : decode cX8_mean 31 = .ok (.lconst 0, 1) := by decide +kernel
theorem dX8_mean_32 : decode cX8_mean 32 = .ok (.lconst 1, 1) := by decide +kernel
theorem dX8_mean_33 : decode cX8_mean 33 = .ok (.invokestatic 83, 3) := by decide +kernel
theorem dX8_mean_36 : decode cX8_mean 36 = .ok (.ifCond .ne 6, 3) := by decide +kernel
theorem dX8_mean_39 : decode cX8_mean 39 = .ok (.bipush (-2), 2) := by decide +kernel
theorem dX8_mean_41 : decode cX8_mean 41 = .ok (.ireturn, 1) := by decide +kernel
theorem dX8_mean_42 : decode cX8_mean 42 = .ok (.iconst 0, 1) := by decide +kernel
theorem dX8_mean_43 : decode cX8_mean 43 = .ok (.istore 5, 2) := by decide +kernel
theorem dX8_mean_45 : decode cX8_mean 45 = .ok (.iconst 0, 1) := by decide +kernel
theorem dX8_mean_46 : decode cX8_mean 46 = .ok (.istore 6, 2) := by decide +kernel
theorem dX8_mean_48 : decode cX8_mean 48 = .ok (.iload 6, 2) := by decide +kernel
theorem dX8_mean_50 : decode cX8_mean 50 = .ok (.iload_n 2, 1) := by decide +kernel
theorem dX8_mean_51 : decode cX8_mean 51 = .ok (.if_icmp .ge 25, 3) := by decide +kernel
theorem dX8_mean_54 : decode cX8_mean 54 = .ok (.iload 5, 2) := by decide +kernel
theorem dX8_mean_56 : decode cX8_mean 56 = .ok (.aload_n 0, 1) := by decide +kernel
theorem dX8_mean_57 : decode cX8_mean 57 = .ok (.iload_n 1, 1) := by decide +kernel
theorem dX8_mean_58 : decode cX8_mean 58 = .ok (.i2l, 1) := by decide +kernel
theorem dX8_mean_59 : decode cX8_mean 59 = .ok (.iload 6, 2) := by decide +kernel
theorem dX8_mean_61 : decode cX8_mean 61 = .ok (.i2l, 1) := by decide +kernel
theorem dX8_mean_62 : decode cX8_mean 62 = .ok (.ladd, 1) := by decide +kernel
theorem dX8_mean_63 : decode cX8_mean 63 = .ok (.iload_n 3, 1) := by decide +kernel
theorem dX8_mean_64 : decode cX8_mean 64 = .ok (.invokevirtual 466, 3) := by decide +kernel
theorem dX8_mean_67 : decode cX8_mean 67 = .ok (.iadd, 1) := by decide +kernel
theorem dX8_mean_68 : decode cX8_mean 68 = .ok (.istore 5, 2) := by decide +kernel
theorem dX8_mean_70 : decode cX8_mean 70 = .ok (.iinc 6 1, 3) := by decide +kernel
theorem dX8_mean_73 : decode cX8_mean 73 = .ok (.goto (-25), 3) := by decide +kernel
theorem dX8_mean_76 : decode cX8_mean 76 = .ok (.iload 5, 2) := by decide +kernel
theorem dX8_mean_78 : decode cX8_mean 78 = .ok (.iload_n 2, 1) := by decide +kernel
theorem dX8_mean_79 : decode cX8_mean 79 = .ok (.iload 4, 2) := by decide +kernel
theorem dX8_mean_81 : decode cX8_mean 81 = .ok (.invokestatic 427, 3) := by decide +kernel
theorem dX8_mean_84 : decode cX8_mean 84 = .ok (.ireturn, 1) := by decide +kernel
set_option maxRecDepth 4000 in
theorem kX8_mean (G : GT) {σ : St} {a1 : Int32} {a2 : Int32} {a3 : Int32} {a4 : Int32} : ∀ (r : Int32) (σo : St) , fX8_mean σ a1 a2 a3 a4 = some (r, σo) → MCt G 6 yX8_mean cX8_mean 7 (some .int) [.ref (gad G 62), .int a1, .int a2, .int a3, .int a4] σ (some (.int r)) σo := by
  intro r σo hF
  refine met_i (by decide) (Nat.le_of_ble_eq_true rfl) (fun X cx hE => ?_)
  have cx : Cx G X RX8 cX8_mean 7 6 := cx
  have hl48 : ∀ n : Nat, ∀ (σ : St) (x1 : Int32) (x2 : Int32) (x3 : Int32) (x4 : Int32) (x5 : Int32) (x6 : Int32) , fX8_mean_l48 n σ x1 x2 x3 x4 x5 x6 = some (r, σo) → WW G X 7 σ [(0, .ref (gad G 62)), (1, .int x1), (2, .int x2), (3, .int x3), (4, .int x4), (5, .int x5), (6, .int x6)] 48 [] := by
    intro n
    induction n with
    | zero =>
      intro σ x1 x2 x3 x4 x5 x6 hF
      exact absurd hF (by intro z; cases z)
    | succ n ih =>
      intro σ x1 x2 x3 x4 x5 x6 hF
      have hk48 := ih
      have hF : fX8_mean_B48 (fX8_mean_l48 n) σ x1 x2 x3 x4 x5 x6 = some (r, σo) := hF
      unfold fX8_mean_B48 at hF
      refine ww_iload cx dX8_mean_48 6 rfl ?_
      refine ww_iload_n cx dX8_mean_50 rfl 2 rfl ?_
      refine ww_icmp_ge cx dX8_mean_51 (tgt := 76) rfl hF (fun hF => ?_) (fun hF => ?_)
      · refine ww_iload cx dX8_mean_76 5 rfl ?_
        refine ww_iload_n cx dX8_mean_78 rfl 2 rfl ?_
        refine ww_iload cx dX8_mean_79 4 rfl ?_
        refine ww_S3_pi kv_X8_427 cx ⟨Nat.le_of_ble_eq_true rfl, Nat.le_of_ble_eq_true rfl⟩ (Nat.le_of_ble_eq_true rfl) dX8_mean_81 (kX8_part G) hF (fun r1 hF => ?_)
        exact ww_ris hE dX8_mean_84 hF
      · refine ww_iload cx dX8_mean_54 5 rfl ?_
        refine ww_aload_n cx dX8_mean_56 rfl 0 rfl ?_
        refine ww_iload_n cx dX8_mean_57 rfl 1 rfl ?_
        refine ww_i2l cx dX8_mean_58 ?_
        refine ww_iload cx dX8_mean_59 6 rfl ?_
        refine ww_i2l cx dX8_mean_61 ?_
        refine ww_ladd cx dX8_mean_62 ?_
        refine ww_iload_n cx dX8_mean_63 rfl 3 rfl ?_
        refine ww_V2_si kv_X8_466 rfl cx sh_62 ⟨Nat.le_of_ble_eq_true rfl, Nat.le_of_ble_eq_true rfl⟩ (Nat.le_of_ble_eq_true rfl) dX8_mean_64 (kX8_feastOf G) hF (fun r2 σ3 hF => ?_)
        refine ww_iadd cx dX8_mean_67 ?_
        refine ww_istore (ks := [0, 1, 2, 3, 4, 5, 6]) (lv' := fun v4 => [(5, .int v4), (0, .ref (gad G 62)), (1, .int x1), (2, .int x2), (3, .int x3), (4, .int x4), (6, .int x6)]) cx dX8_mean_68 (by decide) hF (fun _ => rfl) (fun v4 hF => ?_)
        refine ww_iinc (j := 6) (ks := [0, 1, 2, 3, 4, 5, 6]) (lv' := fun v5 => [(6, .int v5), (5, .int v4), (0, .ref (gad G 62)), (1, .int x1), (2, .int x2), (3, .int x3), (4, .int x4)]) cx dX8_mean_70 (by decide) rfl ic_1 hF (fun _ => rfl) (fun v5 hF => ?_)
        refine ww_goto cx dX8_mean_73 (tgt := 48) rfl ?_
        exact ww_sub [2, 3, 4, 5, 6, 1, 0] rfl (hk48 _ _ _ _ _ _ _ hF)
  unfold fX8_mean at hF
  show WW G X 7 σ [(0, .ref (gad G 62)), (1, .int a1), (2, .int a2), (3, .int a3), (4, .int a4)] 0 []
  refine ww_iload_n cx dX8_mean_0 rfl 1 rfl ?_
  refine ww_S1_pi kv_X8_459 cx ⟨Nat.le_of_ble_eq_true rfl, Nat.le_of_ble_eq_true rfl⟩ (Nat.le_of_ble_eq_true rfl) dX8_mean_1 (kX8_isSeed G) hF (fun r6 hF => ?_)
  refine ww_if_eq cx dX8_mean_4 (tgt := 39) rfl hF (fun hF => ?_) (fun hF => ?_)
  · refine ww_bipush cx dX8_mean_39 bc_m2 ?_
    exact ww_ris hE dX8_mean_41 hF
  · refine ww_iload_n cx dX8_mean_7 rfl 2 rfl ?_
    refine ww_i2l cx dX8_mean_8 ?_
    refine ww_lconst cx dX8_mean_9 lc_1 ?_
    refine ww_ldc2 (v := 20) cx dX8_mean_10 cn_X8_470 ?_
    refine ww_S3_pi kv_X8_83 cx ⟨Nat.le_of_ble_eq_true rfl, Nat.le_of_ble_eq_true rfl⟩ (Nat.le_of_ble_eq_true rfl) dX8_mean_13 (kX8_in G) hF (fun r7 hF => ?_)
    refine ww_if_eq cx dX8_mean_16 (tgt := 39) rfl hF (fun hF => ?_) (fun hF => ?_)
    · refine ww_bipush cx dX8_mean_39 bc_m2 ?_
      exact ww_ris hE dX8_mean_41 hF
    · refine ww_aload_n cx dX8_mean_19 rfl 0 rfl ?_
      refine ww_iload_n cx dX8_mean_20 rfl 3 rfl ?_
      refine ww_i2l cx dX8_mean_21 ?_
      refine ww_V1_pi kv_X8_285 rfl cx sh_62 ⟨Nat.le_of_ble_eq_true rfl, Nat.le_of_ble_eq_true rfl⟩ (Nat.le_of_ble_eq_true rfl) dX8_mean_22 (kX8_isGuest G) hF (fun r8 hF => ?_)
      refine ww_if_eq cx dX8_mean_25 (tgt := 39) rfl hF (fun hF => ?_) (fun hF => ?_)
      · refine ww_bipush cx dX8_mean_39 bc_m2 ?_
        exact ww_ris hE dX8_mean_41 hF
      · refine ww_iload cx dX8_mean_28 4 rfl ?_
        refine ww_i2l cx dX8_mean_30 ?_
        refine ww_lconst cx dX8_mean_31 lc_0 ?_
        refine ww_lconst cx dX8_mean_32 lc_1 ?_
        refine ww_S3_pi kv_X8_83 cx ⟨Nat.le_of_ble_eq_true rfl, Nat.le_of_ble_eq_true rfl⟩ (Nat.le_of_ble_eq_true rfl) dX8_mean_33 (kX8_in G) hF (fun r9 hF => ?_)
        refine ww_if_ne cx dX8_mean_36 (tgt := 42) rfl hF (fun hF => ?_) (fun hF => ?_)
        · refine ww_iconst cx dX8_mean_42 ic_0 ?_
          refine ww_istore (ks := [0, 1, 2, 3, 4, 5]) (lv' := fun v10 => [(5, .int v10), (0, .ref (gad G 62)), (1, .int a1), (2, .int a2), (3, .int a3), (4, .int a4)]) cx dX8_mean_43 (by decide) hF (fun _ => rfl) (fun v10 hF => ?_)
          refine ww_iconst cx dX8_mean_45 ic_0 ?_
          refine ww_istore (ks := [0, 1, 2, 3, 4, 5, 6]) (lv' := fun v11 => [(6, .int v11), (5, .int v10), (0, .ref (gad G 62)), (1, .int a1), (2, .int a2), (3, .int a3), (4, .int a4)]) cx dX8_mean_46 (by decide) hF (fun _ => rfl) (fun v11 hF => ?_)
          exact ww_sub [2, 3, 4, 5, 6, 1, 0] rfl (hl48 FU _ _ _ _ _ _ _ hF)
        · refine ww_bipush cx dX8_mean_39 bc_m2 ?_
          exact ww_ris hE dX8_mean_41 hF
theorem dX8_menu_0 : decode cX8_menu 0 = .ok (.aload_n 0, 1) := by decide +kernel
theorem dX8_menu_1 : decode cX8_menu 1 = .ok (.iload_n 1, 1) := by decide +kernel
theorem dX8_menu_2 : decode cX8_menu 2 = .ok (.i2l, 1) := by decide +kernel
theorem dX8_menu_3 : decode cX8_menu 3 = .ok (.invokevirtual 285, 3) := by decide +kernel
theorem dX8_menu_6 : decode cX8_menu 6 = .ok (.ifCond .eq 11, 3) := by decide +kernel
theorem dX8_menu_9 : decode cX8_menu 9 = .ok (.aload_n 0, 1) := by decide +kernel
theorem dX8_menu_10 : decode cX8_menu 10 = .ok (.iload_n 1, 1) := by decide +kernel
theorem dX8_menu_11 : decode cX8_menu 11 = .ok (.invokevirtual 360, 3) := by decide +kernel
theorem dX8_menu_14 : decode cX8_menu 14 = .ok (.goto 5, 3) := by decide +kernel
theorem dX8_menu_17 : decode cX8_menu 17 = .ok (.bipush (-2), 2) := by decide +kernel
theorem dX8_menu_19 : decode cX8_menu 19 = .ok (.ireturn, 1) := by decide +kernel
set_option maxRecDepth 4000 in
theorem kX8_menu (G : GT) {σ : St} {a1 : Int32} : ∀ (r : Int32) (σo : St) , fX8_menu σ a1 = some (r, σo) → MCt G 6 yX8_menu cX8_menu 2 (some .int) [.ref (gad G 62), .int a1] σ (some (.int r)) σo := by
  intro r σo hF
  refine met_i (by decide) (Nat.le_of_ble_eq_true rfl) (fun X cx hE => ?_)
  have cx : Cx G X RX8 cX8_menu 2 6 := cx
  unfold fX8_menu at hF
  show WW G X 2 σ [(0, .ref (gad G 62)), (1, .int a1)] 0 []
  refine ww_aload_n cx dX8_menu_0 rfl 0 rfl ?_
  refine ww_iload_n cx dX8_menu_1 rfl 1 rfl ?_
  refine ww_i2l cx dX8_menu_2 ?_
  refine ww_V1_pi kv_X8_285 rfl cx sh_62 ⟨Nat.le_of_ble_eq_true rfl, Nat.le_of_ble_eq_true rfl⟩ (Nat.le_of_ble_eq_true rfl) dX8_menu_3 (kX8_isGuest G) hF (fun r1 hF => ?_)
  refine ww_if_eq cx dX8_menu_6 (tgt := 17) rfl hF (fun hF => ?_) (fun hF => ?_)
  · refine ww_bipush cx dX8_menu_17 bc_m2 ?_
    exact ww_ris hE dX8_menu_19 hF
  · refine ww_aload_n cx dX8_menu_9 rfl 0 rfl ?_
    refine ww_iload_n cx dX8_menu_10 rfl 1 rfl ?_
    refine ww_V1_si kv_X8_360 rfl cx sh_62 ⟨Nat.le_of_ble_eq_true rfl, Nat.le_of_ble_eq_true rfl⟩ (Nat.le_of_ble_eq_true rfl) dX8_menu_11 (kX8_menuOf G) hF (fun r2 σ3 hF => ?_)
    refine ww_goto cx dX8_menu_14 (tgt := 19) rfl ?_
    exact ww_ris hE dX8_menu_19 hF
theorem dX8_proof_0 : decode cX8_proof 0 = .ok (.aload_n 0, 1) := by decide +kernel
theorem dX8_proof_1 : decode cX8_proof 1 = .ok (.iload_n 1, 1) := by decide +kernel
theorem dX8_proof_2 : decode cX8_proof 2 = .ok (.i2l, 1) := by decide +kernel
theorem dX8_proof_3 : decode cX8_proof 3 = .ok (.invokevirtual 269, 3) := by decide +kernel
theorem dX8_proof_6 : decode cX8_proof 6 = .ok (.ifCond .eq 11, 3) := by decide +kernel
theorem dX8_proof_9 : decode cX8_proof 9 = .ok (.aload_n 0, 1) := by decide +kernel
theorem dX8_proof_10 : decode cX8_proof 10 = .ok (.iload_n 1, 1) := by decide +kernel
theorem dX8_proof_11 : decode cX8_proof 11 = .ok (.invokevirtual 342, 3) := by decide +kernel
theorem dX8_proof_14 : decode cX8_proof 14 = .ok (.goto 5, 3) := by decide +kernel
theorem dX8_proof_17 : decode cX8_proof 17 = .ok (.bipush (-2), 2) := by decide +kernel
theorem dX8_proof_19 : decode cX8_proof 19 = .ok (.ireturn, 1) := by decide +kernel
set_option maxRecDepth 4000 in
theorem kX8_proof (G : GT) {σ : St} {a1 : Int32} : ∀ (r : Int32) , fX8_proof σ a1 = some r → MCt G 6 yX8_proof cX8_proof 2 (some .int) [.ref (gad G 62), .int a1] σ (some (.int r)) σ := by
  intro r hF
  refine met_i (by decide) (Nat.le_of_ble_eq_true rfl) (fun X cx hE => ?_)
  have cx : Cx G X RX8 cX8_proof 2 6 := cx
  unfold fX8_proof at hF
  show WW G X 2 σ [(0, .ref (gad G 62)), (1, .int a1)] 0 []
  refine ww_aload_n cx dX8_proof_0 rfl 0 rfl ?_
  refine ww_iload_n cx dX8_proof_1 rfl 1 rfl ?_
  refine ww_i2l cx dX8_proof_2 ?_
  refine ww_V1_pi kv_X8_269 rfl cx sh_62 ⟨Nat.le_of_ble_eq_true rfl, Nat.le_of_ble_eq_true rfl⟩ (Nat.le_of_ble_eq_true rfl) dX8_proof_3 (kX8_isClaim G) hF (fun r1 hF => ?_)
  refine ww_if_eq cx dX8_proof_6 (tgt := 17) rfl hF (fun hF => ?_) (fun hF => ?_)
  · refine ww_bipush cx dX8_proof_17 bc_m2 ?_
    exact ww_rip hE dX8_proof_19 hF
  · refine ww_aload_n cx dX8_proof_9 rfl 0 rfl ?_
    refine ww_iload_n cx dX8_proof_10 rfl 1 rfl ?_
    refine ww_V1_pi kv_X8_342 rfl cx sh_62 ⟨Nat.le_of_ble_eq_true rfl, Nat.le_of_ble_eq_true rfl⟩ (Nat.le_of_ble_eq_true rfl) dX8_proof_11 (kX8_proofOf G) hF (fun r2 hF => ?_)
    refine ww_goto cx dX8_proof_14 (tgt := 19) rfl ?_
    exact ww_rip hE dX8_proof_19 hF
theorem dX8_proofs_0 : decode cX8_proofs 0 = .ok (.aload_n 0, 1) := by decide +kernel
theorem dX8_proofs_1 : decode cX8_proofs 1 = .ok (.iload_n 1, 1) := by decide +kernel
theorem dX8_proofs_2 : decode cX8_proofs 2 = .ok (.i2l, 1) := by decide +kernel
theorem dX8_proofs_3 : decode cX8_proofs 3 = .ok (.invokevirtual 269, 3) := by decide +kernel
theorem dX8_proofs_6 : decode cX8_proofs 6 = .ok (.ifCond .ne 6, 3) := by decide +kernel
theorem dX8_proofs_9 : decode cX8_proofs 9 = .ok (.bipush (-2), 2) := by decide +kernel
theorem dX8_proofs_11 : decode cX8_proofs 11 = .ok (.ireturn, 1) := by decide +kernel
theorem dX8_proofs_12 : decode cX8_proofs 12 = .ok (.iconst 0, 1) := by decide +kernel
theorem dX8_proofs_13 : decode cX8_proofs 13 = .ok (.istore_n 2, 1) := by decide +kernel
theorem dX8_proofs_14 : decode cX8_proofs 14 = .ok (.iconst 0, 1) := by decide +kernel
theorem dX8_proofs_15 : decode cX8_proofs 15 = .ok (.istore_n 3, 1) := by decide +kernel
theorem dX8_proofs_16 : decode cX8_proofs 16 = .ok (.iload_n 3, 1) := by decide +kernel
theorem dX8_proofs_17 : decode cX8_proofs 17 = .ok (.aload_n 0, 1) := by decide +kernel
theorem dX8_proofs_18 : decode cX8_proofs 18 = .ok (.invokevirtual 304, 3) := by decide +kernel
theorem dX8_proofs_21 : decode cX8_proofs 21 = .ok (.if_icmp .gt 26, 3) := by decide +kernel
theorem dX8_proofs_24 : decode cX8_proofs 24 = .ok (.iload_n 2, 1) := by decide +kernel
theorem dX8_proofs_25 : decode cX8_proofs 25 = .ok (.aload_n 0, 1) := by decide +kernel
theorem dX8_proofs_26 : decode cX8_proofs 26 = .ok (.iload_n 3, 1) := by decide +kernel
theorem dX8_proofs_27 : decode cX8_proofs 27 = .ok (.iload_n 1, 1) := by decide +kernel
theorem dX8_proofs_28 : decode cX8_proofs 28 = .ok (.invokevirtual 348, 3) := by decide +kernel
theorem dX8_proofs_31 : decode cX8_proofs 31 = .ok (.ifCond .eq 7, 3) := by decide +kernel
theorem dX8_proofs_34 : decode cX8_proofs 34 = .ok (.iconst 1, 1) := by decide +kernel
theorem dX8_proofs_35 : decode cX8_proofs 35 = .ok (.goto 4, 3) := by decide +kernel
theorem dX8_proofs_38 : decode cX8_proofs 38 = .ok (.iconst 0, 1) := by decide +kernel
theorem dX8_proofs_39 : decode cX8_proofs 39 = .ok (.iadd, 1) := by decide +kernel
theorem dX8_proofs_40 : decode cX8_proofs 40 = .ok (.istore_n 2, 1) := by decide +kernel
theorem dX8_proofs_41 : decode cX8_proofs 41 = .ok (.iinc 3 1, 3) := by decide +kernel
theorem dX8_proofs_44 : decode cX8_proofs 44 = .ok (.goto (-28), 3) := by decide +kernel
theorem dX8_proofs_47 : decode cX8_proofs 47 = .ok (.iload_n 2, 1) := by decide +kernel
theorem dX8_proofs_48 : decode cX8_proofs 48 = .ok (.ireturn, 1) := by decide +kernel
set_option maxRecDepth 4000 in
theorem kX8_proofs (G : GT) {σ : St} {a1 : Int32} : ∀ (r : Int32) , fX8_proofs σ a1 = some r → MCt G 6 yX8_proofs cX8_proofs 4 (some .int) [.ref (gad G 62), .int a1] σ (some (.int r)) σ := by
  intro r hF
  refine met_i (by decide) (Nat.le_of_ble_eq_true rfl) (fun X cx hE => ?_)
  have cx : Cx G X RX8 cX8_proofs 4 6 := cx
  have hb39 : ∀ (kr16 : Int32 → Int32 → Int32 → Option (Int32)), (∀ (x1 : Int32) (x2 : Int32) (x3 : Int32) , kr16 x1 x2 x3 = some r → WW G X 4 σ [(0, .ref (gad G 62)), (1, .int x1), (2, .int x2), (3, .int x3)] 16 []) → ∀ (x1 : Int32) (x3 : Int32) (y0 : Int32) (y1 : Int32) , fX8_proofs_b39 σ kr16 x1 x3 y0 y1 = some r → WW G X 4 σ [(0, .ref (gad G 62)), (1, .int x1), (3, .int x3)] 39 [.int y1, .int y0] := by
    intro kr16 hk16
    intro x1 x3 y0 y1 hF
    unfold fX8_proofs_b39 at hF
    refine ww_iadd cx dX8_proofs_39 ?_
    refine ww_istore_n (ks := [0, 1, 2, 3]) (lv' := fun v1 => [(2, .int v1), (0, .ref (gad G 62)), (1, .int x1), (3, .int x3)]) cx dX8_proofs_40 rfl (by decide) hF (fun _ => rfl) (fun v1 hF => ?_)
    refine ww_iinc (j := 3) (ks := [0, 1, 2, 3]) (lv' := fun v2 => [(3, .int v2), (2, .int v1), (0, .ref (gad G 62)), (1, .int x1)]) cx dX8_proofs_41 (by decide) rfl ic_1 hF (fun _ => rfl) (fun v2 hF => ?_)
    refine ww_goto cx dX8_proofs_44 (tgt := 16) rfl ?_
    exact ww_sub [2, 3, 1, 0] rfl (hk16 _ _ _ hF)
  have hl16 : ∀ n : Nat, ∀ (x1 : Int32) (x2 : Int32) (x3 : Int32) , fX8_proofs_l16 σ n x1 x2 x3 = some r → WW G X 4 σ [(0, .ref (gad G 62)), (1, .int x1), (2, .int x2), (3, .int x3)] 16 [] := by
    intro n
    induction n with
    | zero =>
      intro x1 x2 x3 hF
      exact absurd hF (by intro z; cases z)
    | succ n ih =>
      intro x1 x2 x3 hF
      have hk16 := ih
      have hF : fX8_proofs_B16 σ (fX8_proofs_l16 σ n) x1 x2 x3 = some r := hF
      unfold fX8_proofs_B16 at hF
      refine ww_iload_n cx dX8_proofs_16 rfl 3 rfl ?_
      refine ww_aload_n cx dX8_proofs_17 rfl 0 rfl ?_
      refine ww_V0_pi kv_X8_304 rfl cx sh_62 ⟨Nat.le_of_ble_eq_true rfl, Nat.le_of_ble_eq_true rfl⟩ (Nat.le_of_ble_eq_true rfl) dX8_proofs_18 (kX8_allSteps G) hF (fun r3 hF => ?_)
      refine ww_icmp_gt cx dX8_proofs_21 (tgt := 47) rfl hF (fun hF => ?_) (fun hF => ?_)
      · refine ww_iload_n cx dX8_proofs_47 rfl 2 rfl ?_
        exact ww_rip hE dX8_proofs_48 hF
      · refine ww_iload_n cx dX8_proofs_24 rfl 2 rfl ?_
        refine ww_aload_n cx dX8_proofs_25 rfl 0 rfl ?_
        refine ww_iload_n cx dX8_proofs_26 rfl 3 rfl ?_
        refine ww_iload_n cx dX8_proofs_27 rfl 1 rfl ?_
        refine ww_V2_pi kv_X8_348 rfl cx sh_62 ⟨Nat.le_of_ble_eq_true rfl, Nat.le_of_ble_eq_true rfl⟩ (Nat.le_of_ble_eq_true rfl) dX8_proofs_28 (kX8_isLeastProof G) hF (fun r4 hF => ?_)
        refine ww_if_eq cx dX8_proofs_31 (tgt := 38) rfl hF (fun hF => ?_) (fun hF => ?_)
        · refine ww_iconst cx dX8_proofs_38 ic_0 ?_
          exact ww_sub [0, 1, 3] rfl (hb39 _ hk16 _ _ _ _ hF)
        · refine ww_iconst cx dX8_proofs_34 ic_1 ?_
          refine ww_goto cx dX8_proofs_35 (tgt := 39) rfl ?_
          exact ww_sub [0, 1, 3] rfl (hb39 _ hk16 _ _ _ _ hF)
  unfold fX8_proofs at hF
  show WW G X 4 σ [(0, .ref (gad G 62)), (1, .int a1)] 0 []
  refine ww_aload_n cx dX8_proofs_0 rfl 0 rfl ?_
  refine ww_iload_n cx dX8_proofs_1 rfl 1 rfl ?_
  refine ww_i2l cx dX8_proofs_2 ?_
  refine ww_V1_pi kv_X8_269 rfl cx sh_62 ⟨Nat.le_of_ble_eq_true rfl, Nat.le_of_ble_eq_true rfl⟩ (Nat.le_of_ble_eq_true rfl) dX8_proofs_3 (kX8_isClaim G) hF (fun r5 hF => ?_)
  refine ww_if_ne cx dX8_proofs_6 (tgt := 12) rfl hF (fun hF => ?_) (fun hF => ?_)
  · refine ww_iconst cx dX8_proofs_12 ic_0 ?_
    refine ww_istore_n (ks := [0, 1, 2]) (lv' := fun v6 => [(2, .int v6), (0, .ref (gad G 62)), (1, .int a1)]) cx dX8_proofs_13 rfl (by decide) hF (fun _ => rfl) (fun v6 hF => ?_)
    refine ww_iconst cx dX8_proofs_14 ic_0 ?_
    refine ww_istore_n (ks := [0, 1, 2, 3]) (lv' := fun v7 => [(3, .int v7), (2, .int v6), (0, .ref (gad G 62)), (1, .int a1)]) cx dX8_proofs_15 rfl (by decide) hF (fun _ => rfl) (fun v7 hF => ?_)
    exact ww_sub [2, 3, 1, 0] rfl (hl16 FU _ _ _ hF)
  · refine ww_bipush cx dX8_proofs_9 bc_m2 ?_
    exact ww_rip hE dX8_proofs_11 hF
theorem dX8_shortest_0 : decode cX8_shortest 0 = .ok (.aload_n 0, 1) := by decide +kernel
theorem dX8_shortest_1 : decode cX8_shortest 1 = .ok (.iload_n 1, 1) := by decide +kernel
theorem dX8_shortest_2 : decode cX8_shortest 2 = .ok (.i2l, 1) := by decide +kernel
theorem dX8_shortest_3 : decode cX8_shortest 3 = .ok (.invokevirtual 269, 3) := by decide +kernel
theorem dX8_shortest_6 : decode cX8_shortest 6 = .ok (.ifCond .ne 6, 3) := by decide +kernel
theorem dX8_shortest_9 : decode cX8_shortest 9 = .ok (.bipush (-2), 2) := by decide +kernel
theorem dX8_shortest_11 : decode cX8_shortest 11 = .ok (.ireturn, 1) := by decide +kernel
theorem dX8_shortest_12 : decode cX8_shortest 12 = .ok (.aload_n 0, 1) := by decide +kernel
theorem dX8_shortest_13 : decode cX8_shortest 13 = .ok (.iload_n 1, 1) := by decide +kernel
theorem dX8_shortest_14 : decode cX8_shortest 14 = .ok (.invokevirtual 342, 3) := by decide +kernel
theorem dX8_shortest_17 : decode cX8_shortest 17 = .ok (.istore_n 2, 1) := by decide +kernel
theorem dX8_shortest_18 : decode cX8_shortest 18 = .ok (.iload_n 2, 1) := by decide +kernel
theorem dX8_shortest_19 : decode cX8_shortest 19 = .ok (.iconst (-1), 1) := by decide +kernel
theorem dX8_shortest_20 : decode cX8_shortest 20 = .ok (.if_icmp .ne 7, 3) := by decide +kernel
theorem dX8_shortest_23 : decode cX8_shortest 23 = .ok (.iconst (-1), 1) := by decide +kernel
theorem dX8_shortest_24 : decode cX8_shortest 24 = .ok (.goto 7, 3) := by decide +kernel
theorem dX8_shortest_27 : decode cX8_shortest 27 = .ok (.iload_n 2, 1) := by decide +kernel
theorem dX8_shortest_28 : decode cX8_shortest 28 = .ok (.invokestatic 273, 3) := by decide +kernel
theorem dX8_shortest_31 : decode cX8_shortest 31 = .ok (.ireturn, 1) := by decide +kernel
set_option maxRecDepth 4000 in
theorem kX8_shortest (G : GT) {σ : St} {a1 : Int32} : ∀ (r : Int32) , fX8_shortest σ a1 = some r → MCt G 6 yX8_shortest cX8_shortest 3 (some .int) [.ref (gad G 62), .int a1] σ (some (.int r)) σ := by
  intro r hF
  refine met_i (by decide) (Nat.le_of_ble_eq_true rfl) (fun X cx hE => ?_)
  have cx : Cx G X RX8 cX8_shortest 3 6 := cx
  unfold fX8_shortest at hF
  show WW G X 3 σ [(0, .ref (gad G 62)), (1, .int a1)] 0 []
  refine ww_aload_n cx dX8_shortest_0 rfl 0 rfl ?_
  refine ww_iload_n cx dX8_shortest_1 rfl 1 rfl ?_
  refine ww_i2l cx dX8_shortest_2 ?_
  refine ww_V1_pi kv_X8_269 rfl cx sh_62 ⟨Nat.le_of_ble_eq_true rfl, Nat.le_of_ble_eq_true rfl⟩ (Nat.le_of_ble_eq_true rfl) dX8_shortest_3 (kX8_isClaim G) hF (fun r1 hF => ?_)
  refine ww_if_ne cx dX8_shortest_6 (tgt := 12) rfl hF (fun hF => ?_) (fun hF => ?_)
  · refine ww_aload_n cx dX8_shortest_12 rfl 0 rfl ?_
    refine ww_iload_n cx dX8_shortest_13 rfl 1 rfl ?_
    refine ww_V1_pi kv_X8_342 rfl cx sh_62 ⟨Nat.le_of_ble_eq_true rfl, Nat.le_of_ble_eq_true rfl⟩ (Nat.le_of_ble_eq_true rfl) dX8_shortest_14 (kX8_proofOf G) hF (fun r2 hF => ?_)
    refine ww_istore_n (ks := [0]) (lv' := fun v3 => [(2, .int v3)]) cx dX8_shortest_17 rfl (by decide) hF (fun _ => rfl) (fun v3 hF => ?_)
    refine ww_iload_n cx dX8_shortest_18 rfl 0 rfl ?_
    refine ww_iconst cx dX8_shortest_19 ic_m1 ?_
    refine ww_icmp_ne cx dX8_shortest_20 (tgt := 27) rfl hF (fun hF => ?_) (fun hF => ?_)
    · refine ww_iload_n cx dX8_shortest_27 rfl 0 rfl ?_
      refine ww_S1_pi kv_X8_273 cx ⟨Nat.le_of_ble_eq_true rfl, Nat.le_of_ble_eq_true rfl⟩ (Nat.le_of_ble_eq_true rfl) dX8_shortest_28 (kX8_bits G) hF (fun r4 hF => ?_)
      exact ww_rip hE dX8_shortest_31 hF
    · refine ww_iconst cx dX8_shortest_23 ic_m1 ?_
      refine ww_goto cx dX8_shortest_24 (tgt := 31) rfl ?_
      exact ww_rip hE dX8_shortest_31 hF
  · refine ww_bipush cx dX8_shortest_9 bc_m2 ?_
    exact ww_rip hE dX8_shortest_11 hF
theorem dX8_takes_0 : decode cX8_takes 0 = .ok (.aload_n 0, 1) := by decide +kernel
theorem dX8_takes_1 : decode cX8_takes 1 = .ok (.aload_n 1, 1) := by decide +kernel
theorem dX8_takes_2 : decode cX8_takes 2 = .ok (.invokevirtual 147, 3) := by decide +kernel
theorem dX8_takes_5 : decode cX8_takes 5 = .ok (.istore_n 2, 1) := by decide +kernel
theorem dX8_takes_6 : decode cX8_takes 6 = .ok (.iload_n 2, 1) := by decide +kernel
theorem dX8_takes_7 : decode cX8_takes 7 = .ok (.ifCond .eq 7, 3) := by decide +kernel
theorem dX8_takes_10 : decode cX8_takes 10 = .ok (.aload_n 0, 1) := by decide +kernel
theorem dX8_takes_11 : decode cX8_takes 11 = .ok (.invokevirtual 151, 3) := by decide +kernel
theorem dX8_takes_14 : decode cX8_takes 14 = .ok (.iload_n 2, 1) := by decide +kernel
theorem dX8_takes_15 : decode cX8_takes 15 = .ok (.ireturn, 1) := by decide +kernel
set_option maxRecDepth 4000 in
theorem kX8_takes (G : GT) {σ : St} {w : Nat} (hw : w < 18) : ∀ (r : Int32) (σo : St) , fX8_takes σ w = some (r, σo) → MCt G 6 yX8_takes cX8_takes 3 (some .boolean) [.ref (gad G 62), .ref (gsk G w)] σ (some (.int r)) σo := by
  intro r σo hF
  refine met_zz (by decide) (Nat.le_of_ble_eq_true rfl) (fun X cx hE => ?_)
  have cx : Cx G X RX8 cX8_takes 3 6 := cx
  unfold fX8_takes at hF
  show WW G X 3 σ [(0, .ref (gad G 62)), (1, .ref (gsk G w))] 0 []
  refine ww_aload_n cx dX8_takes_0 rfl 0 rfl ?_
  refine ww_aload_n cx dX8_takes_1 rfl 1 rfl ?_
  refine ww_V1_pi kv_X8_147 rfl cx sh_62 ⟨Nat.le_of_ble_eq_true rfl, Nat.le_of_ble_eq_true rfl⟩ (Nat.le_of_ble_eq_true rfl) dX8_takes_2 (kX8_is G hw) hF (fun r1 hF => ?_)
  refine ww_istore_n (ks := [0, 1]) (lv' := fun v2 => [(2, .int v2), (0, .ref (gad G 62))]) cx dX8_takes_5 rfl (by decide) hF (fun _ => rfl) (fun v2 hF => ?_)
  refine ww_iload_n cx dX8_takes_6 rfl 0 rfl ?_
  refine ww_if_eq cx dX8_takes_7 (tgt := 14) rfl hF (fun hF => ?_) (fun hF => ?_)
  · refine ww_iload_n cx dX8_takes_14 rfl 0 rfl ?_
    exact ww_rzs hE dX8_takes_15 hF
  · refine ww_aload_n cx dX8_takes_10 rfl 1 rfl ?_
    refine ww_V0_sv kv_X8_151 rfl cx sh_62 ⟨Nat.le_of_ble_eq_true rfl, Nat.le_of_ble_eq_true rfl⟩ (Nat.le_of_ble_eq_true rfl) dX8_takes_11 (kX8_advance G) hF (fun σ3 hF => ?_)
    refine ww_iload_n cx dX8_takes_14 rfl 0 rfl ?_
    exact ww_rzs hE dX8_takes_15 hF
theorem dX8_teamOf_0 : decode cX8_teamOf 0 = .ok (.iconst (-1), 1) := by decide +kernel
theorem dX8_teamOf_1 : decode cX8_teamOf 1 = .ok (.istore_n 2, 1) := by decide +kernel
theorem dX8_teamOf_2 : decode cX8_teamOf 2 = .ok (.iconst 0, 1) := by decide +kernel
theorem dX8_teamOf_3 : decode cX8_teamOf 3 = .ok (.istore_n 3, 1) := by decide +kernel
theorem dX8_teamOf_4 : decode cX8_teamOf 4 = .ok (.iload_n 3, 1) := by decide +kernel
theorem dX8_teamOf_5 : decode cX8_teamOf 5 = .ok (.aload_n 0, 1) := by decide +kernel
theorem dX8_teamOf_6 : decode cX8_teamOf 6 = .ok (.invokevirtual 375, 3) := by decide +kernel
theorem dX8_teamOf_9 : decode cX8_teamOf 9 = .ok (.if_icmp .gt 36, 3) := by decide +kernel
theorem dX8_teamOf_12 : decode cX8_teamOf 12 = .ok (.iload_n 2, 1) := by decide +kernel
theorem dX8_teamOf_13 : decode cX8_teamOf 13 = .ok (.iconst (-1), 1) := by decide +kernel
theorem dX8_teamOf_14 : decode cX8_teamOf 14 = .ok (.if_icmp .eq 14, 3) := by decide +kernel
theorem dX8_teamOf_17 : decode cX8_teamOf 17 = .ok (.iload_n 3, 1) := by decide +kernel
theorem dX8_teamOf_18 : decode cX8_teamOf 18 = .ok (.invokestatic 273, 3) := by decide +kernel
theorem dX8_teamOf_21 : decode cX8_teamOf 21 = .ok (.iload_n 2, 1) := by decide +kernel
theorem dX8_teamOf_22 : decode cX8_teamOf 22 = .ok (.invokestatic 273, 3) := by decide +kernel
theorem dX8_teamOf_25 : decode cX8_teamOf 25 = .ok (.if_icmp .ge 14, 3) := by decide +kernel
theorem dX8_teamOf_28 : decode cX8_teamOf 28 = .ok (.aload_n 0, 1) := by decide +kernel
theorem dX8_teamOf_29 : decode cX8_teamOf 29 = .ok (.iload_n 3, 1) := by decide +kernel
theorem dX8_teamOf_30 : decode cX8_teamOf 30 = .ok (.iload_n 1, 1) := by decide +kernel
theorem dX8_teamOf_31 : decode cX8_teamOf 31 = .ok (.invokevirtual 387, 3) := by decide +kernel
theorem dX8_teamOf_34 : decode cX8_teamOf 34 = .ok (.ifCond .eq 5, 3) := by decide +kernel
theorem dX8_teamOf_37 : decode cX8_teamOf 37 = .ok (.iload_n 3, 1) := by decide +kernel
theorem dX8_teamOf_38 : decode cX8_teamOf 38 = .ok (.istore_n 2, 1) := by decide +kernel
theorem dX8_teamOf_39 : decode cX8_teamOf 39 = .ok (.iinc 3 1, 3) := by decide +kernel
theorem dX8_teamOf_42 : decode cX8_teamOf 42 = .ok (.goto (-38), 3) := by decide +kernel
theorem dX8_teamOf_45 : decode cX8_teamOf 45 = .ok (.iload_n 2, 1) := by decide +kernel
theorem dX8_teamOf_46 : decode cX8_teamOf 46 = .ok (.ireturn, 1) := by decide +kernel
set_option maxRecDepth 4000 in
theorem kX8_teamOf (G : GT) {σ : St} {a1 : Int32} : ∀ (r : Int32) , fX8_teamOf σ a1 = some r → MCt G 6 yX8_teamOf cX8_teamOf 4 (some .int) [.ref (gad G 62), .int a1] σ (some (.int r)) σ := by
  intro r hF
  refine met_i (by decide) (Nat.le_of_ble_eq_true rfl) (fun X cx hE => ?_)
  have cx : Cx G X RX8 cX8_teamOf 4 6 := cx
  have hb28 : ∀ (kr4 : Int32 → Int32 → Int32 → Option (Int32)), (∀ (x1 : Int32) (x2 : Int32) (x3 : Int32) , kr4 x1 x2 x3 = some r → WW G X 4 σ [(0, .ref (gad G 62)), (1, .int x1), (2, .int x2), (3, .int x3)] 4 []) → ∀ (x1 : Int32) (x2 : Int32) (x3 : Int32) , fX8_teamOf_b28 σ kr4 x1 x2 x3 = some r → WW G X 4 σ [(0, .ref (gad G 62)), (1, .int x1), (2, .int x2), (3, .int x3)] 28 [] := by
    intro kr4 hk4
    intro x1 x2 x3 hF
    unfold fX8_teamOf_b28 at hF
    refine ww_aload_n cx dX8_teamOf_28 rfl 0 rfl ?_
    refine ww_iload_n cx dX8_teamOf_29 rfl 3 rfl ?_
    refine ww_iload_n cx dX8_teamOf_30 rfl 1 rfl ?_
    refine ww_V2_pi kv_X8_387 rfl cx sh_62 ⟨Nat.le_of_ble_eq_true rfl, Nat.le_of_ble_eq_true rfl⟩ (Nat.le_of_ble_eq_true rfl) dX8_teamOf_31 (kX8_canTogether G) hF (fun r1 hF => ?_)
    refine ww_if_eq cx dX8_teamOf_34 (tgt := 39) rfl hF (fun hF => ?_) (fun hF => ?_)
    · refine ww_iinc (j := 3) (ks := [0, 1, 2, 3]) (lv' := fun v2 => [(3, .int v2), (0, .ref (gad G 62)), (1, .int x1), (2, .int x2)]) cx dX8_teamOf_39 (by decide) rfl ic_1 hF (fun _ => rfl) (fun v2 hF => ?_)
      refine ww_goto cx dX8_teamOf_42 (tgt := 4) rfl ?_
      exact ww_sub [1, 2, 3, 0] rfl (hk4 _ _ _ hF)
    · refine ww_iload_n cx dX8_teamOf_37 rfl 3 rfl ?_
      refine ww_istore_n (ks := [0, 1, 2, 3]) (lv' := fun v3 => [(2, .int v3), (0, .ref (gad G 62)), (1, .int x1), (3, .int x3)]) cx dX8_teamOf_38 rfl (by decide) hF (fun _ => rfl) (fun v3 hF => ?_)
      refine ww_iinc (j := 3) (ks := [0, 1, 2, 3]) (lv' := fun v4 => [(3, .int v4), (2, .int v3), (0, .ref (gad G 62)), (1, .int x1)]) cx dX8_teamOf_39 (by decide) rfl ic_1 hF (fun _ => rfl) (fun v4 hF => ?_)
      refine ww_goto cx dX8_teamOf_42 (tgt := 4) rfl ?_
      exact ww_sub [2, 3, 1, 0] rfl (hk4 _ _ _ hF)
  have hl4 : ∀ n : Nat, ∀ (x1 : Int32) (x2 : Int32) (x3 : Int32) , fX8_teamOf_l4 σ n x1 x2 x3 = some r → WW G X 4 σ [(0, .ref (gad G 62)), (1, .int x1), (2, .int x2), (3, .int x3)] 4 [] := by
    intro n
    induction n with
    | zero =>
      intro x1 x2 x3 hF
      exact absurd hF (by intro z; cases z)
    | succ n ih =>
      intro x1 x2 x3 hF
      have hk4 := ih
      have hF : fX8_teamOf_B4 σ (fX8_teamOf_l4 σ n) x1 x2 x3 = some r := hF
      unfold fX8_teamOf_B4 at hF
      refine ww_iload_n cx dX8_teamOf_4 rfl 3 rfl ?_
      refine ww_aload_n cx dX8_teamOf_5 rfl 0 rfl ?_
      refine ww_V0_pi kv_X8_375 rfl cx sh_62 ⟨Nat.le_of_ble_eq_true rfl, Nat.le_of_ble_eq_true rfl⟩ (Nat.le_of_ble_eq_true rfl) dX8_teamOf_6 (kX8_allGuests G) hF (fun r5 hF => ?_)
      refine ww_icmp_gt cx dX8_teamOf_9 (tgt := 45) rfl hF (fun hF => ?_) (fun hF => ?_)
      · refine ww_iload_n cx dX8_teamOf_45 rfl 2 rfl ?_
        exact ww_rip hE dX8_teamOf_46 hF
      · refine ww_iload_n cx dX8_teamOf_12 rfl 2 rfl ?_
        refine ww_iconst cx dX8_teamOf_13 ic_m1 ?_
        refine ww_icmp_eq cx dX8_teamOf_14 (tgt := 28) rfl hF (fun hF => ?_) (fun hF => ?_)
        · exact hb28 _ hk4 _ _ _ hF
        · refine ww_iload_n cx dX8_teamOf_17 rfl 3 rfl ?_
          refine ww_S1_pi kv_X8_273 cx ⟨Nat.le_of_ble_eq_true rfl, Nat.le_of_ble_eq_true rfl⟩ (Nat.le_of_ble_eq_true rfl) dX8_teamOf_18 (kX8_bits G) hF (fun r6 hF => ?_)
          refine ww_iload_n cx dX8_teamOf_21 rfl 2 rfl ?_
          refine ww_S1_pi kv_X8_273 cx ⟨Nat.le_of_ble_eq_true rfl, Nat.le_of_ble_eq_true rfl⟩ (Nat.le_of_ble_eq_true rfl) dX8_teamOf_22 (kX8_bits G) hF (fun r7 hF => ?_)
          refine ww_icmp_ge cx dX8_teamOf_25 (tgt := 39) rfl hF (fun hF => ?_) (fun hF => ?_)
          · refine ww_iinc (j := 3) (ks := [0, 1, 2, 3]) (lv' := fun v8 => [(3, .int v8), (0, .ref (gad G 62)), (1, .int x1), (2, .int x2)]) cx dX8_teamOf_39 (by decide) rfl ic_1 hF (fun _ => rfl) (fun v8 hF => ?_)
            refine ww_goto cx dX8_teamOf_42 (tgt := 4) rfl ?_
            exact ww_sub [1, 2, 3, 0] rfl (hk4 _ _ _ hF)
          · exact hb28 _ hk4 _ _ _ hF
  unfold fX8_teamOf at hF
  show WW G X 4 σ [(0, .ref (gad G 62)), (1, .int a1)] 0 []
  refine ww_iconst cx dX8_teamOf_0 ic_m1 ?_
  refine ww_istore_n (ks := [0, 1, 2]) (lv' := fun v9 => [(2, .int v9), (0, .ref (gad G 62)), (1, .int a1)]) cx dX8_teamOf_1 rfl (by decide) hF (fun _ => rfl) (fun v9 hF => ?_)
  refine ww_iconst cx dX8_teamOf_2 ic_0 ?_
  refine ww_istore_n (ks := [0, 1, 2, 3]) (lv' := fun v10 => [(3, .int v10), (2, .int v9), (0, .ref (gad G 62)), (1, .int a1)]) cx dX8_teamOf_3 rfl (by decide) hF (fun _ => rfl) (fun v10 hF => ?_)
  exact ww_sub [2, 3, 1, 0] rfl (hl4 FU _ _ _ hF)
theorem dX8_together_0 : decode cX8_together 0 = .ok (.aload_n 0, 1) := by decide +kernel
theorem dX8_together_1 : decode cX8_together 1 = .ok (.iload_n 1, 1) := by decide +kernel
theorem dX8_together_2 : decode cX8_together 2 = .ok (.invokevirtual 378, 3) := by decide +kernel
theorem dX8_together_5 : decode cX8_together 5 = .ok (.ifCond .eq 29, 3) := by decide +kernel
theorem dX8_together_8 : decode cX8_together 8 = .ok (.aload_n 0, 1) := by decide +kernel
theorem dX8_together_9 : decode cX8_together 9 = .ok (.iload_n 2, 1) := by decide +kernel
theorem dX8_together_10 : decode cX8_together 10 = .ok (.i2l, 1) := by decide +kernel
theorem dX8_together_11 : decode cX8_together 11 = .ok (.invokevirtual 269, 3) := by decide +kernel
theorem dX8_together_14 : decode cX8_together 14 = .ok (.ifCond .eq 20, 3) := by decide +kernel
theorem dX8_together_17 : decode cX8_together 17 = .ok (.aload_n 0, 1) := by decide +kernel
theorem dX8_together_18 : decode cX8_together 18 = .ok (.iload_n 1, 1) := by decide +kernel
theorem dX8_together_19 : decode cX8_together 19 = .ok (.iload_n 2, 1) := by decide +kernel
theorem dX8_together_20 : decode cX8_together 20 = .ok (.invokevirtual 387, 3) := by decide +kernel
theorem dX8_together_23 : decode cX8_together 23 = .ok (.ifCond .eq 7, 3) := by decide +kernel
theorem dX8_together_26 : decode cX8_together 26 = .ok (.iconst 1, 1) := by decide +kernel
theorem dX8_together_27 : decode cX8_together 27 = .ok (.goto 9, 3) := by decide +kernel
theorem dX8_together_30 : decode cX8_together 30 = .ok (.iconst 0, 1) := by decide +kernel
theorem dX8_together_31 : decode cX8_together 31 = .ok (.goto 5, 3) := by decide +kernel
theorem dX8_together_34 : decode cX8_together 34 = .ok (.bipush (-2), 2) := by decide +kernel
theorem dX8_together_36 : decode cX8_together 36 = .ok (.ireturn, 1) := by decide +kernel
set_option maxRecDepth 4000 in
theorem kX8_together (G : GT) {σ : St} {a1 : Int32} {a2 : Int32} : ∀ (r : Int32) , fX8_together σ a1 a2 = some r → MCt G 6 yX8_together cX8_together 3 (some .int) [.ref (gad G 62), .int a1, .int a2] σ (some (.int r)) σ := by
  intro r hF
  refine met_i (by decide) (Nat.le_of_ble_eq_true rfl) (fun X cx hE => ?_)
  have cx : Cx G X RX8 cX8_together 3 6 := cx
  unfold fX8_together at hF
  show WW G X 3 σ [(0, .ref (gad G 62)), (1, .int a1), (2, .int a2)] 0 []
  refine ww_aload_n cx dX8_together_0 rfl 0 rfl ?_
  refine ww_iload_n cx dX8_together_1 rfl 1 rfl ?_
  refine ww_V1_pi kv_X8_378 rfl cx sh_62 ⟨Nat.le_of_ble_eq_true rfl, Nat.le_of_ble_eq_true rfl⟩ (Nat.le_of_ble_eq_true rfl) dX8_together_2 (kX8_areGuests G) hF (fun r1 hF => ?_)
  refine ww_if_eq cx dX8_together_5 (tgt := 34) rfl hF (fun hF => ?_) (fun hF => ?_)
  · refine ww_bipush cx dX8_together_34 bc_m2 ?_
    exact ww_rip hE dX8_together_36 hF
  · refine ww_aload_n cx dX8_together_8 rfl 0 rfl ?_
    refine ww_iload_n cx dX8_together_9 rfl 2 rfl ?_
    refine ww_i2l cx dX8_together_10 ?_
    refine ww_V1_pi kv_X8_269 rfl cx sh_62 ⟨Nat.le_of_ble_eq_true rfl, Nat.le_of_ble_eq_true rfl⟩ (Nat.le_of_ble_eq_true rfl) dX8_together_11 (kX8_isClaim G) hF (fun r2 hF => ?_)
    refine ww_if_eq cx dX8_together_14 (tgt := 34) rfl hF (fun hF => ?_) (fun hF => ?_)
    · refine ww_bipush cx dX8_together_34 bc_m2 ?_
      exact ww_rip hE dX8_together_36 hF
    · refine ww_aload_n cx dX8_together_17 rfl 0 rfl ?_
      refine ww_iload_n cx dX8_together_18 rfl 1 rfl ?_
      refine ww_iload_n cx dX8_together_19 rfl 2 rfl ?_
      refine ww_V2_pi kv_X8_387 rfl cx sh_62 ⟨Nat.le_of_ble_eq_true rfl, Nat.le_of_ble_eq_true rfl⟩ (Nat.le_of_ble_eq_true rfl) dX8_together_20 (kX8_canTogether G) hF (fun r3 hF => ?_)
      refine ww_if_eq cx dX8_together_23 (tgt := 30) rfl hF (fun hF => ?_) (fun hF => ?_)
      · refine ww_iconst cx dX8_together_30 ic_0 ?_
        refine ww_goto cx dX8_together_31 (tgt := 36) rfl ?_
        exact ww_rip hE dX8_together_36 hF
      · refine ww_iconst cx dX8_together_26 ic_1 ?_
        refine ww_goto cx dX8_together_27 (tgt := 36) rfl ?_
        exact ww_rip hE dX8_together_36 hF
theorem dX8_whoOf_0 : decode cX8_whoOf 0 = .ok (.iconst 0, 1) := by decide +kernel
theorem dX8_whoOf_1 : decode cX8_whoOf 1 = .ok (.istore_n 2, 1) := by decide +kernel
theorem dX8_whoOf_2 : decode cX8_whoOf 2 = .ok (.iconst 0, 1) := by decide +kernel
theorem dX8_whoOf_3 : decode cX8_whoOf 3 = .ok (.istore_n 3, 1) := by decide +kernel
theorem dX8_whoOf_4 : decode cX8_whoOf 4 = .ok (.iload_n 3, 1) := by decide +kernel
theorem dX8_whoOf_5 : decode cX8_whoOf 5 = .ok (.aload_n 0, 1) := by decide +kernel
theorem dX8_whoOf_6 : decode cX8_whoOf 6 = .ok (.getfield 9, 3) := by decide +kernel
theorem dX8_whoOf_9 : decode cX8_whoOf 9 = .ok (.iconst 5, 1) := by decide +kernel
theorem dX8_whoOf_10 : decode cX8_whoOf 10 = .ok (.iaload, 1) := by decide +kernel
theorem dX8_whoOf_11 : decode cX8_whoOf 11 = .ok (.if_icmp .ge 30, 3) := by decide +kernel
theorem dX8_whoOf_14 : decode cX8_whoOf 14 = .ok (.iload_n 2, 1) := by decide +kernel
theorem dX8_whoOf_15 : decode cX8_whoOf 15 = .ok (.aload_n 0, 1) := by decide +kernel
theorem dX8_whoOf_16 : decode cX8_whoOf 16 = .ok (.iload_n 3, 1) := by decide +kernel
theorem dX8_whoOf_17 : decode cX8_whoOf 17 = .ok (.iconst 1, 1) := by decide +kernel
theorem dX8_whoOf_18 : decode cX8_whoOf 18 = .ok (.iload_n 1, 1) := by decide +kernel
theorem dX8_whoOf_19 : decode cX8_whoOf 19 = .ok (.ishl, 1) := by decide +kernel
theorem dX8_whoOf_20 : decode cX8_whoOf 20 = .ok (.invokevirtual 369, 3) := by decide +kernel
theorem dX8_whoOf_23 : decode cX8_whoOf 23 = .ok (.ifCond .eq 9, 3) := by decide +kernel
theorem dX8_whoOf_26 : decode cX8_whoOf 26 = .ok (.iconst 1, 1) := by decide +kernel
theorem dX8_whoOf_27 : decode cX8_whoOf 27 = .ok (.iload_n 3, 1) := by decide +kernel
theorem dX8_whoOf_28 : decode cX8_whoOf 28 = .ok (.ishl, 1) := by decide +kernel
theorem dX8_whoOf_29 : decode cX8_whoOf 29 = .ok (.goto 4, 3) := by decide +kernel
theorem dX8_whoOf_32 : decode cX8_whoOf 32 = .ok (.iconst 0, 1) := by decide +kernel
theorem dX8_whoOf_33 : decode cX8_whoOf 33 = .ok (.ior, 1) := by decide +kernel
theorem dX8_whoOf_34 : decode cX8_whoOf 34 = .ok (.istore_n 2, 1) := by decide +kernel
theorem dX8_whoOf_35 : decode cX8_whoOf 35 = .ok (.iinc 3 1, 3) := by decide +kernel
theorem dX8_whoOf_38 : decode cX8_whoOf 38 = .ok (.goto (-34), 3) := by decide +kernel
theorem dX8_whoOf_41 : decode cX8_whoOf 41 = .ok (.iload_n 2, 1) := by decide +kernel
theorem dX8_whoOf_42 : decode cX8_whoOf 42 = .ok (.ireturn, 1) := by decide +kernel
set_option maxRecDepth 4000 in
theorem kX8_whoOf (G : GT) {σ : St} {a1 : Int32} : ∀ (r : Int32) , fX8_whoOf σ a1 = some r → MCt G 6 yX8_whoOf cX8_whoOf 4 (some .int) [.ref (gad G 62), .int a1] σ (some (.int r)) σ := by
  intro r hF
  refine met_i (by decide) (Nat.le_of_ble_eq_true rfl) (fun X cx hE => ?_)
  have cx : Cx G X RX8 cX8_whoOf 4 6 := cx
  have hb33 : ∀ (kr4 : Int32 → Int32 → Int32 → Option (Int32)), (∀ (x1 : Int32) (x2 : Int32) (x3 : Int32) , kr4 x1 x2 x3 = some r → WW G X 4 σ [(0, .ref (gad G 62)), (1, .int x1), (2, .int x2), (3, .int x3)] 4 []) → ∀ (x1 : Int32) (x3 : Int32) (y0 : Int32) (y1 : Int32) , fX8_whoOf_b33 σ kr4 x1 x3 y0 y1 = some r → WW G X 4 σ [(0, .ref (gad G 62)), (1, .int x1), (3, .int x3)] 33 [.int y1, .int y0] := by
    intro kr4 hk4
    intro x1 x3 y0 y1 hF
    unfold fX8_whoOf_b33 at hF
    refine ww_ior cx dX8_whoOf_33 ?_
    refine ww_istore_n (ks := [0, 1, 2, 3]) (lv' := fun v1 => [(2, .int v1), (0, .ref (gad G 62)), (1, .int x1), (3, .int x3)]) cx dX8_whoOf_34 rfl (by decide) hF (fun _ => rfl) (fun v1 hF => ?_)
    refine ww_iinc (j := 3) (ks := [0, 1, 2, 3]) (lv' := fun v2 => [(3, .int v2), (2, .int v1), (0, .ref (gad G 62)), (1, .int x1)]) cx dX8_whoOf_35 (by decide) rfl ic_1 hF (fun _ => rfl) (fun v2 hF => ?_)
    refine ww_goto cx dX8_whoOf_38 (tgt := 4) rfl ?_
    exact ww_sub [2, 3, 1, 0] rfl (hk4 _ _ _ hF)
  have hl4 : ∀ n : Nat, ∀ (x1 : Int32) (x2 : Int32) (x3 : Int32) , fX8_whoOf_l4 σ n x1 x2 x3 = some r → WW G X 4 σ [(0, .ref (gad G 62)), (1, .int x1), (2, .int x2), (3, .int x3)] 4 [] := by
    intro n
    induction n with
    | zero =>
      intro x1 x2 x3 hF
      exact absurd hF (by intro z; cases z)
    | succ n ih =>
      intro x1 x2 x3 hF
      have hk4 := ih
      have hF : fX8_whoOf_B4 σ (fX8_whoOf_l4 σ n) x1 x2 x3 = some r := hF
      unfold fX8_whoOf_B4 at hF
      refine ww_iload_n cx dX8_whoOf_4 rfl 3 rfl ?_
      refine ww_aload_n cx dX8_whoOf_5 rfl 0 rfl ?_
      refine gf_X8_9 cx dX8_whoOf_6 ?_
      refine ww_iconst cx dX8_whoOf_9 ic_5 ?_
      refine ww_iald (N := 77) cx (sh_63) dX8_whoOf_10 hF (fun hF => ?_)
      refine ww_icmp_ge cx dX8_whoOf_11 (tgt := 41) rfl hF (fun hF => ?_) (fun hF => ?_)
      · refine ww_iload_n cx dX8_whoOf_41 rfl 2 rfl ?_
        exact ww_rip hE dX8_whoOf_42 hF
      · refine ww_iload_n cx dX8_whoOf_14 rfl 2 rfl ?_
        refine ww_aload_n cx dX8_whoOf_15 rfl 0 rfl ?_
        refine ww_iload_n cx dX8_whoOf_16 rfl 3 rfl ?_
        refine ww_iconst cx dX8_whoOf_17 ic_1 ?_
        refine ww_iload_n cx dX8_whoOf_18 rfl 1 rfl ?_
        refine ww_ishl cx dX8_whoOf_19 ?_
        refine ww_V2_pi kv_X8_369 rfl cx sh_62 ⟨Nat.le_of_ble_eq_true rfl, Nat.le_of_ble_eq_true rfl⟩ (Nat.le_of_ble_eq_true rfl) dX8_whoOf_20 (kX8_canProve G) hF (fun r3 hF => ?_)
        refine ww_if_eq cx dX8_whoOf_23 (tgt := 32) rfl hF (fun hF => ?_) (fun hF => ?_)
        · refine ww_iconst cx dX8_whoOf_32 ic_0 ?_
          exact ww_sub [0, 1, 3] rfl (hb33 _ hk4 _ _ _ _ hF)
        · refine ww_iconst cx dX8_whoOf_26 ic_1 ?_
          refine ww_iload_n cx dX8_whoOf_27 rfl 3 rfl ?_
          refine ww_ishl cx dX8_whoOf_28 ?_
          refine ww_goto cx dX8_whoOf_29 (tgt := 33) rfl ?_
          exact ww_sub [0, 1, 3] rfl (hb33 _ hk4 _ _ _ _ hF)
  unfold fX8_whoOf at hF
  show WW G X 4 σ [(0, .ref (gad G 62)), (1, .int a1)] 0 []
  refine ww_iconst cx dX8_whoOf_0 ic_0 ?_
  refine ww_istore_n (ks := [0, 1, 2]) (lv' := fun v4 => [(2, .int v4), (0, .ref (gad G 62)), (1, .int a1)]) cx dX8_whoOf_1 rfl (by decide) hF (fun _ => rfl) (fun v4 hF => ?_)
  refine ww_iconst cx dX8_whoOf_2 ic_0 ?_
  refine ww_istore_n (ks := [0, 1, 2, 3]) (lv' := fun v5 => [(3, .int v5), (2, .int v4), (0, .ref (gad G 62)), (1, .int a1)]) cx dX8_whoOf_3 rfl (by decide) hF (fun _ => rfl) (fun v5 hF => ?_)
  exact ww_sub [2, 3, 1, 0] rfl (hl4 FU _ _ _ hF)
theorem dX7_duel_0 : decode cX7_duel 0 = .ok (.aload_n 0, 1) := by decide +kernel
theorem dX7_duel_1 : decode cX7_duel 1 = .ok (.getfield 19, 3) := by decide +kernel
theorem dX7_duel_4 : decode cX7_duel 4 = .ok (.invokevirtual 149, 3) := by decide +kernel
theorem dX7_duel_7 : decode cX7_duel 7 = .ok (.ifCond .eq 12, 3) := by decide +kernel
theorem dX7_duel_10 : decode cX7_duel 10 = .ok (.aload_n 0, 1) := by decide +kernel
theorem dX7_duel_11 : decode cX7_duel 11 = .ok (.invokevirtual 307, 3) := by decide +kernel
theorem dX7_duel_14 : decode cX7_duel 14 = .ok (.iconst 1, 1) := by decide +kernel
theorem dX7_duel_15 : decode cX7_duel 15 = .ok (.iand, 1) := by decide +kernel
theorem dX7_duel_16 : decode cX7_duel 16 = .ok (.goto 5, 3) := by decide +kernel
theorem dX7_duel_19 : decode cX7_duel 19 = .ok (.bipush (-2), 2) := by decide +kernel
theorem dX7_duel_21 : decode cX7_duel 21 = .ok (.ireturn, 1) := by decide +kernel
set_option maxRecDepth 4000 in
theorem kX7_duel (G : GT) {σ : St} : ∀ (r : Int32) (σo : St) , fX7_duel σ = some (r, σo) → MCt G 7 yX7_duel cX7_duel 1 (some .int) [.ref (gad G 0)] σ (some (.int r)) σo := by
  intro r σo hF
  refine met_i (by decide) (Nat.le_of_ble_eq_true rfl) (fun X cx hE => ?_)
  have cx : Cx G X RX7 cX7_duel 1 7 := cx
  unfold fX7_duel at hF
  show WW G X 1 σ [(0, .ref (gad G 0))] 0 []
  refine ww_aload_n cx dX7_duel_0 rfl 0 rfl ?_
  refine gf_X7_19 cx dX7_duel_1 ?_
  refine ww_V0_pi kv_X7_149 rfl cx ((isTab_3).1) ⟨Nat.le_of_ble_eq_true rfl, Nat.le_of_ble_eq_true rfl⟩ (Nat.le_of_ble_eq_true rfl) dX7_duel_4 (kX6_isTold G (isTab_3)) hF (fun r1 hF => ?_)
  refine ww_if_eq cx dX7_duel_7 (tgt := 19) rfl hF (fun hF => ?_) (fun hF => ?_)
  · refine ww_bipush cx dX7_duel_19 bc_m2 ?_
    exact ww_ris hE dX7_duel_21 hF
  · refine ww_aload_n cx dX7_duel_10 rfl 0 rfl ?_
    refine ww_V0_si kv_X7_307 rfl cx sh_0 ⟨Nat.le_of_ble_eq_true rfl, Nat.le_of_ble_eq_true rfl⟩ (Nat.le_of_ble_eq_true rfl) dX7_duel_11 (kX7_lengthOfDuel G) hF (fun r2 σ3 hF => ?_)
    refine ww_iconst cx dX7_duel_14 ic_1 ?_
    refine ww_iand cx dX7_duel_15 ?_
    refine ww_goto cx dX7_duel_16 (tgt := 21) rfl ?_
    exact ww_ris hE dX7_duel_21 hF
theorem dX7_feast_0 : decode cX7_feast 0 = .ok (.aload_n 0, 1) := by decide +kernel
theorem dX7_feast_1 : decode cX7_feast 1 = .ok (.getfield 19, 3) := by decide +kernel
theorem dX7_feast_4 : decode cX7_feast 4 = .ok (.iload_n 2, 1) := by decide +kernel
theorem dX7_feast_5 : decode cX7_feast 5 = .ok (.invokevirtual 137, 3) := by decide +kernel
theorem dX7_feast_8 : decode cX7_feast 8 = .ok (.ifCond .eq 10, 3) := by decide +kernel
theorem dX7_feast_11 : decode cX7_feast 11 = .ok (.iload_n 1, 1) := by decide +kernel
theorem dX7_feast_12 : decode cX7_feast 12 = .ok (.invokestatic 355, 3) := by decide +kernel
theorem dX7_feast_15 : decode cX7_feast 15 = .ok (.ifCond .ne 6, 3) := by decide +kernel
theorem dX7_feast_18 : decode cX7_feast 18 = .ok (.bipush (-2), 2) := by decide +kernel
theorem dX7_feast_20 : decode cX7_feast 20 = .ok (.ireturn, 1) := by decide +kernel
theorem dX7_feast_21 : decode cX7_feast 21 = .ok (.aload_n 0, 1) := by decide +kernel
theorem dX7_feast_22 : decode cX7_feast 22 = .ok (.iload_n 2, 1) := by decide +kernel
theorem dX7_feast_23 : decode cX7_feast 23 = .ok (.aload_n 0, 1) := by decide +kernel
theorem dX7_feast_24 : decode cX7_feast 24 = .ok (.getfield 19, 3) := by decide +kernel
theorem dX7_feast_27 : decode cX7_feast 27 = .ok (.iload_n 1, 1) := by decide +kernel
theorem dX7_feast_28 : decode cX7_feast 28 = .ok (.invokevirtual 358, 3) := by decide +kernel
theorem dX7_feast_31 : decode cX7_feast 31 = .ok (.invokevirtual 231, 3) := by decide +kernel
theorem dX7_feast_34 : decode cX7_feast 34 = .ok (.ireturn, 1) := by decide +kernel
set_option maxRecDepth 4000 in
theorem kX7_feast (G : GT) {σ : St} {a1 : Int32} {a2 : Int32} : ∀ (r : Int32) (σo : St) , fX7_feast σ a1 a2 = some (r, σo) → MCt G 7 yX7_feast cX7_feast 3 (some .int) [.ref (gad G 0), .int a1, .int a2] σ (some (.int r)) σo := by
  intro r σo hF
  refine met_i (by decide) (Nat.le_of_ble_eq_true rfl) (fun X cx hE => ?_)
  have cx : Cx G X RX7 cX7_feast 3 7 := cx
  unfold fX7_feast at hF
  show WW G X 3 σ [(0, .ref (gad G 0)), (1, .int a1), (2, .int a2)] 0 []
  refine ww_aload_n cx dX7_feast_0 rfl 0 rfl ?_
  refine gf_X7_19 cx dX7_feast_1 ?_
  refine ww_iload_n cx dX7_feast_4 rfl 2 rfl ?_
  refine ww_V1_pi kv_X7_137 rfl cx ((isTab_3).1) ⟨Nat.le_of_ble_eq_true rfl, Nat.le_of_ble_eq_true rfl⟩ (Nat.le_of_ble_eq_true rfl) dX7_feast_5 (kX6_hasGuest G (isTab_3)) hF (fun r1 hF => ?_)
  refine ww_if_eq cx dX7_feast_8 (tgt := 18) rfl hF (fun hF => ?_) (fun hF => ?_)
  · refine ww_bipush cx dX7_feast_18 bc_m2 ?_
    exact ww_ris hE dX7_feast_20 hF
  · refine ww_iload_n cx dX7_feast_11 rfl 1 rfl ?_
    refine ww_S1_pi kv_X7_355 cx ⟨Nat.le_of_ble_eq_true rfl, Nat.le_of_ble_eq_true rfl⟩ (Nat.le_of_ble_eq_true rfl) dX7_feast_12 (kX7_isSeed G) hF (fun r2 hF => ?_)
    refine ww_if_ne cx dX7_feast_15 (tgt := 21) rfl hF (fun hF => ?_) (fun hF => ?_)
    · refine ww_aload_n cx dX7_feast_21 rfl 0 rfl ?_
      refine ww_iload_n cx dX7_feast_22 rfl 2 rfl ?_
      refine ww_aload_n cx dX7_feast_23 rfl 0 rfl ?_
      refine gf_X7_19 cx dX7_feast_24 ?_
      refine ww_iload_n cx dX7_feast_27 rfl 1 rfl ?_
      refine ww_V1_pi kv_X7_358 rfl cx ((isTab_3).1) ⟨Nat.le_of_ble_eq_true rfl, Nat.le_of_ble_eq_true rfl⟩ (Nat.le_of_ble_eq_true rfl) dX7_feast_28 (kX6_holedSteps G (isTab_3)) hF (fun r3 hF => ?_)
      refine ww_V2_si kv_X7_231 rfl cx sh_0 ⟨Nat.le_of_ble_eq_true rfl, Nat.le_of_ble_eq_true rfl⟩ (Nat.le_of_ble_eq_true rfl) dX7_feast_31 (kX7_menuWorth G) hF (fun r4 σ5 hF => ?_)
      exact ww_ris hE dX7_feast_34 hF
    · refine ww_bipush cx dX7_feast_18 bc_m2 ?_
      exact ww_ris hE dX7_feast_20 hF
theorem dX7_fewest_0 : decode cX7_fewest 0 = .ok (.aload_n 0, 1) := by decide +kernel
theorem dX7_fewest_1 : decode cX7_fewest 1 = .ok (.getfield 19, 3) := by decide +kernel
theorem dX7_fewest_4 : decode cX7_fewest 4 = .ok (.iload_n 1, 1) := by decide +kernel
theorem dX7_fewest_5 : decode cX7_fewest 5 = .ok (.invokevirtual 101, 3) := by decide +kernel
theorem dX7_fewest_8 : decode cX7_fewest 8 = .ok (.ifCond .eq 14, 3) := by decide +kernel
theorem dX7_fewest_11 : decode cX7_fewest 11 = .ok (.aload_n 0, 1) := by decide +kernel
theorem dX7_fewest_12 : decode cX7_fewest 12 = .ok (.iload_n 1, 1) := by decide +kernel
theorem dX7_fewest_13 : decode cX7_fewest 13 = .ok (.invokevirtual 267, 3) := by decide +kernel
theorem dX7_fewest_16 : decode cX7_fewest 16 = .ok (.invokestatic 211, 3) := by decide +kernel
theorem dX7_fewest_19 : decode cX7_fewest 19 = .ok (.goto 5, 3) := by decide +kernel
theorem dX7_fewest_22 : decode cX7_fewest 22 = .ok (.bipush (-2), 2) := by decide +kernel
theorem dX7_fewest_24 : decode cX7_fewest 24 = .ok (.ireturn, 1) := by decide +kernel
set_option maxRecDepth 4000 in
theorem kX7_fewest (G : GT) {σ : St} {a1 : Int32} : ∀ (r : Int32) (σo : St) , fX7_fewest σ a1 = some (r, σo) → MCt G 7 yX7_fewest cX7_fewest 2 (some .int) [.ref (gad G 0), .int a1] σ (some (.int r)) σo := by
  intro r σo hF
  refine met_i (by decide) (Nat.le_of_ble_eq_true rfl) (fun X cx hE => ?_)
  have cx : Cx G X RX7 cX7_fewest 2 7 := cx
  unfold fX7_fewest at hF
  show WW G X 2 σ [(0, .ref (gad G 0)), (1, .int a1)] 0 []
  refine ww_aload_n cx dX7_fewest_0 rfl 0 rfl ?_
  refine gf_X7_19 cx dX7_fewest_1 ?_
  refine ww_iload_n cx dX7_fewest_4 rfl 1 rfl ?_
  refine ww_V1_pi kv_X7_101 rfl cx ((isTab_3).1) ⟨Nat.le_of_ble_eq_true rfl, Nat.le_of_ble_eq_true rfl⟩ (Nat.le_of_ble_eq_true rfl) dX7_fewest_5 (kX6_hasClaim G (isTab_3)) hF (fun r1 hF => ?_)
  refine ww_if_eq cx dX7_fewest_8 (tgt := 22) rfl hF (fun hF => ?_) (fun hF => ?_)
  · refine ww_bipush cx dX7_fewest_22 bc_m2 ?_
    exact ww_ris hE dX7_fewest_24 hF
  · refine ww_aload_n cx dX7_fewest_11 rfl 0 rfl ?_
    refine ww_iload_n cx dX7_fewest_12 rfl 1 rfl ?_
    refine ww_V1_si kv_X7_267 rfl cx sh_0 ⟨Nat.le_of_ble_eq_true rfl, Nat.le_of_ble_eq_true rfl⟩ (Nat.le_of_ble_eq_true rfl) dX7_fewest_13 (kX7_leastTeam G) hF (fun r2 σ3 hF => ?_)
    refine ww_S1_pi kv_X7_211 cx ⟨Nat.le_of_ble_eq_true rfl, Nat.le_of_ble_eq_true rfl⟩ (Nat.le_of_ble_eq_true rfl) dX7_fewest_16 (kX7_sizeOrNone G) hF (fun r4 hF => ?_)
    refine ww_goto cx dX7_fewest_19 (tgt := 24) rfl ?_
    exact ww_ris hE dX7_fewest_24 hF
theorem dX7_lasts_0 : decode cX7_lasts 0 = .ok (.aload_n 0, 1) := by decide +kernel
theorem dX7_lasts_1 : decode cX7_lasts 1 = .ok (.getfield 19, 3) := by decide +kernel
theorem dX7_lasts_4 : decode cX7_lasts 4 = .ok (.invokevirtual 149, 3) := by decide +kernel
theorem dX7_lasts_7 : decode cX7_lasts 7 = .ok (.ifCond .eq 10, 3) := by decide +kernel
theorem dX7_lasts_10 : decode cX7_lasts 10 = .ok (.aload_n 0, 1) := by decide +kernel
theorem dX7_lasts_11 : decode cX7_lasts 11 = .ok (.invokevirtual 307, 3) := by decide +kernel
theorem dX7_lasts_14 : decode cX7_lasts 14 = .ok (.goto 5, 3) := by decide +kernel
theorem dX7_lasts_17 : decode cX7_lasts 17 = .ok (.bipush (-2), 2) := by decide +kernel
theorem dX7_lasts_19 : decode cX7_lasts 19 = .ok (.ireturn, 1) := by decide +kernel
set_option maxRecDepth 4000 in
theorem kX7_lasts (G : GT) {σ : St} : ∀ (r : Int32) (σo : St) , fX7_lasts σ = some (r, σo) → MCt G 7 yX7_lasts cX7_lasts 1 (some .int) [.ref (gad G 0)] σ (some (.int r)) σo := by
  intro r σo hF
  refine met_i (by decide) (Nat.le_of_ble_eq_true rfl) (fun X cx hE => ?_)
  have cx : Cx G X RX7 cX7_lasts 1 7 := cx
  unfold fX7_lasts at hF
  show WW G X 1 σ [(0, .ref (gad G 0))] 0 []
  refine ww_aload_n cx dX7_lasts_0 rfl 0 rfl ?_
  refine gf_X7_19 cx dX7_lasts_1 ?_
  refine ww_V0_pi kv_X7_149 rfl cx ((isTab_3).1) ⟨Nat.le_of_ble_eq_true rfl, Nat.le_of_ble_eq_true rfl⟩ (Nat.le_of_ble_eq_true rfl) dX7_lasts_4 (kX6_isTold G (isTab_3)) hF (fun r1 hF => ?_)
  refine ww_if_eq cx dX7_lasts_7 (tgt := 17) rfl hF (fun hF => ?_) (fun hF => ?_)
  · refine ww_bipush cx dX7_lasts_17 bc_m2 ?_
    exact ww_ris hE dX7_lasts_19 hF
  · refine ww_aload_n cx dX7_lasts_10 rfl 0 rfl ?_
    refine ww_V0_si kv_X7_307 rfl cx sh_0 ⟨Nat.le_of_ble_eq_true rfl, Nat.le_of_ble_eq_true rfl⟩ (Nat.le_of_ble_eq_true rfl) dX7_lasts_11 (kX7_lengthOfDuel G) hF (fun r2 σ3 hF => ?_)
    refine ww_goto cx dX7_lasts_14 (tgt := 19) rfl ?_
    exact ww_ris hE dX7_lasts_19 hF
