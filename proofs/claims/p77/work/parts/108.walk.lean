theorem dX7_step_0 : decode cX7_step 0 = .ok (.aload_n 0, 1) := by decide +kernel
theorem dX7_step_1 : decode cX7_step 1 = .ok (.getfield 19, 3) := by decide +kernel
theorem dX7_step_4 : decode cX7_step 4 = .ok (.iload_n 1, 1) := by decide +kernel
theorem dX7_step_5 : decode cX7_step 5 = .ok (.invokevirtual 121, 3) := by decide +kernel
theorem dX7_step_8 : decode cX7_step 8 = .ok (.ifCond .ne 6, 3) := by decide +kernel
theorem dX7_step_11 : decode cX7_step 11 = .ok (.bipush (-2), 2) := by decide +kernel
theorem dX7_step_13 : decode cX7_step 13 = .ok (.ireturn, 1) := by decide +kernel
theorem dX7_step_14 : decode cX7_step 14 = .ok (.iload_n 2, 1) := by decide +kernel
theorem dX7_step_15 : decode cX7_step 15 = .ok (.tableswitch 65 0 2 #[25, 35, 45], 25) := by decide +kernel
theorem dX7_step_40 : decode cX7_step 40 = .ok (.aload_n 0, 1) := by decide +kernel
theorem dX7_step_41 : decode cX7_step 41 = .ok (.getfield 19, 3) := by decide +kernel
theorem dX7_step_44 : decode cX7_step 44 = .ok (.getfield 124, 3) := by decide +kernel
theorem dX7_step_47 : decode cX7_step 47 = .ok (.iload_n 1, 1) := by decide +kernel
theorem dX7_step_48 : decode cX7_step 48 = .ok (.iaload, 1) := by decide +kernel
theorem dX7_step_49 : decode cX7_step 49 = .ok (.ireturn, 1) := by decide +kernel
theorem dX7_step_50 : decode cX7_step 50 = .ok (.aload_n 0, 1) := by decide +kernel
theorem dX7_step_51 : decode cX7_step 51 = .ok (.getfield 19, 3) := by decide +kernel
theorem dX7_step_54 : decode cX7_step 54 = .ok (.getfield 127, 3) := by decide +kernel
theorem dX7_step_57 : decode cX7_step 57 = .ok (.iload_n 1, 1) := by decide +kernel
theorem dX7_step_58 : decode cX7_step 58 = .ok (.iaload, 1) := by decide +kernel
theorem dX7_step_59 : decode cX7_step 59 = .ok (.ireturn, 1) := by decide +kernel
theorem dX7_step_60 : decode cX7_step 60 = .ok (.aload_n 0, 1) := by decide +kernel
theorem dX7_step_61 : decode cX7_step 61 = .ok (.getfield 19, 3) := by decide +kernel
theorem dX7_step_64 : decode cX7_step 64 = .ok (.iload_n 1, 1) := by decide +kernel
theorem dX7_step_65 : decode cX7_step 65 = .ok (.invokevirtual 130, 3) := by decide +kernel
theorem dX7_step_68 : decode cX7_step 68 = .ok (.ifCond .ne 7, 3) := by decide +kernel
theorem dX7_step_71 : decode cX7_step 71 = .ok (.iconst 1, 1) := by decide +kernel
theorem dX7_step_72 : decode cX7_step 72 = .ok (.goto 4, 3) := by decide +kernel
theorem dX7_step_75 : decode cX7_step 75 = .ok (.iconst 0, 1) := by decide +kernel
theorem dX7_step_76 : decode cX7_step 76 = .ok (.invokestatic 133, 3) := by decide +kernel
theorem dX7_step_79 : decode cX7_step 79 = .ok (.ireturn, 1) := by decide +kernel
theorem dX7_step_80 : decode cX7_step 80 = .ok (.bipush (-2), 2) := by decide +kernel
theorem dX7_step_82 : decode cX7_step 82 = .ok (.ireturn, 1) := by decide +kernel
set_option maxRecDepth 4000 in
theorem kX7_step (G : GT) {σ : St} {a1 : Int32} {a2 : Int32} : ∀ (r : Int32) , fX7_step σ a1 a2 = some r → MCt G 4 yX7_step cX7_step 3 (some .int) [.ref (gad G 0), .int a1, .int a2] σ (some (.int r)) σ := by
  intro r hF
  refine met_i (by decide) (Nat.le_of_ble_eq_true rfl) (fun X cx hE => ?_)
  have cx : Cx G X RX7 cX7_step 3 4 := cx
  have hb76 : ∀ (y0 : Int32) , fX7_step_b76 σ y0 = some r → WW G X 3 σ [] 76 [.int y0] := by
    intro y0 hF
    unfold fX7_step_b76 at hF
    refine ww_S1_pi kv_X7_133 cx ⟨Nat.le_of_ble_eq_true rfl, Nat.le_of_ble_eq_true rfl⟩ (Nat.le_of_ble_eq_true rfl) dX7_step_76 (kX7_bit G) hF (fun r1 hF => ?_)
    exact ww_rip hE dX7_step_79 hF
  unfold fX7_step at hF
  show WW G X 3 σ [(0, .ref (gad G 0)), (1, .int a1), (2, .int a2)] 0 []
  refine ww_aload_n cx dX7_step_0 rfl 0 rfl ?_
  refine gf_X7_19 cx dX7_step_1 ?_
  refine ww_iload_n cx dX7_step_4 rfl 1 rfl ?_
  refine ww_V1_pi kv_X7_121 rfl cx ((isTab_3).1) ⟨Nat.le_of_ble_eq_true rfl, Nat.le_of_ble_eq_true rfl⟩ (Nat.le_of_ble_eq_true rfl) dX7_step_5 (kX6_hasStep G (isTab_3)) hF (fun r2 hF => ?_)
  refine ww_if_ne cx dX7_step_8 (tgt := 14) rfl hF (fun hF => ?_) (fun hF => ?_)
  · refine ww_iload_n cx dX7_step_14 rfl 2 rfl ?_
    by_cases e0 : a2 = 0
    · replace hF := it_t e0 hF
      refine ww_tsIn (v := 0) (tgt := 40) cx dX7_step_15 e0 (by decide) (by decide) rfl rfl ?_
      refine ww_aload_n cx dX7_step_40 rfl 0 rfl ?_
      refine gf_X7_19 cx dX7_step_41 ?_
      refine gf_X7_124 cx (isTab_3) dX7_step_44 ?_
      refine ww_iload_n cx dX7_step_47 rfl 1 rfl ?_
      refine ww_iald (N := 12) cx (ar_X6_10 isTab_3) dX7_step_48 hF (fun hF => ?_)
      exact ww_rip hE dX7_step_49 hF
    replace hF := it_f e0 hF
    by_cases e1 : a2 = 1
    · replace hF := it_t e1 hF
      refine ww_tsIn (v := 1) (tgt := 50) cx dX7_step_15 e1 (by decide) (by decide) rfl rfl ?_
      refine ww_aload_n cx dX7_step_50 rfl 0 rfl ?_
      refine gf_X7_19 cx dX7_step_51 ?_
      refine gf_X7_127 cx (isTab_3) dX7_step_54 ?_
      refine ww_iload_n cx dX7_step_57 rfl 1 rfl ?_
      refine ww_iald (N := 12) cx (ar_X6_11 isTab_3) dX7_step_58 hF (fun hF => ?_)
      exact ww_rip hE dX7_step_59 hF
    replace hF := it_f e1 hF
    by_cases e2 : a2 = 2
    · replace hF := it_t e2 hF
      refine ww_tsIn (v := 2) (tgt := 60) cx dX7_step_15 e2 (by decide) (by decide) rfl rfl ?_
      refine ww_aload_n cx dX7_step_60 rfl 0 rfl ?_
      refine gf_X7_19 cx dX7_step_61 ?_
      refine ww_iload_n cx dX7_step_64 rfl 1 rfl ?_
      refine ww_V1_pi kv_X7_130 rfl cx ((isTab_3).1) ⟨Nat.le_of_ble_eq_true rfl, Nat.le_of_ble_eq_true rfl⟩ (Nat.le_of_ble_eq_true rfl) dX7_step_65 (kX6_falseWorlds G (isTab_3)) hF (fun r3 hF => ?_)
      refine ww_if_ne cx dX7_step_68 (tgt := 75) rfl hF (fun hF => ?_) (fun hF => ?_)
      · refine ww_iconst cx dX7_step_75 ic_0 ?_
        exact ww_sub [] rfl (hb76 _ hF)
      · refine ww_iconst cx dX7_step_71 ic_1 ?_
        refine ww_goto cx dX7_step_72 (tgt := 76) rfl ?_
        exact ww_sub [] rfl (hb76 _ hF)
    replace hF := it_f e2 hF
    refine ww_tsOut (tgt := 80) cx dX7_step_15 (ts_out3 e0 e1 e2) rfl ?_
    refine ww_bipush cx dX7_step_80 bc_m2 ?_
    exact ww_rip hE dX7_step_82 hF
  · refine ww_bipush cx dX7_step_11 bc_m2 ?_
    exact ww_rip hE dX7_step_13 hF
theorem dX7_used_0 : decode cX7_used 0 = .ok (.aload_n 0, 1) := by decide +kernel
theorem dX7_used_1 : decode cX7_used 1 = .ok (.getfield 19, 3) := by decide +kernel
theorem dX7_used_4 : decode cX7_used 4 = .ok (.iload_n 2, 1) := by decide +kernel
theorem dX7_used_5 : decode cX7_used 5 = .ok (.invokevirtual 101, 3) := by decide +kernel
theorem dX7_used_8 : decode cX7_used 8 = .ok (.ifCond .eq 11, 3) := by decide +kernel
theorem dX7_used_11 : decode cX7_used 11 = .ok (.aload_n 0, 1) := by decide +kernel
theorem dX7_used_12 : decode cX7_used 12 = .ok (.iload_n 1, 1) := by decide +kernel
theorem dX7_used_13 : decode cX7_used 13 = .ok (.invokevirtual 173, 3) := by decide +kernel
theorem dX7_used_16 : decode cX7_used 16 = .ok (.goto 5, 3) := by decide +kernel
theorem dX7_used_19 : decode cX7_used 19 = .ok (.bipush (-2), 2) := by decide +kernel
theorem dX7_used_21 : decode cX7_used 21 = .ok (.istore_n 3, 1) := by decide +kernel
theorem dX7_used_22 : decode cX7_used 22 = .ok (.iload_n 3, 1) := by decide +kernel
theorem dX7_used_23 : decode cX7_used 23 = .ok (.ifCond .eq 5, 3) := by decide +kernel
theorem dX7_used_26 : decode cX7_used 26 = .ok (.iload_n 3, 1) := by decide +kernel
theorem dX7_used_27 : decode cX7_used 27 = .ok (.ireturn, 1) := by decide +kernel
theorem dX7_used_28 : decode cX7_used 28 = .ok (.aload_n 0, 1) := by decide +kernel
theorem dX7_used_29 : decode cX7_used 29 = .ok (.getfield 58, 3) := by decide +kernel
theorem dX7_used_32 : decode cX7_used 32 = .ok (.aload_n 0, 1) := by decide +kernel
theorem dX7_used_33 : decode cX7_used 33 = .ok (.getfield 19, 3) := by decide +kernel
theorem dX7_used_36 : decode cX7_used 36 = .ok (.aload_n 0, 1) := by decide +kernel
theorem dX7_used_37 : decode cX7_used 37 = .ok (.getfield 36, 3) := by decide +kernel
theorem dX7_used_40 : decode cX7_used 40 = .ok (.iload_n 1, 1) := by decide +kernel
theorem dX7_used_41 : decode cX7_used 41 = .ok (.aaload, 1) := by decide +kernel
theorem dX7_used_42 : decode cX7_used 42 = .ok (.invokevirtual 176, 3) := by decide +kernel
theorem dX7_used_45 : decode cX7_used 45 = .ok (.aload_n 0, 1) := by decide +kernel
theorem dX7_used_46 : decode cX7_used 46 = .ok (.getfield 58, 3) := by decide +kernel
theorem dX7_used_49 : decode cX7_used 49 = .ok (.getfield 193, 3) := by decide +kernel
theorem dX7_used_52 : decode cX7_used 52 = .ok (.iload_n 2, 1) := by decide +kernel
theorem dX7_used_53 : decode cX7_used 53 = .ok (.iaload, 1) := by decide +kernel
theorem dX7_used_54 : decode cX7_used 54 = .ok (.ireturn, 1) := by decide +kernel
set_option maxRecDepth 4000 in
theorem kX7_used (G : GT) {σ : St} {a1 : Int32} {a2 : Int32} : ∀ (r : Int32) (σo : St) , fX7_used σ a1 a2 = some (r, σo) → MCt G 4 yX7_used cX7_used 4 (some .int) [.ref (gad G 0), .int a1, .int a2] σ (some (.int r)) σo := by
  intro r σo hF
  refine met_i (by decide) (Nat.le_of_ble_eq_true rfl) (fun X cx hE => ?_)
  have cx : Cx G X RX7 cX7_used 4 4 := cx
  have hb21 : ∀ (σ : St) (x1 : Int32) (x2 : Int32) (y0 : Int32) , fX7_used_b21 σ x1 x2 y0 = some (r, σo) → WW G X 4 σ [(0, .ref (gad G 0)), (1, .int x1), (2, .int x2)] 21 [.int y0] := by
    intro σ x1 x2 y0 hF
    unfold fX7_used_b21 at hF
    refine ww_istore_n (ks := [0, 1, 2, 3]) (lv' := fun v1 => [(3, .int v1), (0, .ref (gad G 0)), (1, .int x1), (2, .int x2)]) cx dX7_used_21 rfl (by decide) hF (fun _ => rfl) (fun v1 hF => ?_)
    refine ww_iload_n cx dX7_used_22 rfl 0 rfl ?_
    refine ww_if_eq cx dX7_used_23 (tgt := 28) rfl hF (fun hF => ?_) (fun hF => ?_)
    · refine ww_aload_n cx dX7_used_28 rfl 1 rfl ?_
      refine gf_X7_58 cx dX7_used_29 ?_
      refine ww_aload_n cx dX7_used_32 rfl 1 rfl ?_
      refine gf_X7_19 cx dX7_used_33 ?_
      refine ww_aload_n cx dX7_used_36 rfl 1 rfl ?_
      refine gf_X7_36 cx dX7_used_37 ?_
      refine ww_iload_n cx dX7_used_40 rfl 2 rfl ?_
      refine ww_aaldR cx dX7_used_41 hF (fun k2 hk2 hF => ?_)
      refine ww_V2_sv kv_X7_176 rfl cx sh_53 ⟨Nat.le_of_ble_eq_true rfl, Nat.le_of_ble_eq_true rfl⟩ (Nat.le_of_ble_eq_true rfl) dX7_used_42 (kX3_read G (isTab_3) (hk2)) hF (fun σ3 hF => ?_)
      refine ww_aload_n cx dX7_used_45 rfl 1 rfl ?_
      refine gf_X7_58 cx dX7_used_46 ?_
      refine gf_X7_193 cx dX7_used_49 ?_
      refine ww_iload_n cx dX7_used_52 rfl 3 rfl ?_
      refine ww_iald (N := 12) cx (sh_54) dX7_used_53 hF (fun hF => ?_)
      exact ww_ris hE dX7_used_54 hF
    · refine ww_iload_n cx dX7_used_26 rfl 0 rfl ?_
      exact ww_ris hE dX7_used_27 hF
  unfold fX7_used at hF
  show WW G X 4 σ [(0, .ref (gad G 0)), (1, .int a1), (2, .int a2)] 0 []
  refine ww_aload_n cx dX7_used_0 rfl 0 rfl ?_
  refine gf_X7_19 cx dX7_used_1 ?_
  refine ww_iload_n cx dX7_used_4 rfl 2 rfl ?_
  refine ww_V1_pi kv_X7_101 rfl cx ((isTab_3).1) ⟨Nat.le_of_ble_eq_true rfl, Nat.le_of_ble_eq_true rfl⟩ (Nat.le_of_ble_eq_true rfl) dX7_used_5 (kX6_hasClaim G (isTab_3)) hF (fun r4 hF => ?_)
  refine ww_if_eq cx dX7_used_8 (tgt := 19) rfl hF (fun hF => ?_) (fun hF => ?_)
  · refine ww_bipush cx dX7_used_19 bc_m2 ?_
    exact hb21 _ _ _ _ hF
  · refine ww_aload_n cx dX7_used_11 rfl 0 rfl ?_
    refine ww_iload_n cx dX7_used_12 rfl 1 rfl ?_
    refine ww_V1_pi kv_X7_173 rfl cx sh_0 ⟨Nat.le_of_ble_eq_true rfl, Nat.le_of_ble_eq_true rfl⟩ (Nat.le_of_ble_eq_true rfl) dX7_used_13 (kX7_refusalOfSteps G) hF (fun r5 hF => ?_)
    refine ww_goto cx dX7_used_16 (tgt := 21) rfl ?_
    exact hb21 _ _ _ _ hF
theorem dX7_why_0 : decode cX7_why 0 = .ok (.aload_n 0, 1) := by decide +kernel
theorem dX7_why_1 : decode cX7_why 1 = .ok (.iload_n 1, 1) := by decide +kernel
theorem dX7_why_2 : decode cX7_why 2 = .ok (.invokevirtual 173, 3) := by decide +kernel
theorem dX7_why_5 : decode cX7_why 5 = .ok (.istore_n 2, 1) := by decide +kernel
theorem dX7_why_6 : decode cX7_why 6 = .ok (.iload_n 2, 1) := by decide +kernel
theorem dX7_why_7 : decode cX7_why 7 = .ok (.ifCond .eq 5, 3) := by decide +kernel
theorem dX7_why_10 : decode cX7_why 10 = .ok (.iload_n 2, 1) := by decide +kernel
theorem dX7_why_11 : decode cX7_why 11 = .ok (.ireturn, 1) := by decide +kernel
theorem dX7_why_12 : decode cX7_why 12 = .ok (.aload_n 0, 1) := by decide +kernel
theorem dX7_why_13 : decode cX7_why 13 = .ok (.getfield 58, 3) := by decide +kernel
theorem dX7_why_16 : decode cX7_why 16 = .ok (.aload_n 0, 1) := by decide +kernel
theorem dX7_why_17 : decode cX7_why 17 = .ok (.getfield 19, 3) := by decide +kernel
theorem dX7_why_20 : decode cX7_why 20 = .ok (.aload_n 0, 1) := by decide +kernel
theorem dX7_why_21 : decode cX7_why 21 = .ok (.getfield 36, 3) := by decide +kernel
theorem dX7_why_24 : decode cX7_why 24 = .ok (.iload_n 1, 1) := by decide +kernel
theorem dX7_why_25 : decode cX7_why 25 = .ok (.aaload, 1) := by decide +kernel
theorem dX7_why_26 : decode cX7_why 26 = .ok (.invokevirtual 176, 3) := by decide +kernel
theorem dX7_why_29 : decode cX7_why 29 = .ok (.aload_n 0, 1) := by decide +kernel
theorem dX7_why_30 : decode cX7_why 30 = .ok (.getfield 58, 3) := by decide +kernel
theorem dX7_why_33 : decode cX7_why 33 = .ok (.getfield 183, 3) := by decide +kernel
theorem dX7_why_36 : decode cX7_why 36 = .ok (.ireturn, 1) := by decide +kernel
set_option maxRecDepth 4000 in
theorem kX7_why (G : GT) {σ : St} {a1 : Int32} : ∀ (r : Int32) (σo : St) , fX7_why σ a1 = some (r, σo) → MCt G 4 yX7_why cX7_why 3 (some .int) [.ref (gad G 0), .int a1] σ (some (.int r)) σo := by
  intro r σo hF
  refine met_i (by decide) (Nat.le_of_ble_eq_true rfl) (fun X cx hE => ?_)
  have cx : Cx G X RX7 cX7_why 3 4 := cx
  unfold fX7_why at hF
  show WW G X 3 σ [(0, .ref (gad G 0)), (1, .int a1)] 0 []
  refine ww_aload_n cx dX7_why_0 rfl 0 rfl ?_
  refine ww_iload_n cx dX7_why_1 rfl 1 rfl ?_
  refine ww_V1_pi kv_X7_173 rfl cx sh_0 ⟨Nat.le_of_ble_eq_true rfl, Nat.le_of_ble_eq_true rfl⟩ (Nat.le_of_ble_eq_true rfl) dX7_why_2 (kX7_refusalOfSteps G) hF (fun r1 hF => ?_)
  refine ww_istore_n (ks := [0, 1, 2]) (lv' := fun v2 => [(2, .int v2), (0, .ref (gad G 0)), (1, .int a1)]) cx dX7_why_5 rfl (by decide) hF (fun _ => rfl) (fun v2 hF => ?_)
  refine ww_iload_n cx dX7_why_6 rfl 0 rfl ?_
  refine ww_if_eq cx dX7_why_7 (tgt := 12) rfl hF (fun hF => ?_) (fun hF => ?_)
  · refine ww_aload_n cx dX7_why_12 rfl 1 rfl ?_
    refine gf_X7_58 cx dX7_why_13 ?_
    refine ww_aload_n cx dX7_why_16 rfl 1 rfl ?_
    refine gf_X7_19 cx dX7_why_17 ?_
    refine ww_aload_n cx dX7_why_20 rfl 1 rfl ?_
    refine gf_X7_36 cx dX7_why_21 ?_
    refine ww_iload_n cx dX7_why_24 rfl 2 rfl ?_
    refine ww_aaldR cx dX7_why_25 hF (fun k3 hk3 hF => ?_)
    refine ww_V2_sv kv_X7_176 rfl cx sh_53 ⟨Nat.le_of_ble_eq_true rfl, Nat.le_of_ble_eq_true rfl⟩ (Nat.le_of_ble_eq_true rfl) dX7_why_26 (kX3_read G (isTab_3) (hk3)) hF (fun σ4 hF => ?_)
    refine ww_aload_n cx dX7_why_29 rfl 1 rfl ?_
    refine gf_X7_58 cx dX7_why_30 ?_
    refine gf_X7_183 cx dX7_why_33 ?_
    exact ww_ris hE dX7_why_36 hF
  · refine ww_iload_n cx dX7_why_10 rfl 0 rfl ?_
    exact ww_ris hE dX7_why_11 hF
theorem dX7_worthWithLemma_0 : decode cX7_worthWithLemma 0 = .ok (.aload_n 0, 1) := by decide +kernel
theorem dX7_worthWithLemma_1 : decode cX7_worthWithLemma 1 = .ok (.getfield 19, 3) := by decide +kernel
theorem dX7_worthWithLemma_4 : decode cX7_worthWithLemma 4 = .ok (.getfield 109, 3) := by decide +kernel
theorem dX7_worthWithLemma_7 : decode cX7_worthWithLemma 7 = .ok (.iconst 1, 1) := by decide +kernel
theorem dX7_worthWithLemma_8 : decode cX7_worthWithLemma 8 = .ok (.iload_n 2, 1) := by decide +kernel
theorem dX7_worthWithLemma_9 : decode cX7_worthWithLemma 9 = .ok (.ishl, 1) := by decide +kernel
theorem dX7_worthWithLemma_10 : decode cX7_worthWithLemma 10 = .ok (.ior, 1) := by decide +kernel
theorem dX7_worthWithLemma_11 : decode cX7_worthWithLemma 11 = .ok (.istore_n 3, 1) := by decide +kernel
theorem dX7_worthWithLemma_12 : decode cX7_worthWithLemma 12 = .ok (.aload_n 0, 1) := by decide +kernel
theorem dX7_worthWithLemma_13 : decode cX7_worthWithLemma 13 = .ok (.getfield 19, 3) := by decide +kernel
theorem dX7_worthWithLemma_16 : decode cX7_worthWithLemma 16 = .ok (.getfield 143, 3) := by decide +kernel
theorem dX7_worthWithLemma_19 : decode cX7_worthWithLemma 19 = .ok (.iload_n 1, 1) := by decide +kernel
theorem dX7_worthWithLemma_20 : decode cX7_worthWithLemma 20 = .ok (.iaload, 1) := by decide +kernel
theorem dX7_worthWithLemma_21 : decode cX7_worthWithLemma 21 = .ok (.istore 4, 2) := by decide +kernel
theorem dX7_worthWithLemma_23 : decode cX7_worthWithLemma 23 = .ok (.aload_n 0, 1) := by decide +kernel
theorem dX7_worthWithLemma_24 : decode cX7_worthWithLemma 24 = .ok (.getfield 52, 3) := by decide +kernel
theorem dX7_worthWithLemma_27 : decode cX7_worthWithLemma 27 = .ok (.aload_n 0, 1) := by decide +kernel
theorem dX7_worthWithLemma_28 : decode cX7_worthWithLemma 28 = .ok (.getfield 19, 3) := by decide +kernel
theorem dX7_worthWithLemma_31 : decode cX7_worthWithLemma 31 = .ok (.iload 4, 2) := by decide +kernel
theorem dX7_worthWithLemma_33 : decode cX7_worthWithLemma 33 = .ok (.iload_n 3, 1) := by decide +kernel
theorem dX7_worthWithLemma_34 : decode cX7_worthWithLemma 34 = .ok (.invokevirtual 399, 3) := by decide +kernel
theorem dX7_worthWithLemma_37 : decode cX7_worthWithLemma 37 = .ok (.aload_n 0, 1) := by decide +kernel
theorem dX7_worthWithLemma_38 : decode cX7_worthWithLemma 38 = .ok (.getfield 52, 3) := by decide +kernel
theorem dX7_worthWithLemma_41 : decode cX7_worthWithLemma 41 = .ok (.aload_n 0, 1) := by decide +kernel
theorem dX7_worthWithLemma_42 : decode cX7_worthWithLemma 42 = .ok (.getfield 19, 3) := by decide +kernel
theorem dX7_worthWithLemma_45 : decode cX7_worthWithLemma 45 = .ok (.iload 4, 2) := by decide +kernel
theorem dX7_worthWithLemma_47 : decode cX7_worthWithLemma 47 = .ok (.aload_n 0, 1) := by decide +kernel
theorem dX7_worthWithLemma_48 : decode cX7_worthWithLemma 48 = .ok (.getfield 19, 3) := by decide +kernel
theorem dX7_worthWithLemma_51 : decode cX7_worthWithLemma 51 = .ok (.iload_n 1, 1) := by decide +kernel
theorem dX7_worthWithLemma_52 : decode cX7_worthWithLemma 52 = .ok (.invokevirtual 146, 3) := by decide +kernel
theorem dX7_worthWithLemma_55 : decode cX7_worthWithLemma 55 = .ok (.invokevirtual 403, 3) := by decide +kernel
theorem dX7_worthWithLemma_58 : decode cX7_worthWithLemma 58 = .ok (.istore 5, 2) := by decide +kernel
theorem dX7_worthWithLemma_60 : decode cX7_worthWithLemma 60 = .ok (.aload_n 0, 1) := by decide +kernel
theorem dX7_worthWithLemma_61 : decode cX7_worthWithLemma 61 = .ok (.getfield 19, 3) := by decide +kernel
theorem dX7_worthWithLemma_64 : decode cX7_worthWithLemma 64 = .ok (.aload_n 0, 1) := by decide +kernel
theorem dX7_worthWithLemma_65 : decode cX7_worthWithLemma 65 = .ok (.getfield 52, 3) := by decide +kernel
theorem dX7_worthWithLemma_68 : decode cX7_worthWithLemma 68 = .ok (.getfield 237, 3) := by decide +kernel
theorem dX7_worthWithLemma_71 : decode cX7_worthWithLemma 71 = .ok (.iload 5, 2) := by decide +kernel
theorem dX7_worthWithLemma_73 : decode cX7_worthWithLemma 73 = .ok (.iaload, 1) := by decide +kernel
theorem dX7_worthWithLemma_74 : decode cX7_worthWithLemma 74 = .ok (.iload_n 3, 1) := by decide +kernel
theorem dX7_worthWithLemma_75 : decode cX7_worthWithLemma 75 = .ok (.iconst (-1), 1) := by decide +kernel
theorem dX7_worthWithLemma_76 : decode cX7_worthWithLemma 76 = .ok (.ixor, 1) := by decide +kernel
theorem dX7_worthWithLemma_77 : decode cX7_worthWithLemma 77 = .ok (.iand, 1) := by decide +kernel
theorem dX7_worthWithLemma_78 : decode cX7_worthWithLemma 78 = .ok (.invokevirtual 292, 3) := by decide +kernel
theorem dX7_worthWithLemma_81 : decode cX7_worthWithLemma 81 = .ok (.ireturn, 1) := by decide +kernel
set_option maxRecDepth 4000 in
theorem kX7_worthWithLemma (G : GT) {σ : St} {a1 : Int32} {a2 : Int32} : ∀ (r : Int32) (σo : St) , fX7_worthWithLemma σ a1 a2 = some (r, σo) → MCt G 4 yX7_worthWithLemma cX7_worthWithLemma 6 (some .int) [.ref (gad G 0), .int a1, .int a2] σ (some (.int r)) σo := by
  intro r σo hF
  refine met_i (by decide) (Nat.le_of_ble_eq_true rfl) (fun X cx hE => ?_)
  have cx : Cx G X RX7 cX7_worthWithLemma 6 4 := cx
  unfold fX7_worthWithLemma at hF
  show WW G X 6 σ [(0, .ref (gad G 0)), (1, .int a1), (2, .int a2)] 0 []
  refine ww_aload_n cx dX7_worthWithLemma_0 rfl 0 rfl ?_
  refine gf_X7_19 cx dX7_worthWithLemma_1 ?_
  refine gf_X7_109 cx (isTab_3) dX7_worthWithLemma_4 ?_
  refine ww_iconst cx dX7_worthWithLemma_7 ic_1 ?_
  refine ww_iload_n cx dX7_worthWithLemma_8 rfl 2 rfl ?_
  refine ww_ishl cx dX7_worthWithLemma_9 ?_
  refine ww_ior cx dX7_worthWithLemma_10 ?_
  refine ww_istore_n (ks := [0, 1, 2]) (lv' := fun v1 => [(3, .int v1), (0, .ref (gad G 0)), (1, .int a1)]) cx dX7_worthWithLemma_11 rfl (by decide) hF (fun _ => rfl) (fun v1 hF => ?_)
  refine ww_aload_n cx dX7_worthWithLemma_12 rfl 1 rfl ?_
  refine gf_X7_19 cx dX7_worthWithLemma_13 ?_
  refine gf_X7_143 cx (isTab_3) dX7_worthWithLemma_16 ?_
  refine ww_iload_n cx dX7_worthWithLemma_19 rfl 2 rfl ?_
  refine ww_iald (N := 5) cx (ar_X6_13 isTab_3) dX7_worthWithLemma_20 hF (fun hF => ?_)
  refine ww_istore (ks := [0, 1, 2, 3]) (lv' := fun v2 => [(4, .int v2), (3, .int v1), (0, .ref (gad G 0)), (1, .int a1)]) cx dX7_worthWithLemma_21 (by decide) hF (fun _ => rfl) (fun v2 hF => ?_)
  refine ww_aload_n cx dX7_worthWithLemma_23 rfl 2 rfl ?_
  refine gf_X7_52 cx dX7_worthWithLemma_24 ?_
  refine ww_aload_n cx dX7_worthWithLemma_27 rfl 2 rfl ?_
  refine gf_X7_19 cx dX7_worthWithLemma_28 ?_
  refine ww_iload cx dX7_worthWithLemma_31 0 rfl ?_
  refine ww_iload_n cx dX7_worthWithLemma_33 rfl 1 rfl ?_
  refine ww_V3_sv kv_X7_399 rfl cx ((isShe_51).1) ⟨Nat.le_of_ble_eq_true rfl, Nat.le_of_ble_eq_true rfl⟩ (Nat.le_of_ble_eq_true rfl) dX7_worthWithLemma_34 (kX5_fillWithProofs G (isShe_51) (isTab_3)) hF (fun σ3 hF => ?_)
  refine ww_aload_n cx dX7_worthWithLemma_37 rfl 2 rfl ?_
  refine gf_X7_52 cx dX7_worthWithLemma_38 ?_
  refine ww_aload_n cx dX7_worthWithLemma_41 rfl 2 rfl ?_
  refine gf_X7_19 cx dX7_worthWithLemma_42 ?_
  refine ww_iload cx dX7_worthWithLemma_45 0 rfl ?_
  refine ww_aload_n cx dX7_worthWithLemma_47 rfl 2 rfl ?_
  refine gf_X7_19 cx dX7_worthWithLemma_48 ?_
  refine ww_iload_n cx dX7_worthWithLemma_51 rfl 3 rfl ?_
  refine ww_V1_pi kv_X7_146 rfl cx ((isTab_3).1) ⟨Nat.le_of_ble_eq_true rfl, Nat.le_of_ble_eq_true rfl⟩ (Nat.le_of_ble_eq_true rfl) dX7_worthWithLemma_52 (kX6_canDo G (isTab_3)) hF (fun r4 hF => ?_)
  refine ww_V3_pi kv_X7_403 rfl cx ((isShe_51).1) ⟨Nat.le_of_ble_eq_true rfl, Nat.le_of_ble_eq_true rfl⟩ (Nat.le_of_ble_eq_true rfl) dX7_worthWithLemma_55 (kX5_menuSet G (isShe_51) (isTab_3)) hF (fun r5 hF => ?_)
  refine ww_istore (ks := [0, 2, 3]) (lv' := fun v6 => [(5, .int v6), (3, .int v1), (0, .ref (gad G 0))]) cx dX7_worthWithLemma_58 (by decide) hF (fun _ => rfl) (fun v6 hF => ?_)
  refine ww_aload_n cx dX7_worthWithLemma_60 rfl 2 rfl ?_
  refine gf_X7_19 cx dX7_worthWithLemma_61 ?_
  refine ww_aload_n cx dX7_worthWithLemma_64 rfl 2 rfl ?_
  refine gf_X7_52 cx dX7_worthWithLemma_65 ?_
  refine gf_X7_237 cx (isShe_51) dX7_worthWithLemma_68 ?_
  refine ww_iload cx dX7_worthWithLemma_71 0 rfl ?_
  refine ww_iald (N := 4096) cx (ar_X5_0 isShe_51) dX7_worthWithLemma_73 hF (fun hF => ?_)
  refine ww_iload_n cx dX7_worthWithLemma_74 rfl 1 rfl ?_
  refine ww_iconst cx dX7_worthWithLemma_75 ic_m1 ?_
  refine ww_ixor cx dX7_worthWithLemma_76 ?_
  refine ww_iand cx dX7_worthWithLemma_77 ?_
  refine ww_V1_pi kv_X7_292 rfl cx ((isTab_3).1) ⟨Nat.le_of_ble_eq_true rfl, Nat.le_of_ble_eq_true rfl⟩ (Nat.le_of_ble_eq_true rfl) dX7_worthWithLemma_78 (kX6_worthOf G (isTab_3)) hF (fun r7 hF => ?_)
  exact ww_ris hE dX7_worthWithLemma_81 hF
theorem dX1_cook_0 : decode cX1_cook 0 = .ok (.aload_n 0, 1) := by decide +kernel
theorem dX1_cook_1 : decode cX1_cook 1 = .ok (.aload_n 1, 1) := by decide +kernel
theorem dX1_cook_2 : decode cX1_cook 2 = .ok (.invokevirtual 24, 3) := by decide +kernel
theorem dX1_cook_5 : decode cX1_cook 5 = .ok (.iconst 1, 1) := by decide +kernel
theorem dX1_cook_6 : decode cX1_cook 6 = .ok (.istore_n 3, 1) := by decide +kernel
theorem dX1_cook_7 : decode cX1_cook 7 = .ok (.iconst 0, 1) := by decide +kernel
theorem dX1_cook_8 : decode cX1_cook 8 = .ok (.istore 4, 2) := by decide +kernel
theorem dX1_cook_10 : decode cX1_cook 10 = .ok (.iload 4, 2) := by decide +kernel
theorem dX1_cook_12 : decode cX1_cook 12 = .ok (.iconst 1, 1) := by decide +kernel
theorem dX1_cook_13 : decode cX1_cook 13 = .ok (.iadd, 1) := by decide +kernel
theorem dX1_cook_14 : decode cX1_cook 14 = .ok (.aload_n 2, 1) := by decide +kernel
theorem dX1_cook_15 : decode cX1_cook 15 = .ok (.getfield 28, 3) := by decide +kernel
theorem dX1_cook_18 : decode cX1_cook 18 = .ok (.if_icmp .ge 37, 3) := by decide +kernel
theorem dX1_cook_21 : decode cX1_cook 21 = .ok (.iload_n 3, 1) := by decide +kernel
theorem dX1_cook_22 : decode cX1_cook 22 = .ok (.ifCond .eq 33, 3) := by decide +kernel
theorem dX1_cook_25 : decode cX1_cook 25 = .ok (.aload_n 0, 1) := by decide +kernel
theorem dX1_cook_26 : decode cX1_cook 26 = .ok (.aload_n 1, 1) := by decide +kernel
theorem dX1_cook_27 : decode cX1_cook 27 = .ok (.aload_n 2, 1) := by decide +kernel
theorem dX1_cook_28 : decode cX1_cook 28 = .ok (.getfield 34, 3) := by decide +kernel
theorem dX1_cook_31 : decode cX1_cook 31 = .ok (.iload 4, 2) := by decide +kernel
theorem dX1_cook_33 : decode cX1_cook 33 = .ok (.laload, 1) := by decide +kernel
theorem dX1_cook_34 : decode cX1_cook 34 = .ok (.l2i, 1) := by decide +kernel
theorem dX1_cook_35 : decode cX1_cook 35 = .ok (.aload_n 2, 1) := by decide +kernel
theorem dX1_cook_36 : decode cX1_cook 36 = .ok (.getfield 34, 3) := by decide +kernel
theorem dX1_cook_39 : decode cX1_cook 39 = .ok (.iload 4, 2) := by decide +kernel
theorem dX1_cook_41 : decode cX1_cook 41 = .ok (.iconst 1, 1) := by decide +kernel
theorem dX1_cook_42 : decode cX1_cook 42 = .ok (.iadd, 1) := by decide +kernel
theorem dX1_cook_43 : decode cX1_cook 43 = .ok (.laload, 1) := by decide +kernel
theorem dX1_cook_44 : decode cX1_cook 44 = .ok (.l2i, 1) := by decide +kernel
theorem dX1_cook_45 : decode cX1_cook 45 = .ok (.invokevirtual 38, 3) := by decide +kernel
theorem dX1_cook_48 : decode cX1_cook 48 = .ok (.istore_n 3, 1) := by decide +kernel
theorem dX1_cook_49 : decode cX1_cook 49 = .ok (.iinc 4 2, 3) := by decide +kernel
theorem dX1_cook_52 : decode cX1_cook 52 = .ok (.goto (-42), 3) := by decide +kernel
theorem dX1_cook_55 : decode cX1_cook 55 = .ok (.return_, 1) := by decide +kernel
set_option maxRecDepth 4000 in
theorem kX1_cook (G : GT) {σ : St} {t : Nat} {w : Nat} (ht : isTab t) (hw : isRow w) : ∀ (σo : St) , fX1_cook σ t w = some σo → MCt G 4 yX1_cook cX1_cook 5 (none) [.ref (gad G 55), .ref (gad G t), .ref (gad G w)] σ (none) σo := by
  intro σo hF
  refine met_v (by decide) (Nat.le_of_ble_eq_true rfl) (fun X cx hE => ?_)
  have cx : Cx G X RX1 cX1_cook 5 4 := cx
  have hl10 : ∀ n : Nat, ∀ (σ : St) (x3 : Int32) (x4 : Int32) , fX1_cook_l10 t w n σ x3 x4 = some σo → WW G X 5 σ [(0, .ref (gad G 55)), (1, .ref (gad G t)), (2, .ref (gad G w)), (3, .int x3), (4, .int x4)] 10 [] := by
    intro n
    induction n with
    | zero =>
      intro σ x3 x4 hF
      exact absurd hF (by intro z; cases z)
    | succ n ih =>
      intro σ x3 x4 hF
      have hk10 := ih
      have hF : fX1_cook_B10 t w (fX1_cook_l10 t w n) σ x3 x4 = some σo := hF
      unfold fX1_cook_B10 at hF
      refine ww_iload cx dX1_cook_10 4 rfl ?_
      refine ww_iconst cx dX1_cook_12 ic_1 ?_
      refine ww_iadd cx dX1_cook_13 ?_
      refine ww_aload_n cx dX1_cook_14 rfl 2 rfl ?_
      refine gf_X1_28 cx (hw) dX1_cook_15 ?_
      refine ww_icmp_ge cx dX1_cook_18 (tgt := 55) rfl hF (fun hF => ?_) (fun hF => ?_)
      · exact ww_rvs hE dX1_cook_55 hF
      · refine ww_iload_n cx dX1_cook_21 rfl 3 rfl ?_
        refine ww_if_eq cx dX1_cook_22 (tgt := 55) rfl hF (fun hF => ?_) (fun hF => ?_)
        · exact ww_rvs hE dX1_cook_55 hF
        · refine ww_aload_n cx dX1_cook_25 rfl 0 rfl ?_
          refine ww_aload_n cx dX1_cook_26 rfl 1 rfl ?_
          refine ww_aload_n cx dX1_cook_27 rfl 2 rfl ?_
          refine gf_X1_34 cx (hw) dX1_cook_28 ?_
          refine ww_iload cx dX1_cook_31 4 rfl ?_
          refine ww_lald (N := 60) cx (ar_X4_3 hw) dX1_cook_33 hF (fun hF => ?_)
          refine ww_l2i cx dX1_cook_34 ?_
          refine ww_aload_n cx dX1_cook_35 rfl 2 rfl ?_
          refine gf_X1_34 cx (hw) dX1_cook_36 ?_
          refine ww_iload cx dX1_cook_39 4 rfl ?_
          refine ww_iconst cx dX1_cook_41 ic_1 ?_
          refine ww_iadd cx dX1_cook_42 ?_
          refine ww_lald (N := 60) cx (ar_X4_3 hw) dX1_cook_43 hF (fun hF => ?_)
          refine ww_l2i cx dX1_cook_44 ?_
          refine ww_V3_si kv_X1_38 rfl cx sh_55 ⟨Nat.le_of_ble_eq_true rfl, Nat.le_of_ble_eq_true rfl⟩ (Nat.le_of_ble_eq_true rfl) dX1_cook_45 (kX1_cookPair G (ht)) hF (fun r1 σ2 hF => ?_)
          refine ww_istore_n (ks := [0, 1, 2, 3, 4]) (lv' := fun v3 => [(3, .int v3), (0, .ref (gad G 55)), (1, .ref (gad G t)), (2, .ref (gad G w)), (4, .int x4)]) cx dX1_cook_48 rfl (by decide) hF (fun _ => rfl) (fun v3 hF => ?_)
          refine ww_iinc (j := 4) (ks := [0, 1, 2, 3, 4]) (lv' := fun v4 => [(4, .int v4), (3, .int v3), (0, .ref (gad G 55)), (1, .ref (gad G t)), (2, .ref (gad G w))]) cx dX1_cook_49 (by decide) rfl ic_2 hF (fun _ => rfl) (fun v4 hF => ?_)
          refine ww_goto cx dX1_cook_52 (tgt := 10) rfl ?_
          exact ww_sub [2, 3, 4, 1, 0] rfl (hk10 _ _ _ hF)
  unfold fX1_cook at hF
  show WW G X 5 σ [(0, .ref (gad G 55)), (1, .ref (gad G t)), (2, .ref (gad G w))] 0 []
  refine ww_aload_n cx dX1_cook_0 rfl 0 rfl ?_
  refine ww_aload_n cx dX1_cook_1 rfl 1 rfl ?_
  refine ww_V1_sv kv_X1_24 rfl cx sh_55 ⟨Nat.le_of_ble_eq_true rfl, Nat.le_of_ble_eq_true rfl⟩ (Nat.le_of_ble_eq_true rfl) dX1_cook_2 (kX1_open G (ht)) hF (fun σ5 hF => ?_)
  refine ww_iconst cx dX1_cook_5 ic_1 ?_
  refine ww_istore_n (ks := [0, 1, 2, 3]) (lv' := fun v6 => [(3, .int v6), (0, .ref (gad G 55)), (1, .ref (gad G t)), (2, .ref (gad G w))]) cx dX1_cook_6 rfl (by decide) hF (fun _ => rfl) (fun v6 hF => ?_)
  refine ww_iconst cx dX1_cook_7 ic_0 ?_
  refine ww_istore (ks := [0, 1, 2, 3, 4]) (lv' := fun v7 => [(4, .int v7), (3, .int v6), (0, .ref (gad G 55)), (1, .ref (gad G t)), (2, .ref (gad G w))]) cx dX1_cook_8 (by decide) hF (fun _ => rfl) (fun v7 hF => ?_)
  exact ww_sub [2, 3, 4, 1, 0] rfl (hl10 FU _ _ _ hF)
theorem dX2_readSalt_0 : decode cX2_readSalt 0 = .ok (.aload_n 0, 1) := by decide +kernel
theorem dX2_readSalt_1 : decode cX2_readSalt 1 = .ok (.invokevirtual 33, 3) := by decide +kernel
theorem dX2_readSalt_4 : decode cX2_readSalt 4 = .ok (.aload_n 0, 1) := by decide +kernel
theorem dX2_readSalt_5 : decode cX2_readSalt 5 = .ok (.aload_n 1, 1) := by decide +kernel
theorem dX2_readSalt_6 : decode cX2_readSalt 6 = .ok (.getfield 102, 3) := by decide +kernel
theorem dX2_readSalt_9 : decode cX2_readSalt 9 = .ok (.invokevirtual 117, 3) := by decide +kernel
theorem dX2_readSalt_12 : decode cX2_readSalt 12 = .ok (.ifCond .eq 24, 3) := by decide +kernel
theorem dX2_readSalt_15 : decode cX2_readSalt 15 = .ok (.aload_n 1, 1) := by decide +kernel
theorem dX2_readSalt_16 : decode cX2_readSalt 16 = .ok (.getfield 120, 3) := by decide +kernel
theorem dX2_readSalt_19 : decode cX2_readSalt 19 = .ok (.aload_n 0, 1) := by decide +kernel
theorem dX2_readSalt_20 : decode cX2_readSalt 20 = .ok (.getfield 122, 3) := by decide +kernel
theorem dX2_readSalt_23 : decode cX2_readSalt 23 = .ok (.ishr, 1) := by decide +kernel
theorem dX2_readSalt_24 : decode cX2_readSalt 24 = .ok (.iconst 1, 1) := by decide +kernel
theorem dX2_readSalt_25 : decode cX2_readSalt 25 = .ok (.iand, 1) := by decide +kernel
theorem dX2_readSalt_26 : decode cX2_readSalt 26 = .ok (.iconst 1, 1) := by decide +kernel
theorem dX2_readSalt_27 : decode cX2_readSalt 27 = .ok (.if_icmp .ne 9, 3) := by decide +kernel
theorem dX2_readSalt_30 : decode cX2_readSalt 30 = .ok (.aload_n 0, 1) := by decide +kernel
theorem dX2_readSalt_31 : decode cX2_readSalt 31 = .ok (.iconst 2, 1) := by decide +kernel
theorem dX2_readSalt_32 : decode cX2_readSalt 32 = .ok (.invokevirtual 77, 3) := by decide +kernel
theorem dX2_readSalt_35 : decode cX2_readSalt 35 = .ok (.ireturn, 1) := by decide +kernel
theorem dX2_readSalt_36 : decode cX2_readSalt 36 = .ok (.aload_n 0, 1) := by decide +kernel
theorem dX2_readSalt_37 : decode cX2_readSalt 37 = .ok (.iconst 0, 1) := by decide +kernel
theorem dX2_readSalt_38 : decode cX2_readSalt 38 = .ok (.aload_n 1, 1) := by decide +kernel
theorem dX2_readSalt_39 : decode cX2_readSalt 39 = .ok (.getfield 102, 3) := by decide +kernel
theorem dX2_readSalt_42 : decode cX2_readSalt 42 = .ok (.iconst 1, 1) := by decide +kernel
theorem dX2_readSalt_43 : decode cX2_readSalt 43 = .ok (.isub, 1) := by decide +kernel
theorem dX2_readSalt_44 : decode cX2_readSalt 44 = .ok (.invokevirtual 125, 3) := by decide +kernel
theorem dX2_readSalt_47 : decode cX2_readSalt 47 = .ok (.istore_n 2, 1) := by decide +kernel
theorem dX2_readSalt_48 : decode cX2_readSalt 48 = .ok (.iload_n 2, 1) := by decide +kernel
theorem dX2_readSalt_49 : decode cX2_readSalt 49 = .ok (.iconst (-1), 1) := by decide +kernel
theorem dX2_readSalt_50 : decode cX2_readSalt 50 = .ok (.if_icmp .ne 5, 3) := by decide +kernel
theorem dX2_readSalt_53 : decode cX2_readSalt 53 = .ok (.iconst 0, 1) := by decide +kernel
theorem dX2_readSalt_54 : decode cX2_readSalt 54 = .ok (.ireturn, 1) := by decide +kernel
theorem dX2_readSalt_55 : decode cX2_readSalt 55 = .ok (.aload_n 1, 1) := by decide +kernel
theorem dX2_readSalt_56 : decode cX2_readSalt 56 = .ok (.dup, 1) := by decide +kernel
theorem dX2_readSalt_57 : decode cX2_readSalt 57 = .ok (.getfield 120, 3) := by decide +kernel
theorem dX2_readSalt_60 : decode cX2_readSalt 60 = .ok (.iconst 1, 1) := by decide +kernel
theorem dX2_readSalt_61 : decode cX2_readSalt 61 = .ok (.iload_n 2, 1) := by decide +kernel
theorem dX2_readSalt_62 : decode cX2_readSalt 62 = .ok (.ishl, 1) := by decide +kernel
theorem dX2_readSalt_63 : decode cX2_readSalt 63 = .ok (.ior, 1) := by decide +kernel
theorem dX2_readSalt_64 : decode cX2_readSalt 64 = .ok (.putfield 120, 3) := by decide +kernel
theorem dX2_readSalt_67 : decode cX2_readSalt 67 = .ok (.iconst 1, 1) := by decide +kernel
theorem dX2_readSalt_68 : decode cX2_readSalt 68 = .ok (.ireturn, 1) := by decide +kernel
set_option maxRecDepth 4000 in
theorem kX2_readSalt (G : GT) {σ : St} {t : Nat} (ht : isTab t) : ∀ (r : Int32) (σo : St) , fX2_readSalt σ t = some (r, σo) → MCt G 4 yX2_readSalt cX2_readSalt 3 (some .boolean) [.ref (gad G 1), .ref (gad G t)] σ (some (.int r)) σo := by
  intro r σo hF
  refine met_zz (by decide) (Nat.le_of_ble_eq_true rfl) (fun X cx hE => ?_)
  have cx : Cx G X RX2 cX2_readSalt 3 4 := cx
  have hb36 : ∀ (σ : St) , fX2_readSalt_b36 t σ = some (r, σo) → WW G X 3 σ [(0, .ref (gad G 1)), (1, .ref (gad G t))] 36 [] := by
    intro σ hF
    unfold fX2_readSalt_b36 at hF
    refine ww_aload_n cx dX2_readSalt_36 rfl 0 rfl ?_
    refine ww_iconst cx dX2_readSalt_37 ic_0 ?_
    refine ww_aload_n cx dX2_readSalt_38 rfl 1 rfl ?_
    refine gf_X2_102 cx (ht) dX2_readSalt_39 ?_
    refine ww_iconst cx dX2_readSalt_42 ic_1 ?_
    refine ww_isub cx dX2_readSalt_43 ?_
    refine ww_V2_si kv_X2_125 rfl cx sh_1 ⟨Nat.le_of_ble_eq_true rfl, Nat.le_of_ble_eq_true rfl⟩ (Nat.le_of_ble_eq_true rfl) dX2_readSalt_44 (kX2_readNumber G) hF (fun r1 σ2 hF => ?_)
    refine ww_istore_n (ks := [0, 2]) (lv' := fun v3 => [(2, .int v3), (1, .ref (gad G t))]) cx dX2_readSalt_47 rfl (by decide) hF (fun _ => rfl) (fun v3 hF => ?_)
    refine ww_iload_n cx dX2_readSalt_48 rfl 0 rfl ?_
    refine ww_iconst cx dX2_readSalt_49 ic_m1 ?_
    refine ww_icmp_ne cx dX2_readSalt_50 (tgt := 55) rfl hF (fun hF => ?_) (fun hF => ?_)
    · refine ww_aload_n cx dX2_readSalt_55 rfl 1 rfl ?_
      refine ww_dup cx dX2_readSalt_56 rfl ?_
      refine gf_X2_120 cx (ht) dX2_readSalt_57 ?_
      refine ww_iconst cx dX2_readSalt_60 ic_1 ?_
      refine ww_iload_n cx dX2_readSalt_61 rfl 0 rfl ?_
      refine ww_ishl cx dX2_readSalt_62 ?_
      refine ww_ior cx dX2_readSalt_63 ?_
      refine pf_X2_120 cx (ht) dX2_readSalt_64 hF (fun σ4 hF => ?_)
      refine ww_iconst cx dX2_readSalt_67 ic_1 ?_
      exact ww_rzs hE dX2_readSalt_68 hF
    · refine ww_iconst cx dX2_readSalt_53 ic_0 ?_
      exact ww_rzs hE dX2_readSalt_54 hF
  unfold fX2_readSalt at hF
  show WW G X 3 σ [(0, .ref (gad G 1)), (1, .ref (gad G t))] 0 []
  refine ww_aload_n cx dX2_readSalt_0 rfl 0 rfl ?_
  refine ww_V0_sv kv_X2_33 rfl cx sh_1 ⟨Nat.le_of_ble_eq_true rfl, Nat.le_of_ble_eq_true rfl⟩ (Nat.le_of_ble_eq_true rfl) dX2_readSalt_1 (kX2_advance G) hF (fun σ5 hF => ?_)
  refine ww_aload_n cx dX2_readSalt_4 rfl 0 rfl ?_
  refine ww_aload_n cx dX2_readSalt_5 rfl 1 rfl ?_
  refine gf_X2_102 cx (ht) dX2_readSalt_6 ?_
  refine ww_V1_pi kv_X2_117 rfl cx sh_1 ⟨Nat.le_of_ble_eq_true rfl, Nat.le_of_ble_eq_true rfl⟩ (Nat.le_of_ble_eq_true rfl) dX2_readSalt_9 (kX2_isNumberOf G) hF (fun r6 hF => ?_)
  refine ww_if_eq cx dX2_readSalt_12 (tgt := 36) rfl hF (fun hF => ?_) (fun hF => ?_)
  · exact hb36 _ hF
  · refine ww_aload_n cx dX2_readSalt_15 rfl 1 rfl ?_
    refine gf_X2_120 cx (ht) dX2_readSalt_16 ?_
    refine ww_aload_n cx dX2_readSalt_19 rfl 0 rfl ?_
    refine gf_X2_122 cx dX2_readSalt_20 ?_
    refine ww_ishr cx dX2_readSalt_23 ?_
    refine ww_iconst cx dX2_readSalt_24 ic_1 ?_
    refine ww_iand cx dX2_readSalt_25 ?_
    refine ww_iconst cx dX2_readSalt_26 ic_1 ?_
    refine ww_icmp_ne cx dX2_readSalt_27 (tgt := 36) rfl hF (fun hF => ?_) (fun hF => ?_)
    · exact hb36 _ hF
    · refine ww_aload_n cx dX2_readSalt_30 rfl 0 rfl ?_
      refine ww_iconst cx dX2_readSalt_31 ic_2 ?_
      refine ww_V1_si kv_X2_77 rfl cx sh_1 ⟨Nat.le_of_ble_eq_true rfl, Nat.le_of_ble_eq_true rfl⟩ (Nat.le_of_ble_eq_true rfl) dX2_readSalt_32 (kX2_fail G) hF (fun r7 σ8 hF => ?_)
      exact ww_rzs hE dX2_readSalt_35 hF
theorem dX2_readSet_0 : decode cX2_readSet 0 = .ok (.iconst 0, 1) := by decide +kernel
theorem dX2_readSet_1 : decode cX2_readSet 1 = .ok (.istore_n 3, 1) := by decide +kernel
theorem dX2_readSet_2 : decode cX2_readSet 2 = .ok (.iconst 0, 1) := by decide +kernel
theorem dX2_readSet_3 : decode cX2_readSet 3 = .ok (.istore 4, 2) := by decide +kernel
theorem dX2_readSet_5 : decode cX2_readSet 5 = .ok (.iload 4, 2) := by decide +kernel
theorem dX2_readSet_7 : decode cX2_readSet 7 = .ok (.sipush 1600, 3) := by decide +kernel
theorem dX2_readSet_10 : decode cX2_readSet 10 = .ok (.if_icmp .ge 78, 3) := by decide +kernel
theorem dX2_readSet_13 : decode cX2_readSet 13 = .ok (.iload 4, 2) := by decide +kernel
theorem dX2_readSet_15 : decode cX2_readSet 15 = .ok (.ifCond .eq 11, 3) := by decide +kernel
theorem dX2_readSet_18 : decode cX2_readSet 18 = .ok (.aload_n 0, 1) := by decide +kernel
theorem dX2_readSet_19 : decode cX2_readSet 19 = .ok (.getfield 36, 3) := by decide +kernel
theorem dX2_readSet_22 : decode cX2_readSet 22 = .ok (.iconst 2, 1) := by decide +kernel
theorem dX2_readSet_23 : decode cX2_readSet 23 = .ok (.if_icmp .ne 65, 3) := by decide +kernel
theorem dX2_readSet_26 : decode cX2_readSet 26 = .ok (.aload_n 0, 1) := by decide +kernel
theorem dX2_readSet_27 : decode cX2_readSet 27 = .ok (.iload_n 1, 1) := by decide +kernel
theorem dX2_readSet_28 : decode cX2_readSet 28 = .ok (.invokevirtual 117, 3) := by decide +kernel
theorem dX2_readSet_31 : decode cX2_readSet 31 = .ok (.ifCond .eq 26, 3) := by decide +kernel
theorem dX2_readSet_34 : decode cX2_readSet 34 = .ok (.iload_n 3, 1) := by decide +kernel
theorem dX2_readSet_35 : decode cX2_readSet 35 = .ok (.iconst 1, 1) := by decide +kernel
theorem dX2_readSet_36 : decode cX2_readSet 36 = .ok (.aload_n 0, 1) := by decide +kernel
theorem dX2_readSet_37 : decode cX2_readSet 37 = .ok (.getfield 122, 3) := by decide +kernel
theorem dX2_readSet_40 : decode cX2_readSet 40 = .ok (.ishl, 1) := by decide +kernel
theorem dX2_readSet_41 : decode cX2_readSet 41 = .ok (.ior, 1) := by decide +kernel
theorem dX2_readSet_42 : decode cX2_readSet 42 = .ok (.invokestatic 152, 3) := by decide +kernel
theorem dX2_readSet_45 : decode cX2_readSet 45 = .ok (.iload_n 2, 1) := by decide +kernel
theorem dX2_readSet_46 : decode cX2_readSet 46 = .ok (.if_icmp .le 11, 3) := by decide +kernel
theorem dX2_readSet_49 : decode cX2_readSet 49 = .ok (.aload_n 0, 1) := by decide +kernel
theorem dX2_readSet_50 : decode cX2_readSet 50 = .ok (.iconst 3, 1) := by decide +kernel
theorem dX2_readSet_51 : decode cX2_readSet 51 = .ok (.invokevirtual 77, 3) := by decide +kernel
theorem dX2_readSet_54 : decode cX2_readSet 54 = .ok (.pop, 1) := by decide +kernel
theorem dX2_readSet_55 : decode cX2_readSet 55 = .ok (.iconst (-1), 1) := by decide +kernel
theorem dX2_readSet_56 : decode cX2_readSet 56 = .ok (.ireturn, 1) := by decide +kernel
theorem dX2_readSet_57 : decode cX2_readSet 57 = .ok (.aload_n 0, 1) := by decide +kernel
theorem dX2_readSet_58 : decode cX2_readSet 58 = .ok (.iconst 0, 1) := by decide +kernel
theorem dX2_readSet_59 : decode cX2_readSet 59 = .ok (.iload_n 1, 1) := by decide +kernel
theorem dX2_readSet_60 : decode cX2_readSet 60 = .ok (.iconst 1, 1) := by decide +kernel
theorem dX2_readSet_61 : decode cX2_readSet 61 = .ok (.isub, 1) := by decide +kernel
theorem dX2_readSet_62 : decode cX2_readSet 62 = .ok (.invokevirtual 125, 3) := by decide +kernel
theorem dX2_readSet_65 : decode cX2_readSet 65 = .ok (.istore 5, 2) := by decide +kernel
theorem dX2_readSet_67 : decode cX2_readSet 67 = .ok (.iload 5, 2) := by decide +kernel
theorem dX2_readSet_69 : decode cX2_readSet 69 = .ok (.iconst (-1), 1) := by decide +kernel
theorem dX2_readSet_70 : decode cX2_readSet 70 = .ok (.if_icmp .ne 5, 3) := by decide +kernel
theorem dX2_readSet_73 : decode cX2_readSet 73 = .ok (.iconst (-1), 1) := by decide +kernel
theorem dX2_readSet_74 : decode cX2_readSet 74 = .ok (.ireturn, 1) := by decide +kernel
theorem dX2_readSet_75 : decode cX2_readSet 75 = .ok (.iload_n 3, 1) := by decide +kernel
theorem dX2_readSet_76 : decode cX2_readSet 76 = .ok (.iconst 1, 1) := by decide +kernel
theorem dX2_readSet_77 : decode cX2_readSet 77 = .ok (.iload 5, 2) := by decide +kernel
theorem dX2_readSet_79 : decode cX2_readSet 79 = .ok (.ishl, 1) := by decide +kernel
theorem dX2_readSet_80 : decode cX2_readSet 80 = .ok (.ior, 1) := by decide +kernel
theorem dX2_readSet_81 : decode cX2_readSet 81 = .ok (.istore_n 3, 1) := by decide +kernel
theorem dX2_readSet_82 : decode cX2_readSet 82 = .ok (.iinc 4 1, 3) := by decide +kernel
theorem dX2_readSet_85 : decode cX2_readSet 85 = .ok (.goto (-80), 3) := by decide +kernel
theorem dX2_readSet_88 : decode cX2_readSet 88 = .ok (.iload_n 3, 1) := by decide +kernel
theorem dX2_readSet_89 : decode cX2_readSet 89 = .ok (.ireturn, 1) := by decide +kernel
set_option maxRecDepth 4000 in
theorem kX2_readSet (G : GT) {σ : St} {a1 : Int32} {a2 : Int32} : ∀ (r : Int32) (σo : St) , fX2_readSet σ a1 a2 = some (r, σo) → MCt G 4 yX2_readSet cX2_readSet 6 (some .int) [.ref (gad G 1), .int a1, .int a2] σ (some (.int r)) σo := by
  intro r σo hF
  refine met_i (by decide) (Nat.le_of_ble_eq_true rfl) (fun X cx hE => ?_)
  have cx : Cx G X RX2 cX2_readSet 6 4 := cx
  have hb57 : ∀ (kr5 : St → Int32 → Int32 → Int32 → Int32 → Option (Int32 × St)), (∀ (σ : St) (x1 : Int32) (x2 : Int32) (x3 : Int32) (x4 : Int32) , kr5 σ x1 x2 x3 x4 = some (r, σo) → WW G X 6 σ [(0, .ref (gad G 1)), (1, .int x1), (2, .int x2), (3, .int x3), (4, .int x4)] 5 []) → ∀ (σ : St) (x1 : Int32) (x2 : Int32) (x3 : Int32) (x4 : Int32) , fX2_readSet_b57 kr5 σ x1 x2 x3 x4 = some (r, σo) → WW G X 6 σ [(0, .ref (gad G 1)), (1, .int x1), (2, .int x2), (3, .int x3), (4, .int x4)] 57 [] := by
    intro kr5 hk5
    intro σ x1 x2 x3 x4 hF
    unfold fX2_readSet_b57 at hF
    refine ww_aload_n cx dX2_readSet_57 rfl 0 rfl ?_
    refine ww_iconst cx dX2_readSet_58 ic_0 ?_
    refine ww_iload_n cx dX2_readSet_59 rfl 1 rfl ?_
    refine ww_iconst cx dX2_readSet_60 ic_1 ?_
    refine ww_isub cx dX2_readSet_61 ?_
    refine ww_V2_si kv_X2_125 rfl cx sh_1 ⟨Nat.le_of_ble_eq_true rfl, Nat.le_of_ble_eq_true rfl⟩ (Nat.le_of_ble_eq_true rfl) dX2_readSet_62 (kX2_readNumber G) hF (fun r1 σ2 hF => ?_)
    refine ww_istore (ks := [0, 1, 2, 3, 4, 5]) (lv' := fun v3 => [(5, .int v3), (0, .ref (gad G 1)), (1, .int x1), (2, .int x2), (3, .int x3), (4, .int x4)]) cx dX2_readSet_65 (by decide) hF (fun _ => rfl) (fun v3 hF => ?_)
    refine ww_iload cx dX2_readSet_67 0 rfl ?_
    refine ww_iconst cx dX2_readSet_69 ic_m1 ?_
    refine ww_icmp_ne cx dX2_readSet_70 (tgt := 75) rfl hF (fun hF => ?_) (fun hF => ?_)
    · refine ww_iload_n cx dX2_readSet_75 rfl 4 rfl ?_
      refine ww_iconst cx dX2_readSet_76 ic_1 ?_
      refine ww_iload cx dX2_readSet_77 0 rfl ?_
      refine ww_ishl cx dX2_readSet_79 ?_
      refine ww_ior cx dX2_readSet_80 ?_
      refine ww_istore_n (ks := [0, 2, 3, 4, 5]) (lv' := fun v4 => [(3, .int v4), (0, .ref (gad G 1)), (1, .int x1), (2, .int x2), (4, .int x4)]) cx dX2_readSet_81 rfl (by decide) hF (fun _ => rfl) (fun v4 hF => ?_)
      refine ww_iinc (j := 4) (ks := [0, 1, 2, 3, 4]) (lv' := fun v5 => [(4, .int v5), (3, .int v4), (0, .ref (gad G 1)), (1, .int x1), (2, .int x2)]) cx dX2_readSet_82 (by decide) rfl ic_1 hF (fun _ => rfl) (fun v5 hF => ?_)
      refine ww_goto cx dX2_readSet_85 (tgt := 5) rfl ?_
      exact ww_sub [2, 3, 4, 1, 0] rfl (hk5 _ _ _ _ _ hF)
    · refine ww_iconst cx dX2_readSet_73 ic_m1 ?_
      exact ww_ris hE dX2_readSet_74 hF
  have hb26 : ∀ (kr5 : St → Int32 → Int32 → Int32 → Int32 → Option (Int32 × St)), (∀ (σ : St) (x1 : Int32) (x2 : Int32) (x3 : Int32) (x4 : Int32) , kr5 σ x1 x2 x3 x4 = some (r, σo) → WW G X 6 σ [(0, .ref (gad G 1)), (1, .int x1), (2, .int x2), (3, .int x3), (4, .int x4)] 5 []) → ∀ (σ : St) (x1 : Int32) (x2 : Int32) (x3 : Int32) (x4 : Int32) , fX2_readSet_b26 kr5 σ x1 x2 x3 x4 = some (r, σo) → WW G X 6 σ [(0, .ref (gad G 1)), (1, .int x1), (2, .int x2), (3, .int x3), (4, .int x4)] 26 [] := by
    intro kr5 hk5
    intro σ x1 x2 x3 x4 hF
    unfold fX2_readSet_b26 at hF
    refine ww_aload_n cx dX2_readSet_26 rfl 0 rfl ?_
    refine ww_iload_n cx dX2_readSet_27 rfl 1 rfl ?_
    refine ww_V1_pi kv_X2_117 rfl cx sh_1 ⟨Nat.le_of_ble_eq_true rfl, Nat.le_of_ble_eq_true rfl⟩ (Nat.le_of_ble_eq_true rfl) dX2_readSet_28 (kX2_isNumberOf G) hF (fun r6 hF => ?_)
    refine ww_if_eq cx dX2_readSet_31 (tgt := 57) rfl hF (fun hF => ?_) (fun hF => ?_)
    · exact hb57 _ hk5 _ _ _ _ _ hF
    · refine ww_iload_n cx dX2_readSet_34 rfl 3 rfl ?_
      refine ww_iconst cx dX2_readSet_35 ic_1 ?_
      refine ww_aload_n cx dX2_readSet_36 rfl 0 rfl ?_
      refine gf_X2_122 cx dX2_readSet_37 ?_
      refine ww_ishl cx dX2_readSet_40 ?_
      refine ww_ior cx dX2_readSet_41 ?_
      refine ww_S1_pi kv_X2_152 cx ⟨Nat.le_of_ble_eq_true rfl, Nat.le_of_ble_eq_true rfl⟩ (Nat.le_of_ble_eq_true rfl) dX2_readSet_42 (kJ6_bitCount_0f7a4 G) hF (fun r7 hF => ?_)
      refine ww_iload_n cx dX2_readSet_45 rfl 2 rfl ?_
      refine ww_icmp_le cx dX2_readSet_46 (tgt := 57) rfl hF (fun hF => ?_) (fun hF => ?_)
      · exact hb57 _ hk5 _ _ _ _ _ hF
      · refine ww_aload_n cx dX2_readSet_49 rfl 0 rfl ?_
        refine ww_iconst cx dX2_readSet_50 ic_3 ?_
        refine ww_V1_si kv_X2_77 rfl cx sh_1 ⟨Nat.le_of_ble_eq_true rfl, Nat.le_of_ble_eq_true rfl⟩ (Nat.le_of_ble_eq_true rfl) dX2_readSet_51 (kX2_fail G) hF (fun r8 σ9 hF => ?_)
        refine ww_pop cx dX2_readSet_54 rfl ?_
        refine ww_iconst cx dX2_readSet_55 ic_m1 ?_
        exact ww_ris hE dX2_readSet_56 hF
  have hl5 : ∀ n : Nat, ∀ (σ : St) (x1 : Int32) (x2 : Int32) (x3 : Int32) (x4 : Int32) , fX2_readSet_l5 n σ x1 x2 x3 x4 = some (r, σo) → WW G X 6 σ [(0, .ref (gad G 1)), (1, .int x1), (2, .int x2), (3, .int x3), (4, .int x4)] 5 [] := by
    intro n
    induction n with
    | zero =>
      intro σ x1 x2 x3 x4 hF
      exact absurd hF (by intro z; cases z)
    | succ n ih =>
      intro σ x1 x2 x3 x4 hF
      have hk5 := ih
      have hF : fX2_readSet_B5 (fX2_readSet_l5 n) σ x1 x2 x3 x4 = some (r, σo) := hF
      unfold fX2_readSet_B5 at hF
      refine ww_iload cx dX2_readSet_5 4 rfl ?_
      refine ww_sipush cx dX2_readSet_7 sc_1600 ?_
      refine ww_icmp_ge cx dX2_readSet_10 (tgt := 88) rfl hF (fun hF => ?_) (fun hF => ?_)
      · refine ww_iload_n cx dX2_readSet_88 rfl 3 rfl ?_
        exact ww_ris hE dX2_readSet_89 hF
      · refine ww_iload cx dX2_readSet_13 4 rfl ?_
        refine ww_if_eq cx dX2_readSet_15 (tgt := 26) rfl hF (fun hF => ?_) (fun hF => ?_)
        · exact hb26 _ hk5 _ _ _ _ _ hF
        · refine ww_aload_n cx dX2_readSet_18 rfl 0 rfl ?_
          refine gf_X2_36 cx dX2_readSet_19 ?_
          refine ww_iconst cx dX2_readSet_22 ic_2 ?_
          refine ww_icmp_ne cx dX2_readSet_23 (tgt := 88) rfl hF (fun hF => ?_) (fun hF => ?_)
          · refine ww_iload_n cx dX2_readSet_88 rfl 3 rfl ?_
            exact ww_ris hE dX2_readSet_89 hF
          · exact hb26 _ hk5 _ _ _ _ _ hF
  unfold fX2_readSet at hF
  show WW G X 6 σ [(0, .ref (gad G 1)), (1, .int a1), (2, .int a2)] 0 []
  refine ww_iconst cx dX2_readSet_0 ic_0 ?_
  refine ww_istore_n (ks := [0, 1, 2, 3]) (lv' := fun v10 => [(3, .int v10), (0, .ref (gad G 1)), (1, .int a1), (2, .int a2)]) cx dX2_readSet_1 rfl (by decide) hF (fun _ => rfl) (fun v10 hF => ?_)
  refine ww_iconst cx dX2_readSet_2 ic_0 ?_
  refine ww_istore (ks := [0, 1, 2, 3, 4]) (lv' := fun v11 => [(4, .int v11), (3, .int v10), (0, .ref (gad G 1)), (1, .int a1), (2, .int a2)]) cx dX2_readSet_3 (by decide) hF (fun _ => rfl) (fun v11 hF => ?_)
  exact ww_sub [2, 3, 4, 1, 0] rfl (hl5 FU _ _ _ _ _ hF)
theorem dX8_borrowed_0 : decode cX8_borrowed 0 = .ok (.aload_n 0, 1) := by decide +kernel
theorem dX8_borrowed_1 : decode cX8_borrowed 1 = .ok (.iload_n 1, 1) := by decide +kernel
theorem dX8_borrowed_2 : decode cX8_borrowed 2 = .ok (.aload_n 0, 1) := by decide +kernel
theorem dX8_borrowed_3 : decode cX8_borrowed 3 = .ok (.iload_n 2, 1) := by decide +kernel
theorem dX8_borrowed_4 : decode cX8_borrowed 4 = .ok (.i2l, 1) := by decide +kernel
theorem dX8_borrowed_5 : decode cX8_borrowed 5 = .ok (.invokevirtual 285, 3) := by decide +kernel
theorem dX8_borrowed_8 : decode cX8_borrowed 8 = .ok (.invokevirtual 439, 3) := by decide +kernel
theorem dX8_borrowed_11 : decode cX8_borrowed 11 = .ok (.istore_n 3, 1) := by decide +kernel
theorem dX8_borrowed_12 : decode cX8_borrowed 12 = .ok (.iload_n 3, 1) := by decide +kernel
theorem dX8_borrowed_13 : decode cX8_borrowed 13 = .ok (.ifCond .ge 5, 3) := by decide +kernel
theorem dX8_borrowed_16 : decode cX8_borrowed 16 = .ok (.iload_n 3, 1) := by decide +kernel
theorem dX8_borrowed_17 : decode cX8_borrowed 17 = .ok (.ireturn, 1) := by decide +kernel
theorem dX8_borrowed_18 : decode cX8_borrowed 18 = .ok (.aload_n 0, 1) := by decide +kernel
theorem dX8_borrowed_19 : decode cX8_borrowed 19 = .ok (.aload_n 0, 1) := by decide +kernel
theorem dX8_borrowed_20 : decode cX8_borrowed 20 = .ok (.invokevirtual 257, 3) := by decide +kernel
theorem dX8_borrowed_23 : decode cX8_borrowed 23 = .ok (.aload_n 0, 1) := by decide +kernel
theorem dX8_borrowed_24 : decode cX8_borrowed 24 = .ok (.iload_n 2, 1) := by decide +kernel
theorem dX8_borrowed_25 : decode cX8_borrowed 25 = .ok (.iconst 1, 1) := by decide +kernel
theorem dX8_borrowed_26 : decode cX8_borrowed 26 = .ok (.invokevirtual 282, 3) := by decide +kernel
theorem dX8_borrowed_29 : decode cX8_borrowed 29 = .ok (.invokevirtual 307, 3) := by decide +kernel
theorem dX8_borrowed_32 : decode cX8_borrowed 32 = .ok (.istore 4, 2) := by decide +kernel
theorem dX8_borrowed_34 : decode cX8_borrowed 34 = .ok (.iconst 0, 1) := by decide +kernel
theorem dX8_borrowed_35 : decode cX8_borrowed 35 = .ok (.istore 5, 2) := by decide +kernel
theorem dX8_borrowed_37 : decode cX8_borrowed 37 = .ok (.iload 5, 2) := by decide +kernel
theorem dX8_borrowed_39 : decode cX8_borrowed 39 = .ok (.aload_n 0, 1) := by decide +kernel
theorem dX8_borrowed_40 : decode cX8_borrowed 40 = .ok (.getfield 61, 3) := by decide +kernel
theorem dX8_borrowed_43 : decode cX8_borrowed 43 = .ok (.iload_n 1, 1) := by decide +kernel
theorem dX8_borrowed_44 : decode cX8_borrowed 44 = .ok (.iaload, 1) := by decide +kernel
theorem dX8_borrowed_45 : decode cX8_borrowed 45 = .ok (.if_icmp .ge 34, 3) := by decide +kernel
theorem dX8_borrowed_48 : decode cX8_borrowed 48 = .ok (.iload 4, 2) := by decide +kernel
theorem dX8_borrowed_50 : decode cX8_borrowed 50 = .ok (.aload_n 0, 1) := by decide +kernel
theorem dX8_borrowed_51 : decode cX8_borrowed 51 = .ok (.iload_n 1, 1) := by decide +kernel
theorem dX8_borrowed_52 : decode cX8_borrowed 52 = .ok (.iload 5, 2) := by decide +kernel
theorem dX8_borrowed_54 : decode cX8_borrowed 54 = .ok (.invokevirtual 319, 3) := by decide +kernel
theorem dX8_borrowed_57 : decode cX8_borrowed 57 = .ok (.l2i, 1) := by decide +kernel
theorem dX8_borrowed_58 : decode cX8_borrowed 58 = .ok (.invokestatic 168, 3) := by decide +kernel
theorem dX8_borrowed_61 : decode cX8_borrowed 61 = .ok (.ifCond .ne 12, 3) := by decide +kernel
theorem dX8_borrowed_64 : decode cX8_borrowed 64 = .ok (.aload_n 0, 1) := by decide +kernel
theorem dX8_borrowed_65 : decode cX8_borrowed 65 = .ok (.iload_n 1, 1) := by decide +kernel
theorem dX8_borrowed_66 : decode cX8_borrowed 66 = .ok (.iload 5, 2) := by decide +kernel
theorem dX8_borrowed_68 : decode cX8_borrowed 68 = .ok (.invokevirtual 319, 3) := by decide +kernel
theorem dX8_borrowed_71 : decode cX8_borrowed 71 = .ok (.l2i, 1) := by decide +kernel
theorem dX8_borrowed_72 : decode cX8_borrowed 72 = .ok (.ireturn, 1) := by decide +kernel
theorem dX8_borrowed_73 : decode cX8_borrowed 73 = .ok (.iinc 5 1, 3) := by decide +kernel
theorem dX8_borrowed_76 : decode cX8_borrowed 76 = .ok (.goto (-39), 3) := by decide +kernel
theorem dX8_borrowed_79 : decode cX8_borrowed 79 = .ok (.iconst (-1), 1) := by decide +kernel
theorem dX8_borrowed_80 : decode cX8_borrowed 80 = .ok (.ireturn, 1) := by decide +kernel
set_option maxRecDepth 4000 in
theorem kX8_borrowed (G : GT) {σ : St} {a1 : Int32} {a2 : Int32} : ∀ (r : Int32) , fX8_borrowed σ a1 a2 = some r → MCt G 4 yX8_borrowed cX8_borrowed 6 (some .int) [.ref (gad G 62), .int a1, .int a2] σ (some (.int r)) σ := by
  intro r hF
  refine met_i (by decide) (Nat.le_of_ble_eq_true rfl) (fun X cx hE => ?_)
  have cx : Cx G X RX8 cX8_borrowed 6 4 := cx
  have hl37 : ∀ n : Nat, ∀ (x1 : Int32) (x4 : Int32) (x5 : Int32) , fX8_borrowed_l37 σ n x1 x4 x5 = some r → WW G X 6 σ [(0, .ref (gad G 62)), (1, .int x1), (4, .int x4), (5, .int x5)] 37 [] := by
    intro n
    induction n with
    | zero =>
      intro x1 x4 x5 hF
      exact absurd hF (by intro z; cases z)
    | succ n ih =>
      intro x1 x4 x5 hF
      have hk37 := ih
      have hF : fX8_borrowed_B37 σ (fX8_borrowed_l37 σ n) x1 x4 x5 = some r := hF
      unfold fX8_borrowed_B37 at hF
      refine ww_iload cx dX8_borrowed_37 3 rfl ?_
      refine ww_aload_n cx dX8_borrowed_39 rfl 0 rfl ?_
      refine gf_X8_61 cx dX8_borrowed_40 ?_
      refine ww_iload_n cx dX8_borrowed_43 rfl 1 rfl ?_
      refine ww_iald (N := 4) cx (sh_78) dX8_borrowed_44 hF (fun hF => ?_)
      refine ww_icmp_ge cx dX8_borrowed_45 (tgt := 79) rfl hF (fun hF => ?_) (fun hF => ?_)
      · refine ww_iconst cx dX8_borrowed_79 ic_m1 ?_
        exact ww_rip hE dX8_borrowed_80 hF
      · refine ww_iload cx dX8_borrowed_48 2 rfl ?_
        refine ww_aload_n cx dX8_borrowed_50 rfl 0 rfl ?_
        refine ww_iload_n cx dX8_borrowed_51 rfl 1 rfl ?_
        refine ww_iload cx dX8_borrowed_52 3 rfl ?_
        refine ww_V2_pl kv_X8_319 rfl cx sh_62 ⟨Nat.le_of_ble_eq_true rfl, Nat.le_of_ble_eq_true rfl⟩ (Nat.le_of_ble_eq_true rfl) dX8_borrowed_54 (kX8_numberAt G) hF (fun r1 hF => ?_)
        refine ww_l2i cx dX8_borrowed_57 ?_
        refine ww_S2_pi kv_X8_168 cx ⟨Nat.le_of_ble_eq_true rfl, Nat.le_of_ble_eq_true rfl⟩ (Nat.le_of_ble_eq_true rfl) dX8_borrowed_58 (kX8_bit G) hF (fun r2 hF => ?_)
        refine ww_if_ne cx dX8_borrowed_61 (tgt := 73) rfl hF (fun hF => ?_) (fun hF => ?_)
        · refine ww_iinc (j := 3) (ks := [0, 1, 2, 3]) (lv' := fun v3 => [(5, .int v3), (0, .ref (gad G 62)), (1, .int x1), (4, .int x4)]) cx dX8_borrowed_73 (by decide) rfl ic_1 hF (fun _ => rfl) (fun v3 hF => ?_)
          refine ww_goto cx dX8_borrowed_76 (tgt := 37) rfl ?_
          exact ww_sub [1, 2, 3, 0] rfl (hk37 _ _ _ hF)
        · refine ww_aload_n cx dX8_borrowed_64 rfl 0 rfl ?_
          refine ww_iload_n cx dX8_borrowed_65 rfl 1 rfl ?_
          refine ww_iload cx dX8_borrowed_66 3 rfl ?_
          refine ww_V2_pl kv_X8_319 rfl cx sh_62 ⟨Nat.le_of_ble_eq_true rfl, Nat.le_of_ble_eq_true rfl⟩ (Nat.le_of_ble_eq_true rfl) dX8_borrowed_68 (kX8_numberAt G) hF (fun r4 hF => ?_)
          refine ww_l2i cx dX8_borrowed_71 ?_
          exact ww_rip hE dX8_borrowed_72 hF
  unfold fX8_borrowed at hF
  show WW G X 6 σ [(0, .ref (gad G 62)), (1, .int a1), (2, .int a2)] 0 []
  refine ww_aload_n cx dX8_borrowed_0 rfl 0 rfl ?_
  refine ww_iload_n cx dX8_borrowed_1 rfl 1 rfl ?_
  refine ww_aload_n cx dX8_borrowed_2 rfl 0 rfl ?_
  refine ww_iload_n cx dX8_borrowed_3 rfl 2 rfl ?_
  refine ww_i2l cx dX8_borrowed_4 ?_
  refine ww_V1_pi kv_X8_285 rfl cx sh_62 ⟨Nat.le_of_ble_eq_true rfl, Nat.le_of_ble_eq_true rfl⟩ (Nat.le_of_ble_eq_true rfl) dX8_borrowed_5 (kX8_isGuest G) hF (fun r5 hF => ?_)
  refine ww_V2_pi kv_X8_439 rfl cx sh_62 ⟨Nat.le_of_ble_eq_true rfl, Nat.le_of_ble_eq_true rfl⟩ (Nat.le_of_ble_eq_true rfl) dX8_borrowed_8 (kX8_asksEaten G) hF (fun r6 hF => ?_)
  refine ww_istore_n (ks := [0, 1, 2, 3]) (lv' := fun v7 => [(3, .int v7), (0, .ref (gad G 62)), (1, .int a1), (2, .int a2)]) cx dX8_borrowed_11 rfl (by decide) hF (fun _ => rfl) (fun v7 hF => ?_)
  refine ww_iload_n cx dX8_borrowed_12 rfl 0 rfl ?_
  refine ww_if_ge cx dX8_borrowed_13 (tgt := 18) rfl hF (fun hF => ?_) (fun hF => ?_)
  · refine ww_aload_n cx dX8_borrowed_18 rfl 1 rfl ?_
    refine ww_aload_n cx dX8_borrowed_19 rfl 1 rfl ?_
    refine ww_V0_pi kv_X8_257 rfl cx sh_62 ⟨Nat.le_of_ble_eq_true rfl, Nat.le_of_ble_eq_true rfl⟩ (Nat.le_of_ble_eq_true rfl) dX8_borrowed_20 (kX8_saltNow G) hF (fun r8 hF => ?_)
    refine ww_aload_n cx dX8_borrowed_23 rfl 1 rfl ?_
    refine ww_iload_n cx dX8_borrowed_24 rfl 3 rfl ?_
    refine ww_iconst cx dX8_borrowed_25 ic_1 ?_
    refine ww_V2_pi kv_X8_282 rfl cx sh_62 ⟨Nat.le_of_ble_eq_true rfl, Nat.le_of_ble_eq_true rfl⟩ (Nat.le_of_ble_eq_true rfl) dX8_borrowed_26 (kX8_ofGuest G) hF (fun r9 hF => ?_)
    refine ww_V2_pi kv_X8_307 rfl cx sh_62 ⟨Nat.le_of_ble_eq_true rfl, Nat.le_of_ble_eq_true rfl⟩ (Nat.le_of_ble_eq_true rfl) dX8_borrowed_29 (kX8_provedBy G) hF (fun r10 hF => ?_)
    refine ww_istore (ks := [0, 2, 3]) (lv' := fun v11 => [(4, .int v11), (0, .ref (gad G 62)), (1, .int a1)]) cx dX8_borrowed_32 (by decide) hF (fun _ => rfl) (fun v11 hF => ?_)
    refine ww_iconst cx dX8_borrowed_34 ic_0 ?_
    refine ww_istore (ks := [0, 1, 2, 3]) (lv' := fun v12 => [(5, .int v12), (4, .int v11), (0, .ref (gad G 62)), (1, .int a1)]) cx dX8_borrowed_35 (by decide) hF (fun _ => rfl) (fun v12 hF => ?_)
    exact ww_sub [2, 3, 1, 0] rfl (hl37 FU _ _ _ hF)
  · refine ww_iload_n cx dX8_borrowed_16 rfl 0 rfl ?_
    exact ww_rip hE dX8_borrowed_17 hF
theorem dX8_busy_0 : decode cX8_busy 0 = .ok (.aload_n 0, 1) := by decide +kernel
theorem dX8_busy_1 : decode cX8_busy 1 = .ok (.iload_n 1, 1) := by decide +kernel
theorem dX8_busy_2 : decode cX8_busy 2 = .ok (.aload_n 0, 1) := by decide +kernel
theorem dX8_busy_3 : decode cX8_busy 3 = .ok (.iload_n 2, 1) := by decide +kernel
theorem dX8_busy_4 : decode cX8_busy 4 = .ok (.i2l, 1) := by decide +kernel
theorem dX8_busy_5 : decode cX8_busy 5 = .ok (.invokevirtual 285, 3) := by decide +kernel
theorem dX8_busy_8 : decode cX8_busy 8 = .ok (.ifCond .eq 17, 3) := by decide +kernel
theorem dX8_busy_11 : decode cX8_busy 11 = .ok (.iload_n 3, 1) := by decide +kernel
theorem dX8_busy_12 : decode cX8_busy 12 = .ok (.i2l, 1) := by decide +kernel
theorem dX8_busy_13 : decode cX8_busy 13 = .ok (.lconst 0, 1) := by decide +kernel
theorem dX8_busy_14 : decode cX8_busy 14 = .ok (.lconst 1, 1) := by decide +kernel
theorem dX8_busy_15 : decode cX8_busy 15 = .ok (.invokestatic 83, 3) := by decide +kernel
theorem dX8_busy_18 : decode cX8_busy 18 = .ok (.ifCond .eq 7, 3) := by decide +kernel
theorem dX8_busy_21 : decode cX8_busy 21 = .ok (.iconst 1, 1) := by decide +kernel
theorem dX8_busy_22 : decode cX8_busy 22 = .ok (.goto 4, 3) := by decide +kernel
theorem dX8_busy_25 : decode cX8_busy 25 = .ok (.iconst 0, 1) := by decide +kernel
theorem dX8_busy_26 : decode cX8_busy 26 = .ok (.invokevirtual 409, 3) := by decide +kernel
theorem dX8_busy_29 : decode cX8_busy 29 = .ok (.istore 4, 2) := by decide +kernel
theorem dX8_busy_31 : decode cX8_busy 31 = .ok (.iload 4, 2) := by decide +kernel
theorem dX8_busy_33 : decode cX8_busy 33 = .ok (.ifCond .ge 6, 3) := by decide +kernel
theorem dX8_busy_36 : decode cX8_busy 36 = .ok (.iload 4, 2) := by decide +kernel
theorem dX8_busy_38 : decode cX8_busy 38 = .ok (.ireturn, 1) := by decide +kernel
theorem dX8_busy_39 : decode cX8_busy 39 = .ok (.aload_n 0, 1) := by decide +kernel
theorem dX8_busy_40 : decode cX8_busy 40 = .ok (.iload_n 1, 1) := by decide +kernel
theorem dX8_busy_41 : decode cX8_busy 41 = .ok (.invokevirtual 412, 3) := by decide +kernel
theorem dX8_busy_44 : decode cX8_busy 44 = .ok (.iload_n 3, 1) := by decide +kernel
theorem dX8_busy_45 : decode cX8_busy 45 = .ok (.ifCond .ne 12, 3) := by decide +kernel
theorem dX8_busy_48 : decode cX8_busy 48 = .ok (.aload_n 0, 1) := by decide +kernel
theorem dX8_busy_49 : decode cX8_busy 49 = .ok (.getfield 55, 3) := by decide +kernel
theorem dX8_busy_52 : decode cX8_busy 52 = .ok (.iload_n 2, 1) := by decide +kernel
theorem dX8_busy_53 : decode cX8_busy 53 = .ok (.iaload, 1) := by decide +kernel
theorem dX8_busy_54 : decode cX8_busy 54 = .ok (.goto 16, 3) := by decide +kernel
theorem dX8_busy_57 : decode cX8_busy 57 = .ok (.aload_n 0, 1) := by decide +kernel
theorem dX8_busy_58 : decode cX8_busy 58 = .ok (.getfield 52, 3) := by decide +kernel
theorem dX8_busy_61 : decode cX8_busy 61 = .ok (.iload_n 2, 1) := by decide +kernel
theorem dX8_busy_62 : decode cX8_busy 62 = .ok (.iaload, 1) := by decide +kernel
theorem dX8_busy_63 : decode cX8_busy 63 = .ok (.aload_n 0, 1) := by decide +kernel
theorem dX8_busy_64 : decode cX8_busy 64 = .ok (.getfield 55, 3) := by decide +kernel
theorem dX8_busy_67 : decode cX8_busy 67 = .ok (.iload_n 2, 1) := by decide +kernel
theorem dX8_busy_68 : decode cX8_busy 68 = .ok (.iaload, 1) := by decide +kernel
theorem dX8_busy_69 : decode cX8_busy 69 = .ok (.isub, 1) := by decide +kernel
theorem dX8_busy_70 : decode cX8_busy 70 = .ok (.ireturn, 1) := by decide +kernel
set_option maxRecDepth 4000 in
theorem kX8_busy (G : GT) {σ : St} {a1 : Int32} {a2 : Int32} {a3 : Int32} : ∀ (r : Int32) (σo : St) , fX8_busy σ a1 a2 a3 = some (r, σo) → MCt G 4 yX8_busy cX8_busy 5 (some .int) [.ref (gad G 62), .int a1, .int a2, .int a3] σ (some (.int r)) σo := by
  intro r σo hF
  refine met_i (by decide) (Nat.le_of_ble_eq_true rfl) (fun X cx hE => ?_)
  have cx : Cx G X RX8 cX8_busy 5 4 := cx
  have hb26 : ∀ (σ : St) (x1 : Int32) (x2 : Int32) (x3 : Int32) (y1 : Int32) (y2 : Int32) , fX8_busy_b26 σ x1 x2 x3 y1 y2 = some (r, σo) → WW G X 5 σ [(0, .ref (gad G 62)), (1, .int x1), (2, .int x2), (3, .int x3)] 26 [.int y2, .int y1, .ref (gad G 62)] := by
    intro σ x1 x2 x3 y1 y2 hF
    unfold fX8_busy_b26 at hF
    refine ww_V2_pi kv_X8_409 rfl cx sh_62 ⟨Nat.le_of_ble_eq_true rfl, Nat.le_of_ble_eq_true rfl⟩ (Nat.le_of_ble_eq_true rfl) dX8_busy_26 (kX8_asksKitchen G) hF (fun r1 hF => ?_)
    refine ww_istore (ks := [0, 1, 2, 3, 4]) (lv' := fun v2 => [(4, .int v2), (0, .ref (gad G 62)), (1, .int x1), (2, .int x2), (3, .int x3)]) cx dX8_busy_29 (by decide) hF (fun _ => rfl) (fun v2 hF => ?_)
    refine ww_iload cx dX8_busy_31 0 rfl ?_
    refine ww_if_ge cx dX8_busy_33 (tgt := 39) rfl hF (fun hF => ?_) (fun hF => ?_)
    · refine ww_aload_n cx dX8_busy_39 rfl 1 rfl ?_
      refine ww_iload_n cx dX8_busy_40 rfl 2 rfl ?_
      refine ww_V1_sv kv_X8_412 rfl cx sh_62 ⟨Nat.le_of_ble_eq_true rfl, Nat.le_of_ble_eq_true rfl⟩ (Nat.le_of_ble_eq_true rfl) dX8_busy_41 (kX8_goKitchen G) hF (fun σ3 hF => ?_)
      refine ww_iload_n cx dX8_busy_44 rfl 4 rfl ?_
      refine ww_if_ne cx dX8_busy_45 (tgt := 57) rfl hF (fun hF => ?_) (fun hF => ?_)
      · refine ww_aload_n cx dX8_busy_57 rfl 1 rfl ?_
        refine gf_X8_52 cx dX8_busy_58 ?_
        refine ww_iload_n cx dX8_busy_61 rfl 3 rfl ?_
        refine ww_iald (N := 5) cx (sh_75) dX8_busy_62 hF (fun hF => ?_)
        refine ww_aload_n cx dX8_busy_63 rfl 1 rfl ?_
        refine gf_X8_55 cx dX8_busy_64 ?_
        refine ww_iload_n cx dX8_busy_67 rfl 3 rfl ?_
        refine ww_iald (N := 5) cx (sh_76) dX8_busy_68 hF (fun hF => ?_)
        refine ww_isub cx dX8_busy_69 ?_
        exact ww_ris hE dX8_busy_70 hF
      · refine ww_aload_n cx dX8_busy_48 rfl 1 rfl ?_
        refine gf_X8_55 cx dX8_busy_49 ?_
        refine ww_iload_n cx dX8_busy_52 rfl 3 rfl ?_
        refine ww_iald (N := 5) cx (sh_76) dX8_busy_53 hF (fun hF => ?_)
        refine ww_goto cx dX8_busy_54 (tgt := 70) rfl ?_
        exact ww_ris hE dX8_busy_70 hF
    · refine ww_iload cx dX8_busy_36 0 rfl ?_
      exact ww_ris hE dX8_busy_38 hF
  have hb25 : ∀ (σ : St) (x1 : Int32) (x2 : Int32) (x3 : Int32) (y1 : Int32) , fX8_busy_b25 σ x1 x2 x3 y1 = some (r, σo) → WW G X 5 σ [(0, .ref (gad G 62)), (1, .int x1), (2, .int x2), (3, .int x3)] 25 [.int y1, .ref (gad G 62)] := by
    intro σ x1 x2 x3 y1 hF
    unfold fX8_busy_b25 at hF
    refine ww_iconst cx dX8_busy_25 ic_0 ?_
    exact hb26 _ _ _ _ _ _ hF
  unfold fX8_busy at hF
  show WW G X 5 σ [(0, .ref (gad G 62)), (1, .int a1), (2, .int a2), (3, .int a3)] 0 []
  refine ww_aload_n cx dX8_busy_0 rfl 0 rfl ?_
  refine ww_iload_n cx dX8_busy_1 rfl 1 rfl ?_
  refine ww_aload_n cx dX8_busy_2 rfl 0 rfl ?_
  refine ww_iload_n cx dX8_busy_3 rfl 2 rfl ?_
  refine ww_i2l cx dX8_busy_4 ?_
  refine ww_V1_pi kv_X8_285 rfl cx sh_62 ⟨Nat.le_of_ble_eq_true rfl, Nat.le_of_ble_eq_true rfl⟩ (Nat.le_of_ble_eq_true rfl) dX8_busy_5 (kX8_isGuest G) hF (fun r4 hF => ?_)
  refine ww_if_eq cx dX8_busy_8 (tgt := 25) rfl hF (fun hF => ?_) (fun hF => ?_)
  · exact hb25 _ _ _ _ _ hF
  · refine ww_iload_n cx dX8_busy_11 rfl 3 rfl ?_
    refine ww_i2l cx dX8_busy_12 ?_
    refine ww_lconst cx dX8_busy_13 lc_0 ?_
    refine ww_lconst cx dX8_busy_14 lc_1 ?_
    refine ww_S3_pi kv_X8_83 cx ⟨Nat.le_of_ble_eq_true rfl, Nat.le_of_ble_eq_true rfl⟩ (Nat.le_of_ble_eq_true rfl) dX8_busy_15 (kX8_in G) hF (fun r5 hF => ?_)
    refine ww_if_eq cx dX8_busy_18 (tgt := 25) rfl hF (fun hF => ?_) (fun hF => ?_)
    · exact hb25 _ _ _ _ _ hF
    · refine ww_iconst cx dX8_busy_21 ic_1 ?_
      refine ww_goto cx dX8_busy_22 (tgt := 26) rfl ?_
      exact hb26 _ _ _ _ _ _ hF
theorem dX8_coreOf_0 : decode cX8_coreOf 0 = .ok (.aload_n 0, 1) := by decide +kernel
theorem dX8_coreOf_1 : decode cX8_coreOf 1 = .ok (.invokevirtual 257, 3) := by decide +kernel
theorem dX8_coreOf_4 : decode cX8_coreOf 4 = .ok (.istore_n 1, 1) := by decide +kernel
theorem dX8_coreOf_5 : decode cX8_coreOf 5 = .ok (.iconst (-1), 1) := by decide +kernel
theorem dX8_coreOf_6 : decode cX8_coreOf 6 = .ok (.istore_n 2, 1) := by decide +kernel
theorem dX8_coreOf_7 : decode cX8_coreOf 7 = .ok (.iconst 0, 1) := by decide +kernel
theorem dX8_coreOf_8 : decode cX8_coreOf 8 = .ok (.istore_n 3, 1) := by decide +kernel
theorem dX8_coreOf_9 : decode cX8_coreOf 9 = .ok (.iload_n 3, 1) := by decide +kernel
theorem dX8_coreOf_10 : decode cX8_coreOf 10 = .ok (.iload_n 1, 1) := by decide +kernel
theorem dX8_coreOf_11 : decode cX8_coreOf 11 = .ok (.if_icmp .gt 43, 3) := by decide +kernel
theorem dX8_coreOf_14 : decode cX8_coreOf 14 = .ok (.iload_n 3, 1) := by decide +kernel
theorem dX8_coreOf_15 : decode cX8_coreOf 15 = .ok (.iload_n 1, 1) := by decide +kernel
theorem dX8_coreOf_16 : decode cX8_coreOf 16 = .ok (.iconst (-1), 1) := by decide +kernel
theorem dX8_coreOf_17 : decode cX8_coreOf 17 = .ok (.ixor, 1) := by decide +kernel
theorem dX8_coreOf_18 : decode cX8_coreOf 18 = .ok (.iand, 1) := by decide +kernel
theorem dX8_coreOf_19 : decode cX8_coreOf 19 = .ok (.ifCond .ne 29, 3) := by decide +kernel
theorem dX8_coreOf_22 : decode cX8_coreOf 22 = .ok (.iload_n 2, 1) := by decide +kernel
theorem dX8_coreOf_23 : decode cX8_coreOf 23 = .ok (.iconst (-1), 1) := by decide +kernel
theorem dX8_coreOf_24 : decode cX8_coreOf 24 = .ok (.if_icmp .eq 14, 3) := by decide +kernel
theorem dX8_coreOf_27 : decode cX8_coreOf 27 = .ok (.iload_n 3, 1) := by decide +kernel
theorem dX8_coreOf_28 : decode cX8_coreOf 28 = .ok (.invokestatic 273, 3) := by decide +kernel
theorem dX8_coreOf_31 : decode cX8_coreOf 31 = .ok (.iload_n 2, 1) := by decide +kernel
theorem dX8_coreOf_32 : decode cX8_coreOf 32 = .ok (.invokestatic 273, 3) := by decide +kernel
theorem dX8_coreOf_35 : decode cX8_coreOf 35 = .ok (.if_icmp .ge 13, 3) := by decide +kernel
theorem dX8_coreOf_38 : decode cX8_coreOf 38 = .ok (.aload_n 0, 1) := by decide +kernel
theorem dX8_coreOf_39 : decode cX8_coreOf 39 = .ok (.iload_n 3, 1) := by decide +kernel
theorem dX8_coreOf_40 : decode cX8_coreOf 40 = .ok (.invokevirtual 260, 3) := by decide +kernel
theorem dX8_coreOf_43 : decode cX8_coreOf 43 = .ok (.ifCond .ne 5, 3) := by decide +kernel
theorem dX8_coreOf_46 : decode cX8_coreOf 46 = .ok (.iload_n 3, 1) := by decide +kernel
theorem dX8_coreOf_47 : decode cX8_coreOf 47 = .ok (.istore_n 2, 1) := by decide +kernel
theorem dX8_coreOf_48 : decode cX8_coreOf 48 = .ok (.iinc 3 1, 3) := by decide +kernel
theorem dX8_coreOf_51 : decode cX8_coreOf 51 = .ok (.goto (-42), 3) := by decide +kernel
theorem dX8_coreOf_54 : decode cX8_coreOf 54 = .ok (.iload_n 2, 1) := by decide +kernel
theorem dX8_coreOf_55 : decode cX8_coreOf 55 = .ok (.ireturn, 1) := by decide +kernel
set_option maxRecDepth 4000 in
theorem kX8_coreOf (G : GT) {σ : St} : ∀ (r : Int32) , fX8_coreOf σ = some r → MCt G 4 yX8_coreOf cX8_coreOf 4 (some .int) [.ref (gad G 62)] σ (some (.int r)) σ := by
  intro r hF
  refine met_i (by decide) (Nat.le_of_ble_eq_true rfl) (fun X cx hE => ?_)
  have cx : Cx G X RX8 cX8_coreOf 4 4 := cx
  have hb38 : ∀ (kr9 : Int32 → Int32 → Int32 → Option (Int32)), (∀ (x1 : Int32) (x2 : Int32) (x3 : Int32) , kr9 x1 x2 x3 = some r → WW G X 4 σ [(0, .ref (gad G 62)), (1, .int x1), (2, .int x2), (3, .int x3)] 9 []) → ∀ (x1 : Int32) (x2 : Int32) (x3 : Int32) , fX8_coreOf_b38 σ kr9 x1 x2 x3 = some r → WW G X 4 σ [(0, .ref (gad G 62)), (1, .int x1), (2, .int x2), (3, .int x3)] 38 [] := by
    intro kr9 hk9
    intro x1 x2 x3 hF
    unfold fX8_coreOf_b38 at hF
    refine ww_aload_n cx dX8_coreOf_38 rfl 0 rfl ?_
    refine ww_iload_n cx dX8_coreOf_39 rfl 3 rfl ?_
    refine ww_V1_pi kv_X8_260 rfl cx sh_62 ⟨Nat.le_of_ble_eq_true rfl, Nat.le_of_ble_eq_true rfl⟩ (Nat.le_of_ble_eq_true rfl) dX8_coreOf_40 (kX8_saltedBy G) hF (fun r1 hF => ?_)
    refine ww_if_ne cx dX8_coreOf_43 (tgt := 48) rfl hF (fun hF => ?_) (fun hF => ?_)
    · refine ww_iinc (j := 3) (ks := [0, 1, 2, 3]) (lv' := fun v2 => [(3, .int v2), (0, .ref (gad G 62)), (1, .int x1), (2, .int x2)]) cx dX8_coreOf_48 (by decide) rfl ic_1 hF (fun _ => rfl) (fun v2 hF => ?_)
      refine ww_goto cx dX8_coreOf_51 (tgt := 9) rfl ?_
      exact ww_sub [1, 2, 3, 0] rfl (hk9 _ _ _ hF)
    · refine ww_iload_n cx dX8_coreOf_46 rfl 3 rfl ?_
      refine ww_istore_n (ks := [0, 1, 2, 3]) (lv' := fun v3 => [(2, .int v3), (0, .ref (gad G 62)), (1, .int x1), (3, .int x3)]) cx dX8_coreOf_47 rfl (by decide) hF (fun _ => rfl) (fun v3 hF => ?_)
      refine ww_iinc (j := 3) (ks := [0, 1, 2, 3]) (lv' := fun v4 => [(3, .int v4), (2, .int v3), (0, .ref (gad G 62)), (1, .int x1)]) cx dX8_coreOf_48 (by decide) rfl ic_1 hF (fun _ => rfl) (fun v4 hF => ?_)
      refine ww_goto cx dX8_coreOf_51 (tgt := 9) rfl ?_
      exact ww_sub [2, 3, 1, 0] rfl (hk9 _ _ _ hF)
  have hl9 : ∀ n : Nat, ∀ (x1 : Int32) (x2 : Int32) (x3 : Int32) , fX8_coreOf_l9 σ n x1 x2 x3 = some r → WW G X 4 σ [(0, .ref (gad G 62)), (1, .int x1), (2, .int x2), (3, .int x3)] 9 [] := by
    intro n
    induction n with
    | zero =>
      intro x1 x2 x3 hF
      exact absurd hF (by intro z; cases z)
    | succ n ih =>
      intro x1 x2 x3 hF
      have hk9 := ih
      have hF : fX8_coreOf_B9 σ (fX8_coreOf_l9 σ n) x1 x2 x3 = some r := hF
      unfold fX8_coreOf_B9 at hF
      refine ww_iload_n cx dX8_coreOf_9 rfl 3 rfl ?_
      refine ww_iload_n cx dX8_coreOf_10 rfl 1 rfl ?_
      refine ww_icmp_gt cx dX8_coreOf_11 (tgt := 54) rfl hF (fun hF => ?_) (fun hF => ?_)
      · refine ww_iload_n cx dX8_coreOf_54 rfl 2 rfl ?_
        exact ww_rip hE dX8_coreOf_55 hF
      · refine ww_iload_n cx dX8_coreOf_14 rfl 3 rfl ?_
        refine ww_iload_n cx dX8_coreOf_15 rfl 1 rfl ?_
        refine ww_iconst cx dX8_coreOf_16 ic_m1 ?_
        refine ww_ixor cx dX8_coreOf_17 ?_
        refine ww_iand cx dX8_coreOf_18 ?_
        refine ww_if_ne cx dX8_coreOf_19 (tgt := 48) rfl hF (fun hF => ?_) (fun hF => ?_)
        · refine ww_iinc (j := 3) (ks := [0, 1, 2, 3]) (lv' := fun v5 => [(3, .int v5), (0, .ref (gad G 62)), (1, .int x1), (2, .int x2)]) cx dX8_coreOf_48 (by decide) rfl ic_1 hF (fun _ => rfl) (fun v5 hF => ?_)
          refine ww_goto cx dX8_coreOf_51 (tgt := 9) rfl ?_
          exact ww_sub [1, 2, 3, 0] rfl (hk9 _ _ _ hF)
        · refine ww_iload_n cx dX8_coreOf_22 rfl 2 rfl ?_
          refine ww_iconst cx dX8_coreOf_23 ic_m1 ?_
          refine ww_icmp_eq cx dX8_coreOf_24 (tgt := 38) rfl hF (fun hF => ?_) (fun hF => ?_)
          · exact hb38 _ hk9 _ _ _ hF
          · refine ww_iload_n cx dX8_coreOf_27 rfl 3 rfl ?_
            refine ww_S1_pi kv_X8_273 cx ⟨Nat.le_of_ble_eq_true rfl, Nat.le_of_ble_eq_true rfl⟩ (Nat.le_of_ble_eq_true rfl) dX8_coreOf_28 (kX8_bits G) hF (fun r6 hF => ?_)
            refine ww_iload_n cx dX8_coreOf_31 rfl 2 rfl ?_
            refine ww_S1_pi kv_X8_273 cx ⟨Nat.le_of_ble_eq_true rfl, Nat.le_of_ble_eq_true rfl⟩ (Nat.le_of_ble_eq_true rfl) dX8_coreOf_32 (kX8_bits G) hF (fun r7 hF => ?_)
            refine ww_icmp_ge cx dX8_coreOf_35 (tgt := 48) rfl hF (fun hF => ?_) (fun hF => ?_)
            · refine ww_iinc (j := 3) (ks := [0, 1, 2, 3]) (lv' := fun v8 => [(3, .int v8), (0, .ref (gad G 62)), (1, .int x1), (2, .int x2)]) cx dX8_coreOf_48 (by decide) rfl ic_1 hF (fun _ => rfl) (fun v8 hF => ?_)
              refine ww_goto cx dX8_coreOf_51 (tgt := 9) rfl ?_
              exact ww_sub [1, 2, 3, 0] rfl (hk9 _ _ _ hF)
            · exact hb38 _ hk9 _ _ _ hF
  unfold fX8_coreOf at hF
  show WW G X 4 σ [(0, .ref (gad G 62))] 0 []
  refine ww_aload_n cx dX8_coreOf_0 rfl 0 rfl ?_
  refine ww_V0_pi kv_X8_257 rfl cx sh_62 ⟨Nat.le_of_ble_eq_true rfl, Nat.le_of_ble_eq_true rfl⟩ (Nat.le_of_ble_eq_true rfl) dX8_coreOf_1 (kX8_saltNow G) hF (fun r9 hF => ?_)
  refine ww_istore_n (ks := [0, 1]) (lv' := fun v10 => [(1, .int v10), (0, .ref (gad G 62))]) cx dX8_coreOf_4 rfl (by decide) hF (fun _ => rfl) (fun v10 hF => ?_)
  refine ww_iconst cx dX8_coreOf_5 ic_m1 ?_
  refine ww_istore_n (ks := [0, 1, 2]) (lv' := fun v11 => [(2, .int v11), (1, .int v10), (0, .ref (gad G 62))]) cx dX8_coreOf_6 rfl (by decide) hF (fun _ => rfl) (fun v11 hF => ?_)
  refine ww_iconst cx dX8_coreOf_7 ic_0 ?_
  refine ww_istore_n (ks := [0, 1, 2, 3]) (lv' := fun v12 => [(3, .int v12), (2, .int v11), (1, .int v10), (0, .ref (gad G 62))]) cx dX8_coreOf_8 rfl (by decide) hF (fun _ => rfl) (fun v12 hF => ?_)
  exact ww_sub [3, 2, 1, 0] rfl (hl9 FU _ _ _ hF)
theorem dX8_duel_0 : decode cX8_duel 0 = .ok (.aload_n 0, 1) := by decide +kernel
theorem dX8_duel_1 : decode cX8_duel 1 = .ok (.invokevirtual 291, 3) := by decide +kernel
theorem dX8_duel_4 : decode cX8_duel 4 = .ok (.ifCond .ne 6, 3) := by decide +kernel
theorem dX8_duel_7 : decode cX8_duel 7 = .ok (.bipush (-2), 2) := by decide +kernel
theorem dX8_duel_9 : decode cX8_duel 9 = .ok (.ireturn, 1) := by decide +kernel
theorem dX8_duel_10 : decode cX8_duel 10 = .ok (.aload_n 0, 1) := by decide +kernel
theorem dX8_duel_11 : decode cX8_duel 11 = .ok (.invokevirtual 418, 3) := by decide +kernel
theorem dX8_duel_14 : decode cX8_duel 14 = .ok (.aload_n 0, 1) := by decide +kernel
theorem dX8_duel_15 : decode cX8_duel 15 = .ok (.getfield 58, 3) := by decide +kernel
theorem dX8_duel_18 : decode cX8_duel 18 = .ok (.aload_n 0, 1) := by decide +kernel
theorem dX8_duel_19 : decode cX8_duel 19 = .ok (.invokevirtual 257, 3) := by decide +kernel
theorem dX8_duel_22 : decode cX8_duel 22 = .ok (.iaload, 1) := by decide +kernel
theorem dX8_duel_23 : decode cX8_duel 23 = .ok (.ifCond .le 7, 3) := by decide +kernel
theorem dX8_duel_26 : decode cX8_duel 26 = .ok (.iconst 1, 1) := by decide +kernel
theorem dX8_duel_27 : decode cX8_duel 27 = .ok (.goto 4, 3) := by decide +kernel
theorem dX8_duel_30 : decode cX8_duel 30 = .ok (.iconst 0, 1) := by decide +kernel
theorem dX8_duel_31 : decode cX8_duel 31 = .ok (.ireturn, 1) := by decide +kernel
set_option maxRecDepth 4000 in
theorem kX8_duel (G : GT) {σ : St} : ∀ (r : Int32) (σo : St) , fX8_duel σ = some (r, σo) → MCt G 4 yX8_duel cX8_duel 1 (some .int) [.ref (gad G 62)] σ (some (.int r)) σo := by
  intro r σo hF
  refine met_i (by decide) (Nat.le_of_ble_eq_true rfl) (fun X cx hE => ?_)
  have cx : Cx G X RX8 cX8_duel 1 4 := cx
  unfold fX8_duel at hF
  show WW G X 1 σ [(0, .ref (gad G 62))] 0 []
  refine ww_aload_n cx dX8_duel_0 rfl 0 rfl ?_
  refine ww_V0_pi kv_X8_291 rfl cx sh_62 ⟨Nat.le_of_ble_eq_true rfl, Nat.le_of_ble_eq_true rfl⟩ (Nat.le_of_ble_eq_true rfl) dX8_duel_1 (kX8_isTable G) hF (fun r1 hF => ?_)
  refine ww_if_ne cx dX8_duel_4 (tgt := 10) rfl hF (fun hF => ?_) (fun hF => ?_)
  · refine ww_aload_n cx dX8_duel_10 rfl 0 rfl ?_
    refine ww_V0_sv kv_X8_418 rfl cx sh_62 ⟨Nat.le_of_ble_eq_true rfl, Nat.le_of_ble_eq_true rfl⟩ (Nat.le_of_ble_eq_true rfl) dX8_duel_11 (kX8_fillDuel G) hF (fun σ2 hF => ?_)
    refine ww_aload_n cx dX8_duel_14 rfl 0 rfl ?_
    refine gf_X8_58 cx dX8_duel_15 ?_
    refine ww_aload_n cx dX8_duel_18 rfl 0 rfl ?_
    refine ww_V0_pi kv_X8_257 rfl cx sh_62 ⟨Nat.le_of_ble_eq_true rfl, Nat.le_of_ble_eq_true rfl⟩ (Nat.le_of_ble_eq_true rfl) dX8_duel_19 (kX8_saltNow G) hF (fun r3 hF => ?_)
    refine ww_iald (N := 4096) cx (sh_77) dX8_duel_22 hF (fun hF => ?_)
    refine ww_if_le cx dX8_duel_23 (tgt := 30) rfl hF (fun hF => ?_) (fun hF => ?_)
    · refine ww_iconst cx dX8_duel_30 ic_0 ?_
      exact ww_ris hE dX8_duel_31 hF
    · refine ww_iconst cx dX8_duel_26 ic_1 ?_
      refine ww_goto cx dX8_duel_27 (tgt := 31) rfl ?_
      exact ww_ris hE dX8_duel_31 hF
  · refine ww_bipush cx dX8_duel_7 bc_m2 ?_
    exact ww_ris hE dX8_duel_9 hF
theorem dX8_eats_0 : decode cX8_eats 0 = .ok (.aload_n 0, 1) := by decide +kernel
theorem dX8_eats_1 : decode cX8_eats 1 = .ok (.iload_n 1, 1) := by decide +kernel
theorem dX8_eats_2 : decode cX8_eats 2 = .ok (.aload_n 0, 1) := by decide +kernel
theorem dX8_eats_3 : decode cX8_eats 3 = .ok (.iload_n 2, 1) := by decide +kernel
theorem dX8_eats_4 : decode cX8_eats 4 = .ok (.i2l, 1) := by decide +kernel
theorem dX8_eats_5 : decode cX8_eats 5 = .ok (.invokevirtual 285, 3) := by decide +kernel
theorem dX8_eats_8 : decode cX8_eats 8 = .ok (.invokevirtual 329, 3) := by decide +kernel
theorem dX8_eats_11 : decode cX8_eats 11 = .ok (.istore_n 3, 1) := by decide +kernel
theorem dX8_eats_12 : decode cX8_eats 12 = .ok (.iload_n 3, 1) := by decide +kernel
theorem dX8_eats_13 : decode cX8_eats 13 = .ok (.ifCond .ge 18, 3) := by decide +kernel
theorem dX8_eats_16 : decode cX8_eats 16 = .ok (.iload_n 3, 1) := by decide +kernel
theorem dX8_eats_17 : decode cX8_eats 17 = .ok (.bipush (-6), 2) := by decide +kernel
theorem dX8_eats_19 : decode cX8_eats 19 = .ok (.if_icmp .ne 9, 3) := by decide +kernel
theorem dX8_eats_22 : decode cX8_eats 22 = .ok (.sipush (-600), 3) := by decide +kernel
theorem dX8_eats_25 : decode cX8_eats 25 = .ok (.goto 5, 3) := by decide +kernel
theorem dX8_eats_28 : decode cX8_eats 28 = .ok (.bipush (-100), 2) := by decide +kernel
theorem dX8_eats_30 : decode cX8_eats 30 = .ok (.ireturn, 1) := by decide +kernel
theorem dX8_eats_31 : decode cX8_eats 31 = .ok (.aload_n 0, 1) := by decide +kernel
theorem dX8_eats_32 : decode cX8_eats 32 = .ok (.invokevirtual 257, 3) := by decide +kernel
theorem dX8_eats_35 : decode cX8_eats 35 = .ok (.istore 4, 2) := by decide +kernel
theorem dX8_eats_37 : decode cX8_eats 37 = .ok (.iconst 0, 1) := by decide +kernel
theorem dX8_eats_38 : decode cX8_eats 38 = .ok (.istore 5, 2) := by decide +kernel
theorem dX8_eats_40 : decode cX8_eats 40 = .ok (.aload_n 0, 1) := by decide +kernel
theorem dX8_eats_41 : decode cX8_eats 41 = .ok (.iload_n 2, 1) := by decide +kernel
theorem dX8_eats_42 : decode cX8_eats 42 = .ok (.invokevirtual 288, 3) := by decide +kernel
theorem dX8_eats_45 : decode cX8_eats 45 = .ok (.istore 6, 2) := by decide +kernel
theorem dX8_eats_47 : decode cX8_eats 47 = .ok (.iconst 0, 1) := by decide +kernel
theorem dX8_eats_48 : decode cX8_eats 48 = .ok (.istore 7, 2) := by decide +kernel
theorem dX8_eats_50 : decode cX8_eats 50 = .ok (.iload 7, 2) := by decide +kernel
theorem dX8_eats_52 : decode cX8_eats 52 = .ok (.aload_n 0, 1) := by decide +kernel
theorem dX8_eats_53 : decode cX8_eats 53 = .ok (.getfield 61, 3) := by decide +kernel
theorem dX8_eats_56 : decode cX8_eats 56 = .ok (.iload_n 1, 1) := by decide +kernel
theorem dX8_eats_57 : decode cX8_eats 57 = .ok (.iaload, 1) := by decide +kernel
theorem dX8_eats_58 : decode cX8_eats 58 = .ok (.if_icmp .ge 86, 3) := by decide +kernel
theorem dX8_eats_61 : decode cX8_eats 61 = .ok (.aload_n 0, 1) := by decide +kernel
theorem dX8_eats_62 : decode cX8_eats 62 = .ok (.iload_n 1, 1) := by decide +kernel
theorem dX8_eats_63 : decode cX8_eats 63 = .ok (.iload 7, 2) := by decide +kernel
theorem dX8_eats_65 : decode cX8_eats 65 = .ok (.invokevirtual 319, 3) := by decide +kernel
theorem dX8_eats_68 : decode cX8_eats 68 = .ok (.l2i, 1) := by decide +kernel
theorem dX8_eats_69 : decode cX8_eats 69 = .ok (.istore 8, 2) := by decide +kernel
theorem dX8_eats_71 : decode cX8_eats 71 = .ok (.aload_n 0, 1) := by decide +kernel
theorem dX8_eats_72 : decode cX8_eats 72 = .ok (.iload 8, 2) := by decide +kernel
theorem dX8_eats_74 : decode cX8_eats 74 = .ok (.iload 4, 2) := by decide +kernel
theorem dX8_eats_76 : decode cX8_eats 76 = .ok (.invokevirtual 300, 3) := by decide +kernel
theorem dX8_eats_79 : decode cX8_eats 79 = .ok (.ifCond .eq 22, 3) := by decide +kernel
theorem dX8_eats_82 : decode cX8_eats 82 = .ok (.aload_n 0, 1) := by decide +kernel
theorem dX8_eats_83 : decode cX8_eats 83 = .ok (.iload_n 2, 1) := by decide +kernel
theorem dX8_eats_84 : decode cX8_eats 84 = .ok (.iconst 1, 1) := by decide +kernel
theorem dX8_eats_85 : decode cX8_eats 85 = .ok (.invokevirtual 282, 3) := by decide +kernel
theorem dX8_eats_88 : decode cX8_eats 88 = .ok (.iload 8, 2) := by decide +kernel
theorem dX8_eats_90 : decode cX8_eats 90 = .ok (.invokestatic 168, 3) := by decide +kernel
theorem dX8_eats_93 : decode cX8_eats 93 = .ok (.ifCond .eq 8, 3) := by decide +kernel
theorem dX8_eats_96 : decode cX8_eats 96 = .ok (.iload 6, 2) := by decide +kernel
theorem dX8_eats_98 : decode cX8_eats 98 = .ok (.ifCond .ne 6, 3) := by decide +kernel
theorem dX8_eats_101 : decode cX8_eats 101 = .ok (.iload 5, 2) := by decide +kernel
theorem dX8_eats_103 : decode cX8_eats 103 = .ok (.ireturn, 1) := by decide +kernel
theorem dX8_eats_104 : decode cX8_eats 104 = .ok (.iload 4, 2) := by decide +kernel
theorem dX8_eats_106 : decode cX8_eats 106 = .ok (.iconst 1, 1) := by decide +kernel
theorem dX8_eats_107 : decode cX8_eats 107 = .ok (.aload_n 0, 1) := by decide +kernel
theorem dX8_eats_108 : decode cX8_eats 108 = .ok (.iload 8, 2) := by decide +kernel
theorem dX8_eats_110 : decode cX8_eats 110 = .ok (.iconst 0, 1) := by decide +kernel
theorem dX8_eats_111 : decode cX8_eats 111 = .ok (.invokevirtual 263, 3) := by decide +kernel
theorem dX8_eats_114 : decode cX8_eats 114 = .ok (.ishl, 1) := by decide +kernel
theorem dX8_eats_115 : decode cX8_eats 115 = .ok (.ior, 1) := by decide +kernel
theorem dX8_eats_116 : decode cX8_eats 116 = .ok (.istore 4, 2) := by decide +kernel
theorem dX8_eats_118 : decode cX8_eats 118 = .ok (.iload 5, 2) := by decide +kernel
theorem dX8_eats_120 : decode cX8_eats 120 = .ok (.aload_n 0, 1) := by decide +kernel
theorem dX8_eats_121 : decode cX8_eats 121 = .ok (.aload_n 0, 1) := by decide +kernel
theorem dX8_eats_122 : decode cX8_eats 122 = .ok (.iload 8, 2) := by decide +kernel
theorem dX8_eats_124 : decode cX8_eats 124 = .ok (.iconst 0, 1) := by decide +kernel
theorem dX8_eats_125 : decode cX8_eats 125 = .ok (.invokevirtual 263, 3) := by decide +kernel
theorem dX8_eats_128 : decode cX8_eats 128 = .ok (.iconst 0, 1) := by decide +kernel
theorem dX8_eats_129 : decode cX8_eats 129 = .ok (.invokevirtual 91, 3) := by decide +kernel
theorem dX8_eats_132 : decode cX8_eats 132 = .ok (.iadd, 1) := by decide +kernel
theorem dX8_eats_133 : decode cX8_eats 133 = .ok (.istore 5, 2) := by decide +kernel
theorem dX8_eats_135 : decode cX8_eats 135 = .ok (.iinc 6 (-1), 3) := by decide +kernel
theorem dX8_eats_138 : decode cX8_eats 138 = .ok (.iinc 7 1, 3) := by decide +kernel
theorem dX8_eats_141 : decode cX8_eats 141 = .ok (.goto (-91), 3) := by decide +kernel
theorem dX8_eats_144 : decode cX8_eats 144 = .ok (.iload 5, 2) := by decide +kernel
theorem dX8_eats_146 : decode cX8_eats 146 = .ok (.ireturn, 1) := by decide +kernel
set_option maxRecDepth 4000 in
theorem kX8_eats (G : GT) {σ : St} {a1 : Int32} {a2 : Int32} : ∀ (r : Int32) , fX8_eats σ a1 a2 = some r → MCt G 4 yX8_eats cX8_eats 9 (some .int) [.ref (gad G 62), .int a1, .int a2] σ (some (.int r)) σ := by
  intro r hF
  refine met_i (by decide) (Nat.le_of_ble_eq_true rfl) (fun X cx hE => ?_)
  have cx : Cx G X RX8 cX8_eats 9 4 := cx
  have hl50 : ∀ n : Nat, ∀ (x1 : Int32) (x2 : Int32) (x4 : Int32) (x5 : Int32) (x6 : Int32) (x7 : Int32) , fX8_eats_l50 σ n x1 x2 x4 x5 x6 x7 = some r → WW G X 9 σ [(0, .ref (gad G 62)), (1, .int x1), (2, .int x2), (4, .int x4), (5, .int x5), (6, .int x6), (7, .int x7)] 50 [] := by
    intro n
    induction n with
    | zero =>
      intro x1 x2 x4 x5 x6 x7 hF
      exact absurd hF (by intro z; cases z)
    | succ n ih =>
      intro x1 x2 x4 x5 x6 x7 hF
      have hk50 := ih
      have hF : fX8_eats_B50 σ (fX8_eats_l50 σ n) x1 x2 x4 x5 x6 x7 = some r := hF
      unfold fX8_eats_B50 at hF
      refine ww_iload cx dX8_eats_50 6 rfl ?_
      refine ww_aload_n cx dX8_eats_52 rfl 0 rfl ?_
      refine gf_X8_61 cx dX8_eats_53 ?_
      refine ww_iload_n cx dX8_eats_56 rfl 1 rfl ?_
      refine ww_iald (N := 4) cx (sh_78) dX8_eats_57 hF (fun hF => ?_)
      refine ww_icmp_ge cx dX8_eats_58 (tgt := 144) rfl hF (fun hF => ?_) (fun hF => ?_)
      · refine ww_iload cx dX8_eats_144 4 rfl ?_
        exact ww_rip hE dX8_eats_146 hF
      · refine ww_aload_n cx dX8_eats_61 rfl 0 rfl ?_
        refine ww_iload_n cx dX8_eats_62 rfl 1 rfl ?_
        refine ww_iload cx dX8_eats_63 6 rfl ?_
        refine ww_V2_pl kv_X8_319 rfl cx sh_62 ⟨Nat.le_of_ble_eq_true rfl, Nat.le_of_ble_eq_true rfl⟩ (Nat.le_of_ble_eq_true rfl) dX8_eats_65 (kX8_numberAt G) hF (fun r1 hF => ?_)
        refine ww_l2i cx dX8_eats_68 ?_
        refine ww_istore (ks := [0, 1, 2, 3, 4, 5, 6, 7]) (lv' := fun v2 => [(8, .int v2), (0, .ref (gad G 62)), (1, .int x1), (2, .int x2), (4, .int x4), (5, .int x5), (6, .int x6), (7, .int x7)]) cx dX8_eats_69 (by decide) hF (fun _ => rfl) (fun v2 hF => ?_)
        refine ww_aload_n cx dX8_eats_71 rfl 1 rfl ?_
        refine ww_iload cx dX8_eats_72 0 rfl ?_
        refine ww_iload cx dX8_eats_74 4 rfl ?_
        refine ww_V2_pi kv_X8_300 rfl cx sh_62 ⟨Nat.le_of_ble_eq_true rfl, Nat.le_of_ble_eq_true rfl⟩ (Nat.le_of_ble_eq_true rfl) dX8_eats_76 (kX8_goes G) hF (fun r3 hF => ?_)
        refine ww_if_eq cx dX8_eats_79 (tgt := 101) rfl hF (fun hF => ?_) (fun hF => ?_)
        · refine ww_iload cx dX8_eats_101 5 rfl ?_
          exact ww_rip hE dX8_eats_103 hF
        · refine ww_aload_n cx dX8_eats_82 rfl 1 rfl ?_
          refine ww_iload_n cx dX8_eats_83 rfl 3 rfl ?_
          refine ww_iconst cx dX8_eats_84 ic_1 ?_
          refine ww_V2_pi kv_X8_282 rfl cx sh_62 ⟨Nat.le_of_ble_eq_true rfl, Nat.le_of_ble_eq_true rfl⟩ (Nat.le_of_ble_eq_true rfl) dX8_eats_85 (kX8_ofGuest G) hF (fun r4 hF => ?_)
          refine ww_iload cx dX8_eats_88 0 rfl ?_
          refine ww_S2_pi kv_X8_168 cx ⟨Nat.le_of_ble_eq_true rfl, Nat.le_of_ble_eq_true rfl⟩ (Nat.le_of_ble_eq_true rfl) dX8_eats_90 (kX8_bit G) hF (fun r5 hF => ?_)
          refine ww_if_eq cx dX8_eats_93 (tgt := 101) rfl hF (fun hF => ?_) (fun hF => ?_)
          · refine ww_iload cx dX8_eats_101 5 rfl ?_
            exact ww_rip hE dX8_eats_103 hF
          · refine ww_iload cx dX8_eats_96 6 rfl ?_
            refine ww_if_ne cx dX8_eats_98 (tgt := 104) rfl hF (fun hF => ?_) (fun hF => ?_)
            · refine ww_iload cx dX8_eats_104 4 rfl ?_
              refine ww_iconst cx dX8_eats_106 ic_1 ?_
              refine ww_aload_n cx dX8_eats_107 rfl 1 rfl ?_
              refine ww_iload cx dX8_eats_108 0 rfl ?_
              refine ww_iconst cx dX8_eats_110 ic_0 ?_
              refine ww_V2_pi kv_X8_263 rfl cx sh_62 ⟨Nat.le_of_ble_eq_true rfl, Nat.le_of_ble_eq_true rfl⟩ (Nat.le_of_ble_eq_true rfl) dX8_eats_111 (kX8_ofStep G) hF (fun r6 hF => ?_)
              refine ww_ishl cx dX8_eats_114 ?_
              refine ww_ior cx dX8_eats_115 ?_
              refine ww_istore (ks := [0, 1, 2, 3, 4, 5, 6, 7]) (lv' := fun v7 => [(4, .int v7), (8, .int v2), (0, .ref (gad G 62)), (1, .int x1), (2, .int x2), (5, .int x5), (6, .int x6), (7, .int x7)]) cx dX8_eats_116 (by decide) hF (fun _ => rfl) (fun v7 hF => ?_)
              refine ww_iload cx dX8_eats_118 5 rfl ?_
              refine ww_aload_n cx dX8_eats_120 rfl 2 rfl ?_
              refine ww_aload_n cx dX8_eats_121 rfl 2 rfl ?_
              refine ww_iload cx dX8_eats_122 1 rfl ?_
              refine ww_iconst cx dX8_eats_124 ic_0 ?_
              refine ww_V2_pi kv_X8_263 rfl cx sh_62 ⟨Nat.le_of_ble_eq_true rfl, Nat.le_of_ble_eq_true rfl⟩ (Nat.le_of_ble_eq_true rfl) dX8_eats_125 (kX8_ofStep G) hF (fun r8 hF => ?_)
              refine ww_iconst cx dX8_eats_128 ic_0 ?_
              refine ww_V2_pi kv_X8_91 rfl cx sh_62 ⟨Nat.le_of_ble_eq_true rfl, Nat.le_of_ble_eq_true rfl⟩ (Nat.le_of_ble_eq_true rfl) dX8_eats_129 (kX8_ofClaim G) hF (fun r9 hF => ?_)
              refine ww_iadd cx dX8_eats_132 ?_
              refine ww_istore (ks := [0, 1, 3, 4, 5, 6, 7]) (lv' := fun v10 => [(5, .int v10), (4, .int v7), (0, .ref (gad G 62)), (1, .int x1), (2, .int x2), (6, .int x6), (7, .int x7)]) cx dX8_eats_133 (by decide) hF (fun _ => rfl) (fun v10 hF => ?_)
              refine ww_iinc (j := 5) (ks := [0, 1, 2, 3, 4, 5, 6]) (lv' := fun v11 => [(6, .int v11), (5, .int v10), (4, .int v7), (0, .ref (gad G 62)), (1, .int x1), (2, .int x2), (7, .int x7)]) cx dX8_eats_135 (by decide) rfl ic_m1 hF (fun _ => rfl) (fun v11 hF => ?_)
              refine ww_iinc (j := 6) (ks := [0, 1, 2, 3, 4, 5, 6]) (lv' := fun v12 => [(7, .int v12), (6, .int v11), (5, .int v10), (4, .int v7), (0, .ref (gad G 62)), (1, .int x1), (2, .int x2)]) cx dX8_eats_138 (by decide) rfl ic_1 hF (fun _ => rfl) (fun v12 hF => ?_)
              refine ww_goto cx dX8_eats_141 (tgt := 50) rfl ?_
              exact ww_sub [4, 5, 6, 3, 2, 1, 0] rfl (hk50 _ _ _ _ _ _ hF)
            · refine ww_iload cx dX8_eats_101 5 rfl ?_
              exact ww_rip hE dX8_eats_103 hF
  unfold fX8_eats at hF
  show WW G X 9 σ [(0, .ref (gad G 62)), (1, .int a1), (2, .int a2)] 0 []
  refine ww_aload_n cx dX8_eats_0 rfl 0 rfl ?_
  refine ww_iload_n cx dX8_eats_1 rfl 1 rfl ?_
  refine ww_aload_n cx dX8_eats_2 rfl 0 rfl ?_
  refine ww_iload_n cx dX8_eats_3 rfl 2 rfl ?_
  refine ww_i2l cx dX8_eats_4 ?_
  refine ww_V1_pi kv_X8_285 rfl cx sh_62 ⟨Nat.le_of_ble_eq_true rfl, Nat.le_of_ble_eq_true rfl⟩ (Nat.le_of_ble_eq_true rfl) dX8_eats_5 (kX8_isGuest G) hF (fun r13 hF => ?_)
  refine ww_V2_pi kv_X8_329 rfl cx sh_62 ⟨Nat.le_of_ble_eq_true rfl, Nat.le_of_ble_eq_true rfl⟩ (Nat.le_of_ble_eq_true rfl) dX8_eats_8 (kX8_asksRow G) hF (fun r14 hF => ?_)
  refine ww_istore_n (ks := [0, 1, 2, 3]) (lv' := fun v15 => [(3, .int v15), (0, .ref (gad G 62)), (1, .int a1), (2, .int a2)]) cx dX8_eats_11 rfl (by decide) hF (fun _ => rfl) (fun v15 hF => ?_)
  refine ww_iload_n cx dX8_eats_12 rfl 0 rfl ?_
  refine ww_if_ge cx dX8_eats_13 (tgt := 31) rfl hF (fun hF => ?_) (fun hF => ?_)
  · refine ww_aload_n cx dX8_eats_31 rfl 1 rfl ?_
    refine ww_V0_pi kv_X8_257 rfl cx sh_62 ⟨Nat.le_of_ble_eq_true rfl, Nat.le_of_ble_eq_true rfl⟩ (Nat.le_of_ble_eq_true rfl) dX8_eats_32 (kX8_saltNow G) hF (fun r16 hF => ?_)
    refine ww_istore (ks := [0, 2, 3, 4]) (lv' := fun v17 => [(4, .int v17), (0, .ref (gad G 62)), (1, .int a1), (2, .int a2)]) cx dX8_eats_35 (by decide) hF (fun _ => rfl) (fun v17 hF => ?_)
    refine ww_iconst cx dX8_eats_37 ic_0 ?_
    refine ww_istore (ks := [0, 1, 2, 3, 4]) (lv' := fun v18 => [(5, .int v18), (4, .int v17), (0, .ref (gad G 62)), (1, .int a1), (2, .int a2)]) cx dX8_eats_38 (by decide) hF (fun _ => rfl) (fun v18 hF => ?_)
    refine ww_aload_n cx dX8_eats_40 rfl 2 rfl ?_
    refine ww_iload_n cx dX8_eats_41 rfl 4 rfl ?_
    refine ww_V1_pi kv_X8_288 rfl cx sh_62 ⟨Nat.le_of_ble_eq_true rfl, Nat.le_of_ble_eq_true rfl⟩ (Nat.le_of_ble_eq_true rfl) dX8_eats_42 (kX8_canDo G) hF (fun r19 hF => ?_)
    refine ww_istore (ks := [0, 1, 2, 3, 4, 5]) (lv' := fun v20 => [(6, .int v20), (5, .int v18), (4, .int v17), (0, .ref (gad G 62)), (1, .int a1), (2, .int a2)]) cx dX8_eats_45 (by decide) hF (fun _ => rfl) (fun v20 hF => ?_)
    refine ww_iconst cx dX8_eats_47 ic_0 ?_
    refine ww_istore (ks := [0, 1, 2, 3, 4, 5, 6]) (lv' := fun v21 => [(7, .int v21), (6, .int v20), (5, .int v18), (4, .int v17), (0, .ref (gad G 62)), (1, .int a1), (2, .int a2)]) cx dX8_eats_48 (by decide) hF (fun _ => rfl) (fun v21 hF => ?_)
    exact ww_sub [4, 5, 6, 3, 2, 1, 0] rfl (hl50 FU _ _ _ _ _ _ hF)
  · refine ww_iload_n cx dX8_eats_16 rfl 0 rfl ?_
    refine ww_bipush cx dX8_eats_17 bc_m6 ?_
    refine ww_icmp_ne cx dX8_eats_19 (tgt := 28) rfl hF (fun hF => ?_) (fun hF => ?_)
    · refine ww_bipush cx dX8_eats_28 bc_m100 ?_
      exact ww_rip hE dX8_eats_30 hF
    · refine ww_sipush cx dX8_eats_22 sc_m600 ?_
      refine ww_goto cx dX8_eats_25 (tgt := 30) rfl ?_
      exact ww_rip hE dX8_eats_30 hF
theorem dX8_falseIn_0 : decode cX8_falseIn 0 = .ok (.aload_n 0, 1) := by decide +kernel
theorem dX8_falseIn_1 : decode cX8_falseIn 1 = .ok (.aload_n 0, 1) := by decide +kernel
theorem dX8_falseIn_2 : decode cX8_falseIn 2 = .ok (.iload_n 1, 1) := by decide +kernel
theorem dX8_falseIn_3 : decode cX8_falseIn 3 = .ok (.iconst 1, 1) := by decide +kernel
theorem dX8_falseIn_4 : decode cX8_falseIn 4 = .ok (.invokevirtual 263, 3) := by decide +kernel
theorem dX8_falseIn_7 : decode cX8_falseIn 7 = .ok (.invokevirtual 260, 3) := by decide +kernel
theorem dX8_falseIn_10 : decode cX8_falseIn 10 = .ok (.aload_n 0, 1) := by decide +kernel
theorem dX8_falseIn_11 : decode cX8_falseIn 11 = .ok (.aload_n 0, 1) := by decide +kernel
theorem dX8_falseIn_12 : decode cX8_falseIn 12 = .ok (.iload_n 1, 1) := by decide +kernel
theorem dX8_falseIn_13 : decode cX8_falseIn 13 = .ok (.iconst 0, 1) := by decide +kernel
theorem dX8_falseIn_14 : decode cX8_falseIn 14 = .ok (.invokevirtual 263, 3) := by decide +kernel
theorem dX8_falseIn_17 : decode cX8_falseIn 17 = .ok (.iconst 2, 1) := by decide +kernel
theorem dX8_falseIn_18 : decode cX8_falseIn 18 = .ok (.invokevirtual 91, 3) := by decide +kernel
theorem dX8_falseIn_21 : decode cX8_falseIn 21 = .ok (.iconst (-1), 1) := by decide +kernel
theorem dX8_falseIn_22 : decode cX8_falseIn 22 = .ok (.ixor, 1) := by decide +kernel
theorem dX8_falseIn_23 : decode cX8_falseIn 23 = .ok (.iand, 1) := by decide +kernel
theorem dX8_falseIn_24 : decode cX8_falseIn 24 = .ok (.ireturn, 1) := by decide +kernel
set_option maxRecDepth 4000 in
theorem kX8_falseIn (G : GT) {σ : St} {a1 : Int32} : ∀ (r : Int32) , fX8_falseIn σ a1 = some r → MCt G 4 yX8_falseIn cX8_falseIn 2 (some .int) [.ref (gad G 62), .int a1] σ (some (.int r)) σ := by
  intro r hF
  refine met_i (by decide) (Nat.le_of_ble_eq_true rfl) (fun X cx hE => ?_)
  have cx : Cx G X RX8 cX8_falseIn 2 4 := cx
  unfold fX8_falseIn at hF
  show WW G X 2 σ [(0, .ref (gad G 62)), (1, .int a1)] 0 []
  refine ww_aload_n cx dX8_falseIn_0 rfl 0 rfl ?_
  refine ww_aload_n cx dX8_falseIn_1 rfl 0 rfl ?_
  refine ww_iload_n cx dX8_falseIn_2 rfl 1 rfl ?_
  refine ww_iconst cx dX8_falseIn_3 ic_1 ?_
  refine ww_V2_pi kv_X8_263 rfl cx sh_62 ⟨Nat.le_of_ble_eq_true rfl, Nat.le_of_ble_eq_true rfl⟩ (Nat.le_of_ble_eq_true rfl) dX8_falseIn_4 (kX8_ofStep G) hF (fun r1 hF => ?_)
  refine ww_V1_pi kv_X8_260 rfl cx sh_62 ⟨Nat.le_of_ble_eq_true rfl, Nat.le_of_ble_eq_true rfl⟩ (Nat.le_of_ble_eq_true rfl) dX8_falseIn_7 (kX8_saltedBy G) hF (fun r2 hF => ?_)
  refine ww_aload_n cx dX8_falseIn_10 rfl 0 rfl ?_
  refine ww_aload_n cx dX8_falseIn_11 rfl 0 rfl ?_
  refine ww_iload_n cx dX8_falseIn_12 rfl 1 rfl ?_
  refine ww_iconst cx dX8_falseIn_13 ic_0 ?_
  refine ww_V2_pi kv_X8_263 rfl cx sh_62 ⟨Nat.le_of_ble_eq_true rfl, Nat.le_of_ble_eq_true rfl⟩ (Nat.le_of_ble_eq_true rfl) dX8_falseIn_14 (kX8_ofStep G) hF (fun r3 hF => ?_)
  refine ww_iconst cx dX8_falseIn_17 ic_2 ?_
  refine ww_V2_pi kv_X8_91 rfl cx sh_62 ⟨Nat.le_of_ble_eq_true rfl, Nat.le_of_ble_eq_true rfl⟩ (Nat.le_of_ble_eq_true rfl) dX8_falseIn_18 (kX8_ofClaim G) hF (fun r4 hF => ?_)
  refine ww_iconst cx dX8_falseIn_21 ic_m1 ?_
  refine ww_ixor cx dX8_falseIn_22 ?_
  refine ww_iand cx dX8_falseIn_23 ?_
  exact ww_rip hE dX8_falseIn_24 hF
theorem dX8_fewestSteps_0 : decode cX8_fewestSteps 0 = .ok (.iconst (-1), 1) := by decide +kernel
theorem dX8_fewestSteps_1 : decode cX8_fewestSteps 1 = .ok (.istore 4, 2) := by decide +kernel
theorem dX8_fewestSteps_3 : decode cX8_fewestSteps 3 = .ok (.iconst 0, 1) := by decide +kernel
theorem dX8_fewestSteps_4 : decode cX8_fewestSteps 4 = .ok (.istore 5, 2) := by decide +kernel
theorem dX8_fewestSteps_6 : decode cX8_fewestSteps 6 = .ok (.iload 5, 2) := by decide +kernel
theorem dX8_fewestSteps_8 : decode cX8_fewestSteps 8 = .ok (.aload_n 0, 1) := by decide +kernel
theorem dX8_fewestSteps_9 : decode cX8_fewestSteps 9 = .ok (.invokevirtual 304, 3) := by decide +kernel
theorem dX8_fewestSteps_12 : decode cX8_fewestSteps 12 = .ok (.if_icmp .gt 63, 3) := by decide +kernel
theorem dX8_fewestSteps_15 : decode cX8_fewestSteps 15 = .ok (.iload 5, 2) := by decide +kernel
theorem dX8_fewestSteps_17 : decode cX8_fewestSteps 17 = .ok (.iload_n 2, 1) := by decide +kernel
theorem dX8_fewestSteps_18 : decode cX8_fewestSteps 18 = .ok (.iconst (-1), 1) := by decide +kernel
theorem dX8_fewestSteps_19 : decode cX8_fewestSteps 19 = .ok (.ixor, 1) := by decide +kernel
theorem dX8_fewestSteps_20 : decode cX8_fewestSteps 20 = .ok (.iand, 1) := by decide +kernel
theorem dX8_fewestSteps_21 : decode cX8_fewestSteps 21 = .ok (.ifCond .ne 48, 3) := by decide +kernel
theorem dX8_fewestSteps_24 : decode cX8_fewestSteps 24 = .ok (.iload 4, 2) := by decide +kernel
theorem dX8_fewestSteps_26 : decode cX8_fewestSteps 26 = .ok (.iconst (-1), 1) := by decide +kernel
theorem dX8_fewestSteps_27 : decode cX8_fewestSteps 27 = .ok (.if_icmp .eq 19, 3) := by decide +kernel
theorem dX8_fewestSteps_30 : decode cX8_fewestSteps 30 = .ok (.iload 5, 2) := by decide +kernel
theorem dX8_fewestSteps_32 : decode cX8_fewestSteps 32 = .ok (.invokestatic 273, 3) := by decide +kernel
theorem dX8_fewestSteps_35 : decode cX8_fewestSteps 35 = .ok (.iload 4, 2) := by decide +kernel
theorem dX8_fewestSteps_37 : decode cX8_fewestSteps 37 = .ok (.invokestatic 273, 3) := by decide +kernel
theorem dX8_fewestSteps_40 : decode cX8_fewestSteps 40 = .ok (.if_icmp .lt 6, 3) := by decide +kernel
theorem dX8_fewestSteps_43 : decode cX8_fewestSteps 43 = .ok (.goto 26, 3) := by decide +kernel
theorem dX8_fewestSteps_46 : decode cX8_fewestSteps 46 = .ok (.iload_n 3, 1) := by decide +kernel
theorem dX8_fewestSteps_47 : decode cX8_fewestSteps 47 = .ok (.aload_n 0, 1) := by decide +kernel
theorem dX8_fewestSteps_48 : decode cX8_fewestSteps 48 = .ok (.iload_n 1, 1) := by decide +kernel
theorem dX8_fewestSteps_49 : decode cX8_fewestSteps 49 = .ok (.iload 5, 2) := by decide +kernel
theorem dX8_fewestSteps_51 : decode cX8_fewestSteps 51 = .ok (.invokevirtual 307, 3) := by decide +kernel
theorem dX8_fewestSteps_54 : decode cX8_fewestSteps 54 = .ok (.iconst (-1), 1) := by decide +kernel
theorem dX8_fewestSteps_55 : decode cX8_fewestSteps 55 = .ok (.ixor, 1) := by decide +kernel
theorem dX8_fewestSteps_56 : decode cX8_fewestSteps 56 = .ok (.iand, 1) := by decide +kernel
theorem dX8_fewestSteps_57 : decode cX8_fewestSteps 57 = .ok (.ifCond .ne 8, 3) := by decide +kernel
theorem dX8_fewestSteps_60 : decode cX8_fewestSteps 60 = .ok (.iload 5, 2) := by decide +kernel
theorem dX8_fewestSteps_62 : decode cX8_fewestSteps 62 = .ok (.goto 5, 3) := by decide +kernel
theorem dX8_fewestSteps_65 : decode cX8_fewestSteps 65 = .ok (.iload 4, 2) := by decide +kernel
theorem dX8_fewestSteps_67 : decode cX8_fewestSteps 67 = .ok (.istore 4, 2) := by decide +kernel
theorem dX8_fewestSteps_69 : decode cX8_fewestSteps 69 = .ok (.iinc 5 1, 3) := by decide +kernel
theorem dX8_fewestSteps_72 : decode cX8_fewestSteps 72 = .ok (.goto (-66), 3) := by decide +kernel
theorem dX8_fewestSteps_75 : decode cX8_fewestSteps 75 = .ok (.iload 4, 2) := by decide +kernel
theorem dX8_fewestSteps_77 : decode cX8_fewestSteps 77 = .ok (.ireturn, 1) := by decide +kernel
set_option maxRecDepth 4000 in
theorem kX8_fewestSteps (G : GT) {σ : St} {a1 : Int32} {a2 : Int32} {a3 : Int32} : ∀ (r : Int32) , fX8_fewestSteps σ a1 a2 a3 = some r → MCt G 4 yX8_fewestSteps cX8_fewestSteps 6 (some .int) [.ref (gad G 62), .int a1, .int a2, .int a3] σ (some (.int r)) σ := by
  intro r hF
  refine met_i (by decide) (Nat.le_of_ble_eq_true rfl) (fun X cx hE => ?_)
  have cx : Cx G X RX8 cX8_fewestSteps 6 4 := cx
  have hb46 : ∀ (kr6 : Int32 → Int32 → Int32 → Int32 → Int32 → Option (Int32)), (∀ (x1 : Int32) (x2 : Int32) (x3 : Int32) (x4 : Int32) (x5 : Int32) , kr6 x1 x2 x3 x4 x5 = some r → WW G X 6 σ [(0, .ref (gad G 62)), (1, .int x1), (2, .int x2), (3, .int x3), (4, .int x4), (5, .int x5)] 6 []) → ∀ (x1 : Int32) (x2 : Int32) (x3 : Int32) (x4 : Int32) (x5 : Int32) , fX8_fewestSteps_b46 σ kr6 x1 x2 x3 x4 x5 = some r → WW G X 6 σ [(0, .ref (gad G 62)), (1, .int x1), (2, .int x2), (3, .int x3), (4, .int x4), (5, .int x5)] 46 [] := by
    intro kr6 hk6
    intro x1 x2 x3 x4 x5 hF
    unfold fX8_fewestSteps_b46 at hF
    refine ww_iload_n cx dX8_fewestSteps_46 rfl 3 rfl ?_
    refine ww_aload_n cx dX8_fewestSteps_47 rfl 0 rfl ?_
    refine ww_iload_n cx dX8_fewestSteps_48 rfl 1 rfl ?_
    refine ww_iload cx dX8_fewestSteps_49 5 rfl ?_
    refine ww_V2_pi kv_X8_307 rfl cx sh_62 ⟨Nat.le_of_ble_eq_true rfl, Nat.le_of_ble_eq_true rfl⟩ (Nat.le_of_ble_eq_true rfl) dX8_fewestSteps_51 (kX8_provedBy G) hF (fun r1 hF => ?_)
    refine ww_iconst cx dX8_fewestSteps_54 ic_m1 ?_
    refine ww_ixor cx dX8_fewestSteps_55 ?_
    refine ww_iand cx dX8_fewestSteps_56 ?_
    refine ww_if_ne cx dX8_fewestSteps_57 (tgt := 65) rfl hF (fun hF => ?_) (fun hF => ?_)
    · refine ww_iload cx dX8_fewestSteps_65 4 rfl ?_
      refine ww_istore (ks := [0, 1, 2, 3, 4, 5]) (lv' := fun v2 => [(4, .int v2), (0, .ref (gad G 62)), (1, .int x1), (2, .int x2), (3, .int x3), (5, .int x5)]) cx dX8_fewestSteps_67 (by decide) hF (fun _ => rfl) (fun v2 hF => ?_)
      refine ww_iinc (j := 5) (ks := [0, 1, 2, 3, 4, 5]) (lv' := fun v3 => [(5, .int v3), (4, .int v2), (0, .ref (gad G 62)), (1, .int x1), (2, .int x2), (3, .int x3)]) cx dX8_fewestSteps_69 (by decide) rfl ic_1 hF (fun _ => rfl) (fun v3 hF => ?_)
      refine ww_goto cx dX8_fewestSteps_72 (tgt := 6) rfl ?_
      exact ww_sub [2, 3, 4, 5, 1, 0] rfl (hk6 _ _ _ _ _ hF)
    · refine ww_iload cx dX8_fewestSteps_60 5 rfl ?_
      refine ww_goto cx dX8_fewestSteps_62 (tgt := 67) rfl ?_
      refine ww_istore (ks := [0, 1, 2, 3, 4, 5]) (lv' := fun v4 => [(4, .int v4), (0, .ref (gad G 62)), (1, .int x1), (2, .int x2), (3, .int x3), (5, .int x5)]) cx dX8_fewestSteps_67 (by decide) hF (fun _ => rfl) (fun v4 hF => ?_)
      refine ww_iinc (j := 5) (ks := [0, 1, 2, 3, 4, 5]) (lv' := fun v5 => [(5, .int v5), (4, .int v4), (0, .ref (gad G 62)), (1, .int x1), (2, .int x2), (3, .int x3)]) cx dX8_fewestSteps_69 (by decide) rfl ic_1 hF (fun _ => rfl) (fun v5 hF => ?_)
      refine ww_goto cx dX8_fewestSteps_72 (tgt := 6) rfl ?_
      exact ww_sub [2, 3, 4, 5, 1, 0] rfl (hk6 _ _ _ _ _ hF)
  have hl6 : ∀ n : Nat, ∀ (x1 : Int32) (x2 : Int32) (x3 : Int32) (x4 : Int32) (x5 : Int32) , fX8_fewestSteps_l6 σ n x1 x2 x3 x4 x5 = some r → WW G X 6 σ [(0, .ref (gad G 62)), (1, .int x1), (2, .int x2), (3, .int x3), (4, .int x4), (5, .int x5)] 6 [] := by
    intro n
    induction n with
    | zero =>
      intro x1 x2 x3 x4 x5 hF
      exact absurd hF (by intro z; cases z)
    | succ n ih =>
      intro x1 x2 x3 x4 x5 hF
      have hk6 := ih
      have hF : fX8_fewestSteps_B6 σ (fX8_fewestSteps_l6 σ n) x1 x2 x3 x4 x5 = some r := hF
      unfold fX8_fewestSteps_B6 at hF
      refine ww_iload cx dX8_fewestSteps_6 5 rfl ?_
      refine ww_aload_n cx dX8_fewestSteps_8 rfl 0 rfl ?_
      refine ww_V0_pi kv_X8_304 rfl cx sh_62 ⟨Nat.le_of_ble_eq_true rfl, Nat.le_of_ble_eq_true rfl⟩ (Nat.le_of_ble_eq_true rfl) dX8_fewestSteps_9 (kX8_allSteps G) hF (fun r6 hF => ?_)
      refine ww_icmp_gt cx dX8_fewestSteps_12 (tgt := 75) rfl hF (fun hF => ?_) (fun hF => ?_)
      · refine ww_iload cx dX8_fewestSteps_75 4 rfl ?_
        exact ww_rip hE dX8_fewestSteps_77 hF
      · refine ww_iload cx dX8_fewestSteps_15 5 rfl ?_
        refine ww_iload_n cx dX8_fewestSteps_17 rfl 2 rfl ?_
        refine ww_iconst cx dX8_fewestSteps_18 ic_m1 ?_
        refine ww_ixor cx dX8_fewestSteps_19 ?_
        refine ww_iand cx dX8_fewestSteps_20 ?_
        refine ww_if_ne cx dX8_fewestSteps_21 (tgt := 69) rfl hF (fun hF => ?_) (fun hF => ?_)
        · refine ww_iinc (j := 5) (ks := [0, 1, 2, 3, 4, 5]) (lv' := fun v7 => [(5, .int v7), (0, .ref (gad G 62)), (1, .int x1), (2, .int x2), (3, .int x3), (4, .int x4)]) cx dX8_fewestSteps_69 (by decide) rfl ic_1 hF (fun _ => rfl) (fun v7 hF => ?_)
          refine ww_goto cx dX8_fewestSteps_72 (tgt := 6) rfl ?_
          exact ww_sub [1, 2, 3, 4, 5, 0] rfl (hk6 _ _ _ _ _ hF)
        · refine ww_iload cx dX8_fewestSteps_24 4 rfl ?_
          refine ww_iconst cx dX8_fewestSteps_26 ic_m1 ?_
          refine ww_icmp_eq cx dX8_fewestSteps_27 (tgt := 46) rfl hF (fun hF => ?_) (fun hF => ?_)
          · exact hb46 _ hk6 _ _ _ _ _ hF
          · refine ww_iload cx dX8_fewestSteps_30 5 rfl ?_
            refine ww_S1_pi kv_X8_273 cx ⟨Nat.le_of_ble_eq_true rfl, Nat.le_of_ble_eq_true rfl⟩ (Nat.le_of_ble_eq_true rfl) dX8_fewestSteps_32 (kX8_bits G) hF (fun r8 hF => ?_)
            refine ww_iload cx dX8_fewestSteps_35 4 rfl ?_
            refine ww_S1_pi kv_X8_273 cx ⟨Nat.le_of_ble_eq_true rfl, Nat.le_of_ble_eq_true rfl⟩ (Nat.le_of_ble_eq_true rfl) dX8_fewestSteps_37 (kX8_bits G) hF (fun r9 hF => ?_)
            refine ww_icmp_lt cx dX8_fewestSteps_40 (tgt := 46) rfl hF (fun hF => ?_) (fun hF => ?_)
            · exact hb46 _ hk6 _ _ _ _ _ hF
            · refine ww_goto cx dX8_fewestSteps_43 (tgt := 69) rfl ?_
              refine ww_iinc (j := 5) (ks := [0, 1, 2, 3, 4, 5]) (lv' := fun v10 => [(5, .int v10), (0, .ref (gad G 62)), (1, .int x1), (2, .int x2), (3, .int x3), (4, .int x4)]) cx dX8_fewestSteps_69 (by decide) rfl ic_1 hF (fun _ => rfl) (fun v10 hF => ?_)
              refine ww_goto cx dX8_fewestSteps_72 (tgt := 6) rfl ?_
              exact ww_sub [1, 2, 3, 4, 5, 0] rfl (hk6 _ _ _ _ _ hF)
  unfold fX8_fewestSteps at hF
  show WW G X 6 σ [(0, .ref (gad G 62)), (1, .int a1), (2, .int a2), (3, .int a3)] 0 []
  refine ww_iconst cx dX8_fewestSteps_0 ic_m1 ?_
  refine ww_istore (ks := [0, 1, 2, 3, 4]) (lv' := fun v11 => [(4, .int v11), (0, .ref (gad G 62)), (1, .int a1), (2, .int a2), (3, .int a3)]) cx dX8_fewestSteps_1 (by decide) hF (fun _ => rfl) (fun v11 hF => ?_)
  refine ww_iconst cx dX8_fewestSteps_3 ic_0 ?_
  refine ww_istore (ks := [0, 1, 2, 3, 4, 5]) (lv' := fun v12 => [(5, .int v12), (4, .int v11), (0, .ref (gad G 62)), (1, .int a1), (2, .int a2), (3, .int a3)]) cx dX8_fewestSteps_4 (by decide) hF (fun _ => rfl) (fun v12 hF => ?_)
  exact ww_sub [2, 3, 4, 5, 1, 0] rfl (hl6 FU _ _ _ _ _ hF)
theorem dX8_freshClaim_0 : decode cX8_freshClaim 0 = .ok (.aload_n 0, 1) := by decide +kernel
theorem dX8_freshClaim_1 : decode cX8_freshClaim 1 = .ok (.iconst 0, 1) := by decide +kernel
theorem dX8_freshClaim_2 : decode cX8_freshClaim 2 = .ok (.aload_n 0, 1) := by decide +kernel
theorem dX8_freshClaim_3 : decode cX8_freshClaim 3 = .ok (.getfield 31, 3) := by decide +kernel
theorem dX8_freshClaim_6 : decode cX8_freshClaim 6 = .ok (.iconst 3, 1) := by decide +kernel
theorem dX8_freshClaim_7 : decode cX8_freshClaim 7 = .ok (.iaload, 1) := by decide +kernel
theorem dX8_freshClaim_8 : decode cX8_freshClaim 8 = .ok (.iconst 1, 1) := by decide +kernel
theorem dX8_freshClaim_9 : decode cX8_freshClaim 9 = .ok (.isub, 1) := by decide +kernel
theorem dX8_freshClaim_10 : decode cX8_freshClaim 10 = .ok (.invokevirtual 165, 3) := by decide +kernel
theorem dX8_freshClaim_13 : decode cX8_freshClaim 13 = .ok (.ireturn, 1) := by decide +kernel
set_option maxRecDepth 4000 in
theorem kX8_freshClaim (G : GT) {σ : St} : ∀ (r : Int32) (σo : St) , fX8_freshClaim σ = some (r, σo) → MCt G 4 yX8_freshClaim cX8_freshClaim 1 (some .int) [.ref (gad G 62)] σ (some (.int r)) σo := by
  intro r σo hF
  refine met_i (by decide) (Nat.le_of_ble_eq_true rfl) (fun X cx hE => ?_)
  have cx : Cx G X RX8 cX8_freshClaim 1 4 := cx
  unfold fX8_freshClaim at hF
  show WW G X 1 σ [(0, .ref (gad G 62))] 0 []
  refine ww_aload_n cx dX8_freshClaim_0 rfl 0 rfl ?_
  refine ww_iconst cx dX8_freshClaim_1 ic_0 ?_
  refine ww_aload_n cx dX8_freshClaim_2 rfl 0 rfl ?_
  refine gf_X8_31 cx dX8_freshClaim_3 ?_
  refine ww_iconst cx dX8_freshClaim_6 ic_3 ?_
  refine ww_iald (N := 77) cx (sh_68) dX8_freshClaim_7 hF (fun hF => ?_)
  refine ww_iconst cx dX8_freshClaim_8 ic_1 ?_
  refine ww_isub cx dX8_freshClaim_9 ?_
  refine ww_V2_si kv_X8_165 rfl cx sh_62 ⟨Nat.le_of_ble_eq_true rfl, Nat.le_of_ble_eq_true rfl⟩ (Nat.le_of_ble_eq_true rfl) dX8_freshClaim_10 (kX8_number G) hF (fun r1 σ2 hF => ?_)
  exact ww_ris hE dX8_freshClaim_13 hF
theorem dX8_idle_0 : decode cX8_idle 0 = .ok (.aload_n 0, 1) := by decide +kernel
theorem dX8_idle_1 : decode cX8_idle 1 = .ok (.invokevirtual 291, 3) := by decide +kernel
theorem dX8_idle_4 : decode cX8_idle 4 = .ok (.ifCond .ne 6, 3) := by decide +kernel
theorem dX8_idle_7 : decode cX8_idle 7 = .ok (.bipush (-2), 2) := by decide +kernel
theorem dX8_idle_9 : decode cX8_idle 9 = .ok (.ireturn, 1) := by decide +kernel
theorem dX8_idle_10 : decode cX8_idle 10 = .ok (.iconst 0, 1) := by decide +kernel
theorem dX8_idle_11 : decode cX8_idle 11 = .ok (.istore_n 1, 1) := by decide +kernel
theorem dX8_idle_12 : decode cX8_idle 12 = .ok (.iconst 0, 1) := by decide +kernel
theorem dX8_idle_13 : decode cX8_idle 13 = .ok (.istore_n 2, 1) := by decide +kernel
theorem dX8_idle_14 : decode cX8_idle 14 = .ok (.iload_n 2, 1) := by decide +kernel
theorem dX8_idle_15 : decode cX8_idle 15 = .ok (.aload_n 0, 1) := by decide +kernel
theorem dX8_idle_16 : decode cX8_idle 16 = .ok (.getfield 9, 3) := by decide +kernel
theorem dX8_idle_19 : decode cX8_idle 19 = .ok (.iconst 3, 1) := by decide +kernel
theorem dX8_idle_20 : decode cX8_idle 20 = .ok (.iaload, 1) := by decide +kernel
theorem dX8_idle_21 : decode cX8_idle 21 = .ok (.if_icmp .ge 57, 3) := by decide +kernel
theorem dX8_idle_24 : decode cX8_idle 24 = .ok (.iload_n 1, 1) := by decide +kernel
theorem dX8_idle_25 : decode cX8_idle 25 = .ok (.aload_n 0, 1) := by decide +kernel
theorem dX8_idle_26 : decode cX8_idle 26 = .ok (.invokevirtual 257, 3) := by decide +kernel
theorem dX8_idle_29 : decode cX8_idle 29 = .ok (.iload_n 2, 1) := by decide +kernel
theorem dX8_idle_30 : decode cX8_idle 30 = .ok (.invokestatic 168, 3) := by decide +kernel
theorem dX8_idle_33 : decode cX8_idle 33 = .ok (.iconst 1, 1) := by decide +kernel
theorem dX8_idle_34 : decode cX8_idle 34 = .ok (.if_icmp .ne 35, 3) := by decide +kernel
theorem dX8_idle_37 : decode cX8_idle 37 = .ok (.aload_n 0, 1) := by decide +kernel
theorem dX8_idle_38 : decode cX8_idle 38 = .ok (.aload_n 0, 1) := by decide +kernel
theorem dX8_idle_39 : decode cX8_idle 39 = .ok (.invokevirtual 257, 3) := by decide +kernel
theorem dX8_idle_42 : decode cX8_idle 42 = .ok (.iconst 1, 1) := by decide +kernel
theorem dX8_idle_43 : decode cX8_idle 43 = .ok (.iload_n 2, 1) := by decide +kernel
theorem dX8_idle_44 : decode cX8_idle 44 = .ok (.ishl, 1) := by decide +kernel
theorem dX8_idle_45 : decode cX8_idle 45 = .ok (.iconst (-1), 1) := by decide +kernel
theorem dX8_idle_46 : decode cX8_idle 46 = .ok (.ixor, 1) := by decide +kernel
theorem dX8_idle_47 : decode cX8_idle 47 = .ok (.iand, 1) := by decide +kernel
theorem dX8_idle_48 : decode cX8_idle 48 = .ok (.invokevirtual 260, 3) := by decide +kernel
theorem dX8_idle_51 : decode cX8_idle 51 = .ok (.aload_n 0, 1) := by decide +kernel
theorem dX8_idle_52 : decode cX8_idle 52 = .ok (.iload_n 2, 1) := by decide +kernel
theorem dX8_idle_53 : decode cX8_idle 53 = .ok (.iconst 2, 1) := by decide +kernel
theorem dX8_idle_54 : decode cX8_idle 54 = .ok (.invokevirtual 91, 3) := by decide +kernel
theorem dX8_idle_57 : decode cX8_idle 57 = .ok (.iconst (-1), 1) := by decide +kernel
theorem dX8_idle_58 : decode cX8_idle 58 = .ok (.ixor, 1) := by decide +kernel
theorem dX8_idle_59 : decode cX8_idle 59 = .ok (.iand, 1) := by decide +kernel
theorem dX8_idle_60 : decode cX8_idle 60 = .ok (.ifCond .ne 9, 3) := by decide +kernel
theorem dX8_idle_63 : decode cX8_idle 63 = .ok (.iconst 1, 1) := by decide +kernel
theorem dX8_idle_64 : decode cX8_idle 64 = .ok (.iload_n 2, 1) := by decide +kernel
theorem dX8_idle_65 : decode cX8_idle 65 = .ok (.ishl, 1) := by decide +kernel
theorem dX8_idle_66 : decode cX8_idle 66 = .ok (.goto 4, 3) := by decide +kernel
theorem dX8_idle_69 : decode cX8_idle 69 = .ok (.iconst 0, 1) := by decide +kernel
theorem dX8_idle_70 : decode cX8_idle 70 = .ok (.ior, 1) := by decide +kernel
theorem dX8_idle_71 : decode cX8_idle 71 = .ok (.istore_n 1, 1) := by decide +kernel
theorem dX8_idle_72 : decode cX8_idle 72 = .ok (.iinc 2 1, 3) := by decide +kernel
theorem dX8_idle_75 : decode cX8_idle 75 = .ok (.goto (-61), 3) := by decide +kernel
theorem dX8_idle_78 : decode cX8_idle 78 = .ok (.iload_n 1, 1) := by decide +kernel
theorem dX8_idle_79 : decode cX8_idle 79 = .ok (.ireturn, 1) := by decide +kernel
set_option maxRecDepth 4000 in
theorem kX8_idle (G : GT) {σ : St} : ∀ (r : Int32) , fX8_idle σ = some r → MCt G 4 yX8_idle cX8_idle 3 (some .int) [.ref (gad G 62)] σ (some (.int r)) σ := by
  intro r hF
  refine met_i (by decide) (Nat.le_of_ble_eq_true rfl) (fun X cx hE => ?_)
  have cx : Cx G X RX8 cX8_idle 3 4 := cx
  have hb70 : ∀ (kr14 : Int32 → Int32 → Option (Int32)), (∀ (x1 : Int32) (x2 : Int32) , kr14 x1 x2 = some r → WW G X 3 σ [(0, .ref (gad G 62)), (1, .int x1), (2, .int x2)] 14 []) → ∀ (x2 : Int32) (y0 : Int32) (y1 : Int32) , fX8_idle_b70 σ kr14 x2 y0 y1 = some r → WW G X 3 σ [(0, .ref (gad G 62)), (2, .int x2)] 70 [.int y1, .int y0] := by
    intro kr14 hk14
    intro x2 y0 y1 hF
    unfold fX8_idle_b70 at hF
    refine ww_ior cx dX8_idle_70 ?_
    refine ww_istore_n (ks := [0, 1, 2]) (lv' := fun v1 => [(1, .int v1), (0, .ref (gad G 62)), (2, .int x2)]) cx dX8_idle_71 rfl (by decide) hF (fun _ => rfl) (fun v1 hF => ?_)
    refine ww_iinc (j := 2) (ks := [0, 1, 2]) (lv' := fun v2 => [(2, .int v2), (1, .int v1), (0, .ref (gad G 62))]) cx dX8_idle_72 (by decide) rfl ic_1 hF (fun _ => rfl) (fun v2 hF => ?_)
    refine ww_goto cx dX8_idle_75 (tgt := 14) rfl ?_
    exact ww_sub [2, 1, 0] rfl (hk14 _ _ hF)
  have hb69 : ∀ (kr14 : Int32 → Int32 → Option (Int32)), (∀ (x1 : Int32) (x2 : Int32) , kr14 x1 x2 = some r → WW G X 3 σ [(0, .ref (gad G 62)), (1, .int x1), (2, .int x2)] 14 []) → ∀ (x2 : Int32) (y0 : Int32) , fX8_idle_b69 σ kr14 x2 y0 = some r → WW G X 3 σ [(0, .ref (gad G 62)), (2, .int x2)] 69 [.int y0] := by
    intro kr14 hk14
    intro x2 y0 hF
    unfold fX8_idle_b69 at hF
    refine ww_iconst cx dX8_idle_69 ic_0 ?_
    exact hb70 _ hk14 _ _ _ hF
  have hl14 : ∀ n : Nat, ∀ (x1 : Int32) (x2 : Int32) , fX8_idle_l14 σ n x1 x2 = some r → WW G X 3 σ [(0, .ref (gad G 62)), (1, .int x1), (2, .int x2)] 14 [] := by
    intro n
    induction n with
    | zero =>
      intro x1 x2 hF
      exact absurd hF (by intro z; cases z)
    | succ n ih =>
      intro x1 x2 hF
      have hk14 := ih
      have hF : fX8_idle_B14 σ (fX8_idle_l14 σ n) x1 x2 = some r := hF
      unfold fX8_idle_B14 at hF
      refine ww_iload_n cx dX8_idle_14 rfl 2 rfl ?_
      refine ww_aload_n cx dX8_idle_15 rfl 0 rfl ?_
      refine gf_X8_9 cx dX8_idle_16 ?_
      refine ww_iconst cx dX8_idle_19 ic_3 ?_
      refine ww_iald (N := 77) cx (sh_63) dX8_idle_20 hF (fun hF => ?_)
      refine ww_icmp_ge cx dX8_idle_21 (tgt := 78) rfl hF (fun hF => ?_) (fun hF => ?_)
      · refine ww_iload_n cx dX8_idle_78 rfl 1 rfl ?_
        exact ww_rip hE dX8_idle_79 hF
      · refine ww_iload_n cx dX8_idle_24 rfl 1 rfl ?_
        refine ww_aload_n cx dX8_idle_25 rfl 0 rfl ?_
        refine ww_V0_pi kv_X8_257 rfl cx sh_62 ⟨Nat.le_of_ble_eq_true rfl, Nat.le_of_ble_eq_true rfl⟩ (Nat.le_of_ble_eq_true rfl) dX8_idle_26 (kX8_saltNow G) hF (fun r3 hF => ?_)
        refine ww_iload_n cx dX8_idle_29 rfl 2 rfl ?_
        refine ww_S2_pi kv_X8_168 cx ⟨Nat.le_of_ble_eq_true rfl, Nat.le_of_ble_eq_true rfl⟩ (Nat.le_of_ble_eq_true rfl) dX8_idle_30 (kX8_bit G) hF (fun r4 hF => ?_)
        refine ww_iconst cx dX8_idle_33 ic_1 ?_
        refine ww_icmp_ne cx dX8_idle_34 (tgt := 69) rfl hF (fun hF => ?_) (fun hF => ?_)
        · exact ww_sub [0, 2] rfl (hb69 _ hk14 _ _ hF)
        · refine ww_aload_n cx dX8_idle_37 rfl 0 rfl ?_
          refine ww_aload_n cx dX8_idle_38 rfl 0 rfl ?_
          refine ww_V0_pi kv_X8_257 rfl cx sh_62 ⟨Nat.le_of_ble_eq_true rfl, Nat.le_of_ble_eq_true rfl⟩ (Nat.le_of_ble_eq_true rfl) dX8_idle_39 (kX8_saltNow G) hF (fun r5 hF => ?_)
          refine ww_iconst cx dX8_idle_42 ic_1 ?_
          refine ww_iload_n cx dX8_idle_43 rfl 2 rfl ?_
          refine ww_ishl cx dX8_idle_44 ?_
          refine ww_iconst cx dX8_idle_45 ic_m1 ?_
          refine ww_ixor cx dX8_idle_46 ?_
          refine ww_iand cx dX8_idle_47 ?_
          refine ww_V1_pi kv_X8_260 rfl cx sh_62 ⟨Nat.le_of_ble_eq_true rfl, Nat.le_of_ble_eq_true rfl⟩ (Nat.le_of_ble_eq_true rfl) dX8_idle_48 (kX8_saltedBy G) hF (fun r6 hF => ?_)
          refine ww_aload_n cx dX8_idle_51 rfl 0 rfl ?_
          refine ww_iload_n cx dX8_idle_52 rfl 2 rfl ?_
          refine ww_iconst cx dX8_idle_53 ic_2 ?_
          refine ww_V2_pi kv_X8_91 rfl cx sh_62 ⟨Nat.le_of_ble_eq_true rfl, Nat.le_of_ble_eq_true rfl⟩ (Nat.le_of_ble_eq_true rfl) dX8_idle_54 (kX8_ofClaim G) hF (fun r7 hF => ?_)
          refine ww_iconst cx dX8_idle_57 ic_m1 ?_
          refine ww_ixor cx dX8_idle_58 ?_
          refine ww_iand cx dX8_idle_59 ?_
          refine ww_if_ne cx dX8_idle_60 (tgt := 69) rfl hF (fun hF => ?_) (fun hF => ?_)
          · exact ww_sub [0, 2] rfl (hb69 _ hk14 _ _ hF)
          · refine ww_iconst cx dX8_idle_63 ic_1 ?_
            refine ww_iload_n cx dX8_idle_64 rfl 2 rfl ?_
            refine ww_ishl cx dX8_idle_65 ?_
            refine ww_goto cx dX8_idle_66 (tgt := 70) rfl ?_
            exact ww_sub [0, 2] rfl (hb70 _ hk14 _ _ _ hF)
  unfold fX8_idle at hF
  show WW G X 3 σ [(0, .ref (gad G 62))] 0 []
  refine ww_aload_n cx dX8_idle_0 rfl 0 rfl ?_
  refine ww_V0_pi kv_X8_291 rfl cx sh_62 ⟨Nat.le_of_ble_eq_true rfl, Nat.le_of_ble_eq_true rfl⟩ (Nat.le_of_ble_eq_true rfl) dX8_idle_1 (kX8_isTable G) hF (fun r8 hF => ?_)
  refine ww_if_ne cx dX8_idle_4 (tgt := 10) rfl hF (fun hF => ?_) (fun hF => ?_)
  · refine ww_iconst cx dX8_idle_10 ic_0 ?_
    refine ww_istore_n (ks := [0, 1]) (lv' := fun v9 => [(1, .int v9), (0, .ref (gad G 62))]) cx dX8_idle_11 rfl (by decide) hF (fun _ => rfl) (fun v9 hF => ?_)
    refine ww_iconst cx dX8_idle_12 ic_0 ?_
    refine ww_istore_n (ks := [0, 1, 2]) (lv' := fun v10 => [(2, .int v10), (1, .int v9), (0, .ref (gad G 62))]) cx dX8_idle_13 rfl (by decide) hF (fun _ => rfl) (fun v10 hF => ?_)
    exact ww_sub [2, 1, 0] rfl (hl14 FU _ _ hF)
  · refine ww_bipush cx dX8_idle_7 bc_m2 ?_
    exact ww_rip hE dX8_idle_9 hF
theorem dX8_isProvedBy_0 : decode cX8_isProvedBy 0 = .ok (.aload_n 0, 1) := by decide +kernel
theorem dX8_isProvedBy_1 : decode cX8_isProvedBy 1 = .ok (.aload_n 0, 1) := by decide +kernel
theorem dX8_isProvedBy_2 : decode cX8_isProvedBy 2 = .ok (.invokevirtual 257, 3) := by decide +kernel
theorem dX8_isProvedBy_5 : decode cX8_isProvedBy 5 = .ok (.iload_n 1, 1) := by decide +kernel
theorem dX8_isProvedBy_6 : decode cX8_isProvedBy 6 = .ok (.invokevirtual 307, 3) := by decide +kernel
theorem dX8_isProvedBy_9 : decode cX8_isProvedBy 9 = .ok (.iload_n 2, 1) := by decide +kernel
theorem dX8_isProvedBy_10 : decode cX8_isProvedBy 10 = .ok (.invokestatic 168, 3) := by decide +kernel
theorem dX8_isProvedBy_13 : decode cX8_isProvedBy 13 = .ok (.iconst 1, 1) := by decide +kernel
theorem dX8_isProvedBy_14 : decode cX8_isProvedBy 14 = .ok (.if_icmp .ne 7, 3) := by decide +kernel
theorem dX8_isProvedBy_17 : decode cX8_isProvedBy 17 = .ok (.iconst 1, 1) := by decide +kernel
theorem dX8_isProvedBy_18 : decode cX8_isProvedBy 18 = .ok (.goto 4, 3) := by decide +kernel
theorem dX8_isProvedBy_21 : decode cX8_isProvedBy 21 = .ok (.iconst 0, 1) := by decide +kernel
theorem dX8_isProvedBy_22 : decode cX8_isProvedBy 22 = .ok (.ireturn, 1) := by decide +kernel
set_option maxRecDepth 4000 in
theorem kX8_isProvedBy (G : GT) {σ : St} {a1 : Int32} {a2 : Int32} : ∀ (r : Int32) , fX8_isProvedBy σ a1 a2 = some r → MCt G 4 yX8_isProvedBy cX8_isProvedBy 3 (some .boolean) [.ref (gad G 62), .int a1, .int a2] σ (some (.int r)) σ := by
  intro r hF
  refine met_zz (by decide) (Nat.le_of_ble_eq_true rfl) (fun X cx hE => ?_)
  have cx : Cx G X RX8 cX8_isProvedBy 3 4 := cx
  unfold fX8_isProvedBy at hF
  show WW G X 3 σ [(0, .ref (gad G 62)), (1, .int a1), (2, .int a2)] 0 []
  refine ww_aload_n cx dX8_isProvedBy_0 rfl 0 rfl ?_
  refine ww_aload_n cx dX8_isProvedBy_1 rfl 0 rfl ?_
  refine ww_V0_pi kv_X8_257 rfl cx sh_62 ⟨Nat.le_of_ble_eq_true rfl, Nat.le_of_ble_eq_true rfl⟩ (Nat.le_of_ble_eq_true rfl) dX8_isProvedBy_2 (kX8_saltNow G) hF (fun r1 hF => ?_)
  refine ww_iload_n cx dX8_isProvedBy_5 rfl 1 rfl ?_
  refine ww_V2_pi kv_X8_307 rfl cx sh_62 ⟨Nat.le_of_ble_eq_true rfl, Nat.le_of_ble_eq_true rfl⟩ (Nat.le_of_ble_eq_true rfl) dX8_isProvedBy_6 (kX8_provedBy G) hF (fun r2 hF => ?_)
  refine ww_iload_n cx dX8_isProvedBy_9 rfl 2 rfl ?_
  refine ww_S2_pi kv_X8_168 cx ⟨Nat.le_of_ble_eq_true rfl, Nat.le_of_ble_eq_true rfl⟩ (Nat.le_of_ble_eq_true rfl) dX8_isProvedBy_10 (kX8_bit G) hF (fun r3 hF => ?_)
  refine ww_iconst cx dX8_isProvedBy_13 ic_1 ?_
  refine ww_icmp_ne cx dX8_isProvedBy_14 (tgt := 21) rfl hF (fun hF => ?_) (fun hF => ?_)
  · refine ww_iconst cx dX8_isProvedBy_21 ic_0 ?_
    exact ww_rzp hE dX8_isProvedBy_22 hF
  · refine ww_iconst cx dX8_isProvedBy_17 ic_1 ?_
    refine ww_goto cx dX8_isProvedBy_18 (tgt := 22) rfl ?_
    exact ww_rzp hE dX8_isProvedBy_22 hF
theorem dX8_kitchen_0 : decode cX8_kitchen 0 = .ok (.aload_n 0, 1) := by decide +kernel
theorem dX8_kitchen_1 : decode cX8_kitchen 1 = .ok (.iload_n 1, 1) := by decide +kernel
theorem dX8_kitchen_2 : decode cX8_kitchen 2 = .ok (.iload_n 2, 1) := by decide +kernel
theorem dX8_kitchen_3 : decode cX8_kitchen 3 = .ok (.i2l, 1) := by decide +kernel
theorem dX8_kitchen_4 : decode cX8_kitchen 4 = .ok (.lconst 0, 1) := by decide +kernel
theorem dX8_kitchen_5 : decode cX8_kitchen 5 = .ok (.ldc2_w 81, 3) := by decide +kernel
theorem dX8_kitchen_8 : decode cX8_kitchen 8 = .ok (.invokestatic 83, 3) := by decide +kernel
theorem dX8_kitchen_11 : decode cX8_kitchen 11 = .ok (.invokevirtual 409, 3) := by decide +kernel
theorem dX8_kitchen_14 : decode cX8_kitchen 14 = .ok (.istore_n 3, 1) := by decide +kernel
theorem dX8_kitchen_15 : decode cX8_kitchen 15 = .ok (.iload_n 3, 1) := by decide +kernel
theorem dX8_kitchen_16 : decode cX8_kitchen 16 = .ok (.ifCond .ge 5, 3) := by decide +kernel
theorem dX8_kitchen_19 : decode cX8_kitchen 19 = .ok (.iload_n 3, 1) := by decide +kernel
theorem dX8_kitchen_20 : decode cX8_kitchen 20 = .ok (.ireturn, 1) := by decide +kernel
theorem dX8_kitchen_21 : decode cX8_kitchen 21 = .ok (.aload_n 0, 1) := by decide +kernel
theorem dX8_kitchen_22 : decode cX8_kitchen 22 = .ok (.iload_n 1, 1) := by decide +kernel
theorem dX8_kitchen_23 : decode cX8_kitchen 23 = .ok (.invokevirtual 412, 3) := by decide +kernel
theorem dX8_kitchen_26 : decode cX8_kitchen 26 = .ok (.iconst 0, 1) := by decide +kernel
theorem dX8_kitchen_27 : decode cX8_kitchen 27 = .ok (.istore 4, 2) := by decide +kernel
theorem dX8_kitchen_29 : decode cX8_kitchen 29 = .ok (.iconst 0, 1) := by decide +kernel
theorem dX8_kitchen_30 : decode cX8_kitchen 30 = .ok (.istore 5, 2) := by decide +kernel
theorem dX8_kitchen_32 : decode cX8_kitchen 32 = .ok (.iload 5, 2) := by decide +kernel
theorem dX8_kitchen_34 : decode cX8_kitchen 34 = .ok (.aload_n 0, 1) := by decide +kernel
theorem dX8_kitchen_35 : decode cX8_kitchen 35 = .ok (.getfield 9, 3) := by decide +kernel
theorem dX8_kitchen_38 : decode cX8_kitchen 38 = .ok (.iconst 3, 1) := by decide +kernel
theorem dX8_kitchen_39 : decode cX8_kitchen 39 = .ok (.iaload, 1) := by decide +kernel
theorem dX8_kitchen_40 : decode cX8_kitchen 40 = .ok (.if_icmp .ge 48, 3) := by decide +kernel
theorem dX8_kitchen_43 : decode cX8_kitchen 43 = .ok (.iload 4, 2) := by decide +kernel
theorem dX8_kitchen_45 : decode cX8_kitchen 45 = .ok (.aload_n 0, 1) := by decide +kernel
theorem dX8_kitchen_46 : decode cX8_kitchen 46 = .ok (.getfield 46, 3) := by decide +kernel
theorem dX8_kitchen_49 : decode cX8_kitchen 49 = .ok (.iload 5, 2) := by decide +kernel
theorem dX8_kitchen_51 : decode cX8_kitchen 51 = .ok (.iaload, 1) := by decide +kernel
theorem dX8_kitchen_52 : decode cX8_kitchen 52 = .ok (.iconst (-1), 1) := by decide +kernel
theorem dX8_kitchen_53 : decode cX8_kitchen 53 = .ok (.if_icmp .eq 25, 3) := by decide +kernel
theorem dX8_kitchen_56 : decode cX8_kitchen 56 = .ok (.aload_n 0, 1) := by decide +kernel
theorem dX8_kitchen_57 : decode cX8_kitchen 57 = .ok (.invokevirtual 257, 3) := by decide +kernel
theorem dX8_kitchen_60 : decode cX8_kitchen 60 = .ok (.iload 5, 2) := by decide +kernel
theorem dX8_kitchen_62 : decode cX8_kitchen 62 = .ok (.invokestatic 168, 3) := by decide +kernel
theorem dX8_kitchen_65 : decode cX8_kitchen 65 = .ok (.ifCond .ne 13, 3) := by decide +kernel
theorem dX8_kitchen_68 : decode cX8_kitchen 68 = .ok (.aload_n 0, 1) := by decide +kernel
theorem dX8_kitchen_69 : decode cX8_kitchen 69 = .ok (.iload 5, 2) := by decide +kernel
theorem dX8_kitchen_71 : decode cX8_kitchen 71 = .ok (.iconst 0, 1) := by decide +kernel
theorem dX8_kitchen_72 : decode cX8_kitchen 72 = .ok (.invokevirtual 91, 3) := by decide +kernel
theorem dX8_kitchen_75 : decode cX8_kitchen 75 = .ok (.goto 4, 3) := by decide +kernel
theorem dX8_kitchen_78 : decode cX8_kitchen 78 = .ok (.iconst 0, 1) := by decide +kernel
theorem dX8_kitchen_79 : decode cX8_kitchen 79 = .ok (.iadd, 1) := by decide +kernel
theorem dX8_kitchen_80 : decode cX8_kitchen 80 = .ok (.istore 4, 2) := by decide +kernel
theorem dX8_kitchen_82 : decode cX8_kitchen 82 = .ok (.iinc 5 1, 3) := by decide +kernel
theorem dX8_kitchen_85 : decode cX8_kitchen 85 = .ok (.goto (-53), 3) := by decide +kernel
theorem dX8_kitchen_88 : decode cX8_kitchen 88 = .ok (.iload_n 2, 1) := by decide +kernel
theorem dX8_kitchen_89 : decode cX8_kitchen 89 = .ok (.ifCond .ne 10, 3) := by decide +kernel
theorem dX8_kitchen_92 : decode cX8_kitchen 92 = .ok (.aload_n 0, 1) := by decide +kernel
theorem dX8_kitchen_93 : decode cX8_kitchen 93 = .ok (.getfield 403, 3) := by decide +kernel
theorem dX8_kitchen_96 : decode cX8_kitchen 96 = .ok (.goto 17, 3) := by decide +kernel
theorem dX8_kitchen_99 : decode cX8_kitchen 99 = .ok (.iload_n 2, 1) := by decide +kernel
theorem dX8_kitchen_100 : decode cX8_kitchen 100 = .ok (.iconst 1, 1) := by decide +kernel
theorem dX8_kitchen_101 : decode cX8_kitchen 101 = .ok (.if_icmp .ne 10, 3) := by decide +kernel
theorem dX8_kitchen_104 : decode cX8_kitchen 104 = .ok (.aload_n 0, 1) := by decide +kernel
theorem dX8_kitchen_105 : decode cX8_kitchen 105 = .ok (.getfield 400, 3) := by decide +kernel
theorem dX8_kitchen_108 : decode cX8_kitchen 108 = .ok (.goto 5, 3) := by decide +kernel
theorem dX8_kitchen_111 : decode cX8_kitchen 111 = .ok (.iload 4, 2) := by decide +kernel
theorem dX8_kitchen_113 : decode cX8_kitchen 113 = .ok (.ireturn, 1) := by decide +kernel
set_option maxRecDepth 4000 in
theorem kX8_kitchen (G : GT) {σ : St} {a1 : Int32} {a2 : Int32} : ∀ (r : Int32) (σo : St) , fX8_kitchen σ a1 a2 = some (r, σo) → MCt G 4 yX8_kitchen cX8_kitchen 6 (some .int) [.ref (gad G 62), .int a1, .int a2] σ (some (.int r)) σo := by
  intro r σo hF
  refine met_i (by decide) (Nat.le_of_ble_eq_true rfl) (fun X cx hE => ?_)
  have cx : Cx G X RX8 cX8_kitchen 6 4 := cx
  have hb79 : ∀ (kr32 : St → Int32 → Int32 → Int32 → Option (Int32 × St)), (∀ (σ : St) (x2 : Int32) (x4 : Int32) (x5 : Int32) , kr32 σ x2 x4 x5 = some (r, σo) → WW G X 6 σ [(0, .ref (gad G 62)), (2, .int x2), (4, .int x4), (5, .int x5)] 32 []) → ∀ (σ : St) (x2 : Int32) (x5 : Int32) (y0 : Int32) (y1 : Int32) , fX8_kitchen_b79 kr32 σ x2 x5 y0 y1 = some (r, σo) → WW G X 6 σ [(0, .ref (gad G 62)), (2, .int x2), (5, .int x5)] 79 [.int y1, .int y0] := by
    intro kr32 hk32
    intro σ x2 x5 y0 y1 hF
    unfold fX8_kitchen_b79 at hF
    refine ww_iadd cx dX8_kitchen_79 ?_
    refine ww_istore (ks := [0, 1, 2, 3]) (lv' := fun v1 => [(4, .int v1), (0, .ref (gad G 62)), (2, .int x2), (5, .int x5)]) cx dX8_kitchen_80 (by decide) hF (fun _ => rfl) (fun v1 hF => ?_)
    refine ww_iinc (j := 3) (ks := [0, 1, 2, 3]) (lv' := fun v2 => [(5, .int v2), (4, .int v1), (0, .ref (gad G 62)), (2, .int x2)]) cx dX8_kitchen_82 (by decide) rfl ic_1 hF (fun _ => rfl) (fun v2 hF => ?_)
    refine ww_goto cx dX8_kitchen_85 (tgt := 32) rfl ?_
    exact ww_sub [2, 3, 1, 0] rfl (hk32 _ _ _ _ hF)
  have hb78 : ∀ (kr32 : St → Int32 → Int32 → Int32 → Option (Int32 × St)), (∀ (σ : St) (x2 : Int32) (x4 : Int32) (x5 : Int32) , kr32 σ x2 x4 x5 = some (r, σo) → WW G X 6 σ [(0, .ref (gad G 62)), (2, .int x2), (4, .int x4), (5, .int x5)] 32 []) → ∀ (σ : St) (x2 : Int32) (x5 : Int32) (y0 : Int32) , fX8_kitchen_b78 kr32 σ x2 x5 y0 = some (r, σo) → WW G X 6 σ [(0, .ref (gad G 62)), (2, .int x2), (5, .int x5)] 78 [.int y0] := by
    intro kr32 hk32
    intro σ x2 x5 y0 hF
    unfold fX8_kitchen_b78 at hF
    refine ww_iconst cx dX8_kitchen_78 ic_0 ?_
    exact hb79 _ hk32 _ _ _ _ _ hF
  have hl32 : ∀ n : Nat, ∀ (σ : St) (x2 : Int32) (x4 : Int32) (x5 : Int32) , fX8_kitchen_l32 n σ x2 x4 x5 = some (r, σo) → WW G X 6 σ [(0, .ref (gad G 62)), (2, .int x2), (4, .int x4), (5, .int x5)] 32 [] := by
    intro n
    induction n with
    | zero =>
      intro σ x2 x4 x5 hF
      exact absurd hF (by intro z; cases z)
    | succ n ih =>
      intro σ x2 x4 x5 hF
      have hk32 := ih
      have hF : fX8_kitchen_B32 (fX8_kitchen_l32 n) σ x2 x4 x5 = some (r, σo) := hF
      unfold fX8_kitchen_B32 at hF
      refine ww_iload cx dX8_kitchen_32 3 rfl ?_
      refine ww_aload_n cx dX8_kitchen_34 rfl 0 rfl ?_
      refine gf_X8_9 cx dX8_kitchen_35 ?_
      refine ww_iconst cx dX8_kitchen_38 ic_3 ?_
      refine ww_iald (N := 77) cx (sh_63) dX8_kitchen_39 hF (fun hF => ?_)
      refine ww_icmp_ge cx dX8_kitchen_40 (tgt := 88) rfl hF (fun hF => ?_) (fun hF => ?_)
      · refine ww_iload_n cx dX8_kitchen_88 rfl 1 rfl ?_
        refine ww_if_ne cx dX8_kitchen_89 (tgt := 99) rfl hF (fun hF => ?_) (fun hF => ?_)
        · refine ww_iload_n cx dX8_kitchen_99 rfl 1 rfl ?_
          refine ww_iconst cx dX8_kitchen_100 ic_1 ?_
          refine ww_icmp_ne cx dX8_kitchen_101 (tgt := 111) rfl hF (fun hF => ?_) (fun hF => ?_)
          · refine ww_iload cx dX8_kitchen_111 2 rfl ?_
            exact ww_ris hE dX8_kitchen_113 hF
          · refine ww_aload_n cx dX8_kitchen_104 rfl 0 rfl ?_
            refine gf_X8_400 cx dX8_kitchen_105 ?_
            refine ww_goto cx dX8_kitchen_108 (tgt := 113) rfl ?_
            exact ww_ris hE dX8_kitchen_113 hF
        · refine ww_aload_n cx dX8_kitchen_92 rfl 0 rfl ?_
          refine gf_X8_403 cx dX8_kitchen_93 ?_
          refine ww_goto cx dX8_kitchen_96 (tgt := 113) rfl ?_
          exact ww_ris hE dX8_kitchen_113 hF
      · refine ww_iload cx dX8_kitchen_43 2 rfl ?_
        refine ww_aload_n cx dX8_kitchen_45 rfl 0 rfl ?_
        refine gf_X8_46 cx dX8_kitchen_46 ?_
        refine ww_iload cx dX8_kitchen_49 3 rfl ?_
        refine ww_iald (N := 12) cx (sh_73) dX8_kitchen_51 hF (fun hF => ?_)
        refine ww_iconst cx dX8_kitchen_52 ic_m1 ?_
        refine ww_icmp_eq cx dX8_kitchen_53 (tgt := 78) rfl hF (fun hF => ?_) (fun hF => ?_)
        · exact ww_sub [0, 1, 3] rfl (hb78 _ hk32 _ _ _ _ hF)
        · refine ww_aload_n cx dX8_kitchen_56 rfl 0 rfl ?_
          refine ww_V0_pi kv_X8_257 rfl cx sh_62 ⟨Nat.le_of_ble_eq_true rfl, Nat.le_of_ble_eq_true rfl⟩ (Nat.le_of_ble_eq_true rfl) dX8_kitchen_57 (kX8_saltNow G) hF (fun r3 hF => ?_)
          refine ww_iload cx dX8_kitchen_60 3 rfl ?_
          refine ww_S2_pi kv_X8_168 cx ⟨Nat.le_of_ble_eq_true rfl, Nat.le_of_ble_eq_true rfl⟩ (Nat.le_of_ble_eq_true rfl) dX8_kitchen_62 (kX8_bit G) hF (fun r4 hF => ?_)
          refine ww_if_ne cx dX8_kitchen_65 (tgt := 78) rfl hF (fun hF => ?_) (fun hF => ?_)
          · exact ww_sub [0, 1, 3] rfl (hb78 _ hk32 _ _ _ _ hF)
          · refine ww_aload_n cx dX8_kitchen_68 rfl 0 rfl ?_
            refine ww_iload cx dX8_kitchen_69 3 rfl ?_
            refine ww_iconst cx dX8_kitchen_71 ic_0 ?_
            refine ww_V2_pi kv_X8_91 rfl cx sh_62 ⟨Nat.le_of_ble_eq_true rfl, Nat.le_of_ble_eq_true rfl⟩ (Nat.le_of_ble_eq_true rfl) dX8_kitchen_72 (kX8_ofClaim G) hF (fun r5 hF => ?_)
            refine ww_goto cx dX8_kitchen_75 (tgt := 79) rfl ?_
            exact ww_sub [0, 1, 3] rfl (hb79 _ hk32 _ _ _ _ _ hF)
  unfold fX8_kitchen at hF
  show WW G X 6 σ [(0, .ref (gad G 62)), (1, .int a1), (2, .int a2)] 0 []
  refine ww_aload_n cx dX8_kitchen_0 rfl 0 rfl ?_
  refine ww_iload_n cx dX8_kitchen_1 rfl 1 rfl ?_
  refine ww_iload_n cx dX8_kitchen_2 rfl 2 rfl ?_
  refine ww_i2l cx dX8_kitchen_3 ?_
  refine ww_lconst cx dX8_kitchen_4 lc_0 ?_
  refine ww_ldc2 (v := 2) cx dX8_kitchen_5 cn_X8_81 ?_
  refine ww_S3_pi kv_X8_83 cx ⟨Nat.le_of_ble_eq_true rfl, Nat.le_of_ble_eq_true rfl⟩ (Nat.le_of_ble_eq_true rfl) dX8_kitchen_8 (kX8_in G) hF (fun r6 hF => ?_)
  refine ww_V2_pi kv_X8_409 rfl cx sh_62 ⟨Nat.le_of_ble_eq_true rfl, Nat.le_of_ble_eq_true rfl⟩ (Nat.le_of_ble_eq_true rfl) dX8_kitchen_11 (kX8_asksKitchen G) hF (fun r7 hF => ?_)
  refine ww_istore_n (ks := [0, 1, 2, 3]) (lv' := fun v8 => [(3, .int v8), (0, .ref (gad G 62)), (1, .int a1), (2, .int a2)]) cx dX8_kitchen_14 rfl (by decide) hF (fun _ => rfl) (fun v8 hF => ?_)
  refine ww_iload_n cx dX8_kitchen_15 rfl 0 rfl ?_
  refine ww_if_ge cx dX8_kitchen_16 (tgt := 21) rfl hF (fun hF => ?_) (fun hF => ?_)
  · refine ww_aload_n cx dX8_kitchen_21 rfl 1 rfl ?_
    refine ww_iload_n cx dX8_kitchen_22 rfl 2 rfl ?_
    refine ww_V1_sv kv_X8_412 rfl cx sh_62 ⟨Nat.le_of_ble_eq_true rfl, Nat.le_of_ble_eq_true rfl⟩ (Nat.le_of_ble_eq_true rfl) dX8_kitchen_23 (kX8_goKitchen G) hF (fun σ9 hF => ?_)
    refine ww_iconst cx dX8_kitchen_26 ic_0 ?_
    refine ww_istore (ks := [0, 2, 4]) (lv' := fun v10 => [(4, .int v10), (0, .ref (gad G 62)), (2, .int a2)]) cx dX8_kitchen_27 (by decide) hF (fun _ => rfl) (fun v10 hF => ?_)
    refine ww_iconst cx dX8_kitchen_29 ic_0 ?_
    refine ww_istore (ks := [0, 1, 2, 3]) (lv' := fun v11 => [(5, .int v11), (4, .int v10), (0, .ref (gad G 62)), (2, .int a2)]) cx dX8_kitchen_30 (by decide) hF (fun _ => rfl) (fun v11 hF => ?_)
    exact ww_sub [2, 3, 1, 0] rfl (hl32 FU _ _ _ _ hF)
  · refine ww_iload_n cx dX8_kitchen_19 rfl 0 rfl ?_
    exact ww_ris hE dX8_kitchen_20 hF
theorem dX8_lasts_0 : decode cX8_lasts 0 = .ok (.aload_n 0, 1) := by decide +kernel
theorem dX8_lasts_1 : decode cX8_lasts 1 = .ok (.invokevirtual 291, 3) := by decide +kernel
theorem dX8_lasts_4 : decode cX8_lasts 4 = .ok (.ifCond .ne 6, 3) := by decide +kernel
theorem dX8_lasts_7 : decode cX8_lasts 7 = .ok (.bipush (-2), 2) := by decide +kernel
theorem dX8_lasts_9 : decode cX8_lasts 9 = .ok (.ireturn, 1) := by decide +kernel
theorem dX8_lasts_10 : decode cX8_lasts 10 = .ok (.aload_n 0, 1) := by decide +kernel
theorem dX8_lasts_11 : decode cX8_lasts 11 = .ok (.invokevirtual 418, 3) := by decide +kernel
theorem dX8_lasts_14 : decode cX8_lasts 14 = .ok (.aload_n 0, 1) := by decide +kernel
theorem dX8_lasts_15 : decode cX8_lasts 15 = .ok (.getfield 58, 3) := by decide +kernel
theorem dX8_lasts_18 : decode cX8_lasts 18 = .ok (.aload_n 0, 1) := by decide +kernel
theorem dX8_lasts_19 : decode cX8_lasts 19 = .ok (.invokevirtual 257, 3) := by decide +kernel
theorem dX8_lasts_22 : decode cX8_lasts 22 = .ok (.iaload, 1) := by decide +kernel
theorem dX8_lasts_23 : decode cX8_lasts 23 = .ok (.istore_n 1, 1) := by decide +kernel
theorem dX8_lasts_24 : decode cX8_lasts 24 = .ok (.iload_n 1, 1) := by decide +kernel
theorem dX8_lasts_25 : decode cX8_lasts 25 = .ok (.ifCond .le 10, 3) := by decide +kernel
theorem dX8_lasts_28 : decode cX8_lasts 28 = .ok (.bipush 100, 2) := by decide +kernel
theorem dX8_lasts_30 : decode cX8_lasts 30 = .ok (.iload_n 1, 1) := by decide +kernel
theorem dX8_lasts_31 : decode cX8_lasts 31 = .ok (.isub, 1) := by decide +kernel
theorem dX8_lasts_32 : decode cX8_lasts 32 = .ok (.goto 7, 3) := by decide +kernel
theorem dX8_lasts_35 : decode cX8_lasts 35 = .ok (.iload_n 1, 1) := by decide +kernel
theorem dX8_lasts_36 : decode cX8_lasts 36 = .ok (.bipush 100, 2) := by decide +kernel
theorem dX8_lasts_38 : decode cX8_lasts 38 = .ok (.iadd, 1) := by decide +kernel
theorem dX8_lasts_39 : decode cX8_lasts 39 = .ok (.ireturn, 1) := by decide +kernel
set_option maxRecDepth 4000 in
theorem kX8_lasts (G : GT) {σ : St} : ∀ (r : Int32) (σo : St) , fX8_lasts σ = some (r, σo) → MCt G 4 yX8_lasts cX8_lasts 2 (some .int) [.ref (gad G 62)] σ (some (.int r)) σo := by
  intro r σo hF
  refine met_i (by decide) (Nat.le_of_ble_eq_true rfl) (fun X cx hE => ?_)
  have cx : Cx G X RX8 cX8_lasts 2 4 := cx
  unfold fX8_lasts at hF
  show WW G X 2 σ [(0, .ref (gad G 62))] 0 []
  refine ww_aload_n cx dX8_lasts_0 rfl 0 rfl ?_
  refine ww_V0_pi kv_X8_291 rfl cx sh_62 ⟨Nat.le_of_ble_eq_true rfl, Nat.le_of_ble_eq_true rfl⟩ (Nat.le_of_ble_eq_true rfl) dX8_lasts_1 (kX8_isTable G) hF (fun r1 hF => ?_)
  refine ww_if_ne cx dX8_lasts_4 (tgt := 10) rfl hF (fun hF => ?_) (fun hF => ?_)
  · refine ww_aload_n cx dX8_lasts_10 rfl 0 rfl ?_
    refine ww_V0_sv kv_X8_418 rfl cx sh_62 ⟨Nat.le_of_ble_eq_true rfl, Nat.le_of_ble_eq_true rfl⟩ (Nat.le_of_ble_eq_true rfl) dX8_lasts_11 (kX8_fillDuel G) hF (fun σ2 hF => ?_)
    refine ww_aload_n cx dX8_lasts_14 rfl 0 rfl ?_
    refine gf_X8_58 cx dX8_lasts_15 ?_
    refine ww_aload_n cx dX8_lasts_18 rfl 0 rfl ?_
    refine ww_V0_pi kv_X8_257 rfl cx sh_62 ⟨Nat.le_of_ble_eq_true rfl, Nat.le_of_ble_eq_true rfl⟩ (Nat.le_of_ble_eq_true rfl) dX8_lasts_19 (kX8_saltNow G) hF (fun r3 hF => ?_)
    refine ww_iald (N := 4096) cx (sh_77) dX8_lasts_22 hF (fun hF => ?_)
    refine ww_istore_n (ks := [0]) (lv' := fun v4 => [(1, .int v4)]) cx dX8_lasts_23 rfl (by decide) hF (fun _ => rfl) (fun v4 hF => ?_)
    refine ww_iload_n cx dX8_lasts_24 rfl 0 rfl ?_
    refine ww_if_le cx dX8_lasts_25 (tgt := 35) rfl hF (fun hF => ?_) (fun hF => ?_)
    · refine ww_iload_n cx dX8_lasts_35 rfl 0 rfl ?_
      refine ww_bipush cx dX8_lasts_36 bc_100 ?_
      refine ww_iadd cx dX8_lasts_38 ?_
      exact ww_ris hE dX8_lasts_39 hF
    · refine ww_bipush cx dX8_lasts_28 bc_100 ?_
      refine ww_iload_n cx dX8_lasts_30 rfl 0 rfl ?_
      refine ww_isub cx dX8_lasts_31 ?_
      refine ww_goto cx dX8_lasts_32 (tgt := 39) rfl ?_
      exact ww_ris hE dX8_lasts_39 hF
  · refine ww_bipush cx dX8_lasts_7 bc_m2 ?_
    exact ww_ris hE dX8_lasts_9 hF
