theorem dX7_image_0 : decode cX7_image 0 = .ok (.iload_n 1, 1) := by decide +kernel
theorem dX7_image_1 : decode cX7_image 1 = .ok (.ifCond .lt 8, 3) := by decide +kernel
theorem dX7_image_4 : decode cX7_image 4 = .ok (.iload_n 1, 1) := by decide +kernel
theorem dX7_image_5 : decode cX7_image 5 = .ok (.iconst 3, 1) := by decide +kernel
theorem dX7_image_6 : decode cX7_image 6 = .ok (.if_icmp .lt 6, 3) := by decide +kernel
theorem dX7_image_9 : decode cX7_image 9 = .ok (.bipush (-2), 2) := by decide +kernel
theorem dX7_image_11 : decode cX7_image 11 = .ok (.ireturn, 1) := by decide +kernel
theorem dX7_image_12 : decode cX7_image 12 = .ok (.aload_n 0, 1) := by decide +kernel
theorem dX7_image_13 : decode cX7_image 13 = .ok (.getfield 26, 3) := by decide +kernel
theorem dX7_image_16 : decode cX7_image 16 = .ok (.iload_n 1, 1) := by decide +kernel
theorem dX7_image_17 : decode cX7_image 17 = .ok (.aaload, 1) := by decide +kernel
theorem dX7_image_18 : decode cX7_image 18 = .ok (.aload_n 0, 1) := by decide +kernel
theorem dX7_image_19 : decode cX7_image 19 = .ok (.getfield 19, 3) := by decide +kernel
theorem dX7_image_22 : decode cX7_image 22 = .ok (.invokevirtual 88, 3) := by decide +kernel
theorem dX7_image_25 : decode cX7_image 25 = .ok (.aload_n 0, 1) := by decide +kernel
theorem dX7_image_26 : decode cX7_image 26 = .ok (.getfield 30, 3) := by decide +kernel
theorem dX7_image_29 : decode cX7_image 29 = .ok (.iload_n 1, 1) := by decide +kernel
theorem dX7_image_30 : decode cX7_image 30 = .ok (.iconst 1, 1) := by decide +kernel
theorem dX7_image_31 : decode cX7_image 31 = .ok (.bastore, 1) := by decide +kernel
theorem dX7_image_32 : decode cX7_image 32 = .ok (.iconst 0, 1) := by decide +kernel
theorem dX7_image_33 : decode cX7_image 33 = .ok (.ireturn, 1) := by decide +kernel
set_option maxRecDepth 4000 in
theorem kX7_image (G : GT) {σ : St} {a1 : Int32} : ∀ (r : Int32) (σo : St) , fX7_image σ a1 = some (r, σo) → MCt G 3 yX7_image cX7_image 2 (some .int) [.ref (gad G 0), .int a1] σ (some (.int r)) σo := by
  intro r σo hF
  refine met_i (by decide) (Nat.le_of_ble_eq_true rfl) (fun X cx hE => ?_)
  have cx : Cx G X RX7 cX7_image 2 3 := cx
  unfold fX7_image at hF
  show WW G X 2 σ [(0, .ref (gad G 0)), (1, .int a1)] 0 []
  refine ww_iload_n cx dX7_image_0 rfl 1 rfl ?_
  refine ww_if_lt cx dX7_image_1 (tgt := 9) rfl hF (fun hF => ?_) (fun hF => ?_)
  · refine ww_bipush cx dX7_image_9 bc_m2 ?_
    exact ww_ris hE dX7_image_11 hF
  · refine ww_iload_n cx dX7_image_4 rfl 1 rfl ?_
    refine ww_iconst cx dX7_image_5 ic_3 ?_
    refine ww_icmp_lt cx dX7_image_6 (tgt := 12) rfl hF (fun hF => ?_) (fun hF => ?_)
    · refine ww_aload_n cx dX7_image_12 rfl 0 rfl ?_
      refine gf_X7_26 cx dX7_image_13 ?_
      refine ww_iload_n cx dX7_image_16 rfl 1 rfl ?_
      refine ww_aaldT cx dX7_image_17 hF (fun k1 hk1 hF => ?_)
      refine ww_aload_n cx dX7_image_18 rfl 0 rfl ?_
      refine gf_X7_19 cx dX7_image_19 ?_
      refine ww_V1_sv kv_X7_88 rfl cx ((hk1).1) ⟨Nat.le_of_ble_eq_true rfl, Nat.le_of_ble_eq_true rfl⟩ (Nat.le_of_ble_eq_true rfl) dX7_image_22 (kX6_copyFrom G (hk1) (isTab_3)) hF (fun σ2 hF => ?_)
      refine ww_aload_n cx dX7_image_25 rfl 0 rfl ?_
      refine gf_X7_30 cx dX7_image_26 ?_
      refine ww_iload_n cx dX7_image_29 rfl 1 rfl ?_
      refine ww_iconst cx dX7_image_30 ic_1 ?_
      refine ww_zast (N := 3) cx (sh_18) dX7_image_31 hF (fun σ3 hF => ?_)
      refine ww_iconst cx dX7_image_32 ic_0 ?_
      exact ww_ris hE dX7_image_33 hF
    · refine ww_bipush cx dX7_image_9 bc_m2 ?_
      exact ww_ris hE dX7_image_11 hF
theorem dX7_likely_0 : decode cX7_likely 0 = .ok (.aload_n 0, 1) := by decide +kernel
theorem dX7_likely_1 : decode cX7_likely 1 = .ok (.getfield 19, 3) := by decide +kernel
theorem dX7_likely_4 : decode cX7_likely 4 = .ok (.iload_n 1, 1) := by decide +kernel
theorem dX7_likely_5 : decode cX7_likely 5 = .ok (.invokevirtual 101, 3) := by decide +kernel
theorem dX7_likely_8 : decode cX7_likely 8 = .ok (.ifCond .eq 10, 3) := by decide +kernel
theorem dX7_likely_11 : decode cX7_likely 11 = .ok (.iload_n 2, 1) := by decide +kernel
theorem dX7_likely_12 : decode cX7_likely 12 = .ok (.invokestatic 270, 3) := by decide +kernel
theorem dX7_likely_15 : decode cX7_likely 15 = .ok (.ifCond .ne 6, 3) := by decide +kernel
theorem dX7_likely_18 : decode cX7_likely 18 = .ok (.bipush (-2), 2) := by decide +kernel
theorem dX7_likely_20 : decode cX7_likely 20 = .ok (.ireturn, 1) := by decide +kernel
theorem dX7_likely_21 : decode cX7_likely 21 = .ok (.aload_n 0, 1) := by decide +kernel
theorem dX7_likely_22 : decode cX7_likely 22 = .ok (.getfield 19, 3) := by decide +kernel
theorem dX7_likely_25 : decode cX7_likely 25 = .ok (.aload_n 0, 1) := by decide +kernel
theorem dX7_likely_26 : decode cX7_likely 26 = .ok (.getfield 19, 3) := by decide +kernel
theorem dX7_likely_29 : decode cX7_likely 29 = .ok (.getfield 109, 3) := by decide +kernel
theorem dX7_likely_32 : decode cX7_likely 32 = .ok (.invokevirtual 153, 3) := by decide +kernel
theorem dX7_likely_35 : decode cX7_likely 35 = .ok (.istore_n 3, 1) := by decide +kernel
theorem dX7_likely_36 : decode cX7_likely 36 = .ok (.iload_n 3, 1) := by decide +kernel
theorem dX7_likely_37 : decode cX7_likely 37 = .ok (.aload_n 0, 1) := by decide +kernel
theorem dX7_likely_38 : decode cX7_likely 38 = .ok (.getfield 19, 3) := by decide +kernel
theorem dX7_likely_41 : decode cX7_likely 41 = .ok (.getfield 112, 3) := by decide +kernel
theorem dX7_likely_44 : decode cX7_likely 44 = .ok (.iload_n 1, 1) := by decide +kernel
theorem dX7_likely_45 : decode cX7_likely 45 = .ok (.iaload, 1) := by decide +kernel
theorem dX7_likely_46 : decode cX7_likely 46 = .ok (.iand, 1) := by decide +kernel
theorem dX7_likely_47 : decode cX7_likely 47 = .ok (.invokestatic 115, 3) := by decide +kernel
theorem dX7_likely_50 : decode cX7_likely 50 = .ok (.istore 4, 2) := by decide +kernel
theorem dX7_likely_52 : decode cX7_likely 52 = .ok (.iload 4, 2) := by decide +kernel
theorem dX7_likely_54 : decode cX7_likely 54 = .ok (.iload_n 3, 1) := by decide +kernel
theorem dX7_likely_55 : decode cX7_likely 55 = .ok (.invokestatic 115, 3) := by decide +kernel
theorem dX7_likely_58 : decode cX7_likely 58 = .ok (.iload_n 2, 1) := by decide +kernel
theorem dX7_likely_59 : decode cX7_likely 59 = .ok (.invokestatic 313, 3) := by decide +kernel
theorem dX7_likely_62 : decode cX7_likely 62 = .ok (.ireturn, 1) := by decide +kernel
set_option maxRecDepth 4000 in
theorem kX7_likely (G : GT) {σ : St} {a1 : Int32} {a2 : Int32} : ∀ (r : Int32) , fX7_likely σ a1 a2 = some r → MCt G 3 yX7_likely cX7_likely 5 (some .int) [.ref (gad G 0), .int a1, .int a2] σ (some (.int r)) σ := by
  intro r hF
  refine met_i (by decide) (Nat.le_of_ble_eq_true rfl) (fun X cx hE => ?_)
  have cx : Cx G X RX7 cX7_likely 5 3 := cx
  unfold fX7_likely at hF
  show WW G X 5 σ [(0, .ref (gad G 0)), (1, .int a1), (2, .int a2)] 0 []
  refine ww_aload_n cx dX7_likely_0 rfl 0 rfl ?_
  refine gf_X7_19 cx dX7_likely_1 ?_
  refine ww_iload_n cx dX7_likely_4 rfl 1 rfl ?_
  refine ww_V1_pi kv_X7_101 rfl cx ((isTab_3).1) ⟨Nat.le_of_ble_eq_true rfl, Nat.le_of_ble_eq_true rfl⟩ (Nat.le_of_ble_eq_true rfl) dX7_likely_5 (kX6_hasClaim G (isTab_3)) hF (fun r1 hF => ?_)
  refine ww_if_eq cx dX7_likely_8 (tgt := 18) rfl hF (fun hF => ?_) (fun hF => ?_)
  · refine ww_bipush cx dX7_likely_18 bc_m2 ?_
    exact ww_rip hE dX7_likely_20 hF
  · refine ww_iload_n cx dX7_likely_11 rfl 2 rfl ?_
    refine ww_S1_pi kv_X7_270 cx ⟨Nat.le_of_ble_eq_true rfl, Nat.le_of_ble_eq_true rfl⟩ (Nat.le_of_ble_eq_true rfl) dX7_likely_12 (kX7_isBit G) hF (fun r2 hF => ?_)
    refine ww_if_ne cx dX7_likely_15 (tgt := 21) rfl hF (fun hF => ?_) (fun hF => ?_)
    · refine ww_aload_n cx dX7_likely_21 rfl 0 rfl ?_
      refine gf_X7_19 cx dX7_likely_22 ?_
      refine ww_aload_n cx dX7_likely_25 rfl 0 rfl ?_
      refine gf_X7_19 cx dX7_likely_26 ?_
      refine gf_X7_109 cx (isTab_3) dX7_likely_29 ?_
      refine ww_V1_pi kv_X7_153 rfl cx ((isTab_3).1) ⟨Nat.le_of_ble_eq_true rfl, Nat.le_of_ble_eq_true rfl⟩ (Nat.le_of_ble_eq_true rfl) dX7_likely_32 (kX6_worldsOf G (isTab_3)) hF (fun r3 hF => ?_)
      refine ww_istore_n (ks := [0, 1, 2, 3]) (lv' := fun v4 => [(3, .int v4), (0, .ref (gad G 0)), (1, .int a1), (2, .int a2)]) cx dX7_likely_35 rfl (by decide) hF (fun _ => rfl) (fun v4 hF => ?_)
      refine ww_iload_n cx dX7_likely_36 rfl 0 rfl ?_
      refine ww_aload_n cx dX7_likely_37 rfl 1 rfl ?_
      refine gf_X7_19 cx dX7_likely_38 ?_
      refine gf_X7_112 cx (isTab_3) dX7_likely_41 ?_
      refine ww_iload_n cx dX7_likely_44 rfl 2 rfl ?_
      refine ww_iald (N := 12) cx (ar_X6_9 isTab_3) dX7_likely_45 hF (fun hF => ?_)
      refine ww_iand cx dX7_likely_46 ?_
      refine ww_S1_pi kv_X7_115 cx ⟨Nat.le_of_ble_eq_true rfl, Nat.le_of_ble_eq_true rfl⟩ (Nat.le_of_ble_eq_true rfl) dX7_likely_47 (kJ6_bitCount_0f7a4 G) hF (fun r5 hF => ?_)
      refine ww_istore (ks := [0, 1, 4]) (lv' := fun v6 => [(4, .int v6), (3, .int v4), (2, .int a2)]) cx dX7_likely_50 (by decide) hF (fun _ => rfl) (fun v6 hF => ?_)
      refine ww_iload cx dX7_likely_52 0 rfl ?_
      refine ww_iload_n cx dX7_likely_54 rfl 1 rfl ?_
      refine ww_S1_pi kv_X7_115 cx ⟨Nat.le_of_ble_eq_true rfl, Nat.le_of_ble_eq_true rfl⟩ (Nat.le_of_ble_eq_true rfl) dX7_likely_55 (kJ6_bitCount_0f7a4 G) hF (fun r7 hF => ?_)
      refine ww_iload_n cx dX7_likely_58 rfl 2 rfl ?_
      refine ww_S3_pi kv_X7_313 cx ⟨Nat.le_of_ble_eq_true rfl, Nat.le_of_ble_eq_true rfl⟩ (Nat.le_of_ble_eq_true rfl) dX7_likely_59 (kX7_partOfFraction G) hF (fun r8 hF => ?_)
      exact ww_rip hE dX7_likely_62 hF
    · refine ww_bipush cx dX7_likely_18 bc_m2 ?_
      exact ww_rip hE dX7_likely_20 hF
theorem dX7_refusalOfDishes_0 : decode cX7_refusalOfDishes 0 = .ok (.aload_n 0, 1) := by decide +kernel
theorem dX7_refusalOfDishes_1 : decode cX7_refusalOfDishes 1 = .ok (.iload_n 1, 1) := by decide +kernel
theorem dX7_refusalOfDishes_2 : decode cX7_refusalOfDishes 2 = .ok (.invokevirtual 393, 3) := by decide +kernel
theorem dX7_refusalOfDishes_5 : decode cX7_refusalOfDishes 5 = .ok (.istore_n 2, 1) := by decide +kernel
theorem dX7_refusalOfDishes_6 : decode cX7_refusalOfDishes 6 = .ok (.iload_n 2, 1) := by decide +kernel
theorem dX7_refusalOfDishes_7 : decode cX7_refusalOfDishes 7 = .ok (.ifCond .eq 5, 3) := by decide +kernel
theorem dX7_refusalOfDishes_10 : decode cX7_refusalOfDishes 10 = .ok (.iload_n 2, 1) := by decide +kernel
theorem dX7_refusalOfDishes_11 : decode cX7_refusalOfDishes 11 = .ok (.ireturn, 1) := by decide +kernel
theorem dX7_refusalOfDishes_12 : decode cX7_refusalOfDishes 12 = .ok (.aload_n 0, 1) := by decide +kernel
theorem dX7_refusalOfDishes_13 : decode cX7_refusalOfDishes 13 = .ok (.getfield 36, 3) := by decide +kernel
theorem dX7_refusalOfDishes_16 : decode cX7_refusalOfDishes 16 = .ok (.iload_n 1, 1) := by decide +kernel
theorem dX7_refusalOfDishes_17 : decode cX7_refusalOfDishes 17 = .ok (.aaload, 1) := by decide +kernel
theorem dX7_refusalOfDishes_18 : decode cX7_refusalOfDishes 18 = .ok (.aload_n 0, 1) := by decide +kernel
theorem dX7_refusalOfDishes_19 : decode cX7_refusalOfDishes 19 = .ok (.getfield 19, 3) := by decide +kernel
theorem dX7_refusalOfDishes_22 : decode cX7_refusalOfDishes 22 = .ok (.getfield 252, 3) := by decide +kernel
theorem dX7_refusalOfDishes_25 : decode cX7_refusalOfDishes 25 = .ok (.invokevirtual 205, 3) := by decide +kernel
theorem dX7_refusalOfDishes_28 : decode cX7_refusalOfDishes 28 = .ok (.ifCond .ne 6, 3) := by decide +kernel
theorem dX7_refusalOfDishes_31 : decode cX7_refusalOfDishes 31 = .ok (.bipush (-2), 2) := by decide +kernel
theorem dX7_refusalOfDishes_33 : decode cX7_refusalOfDishes 33 = .ok (.ireturn, 1) := by decide +kernel
theorem dX7_refusalOfDishes_34 : decode cX7_refusalOfDishes 34 = .ok (.aload_n 0, 1) := by decide +kernel
theorem dX7_refusalOfDishes_35 : decode cX7_refusalOfDishes 35 = .ok (.getfield 36, 3) := by decide +kernel
theorem dX7_refusalOfDishes_38 : decode cX7_refusalOfDishes 38 = .ok (.iload_n 1, 1) := by decide +kernel
theorem dX7_refusalOfDishes_39 : decode cX7_refusalOfDishes 39 = .ok (.aaload, 1) := by decide +kernel
theorem dX7_refusalOfDishes_40 : decode cX7_refusalOfDishes 40 = .ok (.invokevirtual 335, 3) := by decide +kernel
theorem dX7_refusalOfDishes_43 : decode cX7_refusalOfDishes 43 = .ok (.aload_n 0, 1) := by decide +kernel
theorem dX7_refusalOfDishes_44 : decode cX7_refusalOfDishes 44 = .ok (.getfield 19, 3) := by decide +kernel
theorem dX7_refusalOfDishes_47 : decode cX7_refusalOfDishes 47 = .ok (.getfield 109, 3) := by decide +kernel
theorem dX7_refusalOfDishes_50 : decode cX7_refusalOfDishes 50 = .ok (.iand, 1) := by decide +kernel
theorem dX7_refusalOfDishes_51 : decode cX7_refusalOfDishes 51 = .ok (.ifCond .ne 7, 3) := by decide +kernel
theorem dX7_refusalOfDishes_54 : decode cX7_refusalOfDishes 54 = .ok (.iconst 0, 1) := by decide +kernel
theorem dX7_refusalOfDishes_55 : decode cX7_refusalOfDishes 55 = .ok (.goto 5, 3) := by decide +kernel
theorem dX7_refusalOfDishes_58 : decode cX7_refusalOfDishes 58 = .ok (.bipush (-2), 2) := by decide +kernel
theorem dX7_refusalOfDishes_60 : decode cX7_refusalOfDishes 60 = .ok (.ireturn, 1) := by decide +kernel
set_option maxRecDepth 4000 in
theorem kX7_refusalOfDishes (G : GT) {σ : St} {a1 : Int32} : ∀ (r : Int32) , fX7_refusalOfDishes σ a1 = some r → MCt G 3 yX7_refusalOfDishes cX7_refusalOfDishes 3 (some .int) [.ref (gad G 0), .int a1] σ (some (.int r)) σ := by
  intro r hF
  refine met_i (by decide) (Nat.le_of_ble_eq_true rfl) (fun X cx hE => ?_)
  have cx : Cx G X RX7 cX7_refusalOfDishes 3 3 := cx
  unfold fX7_refusalOfDishes at hF
  show WW G X 3 σ [(0, .ref (gad G 0)), (1, .int a1)] 0 []
  refine ww_aload_n cx dX7_refusalOfDishes_0 rfl 0 rfl ?_
  refine ww_iload_n cx dX7_refusalOfDishes_1 rfl 1 rfl ?_
  refine ww_V1_pi kv_X7_393 rfl cx sh_0 ⟨Nat.le_of_ble_eq_true rfl, Nat.le_of_ble_eq_true rfl⟩ (Nat.le_of_ble_eq_true rfl) dX7_refusalOfDishes_2 (kX7_refusalOfSlot G) hF (fun r1 hF => ?_)
  refine ww_istore_n (ks := [0, 1, 2]) (lv' := fun v2 => [(2, .int v2), (0, .ref (gad G 0)), (1, .int a1)]) cx dX7_refusalOfDishes_5 rfl (by decide) hF (fun _ => rfl) (fun v2 hF => ?_)
  refine ww_iload_n cx dX7_refusalOfDishes_6 rfl 0 rfl ?_
  refine ww_if_eq cx dX7_refusalOfDishes_7 (tgt := 12) rfl hF (fun hF => ?_) (fun hF => ?_)
  · refine ww_aload_n cx dX7_refusalOfDishes_12 rfl 1 rfl ?_
    refine gf_X7_36 cx dX7_refusalOfDishes_13 ?_
    refine ww_iload_n cx dX7_refusalOfDishes_16 rfl 2 rfl ?_
    refine ww_aaldR cx dX7_refusalOfDishes_17 hF (fun k3 hk3 hF => ?_)
    refine ww_aload_n cx dX7_refusalOfDishes_18 rfl 1 rfl ?_
    refine gf_X7_19 cx dX7_refusalOfDishes_19 ?_
    refine gf_X7_252 cx (isTab_3) dX7_refusalOfDishes_22 ?_
    refine ww_V1_pi kv_X7_205 rfl cx ((hk3).1) ⟨Nat.le_of_ble_eq_true rfl, Nat.le_of_ble_eq_true rfl⟩ (Nat.le_of_ble_eq_true rfl) dX7_refusalOfDishes_25 (kX4_areAllBelow G (hk3)) hF (fun r4 hF => ?_)
    refine ww_if_ne cx dX7_refusalOfDishes_28 (tgt := 34) rfl hF (fun hF => ?_) (fun hF => ?_)
    · refine ww_aload_n cx dX7_refusalOfDishes_34 rfl 1 rfl ?_
      refine gf_X7_36 cx dX7_refusalOfDishes_35 ?_
      refine ww_iload_n cx dX7_refusalOfDishes_38 rfl 2 rfl ?_
      refine ww_aaldR cx dX7_refusalOfDishes_39 hF (fun k5 hk5 hF => ?_)
      refine ww_V0_pi kv_X7_335 rfl cx ((hk5).1) ⟨Nat.le_of_ble_eq_true rfl, Nat.le_of_ble_eq_true rfl⟩ (Nat.le_of_ble_eq_true rfl) dX7_refusalOfDishes_40 (kX4_asSet G (hk5)) hF (fun r6 hF => ?_)
      refine ww_aload_n cx dX7_refusalOfDishes_43 rfl 1 rfl ?_
      refine gf_X7_19 cx dX7_refusalOfDishes_44 ?_
      refine gf_X7_109 cx (isTab_3) dX7_refusalOfDishes_47 ?_
      refine ww_iand cx dX7_refusalOfDishes_50 ?_
      refine ww_if_ne cx dX7_refusalOfDishes_51 (tgt := 58) rfl hF (fun hF => ?_) (fun hF => ?_)
      · refine ww_bipush cx dX7_refusalOfDishes_58 bc_m2 ?_
        exact ww_rip hE dX7_refusalOfDishes_60 hF
      · refine ww_iconst cx dX7_refusalOfDishes_54 ic_0 ?_
        refine ww_goto cx dX7_refusalOfDishes_55 (tgt := 60) rfl ?_
        exact ww_rip hE dX7_refusalOfDishes_60 hF
    · refine ww_bipush cx dX7_refusalOfDishes_31 bc_m2 ?_
      exact ww_rip hE dX7_refusalOfDishes_33 hF
  · refine ww_iload_n cx dX7_refusalOfDishes_10 rfl 0 rfl ?_
    exact ww_rip hE dX7_refusalOfDishes_11 hF
theorem dX7_refusalOfPairs_0 : decode cX7_refusalOfPairs 0 = .ok (.aload_n 0, 1) := by decide +kernel
theorem dX7_refusalOfPairs_1 : decode cX7_refusalOfPairs 1 = .ok (.iload_n 1, 1) := by decide +kernel
theorem dX7_refusalOfPairs_2 : decode cX7_refusalOfPairs 2 = .ok (.invokevirtual 393, 3) := by decide +kernel
theorem dX7_refusalOfPairs_5 : decode cX7_refusalOfPairs 5 = .ok (.istore_n 2, 1) := by decide +kernel
theorem dX7_refusalOfPairs_6 : decode cX7_refusalOfPairs 6 = .ok (.iload_n 2, 1) := by decide +kernel
theorem dX7_refusalOfPairs_7 : decode cX7_refusalOfPairs 7 = .ok (.ifCond .eq 5, 3) := by decide +kernel
theorem dX7_refusalOfPairs_10 : decode cX7_refusalOfPairs 10 = .ok (.iload_n 2, 1) := by decide +kernel
theorem dX7_refusalOfPairs_11 : decode cX7_refusalOfPairs 11 = .ok (.ireturn, 1) := by decide +kernel
theorem dX7_refusalOfPairs_12 : decode cX7_refusalOfPairs 12 = .ok (.aload_n 0, 1) := by decide +kernel
theorem dX7_refusalOfPairs_13 : decode cX7_refusalOfPairs 13 = .ok (.getfield 36, 3) := by decide +kernel
theorem dX7_refusalOfPairs_16 : decode cX7_refusalOfPairs 16 = .ok (.iload_n 1, 1) := by decide +kernel
theorem dX7_refusalOfPairs_17 : decode cX7_refusalOfPairs 17 = .ok (.aaload, 1) := by decide +kernel
theorem dX7_refusalOfPairs_18 : decode cX7_refusalOfPairs 18 = .ok (.aload_n 0, 1) := by decide +kernel
theorem dX7_refusalOfPairs_19 : decode cX7_refusalOfPairs 19 = .ok (.getfield 19, 3) := by decide +kernel
theorem dX7_refusalOfPairs_22 : decode cX7_refusalOfPairs 22 = .ok (.getfield 345, 3) := by decide +kernel
theorem dX7_refusalOfPairs_25 : decode cX7_refusalOfPairs 25 = .ok (.aload_n 0, 1) := by decide +kernel
theorem dX7_refusalOfPairs_26 : decode cX7_refusalOfPairs 26 = .ok (.getfield 19, 3) := by decide +kernel
theorem dX7_refusalOfPairs_29 : decode cX7_refusalOfPairs 29 = .ok (.getfield 202, 3) := by decide +kernel
theorem dX7_refusalOfPairs_32 : decode cX7_refusalOfPairs 32 = .ok (.invokevirtual 396, 3) := by decide +kernel
theorem dX7_refusalOfPairs_35 : decode cX7_refusalOfPairs 35 = .ok (.ifCond .eq 7, 3) := by decide +kernel
theorem dX7_refusalOfPairs_38 : decode cX7_refusalOfPairs 38 = .ok (.iconst 0, 1) := by decide +kernel
theorem dX7_refusalOfPairs_39 : decode cX7_refusalOfPairs 39 = .ok (.goto 5, 3) := by decide +kernel
theorem dX7_refusalOfPairs_42 : decode cX7_refusalOfPairs 42 = .ok (.bipush (-2), 2) := by decide +kernel
theorem dX7_refusalOfPairs_44 : decode cX7_refusalOfPairs 44 = .ok (.ireturn, 1) := by decide +kernel
set_option maxRecDepth 4000 in
theorem kX7_refusalOfPairs (G : GT) {σ : St} {a1 : Int32} : ∀ (r : Int32) , fX7_refusalOfPairs σ a1 = some r → MCt G 3 yX7_refusalOfPairs cX7_refusalOfPairs 3 (some .int) [.ref (gad G 0), .int a1] σ (some (.int r)) σ := by
  intro r hF
  refine met_i (by decide) (Nat.le_of_ble_eq_true rfl) (fun X cx hE => ?_)
  have cx : Cx G X RX7 cX7_refusalOfPairs 3 3 := cx
  unfold fX7_refusalOfPairs at hF
  show WW G X 3 σ [(0, .ref (gad G 0)), (1, .int a1)] 0 []
  refine ww_aload_n cx dX7_refusalOfPairs_0 rfl 0 rfl ?_
  refine ww_iload_n cx dX7_refusalOfPairs_1 rfl 1 rfl ?_
  refine ww_V1_pi kv_X7_393 rfl cx sh_0 ⟨Nat.le_of_ble_eq_true rfl, Nat.le_of_ble_eq_true rfl⟩ (Nat.le_of_ble_eq_true rfl) dX7_refusalOfPairs_2 (kX7_refusalOfSlot G) hF (fun r1 hF => ?_)
  refine ww_istore_n (ks := [0, 1, 2]) (lv' := fun v2 => [(2, .int v2), (0, .ref (gad G 0)), (1, .int a1)]) cx dX7_refusalOfPairs_5 rfl (by decide) hF (fun _ => rfl) (fun v2 hF => ?_)
  refine ww_iload_n cx dX7_refusalOfPairs_6 rfl 0 rfl ?_
  refine ww_if_eq cx dX7_refusalOfPairs_7 (tgt := 12) rfl hF (fun hF => ?_) (fun hF => ?_)
  · refine ww_aload_n cx dX7_refusalOfPairs_12 rfl 1 rfl ?_
    refine gf_X7_36 cx dX7_refusalOfPairs_13 ?_
    refine ww_iload_n cx dX7_refusalOfPairs_16 rfl 2 rfl ?_
    refine ww_aaldR cx dX7_refusalOfPairs_17 hF (fun k3 hk3 hF => ?_)
    refine ww_aload_n cx dX7_refusalOfPairs_18 rfl 1 rfl ?_
    refine gf_X7_19 cx dX7_refusalOfPairs_19 ?_
    refine gf_X7_345 cx (isTab_3) dX7_refusalOfPairs_22 ?_
    refine ww_aload_n cx dX7_refusalOfPairs_25 rfl 1 rfl ?_
    refine gf_X7_19 cx dX7_refusalOfPairs_26 ?_
    refine gf_X7_202 cx (isTab_3) dX7_refusalOfPairs_29 ?_
    refine ww_V2_pi kv_X7_396 rfl cx ((hk3).1) ⟨Nat.le_of_ble_eq_true rfl, Nat.le_of_ble_eq_true rfl⟩ (Nat.le_of_ble_eq_true rfl) dX7_refusalOfPairs_32 (kX4_arePairsBelow G (hk3)) hF (fun r4 hF => ?_)
    refine ww_if_eq cx dX7_refusalOfPairs_35 (tgt := 42) rfl hF (fun hF => ?_) (fun hF => ?_)
    · refine ww_bipush cx dX7_refusalOfPairs_42 bc_m2 ?_
      exact ww_rip hE dX7_refusalOfPairs_44 hF
    · refine ww_iconst cx dX7_refusalOfPairs_38 ic_0 ?_
      refine ww_goto cx dX7_refusalOfPairs_39 (tgt := 44) rfl ?_
      exact ww_rip hE dX7_refusalOfPairs_44 hF
  · refine ww_iload_n cx dX7_refusalOfPairs_10 rfl 0 rfl ?_
    exact ww_rip hE dX7_refusalOfPairs_11 hF
theorem dX7_refusalOfSteps_0 : decode cX7_refusalOfSteps 0 = .ok (.aload_n 0, 1) := by decide +kernel
theorem dX7_refusalOfSteps_1 : decode cX7_refusalOfSteps 1 = .ok (.iload_n 1, 1) := by decide +kernel
theorem dX7_refusalOfSteps_2 : decode cX7_refusalOfSteps 2 = .ok (.invokevirtual 393, 3) := by decide +kernel
theorem dX7_refusalOfSteps_5 : decode cX7_refusalOfSteps 5 = .ok (.istore_n 2, 1) := by decide +kernel
theorem dX7_refusalOfSteps_6 : decode cX7_refusalOfSteps 6 = .ok (.iload_n 2, 1) := by decide +kernel
theorem dX7_refusalOfSteps_7 : decode cX7_refusalOfSteps 7 = .ok (.ifCond .eq 5, 3) := by decide +kernel
theorem dX7_refusalOfSteps_10 : decode cX7_refusalOfSteps 10 = .ok (.iload_n 2, 1) := by decide +kernel
theorem dX7_refusalOfSteps_11 : decode cX7_refusalOfSteps 11 = .ok (.ireturn, 1) := by decide +kernel
theorem dX7_refusalOfSteps_12 : decode cX7_refusalOfSteps 12 = .ok (.aload_n 0, 1) := by decide +kernel
theorem dX7_refusalOfSteps_13 : decode cX7_refusalOfSteps 13 = .ok (.getfield 36, 3) := by decide +kernel
theorem dX7_refusalOfSteps_16 : decode cX7_refusalOfSteps 16 = .ok (.iload_n 1, 1) := by decide +kernel
theorem dX7_refusalOfSteps_17 : decode cX7_refusalOfSteps 17 = .ok (.aaload, 1) := by decide +kernel
theorem dX7_refusalOfSteps_18 : decode cX7_refusalOfSteps 18 = .ok (.aload_n 0, 1) := by decide +kernel
theorem dX7_refusalOfSteps_19 : decode cX7_refusalOfSteps 19 = .ok (.getfield 19, 3) := by decide +kernel
theorem dX7_refusalOfSteps_22 : decode cX7_refusalOfSteps 22 = .ok (.getfield 202, 3) := by decide +kernel
theorem dX7_refusalOfSteps_25 : decode cX7_refusalOfSteps 25 = .ok (.invokevirtual 205, 3) := by decide +kernel
theorem dX7_refusalOfSteps_28 : decode cX7_refusalOfSteps 28 = .ok (.ifCond .eq 7, 3) := by decide +kernel
theorem dX7_refusalOfSteps_31 : decode cX7_refusalOfSteps 31 = .ok (.iconst 0, 1) := by decide +kernel
theorem dX7_refusalOfSteps_32 : decode cX7_refusalOfSteps 32 = .ok (.goto 5, 3) := by decide +kernel
theorem dX7_refusalOfSteps_35 : decode cX7_refusalOfSteps 35 = .ok (.bipush (-2), 2) := by decide +kernel
theorem dX7_refusalOfSteps_37 : decode cX7_refusalOfSteps 37 = .ok (.ireturn, 1) := by decide +kernel
set_option maxRecDepth 4000 in
theorem kX7_refusalOfSteps (G : GT) {σ : St} {a1 : Int32} : ∀ (r : Int32) , fX7_refusalOfSteps σ a1 = some r → MCt G 3 yX7_refusalOfSteps cX7_refusalOfSteps 3 (some .int) [.ref (gad G 0), .int a1] σ (some (.int r)) σ := by
  intro r hF
  refine met_i (by decide) (Nat.le_of_ble_eq_true rfl) (fun X cx hE => ?_)
  have cx : Cx G X RX7 cX7_refusalOfSteps 3 3 := cx
  unfold fX7_refusalOfSteps at hF
  show WW G X 3 σ [(0, .ref (gad G 0)), (1, .int a1)] 0 []
  refine ww_aload_n cx dX7_refusalOfSteps_0 rfl 0 rfl ?_
  refine ww_iload_n cx dX7_refusalOfSteps_1 rfl 1 rfl ?_
  refine ww_V1_pi kv_X7_393 rfl cx sh_0 ⟨Nat.le_of_ble_eq_true rfl, Nat.le_of_ble_eq_true rfl⟩ (Nat.le_of_ble_eq_true rfl) dX7_refusalOfSteps_2 (kX7_refusalOfSlot G) hF (fun r1 hF => ?_)
  refine ww_istore_n (ks := [0, 1, 2]) (lv' := fun v2 => [(2, .int v2), (0, .ref (gad G 0)), (1, .int a1)]) cx dX7_refusalOfSteps_5 rfl (by decide) hF (fun _ => rfl) (fun v2 hF => ?_)
  refine ww_iload_n cx dX7_refusalOfSteps_6 rfl 0 rfl ?_
  refine ww_if_eq cx dX7_refusalOfSteps_7 (tgt := 12) rfl hF (fun hF => ?_) (fun hF => ?_)
  · refine ww_aload_n cx dX7_refusalOfSteps_12 rfl 1 rfl ?_
    refine gf_X7_36 cx dX7_refusalOfSteps_13 ?_
    refine ww_iload_n cx dX7_refusalOfSteps_16 rfl 2 rfl ?_
    refine ww_aaldR cx dX7_refusalOfSteps_17 hF (fun k3 hk3 hF => ?_)
    refine ww_aload_n cx dX7_refusalOfSteps_18 rfl 1 rfl ?_
    refine gf_X7_19 cx dX7_refusalOfSteps_19 ?_
    refine gf_X7_202 cx (isTab_3) dX7_refusalOfSteps_22 ?_
    refine ww_V1_pi kv_X7_205 rfl cx ((hk3).1) ⟨Nat.le_of_ble_eq_true rfl, Nat.le_of_ble_eq_true rfl⟩ (Nat.le_of_ble_eq_true rfl) dX7_refusalOfSteps_25 (kX4_areAllBelow G (hk3)) hF (fun r4 hF => ?_)
    refine ww_if_eq cx dX7_refusalOfSteps_28 (tgt := 35) rfl hF (fun hF => ?_) (fun hF => ?_)
    · refine ww_bipush cx dX7_refusalOfSteps_35 bc_m2 ?_
      exact ww_rip hE dX7_refusalOfSteps_37 hF
    · refine ww_iconst cx dX7_refusalOfSteps_31 ic_0 ?_
      refine ww_goto cx dX7_refusalOfSteps_32 (tgt := 37) rfl ?_
      exact ww_rip hE dX7_refusalOfSteps_37 hF
  · refine ww_iload_n cx dX7_refusalOfSteps_10 rfl 0 rfl ?_
    exact ww_rip hE dX7_refusalOfSteps_11 hF
theorem dX7_salted_0 : decode cX7_salted 0 = .ok (.aload_n 0, 1) := by decide +kernel
theorem dX7_salted_1 : decode cX7_salted 1 = .ok (.getfield 19, 3) := by decide +kernel
theorem dX7_salted_4 : decode cX7_salted 4 = .ok (.invokevirtual 149, 3) := by decide +kernel
theorem dX7_salted_7 : decode cX7_salted 7 = .ok (.ifCond .eq 20, 3) := by decide +kernel
theorem dX7_salted_10 : decode cX7_salted 10 = .ok (.aload_n 0, 1) := by decide +kernel
theorem dX7_salted_11 : decode cX7_salted 11 = .ok (.getfield 19, 3) := by decide +kernel
theorem dX7_salted_14 : decode cX7_salted 14 = .ok (.aload_n 0, 1) := by decide +kernel
theorem dX7_salted_15 : decode cX7_salted 15 = .ok (.getfield 19, 3) := by decide +kernel
theorem dX7_salted_18 : decode cX7_salted 18 = .ok (.getfield 109, 3) := by decide +kernel
theorem dX7_salted_21 : decode cX7_salted 21 = .ok (.invokevirtual 153, 3) := by decide +kernel
theorem dX7_salted_24 : decode cX7_salted 24 = .ok (.goto 5, 3) := by decide +kernel
theorem dX7_salted_27 : decode cX7_salted 27 = .ok (.bipush (-2), 2) := by decide +kernel
theorem dX7_salted_29 : decode cX7_salted 29 = .ok (.ireturn, 1) := by decide +kernel
set_option maxRecDepth 4000 in
theorem kX7_salted (G : GT) {σ : St} : ∀ (r : Int32) , fX7_salted σ = some r → MCt G 3 yX7_salted cX7_salted 1 (some .int) [.ref (gad G 0)] σ (some (.int r)) σ := by
  intro r hF
  refine met_i (by decide) (Nat.le_of_ble_eq_true rfl) (fun X cx hE => ?_)
  have cx : Cx G X RX7 cX7_salted 1 3 := cx
  unfold fX7_salted at hF
  show WW G X 1 σ [(0, .ref (gad G 0))] 0 []
  refine ww_aload_n cx dX7_salted_0 rfl 0 rfl ?_
  refine gf_X7_19 cx dX7_salted_1 ?_
  refine ww_V0_pi kv_X7_149 rfl cx ((isTab_3).1) ⟨Nat.le_of_ble_eq_true rfl, Nat.le_of_ble_eq_true rfl⟩ (Nat.le_of_ble_eq_true rfl) dX7_salted_4 (kX6_isTold G (isTab_3)) hF (fun r1 hF => ?_)
  refine ww_if_eq cx dX7_salted_7 (tgt := 27) rfl hF (fun hF => ?_) (fun hF => ?_)
  · refine ww_bipush cx dX7_salted_27 bc_m2 ?_
    exact ww_rip hE dX7_salted_29 hF
  · refine ww_aload_n cx dX7_salted_10 rfl 0 rfl ?_
    refine gf_X7_19 cx dX7_salted_11 ?_
    refine ww_aload_n cx dX7_salted_14 rfl 0 rfl ?_
    refine gf_X7_19 cx dX7_salted_15 ?_
    refine gf_X7_109 cx (isTab_3) dX7_salted_18 ?_
    refine ww_V1_pi kv_X7_153 rfl cx ((isTab_3).1) ⟨Nat.le_of_ble_eq_true rfl, Nat.le_of_ble_eq_true rfl⟩ (Nat.le_of_ble_eq_true rfl) dX7_salted_21 (kX6_worldsOf G (isTab_3)) hF (fun r2 hF => ?_)
    refine ww_goto cx dX7_salted_24 (tgt := 29) rfl ?_
    exact ww_rip hE dX7_salted_29 hF
theorem dX7_same_0 : decode cX7_same 0 = .ok (.aload_n 0, 1) := by decide +kernel
theorem dX7_same_1 : decode cX7_same 1 = .ok (.getfield 19, 3) := by decide +kernel
theorem dX7_same_4 : decode cX7_same 4 = .ok (.iload_n 3, 1) := by decide +kernel
theorem dX7_same_5 : decode cX7_same 5 = .ok (.invokevirtual 101, 3) := by decide +kernel
theorem dX7_same_8 : decode cX7_same 8 = .ok (.ifCond .eq 17, 3) := by decide +kernel
theorem dX7_same_11 : decode cX7_same 11 = .ok (.iload_n 1, 1) := by decide +kernel
theorem dX7_same_12 : decode cX7_same 12 = .ok (.invokestatic 196, 3) := by decide +kernel
theorem dX7_same_15 : decode cX7_same 15 = .ok (.ifCond .eq 10, 3) := by decide +kernel
theorem dX7_same_18 : decode cX7_same 18 = .ok (.iload_n 2, 1) := by decide +kernel
theorem dX7_same_19 : decode cX7_same 19 = .ok (.invokestatic 196, 3) := by decide +kernel
theorem dX7_same_22 : decode cX7_same 22 = .ok (.ifCond .ne 6, 3) := by decide +kernel
theorem dX7_same_25 : decode cX7_same 25 = .ok (.bipush (-2), 2) := by decide +kernel
theorem dX7_same_27 : decode cX7_same 27 = .ok (.ireturn, 1) := by decide +kernel
theorem dX7_same_28 : decode cX7_same 28 = .ok (.aload_n 0, 1) := by decide +kernel
theorem dX7_same_29 : decode cX7_same 29 = .ok (.getfield 36, 3) := by decide +kernel
theorem dX7_same_32 : decode cX7_same 32 = .ok (.iload_n 1, 1) := by decide +kernel
theorem dX7_same_33 : decode cX7_same 33 = .ok (.aaload, 1) := by decide +kernel
theorem dX7_same_34 : decode cX7_same 34 = .ok (.getfield 199, 3) := by decide +kernel
theorem dX7_same_37 : decode cX7_same 37 = .ok (.ifCond .eq 15, 3) := by decide +kernel
theorem dX7_same_40 : decode cX7_same 40 = .ok (.aload_n 0, 1) := by decide +kernel
theorem dX7_same_41 : decode cX7_same 41 = .ok (.getfield 36, 3) := by decide +kernel
theorem dX7_same_44 : decode cX7_same 44 = .ok (.iload_n 2, 1) := by decide +kernel
theorem dX7_same_45 : decode cX7_same 45 = .ok (.aaload, 1) := by decide +kernel
theorem dX7_same_46 : decode cX7_same 46 = .ok (.getfield 199, 3) := by decide +kernel
theorem dX7_same_49 : decode cX7_same 49 = .ok (.ifCond .ne 6, 3) := by decide +kernel
theorem dX7_same_52 : decode cX7_same 52 = .ok (.bipush (-6), 2) := by decide +kernel
theorem dX7_same_54 : decode cX7_same 54 = .ok (.ireturn, 1) := by decide +kernel
theorem dX7_same_55 : decode cX7_same 55 = .ok (.aload_n 0, 1) := by decide +kernel
theorem dX7_same_56 : decode cX7_same 56 = .ok (.getfield 36, 3) := by decide +kernel
theorem dX7_same_59 : decode cX7_same 59 = .ok (.iload_n 1, 1) := by decide +kernel
theorem dX7_same_60 : decode cX7_same 60 = .ok (.aaload, 1) := by decide +kernel
theorem dX7_same_61 : decode cX7_same 61 = .ok (.aload_n 0, 1) := by decide +kernel
theorem dX7_same_62 : decode cX7_same 62 = .ok (.getfield 19, 3) := by decide +kernel
theorem dX7_same_65 : decode cX7_same 65 = .ok (.getfield 202, 3) := by decide +kernel
theorem dX7_same_68 : decode cX7_same 68 = .ok (.invokevirtual 205, 3) := by decide +kernel
theorem dX7_same_71 : decode cX7_same 71 = .ok (.ifCond .eq 22, 3) := by decide +kernel
theorem dX7_same_74 : decode cX7_same 74 = .ok (.aload_n 0, 1) := by decide +kernel
theorem dX7_same_75 : decode cX7_same 75 = .ok (.getfield 36, 3) := by decide +kernel
theorem dX7_same_78 : decode cX7_same 78 = .ok (.iload_n 2, 1) := by decide +kernel
theorem dX7_same_79 : decode cX7_same 79 = .ok (.aaload, 1) := by decide +kernel
theorem dX7_same_80 : decode cX7_same 80 = .ok (.aload_n 0, 1) := by decide +kernel
theorem dX7_same_81 : decode cX7_same 81 = .ok (.getfield 19, 3) := by decide +kernel
theorem dX7_same_84 : decode cX7_same 84 = .ok (.getfield 202, 3) := by decide +kernel
theorem dX7_same_87 : decode cX7_same 87 = .ok (.invokevirtual 205, 3) := by decide +kernel
theorem dX7_same_90 : decode cX7_same 90 = .ok (.ifCond .ne 6, 3) := by decide +kernel
theorem dX7_same_93 : decode cX7_same 93 = .ok (.bipush (-2), 2) := by decide +kernel
theorem dX7_same_95 : decode cX7_same 95 = .ok (.ireturn, 1) := by decide +kernel
theorem dX7_same_96 : decode cX7_same 96 = .ok (.aload_n 0, 1) := by decide +kernel
theorem dX7_same_97 : decode cX7_same 97 = .ok (.getfield 58, 3) := by decide +kernel
theorem dX7_same_100 : decode cX7_same 100 = .ok (.aload_n 0, 1) := by decide +kernel
theorem dX7_same_101 : decode cX7_same 101 = .ok (.getfield 19, 3) := by decide +kernel
theorem dX7_same_104 : decode cX7_same 104 = .ok (.aload_n 0, 1) := by decide +kernel
theorem dX7_same_105 : decode cX7_same 105 = .ok (.getfield 36, 3) := by decide +kernel
theorem dX7_same_108 : decode cX7_same 108 = .ok (.iload_n 1, 1) := by decide +kernel
theorem dX7_same_109 : decode cX7_same 109 = .ok (.aaload, 1) := by decide +kernel
theorem dX7_same_110 : decode cX7_same 110 = .ok (.invokevirtual 176, 3) := by decide +kernel
theorem dX7_same_113 : decode cX7_same 113 = .ok (.aload_n 0, 1) := by decide +kernel
theorem dX7_same_114 : decode cX7_same 114 = .ok (.getfield 58, 3) := by decide +kernel
theorem dX7_same_117 : decode cX7_same 117 = .ok (.getfield 193, 3) := by decide +kernel
theorem dX7_same_120 : decode cX7_same 120 = .ok (.iload_n 3, 1) := by decide +kernel
theorem dX7_same_121 : decode cX7_same 121 = .ok (.iaload, 1) := by decide +kernel
theorem dX7_same_122 : decode cX7_same 122 = .ok (.istore 4, 2) := by decide +kernel
theorem dX7_same_124 : decode cX7_same 124 = .ok (.aload_n 0, 1) := by decide +kernel
theorem dX7_same_125 : decode cX7_same 125 = .ok (.getfield 58, 3) := by decide +kernel
theorem dX7_same_128 : decode cX7_same 128 = .ok (.aload_n 0, 1) := by decide +kernel
theorem dX7_same_129 : decode cX7_same 129 = .ok (.getfield 19, 3) := by decide +kernel
theorem dX7_same_132 : decode cX7_same 132 = .ok (.aload_n 0, 1) := by decide +kernel
theorem dX7_same_133 : decode cX7_same 133 = .ok (.getfield 36, 3) := by decide +kernel
theorem dX7_same_136 : decode cX7_same 136 = .ok (.iload_n 2, 1) := by decide +kernel
theorem dX7_same_137 : decode cX7_same 137 = .ok (.aaload, 1) := by decide +kernel
theorem dX7_same_138 : decode cX7_same 138 = .ok (.invokevirtual 176, 3) := by decide +kernel
theorem dX7_same_141 : decode cX7_same 141 = .ok (.iload 4, 2) := by decide +kernel
theorem dX7_same_143 : decode cX7_same 143 = .ok (.aload_n 0, 1) := by decide +kernel
theorem dX7_same_144 : decode cX7_same 144 = .ok (.getfield 58, 3) := by decide +kernel
theorem dX7_same_147 : decode cX7_same 147 = .ok (.getfield 193, 3) := by decide +kernel
theorem dX7_same_150 : decode cX7_same 150 = .ok (.iload_n 3, 1) := by decide +kernel
theorem dX7_same_151 : decode cX7_same 151 = .ok (.iaload, 1) := by decide +kernel
theorem dX7_same_152 : decode cX7_same 152 = .ok (.if_icmp .ne 7, 3) := by decide +kernel
theorem dX7_same_155 : decode cX7_same 155 = .ok (.iconst 1, 1) := by decide +kernel
theorem dX7_same_156 : decode cX7_same 156 = .ok (.goto 4, 3) := by decide +kernel
theorem dX7_same_159 : decode cX7_same 159 = .ok (.iconst 0, 1) := by decide +kernel
theorem dX7_same_160 : decode cX7_same 160 = .ok (.invokestatic 133, 3) := by decide +kernel
theorem dX7_same_163 : decode cX7_same 163 = .ok (.ireturn, 1) := by decide +kernel
set_option maxRecDepth 4000 in
theorem kX7_same (G : GT) {σ : St} {a1 : Int32} {a2 : Int32} {a3 : Int32} : ∀ (r : Int32) (σo : St) , fX7_same σ a1 a2 a3 = some (r, σo) → MCt G 3 yX7_same cX7_same 5 (some .int) [.ref (gad G 0), .int a1, .int a2, .int a3] σ (some (.int r)) σo := by
  intro r σo hF
  refine met_i (by decide) (Nat.le_of_ble_eq_true rfl) (fun X cx hE => ?_)
  have cx : Cx G X RX7 cX7_same 5 3 := cx
  have hb160 : ∀ (σ : St) (y0 : Int32) , fX7_same_b160 σ y0 = some (r, σo) → WW G X 5 σ [] 160 [.int y0] := by
    intro σ y0 hF
    unfold fX7_same_b160 at hF
    refine ww_S1_pi kv_X7_133 cx ⟨Nat.le_of_ble_eq_true rfl, Nat.le_of_ble_eq_true rfl⟩ (Nat.le_of_ble_eq_true rfl) dX7_same_160 (kX7_bit G) hF (fun r1 hF => ?_)
    exact ww_ris hE dX7_same_163 hF
  unfold fX7_same at hF
  show WW G X 5 σ [(0, .ref (gad G 0)), (1, .int a1), (2, .int a2), (3, .int a3)] 0 []
  refine ww_aload_n cx dX7_same_0 rfl 0 rfl ?_
  refine gf_X7_19 cx dX7_same_1 ?_
  refine ww_iload_n cx dX7_same_4 rfl 3 rfl ?_
  refine ww_V1_pi kv_X7_101 rfl cx ((isTab_3).1) ⟨Nat.le_of_ble_eq_true rfl, Nat.le_of_ble_eq_true rfl⟩ (Nat.le_of_ble_eq_true rfl) dX7_same_5 (kX6_hasClaim G (isTab_3)) hF (fun r2 hF => ?_)
  refine ww_if_eq cx dX7_same_8 (tgt := 25) rfl hF (fun hF => ?_) (fun hF => ?_)
  · refine ww_bipush cx dX7_same_25 bc_m2 ?_
    exact ww_ris hE dX7_same_27 hF
  · refine ww_iload_n cx dX7_same_11 rfl 1 rfl ?_
    refine ww_S1_pi kv_X7_196 cx ⟨Nat.le_of_ble_eq_true rfl, Nat.le_of_ble_eq_true rfl⟩ (Nat.le_of_ble_eq_true rfl) dX7_same_12 (kX7_isSlot G) hF (fun r3 hF => ?_)
    refine ww_if_eq cx dX7_same_15 (tgt := 25) rfl hF (fun hF => ?_) (fun hF => ?_)
    · refine ww_bipush cx dX7_same_25 bc_m2 ?_
      exact ww_ris hE dX7_same_27 hF
    · refine ww_iload_n cx dX7_same_18 rfl 2 rfl ?_
      refine ww_S1_pi kv_X7_196 cx ⟨Nat.le_of_ble_eq_true rfl, Nat.le_of_ble_eq_true rfl⟩ (Nat.le_of_ble_eq_true rfl) dX7_same_19 (kX7_isSlot G) hF (fun r4 hF => ?_)
      refine ww_if_ne cx dX7_same_22 (tgt := 28) rfl hF (fun hF => ?_) (fun hF => ?_)
      · refine ww_aload_n cx dX7_same_28 rfl 0 rfl ?_
        refine gf_X7_36 cx dX7_same_29 ?_
        refine ww_iload_n cx dX7_same_32 rfl 1 rfl ?_
        refine ww_aaldR cx dX7_same_33 hF (fun k5 hk5 hF => ?_)
        refine gf_X7_199 cx (hk5) dX7_same_34 ?_
        refine ww_if_eq cx dX7_same_37 (tgt := 52) rfl hF (fun hF => ?_) (fun hF => ?_)
        · refine ww_bipush cx dX7_same_52 bc_m6 ?_
          exact ww_ris hE dX7_same_54 hF
        · refine ww_aload_n cx dX7_same_40 rfl 0 rfl ?_
          refine gf_X7_36 cx dX7_same_41 ?_
          refine ww_iload_n cx dX7_same_44 rfl 2 rfl ?_
          refine ww_aaldR cx dX7_same_45 hF (fun k6 hk6 hF => ?_)
          refine gf_X7_199 cx (hk6) dX7_same_46 ?_
          refine ww_if_ne cx dX7_same_49 (tgt := 55) rfl hF (fun hF => ?_) (fun hF => ?_)
          · refine ww_aload_n cx dX7_same_55 rfl 0 rfl ?_
            refine gf_X7_36 cx dX7_same_56 ?_
            refine ww_iload_n cx dX7_same_59 rfl 1 rfl ?_
            refine ww_aaldR cx dX7_same_60 hF (fun k7 hk7 hF => ?_)
            refine ww_aload_n cx dX7_same_61 rfl 0 rfl ?_
            refine gf_X7_19 cx dX7_same_62 ?_
            refine gf_X7_202 cx (isTab_3) dX7_same_65 ?_
            refine ww_V1_pi kv_X7_205 rfl cx ((hk7).1) ⟨Nat.le_of_ble_eq_true rfl, Nat.le_of_ble_eq_true rfl⟩ (Nat.le_of_ble_eq_true rfl) dX7_same_68 (kX4_areAllBelow G (hk7)) hF (fun r8 hF => ?_)
            refine ww_if_eq cx dX7_same_71 (tgt := 93) rfl hF (fun hF => ?_) (fun hF => ?_)
            · refine ww_bipush cx dX7_same_93 bc_m2 ?_
              exact ww_ris hE dX7_same_95 hF
            · refine ww_aload_n cx dX7_same_74 rfl 0 rfl ?_
              refine gf_X7_36 cx dX7_same_75 ?_
              refine ww_iload_n cx dX7_same_78 rfl 2 rfl ?_
              refine ww_aaldR cx dX7_same_79 hF (fun k9 hk9 hF => ?_)
              refine ww_aload_n cx dX7_same_80 rfl 0 rfl ?_
              refine gf_X7_19 cx dX7_same_81 ?_
              refine gf_X7_202 cx (isTab_3) dX7_same_84 ?_
              refine ww_V1_pi kv_X7_205 rfl cx ((hk9).1) ⟨Nat.le_of_ble_eq_true rfl, Nat.le_of_ble_eq_true rfl⟩ (Nat.le_of_ble_eq_true rfl) dX7_same_87 (kX4_areAllBelow G (hk9)) hF (fun r10 hF => ?_)
              refine ww_if_ne cx dX7_same_90 (tgt := 96) rfl hF (fun hF => ?_) (fun hF => ?_)
              · refine ww_aload_n cx dX7_same_96 rfl 0 rfl ?_
                refine gf_X7_58 cx dX7_same_97 ?_
                refine ww_aload_n cx dX7_same_100 rfl 0 rfl ?_
                refine gf_X7_19 cx dX7_same_101 ?_
                refine ww_aload_n cx dX7_same_104 rfl 0 rfl ?_
                refine gf_X7_36 cx dX7_same_105 ?_
                refine ww_iload_n cx dX7_same_108 rfl 1 rfl ?_
                refine ww_aaldR cx dX7_same_109 hF (fun k11 hk11 hF => ?_)
                refine ww_V2_sv kv_X7_176 rfl cx sh_53 ⟨Nat.le_of_ble_eq_true rfl, Nat.le_of_ble_eq_true rfl⟩ (Nat.le_of_ble_eq_true rfl) dX7_same_110 (kX3_read G (isTab_3) (hk11)) hF (fun σ12 hF => ?_)
                refine ww_aload_n cx dX7_same_113 rfl 0 rfl ?_
                refine gf_X7_58 cx dX7_same_114 ?_
                refine gf_X7_193 cx dX7_same_117 ?_
                refine ww_iload_n cx dX7_same_120 rfl 3 rfl ?_
                refine ww_iald (N := 12) cx (sh_54) dX7_same_121 hF (fun hF => ?_)
                refine ww_istore (ks := [0, 1, 3, 4]) (lv' := fun v13 => [(4, .int v13), (0, .ref (gad G 0)), (2, .int a2), (3, .int a3)]) cx dX7_same_122 (by decide) hF (fun _ => rfl) (fun v13 hF => ?_)
                refine ww_aload_n cx dX7_same_124 rfl 1 rfl ?_
                refine gf_X7_58 cx dX7_same_125 ?_
                refine ww_aload_n cx dX7_same_128 rfl 1 rfl ?_
                refine gf_X7_19 cx dX7_same_129 ?_
                refine ww_aload_n cx dX7_same_132 rfl 1 rfl ?_
                refine gf_X7_36 cx dX7_same_133 ?_
                refine ww_iload_n cx dX7_same_136 rfl 2 rfl ?_
                refine ww_aaldR cx dX7_same_137 hF (fun k14 hk14 hF => ?_)
                refine ww_V2_sv kv_X7_176 rfl cx sh_53 ⟨Nat.le_of_ble_eq_true rfl, Nat.le_of_ble_eq_true rfl⟩ (Nat.le_of_ble_eq_true rfl) dX7_same_138 (kX3_read G (isTab_3) (hk14)) hF (fun σ15 hF => ?_)
                refine ww_iload cx dX7_same_141 0 rfl ?_
                refine ww_aload_n cx dX7_same_143 rfl 1 rfl ?_
                refine gf_X7_58 cx dX7_same_144 ?_
                refine gf_X7_193 cx dX7_same_147 ?_
                refine ww_iload_n cx dX7_same_150 rfl 3 rfl ?_
                refine ww_iald (N := 12) cx (sh_54) dX7_same_151 hF (fun hF => ?_)
                refine ww_icmp_ne cx dX7_same_152 (tgt := 159) rfl hF (fun hF => ?_) (fun hF => ?_)
                · refine ww_iconst cx dX7_same_159 ic_0 ?_
                  exact ww_sub [] rfl (hb160 _ _ hF)
                · refine ww_iconst cx dX7_same_155 ic_1 ?_
                  refine ww_goto cx dX7_same_156 (tgt := 160) rfl ?_
                  exact ww_sub [] rfl (hb160 _ _ hF)
              · refine ww_bipush cx dX7_same_93 bc_m2 ?_
                exact ww_ris hE dX7_same_95 hF
          · refine ww_bipush cx dX7_same_52 bc_m6 ?_
            exact ww_ris hE dX7_same_54 hF
      · refine ww_bipush cx dX7_same_25 bc_m2 ?_
        exact ww_ris hE dX7_same_27 hF
theorem dX7_strength_0 : decode cX7_strength 0 = .ok (.aload_n 0, 1) := by decide +kernel
theorem dX7_strength_1 : decode cX7_strength 1 = .ok (.getfield 19, 3) := by decide +kernel
theorem dX7_strength_4 : decode cX7_strength 4 = .ok (.iload_n 1, 1) := by decide +kernel
theorem dX7_strength_5 : decode cX7_strength 5 = .ok (.invokevirtual 249, 3) := by decide +kernel
theorem dX7_strength_8 : decode cX7_strength 8 = .ok (.ifCond .eq 14, 3) := by decide +kernel
theorem dX7_strength_11 : decode cX7_strength 11 = .ok (.aload_n 0, 1) := by decide +kernel
theorem dX7_strength_12 : decode cX7_strength 12 = .ok (.getfield 19, 3) := by decide +kernel
theorem dX7_strength_15 : decode cX7_strength 15 = .ok (.iload_n 1, 1) := by decide +kernel
theorem dX7_strength_16 : decode cX7_strength 16 = .ok (.invokevirtual 261, 3) := by decide +kernel
theorem dX7_strength_19 : decode cX7_strength 19 = .ok (.goto 5, 3) := by decide +kernel
theorem dX7_strength_22 : decode cX7_strength 22 = .ok (.bipush (-2), 2) := by decide +kernel
theorem dX7_strength_24 : decode cX7_strength 24 = .ok (.ireturn, 1) := by decide +kernel
set_option maxRecDepth 4000 in
theorem kX7_strength (G : GT) {σ : St} {a1 : Int32} : ∀ (r : Int32) , fX7_strength σ a1 = some r → MCt G 3 yX7_strength cX7_strength 2 (some .int) [.ref (gad G 0), .int a1] σ (some (.int r)) σ := by
  intro r hF
  refine met_i (by decide) (Nat.le_of_ble_eq_true rfl) (fun X cx hE => ?_)
  have cx : Cx G X RX7 cX7_strength 2 3 := cx
  unfold fX7_strength at hF
  show WW G X 2 σ [(0, .ref (gad G 0)), (1, .int a1)] 0 []
  refine ww_aload_n cx dX7_strength_0 rfl 0 rfl ?_
  refine gf_X7_19 cx dX7_strength_1 ?_
  refine ww_iload_n cx dX7_strength_4 rfl 1 rfl ?_
  refine ww_V1_pi kv_X7_249 rfl cx ((isTab_3).1) ⟨Nat.le_of_ble_eq_true rfl, Nat.le_of_ble_eq_true rfl⟩ (Nat.le_of_ble_eq_true rfl) dX7_strength_5 (kX6_isGuestSet G (isTab_3)) hF (fun r1 hF => ?_)
  refine ww_if_eq cx dX7_strength_8 (tgt := 22) rfl hF (fun hF => ?_) (fun hF => ?_)
  · refine ww_bipush cx dX7_strength_22 bc_m2 ?_
    exact ww_rip hE dX7_strength_24 hF
  · refine ww_aload_n cx dX7_strength_11 rfl 0 rfl ?_
    refine gf_X7_19 cx dX7_strength_12 ?_
    refine ww_iload_n cx dX7_strength_15 rfl 1 rfl ?_
    refine ww_V1_pi kv_X7_261 rfl cx ((isTab_3).1) ⟨Nat.le_of_ble_eq_true rfl, Nat.le_of_ble_eq_true rfl⟩ (Nat.le_of_ble_eq_true rfl) dX7_strength_16 (kX6_teamCanDo G (isTab_3)) hF (fun r2 hF => ?_)
    refine ww_goto cx dX7_strength_19 (tgt := 24) rfl ?_
    exact ww_rip hE dX7_strength_24 hF
theorem dX1_cookPair_0 : decode cX1_cookPair 0 = .ok (.aload_n 0, 1) := by decide +kernel
theorem dX1_cookPair_1 : decode cX1_cookPair 1 = .ok (.aload_n 1, 1) := by decide +kernel
theorem dX1_cookPair_2 : decode cX1_cookPair 2 = .ok (.aload_n 1, 1) := by decide +kernel
theorem dX1_cookPair_3 : decode cX1_cookPair 3 = .ok (.getfield 56, 3) := by decide +kernel
theorem dX1_cookPair_6 : decode cX1_cookPair 6 = .ok (.iload_n 3, 1) := by decide +kernel
theorem dX1_cookPair_7 : decode cX1_cookPair 7 = .ok (.iaload, 1) := by decide +kernel
theorem dX1_cookPair_8 : decode cX1_cookPair 8 = .ok (.invokevirtual 59, 3) := by decide +kernel
theorem dX1_cookPair_11 : decode cX1_cookPair 11 = .ok (.istore 4, 2) := by decide +kernel
theorem dX1_cookPair_13 : decode cX1_cookPair 13 = .ok (.iload 4, 2) := by decide +kernel
theorem dX1_cookPair_15 : decode cX1_cookPair 15 = .ok (.iconst (-1), 1) := by decide +kernel
theorem dX1_cookPair_16 : decode cX1_cookPair 16 = .ok (.if_icmp .eq 16, 3) := by decide +kernel
theorem dX1_cookPair_19 : decode cX1_cookPair 19 = .ok (.aload_n 1, 1) := by decide +kernel
theorem dX1_cookPair_20 : decode cX1_cookPair 20 = .ok (.getfield 63, 3) := by decide +kernel
theorem dX1_cookPair_23 : decode cX1_cookPair 23 = .ok (.iload_n 2, 1) := by decide +kernel
theorem dX1_cookPair_24 : decode cX1_cookPair 24 = .ok (.iaload, 1) := by decide +kernel
theorem dX1_cookPair_25 : decode cX1_cookPair 25 = .ok (.iload_n 3, 1) := by decide +kernel
theorem dX1_cookPair_26 : decode cX1_cookPair 26 = .ok (.ishr, 1) := by decide +kernel
theorem dX1_cookPair_27 : decode cX1_cookPair 27 = .ok (.iconst 1, 1) := by decide +kernel
theorem dX1_cookPair_28 : decode cX1_cookPair 28 = .ok (.iand, 1) := by decide +kernel
theorem dX1_cookPair_29 : decode cX1_cookPair 29 = .ok (.ifCond .ne 5, 3) := by decide +kernel
theorem dX1_cookPair_32 : decode cX1_cookPair 32 = .ok (.iconst 0, 1) := by decide +kernel
theorem dX1_cookPair_33 : decode cX1_cookPair 33 = .ok (.ireturn, 1) := by decide +kernel
theorem dX1_cookPair_34 : decode cX1_cookPair 34 = .ok (.iload 4, 2) := by decide +kernel
theorem dX1_cookPair_36 : decode cX1_cookPair 36 = .ok (.aload_n 0, 1) := by decide +kernel
theorem dX1_cookPair_37 : decode cX1_cookPair 37 = .ok (.getfield 18, 3) := by decide +kernel
theorem dX1_cookPair_40 : decode cX1_cookPair 40 = .ok (.iload_n 2, 1) := by decide +kernel
theorem dX1_cookPair_41 : decode cX1_cookPair 41 = .ok (.iaload, 1) := by decide +kernel
theorem dX1_cookPair_42 : decode cX1_cookPair 42 = .ok (.invokestatic 66, 3) := by decide +kernel
theorem dX1_cookPair_45 : decode cX1_cookPair 45 = .ok (.aload_n 1, 1) := by decide +kernel
theorem dX1_cookPair_46 : decode cX1_cookPair 46 = .ok (.getfield 72, 3) := by decide +kernel
theorem dX1_cookPair_49 : decode cX1_cookPair 49 = .ok (.iload_n 2, 1) := by decide +kernel
theorem dX1_cookPair_50 : decode cX1_cookPair 50 = .ok (.iaload, 1) := by decide +kernel
theorem dX1_cookPair_51 : decode cX1_cookPair 51 = .ok (.iadd, 1) := by decide +kernel
theorem dX1_cookPair_52 : decode cX1_cookPair 52 = .ok (.istore 5, 2) := by decide +kernel
theorem dX1_cookPair_54 : decode cX1_cookPair 54 = .ok (.iload 5, 2) := by decide +kernel
theorem dX1_cookPair_56 : decode cX1_cookPair 56 = .ok (.aload_n 1, 1) := by decide +kernel
theorem dX1_cookPair_57 : decode cX1_cookPair 57 = .ok (.getfield 75, 3) := by decide +kernel
theorem dX1_cookPair_60 : decode cX1_cookPair 60 = .ok (.if_icmp .le 5, 3) := by decide +kernel
theorem dX1_cookPair_63 : decode cX1_cookPair 63 = .ok (.iconst 0, 1) := by decide +kernel
theorem dX1_cookPair_64 : decode cX1_cookPair 64 = .ok (.ireturn, 1) := by decide +kernel
theorem dX1_cookPair_65 : decode cX1_cookPair 65 = .ok (.aload_n 0, 1) := by decide +kernel
theorem dX1_cookPair_66 : decode cX1_cookPair 66 = .ok (.aload_n 1, 1) := by decide +kernel
theorem dX1_cookPair_67 : decode cX1_cookPair 67 = .ok (.getfield 78, 3) := by decide +kernel
theorem dX1_cookPair_70 : decode cX1_cookPair 70 = .ok (.iload_n 3, 1) := by decide +kernel
theorem dX1_cookPair_71 : decode cX1_cookPair 71 = .ok (.iaload, 1) := by decide +kernel
theorem dX1_cookPair_72 : decode cX1_cookPair 72 = .ok (.iload_n 2, 1) := by decide +kernel
theorem dX1_cookPair_73 : decode cX1_cookPair 73 = .ok (.iload 5, 2) := by decide +kernel
theorem dX1_cookPair_75 : decode cX1_cookPair 75 = .ok (.invokevirtual 81, 3) := by decide +kernel
theorem dX1_cookPair_78 : decode cX1_cookPair 78 = .ok (.aload_n 0, 1) := by decide +kernel
theorem dX1_cookPair_79 : decode cX1_cookPair 79 = .ok (.getfield 18, 3) := by decide +kernel
theorem dX1_cookPair_82 : decode cX1_cookPair 82 = .ok (.iload_n 2, 1) := by decide +kernel
theorem dX1_cookPair_83 : decode cX1_cookPair 83 = .ok (.iload 5, 2) := by decide +kernel
theorem dX1_cookPair_85 : decode cX1_cookPair 85 = .ok (.iastore, 1) := by decide +kernel
theorem dX1_cookPair_86 : decode cX1_cookPair 86 = .ok (.aload_n 0, 1) := by decide +kernel
theorem dX1_cookPair_87 : decode cX1_cookPair 87 = .ok (.getfield 21, 3) := by decide +kernel
theorem dX1_cookPair_90 : decode cX1_cookPair 90 = .ok (.iload_n 2, 1) := by decide +kernel
theorem dX1_cookPair_91 : decode cX1_cookPair 91 = .ok (.dup2, 1) := by decide +kernel
theorem dX1_cookPair_92 : decode cX1_cookPair 92 = .ok (.iaload, 1) := by decide +kernel
theorem dX1_cookPair_93 : decode cX1_cookPair 93 = .ok (.aload_n 1, 1) := by decide +kernel
theorem dX1_cookPair_94 : decode cX1_cookPair 94 = .ok (.getfield 72, 3) := by decide +kernel
theorem dX1_cookPair_97 : decode cX1_cookPair 97 = .ok (.iload_n 2, 1) := by decide +kernel
theorem dX1_cookPair_98 : decode cX1_cookPair 98 = .ok (.iaload, 1) := by decide +kernel
theorem dX1_cookPair_99 : decode cX1_cookPair 99 = .ok (.iadd, 1) := by decide +kernel
theorem dX1_cookPair_100 : decode cX1_cookPair 100 = .ok (.iastore, 1) := by decide +kernel
theorem dX1_cookPair_101 : decode cX1_cookPair 101 = .ok (.aload_n 0, 1) := by decide +kernel
theorem dX1_cookPair_102 : decode cX1_cookPair 102 = .ok (.aload_n 0, 1) := by decide +kernel
theorem dX1_cookPair_103 : decode cX1_cookPair 103 = .ok (.getfield 45, 3) := by decide +kernel
theorem dX1_cookPair_106 : decode cX1_cookPair 106 = .ok (.iload 5, 2) := by decide +kernel
theorem dX1_cookPair_108 : decode cX1_cookPair 108 = .ok (.invokestatic 66, 3) := by decide +kernel
theorem dX1_cookPair_111 : decode cX1_cookPair 111 = .ok (.putfield 45, 3) := by decide +kernel
theorem dX1_cookPair_114 : decode cX1_cookPair 114 = .ok (.aload_n 0, 1) := by decide +kernel
theorem dX1_cookPair_115 : decode cX1_cookPair 115 = .ok (.dup, 1) := by decide +kernel
theorem dX1_cookPair_116 : decode cX1_cookPair 116 = .ok (.getfield 42, 3) := by decide +kernel
theorem dX1_cookPair_119 : decode cX1_cookPair 119 = .ok (.iconst 1, 1) := by decide +kernel
theorem dX1_cookPair_120 : decode cX1_cookPair 120 = .ok (.iadd, 1) := by decide +kernel
theorem dX1_cookPair_121 : decode cX1_cookPair 121 = .ok (.putfield 42, 3) := by decide +kernel
theorem dX1_cookPair_124 : decode cX1_cookPair 124 = .ok (.iconst 1, 1) := by decide +kernel
theorem dX1_cookPair_125 : decode cX1_cookPair 125 = .ok (.ireturn, 1) := by decide +kernel
set_option maxRecDepth 4000 in
theorem kX1_cookPair (G : GT) {σ : St} {t : Nat} {a2 : Int32} {a3 : Int32} (ht : isTab t) : ∀ (r : Int32) (σo : St) , fX1_cookPair σ t a2 a3 = some (r, σo) → MCt G 3 yX1_cookPair cX1_cookPair 6 (some .boolean) [.ref (gad G 55), .ref (gad G t), .int a2, .int a3] σ (some (.int r)) σo := by
  intro r σo hF
  refine met_zz (by decide) (Nat.le_of_ble_eq_true rfl) (fun X cx hE => ?_)
  have cx : Cx G X RX1 cX1_cookPair 6 3 := cx
  unfold fX1_cookPair at hF
  show WW G X 6 σ [(0, .ref (gad G 55)), (1, .ref (gad G t)), (2, .int a2), (3, .int a3)] 0 []
  refine ww_aload_n cx dX1_cookPair_0 rfl 0 rfl ?_
  refine ww_aload_n cx dX1_cookPair_1 rfl 1 rfl ?_
  refine ww_aload_n cx dX1_cookPair_2 rfl 1 rfl ?_
  refine gf_X1_56 cx (ht) dX1_cookPair_3 ?_
  refine ww_iload_n cx dX1_cookPair_6 rfl 3 rfl ?_
  refine ww_iald (N := 12) cx (ar_X6_11 ht) dX1_cookPair_7 hF (fun hF => ?_)
  refine ww_V2_pi kv_X1_59 rfl cx sh_55 ⟨Nat.le_of_ble_eq_true rfl, Nat.le_of_ble_eq_true rfl⟩ (Nat.le_of_ble_eq_true rfl) dX1_cookPair_8 (kX1_hourOfAll G (ht)) hF (fun r1 hF => ?_)
  refine ww_istore (ks := [0, 1, 2, 3, 4]) (lv' := fun v2 => [(4, .int v2), (0, .ref (gad G 55)), (1, .ref (gad G t)), (2, .int a2), (3, .int a3)]) cx dX1_cookPair_11 (by decide) hF (fun _ => rfl) (fun v2 hF => ?_)
  refine ww_iload cx dX1_cookPair_13 0 rfl ?_
  refine ww_iconst cx dX1_cookPair_15 ic_m1 ?_
  refine ww_icmp_eq cx dX1_cookPair_16 (tgt := 32) rfl hF (fun hF => ?_) (fun hF => ?_)
  · refine ww_iconst cx dX1_cookPair_32 ic_0 ?_
    exact ww_rzs hE dX1_cookPair_33 hF
  · refine ww_aload_n cx dX1_cookPair_19 rfl 2 rfl ?_
    refine gf_X1_63 cx (ht) dX1_cookPair_20 ?_
    refine ww_iload_n cx dX1_cookPair_23 rfl 3 rfl ?_
    refine ww_iald (N := 5) cx (ar_X6_13 ht) dX1_cookPair_24 hF (fun hF => ?_)
    refine ww_iload_n cx dX1_cookPair_25 rfl 4 rfl ?_
    refine ww_ishr cx dX1_cookPair_26 ?_
    refine ww_iconst cx dX1_cookPair_27 ic_1 ?_
    refine ww_iand cx dX1_cookPair_28 ?_
    refine ww_if_ne cx dX1_cookPair_29 (tgt := 34) rfl hF (fun hF => ?_) (fun hF => ?_)
    · refine ww_iload cx dX1_cookPair_34 0 rfl ?_
      refine ww_aload_n cx dX1_cookPair_36 rfl 1 rfl ?_
      refine gf_X1_18 cx dX1_cookPair_37 ?_
      refine ww_iload_n cx dX1_cookPair_40 rfl 3 rfl ?_
      refine ww_iald (N := 5) cx (sh_58) dX1_cookPair_41 hF (fun hF => ?_)
      refine ww_mmax cx ml_X1_66 (by decide) (Nat.le_of_ble_eq_true rfl) dX1_cookPair_42 ?_
      refine ww_aload_n cx dX1_cookPair_45 rfl 2 rfl ?_
      refine gf_X1_72 cx (ht) dX1_cookPair_46 ?_
      refine ww_iload_n cx dX1_cookPair_49 rfl 3 rfl ?_
      refine ww_iald (N := 5) cx (ar_X6_12 ht) dX1_cookPair_50 hF (fun hF => ?_)
      refine ww_iadd cx dX1_cookPair_51 ?_
      refine ww_istore (ks := [0, 2, 3, 4, 5]) (lv' := fun v3 => [(5, .int v3), (0, .ref (gad G 55)), (1, .ref (gad G t)), (2, .int a2), (3, .int a3)]) cx dX1_cookPair_52 (by decide) hF (fun _ => rfl) (fun v3 hF => ?_)
      refine ww_iload cx dX1_cookPair_54 0 rfl ?_
      refine ww_aload_n cx dX1_cookPair_56 rfl 2 rfl ?_
      refine gf_X1_75 cx (ht) dX1_cookPair_57 ?_
      refine ww_icmp_le cx dX1_cookPair_60 (tgt := 65) rfl hF (fun hF => ?_) (fun hF => ?_)
      · refine ww_aload_n cx dX1_cookPair_65 rfl 1 rfl ?_
        refine ww_aload_n cx dX1_cookPair_66 rfl 2 rfl ?_
        refine gf_X1_78 cx (ht) dX1_cookPair_67 ?_
        refine ww_iload_n cx dX1_cookPair_70 rfl 4 rfl ?_
        refine ww_iald (N := 12) cx (ar_X6_10 ht) dX1_cookPair_71 hF (fun hF => ?_)
        refine ww_iload_n cx dX1_cookPair_72 rfl 3 rfl ?_
        refine ww_iload cx dX1_cookPair_73 0 rfl ?_
        refine ww_V3_sv kv_X1_81 rfl cx sh_55 ⟨Nat.le_of_ble_eq_true rfl, Nat.le_of_ble_eq_true rfl⟩ (Nat.le_of_ble_eq_true rfl) dX1_cookPair_75 (kX1_give G) hF (fun σ4 hF => ?_)
        refine ww_aload_n cx dX1_cookPair_78 rfl 1 rfl ?_
        refine gf_X1_18 cx dX1_cookPair_79 ?_
        refine ww_iload_n cx dX1_cookPair_82 rfl 3 rfl ?_
        refine ww_iload cx dX1_cookPair_83 0 rfl ?_
        refine ww_iast (N := 5) cx (sh_58) dX1_cookPair_85 hF (fun σ5 hF => ?_)
        refine ww_aload_n cx dX1_cookPair_86 rfl 1 rfl ?_
        refine gf_X1_21 cx dX1_cookPair_87 ?_
        refine ww_iload_n cx dX1_cookPair_90 rfl 3 rfl ?_
        refine ww_dup2 cx dX1_cookPair_91 rfl rfl ?_
        refine ww_iald (N := 5) cx (sh_59) dX1_cookPair_92 hF (fun hF => ?_)
        refine ww_aload_n cx dX1_cookPair_93 rfl 2 rfl ?_
        refine gf_X1_72 cx (ht) dX1_cookPair_94 ?_
        refine ww_iload_n cx dX1_cookPair_97 rfl 3 rfl ?_
        refine ww_iald (N := 5) cx (ar_X6_12 ht) dX1_cookPair_98 hF (fun hF => ?_)
        refine ww_iadd cx dX1_cookPair_99 ?_
        refine ww_iast (N := 5) cx (sh_59) dX1_cookPair_100 hF (fun σ6 hF => ?_)
        refine ww_aload_n cx dX1_cookPair_101 rfl 1 rfl ?_
        refine ww_aload_n cx dX1_cookPair_102 rfl 1 rfl ?_
        refine gf_X1_45 cx dX1_cookPair_103 ?_
        refine ww_iload cx dX1_cookPair_106 0 rfl ?_
        refine ww_mmax cx ml_X1_66 (by decide) (Nat.le_of_ble_eq_true rfl) dX1_cookPair_108 ?_
        refine pf_X1_45 cx dX1_cookPair_111 hF (fun σ7 hF => ?_)
        refine ww_aload_n cx dX1_cookPair_114 rfl 1 rfl ?_
        refine ww_dup cx dX1_cookPair_115 rfl ?_
        refine gf_X1_42 cx dX1_cookPair_116 ?_
        refine ww_iconst cx dX1_cookPair_119 ic_1 ?_
        refine ww_iadd cx dX1_cookPair_120 ?_
        refine pf_X1_42 cx dX1_cookPair_121 hF (fun σ8 hF => ?_)
        refine ww_iconst cx dX1_cookPair_124 ic_1 ?_
        exact ww_rzs hE dX1_cookPair_125 hF
      · refine ww_iconst cx dX1_cookPair_63 ic_0 ?_
        exact ww_rzs hE dX1_cookPair_64 hF
    · refine ww_iconst cx dX1_cookPair_32 ic_0 ?_
      exact ww_rzs hE dX1_cookPair_33 hF
theorem dX2_readNumber_0 : decode cX2_readNumber 0 = .ok (.aload_n 0, 1) := by decide +kernel
theorem dX2_readNumber_1 : decode cX2_readNumber 1 = .ok (.getfield 36, 3) := by decide +kernel
theorem dX2_readNumber_4 : decode cX2_readNumber 4 = .ok (.iconst 2, 1) := by decide +kernel
theorem dX2_readNumber_5 : decode cX2_readNumber 5 = .ok (.if_icmp .eq 11, 3) := by decide +kernel
theorem dX2_readNumber_8 : decode cX2_readNumber 8 = .ok (.aload_n 0, 1) := by decide +kernel
theorem dX2_readNumber_9 : decode cX2_readNumber 9 = .ok (.iconst 1, 1) := by decide +kernel
theorem dX2_readNumber_10 : decode cX2_readNumber 10 = .ok (.invokevirtual 77, 3) := by decide +kernel
theorem dX2_readNumber_13 : decode cX2_readNumber 13 = .ok (.pop, 1) := by decide +kernel
theorem dX2_readNumber_14 : decode cX2_readNumber 14 = .ok (.iconst (-1), 1) := by decide +kernel
theorem dX2_readNumber_15 : decode cX2_readNumber 15 = .ok (.ireturn, 1) := by decide +kernel
theorem dX2_readNumber_16 : decode cX2_readNumber 16 = .ok (.aload_n 0, 1) := by decide +kernel
theorem dX2_readNumber_17 : decode cX2_readNumber 17 = .ok (.getfield 122, 3) := by decide +kernel
theorem dX2_readNumber_20 : decode cX2_readNumber 20 = .ok (.istore_n 3, 1) := by decide +kernel
theorem dX2_readNumber_21 : decode cX2_readNumber 21 = .ok (.iload_n 3, 1) := by decide +kernel
theorem dX2_readNumber_22 : decode cX2_readNumber 22 = .ok (.iload_n 1, 1) := by decide +kernel
theorem dX2_readNumber_23 : decode cX2_readNumber 23 = .ok (.if_icmp .lt 8, 3) := by decide +kernel
theorem dX2_readNumber_26 : decode cX2_readNumber 26 = .ok (.iload_n 3, 1) := by decide +kernel
theorem dX2_readNumber_27 : decode cX2_readNumber 27 = .ok (.iload_n 2, 1) := by decide +kernel
theorem dX2_readNumber_28 : decode cX2_readNumber 28 = .ok (.if_icmp .le 11, 3) := by decide +kernel
theorem dX2_readNumber_31 : decode cX2_readNumber 31 = .ok (.aload_n 0, 1) := by decide +kernel
theorem dX2_readNumber_32 : decode cX2_readNumber 32 = .ok (.iconst 2, 1) := by decide +kernel
theorem dX2_readNumber_33 : decode cX2_readNumber 33 = .ok (.invokevirtual 77, 3) := by decide +kernel
theorem dX2_readNumber_36 : decode cX2_readNumber 36 = .ok (.pop, 1) := by decide +kernel
theorem dX2_readNumber_37 : decode cX2_readNumber 37 = .ok (.iconst (-1), 1) := by decide +kernel
theorem dX2_readNumber_38 : decode cX2_readNumber 38 = .ok (.ireturn, 1) := by decide +kernel
theorem dX2_readNumber_39 : decode cX2_readNumber 39 = .ok (.aload_n 0, 1) := by decide +kernel
theorem dX2_readNumber_40 : decode cX2_readNumber 40 = .ok (.invokevirtual 33, 3) := by decide +kernel
theorem dX2_readNumber_43 : decode cX2_readNumber 43 = .ok (.iload_n 3, 1) := by decide +kernel
theorem dX2_readNumber_44 : decode cX2_readNumber 44 = .ok (.ireturn, 1) := by decide +kernel
set_option maxRecDepth 4000 in
theorem kX2_readNumber (G : GT) {σ : St} {a1 : Int32} {a2 : Int32} : ∀ (r : Int32) (σo : St) , fX2_readNumber σ a1 a2 = some (r, σo) → MCt G 3 yX2_readNumber cX2_readNumber 4 (some .int) [.ref (gad G 1), .int a1, .int a2] σ (some (.int r)) σo := by
  intro r σo hF
  refine met_i (by decide) (Nat.le_of_ble_eq_true rfl) (fun X cx hE => ?_)
  have cx : Cx G X RX2 cX2_readNumber 4 3 := cx
  have hb31 : ∀ (σ : St) , fX2_readNumber_b31 σ = some (r, σo) → WW G X 4 σ [(0, .ref (gad G 1))] 31 [] := by
    intro σ hF
    unfold fX2_readNumber_b31 at hF
    refine ww_aload_n cx dX2_readNumber_31 rfl 0 rfl ?_
    refine ww_iconst cx dX2_readNumber_32 ic_2 ?_
    refine ww_V1_si kv_X2_77 rfl cx sh_1 ⟨Nat.le_of_ble_eq_true rfl, Nat.le_of_ble_eq_true rfl⟩ (Nat.le_of_ble_eq_true rfl) dX2_readNumber_33 (kX2_fail G) hF (fun r1 σ2 hF => ?_)
    refine ww_pop cx dX2_readNumber_36 rfl ?_
    refine ww_iconst cx dX2_readNumber_37 ic_m1 ?_
    exact ww_ris hE dX2_readNumber_38 hF
  unfold fX2_readNumber at hF
  show WW G X 4 σ [(0, .ref (gad G 1)), (1, .int a1), (2, .int a2)] 0 []
  refine ww_aload_n cx dX2_readNumber_0 rfl 0 rfl ?_
  refine gf_X2_36 cx dX2_readNumber_1 ?_
  refine ww_iconst cx dX2_readNumber_4 ic_2 ?_
  refine ww_icmp_eq cx dX2_readNumber_5 (tgt := 16) rfl hF (fun hF => ?_) (fun hF => ?_)
  · refine ww_aload_n cx dX2_readNumber_16 rfl 0 rfl ?_
    refine gf_X2_122 cx dX2_readNumber_17 ?_
    refine ww_istore_n (ks := [0, 1, 2, 3]) (lv' := fun v3 => [(3, .int v3), (0, .ref (gad G 1)), (1, .int a1), (2, .int a2)]) cx dX2_readNumber_20 rfl (by decide) hF (fun _ => rfl) (fun v3 hF => ?_)
    refine ww_iload_n cx dX2_readNumber_21 rfl 0 rfl ?_
    refine ww_iload_n cx dX2_readNumber_22 rfl 2 rfl ?_
    refine ww_icmp_lt cx dX2_readNumber_23 (tgt := 31) rfl hF (fun hF => ?_) (fun hF => ?_)
    · exact ww_sub [1] rfl (hb31 _ hF)
    · refine ww_iload_n cx dX2_readNumber_26 rfl 0 rfl ?_
      refine ww_iload_n cx dX2_readNumber_27 rfl 3 rfl ?_
      refine ww_icmp_le cx dX2_readNumber_28 (tgt := 39) rfl hF (fun hF => ?_) (fun hF => ?_)
      · refine ww_aload_n cx dX2_readNumber_39 rfl 1 rfl ?_
        refine ww_V0_sv kv_X2_33 rfl cx sh_1 ⟨Nat.le_of_ble_eq_true rfl, Nat.le_of_ble_eq_true rfl⟩ (Nat.le_of_ble_eq_true rfl) dX2_readNumber_40 (kX2_advance G) hF (fun σ4 hF => ?_)
        refine ww_iload_n cx dX2_readNumber_43 rfl 0 rfl ?_
        exact ww_ris hE dX2_readNumber_44 hF
      · exact ww_sub [1] rfl (hb31 _ hF)
  · refine ww_aload_n cx dX2_readNumber_8 rfl 0 rfl ?_
    refine ww_iconst cx dX2_readNumber_9 ic_1 ?_
    refine ww_V1_si kv_X2_77 rfl cx sh_1 ⟨Nat.le_of_ble_eq_true rfl, Nat.le_of_ble_eq_true rfl⟩ (Nat.le_of_ble_eq_true rfl) dX2_readNumber_10 (kX2_fail G) hF (fun r5 σ6 hF => ?_)
    refine ww_pop cx dX2_readNumber_13 rfl ?_
    refine ww_iconst cx dX2_readNumber_14 ic_m1 ?_
    exact ww_ris hE dX2_readNumber_15 hF
theorem dX2_readSign_0 : decode cX2_readSign 0 = .ok (.aload_n 0, 1) := by decide +kernel
theorem dX2_readSign_1 : decode cX2_readSign 1 = .ok (.getfield 36, 3) := by decide +kernel
theorem dX2_readSign_4 : decode cX2_readSign 4 = .ok (.iconst 3, 1) := by decide +kernel
theorem dX2_readSign_5 : decode cX2_readSign 5 = .ok (.if_icmp .eq 9, 3) := by decide +kernel
theorem dX2_readSign_8 : decode cX2_readSign 8 = .ok (.aload_n 0, 1) := by decide +kernel
theorem dX2_readSign_9 : decode cX2_readSign 9 = .ok (.iconst 1, 1) := by decide +kernel
theorem dX2_readSign_10 : decode cX2_readSign 10 = .ok (.invokevirtual 77, 3) := by decide +kernel
theorem dX2_readSign_13 : decode cX2_readSign 13 = .ok (.ireturn, 1) := by decide +kernel
theorem dX2_readSign_14 : decode cX2_readSign 14 = .ok (.aload_n 0, 1) := by decide +kernel
theorem dX2_readSign_15 : decode cX2_readSign 15 = .ok (.invokevirtual 33, 3) := by decide +kernel
theorem dX2_readSign_18 : decode cX2_readSign 18 = .ok (.iconst 1, 1) := by decide +kernel
theorem dX2_readSign_19 : decode cX2_readSign 19 = .ok (.ireturn, 1) := by decide +kernel
set_option maxRecDepth 4000 in
theorem kX2_readSign (G : GT) {σ : St} : ∀ (r : Int32) (σo : St) , fX2_readSign σ = some (r, σo) → MCt G 3 yX2_readSign cX2_readSign 1 (some .boolean) [.ref (gad G 1)] σ (some (.int r)) σo := by
  intro r σo hF
  refine met_zz (by decide) (Nat.le_of_ble_eq_true rfl) (fun X cx hE => ?_)
  have cx : Cx G X RX2 cX2_readSign 1 3 := cx
  unfold fX2_readSign at hF
  show WW G X 1 σ [(0, .ref (gad G 1))] 0 []
  refine ww_aload_n cx dX2_readSign_0 rfl 0 rfl ?_
  refine gf_X2_36 cx dX2_readSign_1 ?_
  refine ww_iconst cx dX2_readSign_4 ic_3 ?_
  refine ww_icmp_eq cx dX2_readSign_5 (tgt := 14) rfl hF (fun hF => ?_) (fun hF => ?_)
  · refine ww_aload_n cx dX2_readSign_14 rfl 0 rfl ?_
    refine ww_V0_sv kv_X2_33 rfl cx sh_1 ⟨Nat.le_of_ble_eq_true rfl, Nat.le_of_ble_eq_true rfl⟩ (Nat.le_of_ble_eq_true rfl) dX2_readSign_15 (kX2_advance G) hF (fun σ1 hF => ?_)
    refine ww_iconst cx dX2_readSign_18 ic_1 ?_
    exact ww_rzs hE dX2_readSign_19 hF
  · refine ww_aload_n cx dX2_readSign_8 rfl 0 rfl ?_
    refine ww_iconst cx dX2_readSign_9 ic_1 ?_
    refine ww_V1_si kv_X2_77 rfl cx sh_1 ⟨Nat.le_of_ble_eq_true rfl, Nat.le_of_ble_eq_true rfl⟩ (Nat.le_of_ble_eq_true rfl) dX2_readSign_10 (kX2_fail G) hF (fun r2 σ3 hF => ?_)
    exact ww_rzs hE dX2_readSign_13 hF
theorem dX5_countLeast_0 : decode cX5_countLeast 0 = .ok (.iconst 0, 1) := by decide +kernel
theorem dX5_countLeast_1 : decode cX5_countLeast 1 = .ok (.istore_n 3, 1) := by decide +kernel
theorem dX5_countLeast_2 : decode cX5_countLeast 2 = .ok (.iconst 0, 1) := by decide +kernel
theorem dX5_countLeast_3 : decode cX5_countLeast 3 = .ok (.istore 4, 2) := by decide +kernel
theorem dX5_countLeast_5 : decode cX5_countLeast 5 = .ok (.iconst 0, 1) := by decide +kernel
theorem dX5_countLeast_6 : decode cX5_countLeast 6 = .ok (.istore 5, 2) := by decide +kernel
theorem dX5_countLeast_8 : decode cX5_countLeast 8 = .ok (.iload 5, 2) := by decide +kernel
theorem dX5_countLeast_10 : decode cX5_countLeast 10 = .ok (.iload_n 1, 1) := by decide +kernel
theorem dX5_countLeast_11 : decode cX5_countLeast 11 = .ok (.invokestatic 21, 3) := by decide +kernel
theorem dX5_countLeast_14 : decode cX5_countLeast 14 = .ok (.if_icmp .ge 45, 3) := by decide +kernel
theorem dX5_countLeast_17 : decode cX5_countLeast 17 = .ok (.aload_n 0, 1) := by decide +kernel
theorem dX5_countLeast_18 : decode cX5_countLeast 18 = .ok (.getfield 9, 3) := by decide +kernel
theorem dX5_countLeast_21 : decode cX5_countLeast 21 = .ok (.iload 4, 2) := by decide +kernel
theorem dX5_countLeast_23 : decode cX5_countLeast 23 = .ok (.iaload, 1) := by decide +kernel
theorem dX5_countLeast_24 : decode cX5_countLeast 24 = .ok (.iload_n 2, 1) := by decide +kernel
theorem dX5_countLeast_25 : decode cX5_countLeast 25 = .ok (.ishr, 1) := by decide +kernel
theorem dX5_countLeast_26 : decode cX5_countLeast 26 = .ok (.iconst 1, 1) := by decide +kernel
theorem dX5_countLeast_27 : decode cX5_countLeast 27 = .ok (.iand, 1) := by decide +kernel
theorem dX5_countLeast_28 : decode cX5_countLeast 28 = .ok (.iconst 1, 1) := by decide +kernel
theorem dX5_countLeast_29 : decode cX5_countLeast 29 = .ok (.if_icmp .ne 16, 3) := by decide +kernel
theorem dX5_countLeast_32 : decode cX5_countLeast 32 = .ok (.aload_n 0, 1) := by decide +kernel
theorem dX5_countLeast_33 : decode cX5_countLeast 33 = .ok (.iload 4, 2) := by decide +kernel
theorem dX5_countLeast_35 : decode cX5_countLeast 35 = .ok (.iload_n 2, 1) := by decide +kernel
theorem dX5_countLeast_36 : decode cX5_countLeast 36 = .ok (.invokevirtual 57, 3) := by decide +kernel
theorem dX5_countLeast_39 : decode cX5_countLeast 39 = .ok (.ifCond .eq 6, 3) := by decide +kernel
theorem dX5_countLeast_42 : decode cX5_countLeast 42 = .ok (.iinc 3 1, 3) := by decide +kernel
theorem dX5_countLeast_45 : decode cX5_countLeast 45 = .ok (.iload 4, 2) := by decide +kernel
theorem dX5_countLeast_47 : decode cX5_countLeast 47 = .ok (.iload_n 1, 1) := by decide +kernel
theorem dX5_countLeast_48 : decode cX5_countLeast 48 = .ok (.invokestatic 24, 3) := by decide +kernel
theorem dX5_countLeast_51 : decode cX5_countLeast 51 = .ok (.istore 4, 2) := by decide +kernel
theorem dX5_countLeast_53 : decode cX5_countLeast 53 = .ok (.iinc 5 1, 3) := by decide +kernel
theorem dX5_countLeast_56 : decode cX5_countLeast 56 = .ok (.goto (-48), 3) := by decide +kernel
theorem dX5_countLeast_59 : decode cX5_countLeast 59 = .ok (.iload_n 3, 1) := by decide +kernel
theorem dX5_countLeast_60 : decode cX5_countLeast 60 = .ok (.ireturn, 1) := by decide +kernel
set_option maxRecDepth 4000 in
theorem kX5_countLeast (G : GT) {σ : St} {h : Nat} {a1 : Int32} {a2 : Int32} (hh : isShe h) : ∀ (r : Int32) , fX5_countLeast σ h a1 a2 = some r → MCt G 3 yX5_countLeast cX5_countLeast 6 (some .int) [.ref (gad G h), .int a1, .int a2] σ (some (.int r)) σ := by
  intro r hF
  refine met_i (by decide) (Nat.le_of_ble_eq_true rfl) (fun X cx hE => ?_)
  have cx : Cx G X RX5 cX5_countLeast 6 3 := cx
  have hb45 : ∀ (kr8 : Int32 → Int32 → Int32 → Int32 → Int32 → Option (Int32)), (∀ (x1 : Int32) (x2 : Int32) (x3 : Int32) (x4 : Int32) (x5 : Int32) , kr8 x1 x2 x3 x4 x5 = some r → WW G X 6 σ [(0, .ref (gad G h)), (1, .int x1), (2, .int x2), (3, .int x3), (4, .int x4), (5, .int x5)] 8 []) → ∀ (x1 : Int32) (x2 : Int32) (x3 : Int32) (x4 : Int32) (x5 : Int32) , fX5_countLeast_b45 σ h kr8 x1 x2 x3 x4 x5 = some r → WW G X 6 σ [(0, .ref (gad G h)), (1, .int x1), (2, .int x2), (3, .int x3), (4, .int x4), (5, .int x5)] 45 [] := by
    intro kr8 hk8
    intro x1 x2 x3 x4 x5 hF
    unfold fX5_countLeast_b45 at hF
    refine ww_iload cx dX5_countLeast_45 4 rfl ?_
    refine ww_iload_n cx dX5_countLeast_47 rfl 1 rfl ?_
    refine ww_S2_pi kv_X5_24 cx ⟨Nat.le_of_ble_eq_true rfl, Nat.le_of_ble_eq_true rfl⟩ (Nat.le_of_ble_eq_true rfl) dX5_countLeast_48 (kX5_subsetBehind G) hF (fun r1 hF => ?_)
    refine ww_istore (ks := [0, 1, 2, 3, 4, 5]) (lv' := fun v2 => [(4, .int v2), (0, .ref (gad G h)), (1, .int x1), (2, .int x2), (3, .int x3), (5, .int x5)]) cx dX5_countLeast_51 (by decide) hF (fun _ => rfl) (fun v2 hF => ?_)
    refine ww_iinc (j := 5) (ks := [0, 1, 2, 3, 4, 5]) (lv' := fun v3 => [(5, .int v3), (4, .int v2), (0, .ref (gad G h)), (1, .int x1), (2, .int x2), (3, .int x3)]) cx dX5_countLeast_53 (by decide) rfl ic_1 hF (fun _ => rfl) (fun v3 hF => ?_)
    refine ww_goto cx dX5_countLeast_56 (tgt := 8) rfl ?_
    exact ww_sub [2, 3, 4, 5, 1, 0] rfl (hk8 _ _ _ _ _ hF)
  have hl8 : ∀ n : Nat, ∀ (x1 : Int32) (x2 : Int32) (x3 : Int32) (x4 : Int32) (x5 : Int32) , fX5_countLeast_l8 σ h n x1 x2 x3 x4 x5 = some r → WW G X 6 σ [(0, .ref (gad G h)), (1, .int x1), (2, .int x2), (3, .int x3), (4, .int x4), (5, .int x5)] 8 [] := by
    intro n
    induction n with
    | zero =>
      intro x1 x2 x3 x4 x5 hF
      exact absurd hF (by intro z; cases z)
    | succ n ih =>
      intro x1 x2 x3 x4 x5 hF
      have hk8 := ih
      have hF : fX5_countLeast_B8 σ h (fX5_countLeast_l8 σ h n) x1 x2 x3 x4 x5 = some r := hF
      unfold fX5_countLeast_B8 at hF
      refine ww_iload cx dX5_countLeast_8 5 rfl ?_
      refine ww_iload_n cx dX5_countLeast_10 rfl 1 rfl ?_
      refine ww_S1_pi kv_X5_21 cx ⟨Nat.le_of_ble_eq_true rfl, Nat.le_of_ble_eq_true rfl⟩ (Nat.le_of_ble_eq_true rfl) dX5_countLeast_11 (kX5_subsetsOf G) hF (fun r4 hF => ?_)
      refine ww_icmp_ge cx dX5_countLeast_14 (tgt := 59) rfl hF (fun hF => ?_) (fun hF => ?_)
      · refine ww_iload_n cx dX5_countLeast_59 rfl 3 rfl ?_
        exact ww_rip hE dX5_countLeast_60 hF
      · refine ww_aload_n cx dX5_countLeast_17 rfl 0 rfl ?_
        refine gf_X5_9 cx (hh) dX5_countLeast_18 ?_
        refine ww_iload cx dX5_countLeast_21 4 rfl ?_
        refine ww_iald (N := 4096) cx (ar_X5_0 hh) dX5_countLeast_23 hF (fun hF => ?_)
        refine ww_iload_n cx dX5_countLeast_24 rfl 2 rfl ?_
        refine ww_ishr cx dX5_countLeast_25 ?_
        refine ww_iconst cx dX5_countLeast_26 ic_1 ?_
        refine ww_iand cx dX5_countLeast_27 ?_
        refine ww_iconst cx dX5_countLeast_28 ic_1 ?_
        refine ww_icmp_ne cx dX5_countLeast_29 (tgt := 45) rfl hF (fun hF => ?_) (fun hF => ?_)
        · exact hb45 _ hk8 _ _ _ _ _ hF
        · refine ww_aload_n cx dX5_countLeast_32 rfl 0 rfl ?_
          refine ww_iload cx dX5_countLeast_33 4 rfl ?_
          refine ww_iload_n cx dX5_countLeast_35 rfl 2 rfl ?_
          refine ww_V2_pi kv_X5_57 rfl cx ((hh).1) ⟨Nat.le_of_ble_eq_true rfl, Nat.le_of_ble_eq_true rfl⟩ (Nat.le_of_ble_eq_true rfl) dX5_countLeast_36 (kX5_isLeast G (hh)) hF (fun r5 hF => ?_)
          refine ww_if_eq cx dX5_countLeast_39 (tgt := 45) rfl hF (fun hF => ?_) (fun hF => ?_)
          · exact hb45 _ hk8 _ _ _ _ _ hF
          · refine ww_iinc (j := 3) (ks := [0, 1, 2, 3, 4, 5]) (lv' := fun v6 => [(3, .int v6), (0, .ref (gad G h)), (1, .int x1), (2, .int x2), (4, .int x4), (5, .int x5)]) cx dX5_countLeast_42 (by decide) rfl ic_1 hF (fun _ => rfl) (fun v6 hF => ?_)
            exact ww_sub [1, 2, 3, 0, 4, 5] rfl (hb45 _ hk8 _ _ _ _ _ hF)
  unfold fX5_countLeast at hF
  show WW G X 6 σ [(0, .ref (gad G h)), (1, .int a1), (2, .int a2)] 0 []
  refine ww_iconst cx dX5_countLeast_0 ic_0 ?_
  refine ww_istore_n (ks := [0, 1, 2, 3]) (lv' := fun v7 => [(3, .int v7), (0, .ref (gad G h)), (1, .int a1), (2, .int a2)]) cx dX5_countLeast_1 rfl (by decide) hF (fun _ => rfl) (fun v7 hF => ?_)
  refine ww_iconst cx dX5_countLeast_2 ic_0 ?_
  refine ww_istore (ks := [0, 1, 2, 3, 4]) (lv' := fun v8 => [(4, .int v8), (3, .int v7), (0, .ref (gad G h)), (1, .int a1), (2, .int a2)]) cx dX5_countLeast_3 (by decide) hF (fun _ => rfl) (fun v8 hF => ?_)
  refine ww_iconst cx dX5_countLeast_5 ic_0 ?_
  refine ww_istore (ks := [0, 1, 2, 3, 4, 5]) (lv' := fun v9 => [(5, .int v9), (4, .int v8), (3, .int v7), (0, .ref (gad G h)), (1, .int a1), (2, .int a2)]) cx dX5_countLeast_6 (by decide) hF (fun _ => rfl) (fun v9 hF => ?_)
  exact ww_sub [3, 4, 5, 2, 1, 0] rfl (hl8 FU _ _ _ _ _ hF)
theorem dX5_fillWithProofs_0 : decode cX5_fillWithProofs 0 = .ok (.aload_n 0, 1) := by decide +kernel
theorem dX5_fillWithProofs_1 : decode cX5_fillWithProofs 1 = .ok (.getfield 9, 3) := by decide +kernel
theorem dX5_fillWithProofs_4 : decode cX5_fillWithProofs 4 = .ok (.iconst 0, 1) := by decide +kernel
theorem dX5_fillWithProofs_5 : decode cX5_fillWithProofs 5 = .ok (.iload_n 3, 1) := by decide +kernel
theorem dX5_fillWithProofs_6 : decode cX5_fillWithProofs 6 = .ok (.iastore, 1) := by decide +kernel
theorem dX5_fillWithProofs_7 : decode cX5_fillWithProofs 7 = .ok (.iconst 0, 1) := by decide +kernel
theorem dX5_fillWithProofs_8 : decode cX5_fillWithProofs 8 = .ok (.istore 4, 2) := by decide +kernel
theorem dX5_fillWithProofs_10 : decode cX5_fillWithProofs 10 = .ok (.iconst 1, 1) := by decide +kernel
theorem dX5_fillWithProofs_11 : decode cX5_fillWithProofs 11 = .ok (.istore 5, 2) := by decide +kernel
theorem dX5_fillWithProofs_13 : decode cX5_fillWithProofs 13 = .ok (.iload 5, 2) := by decide +kernel
theorem dX5_fillWithProofs_15 : decode cX5_fillWithProofs 15 = .ok (.iload_n 2, 1) := by decide +kernel
theorem dX5_fillWithProofs_16 : decode cX5_fillWithProofs 16 = .ok (.invokestatic 21, 3) := by decide +kernel
theorem dX5_fillWithProofs_19 : decode cX5_fillWithProofs 19 = .ok (.if_icmp .ge 63, 3) := by decide +kernel
theorem dX5_fillWithProofs_22 : decode cX5_fillWithProofs 22 = .ok (.iload 4, 2) := by decide +kernel
theorem dX5_fillWithProofs_24 : decode cX5_fillWithProofs 24 = .ok (.iload_n 2, 1) := by decide +kernel
theorem dX5_fillWithProofs_25 : decode cX5_fillWithProofs 25 = .ok (.invokestatic 24, 3) := by decide +kernel
theorem dX5_fillWithProofs_28 : decode cX5_fillWithProofs 28 = .ok (.istore 4, 2) := by decide +kernel
theorem dX5_fillWithProofs_30 : decode cX5_fillWithProofs 30 = .ok (.aload_n 0, 1) := by decide +kernel
theorem dX5_fillWithProofs_31 : decode cX5_fillWithProofs 31 = .ok (.getfield 9, 3) := by decide +kernel
theorem dX5_fillWithProofs_34 : decode cX5_fillWithProofs 34 = .ok (.iload 4, 2) := by decide +kernel
theorem dX5_fillWithProofs_36 : decode cX5_fillWithProofs 36 = .ok (.invokestatic 28, 3) := by decide +kernel
theorem dX5_fillWithProofs_39 : decode cX5_fillWithProofs 39 = .ok (.iaload, 1) := by decide +kernel
theorem dX5_fillWithProofs_40 : decode cX5_fillWithProofs 40 = .ok (.istore 6, 2) := by decide +kernel
theorem dX5_fillWithProofs_42 : decode cX5_fillWithProofs 42 = .ok (.aload_n 0, 1) := by decide +kernel
theorem dX5_fillWithProofs_43 : decode cX5_fillWithProofs 43 = .ok (.getfield 9, 3) := by decide +kernel
theorem dX5_fillWithProofs_46 : decode cX5_fillWithProofs 46 = .ok (.iload 4, 2) := by decide +kernel
theorem dX5_fillWithProofs_48 : decode cX5_fillWithProofs 48 = .ok (.aload_n 1, 1) := by decide +kernel
theorem dX5_fillWithProofs_49 : decode cX5_fillWithProofs 49 = .ok (.iload 4, 2) := by decide +kernel
theorem dX5_fillWithProofs_51 : decode cX5_fillWithProofs 51 = .ok (.invokestatic 31, 3) := by decide +kernel
theorem dX5_fillWithProofs_54 : decode cX5_fillWithProofs 54 = .ok (.iload 6, 2) := by decide +kernel
theorem dX5_fillWithProofs_56 : decode cX5_fillWithProofs 56 = .ok (.invokevirtual 34, 3) := by decide +kernel
theorem dX5_fillWithProofs_59 : decode cX5_fillWithProofs 59 = .ok (.ifCond .eq 14, 3) := by decide +kernel
theorem dX5_fillWithProofs_62 : decode cX5_fillWithProofs 62 = .ok (.aload_n 1, 1) := by decide +kernel
theorem dX5_fillWithProofs_63 : decode cX5_fillWithProofs 63 = .ok (.iload 4, 2) := by decide +kernel
theorem dX5_fillWithProofs_65 : decode cX5_fillWithProofs 65 = .ok (.iload 6, 2) := by decide +kernel
theorem dX5_fillWithProofs_67 : decode cX5_fillWithProofs 67 = .ok (.invokevirtual 40, 3) := by decide +kernel
theorem dX5_fillWithProofs_70 : decode cX5_fillWithProofs 70 = .ok (.goto 5, 3) := by decide +kernel
theorem dX5_fillWithProofs_73 : decode cX5_fillWithProofs 73 = .ok (.iload 6, 2) := by decide +kernel
theorem dX5_fillWithProofs_75 : decode cX5_fillWithProofs 75 = .ok (.iastore, 1) := by decide +kernel
theorem dX5_fillWithProofs_76 : decode cX5_fillWithProofs 76 = .ok (.iinc 5 1, 3) := by decide +kernel
theorem dX5_fillWithProofs_79 : decode cX5_fillWithProofs 79 = .ok (.goto (-66), 3) := by decide +kernel
theorem dX5_fillWithProofs_82 : decode cX5_fillWithProofs 82 = .ok (.return_, 1) := by decide +kernel
set_option maxRecDepth 4000 in
theorem kX5_fillWithProofs (G : GT) {σ : St} {h : Nat} {t : Nat} {a2 : Int32} {a3 : Int32} (hh : isShe h) (ht : isTab t) : ∀ (σo : St) , fX5_fillWithProofs σ h t a2 a3 = some σo → MCt G 3 yX5_fillWithProofs cX5_fillWithProofs 7 (none) [.ref (gad G h), .ref (gad G t), .int a2, .int a3] σ (none) σo := by
  intro σo hF
  refine met_v (by decide) (Nat.le_of_ble_eq_true rfl) (fun X cx hE => ?_)
  have cx : Cx G X RX5 cX5_fillWithProofs 7 3 := cx
  have hl13 : ∀ n : Nat, ∀ (σ : St) (x2 : Int32) (x4 : Int32) (x5 : Int32) , fX5_fillWithProofs_l13 h t n σ x2 x4 x5 = some σo → WW G X 7 σ [(0, .ref (gad G h)), (1, .ref (gad G t)), (2, .int x2), (4, .int x4), (5, .int x5)] 13 [] := by
    intro n
    induction n with
    | zero =>
      intro σ x2 x4 x5 hF
      exact absurd hF (by intro z; cases z)
    | succ n ih =>
      intro σ x2 x4 x5 hF
      have hk13 := ih
      have hF : fX5_fillWithProofs_B13 h t (fX5_fillWithProofs_l13 h t n) σ x2 x4 x5 = some σo := hF
      unfold fX5_fillWithProofs_B13 at hF
      refine ww_iload cx dX5_fillWithProofs_13 4 rfl ?_
      refine ww_iload_n cx dX5_fillWithProofs_15 rfl 2 rfl ?_
      refine ww_S1_pi kv_X5_21 cx ⟨Nat.le_of_ble_eq_true rfl, Nat.le_of_ble_eq_true rfl⟩ (Nat.le_of_ble_eq_true rfl) dX5_fillWithProofs_16 (kX5_subsetsOf G) hF (fun r1 hF => ?_)
      refine ww_icmp_ge cx dX5_fillWithProofs_19 (tgt := 82) rfl hF (fun hF => ?_) (fun hF => ?_)
      · exact ww_rvs hE dX5_fillWithProofs_82 hF
      · refine ww_iload cx dX5_fillWithProofs_22 3 rfl ?_
        refine ww_iload_n cx dX5_fillWithProofs_24 rfl 2 rfl ?_
        refine ww_S2_pi kv_X5_24 cx ⟨Nat.le_of_ble_eq_true rfl, Nat.le_of_ble_eq_true rfl⟩ (Nat.le_of_ble_eq_true rfl) dX5_fillWithProofs_25 (kX5_subsetBehind G) hF (fun r2 hF => ?_)
        refine ww_istore (ks := [0, 1, 2, 3, 4]) (lv' := fun v3 => [(4, .int v3), (0, .ref (gad G h)), (1, .ref (gad G t)), (2, .int x2), (5, .int x5)]) cx dX5_fillWithProofs_28 (by decide) hF (fun _ => rfl) (fun v3 hF => ?_)
        refine ww_aload_n cx dX5_fillWithProofs_30 rfl 1 rfl ?_
        refine gf_X5_9 cx (hh) dX5_fillWithProofs_31 ?_
        refine ww_iload cx dX5_fillWithProofs_34 0 rfl ?_
        refine ww_S1_pi kv_X5_28 cx ⟨Nat.le_of_ble_eq_true rfl, Nat.le_of_ble_eq_true rfl⟩ (Nat.le_of_ble_eq_true rfl) dX5_fillWithProofs_36 (kX5_withoutLowest G) hF (fun r4 hF => ?_)
        refine ww_iald (N := 4096) cx (ar_X5_0 hh) dX5_fillWithProofs_39 hF (fun hF => ?_)
        refine ww_istore (ks := [0, 1, 2, 3, 4, 5]) (lv' := fun v5 => [(6, .int v5), (4, .int v3), (0, .ref (gad G h)), (1, .ref (gad G t)), (2, .int x2), (5, .int x5)]) cx dX5_fillWithProofs_40 (by decide) hF (fun _ => rfl) (fun v5 hF => ?_)
        refine ww_aload_n cx dX5_fillWithProofs_42 rfl 2 rfl ?_
        refine gf_X5_9 cx (hh) dX5_fillWithProofs_43 ?_
        refine ww_iload cx dX5_fillWithProofs_46 1 rfl ?_
        refine ww_aload_n cx dX5_fillWithProofs_48 rfl 3 rfl ?_
        refine ww_iload cx dX5_fillWithProofs_49 1 rfl ?_
        refine ww_N1_pi kv_X5_31 cx ⟨Nat.le_of_ble_eq_true rfl, Nat.le_of_ble_eq_true rfl⟩ (Nat.le_of_ble_eq_true rfl) dX5_fillWithProofs_51 (kX7_lowestBit G) hF (fun r6 hF => ?_)
        refine ww_iload cx dX5_fillWithProofs_54 0 rfl ?_
        refine ww_V2_pi kv_X5_34 rfl cx ((ht).1) ⟨Nat.le_of_ble_eq_true rfl, Nat.le_of_ble_eq_true rfl⟩ (Nat.le_of_ble_eq_true rfl) dX5_fillWithProofs_56 (kX6_goes G (ht)) hF (fun r7 hF => ?_)
        refine ww_if_eq cx dX5_fillWithProofs_59 (tgt := 73) rfl hF (fun hF => ?_) (fun hF => ?_)
        · refine ww_iload cx dX5_fillWithProofs_73 0 rfl ?_
          refine ww_iast (N := 4096) cx (ar_X5_0 hh) dX5_fillWithProofs_75 hF (fun σ8 hF => ?_)
          refine ww_iinc (j := 5) (ks := [0, 2, 3, 4, 5]) (lv' := fun v9 => [(5, .int v9), (4, .int v3), (0, .ref (gad G h)), (1, .ref (gad G t)), (2, .int x2)]) cx dX5_fillWithProofs_76 (by decide) rfl ic_1 hF (fun _ => rfl) (fun v9 hF => ?_)
          refine ww_goto cx dX5_fillWithProofs_79 (tgt := 13) rfl ?_
          exact ww_sub [2, 3, 4, 1, 0] rfl (hk13 _ _ _ _ hF)
        · refine ww_aload_n cx dX5_fillWithProofs_62 rfl 3 rfl ?_
          refine ww_iload cx dX5_fillWithProofs_63 1 rfl ?_
          refine ww_iload cx dX5_fillWithProofs_65 0 rfl ?_
          refine ww_V2_pi kv_X5_40 rfl cx ((ht).1) ⟨Nat.le_of_ble_eq_true rfl, Nat.le_of_ble_eq_true rfl⟩ (Nat.le_of_ble_eq_true rfl) dX5_fillWithProofs_67 (kX6_spread G (ht)) hF (fun r10 hF => ?_)
          refine ww_goto cx dX5_fillWithProofs_70 (tgt := 75) rfl ?_
          refine ww_iast (N := 4096) cx (ar_X5_0 hh) dX5_fillWithProofs_75 hF (fun σ11 hF => ?_)
          refine ww_iinc (j := 5) (ks := [0, 2, 3, 4, 5]) (lv' := fun v12 => [(5, .int v12), (4, .int v3), (0, .ref (gad G h)), (1, .ref (gad G t)), (2, .int x2)]) cx dX5_fillWithProofs_76 (by decide) rfl ic_1 hF (fun _ => rfl) (fun v12 hF => ?_)
          refine ww_goto cx dX5_fillWithProofs_79 (tgt := 13) rfl ?_
          exact ww_sub [2, 3, 4, 1, 0] rfl (hk13 _ _ _ _ hF)
  unfold fX5_fillWithProofs at hF
  show WW G X 7 σ [(0, .ref (gad G h)), (1, .ref (gad G t)), (2, .int a2), (3, .int a3)] 0 []
  refine ww_aload_n cx dX5_fillWithProofs_0 rfl 0 rfl ?_
  refine gf_X5_9 cx (hh) dX5_fillWithProofs_1 ?_
  refine ww_iconst cx dX5_fillWithProofs_4 ic_0 ?_
  refine ww_iload_n cx dX5_fillWithProofs_5 rfl 3 rfl ?_
  refine ww_iast (N := 4096) cx (ar_X5_0 hh) dX5_fillWithProofs_6 hF (fun σ13 hF => ?_)
  refine ww_iconst cx dX5_fillWithProofs_7 ic_0 ?_
  refine ww_istore (ks := [0, 1, 2, 3]) (lv' := fun v14 => [(4, .int v14), (0, .ref (gad G h)), (1, .ref (gad G t)), (2, .int a2)]) cx dX5_fillWithProofs_8 (by decide) hF (fun _ => rfl) (fun v14 hF => ?_)
  refine ww_iconst cx dX5_fillWithProofs_10 ic_1 ?_
  refine ww_istore (ks := [0, 1, 2, 3, 4]) (lv' := fun v15 => [(5, .int v15), (4, .int v14), (0, .ref (gad G h)), (1, .ref (gad G t)), (2, .int a2)]) cx dX5_fillWithProofs_11 (by decide) hF (fun _ => rfl) (fun v15 hF => ?_)
  exact ww_sub [2, 3, 4, 1, 0] rfl (hl13 FU _ _ _ _ hF)
theorem dX5_fillWithRuledOut_0 : decode cX5_fillWithRuledOut 0 = .ok (.aload_n 0, 1) := by decide +kernel
theorem dX5_fillWithRuledOut_1 : decode cX5_fillWithRuledOut 1 = .ok (.getfield 9, 3) := by decide +kernel
theorem dX5_fillWithRuledOut_4 : decode cX5_fillWithRuledOut 4 = .ok (.iconst 0, 1) := by decide +kernel
theorem dX5_fillWithRuledOut_5 : decode cX5_fillWithRuledOut 5 = .ok (.iconst 0, 1) := by decide +kernel
theorem dX5_fillWithRuledOut_6 : decode cX5_fillWithRuledOut 6 = .ok (.iastore, 1) := by decide +kernel
theorem dX5_fillWithRuledOut_7 : decode cX5_fillWithRuledOut 7 = .ok (.iconst 0, 1) := by decide +kernel
theorem dX5_fillWithRuledOut_8 : decode cX5_fillWithRuledOut 8 = .ok (.istore_n 2, 1) := by decide +kernel
theorem dX5_fillWithRuledOut_9 : decode cX5_fillWithRuledOut 9 = .ok (.iconst 1, 1) := by decide +kernel
theorem dX5_fillWithRuledOut_10 : decode cX5_fillWithRuledOut 10 = .ok (.istore_n 3, 1) := by decide +kernel
theorem dX5_fillWithRuledOut_11 : decode cX5_fillWithRuledOut 11 = .ok (.iload_n 3, 1) := by decide +kernel
theorem dX5_fillWithRuledOut_12 : decode cX5_fillWithRuledOut 12 = .ok (.aload_n 1, 1) := by decide +kernel
theorem dX5_fillWithRuledOut_13 : decode cX5_fillWithRuledOut 13 = .ok (.getfield 47, 3) := by decide +kernel
theorem dX5_fillWithRuledOut_16 : decode cX5_fillWithRuledOut 16 = .ok (.invokestatic 21, 3) := by decide +kernel
theorem dX5_fillWithRuledOut_19 : decode cX5_fillWithRuledOut 19 = .ok (.if_icmp .ge 50, 3) := by decide +kernel
theorem dX5_fillWithRuledOut_22 : decode cX5_fillWithRuledOut 22 = .ok (.iload_n 2, 1) := by decide +kernel
theorem dX5_fillWithRuledOut_23 : decode cX5_fillWithRuledOut 23 = .ok (.aload_n 1, 1) := by decide +kernel
theorem dX5_fillWithRuledOut_24 : decode cX5_fillWithRuledOut 24 = .ok (.getfield 47, 3) := by decide +kernel
theorem dX5_fillWithRuledOut_27 : decode cX5_fillWithRuledOut 27 = .ok (.invokestatic 24, 3) := by decide +kernel
theorem dX5_fillWithRuledOut_30 : decode cX5_fillWithRuledOut 30 = .ok (.istore_n 2, 1) := by decide +kernel
theorem dX5_fillWithRuledOut_31 : decode cX5_fillWithRuledOut 31 = .ok (.aload_n 0, 1) := by decide +kernel
theorem dX5_fillWithRuledOut_32 : decode cX5_fillWithRuledOut 32 = .ok (.getfield 9, 3) := by decide +kernel
theorem dX5_fillWithRuledOut_35 : decode cX5_fillWithRuledOut 35 = .ok (.iload_n 2, 1) := by decide +kernel
theorem dX5_fillWithRuledOut_36 : decode cX5_fillWithRuledOut 36 = .ok (.aload_n 0, 1) := by decide +kernel
theorem dX5_fillWithRuledOut_37 : decode cX5_fillWithRuledOut 37 = .ok (.getfield 9, 3) := by decide +kernel
theorem dX5_fillWithRuledOut_40 : decode cX5_fillWithRuledOut 40 = .ok (.iload_n 2, 1) := by decide +kernel
theorem dX5_fillWithRuledOut_41 : decode cX5_fillWithRuledOut 41 = .ok (.invokestatic 28, 3) := by decide +kernel
theorem dX5_fillWithRuledOut_44 : decode cX5_fillWithRuledOut 44 = .ok (.iaload, 1) := by decide +kernel
theorem dX5_fillWithRuledOut_45 : decode cX5_fillWithRuledOut 45 = .ok (.aload_n 1, 1) := by decide +kernel
theorem dX5_fillWithRuledOut_46 : decode cX5_fillWithRuledOut 46 = .ok (.invokevirtual 51, 3) := by decide +kernel
theorem dX5_fillWithRuledOut_49 : decode cX5_fillWithRuledOut 49 = .ok (.aload_n 1, 1) := by decide +kernel
theorem dX5_fillWithRuledOut_50 : decode cX5_fillWithRuledOut 50 = .ok (.getfield 54, 3) := by decide +kernel
theorem dX5_fillWithRuledOut_53 : decode cX5_fillWithRuledOut 53 = .ok (.iload_n 2, 1) := by decide +kernel
theorem dX5_fillWithRuledOut_54 : decode cX5_fillWithRuledOut 54 = .ok (.invokestatic 31, 3) := by decide +kernel
theorem dX5_fillWithRuledOut_57 : decode cX5_fillWithRuledOut 57 = .ok (.iaload, 1) := by decide +kernel
theorem dX5_fillWithRuledOut_58 : decode cX5_fillWithRuledOut 58 = .ok (.iconst (-1), 1) := by decide +kernel
theorem dX5_fillWithRuledOut_59 : decode cX5_fillWithRuledOut 59 = .ok (.ixor, 1) := by decide +kernel
theorem dX5_fillWithRuledOut_60 : decode cX5_fillWithRuledOut 60 = .ok (.iand, 1) := by decide +kernel
theorem dX5_fillWithRuledOut_61 : decode cX5_fillWithRuledOut 61 = .ok (.ior, 1) := by decide +kernel
theorem dX5_fillWithRuledOut_62 : decode cX5_fillWithRuledOut 62 = .ok (.iastore, 1) := by decide +kernel
theorem dX5_fillWithRuledOut_63 : decode cX5_fillWithRuledOut 63 = .ok (.iinc 3 1, 3) := by decide +kernel
theorem dX5_fillWithRuledOut_66 : decode cX5_fillWithRuledOut 66 = .ok (.goto (-55), 3) := by decide +kernel
theorem dX5_fillWithRuledOut_69 : decode cX5_fillWithRuledOut 69 = .ok (.return_, 1) := by decide +kernel
set_option maxRecDepth 4000 in
theorem kX5_fillWithRuledOut (G : GT) {σ : St} {h : Nat} {t : Nat} (hh : isShe h) (ht : isTab t) : ∀ (σo : St) , fX5_fillWithRuledOut σ h t = some σo → MCt G 3 yX5_fillWithRuledOut cX5_fillWithRuledOut 4 (none) [.ref (gad G h), .ref (gad G t)] σ (none) σo := by
  intro σo hF
  refine met_v (by decide) (Nat.le_of_ble_eq_true rfl) (fun X cx hE => ?_)
  have cx : Cx G X RX5 cX5_fillWithRuledOut 4 3 := cx
  have hl11 : ∀ n : Nat, ∀ (σ : St) (x2 : Int32) (x3 : Int32) , fX5_fillWithRuledOut_l11 h t n σ x2 x3 = some σo → WW G X 4 σ [(0, .ref (gad G h)), (1, .ref (gad G t)), (2, .int x2), (3, .int x3)] 11 [] := by
    intro n
    induction n with
    | zero =>
      intro σ x2 x3 hF
      exact absurd hF (by intro z; cases z)
    | succ n ih =>
      intro σ x2 x3 hF
      have hk11 := ih
      have hF : fX5_fillWithRuledOut_B11 h t (fX5_fillWithRuledOut_l11 h t n) σ x2 x3 = some σo := hF
      unfold fX5_fillWithRuledOut_B11 at hF
      refine ww_iload_n cx dX5_fillWithRuledOut_11 rfl 3 rfl ?_
      refine ww_aload_n cx dX5_fillWithRuledOut_12 rfl 1 rfl ?_
      refine gf_X5_47 cx (ht) dX5_fillWithRuledOut_13 ?_
      refine ww_S1_pi kv_X5_21 cx ⟨Nat.le_of_ble_eq_true rfl, Nat.le_of_ble_eq_true rfl⟩ (Nat.le_of_ble_eq_true rfl) dX5_fillWithRuledOut_16 (kX5_subsetsOf G) hF (fun r1 hF => ?_)
      refine ww_icmp_ge cx dX5_fillWithRuledOut_19 (tgt := 69) rfl hF (fun hF => ?_) (fun hF => ?_)
      · exact ww_rvs hE dX5_fillWithRuledOut_69 hF
      · refine ww_iload_n cx dX5_fillWithRuledOut_22 rfl 2 rfl ?_
        refine ww_aload_n cx dX5_fillWithRuledOut_23 rfl 1 rfl ?_
        refine gf_X5_47 cx (ht) dX5_fillWithRuledOut_24 ?_
        refine ww_S2_pi kv_X5_24 cx ⟨Nat.le_of_ble_eq_true rfl, Nat.le_of_ble_eq_true rfl⟩ (Nat.le_of_ble_eq_true rfl) dX5_fillWithRuledOut_27 (kX5_subsetBehind G) hF (fun r2 hF => ?_)
        refine ww_istore_n (ks := [0, 1, 2, 3]) (lv' := fun v3 => [(2, .int v3), (0, .ref (gad G h)), (1, .ref (gad G t)), (3, .int x3)]) cx dX5_fillWithRuledOut_30 rfl (by decide) hF (fun _ => rfl) (fun v3 hF => ?_)
        refine ww_aload_n cx dX5_fillWithRuledOut_31 rfl 1 rfl ?_
        refine gf_X5_9 cx (hh) dX5_fillWithRuledOut_32 ?_
        refine ww_iload_n cx dX5_fillWithRuledOut_35 rfl 0 rfl ?_
        refine ww_aload_n cx dX5_fillWithRuledOut_36 rfl 1 rfl ?_
        refine gf_X5_9 cx (hh) dX5_fillWithRuledOut_37 ?_
        refine ww_iload_n cx dX5_fillWithRuledOut_40 rfl 0 rfl ?_
        refine ww_S1_pi kv_X5_28 cx ⟨Nat.le_of_ble_eq_true rfl, Nat.le_of_ble_eq_true rfl⟩ (Nat.le_of_ble_eq_true rfl) dX5_fillWithRuledOut_41 (kX5_withoutLowest G) hF (fun r4 hF => ?_)
        refine ww_iald (N := 4096) cx (ar_X5_0 hh) dX5_fillWithRuledOut_44 hF (fun hF => ?_)
        refine ww_aload_n cx dX5_fillWithRuledOut_45 rfl 2 rfl ?_
        refine ww_V0_pi kv_X5_51 rfl cx ((ht).1) ⟨Nat.le_of_ble_eq_true rfl, Nat.le_of_ble_eq_true rfl⟩ (Nat.le_of_ble_eq_true rfl) dX5_fillWithRuledOut_46 (kX6_allWorlds G (ht)) hF (fun r5 hF => ?_)
        refine ww_aload_n cx dX5_fillWithRuledOut_49 rfl 2 rfl ?_
        refine gf_X5_54 cx (ht) dX5_fillWithRuledOut_50 ?_
        refine ww_iload_n cx dX5_fillWithRuledOut_53 rfl 0 rfl ?_
        refine ww_N1_pi kv_X5_31 cx ⟨Nat.le_of_ble_eq_true rfl, Nat.le_of_ble_eq_true rfl⟩ (Nat.le_of_ble_eq_true rfl) dX5_fillWithRuledOut_54 (kX7_lowestBit G) hF (fun r6 hF => ?_)
        refine ww_iald (N := 12) cx (ar_X6_9 ht) dX5_fillWithRuledOut_57 hF (fun hF => ?_)
        refine ww_iconst cx dX5_fillWithRuledOut_58 ic_m1 ?_
        refine ww_ixor cx dX5_fillWithRuledOut_59 ?_
        refine ww_iand cx dX5_fillWithRuledOut_60 ?_
        refine ww_ior cx dX5_fillWithRuledOut_61 ?_
        refine ww_iast (N := 4096) cx (ar_X5_0 hh) dX5_fillWithRuledOut_62 hF (fun σ7 hF => ?_)
        refine ww_iinc (j := 3) (ks := [0, 1, 2, 3]) (lv' := fun v8 => [(3, .int v8), (2, .int v3), (0, .ref (gad G h)), (1, .ref (gad G t))]) cx dX5_fillWithRuledOut_63 (by decide) rfl ic_1 hF (fun _ => rfl) (fun v8 hF => ?_)
        refine ww_goto cx dX5_fillWithRuledOut_66 (tgt := 11) rfl ?_
        exact ww_sub [2, 3, 1, 0] rfl (hk11 _ _ _ hF)
  unfold fX5_fillWithRuledOut at hF
  show WW G X 4 σ [(0, .ref (gad G h)), (1, .ref (gad G t))] 0 []
  refine ww_aload_n cx dX5_fillWithRuledOut_0 rfl 0 rfl ?_
  refine gf_X5_9 cx (hh) dX5_fillWithRuledOut_1 ?_
  refine ww_iconst cx dX5_fillWithRuledOut_4 ic_0 ?_
  refine ww_iconst cx dX5_fillWithRuledOut_5 ic_0 ?_
  refine ww_iast (N := 4096) cx (ar_X5_0 hh) dX5_fillWithRuledOut_6 hF (fun σ9 hF => ?_)
  refine ww_iconst cx dX5_fillWithRuledOut_7 ic_0 ?_
  refine ww_istore_n (ks := [0, 1, 2]) (lv' := fun v10 => [(2, .int v10), (0, .ref (gad G h)), (1, .ref (gad G t))]) cx dX5_fillWithRuledOut_8 rfl (by decide) hF (fun _ => rfl) (fun v10 hF => ?_)
  refine ww_iconst cx dX5_fillWithRuledOut_9 ic_1 ?_
  refine ww_istore_n (ks := [0, 1, 2, 3]) (lv' := fun v11 => [(3, .int v11), (2, .int v10), (0, .ref (gad G h)), (1, .ref (gad G t))]) cx dX5_fillWithRuledOut_10 rfl (by decide) hF (fun _ => rfl) (fun v11 hF => ?_)
  exact ww_sub [2, 3, 1, 0] rfl (hl11 FU _ _ _ hF)
theorem dX5_fillWithSaltProofs_0 : decode cX5_fillWithSaltProofs 0 = .ok (.aload_n 0, 1) := by decide +kernel
theorem dX5_fillWithSaltProofs_1 : decode cX5_fillWithSaltProofs 1 = .ok (.getfield 9, 3) := by decide +kernel
theorem dX5_fillWithSaltProofs_4 : decode cX5_fillWithSaltProofs 4 = .ok (.iconst 0, 1) := by decide +kernel
theorem dX5_fillWithSaltProofs_5 : decode cX5_fillWithSaltProofs 5 = .ok (.aload_n 1, 1) := by decide +kernel
theorem dX5_fillWithSaltProofs_6 : decode cX5_fillWithSaltProofs 6 = .ok (.aload_n 1, 1) := by decide +kernel
theorem dX5_fillWithSaltProofs_7 : decode cX5_fillWithSaltProofs 7 = .ok (.invokevirtual 43, 3) := by decide +kernel
theorem dX5_fillWithSaltProofs_10 : decode cX5_fillWithSaltProofs 10 = .ok (.iconst 0, 1) := by decide +kernel
theorem dX5_fillWithSaltProofs_11 : decode cX5_fillWithSaltProofs 11 = .ok (.invokevirtual 40, 3) := by decide +kernel
theorem dX5_fillWithSaltProofs_14 : decode cX5_fillWithSaltProofs 14 = .ok (.iastore, 1) := by decide +kernel
theorem dX5_fillWithSaltProofs_15 : decode cX5_fillWithSaltProofs 15 = .ok (.iconst 0, 1) := by decide +kernel
theorem dX5_fillWithSaltProofs_16 : decode cX5_fillWithSaltProofs 16 = .ok (.istore_n 2, 1) := by decide +kernel
theorem dX5_fillWithSaltProofs_17 : decode cX5_fillWithSaltProofs 17 = .ok (.iconst 1, 1) := by decide +kernel
theorem dX5_fillWithSaltProofs_18 : decode cX5_fillWithSaltProofs 18 = .ok (.istore_n 3, 1) := by decide +kernel
theorem dX5_fillWithSaltProofs_19 : decode cX5_fillWithSaltProofs 19 = .ok (.iload_n 3, 1) := by decide +kernel
theorem dX5_fillWithSaltProofs_20 : decode cX5_fillWithSaltProofs 20 = .ok (.aload_n 1, 1) := by decide +kernel
theorem dX5_fillWithSaltProofs_21 : decode cX5_fillWithSaltProofs 21 = .ok (.getfield 47, 3) := by decide +kernel
theorem dX5_fillWithSaltProofs_24 : decode cX5_fillWithSaltProofs 24 = .ok (.invokestatic 21, 3) := by decide +kernel
theorem dX5_fillWithSaltProofs_27 : decode cX5_fillWithSaltProofs 27 = .ok (.if_icmp .ge 43, 3) := by decide +kernel
theorem dX5_fillWithSaltProofs_30 : decode cX5_fillWithSaltProofs 30 = .ok (.iload_n 2, 1) := by decide +kernel
theorem dX5_fillWithSaltProofs_31 : decode cX5_fillWithSaltProofs 31 = .ok (.aload_n 1, 1) := by decide +kernel
theorem dX5_fillWithSaltProofs_32 : decode cX5_fillWithSaltProofs 32 = .ok (.getfield 47, 3) := by decide +kernel
theorem dX5_fillWithSaltProofs_35 : decode cX5_fillWithSaltProofs 35 = .ok (.invokestatic 24, 3) := by decide +kernel
theorem dX5_fillWithSaltProofs_38 : decode cX5_fillWithSaltProofs 38 = .ok (.istore_n 2, 1) := by decide +kernel
theorem dX5_fillWithSaltProofs_39 : decode cX5_fillWithSaltProofs 39 = .ok (.aload_n 0, 1) := by decide +kernel
theorem dX5_fillWithSaltProofs_40 : decode cX5_fillWithSaltProofs 40 = .ok (.getfield 9, 3) := by decide +kernel
theorem dX5_fillWithSaltProofs_43 : decode cX5_fillWithSaltProofs 43 = .ok (.iload_n 2, 1) := by decide +kernel
theorem dX5_fillWithSaltProofs_44 : decode cX5_fillWithSaltProofs 44 = .ok (.aload_n 1, 1) := by decide +kernel
theorem dX5_fillWithSaltProofs_45 : decode cX5_fillWithSaltProofs 45 = .ok (.aload_n 1, 1) := by decide +kernel
theorem dX5_fillWithSaltProofs_46 : decode cX5_fillWithSaltProofs 46 = .ok (.invokevirtual 43, 3) := by decide +kernel
theorem dX5_fillWithSaltProofs_49 : decode cX5_fillWithSaltProofs 49 = .ok (.aload_n 0, 1) := by decide +kernel
theorem dX5_fillWithSaltProofs_50 : decode cX5_fillWithSaltProofs 50 = .ok (.getfield 9, 3) := by decide +kernel
theorem dX5_fillWithSaltProofs_53 : decode cX5_fillWithSaltProofs 53 = .ok (.iload_n 2, 1) := by decide +kernel
theorem dX5_fillWithSaltProofs_54 : decode cX5_fillWithSaltProofs 54 = .ok (.invokestatic 28, 3) := by decide +kernel
theorem dX5_fillWithSaltProofs_57 : decode cX5_fillWithSaltProofs 57 = .ok (.iaload, 1) := by decide +kernel
theorem dX5_fillWithSaltProofs_58 : decode cX5_fillWithSaltProofs 58 = .ok (.iload_n 2, 1) := by decide +kernel
theorem dX5_fillWithSaltProofs_59 : decode cX5_fillWithSaltProofs 59 = .ok (.ior, 1) := by decide +kernel
theorem dX5_fillWithSaltProofs_60 : decode cX5_fillWithSaltProofs 60 = .ok (.invokevirtual 40, 3) := by decide +kernel
theorem dX5_fillWithSaltProofs_63 : decode cX5_fillWithSaltProofs 63 = .ok (.iastore, 1) := by decide +kernel
theorem dX5_fillWithSaltProofs_64 : decode cX5_fillWithSaltProofs 64 = .ok (.iinc 3 1, 3) := by decide +kernel
theorem dX5_fillWithSaltProofs_67 : decode cX5_fillWithSaltProofs 67 = .ok (.goto (-48), 3) := by decide +kernel
theorem dX5_fillWithSaltProofs_70 : decode cX5_fillWithSaltProofs 70 = .ok (.return_, 1) := by decide +kernel
set_option maxRecDepth 4000 in
theorem kX5_fillWithSaltProofs (G : GT) {σ : St} {h : Nat} {t : Nat} (hh : isShe h) (ht : isTab t) : ∀ (σo : St) , fX5_fillWithSaltProofs σ h t = some σo → MCt G 3 yX5_fillWithSaltProofs cX5_fillWithSaltProofs 4 (none) [.ref (gad G h), .ref (gad G t)] σ (none) σo := by
  intro σo hF
  refine met_v (by decide) (Nat.le_of_ble_eq_true rfl) (fun X cx hE => ?_)
  have cx : Cx G X RX5 cX5_fillWithSaltProofs 4 3 := cx
  have hl19 : ∀ n : Nat, ∀ (σ : St) (x2 : Int32) (x3 : Int32) , fX5_fillWithSaltProofs_l19 h t n σ x2 x3 = some σo → WW G X 4 σ [(0, .ref (gad G h)), (1, .ref (gad G t)), (2, .int x2), (3, .int x3)] 19 [] := by
    intro n
    induction n with
    | zero =>
      intro σ x2 x3 hF
      exact absurd hF (by intro z; cases z)
    | succ n ih =>
      intro σ x2 x3 hF
      have hk19 := ih
      have hF : fX5_fillWithSaltProofs_B19 h t (fX5_fillWithSaltProofs_l19 h t n) σ x2 x3 = some σo := hF
      unfold fX5_fillWithSaltProofs_B19 at hF
      refine ww_iload_n cx dX5_fillWithSaltProofs_19 rfl 3 rfl ?_
      refine ww_aload_n cx dX5_fillWithSaltProofs_20 rfl 1 rfl ?_
      refine gf_X5_47 cx (ht) dX5_fillWithSaltProofs_21 ?_
      refine ww_S1_pi kv_X5_21 cx ⟨Nat.le_of_ble_eq_true rfl, Nat.le_of_ble_eq_true rfl⟩ (Nat.le_of_ble_eq_true rfl) dX5_fillWithSaltProofs_24 (kX5_subsetsOf G) hF (fun r1 hF => ?_)
      refine ww_icmp_ge cx dX5_fillWithSaltProofs_27 (tgt := 70) rfl hF (fun hF => ?_) (fun hF => ?_)
      · exact ww_rvs hE dX5_fillWithSaltProofs_70 hF
      · refine ww_iload_n cx dX5_fillWithSaltProofs_30 rfl 2 rfl ?_
        refine ww_aload_n cx dX5_fillWithSaltProofs_31 rfl 1 rfl ?_
        refine gf_X5_47 cx (ht) dX5_fillWithSaltProofs_32 ?_
        refine ww_S2_pi kv_X5_24 cx ⟨Nat.le_of_ble_eq_true rfl, Nat.le_of_ble_eq_true rfl⟩ (Nat.le_of_ble_eq_true rfl) dX5_fillWithSaltProofs_35 (kX5_subsetBehind G) hF (fun r2 hF => ?_)
        refine ww_istore_n (ks := [0, 1, 2, 3]) (lv' := fun v3 => [(2, .int v3), (0, .ref (gad G h)), (1, .ref (gad G t)), (3, .int x3)]) cx dX5_fillWithSaltProofs_38 rfl (by decide) hF (fun _ => rfl) (fun v3 hF => ?_)
        refine ww_aload_n cx dX5_fillWithSaltProofs_39 rfl 1 rfl ?_
        refine gf_X5_9 cx (hh) dX5_fillWithSaltProofs_40 ?_
        refine ww_iload_n cx dX5_fillWithSaltProofs_43 rfl 0 rfl ?_
        refine ww_aload_n cx dX5_fillWithSaltProofs_44 rfl 2 rfl ?_
        refine ww_aload_n cx dX5_fillWithSaltProofs_45 rfl 2 rfl ?_
        refine ww_V0_pi kv_X5_43 rfl cx ((ht).1) ⟨Nat.le_of_ble_eq_true rfl, Nat.le_of_ble_eq_true rfl⟩ (Nat.le_of_ble_eq_true rfl) dX5_fillWithSaltProofs_46 (kX6_allSteps G (ht)) hF (fun r4 hF => ?_)
        refine ww_aload_n cx dX5_fillWithSaltProofs_49 rfl 1 rfl ?_
        refine gf_X5_9 cx (hh) dX5_fillWithSaltProofs_50 ?_
        refine ww_iload_n cx dX5_fillWithSaltProofs_53 rfl 0 rfl ?_
        refine ww_S1_pi kv_X5_28 cx ⟨Nat.le_of_ble_eq_true rfl, Nat.le_of_ble_eq_true rfl⟩ (Nat.le_of_ble_eq_true rfl) dX5_fillWithSaltProofs_54 (kX5_withoutLowest G) hF (fun r5 hF => ?_)
        refine ww_iald (N := 4096) cx (ar_X5_0 hh) dX5_fillWithSaltProofs_57 hF (fun hF => ?_)
        refine ww_iload_n cx dX5_fillWithSaltProofs_58 rfl 0 rfl ?_
        refine ww_ior cx dX5_fillWithSaltProofs_59 ?_
        refine ww_V2_pi kv_X5_40 rfl cx ((ht).1) ⟨Nat.le_of_ble_eq_true rfl, Nat.le_of_ble_eq_true rfl⟩ (Nat.le_of_ble_eq_true rfl) dX5_fillWithSaltProofs_60 (kX6_spread G (ht)) hF (fun r6 hF => ?_)
        refine ww_iast (N := 4096) cx (ar_X5_0 hh) dX5_fillWithSaltProofs_63 hF (fun σ7 hF => ?_)
        refine ww_iinc (j := 3) (ks := [0, 1, 2, 3]) (lv' := fun v8 => [(3, .int v8), (2, .int v3), (0, .ref (gad G h)), (1, .ref (gad G t))]) cx dX5_fillWithSaltProofs_64 (by decide) rfl ic_1 hF (fun _ => rfl) (fun v8 hF => ?_)
        refine ww_goto cx dX5_fillWithSaltProofs_67 (tgt := 19) rfl ?_
        exact ww_sub [2, 3, 1, 0] rfl (hk19 _ _ _ hF)
  unfold fX5_fillWithSaltProofs at hF
  show WW G X 4 σ [(0, .ref (gad G h)), (1, .ref (gad G t))] 0 []
  refine ww_aload_n cx dX5_fillWithSaltProofs_0 rfl 0 rfl ?_
  refine gf_X5_9 cx (hh) dX5_fillWithSaltProofs_1 ?_
  refine ww_iconst cx dX5_fillWithSaltProofs_4 ic_0 ?_
  refine ww_aload_n cx dX5_fillWithSaltProofs_5 rfl 1 rfl ?_
  refine ww_aload_n cx dX5_fillWithSaltProofs_6 rfl 1 rfl ?_
  refine ww_V0_pi kv_X5_43 rfl cx ((ht).1) ⟨Nat.le_of_ble_eq_true rfl, Nat.le_of_ble_eq_true rfl⟩ (Nat.le_of_ble_eq_true rfl) dX5_fillWithSaltProofs_7 (kX6_allSteps G (ht)) hF (fun r9 hF => ?_)
  refine ww_iconst cx dX5_fillWithSaltProofs_10 ic_0 ?_
  refine ww_V2_pi kv_X5_40 rfl cx ((ht).1) ⟨Nat.le_of_ble_eq_true rfl, Nat.le_of_ble_eq_true rfl⟩ (Nat.le_of_ble_eq_true rfl) dX5_fillWithSaltProofs_11 (kX6_spread G (ht)) hF (fun r10 hF => ?_)
  refine ww_iast (N := 4096) cx (ar_X5_0 hh) dX5_fillWithSaltProofs_14 hF (fun σ11 hF => ?_)
  refine ww_iconst cx dX5_fillWithSaltProofs_15 ic_0 ?_
  refine ww_istore_n (ks := [0, 1, 2]) (lv' := fun v12 => [(2, .int v12), (0, .ref (gad G h)), (1, .ref (gad G t))]) cx dX5_fillWithSaltProofs_16 rfl (by decide) hF (fun _ => rfl) (fun v12 hF => ?_)
  refine ww_iconst cx dX5_fillWithSaltProofs_17 ic_1 ?_
  refine ww_istore_n (ks := [0, 1, 2, 3]) (lv' := fun v13 => [(3, .int v13), (2, .int v12), (0, .ref (gad G h)), (1, .ref (gad G t))]) cx dX5_fillWithSaltProofs_18 rfl (by decide) hF (fun _ => rfl) (fun v13 hF => ?_)
  exact ww_sub [2, 3, 1, 0] rfl (hl19 FU _ _ _ hF)
theorem dX5_leastSet_0 : decode cX5_leastSet 0 = .ok (.iload_n 2, 1) := by decide +kernel
theorem dX5_leastSet_1 : decode cX5_leastSet 1 = .ok (.aload_n 0, 1) := by decide +kernel
theorem dX5_leastSet_2 : decode cX5_leastSet 2 = .ok (.getfield 9, 3) := by decide +kernel
theorem dX5_leastSet_5 : decode cX5_leastSet 5 = .ok (.iload_n 1, 1) := by decide +kernel
theorem dX5_leastSet_6 : decode cX5_leastSet 6 = .ok (.iaload, 1) := by decide +kernel
theorem dX5_leastSet_7 : decode cX5_leastSet 7 = .ok (.iconst (-1), 1) := by decide +kernel
theorem dX5_leastSet_8 : decode cX5_leastSet 8 = .ok (.ixor, 1) := by decide +kernel
theorem dX5_leastSet_9 : decode cX5_leastSet 9 = .ok (.iand, 1) := by decide +kernel
theorem dX5_leastSet_10 : decode cX5_leastSet 10 = .ok (.ifCond .eq 5, 3) := by decide +kernel
theorem dX5_leastSet_13 : decode cX5_leastSet 13 = .ok (.iconst (-1), 1) := by decide +kernel
theorem dX5_leastSet_14 : decode cX5_leastSet 14 = .ok (.ireturn, 1) := by decide +kernel
theorem dX5_leastSet_15 : decode cX5_leastSet 15 = .ok (.iload_n 1, 1) := by decide +kernel
theorem dX5_leastSet_16 : decode cX5_leastSet 16 = .ok (.istore_n 3, 1) := by decide +kernel
theorem dX5_leastSet_17 : decode cX5_leastSet 17 = .ok (.iconst 0, 1) := by decide +kernel
theorem dX5_leastSet_18 : decode cX5_leastSet 18 = .ok (.istore 4, 2) := by decide +kernel
theorem dX5_leastSet_20 : decode cX5_leastSet 20 = .ok (.iconst 0, 1) := by decide +kernel
theorem dX5_leastSet_21 : decode cX5_leastSet 21 = .ok (.istore 5, 2) := by decide +kernel
theorem dX5_leastSet_23 : decode cX5_leastSet 23 = .ok (.iload 5, 2) := by decide +kernel
theorem dX5_leastSet_25 : decode cX5_leastSet 25 = .ok (.iload_n 1, 1) := by decide +kernel
theorem dX5_leastSet_26 : decode cX5_leastSet 26 = .ok (.invokestatic 21, 3) := by decide +kernel
theorem dX5_leastSet_29 : decode cX5_leastSet 29 = .ok (.if_icmp .ge 58, 3) := by decide +kernel
theorem dX5_leastSet_32 : decode cX5_leastSet 32 = .ok (.iload_n 2, 1) := by decide +kernel
theorem dX5_leastSet_33 : decode cX5_leastSet 33 = .ok (.aload_n 0, 1) := by decide +kernel
theorem dX5_leastSet_34 : decode cX5_leastSet 34 = .ok (.getfield 9, 3) := by decide +kernel
theorem dX5_leastSet_37 : decode cX5_leastSet 37 = .ok (.iload 4, 2) := by decide +kernel
theorem dX5_leastSet_39 : decode cX5_leastSet 39 = .ok (.iaload, 1) := by decide +kernel
theorem dX5_leastSet_40 : decode cX5_leastSet 40 = .ok (.iconst (-1), 1) := by decide +kernel
theorem dX5_leastSet_41 : decode cX5_leastSet 41 = .ok (.ixor, 1) := by decide +kernel
theorem dX5_leastSet_42 : decode cX5_leastSet 42 = .ok (.iand, 1) := by decide +kernel
theorem dX5_leastSet_43 : decode cX5_leastSet 43 = .ok (.ifCond .ne 7, 3) := by decide +kernel
theorem dX5_leastSet_46 : decode cX5_leastSet 46 = .ok (.iconst 1, 1) := by decide +kernel
theorem dX5_leastSet_47 : decode cX5_leastSet 47 = .ok (.goto 4, 3) := by decide +kernel
theorem dX5_leastSet_50 : decode cX5_leastSet 50 = .ok (.iconst 0, 1) := by decide +kernel
theorem dX5_leastSet_51 : decode cX5_leastSet 51 = .ok (.istore 6, 2) := by decide +kernel
theorem dX5_leastSet_53 : decode cX5_leastSet 53 = .ok (.iload 6, 2) := by decide +kernel
theorem dX5_leastSet_55 : decode cX5_leastSet 55 = .ok (.ifCond .eq 18, 3) := by decide +kernel
theorem dX5_leastSet_58 : decode cX5_leastSet 58 = .ok (.iload 4, 2) := by decide +kernel
theorem dX5_leastSet_60 : decode cX5_leastSet 60 = .ok (.invokestatic 15, 3) := by decide +kernel
theorem dX5_leastSet_63 : decode cX5_leastSet 63 = .ok (.iload_n 3, 1) := by decide +kernel
theorem dX5_leastSet_64 : decode cX5_leastSet 64 = .ok (.invokestatic 15, 3) := by decide +kernel
theorem dX5_leastSet_67 : decode cX5_leastSet 67 = .ok (.if_icmp .ge 6, 3) := by decide +kernel
theorem dX5_leastSet_70 : decode cX5_leastSet 70 = .ok (.iload 4, 2) := by decide +kernel
theorem dX5_leastSet_72 : decode cX5_leastSet 72 = .ok (.istore_n 3, 1) := by decide +kernel
theorem dX5_leastSet_73 : decode cX5_leastSet 73 = .ok (.iload 4, 2) := by decide +kernel
theorem dX5_leastSet_75 : decode cX5_leastSet 75 = .ok (.iload_n 1, 1) := by decide +kernel
theorem dX5_leastSet_76 : decode cX5_leastSet 76 = .ok (.invokestatic 24, 3) := by decide +kernel
theorem dX5_leastSet_79 : decode cX5_leastSet 79 = .ok (.istore 4, 2) := by decide +kernel
theorem dX5_leastSet_81 : decode cX5_leastSet 81 = .ok (.iinc 5 1, 3) := by decide +kernel
theorem dX5_leastSet_84 : decode cX5_leastSet 84 = .ok (.goto (-61), 3) := by decide +kernel
theorem dX5_leastSet_87 : decode cX5_leastSet 87 = .ok (.iload_n 3, 1) := by decide +kernel
theorem dX5_leastSet_88 : decode cX5_leastSet 88 = .ok (.ireturn, 1) := by decide +kernel
set_option maxRecDepth 4000 in
theorem kX5_leastSet (G : GT) {σ : St} {h : Nat} {a1 : Int32} {a2 : Int32} (hh : isShe h) : ∀ (r : Int32) , fX5_leastSet σ h a1 a2 = some r → MCt G 3 yX5_leastSet cX5_leastSet 7 (some .int) [.ref (gad G h), .int a1, .int a2] σ (some (.int r)) σ := by
  intro r hF
  refine met_i (by decide) (Nat.le_of_ble_eq_true rfl) (fun X cx hE => ?_)
  have cx : Cx G X RX5 cX5_leastSet 7 3 := cx
  have hb73 : ∀ (kr23 : Int32 → Int32 → Int32 → Int32 → Int32 → Option (Int32)), (∀ (x1 : Int32) (x2 : Int32) (x3 : Int32) (x4 : Int32) (x5 : Int32) , kr23 x1 x2 x3 x4 x5 = some r → WW G X 7 σ [(0, .ref (gad G h)), (1, .int x1), (2, .int x2), (3, .int x3), (4, .int x4), (5, .int x5)] 23 []) → ∀ (x1 : Int32) (x2 : Int32) (x3 : Int32) (x4 : Int32) (x5 : Int32) , fX5_leastSet_b73 σ h kr23 x1 x2 x3 x4 x5 = some r → WW G X 7 σ [(0, .ref (gad G h)), (1, .int x1), (2, .int x2), (3, .int x3), (4, .int x4), (5, .int x5)] 73 [] := by
    intro kr23 hk23
    intro x1 x2 x3 x4 x5 hF
    unfold fX5_leastSet_b73 at hF
    refine ww_iload cx dX5_leastSet_73 4 rfl ?_
    refine ww_iload_n cx dX5_leastSet_75 rfl 1 rfl ?_
    refine ww_S2_pi kv_X5_24 cx ⟨Nat.le_of_ble_eq_true rfl, Nat.le_of_ble_eq_true rfl⟩ (Nat.le_of_ble_eq_true rfl) dX5_leastSet_76 (kX5_subsetBehind G) hF (fun r1 hF => ?_)
    refine ww_istore (ks := [0, 1, 2, 3, 4, 5]) (lv' := fun v2 => [(4, .int v2), (0, .ref (gad G h)), (1, .int x1), (2, .int x2), (3, .int x3), (5, .int x5)]) cx dX5_leastSet_79 (by decide) hF (fun _ => rfl) (fun v2 hF => ?_)
    refine ww_iinc (j := 5) (ks := [0, 1, 2, 3, 4, 5]) (lv' := fun v3 => [(5, .int v3), (4, .int v2), (0, .ref (gad G h)), (1, .int x1), (2, .int x2), (3, .int x3)]) cx dX5_leastSet_81 (by decide) rfl ic_1 hF (fun _ => rfl) (fun v3 hF => ?_)
    refine ww_goto cx dX5_leastSet_84 (tgt := 23) rfl ?_
    exact ww_sub [2, 3, 4, 5, 1, 0] rfl (hk23 _ _ _ _ _ hF)
  have hb51 : ∀ (kr23 : Int32 → Int32 → Int32 → Int32 → Int32 → Option (Int32)), (∀ (x1 : Int32) (x2 : Int32) (x3 : Int32) (x4 : Int32) (x5 : Int32) , kr23 x1 x2 x3 x4 x5 = some r → WW G X 7 σ [(0, .ref (gad G h)), (1, .int x1), (2, .int x2), (3, .int x3), (4, .int x4), (5, .int x5)] 23 []) → ∀ (x1 : Int32) (x2 : Int32) (x3 : Int32) (x4 : Int32) (x5 : Int32) (y0 : Int32) , fX5_leastSet_b51 σ h kr23 x1 x2 x3 x4 x5 y0 = some r → WW G X 7 σ [(0, .ref (gad G h)), (1, .int x1), (2, .int x2), (3, .int x3), (4, .int x4), (5, .int x5)] 51 [.int y0] := by
    intro kr23 hk23
    intro x1 x2 x3 x4 x5 y0 hF
    unfold fX5_leastSet_b51 at hF
    refine ww_istore (ks := [0, 1, 2, 3, 4, 5, 6]) (lv' := fun v4 => [(6, .int v4), (0, .ref (gad G h)), (1, .int x1), (2, .int x2), (3, .int x3), (4, .int x4), (5, .int x5)]) cx dX5_leastSet_51 (by decide) hF (fun _ => rfl) (fun v4 hF => ?_)
    refine ww_iload cx dX5_leastSet_53 0 rfl ?_
    refine ww_if_eq cx dX5_leastSet_55 (tgt := 73) rfl hF (fun hF => ?_) (fun hF => ?_)
    · exact ww_sub [1, 2, 3, 4, 5, 6] rfl (hb73 _ hk23 _ _ _ _ _ hF)
    · refine ww_iload cx dX5_leastSet_58 5 rfl ?_
      refine ww_S1_pi kv_X5_15 cx ⟨Nat.le_of_ble_eq_true rfl, Nat.le_of_ble_eq_true rfl⟩ (Nat.le_of_ble_eq_true rfl) dX5_leastSet_60 (kJ6_bitCount_0f7a4 G) hF (fun r5 hF => ?_)
      refine ww_iload_n cx dX5_leastSet_63 rfl 4 rfl ?_
      refine ww_S1_pi kv_X5_15 cx ⟨Nat.le_of_ble_eq_true rfl, Nat.le_of_ble_eq_true rfl⟩ (Nat.le_of_ble_eq_true rfl) dX5_leastSet_64 (kJ6_bitCount_0f7a4 G) hF (fun r6 hF => ?_)
      refine ww_icmp_ge cx dX5_leastSet_67 (tgt := 73) rfl hF (fun hF => ?_) (fun hF => ?_)
      · exact ww_sub [1, 2, 3, 4, 5, 6] rfl (hb73 _ hk23 _ _ _ _ _ hF)
      · refine ww_iload cx dX5_leastSet_70 5 rfl ?_
        refine ww_istore_n (ks := [0, 2, 3, 4, 5, 6]) (lv' := fun v7 => [(3, .int v7), (0, .ref (gad G h)), (1, .int x1), (2, .int x2), (4, .int x4), (5, .int x5)]) cx dX5_leastSet_72 rfl (by decide) hF (fun _ => rfl) (fun v7 hF => ?_)
        exact ww_sub [1, 2, 3, 0, 4, 5] rfl (hb73 _ hk23 _ _ _ _ _ hF)
  have hl23 : ∀ n : Nat, ∀ (x1 : Int32) (x2 : Int32) (x3 : Int32) (x4 : Int32) (x5 : Int32) , fX5_leastSet_l23 σ h n x1 x2 x3 x4 x5 = some r → WW G X 7 σ [(0, .ref (gad G h)), (1, .int x1), (2, .int x2), (3, .int x3), (4, .int x4), (5, .int x5)] 23 [] := by
    intro n
    induction n with
    | zero =>
      intro x1 x2 x3 x4 x5 hF
      exact absurd hF (by intro z; cases z)
    | succ n ih =>
      intro x1 x2 x3 x4 x5 hF
      have hk23 := ih
      have hF : fX5_leastSet_B23 σ h (fX5_leastSet_l23 σ h n) x1 x2 x3 x4 x5 = some r := hF
      unfold fX5_leastSet_B23 at hF
      refine ww_iload cx dX5_leastSet_23 5 rfl ?_
      refine ww_iload_n cx dX5_leastSet_25 rfl 1 rfl ?_
      refine ww_S1_pi kv_X5_21 cx ⟨Nat.le_of_ble_eq_true rfl, Nat.le_of_ble_eq_true rfl⟩ (Nat.le_of_ble_eq_true rfl) dX5_leastSet_26 (kX5_subsetsOf G) hF (fun r8 hF => ?_)
      refine ww_icmp_ge cx dX5_leastSet_29 (tgt := 87) rfl hF (fun hF => ?_) (fun hF => ?_)
      · refine ww_iload_n cx dX5_leastSet_87 rfl 3 rfl ?_
        exact ww_rip hE dX5_leastSet_88 hF
      · refine ww_iload_n cx dX5_leastSet_32 rfl 2 rfl ?_
        refine ww_aload_n cx dX5_leastSet_33 rfl 0 rfl ?_
        refine gf_X5_9 cx (hh) dX5_leastSet_34 ?_
        refine ww_iload cx dX5_leastSet_37 4 rfl ?_
        refine ww_iald (N := 4096) cx (ar_X5_0 hh) dX5_leastSet_39 hF (fun hF => ?_)
        refine ww_iconst cx dX5_leastSet_40 ic_m1 ?_
        refine ww_ixor cx dX5_leastSet_41 ?_
        refine ww_iand cx dX5_leastSet_42 ?_
        refine ww_if_ne cx dX5_leastSet_43 (tgt := 50) rfl hF (fun hF => ?_) (fun hF => ?_)
        · refine ww_iconst cx dX5_leastSet_50 ic_0 ?_
          exact hb51 _ hk23 _ _ _ _ _ _ hF
        · refine ww_iconst cx dX5_leastSet_46 ic_1 ?_
          refine ww_goto cx dX5_leastSet_47 (tgt := 51) rfl ?_
          exact hb51 _ hk23 _ _ _ _ _ _ hF
  unfold fX5_leastSet at hF
  show WW G X 7 σ [(0, .ref (gad G h)), (1, .int a1), (2, .int a2)] 0 []
  refine ww_iload_n cx dX5_leastSet_0 rfl 2 rfl ?_
  refine ww_aload_n cx dX5_leastSet_1 rfl 0 rfl ?_
  refine gf_X5_9 cx (hh) dX5_leastSet_2 ?_
  refine ww_iload_n cx dX5_leastSet_5 rfl 1 rfl ?_
  refine ww_iald (N := 4096) cx (ar_X5_0 hh) dX5_leastSet_6 hF (fun hF => ?_)
  refine ww_iconst cx dX5_leastSet_7 ic_m1 ?_
  refine ww_ixor cx dX5_leastSet_8 ?_
  refine ww_iand cx dX5_leastSet_9 ?_
  refine ww_if_eq cx dX5_leastSet_10 (tgt := 15) rfl hF (fun hF => ?_) (fun hF => ?_)
  · refine ww_iload_n cx dX5_leastSet_15 rfl 1 rfl ?_
    refine ww_istore_n (ks := [0, 1, 2, 3]) (lv' := fun v9 => [(3, .int v9), (0, .ref (gad G h)), (1, .int a1), (2, .int a2)]) cx dX5_leastSet_16 rfl (by decide) hF (fun _ => rfl) (fun v9 hF => ?_)
    refine ww_iconst cx dX5_leastSet_17 ic_0 ?_
    refine ww_istore (ks := [0, 1, 2, 3, 4]) (lv' := fun v10 => [(4, .int v10), (3, .int v9), (0, .ref (gad G h)), (1, .int a1), (2, .int a2)]) cx dX5_leastSet_18 (by decide) hF (fun _ => rfl) (fun v10 hF => ?_)
    refine ww_iconst cx dX5_leastSet_20 ic_0 ?_
    refine ww_istore (ks := [0, 1, 2, 3, 4, 5]) (lv' := fun v11 => [(5, .int v11), (4, .int v10), (3, .int v9), (0, .ref (gad G h)), (1, .int a1), (2, .int a2)]) cx dX5_leastSet_21 (by decide) hF (fun _ => rfl) (fun v11 hF => ?_)
    exact ww_sub [3, 4, 5, 2, 1, 0] rfl (hl23 FU _ _ _ _ _ hF)
  · refine ww_iconst cx dX5_leastSet_13 ic_m1 ?_
    exact ww_rip hE dX5_leastSet_14 hF
theorem dX5_menuSet_0 : decode cX5_menuSet 0 = .ok (.iconst 0, 1) := by decide +kernel
theorem dX5_menuSet_1 : decode cX5_menuSet 1 = .ok (.istore 4, 2) := by decide +kernel
theorem dX5_menuSet_3 : decode cX5_menuSet 3 = .ok (.iconst 0, 1) := by decide +kernel
theorem dX5_menuSet_4 : decode cX5_menuSet 4 = .ok (.istore 5, 2) := by decide +kernel
theorem dX5_menuSet_6 : decode cX5_menuSet 6 = .ok (.iconst 0, 1) := by decide +kernel
theorem dX5_menuSet_7 : decode cX5_menuSet 7 = .ok (.istore 6, 2) := by decide +kernel
theorem dX5_menuSet_9 : decode cX5_menuSet 9 = .ok (.iconst 0, 1) := by decide +kernel
theorem dX5_menuSet_10 : decode cX5_menuSet 10 = .ok (.istore 7, 2) := by decide +kernel
theorem dX5_menuSet_12 : decode cX5_menuSet 12 = .ok (.iload 7, 2) := by decide +kernel
theorem dX5_menuSet_14 : decode cX5_menuSet 14 = .ok (.iload_n 2, 1) := by decide +kernel
theorem dX5_menuSet_15 : decode cX5_menuSet 15 = .ok (.invokestatic 21, 3) := by decide +kernel
theorem dX5_menuSet_18 : decode cX5_menuSet 18 = .ok (.if_icmp .ge 110, 3) := by decide +kernel
theorem dX5_menuSet_21 : decode cX5_menuSet 21 = .ok (.aload_n 0, 1) := by decide +kernel
theorem dX5_menuSet_22 : decode cX5_menuSet 22 = .ok (.getfield 9, 3) := by decide +kernel
theorem dX5_menuSet_25 : decode cX5_menuSet 25 = .ok (.iload 6, 2) := by decide +kernel
theorem dX5_menuSet_27 : decode cX5_menuSet 27 = .ok (.iaload, 1) := by decide +kernel
theorem dX5_menuSet_28 : decode cX5_menuSet 28 = .ok (.aload_n 0, 1) := by decide +kernel
theorem dX5_menuSet_29 : decode cX5_menuSet 29 = .ok (.getfield 9, 3) := by decide +kernel
theorem dX5_menuSet_32 : decode cX5_menuSet 32 = .ok (.iconst 0, 1) := by decide +kernel
theorem dX5_menuSet_33 : decode cX5_menuSet 33 = .ok (.iaload, 1) := by decide +kernel
theorem dX5_menuSet_34 : decode cX5_menuSet 34 = .ok (.iconst (-1), 1) := by decide +kernel
theorem dX5_menuSet_35 : decode cX5_menuSet 35 = .ok (.ixor, 1) := by decide +kernel
theorem dX5_menuSet_36 : decode cX5_menuSet 36 = .ok (.iand, 1) := by decide +kernel
theorem dX5_menuSet_37 : decode cX5_menuSet 37 = .ok (.istore 8, 2) := by decide +kernel
theorem dX5_menuSet_39 : decode cX5_menuSet 39 = .ok (.iload 6, 2) := by decide +kernel
theorem dX5_menuSet_41 : decode cX5_menuSet 41 = .ok (.invokestatic 15, 3) := by decide +kernel
theorem dX5_menuSet_44 : decode cX5_menuSet 44 = .ok (.istore 9, 2) := by decide +kernel
theorem dX5_menuSet_46 : decode cX5_menuSet 46 = .ok (.iload 9, 2) := by decide +kernel
theorem dX5_menuSet_48 : decode cX5_menuSet 48 = .ok (.iload_n 3, 1) := by decide +kernel
theorem dX5_menuSet_49 : decode cX5_menuSet 49 = .ok (.if_icmp .gt 65, 3) := by decide +kernel
theorem dX5_menuSet_52 : decode cX5_menuSet 52 = .ok (.iload 9, 2) := by decide +kernel
theorem dX5_menuSet_54 : decode cX5_menuSet 54 = .ok (.iload 8, 2) := by decide +kernel
theorem dX5_menuSet_56 : decode cX5_menuSet 56 = .ok (.invokestatic 15, 3) := by decide +kernel
theorem dX5_menuSet_59 : decode cX5_menuSet 59 = .ok (.if_icmp .ne 55, 3) := by decide +kernel
theorem dX5_menuSet_62 : decode cX5_menuSet 62 = .ok (.aload_n 1, 1) := by decide +kernel
theorem dX5_menuSet_63 : decode cX5_menuSet 63 = .ok (.iload 8, 2) := by decide +kernel
theorem dX5_menuSet_65 : decode cX5_menuSet 65 = .ok (.invokevirtual 60, 3) := by decide +kernel
theorem dX5_menuSet_68 : decode cX5_menuSet 68 = .ok (.istore 10, 2) := by decide +kernel
theorem dX5_menuSet_70 : decode cX5_menuSet 70 = .ok (.iload 10, 2) := by decide +kernel
theorem dX5_menuSet_72 : decode cX5_menuSet 72 = .ok (.iload 5, 2) := by decide +kernel
theorem dX5_menuSet_74 : decode cX5_menuSet 74 = .ok (.if_icmp .ne 17, 3) := by decide +kernel
theorem dX5_menuSet_77 : decode cX5_menuSet 77 = .ok (.iload 9, 2) := by decide +kernel
theorem dX5_menuSet_79 : decode cX5_menuSet 79 = .ok (.iload 4, 2) := by decide +kernel
theorem dX5_menuSet_81 : decode cX5_menuSet 81 = .ok (.invokestatic 15, 3) := by decide +kernel
theorem dX5_menuSet_84 : decode cX5_menuSet 84 = .ok (.if_icmp .ge 7, 3) := by decide +kernel
theorem dX5_menuSet_87 : decode cX5_menuSet 87 = .ok (.iconst 1, 1) := by decide +kernel
theorem dX5_menuSet_88 : decode cX5_menuSet 88 = .ok (.goto 4, 3) := by decide +kernel
theorem dX5_menuSet_91 : decode cX5_menuSet 91 = .ok (.iconst 0, 1) := by decide +kernel
theorem dX5_menuSet_92 : decode cX5_menuSet 92 = .ok (.istore 11, 2) := by decide +kernel
theorem dX5_menuSet_94 : decode cX5_menuSet 94 = .ok (.iload 10, 2) := by decide +kernel
theorem dX5_menuSet_96 : decode cX5_menuSet 96 = .ok (.iload 5, 2) := by decide +kernel
theorem dX5_menuSet_98 : decode cX5_menuSet 98 = .ok (.if_icmp .gt 8, 3) := by decide +kernel
theorem dX5_menuSet_101 : decode cX5_menuSet 101 = .ok (.iload 11, 2) := by decide +kernel
theorem dX5_menuSet_103 : decode cX5_menuSet 103 = .ok (.ifCond .eq 11, 3) := by decide +kernel
theorem dX5_menuSet_106 : decode cX5_menuSet 106 = .ok (.iload 6, 2) := by decide +kernel
theorem dX5_menuSet_108 : decode cX5_menuSet 108 = .ok (.istore 4, 2) := by decide +kernel
theorem dX5_menuSet_110 : decode cX5_menuSet 110 = .ok (.iload 10, 2) := by decide +kernel
theorem dX5_menuSet_112 : decode cX5_menuSet 112 = .ok (.istore 5, 2) := by decide +kernel
theorem dX5_menuSet_114 : decode cX5_menuSet 114 = .ok (.iload 6, 2) := by decide +kernel
theorem dX5_menuSet_116 : decode cX5_menuSet 116 = .ok (.iload_n 2, 1) := by decide +kernel
theorem dX5_menuSet_117 : decode cX5_menuSet 117 = .ok (.invokestatic 24, 3) := by decide +kernel
theorem dX5_menuSet_120 : decode cX5_menuSet 120 = .ok (.istore 6, 2) := by decide +kernel
theorem dX5_menuSet_122 : decode cX5_menuSet 122 = .ok (.iinc 7 1, 3) := by decide +kernel
theorem dX5_menuSet_125 : decode cX5_menuSet 125 = .ok (.goto (-113), 3) := by decide +kernel
theorem dX5_menuSet_128 : decode cX5_menuSet 128 = .ok (.iload 4, 2) := by decide +kernel
theorem dX5_menuSet_130 : decode cX5_menuSet 130 = .ok (.ireturn, 1) := by decide +kernel
set_option maxRecDepth 4000 in
theorem kX5_menuSet (G : GT) {σ : St} {h : Nat} {t : Nat} {a2 : Int32} {a3 : Int32} (hh : isShe h) (ht : isTab t) : ∀ (r : Int32) , fX5_menuSet σ h t a2 a3 = some r → MCt G 3 yX5_menuSet cX5_menuSet 12 (some .int) [.ref (gad G h), .ref (gad G t), .int a2, .int a3] σ (some (.int r)) σ := by
  intro r hF
  refine met_i (by decide) (Nat.le_of_ble_eq_true rfl) (fun X cx hE => ?_)
  have cx : Cx G X RX5 cX5_menuSet 12 3 := cx
  have hb114 : ∀ (kr12 : Int32 → Int32 → Int32 → Int32 → Int32 → Int32 → Option (Int32)), (∀ (x2 : Int32) (x3 : Int32) (x4 : Int32) (x5 : Int32) (x6 : Int32) (x7 : Int32) , kr12 x2 x3 x4 x5 x6 x7 = some r → WW G X 12 σ [(0, .ref (gad G h)), (1, .ref (gad G t)), (2, .int x2), (3, .int x3), (4, .int x4), (5, .int x5), (6, .int x6), (7, .int x7)] 12 []) → ∀ (x2 : Int32) (x3 : Int32) (x4 : Int32) (x5 : Int32) (x6 : Int32) (x7 : Int32) , fX5_menuSet_b114 σ h t kr12 x2 x3 x4 x5 x6 x7 = some r → WW G X 12 σ [(0, .ref (gad G h)), (1, .ref (gad G t)), (2, .int x2), (3, .int x3), (4, .int x4), (5, .int x5), (6, .int x6), (7, .int x7)] 114 [] := by
    intro kr12 hk12
    intro x2 x3 x4 x5 x6 x7 hF
    unfold fX5_menuSet_b114 at hF
    refine ww_iload cx dX5_menuSet_114 6 rfl ?_
    refine ww_iload_n cx dX5_menuSet_116 rfl 2 rfl ?_
    refine ww_S2_pi kv_X5_24 cx ⟨Nat.le_of_ble_eq_true rfl, Nat.le_of_ble_eq_true rfl⟩ (Nat.le_of_ble_eq_true rfl) dX5_menuSet_117 (kX5_subsetBehind G) hF (fun r1 hF => ?_)
    refine ww_istore (ks := [0, 1, 2, 3, 4, 5, 6, 7]) (lv' := fun v2 => [(6, .int v2), (0, .ref (gad G h)), (1, .ref (gad G t)), (2, .int x2), (3, .int x3), (4, .int x4), (5, .int x5), (7, .int x7)]) cx dX5_menuSet_120 (by decide) hF (fun _ => rfl) (fun v2 hF => ?_)
    refine ww_iinc (j := 7) (ks := [0, 1, 2, 3, 4, 5, 6, 7]) (lv' := fun v3 => [(7, .int v3), (6, .int v2), (0, .ref (gad G h)), (1, .ref (gad G t)), (2, .int x2), (3, .int x3), (4, .int x4), (5, .int x5)]) cx dX5_menuSet_122 (by decide) rfl ic_1 hF (fun _ => rfl) (fun v3 hF => ?_)
    refine ww_goto cx dX5_menuSet_125 (tgt := 12) rfl ?_
    exact ww_sub [2, 3, 4, 5, 6, 7, 1, 0] rfl (hk12 _ _ _ _ _ _ hF)
  have hb106 : ∀ (kr12 : Int32 → Int32 → Int32 → Int32 → Int32 → Int32 → Option (Int32)), (∀ (x2 : Int32) (x3 : Int32) (x4 : Int32) (x5 : Int32) (x6 : Int32) (x7 : Int32) , kr12 x2 x3 x4 x5 x6 x7 = some r → WW G X 12 σ [(0, .ref (gad G h)), (1, .ref (gad G t)), (2, .int x2), (3, .int x3), (4, .int x4), (5, .int x5), (6, .int x6), (7, .int x7)] 12 []) → ∀ (x2 : Int32) (x3 : Int32) (x6 : Int32) (x7 : Int32) (x10 : Int32) , fX5_menuSet_b106 σ h t kr12 x2 x3 x6 x7 x10 = some r → WW G X 12 σ [(0, .ref (gad G h)), (1, .ref (gad G t)), (2, .int x2), (3, .int x3), (6, .int x6), (7, .int x7), (10, .int x10)] 106 [] := by
    intro kr12 hk12
    intro x2 x3 x6 x7 x10 hF
    unfold fX5_menuSet_b106 at hF
    refine ww_iload cx dX5_menuSet_106 4 rfl ?_
    refine ww_istore (ks := [0, 1, 2, 3, 4, 5, 6, 7]) (lv' := fun v4 => [(4, .int v4), (0, .ref (gad G h)), (1, .ref (gad G t)), (2, .int x2), (3, .int x3), (6, .int x6), (7, .int x7), (10, .int x10)]) cx dX5_menuSet_108 (by decide) hF (fun _ => rfl) (fun v4 hF => ?_)
    refine ww_iload cx dX5_menuSet_110 7 rfl ?_
    refine ww_istore (ks := [0, 1, 2, 3, 4, 5, 6, 7]) (lv' := fun v5 => [(5, .int v5), (4, .int v4), (0, .ref (gad G h)), (1, .ref (gad G t)), (2, .int x2), (3, .int x3), (6, .int x6), (7, .int x7)]) cx dX5_menuSet_112 (by decide) hF (fun _ => rfl) (fun v5 hF => ?_)
    exact ww_sub [2, 3, 4, 5, 1, 0, 6, 7] rfl (hb114 _ hk12 _ _ _ _ _ _ hF)
  have hb92 : ∀ (kr12 : Int32 → Int32 → Int32 → Int32 → Int32 → Int32 → Option (Int32)), (∀ (x2 : Int32) (x3 : Int32) (x4 : Int32) (x5 : Int32) (x6 : Int32) (x7 : Int32) , kr12 x2 x3 x4 x5 x6 x7 = some r → WW G X 12 σ [(0, .ref (gad G h)), (1, .ref (gad G t)), (2, .int x2), (3, .int x3), (4, .int x4), (5, .int x5), (6, .int x6), (7, .int x7)] 12 []) → ∀ (x2 : Int32) (x3 : Int32) (x4 : Int32) (x5 : Int32) (x6 : Int32) (x7 : Int32) (x10 : Int32) (y0 : Int32) , fX5_menuSet_b92 σ h t kr12 x2 x3 x4 x5 x6 x7 x10 y0 = some r → WW G X 12 σ [(0, .ref (gad G h)), (1, .ref (gad G t)), (2, .int x2), (3, .int x3), (4, .int x4), (5, .int x5), (6, .int x6), (7, .int x7), (10, .int x10)] 92 [.int y0] := by
    intro kr12 hk12
    intro x2 x3 x4 x5 x6 x7 x10 y0 hF
    unfold fX5_menuSet_b92 at hF
    refine ww_istore (ks := [0, 1, 2, 3, 4, 5, 6, 7, 8, 9]) (lv' := fun v6 => [(11, .int v6), (0, .ref (gad G h)), (1, .ref (gad G t)), (2, .int x2), (3, .int x3), (4, .int x4), (5, .int x5), (6, .int x6), (7, .int x7), (10, .int x10)]) cx dX5_menuSet_92 (by decide) hF (fun _ => rfl) (fun v6 hF => ?_)
    refine ww_iload cx dX5_menuSet_94 9 rfl ?_
    refine ww_iload cx dX5_menuSet_96 6 rfl ?_
    refine ww_icmp_gt cx dX5_menuSet_98 (tgt := 106) rfl hF (fun hF => ?_) (fun hF => ?_)
    · exact ww_sub [1, 2, 3, 4, 7, 8, 9] rfl (hb106 _ hk12 _ _ _ _ _ hF)
    · refine ww_iload cx dX5_menuSet_101 0 rfl ?_
      refine ww_if_eq cx dX5_menuSet_103 (tgt := 114) rfl hF (fun hF => ?_) (fun hF => ?_)
      · exact ww_sub [1, 2, 3, 4, 5, 6, 7, 8] rfl (hb114 _ hk12 _ _ _ _ _ _ hF)
      · exact ww_sub [1, 2, 3, 4, 7, 8, 9] rfl (hb106 _ hk12 _ _ _ _ _ hF)
  have hb91 : ∀ (kr12 : Int32 → Int32 → Int32 → Int32 → Int32 → Int32 → Option (Int32)), (∀ (x2 : Int32) (x3 : Int32) (x4 : Int32) (x5 : Int32) (x6 : Int32) (x7 : Int32) , kr12 x2 x3 x4 x5 x6 x7 = some r → WW G X 12 σ [(0, .ref (gad G h)), (1, .ref (gad G t)), (2, .int x2), (3, .int x3), (4, .int x4), (5, .int x5), (6, .int x6), (7, .int x7)] 12 []) → ∀ (x2 : Int32) (x3 : Int32) (x4 : Int32) (x5 : Int32) (x6 : Int32) (x7 : Int32) (x10 : Int32) , fX5_menuSet_b91 σ h t kr12 x2 x3 x4 x5 x6 x7 x10 = some r → WW G X 12 σ [(0, .ref (gad G h)), (1, .ref (gad G t)), (2, .int x2), (3, .int x3), (4, .int x4), (5, .int x5), (6, .int x6), (7, .int x7), (10, .int x10)] 91 [] := by
    intro kr12 hk12
    intro x2 x3 x4 x5 x6 x7 x10 hF
    unfold fX5_menuSet_b91 at hF
    refine ww_iconst cx dX5_menuSet_91 ic_0 ?_
    exact hb92 _ hk12 _ _ _ _ _ _ _ _ hF
  have hl12 : ∀ n : Nat, ∀ (x2 : Int32) (x3 : Int32) (x4 : Int32) (x5 : Int32) (x6 : Int32) (x7 : Int32) , fX5_menuSet_l12 σ h t n x2 x3 x4 x5 x6 x7 = some r → WW G X 12 σ [(0, .ref (gad G h)), (1, .ref (gad G t)), (2, .int x2), (3, .int x3), (4, .int x4), (5, .int x5), (6, .int x6), (7, .int x7)] 12 [] := by
    intro n
    induction n with
    | zero =>
      intro x2 x3 x4 x5 x6 x7 hF
      exact absurd hF (by intro z; cases z)
    | succ n ih =>
      intro x2 x3 x4 x5 x6 x7 hF
      have hk12 := ih
      have hF : fX5_menuSet_B12 σ h t (fX5_menuSet_l12 σ h t n) x2 x3 x4 x5 x6 x7 = some r := hF
      unfold fX5_menuSet_B12 at hF
      refine ww_iload cx dX5_menuSet_12 7 rfl ?_
      refine ww_iload_n cx dX5_menuSet_14 rfl 2 rfl ?_
      refine ww_S1_pi kv_X5_21 cx ⟨Nat.le_of_ble_eq_true rfl, Nat.le_of_ble_eq_true rfl⟩ (Nat.le_of_ble_eq_true rfl) dX5_menuSet_15 (kX5_subsetsOf G) hF (fun r7 hF => ?_)
      refine ww_icmp_ge cx dX5_menuSet_18 (tgt := 128) rfl hF (fun hF => ?_) (fun hF => ?_)
      · refine ww_iload cx dX5_menuSet_128 4 rfl ?_
        exact ww_rip hE dX5_menuSet_130 hF
      · refine ww_aload_n cx dX5_menuSet_21 rfl 0 rfl ?_
        refine gf_X5_9 cx (hh) dX5_menuSet_22 ?_
        refine ww_iload cx dX5_menuSet_25 6 rfl ?_
        refine ww_iald (N := 4096) cx (ar_X5_0 hh) dX5_menuSet_27 hF (fun hF => ?_)
        refine ww_aload_n cx dX5_menuSet_28 rfl 0 rfl ?_
        refine gf_X5_9 cx (hh) dX5_menuSet_29 ?_
        refine ww_iconst cx dX5_menuSet_32 ic_0 ?_
        refine ww_iald (N := 4096) cx (ar_X5_0 hh) dX5_menuSet_33 hF (fun hF => ?_)
        refine ww_iconst cx dX5_menuSet_34 ic_m1 ?_
        refine ww_ixor cx dX5_menuSet_35 ?_
        refine ww_iand cx dX5_menuSet_36 ?_
        refine ww_istore (ks := [0, 1, 2, 3, 4, 5, 6, 7, 8]) (lv' := fun v8 => [(8, .int v8), (0, .ref (gad G h)), (1, .ref (gad G t)), (2, .int x2), (3, .int x3), (4, .int x4), (5, .int x5), (6, .int x6), (7, .int x7)]) cx dX5_menuSet_37 (by decide) hF (fun _ => rfl) (fun v8 hF => ?_)
        refine ww_iload cx dX5_menuSet_39 7 rfl ?_
        refine ww_S1_pi kv_X5_15 cx ⟨Nat.le_of_ble_eq_true rfl, Nat.le_of_ble_eq_true rfl⟩ (Nat.le_of_ble_eq_true rfl) dX5_menuSet_41 (kJ6_bitCount_0f7a4 G) hF (fun r9 hF => ?_)
        refine ww_istore (ks := [0, 1, 2, 3, 4, 5, 6, 7, 8, 9]) (lv' := fun v10 => [(9, .int v10), (8, .int v8), (0, .ref (gad G h)), (1, .ref (gad G t)), (2, .int x2), (3, .int x3), (4, .int x4), (5, .int x5), (6, .int x6), (7, .int x7)]) cx dX5_menuSet_44 (by decide) hF (fun _ => rfl) (fun v10 hF => ?_)
        refine ww_iload cx dX5_menuSet_46 0 rfl ?_
        refine ww_iload_n cx dX5_menuSet_48 rfl 5 rfl ?_
        refine ww_icmp_gt cx dX5_menuSet_49 (tgt := 114) rfl hF (fun hF => ?_) (fun hF => ?_)
        · exact ww_sub [2, 3, 4, 5, 6, 7, 8, 9] rfl (hb114 _ hk12 _ _ _ _ _ _ hF)
        · refine ww_iload cx dX5_menuSet_52 0 rfl ?_
          refine ww_iload cx dX5_menuSet_54 1 rfl ?_
          refine ww_S1_pi kv_X5_15 cx ⟨Nat.le_of_ble_eq_true rfl, Nat.le_of_ble_eq_true rfl⟩ (Nat.le_of_ble_eq_true rfl) dX5_menuSet_56 (kJ6_bitCount_0f7a4 G) hF (fun r11 hF => ?_)
          refine ww_icmp_ne cx dX5_menuSet_59 (tgt := 114) rfl hF (fun hF => ?_) (fun hF => ?_)
          · exact ww_sub [2, 3, 4, 5, 6, 7, 8, 9] rfl (hb114 _ hk12 _ _ _ _ _ _ hF)
          · refine ww_aload_n cx dX5_menuSet_62 rfl 3 rfl ?_
            refine ww_iload cx dX5_menuSet_63 1 rfl ?_
            refine ww_V1_pi kv_X5_60 rfl cx ((ht).1) ⟨Nat.le_of_ble_eq_true rfl, Nat.le_of_ble_eq_true rfl⟩ (Nat.le_of_ble_eq_true rfl) dX5_menuSet_65 (kX6_worthOf G (ht)) hF (fun r12 hF => ?_)
            refine ww_istore (ks := [0, 1, 3, 4, 5, 6, 7, 8, 9, 10]) (lv' := fun v13 => [(10, .int v13), (9, .int v10), (0, .ref (gad G h)), (1, .ref (gad G t)), (2, .int x2), (3, .int x3), (4, .int x4), (5, .int x5), (6, .int x6), (7, .int x7)]) cx dX5_menuSet_68 (by decide) hF (fun _ => rfl) (fun v13 hF => ?_)
            refine ww_iload cx dX5_menuSet_70 0 rfl ?_
            refine ww_iload cx dX5_menuSet_72 7 rfl ?_
            refine ww_icmp_ne cx dX5_menuSet_74 (tgt := 91) rfl hF (fun hF => ?_) (fun hF => ?_)
            · exact ww_sub [2, 3, 4, 5, 6, 7, 8, 9, 0] rfl (hb91 _ hk12 _ _ _ _ _ _ _ hF)
            · refine ww_iload cx dX5_menuSet_77 1 rfl ?_
              refine ww_iload cx dX5_menuSet_79 6 rfl ?_
              refine ww_S1_pi kv_X5_15 cx ⟨Nat.le_of_ble_eq_true rfl, Nat.le_of_ble_eq_true rfl⟩ (Nat.le_of_ble_eq_true rfl) dX5_menuSet_81 (kJ6_bitCount_0f7a4 G) hF (fun r14 hF => ?_)
              refine ww_icmp_ge cx dX5_menuSet_84 (tgt := 91) rfl hF (fun hF => ?_) (fun hF => ?_)
              · exact ww_sub [2, 3, 4, 5, 6, 7, 8, 9, 0] rfl (hb91 _ hk12 _ _ _ _ _ _ _ hF)
              · refine ww_iconst cx dX5_menuSet_87 ic_1 ?_
                refine ww_goto cx dX5_menuSet_88 (tgt := 92) rfl ?_
                exact ww_sub [2, 3, 4, 5, 6, 7, 8, 9, 0] rfl (hb92 _ hk12 _ _ _ _ _ _ _ _ hF)
  unfold fX5_menuSet at hF
  show WW G X 12 σ [(0, .ref (gad G h)), (1, .ref (gad G t)), (2, .int a2), (3, .int a3)] 0 []
  refine ww_iconst cx dX5_menuSet_0 ic_0 ?_
  refine ww_istore (ks := [0, 1, 2, 3, 4]) (lv' := fun v15 => [(4, .int v15), (0, .ref (gad G h)), (1, .ref (gad G t)), (2, .int a2), (3, .int a3)]) cx dX5_menuSet_1 (by decide) hF (fun _ => rfl) (fun v15 hF => ?_)
  refine ww_iconst cx dX5_menuSet_3 ic_0 ?_
  refine ww_istore (ks := [0, 1, 2, 3, 4, 5]) (lv' := fun v16 => [(5, .int v16), (4, .int v15), (0, .ref (gad G h)), (1, .ref (gad G t)), (2, .int a2), (3, .int a3)]) cx dX5_menuSet_4 (by decide) hF (fun _ => rfl) (fun v16 hF => ?_)
  refine ww_iconst cx dX5_menuSet_6 ic_0 ?_
  refine ww_istore (ks := [0, 1, 2, 3, 4, 5, 6]) (lv' := fun v17 => [(6, .int v17), (5, .int v16), (4, .int v15), (0, .ref (gad G h)), (1, .ref (gad G t)), (2, .int a2), (3, .int a3)]) cx dX5_menuSet_7 (by decide) hF (fun _ => rfl) (fun v17 hF => ?_)
  refine ww_iconst cx dX5_menuSet_9 ic_0 ?_
  refine ww_istore (ks := [0, 1, 2, 3, 4, 5, 6, 7]) (lv' := fun v18 => [(7, .int v18), (6, .int v17), (5, .int v16), (4, .int v15), (0, .ref (gad G h)), (1, .ref (gad G t)), (2, .int a2), (3, .int a3)]) cx dX5_menuSet_10 (by decide) hF (fun _ => rfl) (fun v18 hF => ?_)
  exact ww_sub [4, 5, 6, 7, 3, 2, 1, 0] rfl (hl12 FU _ _ _ _ _ _ hF)
theorem dX6_falseWorlds_0 : decode cX6_falseWorlds 0 = .ok (.aload_n 0, 1) := by decide +kernel
theorem dX6_falseWorlds_1 : decode cX6_falseWorlds 1 = .ok (.aload_n 0, 1) := by decide +kernel
theorem dX6_falseWorlds_2 : decode cX6_falseWorlds 2 = .ok (.getfield 21, 3) := by decide +kernel
theorem dX6_falseWorlds_5 : decode cX6_falseWorlds 5 = .ok (.iload_n 1, 1) := by decide +kernel
theorem dX6_falseWorlds_6 : decode cX6_falseWorlds 6 = .ok (.iaload, 1) := by decide +kernel
theorem dX6_falseWorlds_7 : decode cX6_falseWorlds 7 = .ok (.invokevirtual 69, 3) := by decide +kernel
theorem dX6_falseWorlds_10 : decode cX6_falseWorlds 10 = .ok (.aload_n 0, 1) := by decide +kernel
theorem dX6_falseWorlds_11 : decode cX6_falseWorlds 11 = .ok (.getfield 15, 3) := by decide +kernel
theorem dX6_falseWorlds_14 : decode cX6_falseWorlds 14 = .ok (.aload_n 0, 1) := by decide +kernel
theorem dX6_falseWorlds_15 : decode cX6_falseWorlds 15 = .ok (.getfield 18, 3) := by decide +kernel
theorem dX6_falseWorlds_18 : decode cX6_falseWorlds 18 = .ok (.iload_n 1, 1) := by decide +kernel
theorem dX6_falseWorlds_19 : decode cX6_falseWorlds 19 = .ok (.iaload, 1) := by decide +kernel
theorem dX6_falseWorlds_20 : decode cX6_falseWorlds 20 = .ok (.iaload, 1) := by decide +kernel
theorem dX6_falseWorlds_21 : decode cX6_falseWorlds 21 = .ok (.iconst (-1), 1) := by decide +kernel
theorem dX6_falseWorlds_22 : decode cX6_falseWorlds 22 = .ok (.ixor, 1) := by decide +kernel
theorem dX6_falseWorlds_23 : decode cX6_falseWorlds 23 = .ok (.iand, 1) := by decide +kernel
theorem dX6_falseWorlds_24 : decode cX6_falseWorlds 24 = .ok (.ireturn, 1) := by decide +kernel
set_option maxRecDepth 4000 in
theorem kX6_falseWorlds (G : GT) {σ : St} {t : Nat} {a1 : Int32} (ht : isTab t) : ∀ (r : Int32) , fX6_falseWorlds σ t a1 = some r → MCt G 3 yX6_falseWorlds cX6_falseWorlds 2 (some .int) [.ref (gad G t), .int a1] σ (some (.int r)) σ := by
  intro r hF
  refine met_i (by decide) (Nat.le_of_ble_eq_true rfl) (fun X cx hE => ?_)
  have cx : Cx G X RX6 cX6_falseWorlds 2 3 := cx
  unfold fX6_falseWorlds at hF
  show WW G X 2 σ [(0, .ref (gad G t)), (1, .int a1)] 0 []
  refine ww_aload_n cx dX6_falseWorlds_0 rfl 0 rfl ?_
  refine ww_aload_n cx dX6_falseWorlds_1 rfl 0 rfl ?_
  refine gf_X6_21 cx (ht) dX6_falseWorlds_2 ?_
  refine ww_iload_n cx dX6_falseWorlds_5 rfl 1 rfl ?_
  refine ww_iald (N := 12) cx (ar_X6_11 ht) dX6_falseWorlds_6 hF (fun hF => ?_)
  refine ww_V1_pi kv_X6_69 rfl cx ((ht).1) ⟨Nat.le_of_ble_eq_true rfl, Nat.le_of_ble_eq_true rfl⟩ (Nat.le_of_ble_eq_true rfl) dX6_falseWorlds_7 (kX6_worldsOf G (ht)) hF (fun r1 hF => ?_)
  refine ww_aload_n cx dX6_falseWorlds_10 rfl 0 rfl ?_
  refine gf_X6_15 cx (ht) dX6_falseWorlds_11 ?_
  refine ww_aload_n cx dX6_falseWorlds_14 rfl 0 rfl ?_
  refine gf_X6_18 cx (ht) dX6_falseWorlds_15 ?_
  refine ww_iload_n cx dX6_falseWorlds_18 rfl 1 rfl ?_
  refine ww_iald (N := 12) cx (ar_X6_10 ht) dX6_falseWorlds_19 hF (fun hF => ?_)
  refine ww_iald (N := 12) cx (ar_X6_9 ht) dX6_falseWorlds_20 hF (fun hF => ?_)
  refine ww_iconst cx dX6_falseWorlds_21 ic_m1 ?_
  refine ww_ixor cx dX6_falseWorlds_22 ?_
  refine ww_iand cx dX6_falseWorlds_23 ?_
  exact ww_rip hE dX6_falseWorlds_24 hF
theorem dX6_following_0 : decode cX6_following 0 = .ok (.aload_n 0, 1) := by decide +kernel
theorem dX6_following_1 : decode cX6_following 1 = .ok (.aload_n 0, 1) := by decide +kernel
theorem dX6_following_2 : decode cX6_following 2 = .ok (.getfield 52, 3) := by decide +kernel
theorem dX6_following_5 : decode cX6_following 5 = .ok (.invokevirtual 69, 3) := by decide +kernel
theorem dX6_following_8 : decode cX6_following 8 = .ok (.istore_n 1, 1) := by decide +kernel
theorem dX6_following_9 : decode cX6_following 9 = .ok (.iconst 0, 1) := by decide +kernel
theorem dX6_following_10 : decode cX6_following 10 = .ok (.istore_n 2, 1) := by decide +kernel
theorem dX6_following_11 : decode cX6_following 11 = .ok (.iconst 0, 1) := by decide +kernel
theorem dX6_following_12 : decode cX6_following 12 = .ok (.istore_n 3, 1) := by decide +kernel
theorem dX6_following_13 : decode cX6_following 13 = .ok (.iload_n 3, 1) := by decide +kernel
theorem dX6_following_14 : decode cX6_following 14 = .ok (.aload_n 0, 1) := by decide +kernel
theorem dX6_following_15 : decode cX6_following 15 = .ok (.getfield 43, 3) := by decide +kernel
theorem dX6_following_18 : decode cX6_following 18 = .ok (.if_icmp .ge 28, 3) := by decide +kernel
theorem dX6_following_21 : decode cX6_following 21 = .ok (.iload_n 1, 1) := by decide +kernel
theorem dX6_following_22 : decode cX6_following 22 = .ok (.aload_n 0, 1) := by decide +kernel
theorem dX6_following_23 : decode cX6_following 23 = .ok (.getfield 15, 3) := by decide +kernel
theorem dX6_following_26 : decode cX6_following 26 = .ok (.iload_n 3, 1) := by decide +kernel
theorem dX6_following_27 : decode cX6_following 27 = .ok (.iaload, 1) := by decide +kernel
theorem dX6_following_28 : decode cX6_following 28 = .ok (.iconst (-1), 1) := by decide +kernel
theorem dX6_following_29 : decode cX6_following 29 = .ok (.ixor, 1) := by decide +kernel
theorem dX6_following_30 : decode cX6_following 30 = .ok (.iand, 1) := by decide +kernel
theorem dX6_following_31 : decode cX6_following 31 = .ok (.ifCond .ne 9, 3) := by decide +kernel
theorem dX6_following_34 : decode cX6_following 34 = .ok (.iload_n 2, 1) := by decide +kernel
theorem dX6_following_35 : decode cX6_following 35 = .ok (.iconst 1, 1) := by decide +kernel
theorem dX6_following_36 : decode cX6_following 36 = .ok (.iload_n 3, 1) := by decide +kernel
theorem dX6_following_37 : decode cX6_following 37 = .ok (.ishl, 1) := by decide +kernel
theorem dX6_following_38 : decode cX6_following 38 = .ok (.ior, 1) := by decide +kernel
theorem dX6_following_39 : decode cX6_following 39 = .ok (.istore_n 2, 1) := by decide +kernel
theorem dX6_following_40 : decode cX6_following 40 = .ok (.iinc 3 1, 3) := by decide +kernel
theorem dX6_following_43 : decode cX6_following 43 = .ok (.goto (-30), 3) := by decide +kernel
theorem dX6_following_46 : decode cX6_following 46 = .ok (.iload_n 2, 1) := by decide +kernel
theorem dX6_following_47 : decode cX6_following 47 = .ok (.ireturn, 1) := by decide +kernel
set_option maxRecDepth 4000 in
theorem kX6_following (G : GT) {σ : St} {t : Nat} (ht : isTab t) : ∀ (r : Int32) , fX6_following σ t = some r → MCt G 3 yX6_following cX6_following 4 (some .int) [.ref (gad G t)] σ (some (.int r)) σ := by
  intro r hF
  refine met_i (by decide) (Nat.le_of_ble_eq_true rfl) (fun X cx hE => ?_)
  have cx : Cx G X RX6 cX6_following 4 3 := cx
  have hl13 : ∀ n : Nat, ∀ (x1 : Int32) (x2 : Int32) (x3 : Int32) , fX6_following_l13 σ t n x1 x2 x3 = some r → WW G X 4 σ [(0, .ref (gad G t)), (1, .int x1), (2, .int x2), (3, .int x3)] 13 [] := by
    intro n
    induction n with
    | zero =>
      intro x1 x2 x3 hF
      exact absurd hF (by intro z; cases z)
    | succ n ih =>
      intro x1 x2 x3 hF
      have hk13 := ih
      have hF : fX6_following_B13 σ t (fX6_following_l13 σ t n) x1 x2 x3 = some r := hF
      unfold fX6_following_B13 at hF
      refine ww_iload_n cx dX6_following_13 rfl 3 rfl ?_
      refine ww_aload_n cx dX6_following_14 rfl 0 rfl ?_
      refine gf_X6_43 cx (ht) dX6_following_15 ?_
      refine ww_icmp_ge cx dX6_following_18 (tgt := 46) rfl hF (fun hF => ?_) (fun hF => ?_)
      · refine ww_iload_n cx dX6_following_46 rfl 2 rfl ?_
        exact ww_rip hE dX6_following_47 hF
      · refine ww_iload_n cx dX6_following_21 rfl 1 rfl ?_
        refine ww_aload_n cx dX6_following_22 rfl 0 rfl ?_
        refine gf_X6_15 cx (ht) dX6_following_23 ?_
        refine ww_iload_n cx dX6_following_26 rfl 3 rfl ?_
        refine ww_iald (N := 12) cx (ar_X6_9 ht) dX6_following_27 hF (fun hF => ?_)
        refine ww_iconst cx dX6_following_28 ic_m1 ?_
        refine ww_ixor cx dX6_following_29 ?_
        refine ww_iand cx dX6_following_30 ?_
        refine ww_if_ne cx dX6_following_31 (tgt := 40) rfl hF (fun hF => ?_) (fun hF => ?_)
        · refine ww_iinc (j := 3) (ks := [0, 1, 2, 3]) (lv' := fun v1 => [(3, .int v1), (0, .ref (gad G t)), (1, .int x1), (2, .int x2)]) cx dX6_following_40 (by decide) rfl ic_1 hF (fun _ => rfl) (fun v1 hF => ?_)
          refine ww_goto cx dX6_following_43 (tgt := 13) rfl ?_
          exact ww_sub [1, 2, 3, 0] rfl (hk13 _ _ _ hF)
        · refine ww_iload_n cx dX6_following_34 rfl 2 rfl ?_
          refine ww_iconst cx dX6_following_35 ic_1 ?_
          refine ww_iload_n cx dX6_following_36 rfl 3 rfl ?_
          refine ww_ishl cx dX6_following_37 ?_
          refine ww_ior cx dX6_following_38 ?_
          refine ww_istore_n (ks := [0, 1, 2, 3]) (lv' := fun v2 => [(2, .int v2), (0, .ref (gad G t)), (1, .int x1), (3, .int x3)]) cx dX6_following_39 rfl (by decide) hF (fun _ => rfl) (fun v2 hF => ?_)
          refine ww_iinc (j := 3) (ks := [0, 1, 2, 3]) (lv' := fun v3 => [(3, .int v3), (2, .int v2), (0, .ref (gad G t)), (1, .int x1)]) cx dX6_following_40 (by decide) rfl ic_1 hF (fun _ => rfl) (fun v3 hF => ?_)
          refine ww_goto cx dX6_following_43 (tgt := 13) rfl ?_
          exact ww_sub [2, 3, 1, 0] rfl (hk13 _ _ _ hF)
  unfold fX6_following at hF
  show WW G X 4 σ [(0, .ref (gad G t))] 0 []
  refine ww_aload_n cx dX6_following_0 rfl 0 rfl ?_
  refine ww_aload_n cx dX6_following_1 rfl 0 rfl ?_
  refine gf_X6_52 cx (ht) dX6_following_2 ?_
  refine ww_V1_pi kv_X6_69 rfl cx ((ht).1) ⟨Nat.le_of_ble_eq_true rfl, Nat.le_of_ble_eq_true rfl⟩ (Nat.le_of_ble_eq_true rfl) dX6_following_5 (kX6_worldsOf G (ht)) hF (fun r4 hF => ?_)
  refine ww_istore_n (ks := [0, 1]) (lv' := fun v5 => [(1, .int v5), (0, .ref (gad G t))]) cx dX6_following_8 rfl (by decide) hF (fun _ => rfl) (fun v5 hF => ?_)
  refine ww_iconst cx dX6_following_9 ic_0 ?_
  refine ww_istore_n (ks := [0, 1, 2]) (lv' := fun v6 => [(2, .int v6), (1, .int v5), (0, .ref (gad G t))]) cx dX6_following_10 rfl (by decide) hF (fun _ => rfl) (fun v6 hF => ?_)
  refine ww_iconst cx dX6_following_11 ic_0 ?_
  refine ww_istore_n (ks := [0, 1, 2, 3]) (lv' := fun v7 => [(3, .int v7), (2, .int v6), (1, .int v5), (0, .ref (gad G t))]) cx dX6_following_12 rfl (by decide) hF (fun _ => rfl) (fun v7 hF => ?_)
  exact ww_sub [3, 2, 1, 0] rfl (hl13 FU _ _ _ hF)
theorem dX6_followsFrom_0 : decode cX6_followsFrom 0 = .ok (.aload_n 0, 1) := by decide +kernel
theorem dX6_followsFrom_1 : decode cX6_followsFrom 1 = .ok (.iload_n 1, 1) := by decide +kernel
theorem dX6_followsFrom_2 : decode cX6_followsFrom 2 = .ok (.invokevirtual 69, 3) := by decide +kernel
theorem dX6_followsFrom_5 : decode cX6_followsFrom 5 = .ok (.aload_n 0, 1) := by decide +kernel
theorem dX6_followsFrom_6 : decode cX6_followsFrom 6 = .ok (.getfield 15, 3) := by decide +kernel
theorem dX6_followsFrom_9 : decode cX6_followsFrom 9 = .ok (.iload_n 2, 1) := by decide +kernel
theorem dX6_followsFrom_10 : decode cX6_followsFrom 10 = .ok (.iaload, 1) := by decide +kernel
theorem dX6_followsFrom_11 : decode cX6_followsFrom 11 = .ok (.iconst (-1), 1) := by decide +kernel
theorem dX6_followsFrom_12 : decode cX6_followsFrom 12 = .ok (.ixor, 1) := by decide +kernel
theorem dX6_followsFrom_13 : decode cX6_followsFrom 13 = .ok (.iand, 1) := by decide +kernel
theorem dX6_followsFrom_14 : decode cX6_followsFrom 14 = .ok (.ifCond .ne 7, 3) := by decide +kernel
theorem dX6_followsFrom_17 : decode cX6_followsFrom 17 = .ok (.iconst 1, 1) := by decide +kernel
theorem dX6_followsFrom_18 : decode cX6_followsFrom 18 = .ok (.goto 4, 3) := by decide +kernel
theorem dX6_followsFrom_21 : decode cX6_followsFrom 21 = .ok (.iconst 0, 1) := by decide +kernel
theorem dX6_followsFrom_22 : decode cX6_followsFrom 22 = .ok (.ireturn, 1) := by decide +kernel
set_option maxRecDepth 4000 in
theorem kX6_followsFrom (G : GT) {σ : St} {t : Nat} {a1 : Int32} {a2 : Int32} (ht : isTab t) : ∀ (r : Int32) , fX6_followsFrom σ t a1 a2 = some r → MCt G 3 yX6_followsFrom cX6_followsFrom 3 (some .boolean) [.ref (gad G t), .int a1, .int a2] σ (some (.int r)) σ := by
  intro r hF
  refine met_zz (by decide) (Nat.le_of_ble_eq_true rfl) (fun X cx hE => ?_)
  have cx : Cx G X RX6 cX6_followsFrom 3 3 := cx
  unfold fX6_followsFrom at hF
  show WW G X 3 σ [(0, .ref (gad G t)), (1, .int a1), (2, .int a2)] 0 []
  refine ww_aload_n cx dX6_followsFrom_0 rfl 0 rfl ?_
  refine ww_iload_n cx dX6_followsFrom_1 rfl 1 rfl ?_
  refine ww_V1_pi kv_X6_69 rfl cx ((ht).1) ⟨Nat.le_of_ble_eq_true rfl, Nat.le_of_ble_eq_true rfl⟩ (Nat.le_of_ble_eq_true rfl) dX6_followsFrom_2 (kX6_worldsOf G (ht)) hF (fun r1 hF => ?_)
  refine ww_aload_n cx dX6_followsFrom_5 rfl 0 rfl ?_
  refine gf_X6_15 cx (ht) dX6_followsFrom_6 ?_
  refine ww_iload_n cx dX6_followsFrom_9 rfl 2 rfl ?_
  refine ww_iald (N := 12) cx (ar_X6_9 ht) dX6_followsFrom_10 hF (fun hF => ?_)
  refine ww_iconst cx dX6_followsFrom_11 ic_m1 ?_
  refine ww_ixor cx dX6_followsFrom_12 ?_
  refine ww_iand cx dX6_followsFrom_13 ?_
  refine ww_if_ne cx dX6_followsFrom_14 (tgt := 21) rfl hF (fun hF => ?_) (fun hF => ?_)
  · refine ww_iconst cx dX6_followsFrom_21 ic_0 ?_
    exact ww_rzp hE dX6_followsFrom_22 hF
  · refine ww_iconst cx dX6_followsFrom_17 ic_1 ?_
    refine ww_goto cx dX6_followsFrom_18 (tgt := 22) rfl ?_
    exact ww_rzp hE dX6_followsFrom_22 hF
