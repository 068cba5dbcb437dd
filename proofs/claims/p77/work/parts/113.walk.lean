theorem dX7_lemma_0 : decode cX7_lemma 0 = .ok (.aload_n 0, 1) := by decide +kernel
theorem dX7_lemma_1 : decode cX7_lemma 1 = .ok (.getfield 19, 3) := by decide +kernel
theorem dX7_lemma_4 : decode cX7_lemma 4 = .ok (.iload_n 1, 1) := by decide +kernel
theorem dX7_lemma_5 : decode cX7_lemma 5 = .ok (.invokevirtual 137, 3) := by decide +kernel
theorem dX7_lemma_8 : decode cX7_lemma 8 = .ok (.ifCond .ne 6, 3) := by decide +kernel
theorem dX7_lemma_11 : decode cX7_lemma 11 = .ok (.bipush (-2), 2) := by decide +kernel
theorem dX7_lemma_13 : decode cX7_lemma 13 = .ok (.ireturn, 1) := by decide +kernel
theorem dX7_lemma_14 : decode cX7_lemma 14 = .ok (.iconst (-1), 1) := by decide +kernel
theorem dX7_lemma_15 : decode cX7_lemma 15 = .ok (.istore_n 2, 1) := by decide +kernel
theorem dX7_lemma_16 : decode cX7_lemma 16 = .ok (.aload_n 0, 1) := by decide +kernel
theorem dX7_lemma_17 : decode cX7_lemma 17 = .ok (.iload_n 1, 1) := by decide +kernel
theorem dX7_lemma_18 : decode cX7_lemma 18 = .ok (.iconst 0, 1) := by decide +kernel
theorem dX7_lemma_19 : decode cX7_lemma 19 = .ok (.invokevirtual 231, 3) := by decide +kernel
theorem dX7_lemma_22 : decode cX7_lemma 22 = .ok (.istore_n 3, 1) := by decide +kernel
theorem dX7_lemma_23 : decode cX7_lemma 23 = .ok (.iconst 0, 1) := by decide +kernel
theorem dX7_lemma_24 : decode cX7_lemma 24 = .ok (.istore 4, 2) := by decide +kernel
theorem dX7_lemma_26 : decode cX7_lemma 26 = .ok (.iload 4, 2) := by decide +kernel
theorem dX7_lemma_28 : decode cX7_lemma 28 = .ok (.aload_n 0, 1) := by decide +kernel
theorem dX7_lemma_29 : decode cX7_lemma 29 = .ok (.getfield 19, 3) := by decide +kernel
theorem dX7_lemma_32 : decode cX7_lemma 32 = .ok (.getfield 252, 3) := by decide +kernel
theorem dX7_lemma_35 : decode cX7_lemma 35 = .ok (.if_icmp .ge 30, 3) := by decide +kernel
theorem dX7_lemma_38 : decode cX7_lemma 38 = .ok (.aload_n 0, 1) := by decide +kernel
theorem dX7_lemma_39 : decode cX7_lemma 39 = .ok (.iload_n 1, 1) := by decide +kernel
theorem dX7_lemma_40 : decode cX7_lemma 40 = .ok (.iload 4, 2) := by decide +kernel
theorem dX7_lemma_42 : decode cX7_lemma 42 = .ok (.invokevirtual 255, 3) := by decide +kernel
theorem dX7_lemma_45 : decode cX7_lemma 45 = .ok (.istore 5, 2) := by decide +kernel
theorem dX7_lemma_47 : decode cX7_lemma 47 = .ok (.iload 5, 2) := by decide +kernel
theorem dX7_lemma_49 : decode cX7_lemma 49 = .ok (.iload_n 3, 1) := by decide +kernel
theorem dX7_lemma_50 : decode cX7_lemma 50 = .ok (.if_icmp .le 9, 3) := by decide +kernel
theorem dX7_lemma_53 : decode cX7_lemma 53 = .ok (.iload 4, 2) := by decide +kernel
theorem dX7_lemma_55 : decode cX7_lemma 55 = .ok (.istore_n 2, 1) := by decide +kernel
theorem dX7_lemma_56 : decode cX7_lemma 56 = .ok (.iload 5, 2) := by decide +kernel
theorem dX7_lemma_58 : decode cX7_lemma 58 = .ok (.istore_n 3, 1) := by decide +kernel
theorem dX7_lemma_59 : decode cX7_lemma 59 = .ok (.iinc 4 1, 3) := by decide +kernel
theorem dX7_lemma_62 : decode cX7_lemma 62 = .ok (.goto (-36), 3) := by decide +kernel
theorem dX7_lemma_65 : decode cX7_lemma 65 = .ok (.iload_n 2, 1) := by decide +kernel
theorem dX7_lemma_66 : decode cX7_lemma 66 = .ok (.ireturn, 1) := by decide +kernel
set_option maxRecDepth 4000 in
theorem kX7_lemma (G : GT) {σ : St} {a1 : Int32} : ∀ (r : Int32) (σo : St) , fX7_lemma σ a1 = some (r, σo) → MCt G 7 yX7_lemma cX7_lemma 6 (some .int) [.ref (gad G 0), .int a1] σ (some (.int r)) σo := by
  intro r σo hF
  refine met_i (by decide) (Nat.le_of_ble_eq_true rfl) (fun X cx hE => ?_)
  have cx : Cx G X RX7 cX7_lemma 6 7 := cx
  have hl26 : ∀ n : Nat, ∀ (σ : St) (x1 : Int32) (x2 : Int32) (x3 : Int32) (x4 : Int32) , fX7_lemma_l26 n σ x1 x2 x3 x4 = some (r, σo) → WW G X 6 σ [(0, .ref (gad G 0)), (1, .int x1), (2, .int x2), (3, .int x3), (4, .int x4)] 26 [] := by
    intro n
    induction n with
    | zero =>
      intro σ x1 x2 x3 x4 hF
      exact absurd hF (by intro z; cases z)
    | succ n ih =>
      intro σ x1 x2 x3 x4 hF
      have hk26 := ih
      have hF : fX7_lemma_B26 (fX7_lemma_l26 n) σ x1 x2 x3 x4 = some (r, σo) := hF
      unfold fX7_lemma_B26 at hF
      refine ww_iload cx dX7_lemma_26 4 rfl ?_
      refine ww_aload_n cx dX7_lemma_28 rfl 0 rfl ?_
      refine gf_X7_19 cx dX7_lemma_29 ?_
      refine gf_X7_252 cx (isTab_3) dX7_lemma_32 ?_
      refine ww_icmp_ge cx dX7_lemma_35 (tgt := 65) rfl hF (fun hF => ?_) (fun hF => ?_)
      · refine ww_iload_n cx dX7_lemma_65 rfl 2 rfl ?_
        exact ww_ris hE dX7_lemma_66 hF
      · refine ww_aload_n cx dX7_lemma_38 rfl 0 rfl ?_
        refine ww_iload_n cx dX7_lemma_39 rfl 1 rfl ?_
        refine ww_iload cx dX7_lemma_40 4 rfl ?_
        refine ww_V2_si kv_X7_255 rfl cx sh_0 ⟨Nat.le_of_ble_eq_true rfl, Nat.le_of_ble_eq_true rfl⟩ (Nat.le_of_ble_eq_true rfl) dX7_lemma_42 (kX7_worthWithLemma G) hF (fun r1 σ2 hF => ?_)
        refine ww_istore (ks := [0, 1, 2, 3, 4, 5]) (lv' := fun v3 => [(5, .int v3), (0, .ref (gad G 0)), (1, .int x1), (2, .int x2), (3, .int x3), (4, .int x4)]) cx dX7_lemma_45 (by decide) hF (fun _ => rfl) (fun v3 hF => ?_)
        refine ww_iload cx dX7_lemma_47 0 rfl ?_
        refine ww_iload_n cx dX7_lemma_49 rfl 4 rfl ?_
        refine ww_icmp_le cx dX7_lemma_50 (tgt := 59) rfl hF (fun hF => ?_) (fun hF => ?_)
        · refine ww_iinc (j := 5) (ks := [0, 2, 3, 4, 5]) (lv' := fun v4 => [(4, .int v4), (0, .ref (gad G 0)), (1, .int x1), (2, .int x2), (3, .int x3)]) cx dX7_lemma_59 (by decide) rfl ic_1 hF (fun _ => rfl) (fun v4 hF => ?_)
          refine ww_goto cx dX7_lemma_62 (tgt := 26) rfl ?_
          exact ww_sub [1, 2, 3, 4, 0] rfl (hk26 _ _ _ _ _ hF)
        · refine ww_iload cx dX7_lemma_53 5 rfl ?_
          refine ww_istore_n (ks := [0, 1, 2, 3, 5]) (lv' := fun v5 => [(2, .int v5), (5, .int v3), (0, .ref (gad G 0)), (1, .int x1), (4, .int x4)]) cx dX7_lemma_55 rfl (by decide) hF (fun _ => rfl) (fun v5 hF => ?_)
          refine ww_iload cx dX7_lemma_56 1 rfl ?_
          refine ww_istore_n (ks := [0, 1, 3, 4, 5]) (lv' := fun v6 => [(3, .int v6), (2, .int v5), (0, .ref (gad G 0)), (1, .int x1), (4, .int x4)]) cx dX7_lemma_58 rfl (by decide) hF (fun _ => rfl) (fun v6 hF => ?_)
          refine ww_iinc (j := 4) (ks := [0, 1, 2, 3, 4]) (lv' := fun v7 => [(4, .int v7), (3, .int v6), (2, .int v5), (0, .ref (gad G 0)), (1, .int x1)]) cx dX7_lemma_59 (by decide) rfl ic_1 hF (fun _ => rfl) (fun v7 hF => ?_)
          refine ww_goto cx dX7_lemma_62 (tgt := 26) rfl ?_
          exact ww_sub [3, 4, 2, 1, 0] rfl (hk26 _ _ _ _ _ hF)
  unfold fX7_lemma at hF
  show WW G X 6 σ [(0, .ref (gad G 0)), (1, .int a1)] 0 []
  refine ww_aload_n cx dX7_lemma_0 rfl 0 rfl ?_
  refine gf_X7_19 cx dX7_lemma_1 ?_
  refine ww_iload_n cx dX7_lemma_4 rfl 1 rfl ?_
  refine ww_V1_pi kv_X7_137 rfl cx ((isTab_3).1) ⟨Nat.le_of_ble_eq_true rfl, Nat.le_of_ble_eq_true rfl⟩ (Nat.le_of_ble_eq_true rfl) dX7_lemma_5 (kX6_hasGuest G (isTab_3)) hF (fun r8 hF => ?_)
  refine ww_if_ne cx dX7_lemma_8 (tgt := 14) rfl hF (fun hF => ?_) (fun hF => ?_)
  · refine ww_iconst cx dX7_lemma_14 ic_m1 ?_
    refine ww_istore_n (ks := [0, 1, 2]) (lv' := fun v9 => [(2, .int v9), (0, .ref (gad G 0)), (1, .int a1)]) cx dX7_lemma_15 rfl (by decide) hF (fun _ => rfl) (fun v9 hF => ?_)
    refine ww_aload_n cx dX7_lemma_16 rfl 1 rfl ?_
    refine ww_iload_n cx dX7_lemma_17 rfl 2 rfl ?_
    refine ww_iconst cx dX7_lemma_18 ic_0 ?_
    refine ww_V2_si kv_X7_231 rfl cx sh_0 ⟨Nat.le_of_ble_eq_true rfl, Nat.le_of_ble_eq_true rfl⟩ (Nat.le_of_ble_eq_true rfl) dX7_lemma_19 (kX7_menuWorth G) hF (fun r10 σ11 hF => ?_)
    refine ww_istore_n (ks := [0, 1, 2, 3]) (lv' := fun v12 => [(3, .int v12), (2, .int v9), (0, .ref (gad G 0)), (1, .int a1)]) cx dX7_lemma_22 rfl (by decide) hF (fun _ => rfl) (fun v12 hF => ?_)
    refine ww_iconst cx dX7_lemma_23 ic_0 ?_
    refine ww_istore (ks := [0, 1, 2, 3, 4]) (lv' := fun v13 => [(4, .int v13), (3, .int v12), (2, .int v9), (0, .ref (gad G 0)), (1, .int a1)]) cx dX7_lemma_24 (by decide) hF (fun _ => rfl) (fun v13 hF => ?_)
    exact ww_sub [3, 4, 2, 1, 0] rfl (hl26 FU _ _ _ _ _ hF)
  · refine ww_bipush cx dX7_lemma_11 bc_m2 ?_
    exact ww_ris hE dX7_lemma_13 hF
theorem dX7_mean_0 : decode cX7_mean 0 = .ok (.aload_n 0, 1) := by decide +kernel
theorem dX7_mean_1 : decode cX7_mean 1 = .ok (.getfield 19, 3) := by decide +kernel
theorem dX7_mean_4 : decode cX7_mean 4 = .ok (.iload_n 3, 1) := by decide +kernel
theorem dX7_mean_5 : decode cX7_mean 5 = .ok (.invokevirtual 137, 3) := by decide +kernel
theorem dX7_mean_8 : decode cX7_mean 8 = .ok (.ifCond .eq 18, 3) := by decide +kernel
theorem dX7_mean_11 : decode cX7_mean 11 = .ok (.iload_n 1, 1) := by decide +kernel
theorem dX7_mean_12 : decode cX7_mean 12 = .ok (.invokestatic 355, 3) := by decide +kernel
theorem dX7_mean_15 : decode cX7_mean 15 = .ok (.ifCond .eq 11, 3) := by decide +kernel
theorem dX7_mean_18 : decode cX7_mean 18 = .ok (.iload 4, 2) := by decide +kernel
theorem dX7_mean_20 : decode cX7_mean 20 = .ok (.invokestatic 270, 3) := by decide +kernel
theorem dX7_mean_23 : decode cX7_mean 23 = .ok (.ifCond .ne 6, 3) := by decide +kernel
theorem dX7_mean_26 : decode cX7_mean 26 = .ok (.bipush (-2), 2) := by decide +kernel
theorem dX7_mean_28 : decode cX7_mean 28 = .ok (.ireturn, 1) := by decide +kernel
theorem dX7_mean_29 : decode cX7_mean 29 = .ok (.iload_n 2, 1) := by decide +kernel
theorem dX7_mean_30 : decode cX7_mean 30 = .ok (.iconst 1, 1) := by decide +kernel
theorem dX7_mean_31 : decode cX7_mean 31 = .ok (.if_icmp .lt 9, 3) := by decide +kernel
theorem dX7_mean_34 : decode cX7_mean 34 = .ok (.iload_n 2, 1) := by decide +kernel
theorem dX7_mean_35 : decode cX7_mean 35 = .ok (.bipush 20, 2) := by decide +kernel
theorem dX7_mean_37 : decode cX7_mean 37 = .ok (.if_icmp .le 6, 3) := by decide +kernel
theorem dX7_mean_40 : decode cX7_mean 40 = .ok (.bipush (-2), 2) := by decide +kernel
theorem dX7_mean_42 : decode cX7_mean 42 = .ok (.ireturn, 1) := by decide +kernel
theorem dX7_mean_43 : decode cX7_mean 43 = .ok (.iconst 0, 1) := by decide +kernel
theorem dX7_mean_44 : decode cX7_mean 44 = .ok (.istore 5, 2) := by decide +kernel
theorem dX7_mean_46 : decode cX7_mean 46 = .ok (.iconst 0, 1) := by decide +kernel
theorem dX7_mean_47 : decode cX7_mean 47 = .ok (.istore 6, 2) := by decide +kernel
theorem dX7_mean_49 : decode cX7_mean 49 = .ok (.iload 6, 2) := by decide +kernel
theorem dX7_mean_51 : decode cX7_mean 51 = .ok (.iload_n 2, 1) := by decide +kernel
theorem dX7_mean_52 : decode cX7_mean 52 = .ok (.if_icmp .ge 30, 3) := by decide +kernel
theorem dX7_mean_55 : decode cX7_mean 55 = .ok (.iload 5, 2) := by decide +kernel
theorem dX7_mean_57 : decode cX7_mean 57 = .ok (.aload_n 0, 1) := by decide +kernel
theorem dX7_mean_58 : decode cX7_mean 58 = .ok (.iload_n 3, 1) := by decide +kernel
theorem dX7_mean_59 : decode cX7_mean 59 = .ok (.aload_n 0, 1) := by decide +kernel
theorem dX7_mean_60 : decode cX7_mean 60 = .ok (.getfield 19, 3) := by decide +kernel
theorem dX7_mean_63 : decode cX7_mean 63 = .ok (.iload_n 1, 1) := by decide +kernel
theorem dX7_mean_64 : decode cX7_mean 64 = .ok (.iload 6, 2) := by decide +kernel
theorem dX7_mean_66 : decode cX7_mean 66 = .ok (.iadd, 1) := by decide +kernel
theorem dX7_mean_67 : decode cX7_mean 67 = .ok (.invokevirtual 358, 3) := by decide +kernel
theorem dX7_mean_70 : decode cX7_mean 70 = .ok (.invokevirtual 231, 3) := by decide +kernel
theorem dX7_mean_73 : decode cX7_mean 73 = .ok (.iadd, 1) := by decide +kernel
theorem dX7_mean_74 : decode cX7_mean 74 = .ok (.istore 5, 2) := by decide +kernel
theorem dX7_mean_76 : decode cX7_mean 76 = .ok (.iinc 6 1, 3) := by decide +kernel
theorem dX7_mean_79 : decode cX7_mean 79 = .ok (.goto (-30), 3) := by decide +kernel
theorem dX7_mean_82 : decode cX7_mean 82 = .ok (.iload 5, 2) := by decide +kernel
theorem dX7_mean_84 : decode cX7_mean 84 = .ok (.iload_n 2, 1) := by decide +kernel
theorem dX7_mean_85 : decode cX7_mean 85 = .ok (.iload 4, 2) := by decide +kernel
theorem dX7_mean_87 : decode cX7_mean 87 = .ok (.invokestatic 313, 3) := by decide +kernel
theorem dX7_mean_90 : decode cX7_mean 90 = .ok (.ireturn, 1) := by decide +kernel
set_option maxRecDepth 4000 in
theorem kX7_mean (G : GT) {σ : St} {a1 : Int32} {a2 : Int32} {a3 : Int32} {a4 : Int32} : ∀ (r : Int32) (σo : St) , fX7_mean σ a1 a2 a3 a4 = some (r, σo) → MCt G 7 yX7_mean cX7_mean 7 (some .int) [.ref (gad G 0), .int a1, .int a2, .int a3, .int a4] σ (some (.int r)) σo := by
  intro r σo hF
  refine met_i (by decide) (Nat.le_of_ble_eq_true rfl) (fun X cx hE => ?_)
  have cx : Cx G X RX7 cX7_mean 7 7 := cx
  have hl49 : ∀ n : Nat, ∀ (σ : St) (x1 : Int32) (x2 : Int32) (x3 : Int32) (x4 : Int32) (x5 : Int32) (x6 : Int32) , fX7_mean_l49 n σ x1 x2 x3 x4 x5 x6 = some (r, σo) → WW G X 7 σ [(0, .ref (gad G 0)), (1, .int x1), (2, .int x2), (3, .int x3), (4, .int x4), (5, .int x5), (6, .int x6)] 49 [] := by
    intro n
    induction n with
    | zero =>
      intro σ x1 x2 x3 x4 x5 x6 hF
      exact absurd hF (by intro z; cases z)
    | succ n ih =>
      intro σ x1 x2 x3 x4 x5 x6 hF
      have hk49 := ih
      have hF : fX7_mean_B49 (fX7_mean_l49 n) σ x1 x2 x3 x4 x5 x6 = some (r, σo) := hF
      unfold fX7_mean_B49 at hF
      refine ww_iload cx dX7_mean_49 6 rfl ?_
      refine ww_iload_n cx dX7_mean_51 rfl 2 rfl ?_
      refine ww_icmp_ge cx dX7_mean_52 (tgt := 82) rfl hF (fun hF => ?_) (fun hF => ?_)
      · refine ww_iload cx dX7_mean_82 5 rfl ?_
        refine ww_iload_n cx dX7_mean_84 rfl 2 rfl ?_
        refine ww_iload cx dX7_mean_85 4 rfl ?_
        refine ww_S3_pi kv_X7_313 cx ⟨Nat.le_of_ble_eq_true rfl, Nat.le_of_ble_eq_true rfl⟩ (Nat.le_of_ble_eq_true rfl) dX7_mean_87 (kX7_partOfFraction G) hF (fun r1 hF => ?_)
        exact ww_ris hE dX7_mean_90 hF
      · refine ww_iload cx dX7_mean_55 5 rfl ?_
        refine ww_aload_n cx dX7_mean_57 rfl 0 rfl ?_
        refine ww_iload_n cx dX7_mean_58 rfl 3 rfl ?_
        refine ww_aload_n cx dX7_mean_59 rfl 0 rfl ?_
        refine gf_X7_19 cx dX7_mean_60 ?_
        refine ww_iload_n cx dX7_mean_63 rfl 1 rfl ?_
        refine ww_iload cx dX7_mean_64 6 rfl ?_
        refine ww_iadd cx dX7_mean_66 ?_
        refine ww_V1_pi kv_X7_358 rfl cx ((isTab_3).1) ⟨Nat.le_of_ble_eq_true rfl, Nat.le_of_ble_eq_true rfl⟩ (Nat.le_of_ble_eq_true rfl) dX7_mean_67 (kX6_holedSteps G (isTab_3)) hF (fun r2 hF => ?_)
        refine ww_V2_si kv_X7_231 rfl cx sh_0 ⟨Nat.le_of_ble_eq_true rfl, Nat.le_of_ble_eq_true rfl⟩ (Nat.le_of_ble_eq_true rfl) dX7_mean_70 (kX7_menuWorth G) hF (fun r3 σ4 hF => ?_)
        refine ww_iadd cx dX7_mean_73 ?_
        refine ww_istore (ks := [0, 1, 2, 3, 4, 5, 6]) (lv' := fun v5 => [(5, .int v5), (0, .ref (gad G 0)), (1, .int x1), (2, .int x2), (3, .int x3), (4, .int x4), (6, .int x6)]) cx dX7_mean_74 (by decide) hF (fun _ => rfl) (fun v5 hF => ?_)
        refine ww_iinc (j := 6) (ks := [0, 1, 2, 3, 4, 5, 6]) (lv' := fun v6 => [(6, .int v6), (5, .int v5), (0, .ref (gad G 0)), (1, .int x1), (2, .int x2), (3, .int x3), (4, .int x4)]) cx dX7_mean_76 (by decide) rfl ic_1 hF (fun _ => rfl) (fun v6 hF => ?_)
        refine ww_goto cx dX7_mean_79 (tgt := 49) rfl ?_
        exact ww_sub [2, 3, 4, 5, 6, 1, 0] rfl (hk49 _ _ _ _ _ _ _ hF)
  unfold fX7_mean at hF
  show WW G X 7 σ [(0, .ref (gad G 0)), (1, .int a1), (2, .int a2), (3, .int a3), (4, .int a4)] 0 []
  refine ww_aload_n cx dX7_mean_0 rfl 0 rfl ?_
  refine gf_X7_19 cx dX7_mean_1 ?_
  refine ww_iload_n cx dX7_mean_4 rfl 3 rfl ?_
  refine ww_V1_pi kv_X7_137 rfl cx ((isTab_3).1) ⟨Nat.le_of_ble_eq_true rfl, Nat.le_of_ble_eq_true rfl⟩ (Nat.le_of_ble_eq_true rfl) dX7_mean_5 (kX6_hasGuest G (isTab_3)) hF (fun r7 hF => ?_)
  refine ww_if_eq cx dX7_mean_8 (tgt := 26) rfl hF (fun hF => ?_) (fun hF => ?_)
  · refine ww_bipush cx dX7_mean_26 bc_m2 ?_
    exact ww_ris hE dX7_mean_28 hF
  · refine ww_iload_n cx dX7_mean_11 rfl 1 rfl ?_
    refine ww_S1_pi kv_X7_355 cx ⟨Nat.le_of_ble_eq_true rfl, Nat.le_of_ble_eq_true rfl⟩ (Nat.le_of_ble_eq_true rfl) dX7_mean_12 (kX7_isSeed G) hF (fun r8 hF => ?_)
    refine ww_if_eq cx dX7_mean_15 (tgt := 26) rfl hF (fun hF => ?_) (fun hF => ?_)
    · refine ww_bipush cx dX7_mean_26 bc_m2 ?_
      exact ww_ris hE dX7_mean_28 hF
    · refine ww_iload cx dX7_mean_18 4 rfl ?_
      refine ww_S1_pi kv_X7_270 cx ⟨Nat.le_of_ble_eq_true rfl, Nat.le_of_ble_eq_true rfl⟩ (Nat.le_of_ble_eq_true rfl) dX7_mean_20 (kX7_isBit G) hF (fun r9 hF => ?_)
      refine ww_if_ne cx dX7_mean_23 (tgt := 29) rfl hF (fun hF => ?_) (fun hF => ?_)
      · refine ww_iload_n cx dX7_mean_29 rfl 2 rfl ?_
        refine ww_iconst cx dX7_mean_30 ic_1 ?_
        refine ww_icmp_lt cx dX7_mean_31 (tgt := 40) rfl hF (fun hF => ?_) (fun hF => ?_)
        · refine ww_bipush cx dX7_mean_40 bc_m2 ?_
          exact ww_ris hE dX7_mean_42 hF
        · refine ww_iload_n cx dX7_mean_34 rfl 2 rfl ?_
          refine ww_bipush cx dX7_mean_35 bc_20 ?_
          refine ww_icmp_le cx dX7_mean_37 (tgt := 43) rfl hF (fun hF => ?_) (fun hF => ?_)
          · refine ww_iconst cx dX7_mean_43 ic_0 ?_
            refine ww_istore (ks := [0, 1, 2, 3, 4, 5]) (lv' := fun v10 => [(5, .int v10), (0, .ref (gad G 0)), (1, .int a1), (2, .int a2), (3, .int a3), (4, .int a4)]) cx dX7_mean_44 (by decide) hF (fun _ => rfl) (fun v10 hF => ?_)
            refine ww_iconst cx dX7_mean_46 ic_0 ?_
            refine ww_istore (ks := [0, 1, 2, 3, 4, 5, 6]) (lv' := fun v11 => [(6, .int v11), (5, .int v10), (0, .ref (gad G 0)), (1, .int a1), (2, .int a2), (3, .int a3), (4, .int a4)]) cx dX7_mean_47 (by decide) hF (fun _ => rfl) (fun v11 hF => ?_)
            exact ww_sub [2, 3, 4, 5, 6, 1, 0] rfl (hl49 FU _ _ _ _ _ _ _ hF)
          · refine ww_bipush cx dX7_mean_40 bc_m2 ?_
            exact ww_ris hE dX7_mean_42 hF
      · refine ww_bipush cx dX7_mean_26 bc_m2 ?_
        exact ww_ris hE dX7_mean_28 hF
theorem dX7_menu_0 : decode cX7_menu 0 = .ok (.aload_n 0, 1) := by decide +kernel
theorem dX7_menu_1 : decode cX7_menu 1 = .ok (.getfield 19, 3) := by decide +kernel
theorem dX7_menu_4 : decode cX7_menu 4 = .ok (.iload_n 1, 1) := by decide +kernel
theorem dX7_menu_5 : decode cX7_menu 5 = .ok (.invokevirtual 137, 3) := by decide +kernel
theorem dX7_menu_8 : decode cX7_menu 8 = .ok (.ifCond .eq 12, 3) := by decide +kernel
theorem dX7_menu_11 : decode cX7_menu 11 = .ok (.aload_n 0, 1) := by decide +kernel
theorem dX7_menu_12 : decode cX7_menu 12 = .ok (.iload_n 1, 1) := by decide +kernel
theorem dX7_menu_13 : decode cX7_menu 13 = .ok (.iconst 0, 1) := by decide +kernel
theorem dX7_menu_14 : decode cX7_menu 14 = .ok (.invokevirtual 231, 3) := by decide +kernel
theorem dX7_menu_17 : decode cX7_menu 17 = .ok (.goto 5, 3) := by decide +kernel
theorem dX7_menu_20 : decode cX7_menu 20 = .ok (.bipush (-2), 2) := by decide +kernel
theorem dX7_menu_22 : decode cX7_menu 22 = .ok (.ireturn, 1) := by decide +kernel
set_option maxRecDepth 4000 in
theorem kX7_menu (G : GT) {σ : St} {a1 : Int32} : ∀ (r : Int32) (σo : St) , fX7_menu σ a1 = some (r, σo) → MCt G 7 yX7_menu cX7_menu 2 (some .int) [.ref (gad G 0), .int a1] σ (some (.int r)) σo := by
  intro r σo hF
  refine met_i (by decide) (Nat.le_of_ble_eq_true rfl) (fun X cx hE => ?_)
  have cx : Cx G X RX7 cX7_menu 2 7 := cx
  unfold fX7_menu at hF
  show WW G X 2 σ [(0, .ref (gad G 0)), (1, .int a1)] 0 []
  refine ww_aload_n cx dX7_menu_0 rfl 0 rfl ?_
  refine gf_X7_19 cx dX7_menu_1 ?_
  refine ww_iload_n cx dX7_menu_4 rfl 1 rfl ?_
  refine ww_V1_pi kv_X7_137 rfl cx ((isTab_3).1) ⟨Nat.le_of_ble_eq_true rfl, Nat.le_of_ble_eq_true rfl⟩ (Nat.le_of_ble_eq_true rfl) dX7_menu_5 (kX6_hasGuest G (isTab_3)) hF (fun r1 hF => ?_)
  refine ww_if_eq cx dX7_menu_8 (tgt := 20) rfl hF (fun hF => ?_) (fun hF => ?_)
  · refine ww_bipush cx dX7_menu_20 bc_m2 ?_
    exact ww_ris hE dX7_menu_22 hF
  · refine ww_aload_n cx dX7_menu_11 rfl 0 rfl ?_
    refine ww_iload_n cx dX7_menu_12 rfl 1 rfl ?_
    refine ww_iconst cx dX7_menu_13 ic_0 ?_
    refine ww_V2_si kv_X7_231 rfl cx sh_0 ⟨Nat.le_of_ble_eq_true rfl, Nat.le_of_ble_eq_true rfl⟩ (Nat.le_of_ble_eq_true rfl) dX7_menu_14 (kX7_menuWorth G) hF (fun r2 σ3 hF => ?_)
    refine ww_goto cx dX7_menu_17 (tgt := 22) rfl ?_
    exact ww_ris hE dX7_menu_22 hF
theorem dX7_move_0 : decode cX7_move 0 = .ok (.aload_n 0, 1) := by decide +kernel
theorem dX7_move_1 : decode cX7_move 1 = .ok (.getfield 19, 3) := by decide +kernel
theorem dX7_move_4 : decode cX7_move 4 = .ok (.invokevirtual 149, 3) := by decide +kernel
theorem dX7_move_7 : decode cX7_move 7 = .ok (.ifCond .ne 6, 3) := by decide +kernel
theorem dX7_move_10 : decode cX7_move 10 = .ok (.bipush (-2), 2) := by decide +kernel
theorem dX7_move_12 : decode cX7_move 12 = .ok (.ireturn, 1) := by decide +kernel
theorem dX7_move_13 : decode cX7_move 13 = .ok (.aload_n 0, 1) := by decide +kernel
theorem dX7_move_14 : decode cX7_move 14 = .ok (.invokevirtual 307, 3) := by decide +kernel
theorem dX7_move_17 : decode cX7_move 17 = .ok (.iconst 1, 1) := by decide +kernel
theorem dX7_move_18 : decode cX7_move 18 = .ok (.iand, 1) := by decide +kernel
theorem dX7_move_19 : decode cX7_move 19 = .ok (.iconst 1, 1) := by decide +kernel
theorem dX7_move_20 : decode cX7_move 20 = .ok (.if_icmp .ne 27, 3) := by decide +kernel
theorem dX7_move_23 : decode cX7_move 23 = .ok (.aload_n 0, 1) := by decide +kernel
theorem dX7_move_24 : decode cX7_move 24 = .ok (.getfield 19, 3) := by decide +kernel
theorem dX7_move_27 : decode cX7_move 27 = .ok (.aload_n 0, 1) := by decide +kernel
theorem dX7_move_28 : decode cX7_move 28 = .ok (.getfield 19, 3) := by decide +kernel
theorem dX7_move_31 : decode cX7_move 31 = .ok (.invokevirtual 222, 3) := by decide +kernel
theorem dX7_move_34 : decode cX7_move 34 = .ok (.aload_n 0, 1) := by decide +kernel
theorem dX7_move_35 : decode cX7_move 35 = .ok (.getfield 19, 3) := by decide +kernel
theorem dX7_move_38 : decode cX7_move 38 = .ok (.getfield 109, 3) := by decide +kernel
theorem dX7_move_41 : decode cX7_move 41 = .ok (.invokevirtual 214, 3) := by decide +kernel
theorem dX7_move_44 : decode cX7_move 44 = .ok (.goto 4, 3) := by decide +kernel
theorem dX7_move_47 : decode cX7_move 47 = .ok (.iconst (-1), 1) := by decide +kernel
theorem dX7_move_48 : decode cX7_move 48 = .ok (.ireturn, 1) := by decide +kernel
set_option maxRecDepth 4000 in
theorem kX7_move (G : GT) {σ : St} : ∀ (r : Int32) (σo : St) , fX7_move σ = some (r, σo) → MCt G 7 yX7_move cX7_move 1 (some .int) [.ref (gad G 0)] σ (some (.int r)) σo := by
  intro r σo hF
  refine met_i (by decide) (Nat.le_of_ble_eq_true rfl) (fun X cx hE => ?_)
  have cx : Cx G X RX7 cX7_move 1 7 := cx
  unfold fX7_move at hF
  show WW G X 1 σ [(0, .ref (gad G 0))] 0 []
  refine ww_aload_n cx dX7_move_0 rfl 0 rfl ?_
  refine gf_X7_19 cx dX7_move_1 ?_
  refine ww_V0_pi kv_X7_149 rfl cx ((isTab_3).1) ⟨Nat.le_of_ble_eq_true rfl, Nat.le_of_ble_eq_true rfl⟩ (Nat.le_of_ble_eq_true rfl) dX7_move_4 (kX6_isTold G (isTab_3)) hF (fun r1 hF => ?_)
  refine ww_if_ne cx dX7_move_7 (tgt := 13) rfl hF (fun hF => ?_) (fun hF => ?_)
  · refine ww_aload_n cx dX7_move_13 rfl 0 rfl ?_
    refine ww_V0_si kv_X7_307 rfl cx sh_0 ⟨Nat.le_of_ble_eq_true rfl, Nat.le_of_ble_eq_true rfl⟩ (Nat.le_of_ble_eq_true rfl) dX7_move_14 (kX7_lengthOfDuel G) hF (fun r2 σ3 hF => ?_)
    refine ww_iconst cx dX7_move_17 ic_1 ?_
    refine ww_iand cx dX7_move_18 ?_
    refine ww_iconst cx dX7_move_19 ic_1 ?_
    refine ww_icmp_ne cx dX7_move_20 (tgt := 47) rfl hF (fun hF => ?_) (fun hF => ?_)
    · refine ww_iconst cx dX7_move_47 ic_m1 ?_
      exact ww_ris hE dX7_move_48 hF
    · refine ww_aload_n cx dX7_move_23 rfl 0 rfl ?_
      refine gf_X7_19 cx dX7_move_24 ?_
      refine ww_aload_n cx dX7_move_27 rfl 0 rfl ?_
      refine gf_X7_19 cx dX7_move_28 ?_
      refine ww_V0_pi kv_X7_222 rfl cx ((isTab_3).1) ⟨Nat.le_of_ble_eq_true rfl, Nat.le_of_ble_eq_true rfl⟩ (Nat.le_of_ble_eq_true rfl) dX7_move_31 (kX6_allSteps G (isTab_3)) hF (fun r4 hF => ?_)
      refine ww_aload_n cx dX7_move_34 rfl 0 rfl ?_
      refine gf_X7_19 cx dX7_move_35 ?_
      refine gf_X7_109 cx (isTab_3) dX7_move_38 ?_
      refine ww_V2_pi kv_X7_214 rfl cx ((isTab_3).1) ⟨Nat.le_of_ble_eq_true rfl, Nat.le_of_ble_eq_true rfl⟩ (Nat.le_of_ble_eq_true rfl) dX7_move_41 (kX6_firstGoing G (isTab_3)) hF (fun r5 hF => ?_)
      refine ww_goto cx dX7_move_44 (tgt := 48) rfl ?_
      exact ww_ris hE dX7_move_48 hF
  · refine ww_bipush cx dX7_move_10 bc_m2 ?_
    exact ww_ris hE dX7_move_12 hF
theorem dX7_team_0 : decode cX7_team 0 = .ok (.aload_n 0, 1) := by decide +kernel
theorem dX7_team_1 : decode cX7_team 1 = .ok (.getfield 19, 3) := by decide +kernel
theorem dX7_team_4 : decode cX7_team 4 = .ok (.iload_n 1, 1) := by decide +kernel
theorem dX7_team_5 : decode cX7_team 5 = .ok (.invokevirtual 101, 3) := by decide +kernel
theorem dX7_team_8 : decode cX7_team 8 = .ok (.ifCond .eq 11, 3) := by decide +kernel
theorem dX7_team_11 : decode cX7_team 11 = .ok (.aload_n 0, 1) := by decide +kernel
theorem dX7_team_12 : decode cX7_team 12 = .ok (.iload_n 1, 1) := by decide +kernel
theorem dX7_team_13 : decode cX7_team 13 = .ok (.invokevirtual 267, 3) := by decide +kernel
theorem dX7_team_16 : decode cX7_team 16 = .ok (.goto 5, 3) := by decide +kernel
theorem dX7_team_19 : decode cX7_team 19 = .ok (.bipush (-2), 2) := by decide +kernel
theorem dX7_team_21 : decode cX7_team 21 = .ok (.ireturn, 1) := by decide +kernel
set_option maxRecDepth 4000 in
theorem kX7_team (G : GT) {σ : St} {a1 : Int32} : ∀ (r : Int32) (σo : St) , fX7_team σ a1 = some (r, σo) → MCt G 7 yX7_team cX7_team 2 (some .int) [.ref (gad G 0), .int a1] σ (some (.int r)) σo := by
  intro r σo hF
  refine met_i (by decide) (Nat.le_of_ble_eq_true rfl) (fun X cx hE => ?_)
  have cx : Cx G X RX7 cX7_team 2 7 := cx
  unfold fX7_team at hF
  show WW G X 2 σ [(0, .ref (gad G 0)), (1, .int a1)] 0 []
  refine ww_aload_n cx dX7_team_0 rfl 0 rfl ?_
  refine gf_X7_19 cx dX7_team_1 ?_
  refine ww_iload_n cx dX7_team_4 rfl 1 rfl ?_
  refine ww_V1_pi kv_X7_101 rfl cx ((isTab_3).1) ⟨Nat.le_of_ble_eq_true rfl, Nat.le_of_ble_eq_true rfl⟩ (Nat.le_of_ble_eq_true rfl) dX7_team_5 (kX6_hasClaim G (isTab_3)) hF (fun r1 hF => ?_)
  refine ww_if_eq cx dX7_team_8 (tgt := 19) rfl hF (fun hF => ?_) (fun hF => ?_)
  · refine ww_bipush cx dX7_team_19 bc_m2 ?_
    exact ww_ris hE dX7_team_21 hF
  · refine ww_aload_n cx dX7_team_11 rfl 0 rfl ?_
    refine ww_iload_n cx dX7_team_12 rfl 1 rfl ?_
    refine ww_V1_si kv_X7_267 rfl cx sh_0 ⟨Nat.le_of_ble_eq_true rfl, Nat.le_of_ble_eq_true rfl⟩ (Nat.le_of_ble_eq_true rfl) dX7_team_13 (kX7_leastTeam G) hF (fun r2 σ3 hF => ?_)
    refine ww_goto cx dX7_team_16 (tgt := 21) rfl ?_
    exact ww_ris hE dX7_team_21 hF
theorem dX2_readNamed_0 : decode cX2_readNamed 0 = .ok (.aload_n 0, 1) := by decide +kernel
theorem dX2_readNamed_1 : decode cX2_readNamed 1 = .ok (.aload_n 1, 1) := by decide +kernel
theorem dX2_readNamed_2 : decode cX2_readNamed 2 = .ok (.invokevirtual 83, 3) := by decide +kernel
theorem dX2_readNamed_5 : decode cX2_readNamed 5 = .ok (.ifCond .eq 12, 3) := by decide +kernel
theorem dX2_readNamed_8 : decode cX2_readNamed 8 = .ok (.aload_n 0, 1) := by decide +kernel
theorem dX2_readNamed_9 : decode cX2_readNamed 9 = .ok (.iload_n 2, 1) := by decide +kernel
theorem dX2_readNamed_10 : decode cX2_readNamed 10 = .ok (.iload_n 3, 1) := by decide +kernel
theorem dX2_readNamed_11 : decode cX2_readNamed 11 = .ok (.invokevirtual 125, 3) := by decide +kernel
theorem dX2_readNamed_14 : decode cX2_readNamed 14 = .ok (.goto 4, 3) := by decide +kernel
theorem dX2_readNamed_17 : decode cX2_readNamed 17 = .ok (.iconst (-1), 1) := by decide +kernel
theorem dX2_readNamed_18 : decode cX2_readNamed 18 = .ok (.ireturn, 1) := by decide +kernel
set_option maxRecDepth 4000 in
theorem kX2_readNamed (G : GT) {σ : St} {w : Nat} {a2 : Int32} {a3 : Int32} (hw : w < 18) : ∀ (r : Int32) (σo : St) , fX2_readNamed σ w a2 a3 = some (r, σo) → MCt G 7 yX2_readNamed cX2_readNamed 4 (some .int) [.ref (gad G 1), .ref (gsk G w), .int a2, .int a3] σ (some (.int r)) σo := by
  intro r σo hF
  refine met_i (by decide) (Nat.le_of_ble_eq_true rfl) (fun X cx hE => ?_)
  have cx : Cx G X RX2 cX2_readNamed 4 7 := cx
  unfold fX2_readNamed at hF
  show WW G X 4 σ [(0, .ref (gad G 1)), (1, .ref (gsk G w)), (2, .int a2), (3, .int a3)] 0 []
  refine ww_aload_n cx dX2_readNamed_0 rfl 0 rfl ?_
  refine ww_aload_n cx dX2_readNamed_1 rfl 1 rfl ?_
  refine ww_V1_si kv_X2_83 rfl cx sh_1 ⟨Nat.le_of_ble_eq_true rfl, Nat.le_of_ble_eq_true rfl⟩ (Nat.le_of_ble_eq_true rfl) dX2_readNamed_2 (kX2_readWord G hw) hF (fun r1 σ2 hF => ?_)
  refine ww_if_eq cx dX2_readNamed_5 (tgt := 17) rfl hF (fun hF => ?_) (fun hF => ?_)
  · refine ww_iconst cx dX2_readNamed_17 ic_m1 ?_
    exact ww_ris hE dX2_readNamed_18 hF
  · refine ww_aload_n cx dX2_readNamed_8 rfl 0 rfl ?_
    refine ww_iload_n cx dX2_readNamed_9 rfl 2 rfl ?_
    refine ww_iload_n cx dX2_readNamed_10 rfl 3 rfl ?_
    refine ww_V2_si kv_X2_125 rfl cx sh_1 ⟨Nat.le_of_ble_eq_true rfl, Nat.le_of_ble_eq_true rfl⟩ (Nat.le_of_ble_eq_true rfl) dX2_readNamed_11 (kX2_readNumber G) hF (fun r3 σ4 hF => ?_)
    refine ww_goto cx dX2_readNamed_14 (tgt := 18) rfl ?_
    exact ww_ris hE dX2_readNamed_18 hF
theorem dX2_readStep_0 : decode cX2_readStep 0 = .ok (.aload_n 1, 1) := by decide +kernel
theorem dX2_readStep_1 : decode cX2_readStep 1 = .ok (.getfield 129, 3) := by decide +kernel
theorem dX2_readStep_4 : decode cX2_readStep 4 = .ok (.bipush 12, 2) := by decide +kernel
theorem dX2_readStep_6 : decode cX2_readStep 6 = .ok (.if_icmp .lt 9, 3) := by decide +kernel
theorem dX2_readStep_9 : decode cX2_readStep 9 = .ok (.aload_n 0, 1) := by decide +kernel
theorem dX2_readStep_10 : decode cX2_readStep 10 = .ok (.iconst 3, 1) := by decide +kernel
theorem dX2_readStep_11 : decode cX2_readStep 11 = .ok (.invokevirtual 77, 3) := by decide +kernel
theorem dX2_readStep_14 : decode cX2_readStep 14 = .ok (.ireturn, 1) := by decide +kernel
theorem dX2_readStep_15 : decode cX2_readStep 15 = .ok (.aload_n 0, 1) := by decide +kernel
theorem dX2_readStep_16 : decode cX2_readStep 16 = .ok (.invokevirtual 33, 3) := by decide +kernel
theorem dX2_readStep_19 : decode cX2_readStep 19 = .ok (.aload_n 0, 1) := by decide +kernel
theorem dX2_readStep_20 : decode cX2_readStep 20 = .ok (.iconst 0, 1) := by decide +kernel
theorem dX2_readStep_21 : decode cX2_readStep 21 = .ok (.aload_n 1, 1) := by decide +kernel
theorem dX2_readStep_22 : decode cX2_readStep 22 = .ok (.getfield 102, 3) := by decide +kernel
theorem dX2_readStep_25 : decode cX2_readStep 25 = .ok (.iconst 1, 1) := by decide +kernel
theorem dX2_readStep_26 : decode cX2_readStep 26 = .ok (.isub, 1) := by decide +kernel
theorem dX2_readStep_27 : decode cX2_readStep 27 = .ok (.invokevirtual 125, 3) := by decide +kernel
theorem dX2_readStep_30 : decode cX2_readStep 30 = .ok (.istore_n 2, 1) := by decide +kernel
theorem dX2_readStep_31 : decode cX2_readStep 31 = .ok (.iload_n 2, 1) := by decide +kernel
theorem dX2_readStep_32 : decode cX2_readStep 32 = .ok (.iconst (-1), 1) := by decide +kernel
theorem dX2_readStep_33 : decode cX2_readStep 33 = .ok (.if_icmp .eq 12, 3) := by decide +kernel
theorem dX2_readStep_36 : decode cX2_readStep 36 = .ok (.aload_n 0, 1) := by decide +kernel
theorem dX2_readStep_37 : decode cX2_readStep 37 = .ok (.ldc 132, 2) := by decide +kernel
theorem dX2_readStep_39 : decode cX2_readStep 39 = .ok (.invokevirtual 83, 3) := by decide +kernel
theorem dX2_readStep_42 : decode cX2_readStep 42 = .ok (.ifCond .ne 5, 3) := by decide +kernel
theorem dX2_readStep_45 : decode cX2_readStep 45 = .ok (.iconst 0, 1) := by decide +kernel
theorem dX2_readStep_46 : decode cX2_readStep 46 = .ok (.ireturn, 1) := by decide +kernel
theorem dX2_readStep_47 : decode cX2_readStep 47 = .ok (.aload_n 0, 1) := by decide +kernel
theorem dX2_readStep_48 : decode cX2_readStep 48 = .ok (.aload_n 1, 1) := by decide +kernel
theorem dX2_readStep_49 : decode cX2_readStep 49 = .ok (.getfield 102, 3) := by decide +kernel
theorem dX2_readStep_52 : decode cX2_readStep 52 = .ok (.iconst 3, 1) := by decide +kernel
theorem dX2_readStep_53 : decode cX2_readStep 53 = .ok (.invokevirtual 134, 3) := by decide +kernel
theorem dX2_readStep_56 : decode cX2_readStep 56 = .ok (.istore_n 3, 1) := by decide +kernel
theorem dX2_readStep_57 : decode cX2_readStep 57 = .ok (.iload_n 3, 1) := by decide +kernel
theorem dX2_readStep_58 : decode cX2_readStep 58 = .ok (.iconst (-1), 1) := by decide +kernel
theorem dX2_readStep_59 : decode cX2_readStep 59 = .ok (.if_icmp .ne 5, 3) := by decide +kernel
theorem dX2_readStep_62 : decode cX2_readStep 62 = .ok (.iconst 0, 1) := by decide +kernel
theorem dX2_readStep_63 : decode cX2_readStep 63 = .ok (.ireturn, 1) := by decide +kernel
theorem dX2_readStep_64 : decode cX2_readStep 64 = .ok (.aload_n 1, 1) := by decide +kernel
theorem dX2_readStep_65 : decode cX2_readStep 65 = .ok (.iload_n 2, 1) := by decide +kernel
theorem dX2_readStep_66 : decode cX2_readStep 66 = .ok (.iload_n 3, 1) := by decide +kernel
theorem dX2_readStep_67 : decode cX2_readStep 67 = .ok (.invokevirtual 137, 3) := by decide +kernel
theorem dX2_readStep_70 : decode cX2_readStep 70 = .ok (.iconst 1, 1) := by decide +kernel
theorem dX2_readStep_71 : decode cX2_readStep 71 = .ok (.ireturn, 1) := by decide +kernel
set_option maxRecDepth 4000 in
theorem kX2_readStep (G : GT) {σ : St} {t : Nat} (ht : isTab t) : ∀ (r : Int32) (σo : St) , fX2_readStep σ t = some (r, σo) → MCt G 7 yX2_readStep cX2_readStep 4 (some .boolean) [.ref (gad G 1), .ref (gad G t)] σ (some (.int r)) σo := by
  intro r σo hF
  refine met_zz (by decide) (Nat.le_of_ble_eq_true rfl) (fun X cx hE => ?_)
  have cx : Cx G X RX2 cX2_readStep 4 7 := cx
  unfold fX2_readStep at hF
  show WW G X 4 σ [(0, .ref (gad G 1)), (1, .ref (gad G t))] 0 []
  refine ww_aload_n cx dX2_readStep_0 rfl 1 rfl ?_
  refine gf_X2_129 cx (ht) dX2_readStep_1 ?_
  refine ww_bipush cx dX2_readStep_4 bc_12 ?_
  refine ww_icmp_lt cx dX2_readStep_6 (tgt := 15) rfl hF (fun hF => ?_) (fun hF => ?_)
  · refine ww_aload_n cx dX2_readStep_15 rfl 0 rfl ?_
    refine ww_V0_sv kv_X2_33 rfl cx sh_1 ⟨Nat.le_of_ble_eq_true rfl, Nat.le_of_ble_eq_true rfl⟩ (Nat.le_of_ble_eq_true rfl) dX2_readStep_16 (kX2_advance G) hF (fun σ1 hF => ?_)
    refine ww_aload_n cx dX2_readStep_19 rfl 0 rfl ?_
    refine ww_iconst cx dX2_readStep_20 ic_0 ?_
    refine ww_aload_n cx dX2_readStep_21 rfl 1 rfl ?_
    refine gf_X2_102 cx (ht) dX2_readStep_22 ?_
    refine ww_iconst cx dX2_readStep_25 ic_1 ?_
    refine ww_isub cx dX2_readStep_26 ?_
    refine ww_V2_si kv_X2_125 rfl cx sh_1 ⟨Nat.le_of_ble_eq_true rfl, Nat.le_of_ble_eq_true rfl⟩ (Nat.le_of_ble_eq_true rfl) dX2_readStep_27 (kX2_readNumber G) hF (fun r2 σ3 hF => ?_)
    refine ww_istore_n (ks := [0, 1, 2]) (lv' := fun v4 => [(2, .int v4), (0, .ref (gad G 1)), (1, .ref (gad G t))]) cx dX2_readStep_30 rfl (by decide) hF (fun _ => rfl) (fun v4 hF => ?_)
    refine ww_iload_n cx dX2_readStep_31 rfl 0 rfl ?_
    refine ww_iconst cx dX2_readStep_32 ic_m1 ?_
    refine ww_icmp_eq cx dX2_readStep_33 (tgt := 45) rfl hF (fun hF => ?_) (fun hF => ?_)
    · refine ww_iconst cx dX2_readStep_45 ic_0 ?_
      exact ww_rzs hE dX2_readStep_46 hF
    · refine ww_aload_n cx dX2_readStep_36 rfl 1 rfl ?_
      refine ww_ldcS (w := 14) (tx := "from") cx (by decide +kernel) dX2_readStep_37 ?_
      refine ww_V1_si kv_X2_83 rfl cx sh_1 ⟨Nat.le_of_ble_eq_true rfl, Nat.le_of_ble_eq_true rfl⟩ (Nat.le_of_ble_eq_true rfl) dX2_readStep_39 (kX2_readWord G (by decide)) hF (fun r5 σ6 hF => ?_)
      refine ww_if_ne cx dX2_readStep_42 (tgt := 47) rfl hF (fun hF => ?_) (fun hF => ?_)
      · refine ww_aload_n cx dX2_readStep_47 rfl 1 rfl ?_
        refine ww_aload_n cx dX2_readStep_48 rfl 2 rfl ?_
        refine gf_X2_102 cx (ht) dX2_readStep_49 ?_
        refine ww_iconst cx dX2_readStep_52 ic_3 ?_
        refine ww_V2_si kv_X2_134 rfl cx sh_1 ⟨Nat.le_of_ble_eq_true rfl, Nat.le_of_ble_eq_true rfl⟩ (Nat.le_of_ble_eq_true rfl) dX2_readStep_53 (kX2_readSet G) hF (fun r7 σ8 hF => ?_)
        refine ww_istore_n (ks := [0, 1, 3]) (lv' := fun v9 => [(3, .int v9), (2, .int v4), (1, .ref (gad G t))]) cx dX2_readStep_56 rfl (by decide) hF (fun _ => rfl) (fun v9 hF => ?_)
        refine ww_iload_n cx dX2_readStep_57 rfl 0 rfl ?_
        refine ww_iconst cx dX2_readStep_58 ic_m1 ?_
        refine ww_icmp_ne cx dX2_readStep_59 (tgt := 64) rfl hF (fun hF => ?_) (fun hF => ?_)
        · refine ww_aload_n cx dX2_readStep_64 rfl 2 rfl ?_
          refine ww_iload_n cx dX2_readStep_65 rfl 1 rfl ?_
          refine ww_iload_n cx dX2_readStep_66 rfl 0 rfl ?_
          refine ww_V2_sv kv_X2_137 rfl cx ((ht).1) ⟨Nat.le_of_ble_eq_true rfl, Nat.le_of_ble_eq_true rfl⟩ (Nat.le_of_ble_eq_true rfl) dX2_readStep_67 (kX6_addStep G (ht)) hF (fun σ10 hF => ?_)
          refine ww_iconst cx dX2_readStep_70 ic_1 ?_
          exact ww_rzs hE dX2_readStep_71 hF
        · refine ww_iconst cx dX2_readStep_62 ic_0 ?_
          exact ww_rzs hE dX2_readStep_63 hF
      · refine ww_iconst cx dX2_readStep_45 ic_0 ?_
        exact ww_rzs hE dX2_readStep_46 hF
  · refine ww_aload_n cx dX2_readStep_9 rfl 0 rfl ?_
    refine ww_iconst cx dX2_readStep_10 ic_3 ?_
    refine ww_V1_si kv_X2_77 rfl cx sh_1 ⟨Nat.le_of_ble_eq_true rfl, Nat.le_of_ble_eq_true rfl⟩ (Nat.le_of_ble_eq_true rfl) dX2_readStep_11 (kX2_fail G) hF (fun r11 σ12 hF => ?_)
    exact ww_rzs hE dX2_readStep_14 hF
theorem dX8_ask_0 : decode cX8_ask 0 = .ok (.aload_n 0, 1) := by decide +kernel
theorem dX8_ask_1 : decode cX8_ask 1 = .ok (.invokevirtual 291, 3) := by decide +kernel
theorem dX8_ask_4 : decode cX8_ask 4 = .ok (.ifCond .eq 10, 3) := by decide +kernel
theorem dX8_ask_7 : decode cX8_ask 7 = .ok (.aload_n 0, 1) := by decide +kernel
theorem dX8_ask_8 : decode cX8_ask 8 = .ok (.invokevirtual 433, 3) := by decide +kernel
theorem dX8_ask_11 : decode cX8_ask 11 = .ok (.goto 5, 3) := by decide +kernel
theorem dX8_ask_14 : decode cX8_ask 14 = .ok (.bipush (-2), 2) := by decide +kernel
theorem dX8_ask_16 : decode cX8_ask 16 = .ok (.ireturn, 1) := by decide +kernel
set_option maxRecDepth 4000 in
theorem kX8_ask (G : GT) {σ : St} : ∀ (r : Int32) , fX8_ask σ = some r → MCt G 7 yX8_ask cX8_ask 1 (some .int) [.ref (gad G 62)] σ (some (.int r)) σ := by
  intro r hF
  refine met_i (by decide) (Nat.le_of_ble_eq_true rfl) (fun X cx hE => ?_)
  have cx : Cx G X RX8 cX8_ask 1 7 := cx
  unfold fX8_ask at hF
  show WW G X 1 σ [(0, .ref (gad G 62))] 0 []
  refine ww_aload_n cx dX8_ask_0 rfl 0 rfl ?_
  refine ww_V0_pi kv_X8_291 rfl cx sh_62 ⟨Nat.le_of_ble_eq_true rfl, Nat.le_of_ble_eq_true rfl⟩ (Nat.le_of_ble_eq_true rfl) dX8_ask_1 (kX8_isTable G) hF (fun r1 hF => ?_)
  refine ww_if_eq cx dX8_ask_4 (tgt := 14) rfl hF (fun hF => ?_) (fun hF => ?_)
  · refine ww_bipush cx dX8_ask_14 bc_m2 ?_
    exact ww_rip hE dX8_ask_16 hF
  · refine ww_aload_n cx dX8_ask_7 rfl 0 rfl ?_
    refine ww_V0_pi kv_X8_433 rfl cx sh_62 ⟨Nat.le_of_ble_eq_true rfl, Nat.le_of_ble_eq_true rfl⟩ (Nat.le_of_ble_eq_true rfl) dX8_ask_8 (kX8_askOf G) hF (fun r2 hF => ?_)
    refine ww_goto cx dX8_ask_11 (tgt := 16) rfl ?_
    exact ww_rip hE dX8_ask_16 hF
theorem dX8_brings_0 : decode cX8_brings 0 = .ok (.aload_n 0, 1) := by decide +kernel
theorem dX8_brings_1 : decode cX8_brings 1 = .ok (.iload_n 1, 1) := by decide +kernel
theorem dX8_brings_2 : decode cX8_brings 2 = .ok (.i2l, 1) := by decide +kernel
theorem dX8_brings_3 : decode cX8_brings 3 = .ok (.invokevirtual 285, 3) := by decide +kernel
theorem dX8_brings_6 : decode cX8_brings 6 = .ok (.ifCond .ne 6, 3) := by decide +kernel
theorem dX8_brings_9 : decode cX8_brings 9 = .ok (.bipush (-2), 2) := by decide +kernel
theorem dX8_brings_11 : decode cX8_brings 11 = .ok (.ireturn, 1) := by decide +kernel
theorem dX8_brings_12 : decode cX8_brings 12 = .ok (.aload_n 0, 1) := by decide +kernel
theorem dX8_brings_13 : decode cX8_brings 13 = .ok (.iload_n 1, 1) := by decide +kernel
theorem dX8_brings_14 : decode cX8_brings 14 = .ok (.invokevirtual 381, 3) := by decide +kernel
theorem dX8_brings_17 : decode cX8_brings 17 = .ok (.istore_n 2, 1) := by decide +kernel
theorem dX8_brings_18 : decode cX8_brings 18 = .ok (.iload_n 2, 1) := by decide +kernel
theorem dX8_brings_19 : decode cX8_brings 19 = .ok (.iconst (-1), 1) := by decide +kernel
theorem dX8_brings_20 : decode cX8_brings 20 = .ok (.if_icmp .ne 7, 3) := by decide +kernel
theorem dX8_brings_23 : decode cX8_brings 23 = .ok (.iconst 0, 1) := by decide +kernel
theorem dX8_brings_24 : decode cX8_brings 24 = .ok (.goto 32, 3) := by decide +kernel
theorem dX8_brings_27 : decode cX8_brings 27 = .ok (.aload_n 0, 1) := by decide +kernel
theorem dX8_brings_28 : decode cX8_brings 28 = .ok (.aload_n 0, 1) := by decide +kernel
theorem dX8_brings_29 : decode cX8_brings 29 = .ok (.invokevirtual 257, 3) := by decide +kernel
theorem dX8_brings_32 : decode cX8_brings 32 = .ok (.iconst 1, 1) := by decide +kernel
theorem dX8_brings_33 : decode cX8_brings 33 = .ok (.iload_n 2, 1) := by decide +kernel
theorem dX8_brings_34 : decode cX8_brings 34 = .ok (.ishl, 1) := by decide +kernel
theorem dX8_brings_35 : decode cX8_brings 35 = .ok (.ior, 1) := by decide +kernel
theorem dX8_brings_36 : decode cX8_brings 36 = .ok (.aload_n 0, 1) := by decide +kernel
theorem dX8_brings_37 : decode cX8_brings 37 = .ok (.iload_n 1, 1) := by decide +kernel
theorem dX8_brings_38 : decode cX8_brings 38 = .ok (.iconst 1, 1) := by decide +kernel
theorem dX8_brings_39 : decode cX8_brings 39 = .ok (.invokevirtual 282, 3) := by decide +kernel
theorem dX8_brings_42 : decode cX8_brings 42 = .ok (.aload_n 0, 1) := by decide +kernel
theorem dX8_brings_43 : decode cX8_brings 43 = .ok (.iload_n 1, 1) := by decide +kernel
theorem dX8_brings_44 : decode cX8_brings 44 = .ok (.invokevirtual 288, 3) := by decide +kernel
theorem dX8_brings_47 : decode cX8_brings 47 = .ok (.invokevirtual 357, 3) := by decide +kernel
theorem dX8_brings_50 : decode cX8_brings 50 = .ok (.aload_n 0, 1) := by decide +kernel
theorem dX8_brings_51 : decode cX8_brings 51 = .ok (.iload_n 1, 1) := by decide +kernel
theorem dX8_brings_52 : decode cX8_brings 52 = .ok (.invokevirtual 360, 3) := by decide +kernel
theorem dX8_brings_55 : decode cX8_brings 55 = .ok (.isub, 1) := by decide +kernel
theorem dX8_brings_56 : decode cX8_brings 56 = .ok (.ireturn, 1) := by decide +kernel
set_option maxRecDepth 4000 in
theorem kX8_brings (G : GT) {σ : St} {a1 : Int32} : ∀ (r : Int32) (σo : St) , fX8_brings σ a1 = some (r, σo) → MCt G 7 yX8_brings cX8_brings 3 (some .int) [.ref (gad G 62), .int a1] σ (some (.int r)) σo := by
  intro r σo hF
  refine met_i (by decide) (Nat.le_of_ble_eq_true rfl) (fun X cx hE => ?_)
  have cx : Cx G X RX8 cX8_brings 3 7 := cx
  unfold fX8_brings at hF
  show WW G X 3 σ [(0, .ref (gad G 62)), (1, .int a1)] 0 []
  refine ww_aload_n cx dX8_brings_0 rfl 0 rfl ?_
  refine ww_iload_n cx dX8_brings_1 rfl 1 rfl ?_
  refine ww_i2l cx dX8_brings_2 ?_
  refine ww_V1_pi kv_X8_285 rfl cx sh_62 ⟨Nat.le_of_ble_eq_true rfl, Nat.le_of_ble_eq_true rfl⟩ (Nat.le_of_ble_eq_true rfl) dX8_brings_3 (kX8_isGuest G) hF (fun r1 hF => ?_)
  refine ww_if_ne cx dX8_brings_6 (tgt := 12) rfl hF (fun hF => ?_) (fun hF => ?_)
  · refine ww_aload_n cx dX8_brings_12 rfl 0 rfl ?_
    refine ww_iload_n cx dX8_brings_13 rfl 1 rfl ?_
    refine ww_V1_si kv_X8_381 rfl cx sh_62 ⟨Nat.le_of_ble_eq_true rfl, Nat.le_of_ble_eq_true rfl⟩ (Nat.le_of_ble_eq_true rfl) dX8_brings_14 (kX8_lemmaOf G) hF (fun r2 σ3 hF => ?_)
    refine ww_istore_n (ks := [0, 1, 2]) (lv' := fun v4 => [(2, .int v4), (0, .ref (gad G 62)), (1, .int a1)]) cx dX8_brings_17 rfl (by decide) hF (fun _ => rfl) (fun v4 hF => ?_)
    refine ww_iload_n cx dX8_brings_18 rfl 0 rfl ?_
    refine ww_iconst cx dX8_brings_19 ic_m1 ?_
    refine ww_icmp_ne cx dX8_brings_20 (tgt := 27) rfl hF (fun hF => ?_) (fun hF => ?_)
    · refine ww_aload_n cx dX8_brings_27 rfl 1 rfl ?_
      refine ww_aload_n cx dX8_brings_28 rfl 1 rfl ?_
      refine ww_V0_pi kv_X8_257 rfl cx sh_62 ⟨Nat.le_of_ble_eq_true rfl, Nat.le_of_ble_eq_true rfl⟩ (Nat.le_of_ble_eq_true rfl) dX8_brings_29 (kX8_saltNow G) hF (fun r5 hF => ?_)
      refine ww_iconst cx dX8_brings_32 ic_1 ?_
      refine ww_iload_n cx dX8_brings_33 rfl 0 rfl ?_
      refine ww_ishl cx dX8_brings_34 ?_
      refine ww_ior cx dX8_brings_35 ?_
      refine ww_aload_n cx dX8_brings_36 rfl 1 rfl ?_
      refine ww_iload_n cx dX8_brings_37 rfl 2 rfl ?_
      refine ww_iconst cx dX8_brings_38 ic_1 ?_
      refine ww_V2_pi kv_X8_282 rfl cx sh_62 ⟨Nat.le_of_ble_eq_true rfl, Nat.le_of_ble_eq_true rfl⟩ (Nat.le_of_ble_eq_true rfl) dX8_brings_39 (kX8_ofGuest G) hF (fun r6 hF => ?_)
      refine ww_aload_n cx dX8_brings_42 rfl 1 rfl ?_
      refine ww_iload_n cx dX8_brings_43 rfl 2 rfl ?_
      refine ww_V1_pi kv_X8_288 rfl cx sh_62 ⟨Nat.le_of_ble_eq_true rfl, Nat.le_of_ble_eq_true rfl⟩ (Nat.le_of_ble_eq_true rfl) dX8_brings_44 (kX8_canDo G) hF (fun r7 hF => ?_)
      refine ww_V3_si kv_X8_357 rfl cx sh_62 ⟨Nat.le_of_ble_eq_true rfl, Nat.le_of_ble_eq_true rfl⟩ (Nat.le_of_ble_eq_true rfl) dX8_brings_47 (kX8_mostBy G) hF (fun r8 σ9 hF => ?_)
      refine ww_aload_n cx dX8_brings_50 rfl 1 rfl ?_
      refine ww_iload_n cx dX8_brings_51 rfl 2 rfl ?_
      refine ww_V1_si kv_X8_360 rfl cx sh_62 ⟨Nat.le_of_ble_eq_true rfl, Nat.le_of_ble_eq_true rfl⟩ (Nat.le_of_ble_eq_true rfl) dX8_brings_52 (kX8_menuOf G) hF (fun r10 σ11 hF => ?_)
      refine ww_isub cx dX8_brings_55 ?_
      exact ww_ris hE dX8_brings_56 hF
    · refine ww_iconst cx dX8_brings_23 ic_0 ?_
      refine ww_goto cx dX8_brings_24 (tgt := 56) rfl ?_
      exact ww_ris hE dX8_brings_56 hF
  · refine ww_bipush cx dX8_brings_9 bc_m2 ?_
    exact ww_ris hE dX8_brings_11 hF
theorem dX8_covered_0 : decode cX8_covered 0 = .ok (.aload_n 0, 1) := by decide +kernel
theorem dX8_covered_1 : decode cX8_covered 1 = .ok (.invokevirtual 291, 3) := by decide +kernel
theorem dX8_covered_4 : decode cX8_covered 4 = .ok (.ifCond .eq 17, 3) := by decide +kernel
theorem dX8_covered_7 : decode cX8_covered 7 = .ok (.aload_n 0, 1) := by decide +kernel
theorem dX8_covered_8 : decode cX8_covered 8 = .ok (.invokevirtual 313, 3) := by decide +kernel
theorem dX8_covered_11 : decode cX8_covered 11 = .ok (.aload_n 0, 1) := by decide +kernel
theorem dX8_covered_12 : decode cX8_covered 12 = .ok (.invokevirtual 310, 3) := by decide +kernel
theorem dX8_covered_15 : decode cX8_covered 15 = .ok (.iconst (-1), 1) := by decide +kernel
theorem dX8_covered_16 : decode cX8_covered 16 = .ok (.ixor, 1) := by decide +kernel
theorem dX8_covered_17 : decode cX8_covered 17 = .ok (.iand, 1) := by decide +kernel
theorem dX8_covered_18 : decode cX8_covered 18 = .ok (.goto 5, 3) := by decide +kernel
theorem dX8_covered_21 : decode cX8_covered 21 = .ok (.bipush (-2), 2) := by decide +kernel
theorem dX8_covered_23 : decode cX8_covered 23 = .ok (.ireturn, 1) := by decide +kernel
set_option maxRecDepth 4000 in
theorem kX8_covered (G : GT) {σ : St} : ∀ (r : Int32) , fX8_covered σ = some r → MCt G 7 yX8_covered cX8_covered 1 (some .int) [.ref (gad G 62)] σ (some (.int r)) σ := by
  intro r hF
  refine met_i (by decide) (Nat.le_of_ble_eq_true rfl) (fun X cx hE => ?_)
  have cx : Cx G X RX8 cX8_covered 1 7 := cx
  unfold fX8_covered at hF
  show WW G X 1 σ [(0, .ref (gad G 62))] 0 []
  refine ww_aload_n cx dX8_covered_0 rfl 0 rfl ?_
  refine ww_V0_pi kv_X8_291 rfl cx sh_62 ⟨Nat.le_of_ble_eq_true rfl, Nat.le_of_ble_eq_true rfl⟩ (Nat.le_of_ble_eq_true rfl) dX8_covered_1 (kX8_isTable G) hF (fun r1 hF => ?_)
  refine ww_if_eq cx dX8_covered_4 (tgt := 21) rfl hF (fun hF => ?_) (fun hF => ?_)
  · refine ww_bipush cx dX8_covered_21 bc_m2 ?_
    exact ww_rip hE dX8_covered_23 hF
  · refine ww_aload_n cx dX8_covered_7 rfl 0 rfl ?_
    refine ww_V0_pi kv_X8_313 rfl cx sh_62 ⟨Nat.le_of_ble_eq_true rfl, Nat.le_of_ble_eq_true rfl⟩ (Nat.le_of_ble_eq_true rfl) dX8_covered_8 (kX8_following G) hF (fun r2 hF => ?_)
    refine ww_aload_n cx dX8_covered_11 rfl 0 rfl ?_
    refine ww_V0_pi kv_X8_310 rfl cx sh_62 ⟨Nat.le_of_ble_eq_true rfl, Nat.le_of_ble_eq_true rfl⟩ (Nat.le_of_ble_eq_true rfl) dX8_covered_12 (kX8_provedNow G) hF (fun r3 hF => ?_)
    refine ww_iconst cx dX8_covered_15 ic_m1 ?_
    refine ww_ixor cx dX8_covered_16 ?_
    refine ww_iand cx dX8_covered_17 ?_
    refine ww_goto cx dX8_covered_18 (tgt := 23) rfl ?_
    exact ww_rip hE dX8_covered_23 hF
theorem dX8_fewest_0 : decode cX8_fewest 0 = .ok (.aload_n 0, 1) := by decide +kernel
theorem dX8_fewest_1 : decode cX8_fewest 1 = .ok (.iload_n 1, 1) := by decide +kernel
theorem dX8_fewest_2 : decode cX8_fewest 2 = .ok (.i2l, 1) := by decide +kernel
theorem dX8_fewest_3 : decode cX8_fewest 3 = .ok (.invokevirtual 269, 3) := by decide +kernel
theorem dX8_fewest_6 : decode cX8_fewest 6 = .ok (.ifCond .ne 6, 3) := by decide +kernel
theorem dX8_fewest_9 : decode cX8_fewest 9 = .ok (.bipush (-2), 2) := by decide +kernel
theorem dX8_fewest_11 : decode cX8_fewest 11 = .ok (.ireturn, 1) := by decide +kernel
theorem dX8_fewest_12 : decode cX8_fewest 12 = .ok (.aload_n 0, 1) := by decide +kernel
theorem dX8_fewest_13 : decode cX8_fewest 13 = .ok (.iload_n 1, 1) := by decide +kernel
theorem dX8_fewest_14 : decode cX8_fewest 14 = .ok (.invokevirtual 390, 3) := by decide +kernel
theorem dX8_fewest_17 : decode cX8_fewest 17 = .ok (.istore_n 2, 1) := by decide +kernel
theorem dX8_fewest_18 : decode cX8_fewest 18 = .ok (.iload_n 2, 1) := by decide +kernel
theorem dX8_fewest_19 : decode cX8_fewest 19 = .ok (.iconst (-1), 1) := by decide +kernel
theorem dX8_fewest_20 : decode cX8_fewest 20 = .ok (.if_icmp .ne 7, 3) := by decide +kernel
theorem dX8_fewest_23 : decode cX8_fewest 23 = .ok (.iconst (-1), 1) := by decide +kernel
theorem dX8_fewest_24 : decode cX8_fewest 24 = .ok (.goto 7, 3) := by decide +kernel
theorem dX8_fewest_27 : decode cX8_fewest 27 = .ok (.iload_n 2, 1) := by decide +kernel
theorem dX8_fewest_28 : decode cX8_fewest 28 = .ok (.invokestatic 273, 3) := by decide +kernel
theorem dX8_fewest_31 : decode cX8_fewest 31 = .ok (.ireturn, 1) := by decide +kernel
set_option maxRecDepth 4000 in
theorem kX8_fewest (G : GT) {σ : St} {a1 : Int32} : ∀ (r : Int32) , fX8_fewest σ a1 = some r → MCt G 7 yX8_fewest cX8_fewest 3 (some .int) [.ref (gad G 62), .int a1] σ (some (.int r)) σ := by
  intro r hF
  refine met_i (by decide) (Nat.le_of_ble_eq_true rfl) (fun X cx hE => ?_)
  have cx : Cx G X RX8 cX8_fewest 3 7 := cx
  unfold fX8_fewest at hF
  show WW G X 3 σ [(0, .ref (gad G 62)), (1, .int a1)] 0 []
  refine ww_aload_n cx dX8_fewest_0 rfl 0 rfl ?_
  refine ww_iload_n cx dX8_fewest_1 rfl 1 rfl ?_
  refine ww_i2l cx dX8_fewest_2 ?_
  refine ww_V1_pi kv_X8_269 rfl cx sh_62 ⟨Nat.le_of_ble_eq_true rfl, Nat.le_of_ble_eq_true rfl⟩ (Nat.le_of_ble_eq_true rfl) dX8_fewest_3 (kX8_isClaim G) hF (fun r1 hF => ?_)
  refine ww_if_ne cx dX8_fewest_6 (tgt := 12) rfl hF (fun hF => ?_) (fun hF => ?_)
  · refine ww_aload_n cx dX8_fewest_12 rfl 0 rfl ?_
    refine ww_iload_n cx dX8_fewest_13 rfl 1 rfl ?_
    refine ww_V1_pi kv_X8_390 rfl cx sh_62 ⟨Nat.le_of_ble_eq_true rfl, Nat.le_of_ble_eq_true rfl⟩ (Nat.le_of_ble_eq_true rfl) dX8_fewest_14 (kX8_teamOf G) hF (fun r2 hF => ?_)
    refine ww_istore_n (ks := [0]) (lv' := fun v3 => [(2, .int v3)]) cx dX8_fewest_17 rfl (by decide) hF (fun _ => rfl) (fun v3 hF => ?_)
    refine ww_iload_n cx dX8_fewest_18 rfl 0 rfl ?_
    refine ww_iconst cx dX8_fewest_19 ic_m1 ?_
    refine ww_icmp_ne cx dX8_fewest_20 (tgt := 27) rfl hF (fun hF => ?_) (fun hF => ?_)
    · refine ww_iload_n cx dX8_fewest_27 rfl 0 rfl ?_
      refine ww_S1_pi kv_X8_273 cx ⟨Nat.le_of_ble_eq_true rfl, Nat.le_of_ble_eq_true rfl⟩ (Nat.le_of_ble_eq_true rfl) dX8_fewest_28 (kX8_bits G) hF (fun r4 hF => ?_)
      exact ww_rip hE dX8_fewest_31 hF
    · refine ww_iconst cx dX8_fewest_23 ic_m1 ?_
      refine ww_goto cx dX8_fewest_24 (tgt := 31) rfl ?_
      exact ww_rip hE dX8_fewest_31 hF
  · refine ww_bipush cx dX8_fewest_9 bc_m2 ?_
    exact ww_rip hE dX8_fewest_11 hF
theorem dX8_form_0 : decode cX8_form 0 = .ok (.iconst 0, 1) := by decide +kernel
theorem dX8_form_1 : decode cX8_form 1 = .ok (.istore_n 1, 1) := by decide +kernel
theorem dX8_form_2 : decode cX8_form 2 = .ok (.aload_n 0, 1) := by decide +kernel
theorem dX8_form_3 : decode cX8_form 3 = .ok (.invokevirtual 134, 3) := by decide +kernel
theorem dX8_form_6 : decode cX8_form 6 = .ok (.ifCond .eq 168, 3) := by decide +kernel
theorem dX8_form_9 : decode cX8_form 9 = .ok (.aload_n 0, 1) := by decide +kernel
theorem dX8_form_10 : decode cX8_form 10 = .ok (.invokevirtual 192, 3) := by decide +kernel
theorem dX8_form_13 : decode cX8_form 13 = .ok (.istore_n 2, 1) := by decide +kernel
theorem dX8_form_14 : decode cX8_form 14 = .ok (.iload_n 2, 1) := by decide +kernel
theorem dX8_form_15 : decode cX8_form 15 = .ok (.iconst 5, 1) := by decide +kernel
theorem dX8_form_16 : decode cX8_form 16 = .ok (.if_icmp .ne 8, 3) := by decide +kernel
theorem dX8_form_19 : decode cX8_form 19 = .ok (.aload_n 0, 1) := by decide +kernel
theorem dX8_form_20 : decode cX8_form 20 = .ok (.iconst 1, 1) := by decide +kernel
theorem dX8_form_21 : decode cX8_form 21 = .ok (.invokevirtual 157, 3) := by decide +kernel
theorem dX8_form_24 : decode cX8_form 24 = .ok (.iload_n 1, 1) := by decide +kernel
theorem dX8_form_25 : decode cX8_form 25 = .ok (.bipush 8, 2) := by decide +kernel
theorem dX8_form_27 : decode cX8_form 27 = .ok (.if_icmp .ne 8, 3) := by decide +kernel
theorem dX8_form_30 : decode cX8_form 30 = .ok (.aload_n 0, 1) := by decide +kernel
theorem dX8_form_31 : decode cX8_form 31 = .ok (.iconst 3, 1) := by decide +kernel
theorem dX8_form_32 : decode cX8_form 32 = .ok (.invokevirtual 157, 3) := by decide +kernel
theorem dX8_form_35 : decode cX8_form 35 = .ok (.aload_n 0, 1) := by decide +kernel
theorem dX8_form_36 : decode cX8_form 36 = .ok (.invokevirtual 134, 3) := by decide +kernel
theorem dX8_form_39 : decode cX8_form 39 = .ok (.ifCond .ne 5, 3) := by decide +kernel
theorem dX8_form_42 : decode cX8_form 42 = .ok (.iconst 0, 1) := by decide +kernel
theorem dX8_form_43 : decode cX8_form 43 = .ok (.ireturn, 1) := by decide +kernel
theorem dX8_form_44 : decode cX8_form 44 = .ok (.aload_n 0, 1) := by decide +kernel
theorem dX8_form_45 : decode cX8_form 45 = .ok (.invokevirtual 151, 3) := by decide +kernel
theorem dX8_form_48 : decode cX8_form 48 = .ok (.iload_n 2, 1) := by decide +kernel
theorem dX8_form_49 : decode cX8_form 49 = .ok (.iconst 4, 1) := by decide +kernel
theorem dX8_form_50 : decode cX8_form 50 = .ok (.if_icmp .eq 32, 3) := by decide +kernel
theorem dX8_form_53 : decode cX8_form 53 = .ok (.aload_n 0, 1) := by decide +kernel
theorem dX8_form_54 : decode cX8_form 54 = .ok (.getfield 34, 3) := by decide +kernel
theorem dX8_form_57 : decode cX8_form 57 = .ok (.iload_n 1, 1) := by decide +kernel
theorem dX8_form_58 : decode cX8_form 58 = .ok (.iload_n 2, 1) := by decide +kernel
theorem dX8_form_59 : decode cX8_form 59 = .ok (.iastore, 1) := by decide +kernel
theorem dX8_form_60 : decode cX8_form 60 = .ok (.aload_n 0, 1) := by decide +kernel
theorem dX8_form_61 : decode cX8_form 61 = .ok (.getfield 37, 3) := by decide +kernel
theorem dX8_form_64 : decode cX8_form 64 = .ok (.iload_n 1, 1) := by decide +kernel
theorem dX8_form_65 : decode cX8_form 65 = .ok (.iload_n 2, 1) := by decide +kernel
theorem dX8_form_66 : decode cX8_form 66 = .ok (.iconst 3, 1) := by decide +kernel
theorem dX8_form_67 : decode cX8_form 67 = .ok (.if_icmp .ne 7, 3) := by decide +kernel
theorem dX8_form_70 : decode cX8_form 70 = .ok (.iconst 1, 1) := by decide +kernel
theorem dX8_form_71 : decode cX8_form 71 = .ok (.goto 4, 3) := by decide +kernel
theorem dX8_form_74 : decode cX8_form 74 = .ok (.iconst 0, 1) := by decide +kernel
theorem dX8_form_75 : decode cX8_form 75 = .ok (.bastore, 1) := by decide +kernel
theorem dX8_form_76 : decode cX8_form 76 = .ok (.iinc 1 1, 3) := by decide +kernel
theorem dX8_form_79 : decode cX8_form 79 = .ok (.goto (-77), 3) := by decide +kernel
theorem dX8_form_82 : decode cX8_form 82 = .ok (.aload_n 0, 1) := by decide +kernel
theorem dX8_form_83 : decode cX8_form 83 = .ok (.getfield 186, 3) := by decide +kernel
theorem dX8_form_86 : decode cX8_form 86 = .ok (.istore_n 3, 1) := by decide +kernel
theorem dX8_form_87 : decode cX8_form 87 = .ok (.iload_n 1, 1) := by decide +kernel
theorem dX8_form_88 : decode cX8_form 88 = .ok (.ifCond .le 59, 3) := by decide +kernel
theorem dX8_form_91 : decode cX8_form 91 = .ok (.aload_n 0, 1) := by decide +kernel
theorem dX8_form_92 : decode cX8_form 92 = .ok (.getfield 37, 3) := by decide +kernel
theorem dX8_form_95 : decode cX8_form 95 = .ok (.iload_n 1, 1) := by decide +kernel
theorem dX8_form_96 : decode cX8_form 96 = .ok (.iconst 1, 1) := by decide +kernel
theorem dX8_form_97 : decode cX8_form 97 = .ok (.isub, 1) := by decide +kernel
theorem dX8_form_98 : decode cX8_form 98 = .ok (.baload, 1) := by decide +kernel
theorem dX8_form_99 : decode cX8_form 99 = .ok (.ifCond .eq 48, 3) := by decide +kernel
theorem dX8_form_102 : decode cX8_form 102 = .ok (.iinc 1 (-1), 3) := by decide +kernel
theorem dX8_form_105 : decode cX8_form 105 = .ok (.aload_n 0, 1) := by decide +kernel
theorem dX8_form_106 : decode cX8_form 106 = .ok (.getfield 34, 3) := by decide +kernel
theorem dX8_form_109 : decode cX8_form 109 = .ok (.iload_n 1, 1) := by decide +kernel
theorem dX8_form_110 : decode cX8_form 110 = .ok (.iaload, 1) := by decide +kernel
theorem dX8_form_111 : decode cX8_form 111 = .ok (.iconst 3, 1) := by decide +kernel
theorem dX8_form_112 : decode cX8_form 112 = .ok (.if_icmp .ne 14, 3) := by decide +kernel
theorem dX8_form_115 : decode cX8_form 115 = .ok (.iload_n 3, 1) := by decide +kernel
theorem dX8_form_116 : decode cX8_form 116 = .ok (.iconst (-1), 1) := by decide +kernel
theorem dX8_form_117 : decode cX8_form 117 = .ok (.ixor, 1) := by decide +kernel
theorem dX8_form_118 : decode cX8_form 118 = .ok (.aload_n 0, 1) := by decide +kernel
theorem dX8_form_119 : decode cX8_form 119 = .ok (.invokevirtual 181, 3) := by decide +kernel
theorem dX8_form_122 : decode cX8_form 122 = .ok (.iand, 1) := by decide +kernel
theorem dX8_form_123 : decode cX8_form 123 = .ok (.goto 20, 3) := by decide +kernel
theorem dX8_form_126 : decode cX8_form 126 = .ok (.aload_n 0, 1) := by decide +kernel
theorem dX8_form_127 : decode cX8_form 127 = .ok (.aload_n 0, 1) := by decide +kernel
theorem dX8_form_128 : decode cX8_form 128 = .ok (.getfield 34, 3) := by decide +kernel
theorem dX8_form_131 : decode cX8_form 131 = .ok (.iload_n 1, 1) := by decide +kernel
theorem dX8_form_132 : decode cX8_form 132 = .ok (.iaload, 1) := by decide +kernel
theorem dX8_form_133 : decode cX8_form 133 = .ok (.aload_n 0, 1) := by decide +kernel
theorem dX8_form_134 : decode cX8_form 134 = .ok (.getfield 40, 3) := by decide +kernel
theorem dX8_form_137 : decode cX8_form 137 = .ok (.iload_n 1, 1) := by decide +kernel
theorem dX8_form_138 : decode cX8_form 138 = .ok (.iaload, 1) := by decide +kernel
theorem dX8_form_139 : decode cX8_form 139 = .ok (.iload_n 3, 1) := by decide +kernel
theorem dX8_form_140 : decode cX8_form 140 = .ok (.invokevirtual 195, 3) := by decide +kernel
theorem dX8_form_143 : decode cX8_form 143 = .ok (.istore_n 3, 1) := by decide +kernel
theorem dX8_form_144 : decode cX8_form 144 = .ok (.goto (-57), 3) := by decide +kernel
theorem dX8_form_147 : decode cX8_form 147 = .ok (.iload_n 1, 1) := by decide +kernel
theorem dX8_form_148 : decode cX8_form 148 = .ok (.ifCond .ne 5, 3) := by decide +kernel
theorem dX8_form_151 : decode cX8_form 151 = .ok (.iload_n 3, 1) := by decide +kernel
theorem dX8_form_152 : decode cX8_form 152 = .ok (.ireturn, 1) := by decide +kernel
theorem dX8_form_153 : decode cX8_form 153 = .ok (.aload_n 0, 1) := by decide +kernel
theorem dX8_form_154 : decode cX8_form 154 = .ok (.getfield 37, 3) := by decide +kernel
theorem dX8_form_157 : decode cX8_form 157 = .ok (.iload_n 1, 1) := by decide +kernel
theorem dX8_form_158 : decode cX8_form 158 = .ok (.iconst 1, 1) := by decide +kernel
theorem dX8_form_159 : decode cX8_form 159 = .ok (.isub, 1) := by decide +kernel
theorem dX8_form_160 : decode cX8_form 160 = .ok (.iconst 1, 1) := by decide +kernel
theorem dX8_form_161 : decode cX8_form 161 = .ok (.bastore, 1) := by decide +kernel
theorem dX8_form_162 : decode cX8_form 162 = .ok (.aload_n 0, 1) := by decide +kernel
theorem dX8_form_163 : decode cX8_form 163 = .ok (.getfield 40, 3) := by decide +kernel
theorem dX8_form_166 : decode cX8_form 166 = .ok (.iload_n 1, 1) := by decide +kernel
theorem dX8_form_167 : decode cX8_form 167 = .ok (.iconst 1, 1) := by decide +kernel
theorem dX8_form_168 : decode cX8_form 168 = .ok (.isub, 1) := by decide +kernel
theorem dX8_form_169 : decode cX8_form 169 = .ok (.iload_n 3, 1) := by decide +kernel
theorem dX8_form_170 : decode cX8_form 170 = .ok (.iastore, 1) := by decide +kernel
theorem dX8_form_171 : decode cX8_form 171 = .ok (.goto (-169), 3) := by decide +kernel
theorem dX8_form_174 : decode cX8_form 174 = .ok (.iconst 0, 1) := by decide +kernel
theorem dX8_form_175 : decode cX8_form 175 = .ok (.ireturn, 1) := by decide +kernel
set_option maxRecDepth 4000 in
theorem kX8_form (G : GT) {σ : St} : ∀ (r : Int32) (σo : St) , fX8_form σ = some (r, σo) → MCt G 7 yX8_form cX8_form 4 (some .int) [.ref (gad G 62)] σ (some (.int r)) σo := by
  intro r σo hF
  refine met_i (by decide) (Nat.le_of_ble_eq_true rfl) (fun X cx hE => ?_)
  have cx : Cx G X RX8 cX8_form 4 7 := cx
  have hb147 : ∀ (kr2 : St → Int32 → Option (Int32 × St)), (∀ (σ : St) (x1 : Int32) , kr2 σ x1 = some (r, σo) → WW G X 4 σ [(0, .ref (gad G 62)), (1, .int x1)] 2 []) → ∀ (σ : St) (x1 : Int32) (x3 : Int32) , fX8_form_b147 kr2 σ x1 x3 = some (r, σo) → WW G X 4 σ [(0, .ref (gad G 62)), (1, .int x1), (3, .int x3)] 147 [] := by
    intro kr2 hk2
    intro σ x1 x3 hF
    unfold fX8_form_b147 at hF
    refine ww_iload_n cx dX8_form_147 rfl 1 rfl ?_
    refine ww_if_ne cx dX8_form_148 (tgt := 153) rfl hF (fun hF => ?_) (fun hF => ?_)
    · refine ww_aload_n cx dX8_form_153 rfl 0 rfl ?_
      refine gf_X8_37 cx dX8_form_154 ?_
      refine ww_iload_n cx dX8_form_157 rfl 1 rfl ?_
      refine ww_iconst cx dX8_form_158 ic_1 ?_
      refine ww_isub cx dX8_form_159 ?_
      refine ww_iconst cx dX8_form_160 ic_1 ?_
      refine ww_zast (N := 8) cx (sh_70) dX8_form_161 hF (fun σ1 hF => ?_)
      refine ww_aload_n cx dX8_form_162 rfl 0 rfl ?_
      refine gf_X8_40 cx dX8_form_163 ?_
      refine ww_iload_n cx dX8_form_166 rfl 1 rfl ?_
      refine ww_iconst cx dX8_form_167 ic_1 ?_
      refine ww_isub cx dX8_form_168 ?_
      refine ww_iload_n cx dX8_form_169 rfl 2 rfl ?_
      refine ww_iast (N := 8) cx (sh_71) dX8_form_170 hF (fun σ2 hF => ?_)
      refine ww_goto cx dX8_form_171 (tgt := 2) rfl ?_
      exact ww_sub [0, 1] rfl (hk2 _ _ hF)
    · refine ww_iload_n cx dX8_form_151 rfl 2 rfl ?_
      exact ww_ris hE dX8_form_152 hF
  have hl87 : ∀ (kr2 : St → Int32 → Option (Int32 × St)), (∀ (σ : St) (x1 : Int32) , kr2 σ x1 = some (r, σo) → WW G X 4 σ [(0, .ref (gad G 62)), (1, .int x1)] 2 []) → ∀ n : Nat, ∀ (σ : St) (x1 : Int32) (x3 : Int32) , fX8_form_l87 kr2 n σ x1 x3 = some (r, σo) → WW G X 4 σ [(0, .ref (gad G 62)), (1, .int x1), (3, .int x3)] 87 [] := by
    intro kr2 hk2
    intro n
    induction n with
    | zero =>
      intro σ x1 x3 hF
      exact absurd hF (by intro z; cases z)
    | succ n ih =>
      intro σ x1 x3 hF
      have hk87 := ih
      have hF : fX8_form_B87 kr2 (fX8_form_l87 kr2 n) σ x1 x3 = some (r, σo) := hF
      unfold fX8_form_B87 at hF
      refine ww_iload_n cx dX8_form_87 rfl 1 rfl ?_
      refine ww_if_le cx dX8_form_88 (tgt := 147) rfl hF (fun hF => ?_) (fun hF => ?_)
      · exact hb147 _ hk2 _ _ _ hF
      · refine ww_aload_n cx dX8_form_91 rfl 0 rfl ?_
        refine gf_X8_37 cx dX8_form_92 ?_
        refine ww_iload_n cx dX8_form_95 rfl 1 rfl ?_
        refine ww_iconst cx dX8_form_96 ic_1 ?_
        refine ww_isub cx dX8_form_97 ?_
        refine ww_zald (N := 8) cx (sh_70) dX8_form_98 hF (fun hF => ?_)
        refine ww_if_eq cx dX8_form_99 (tgt := 147) rfl hF (fun hF => ?_) (fun hF => ?_)
        · exact hb147 _ hk2 _ _ _ hF
        · refine ww_iinc (j := 1) (ks := [0, 1, 2]) (lv' := fun v3 => [(1, .int v3), (0, .ref (gad G 62)), (3, .int x3)]) cx dX8_form_102 (by decide) rfl ic_m1 hF (fun _ => rfl) (fun v3 hF => ?_)
          refine ww_aload_n cx dX8_form_105 rfl 1 rfl ?_
          refine gf_X8_34 cx dX8_form_106 ?_
          refine ww_iload_n cx dX8_form_109 rfl 0 rfl ?_
          refine ww_iald (N := 8) cx (sh_69) dX8_form_110 hF (fun hF => ?_)
          refine ww_iconst cx dX8_form_111 ic_3 ?_
          refine ww_icmp_ne cx dX8_form_112 (tgt := 126) rfl hF (fun hF => ?_) (fun hF => ?_)
          · refine ww_aload_n cx dX8_form_126 rfl 1 rfl ?_
            refine ww_aload_n cx dX8_form_127 rfl 1 rfl ?_
            refine gf_X8_34 cx dX8_form_128 ?_
            refine ww_iload_n cx dX8_form_131 rfl 0 rfl ?_
            refine ww_iald (N := 8) cx (sh_69) dX8_form_132 hF (fun hF => ?_)
            refine ww_aload_n cx dX8_form_133 rfl 1 rfl ?_
            refine gf_X8_40 cx dX8_form_134 ?_
            refine ww_iload_n cx dX8_form_137 rfl 0 rfl ?_
            refine ww_iald (N := 8) cx (sh_71) dX8_form_138 hF (fun hF => ?_)
            refine ww_iload_n cx dX8_form_139 rfl 2 rfl ?_
            refine ww_V3_pi kv_X8_195 rfl cx sh_62 ⟨Nat.le_of_ble_eq_true rfl, Nat.le_of_ble_eq_true rfl⟩ (Nat.le_of_ble_eq_true rfl) dX8_form_140 (kX8_joined G) hF (fun r4 hF => ?_)
            refine ww_istore_n (ks := [0, 1, 2]) (lv' := fun v5 => [(3, .int v5), (1, .int v3), (0, .ref (gad G 62))]) cx dX8_form_143 rfl (by decide) hF (fun _ => rfl) (fun v5 hF => ?_)
            refine ww_goto cx dX8_form_144 (tgt := 87) rfl ?_
            exact ww_sub [2, 1, 0] rfl (hk87 _ _ _ hF)
          · refine ww_iload_n cx dX8_form_115 rfl 2 rfl ?_
            refine ww_iconst cx dX8_form_116 ic_m1 ?_
            refine ww_ixor cx dX8_form_117 ?_
            refine ww_aload_n cx dX8_form_118 rfl 1 rfl ?_
            refine ww_V0_pi kv_X8_181 rfl cx sh_62 ⟨Nat.le_of_ble_eq_true rfl, Nat.le_of_ble_eq_true rfl⟩ (Nat.le_of_ble_eq_true rfl) dX8_form_119 (kX8_freshAll G) hF (fun r6 hF => ?_)
            refine ww_iand cx dX8_form_122 ?_
            refine ww_goto cx dX8_form_123 (tgt := 143) rfl ?_
            refine ww_istore_n (ks := [0, 1, 2]) (lv' := fun v7 => [(3, .int v7), (1, .int v3), (0, .ref (gad G 62))]) cx dX8_form_143 rfl (by decide) hF (fun _ => rfl) (fun v7 hF => ?_)
            refine ww_goto cx dX8_form_144 (tgt := 87) rfl ?_
            exact ww_sub [2, 1, 0] rfl (hk87 _ _ _ hF)
  have hb35 : ∀ (kr2 : St → Int32 → Option (Int32 × St)), (∀ (σ : St) (x1 : Int32) , kr2 σ x1 = some (r, σo) → WW G X 4 σ [(0, .ref (gad G 62)), (1, .int x1)] 2 []) → ∀ (σ : St) (x1 : Int32) (x2 : Int32) , fX8_form_b35 kr2 σ x1 x2 = some (r, σo) → WW G X 4 σ [(0, .ref (gad G 62)), (1, .int x1), (2, .int x2)] 35 [] := by
    intro kr2 hk2
    intro σ x1 x2 hF
    unfold fX8_form_b35 at hF
    refine ww_aload_n cx dX8_form_35 rfl 0 rfl ?_
    refine ww_V0_pi kv_X8_134 rfl cx sh_62 ⟨Nat.le_of_ble_eq_true rfl, Nat.le_of_ble_eq_true rfl⟩ (Nat.le_of_ble_eq_true rfl) dX8_form_36 (kX8_good G) hF (fun r8 hF => ?_)
    refine ww_if_ne cx dX8_form_39 (tgt := 44) rfl hF (fun hF => ?_) (fun hF => ?_)
    · refine ww_aload_n cx dX8_form_44 rfl 0 rfl ?_
      refine ww_V0_sv kv_X8_151 rfl cx sh_62 ⟨Nat.le_of_ble_eq_true rfl, Nat.le_of_ble_eq_true rfl⟩ (Nat.le_of_ble_eq_true rfl) dX8_form_45 (kX8_advance G) hF (fun σ9 hF => ?_)
      refine ww_iload_n cx dX8_form_48 rfl 2 rfl ?_
      refine ww_iconst cx dX8_form_49 ic_4 ?_
      refine ww_icmp_eq cx dX8_form_50 (tgt := 82) rfl hF (fun hF => ?_) (fun hF => ?_)
      · refine ww_aload_n cx dX8_form_82 rfl 0 rfl ?_
        refine gf_X8_186 cx dX8_form_83 ?_
        refine ww_istore_n (ks := [0, 1, 2]) (lv' := fun v10 => [(3, .int v10), (0, .ref (gad G 62)), (1, .int x1)]) cx dX8_form_86 rfl (by decide) hF (fun _ => rfl) (fun v10 hF => ?_)
        exact ww_sub [1, 2, 0] rfl (hl87 _ hk2 FU _ _ _ hF)
      · refine ww_aload_n cx dX8_form_53 rfl 0 rfl ?_
        refine gf_X8_34 cx dX8_form_54 ?_
        refine ww_iload_n cx dX8_form_57 rfl 1 rfl ?_
        refine ww_iload_n cx dX8_form_58 rfl 2 rfl ?_
        refine ww_iast (N := 8) cx (sh_69) dX8_form_59 hF (fun σ11 hF => ?_)
        refine ww_aload_n cx dX8_form_60 rfl 0 rfl ?_
        refine gf_X8_37 cx dX8_form_61 ?_
        refine ww_iload_n cx dX8_form_64 rfl 1 rfl ?_
        refine ww_iload_n cx dX8_form_65 rfl 2 rfl ?_
        refine ww_iconst cx dX8_form_66 ic_3 ?_
        refine ww_icmp_ne cx dX8_form_67 (tgt := 74) rfl hF (fun hF => ?_) (fun hF => ?_)
        · refine ww_iconst cx dX8_form_74 ic_0 ?_
          refine ww_zast (N := 8) cx (sh_70) dX8_form_75 hF (fun σ12 hF => ?_)
          refine ww_iinc (j := 1) (ks := [0, 1]) (lv' := fun v13 => [(1, .int v13), (0, .ref (gad G 62))]) cx dX8_form_76 (by decide) rfl ic_1 hF (fun _ => rfl) (fun v13 hF => ?_)
          refine ww_goto cx dX8_form_79 (tgt := 2) rfl ?_
          exact ww_sub [1, 0] rfl (hk2 _ _ hF)
        · refine ww_iconst cx dX8_form_70 ic_1 ?_
          refine ww_goto cx dX8_form_71 (tgt := 75) rfl ?_
          refine ww_zast (N := 8) cx (sh_70) dX8_form_75 hF (fun σ14 hF => ?_)
          refine ww_iinc (j := 1) (ks := [0, 1]) (lv' := fun v15 => [(1, .int v15), (0, .ref (gad G 62))]) cx dX8_form_76 (by decide) rfl ic_1 hF (fun _ => rfl) (fun v15 hF => ?_)
          refine ww_goto cx dX8_form_79 (tgt := 2) rfl ?_
          exact ww_sub [1, 0] rfl (hk2 _ _ hF)
    · refine ww_iconst cx dX8_form_42 ic_0 ?_
      exact ww_ris hE dX8_form_43 hF
  have hb24 : ∀ (kr2 : St → Int32 → Option (Int32 × St)), (∀ (σ : St) (x1 : Int32) , kr2 σ x1 = some (r, σo) → WW G X 4 σ [(0, .ref (gad G 62)), (1, .int x1)] 2 []) → ∀ (σ : St) (x1 : Int32) (x2 : Int32) , fX8_form_b24 kr2 σ x1 x2 = some (r, σo) → WW G X 4 σ [(0, .ref (gad G 62)), (1, .int x1), (2, .int x2)] 24 [] := by
    intro kr2 hk2
    intro σ x1 x2 hF
    unfold fX8_form_b24 at hF
    refine ww_iload_n cx dX8_form_24 rfl 1 rfl ?_
    refine ww_bipush cx dX8_form_25 bc_8 ?_
    refine ww_icmp_ne cx dX8_form_27 (tgt := 35) rfl hF (fun hF => ?_) (fun hF => ?_)
    · exact hb35 _ hk2 _ _ _ hF
    · refine ww_aload_n cx dX8_form_30 rfl 0 rfl ?_
      refine ww_iconst cx dX8_form_31 ic_3 ?_
      refine ww_V1_sv kv_X8_157 rfl cx sh_62 ⟨Nat.le_of_ble_eq_true rfl, Nat.le_of_ble_eq_true rfl⟩ (Nat.le_of_ble_eq_true rfl) dX8_form_32 (kX8_errs G) hF (fun σ16 hF => ?_)
      exact hb35 _ hk2 _ _ _ hF
  have hl2 : ∀ n : Nat, ∀ (σ : St) (x1 : Int32) , fX8_form_l2 n σ x1 = some (r, σo) → WW G X 4 σ [(0, .ref (gad G 62)), (1, .int x1)] 2 [] := by
    intro n
    induction n with
    | zero =>
      intro σ x1 hF
      exact absurd hF (by intro z; cases z)
    | succ n ih =>
      intro σ x1 hF
      have hk2 := ih
      have hF : fX8_form_B2 (fX8_form_l2 n) σ x1 = some (r, σo) := hF
      unfold fX8_form_B2 at hF
      refine ww_aload_n cx dX8_form_2 rfl 0 rfl ?_
      refine ww_V0_pi kv_X8_134 rfl cx sh_62 ⟨Nat.le_of_ble_eq_true rfl, Nat.le_of_ble_eq_true rfl⟩ (Nat.le_of_ble_eq_true rfl) dX8_form_3 (kX8_good G) hF (fun r17 hF => ?_)
      refine ww_if_eq cx dX8_form_6 (tgt := 174) rfl hF (fun hF => ?_) (fun hF => ?_)
      · refine ww_iconst cx dX8_form_174 ic_0 ?_
        exact ww_ris hE dX8_form_175 hF
      · refine ww_aload_n cx dX8_form_9 rfl 0 rfl ?_
        refine ww_V0_si kv_X8_192 rfl cx sh_62 ⟨Nat.le_of_ble_eq_true rfl, Nat.le_of_ble_eq_true rfl⟩ (Nat.le_of_ble_eq_true rfl) dX8_form_10 (kX8_formWord G) hF (fun r18 σ19 hF => ?_)
        refine ww_istore_n (ks := [0, 1, 2]) (lv' := fun v20 => [(2, .int v20), (0, .ref (gad G 62)), (1, .int x1)]) cx dX8_form_13 rfl (by decide) hF (fun _ => rfl) (fun v20 hF => ?_)
        refine ww_iload_n cx dX8_form_14 rfl 0 rfl ?_
        refine ww_iconst cx dX8_form_15 ic_5 ?_
        refine ww_icmp_ne cx dX8_form_16 (tgt := 24) rfl hF (fun hF => ?_) (fun hF => ?_)
        · exact ww_sub [1, 2, 0] rfl (hb24 _ hk2 _ _ _ hF)
        · refine ww_aload_n cx dX8_form_19 rfl 1 rfl ?_
          refine ww_iconst cx dX8_form_20 ic_1 ?_
          refine ww_V1_sv kv_X8_157 rfl cx sh_62 ⟨Nat.le_of_ble_eq_true rfl, Nat.le_of_ble_eq_true rfl⟩ (Nat.le_of_ble_eq_true rfl) dX8_form_21 (kX8_errs G) hF (fun σ21 hF => ?_)
          exact ww_sub [1, 2, 0] rfl (hb24 _ hk2 _ _ _ hF)
  unfold fX8_form at hF
  show WW G X 4 σ [(0, .ref (gad G 62))] 0 []
  refine ww_iconst cx dX8_form_0 ic_0 ?_
  refine ww_istore_n (ks := [0, 1]) (lv' := fun v22 => [(1, .int v22), (0, .ref (gad G 62))]) cx dX8_form_1 rfl (by decide) hF (fun _ => rfl) (fun v22 hF => ?_)
  exact ww_sub [1, 0] rfl (hl2 FU _ _ hF)
theorem dX8_host_0 : decode cX8_host 0 = .ok (.aload_n 0, 1) := by decide +kernel
theorem dX8_host_1 : decode cX8_host 1 = .ok (.iload_n 1, 1) := by decide +kernel
theorem dX8_host_2 : decode cX8_host 2 = .ok (.invokevirtual 378, 3) := by decide +kernel
theorem dX8_host_5 : decode cX8_host 5 = .ok (.ifCond .ne 6, 3) := by decide +kernel
theorem dX8_host_8 : decode cX8_host 8 = .ok (.bipush (-2), 2) := by decide +kernel
theorem dX8_host_10 : decode cX8_host 10 = .ok (.ireturn, 1) := by decide +kernel
theorem dX8_host_11 : decode cX8_host 11 = .ok (.iconst 0, 1) := by decide +kernel
theorem dX8_host_12 : decode cX8_host 12 = .ok (.istore_n 2, 1) := by decide +kernel
theorem dX8_host_13 : decode cX8_host 13 = .ok (.iload_n 2, 1) := by decide +kernel
theorem dX8_host_14 : decode cX8_host 14 = .ok (.aload_n 0, 1) := by decide +kernel
theorem dX8_host_15 : decode cX8_host 15 = .ok (.getfield 9, 3) := by decide +kernel
theorem dX8_host_18 : decode cX8_host 18 = .ok (.iconst 3, 1) := by decide +kernel
theorem dX8_host_19 : decode cX8_host 19 = .ok (.iaload, 1) := by decide +kernel
theorem dX8_host_20 : decode cX8_host 20 = .ok (.if_icmp .ge 20, 3) := by decide +kernel
theorem dX8_host_23 : decode cX8_host 23 = .ok (.aload_n 0, 1) := by decide +kernel
theorem dX8_host_24 : decode cX8_host 24 = .ok (.iload_n 2, 1) := by decide +kernel
theorem dX8_host_25 : decode cX8_host 25 = .ok (.invokevirtual 372, 3) := by decide +kernel
theorem dX8_host_28 : decode cX8_host 28 = .ok (.iload_n 1, 1) := by decide +kernel
theorem dX8_host_29 : decode cX8_host 29 = .ok (.if_icmp .ne 5, 3) := by decide +kernel
theorem dX8_host_32 : decode cX8_host 32 = .ok (.iload_n 2, 1) := by decide +kernel
theorem dX8_host_33 : decode cX8_host 33 = .ok (.ireturn, 1) := by decide +kernel
theorem dX8_host_34 : decode cX8_host 34 = .ok (.iinc 2 1, 3) := by decide +kernel
theorem dX8_host_37 : decode cX8_host 37 = .ok (.goto (-24), 3) := by decide +kernel
theorem dX8_host_40 : decode cX8_host 40 = .ok (.iconst (-1), 1) := by decide +kernel
theorem dX8_host_41 : decode cX8_host 41 = .ok (.ireturn, 1) := by decide +kernel
set_option maxRecDepth 4000 in
theorem kX8_host (G : GT) {σ : St} {a1 : Int32} : ∀ (r : Int32) , fX8_host σ a1 = some r → MCt G 7 yX8_host cX8_host 3 (some .int) [.ref (gad G 62), .int a1] σ (some (.int r)) σ := by
  intro r hF
  refine met_i (by decide) (Nat.le_of_ble_eq_true rfl) (fun X cx hE => ?_)
  have cx : Cx G X RX8 cX8_host 3 7 := cx
  have hl13 : ∀ n : Nat, ∀ (x1 : Int32) (x2 : Int32) , fX8_host_l13 σ n x1 x2 = some r → WW G X 3 σ [(0, .ref (gad G 62)), (1, .int x1), (2, .int x2)] 13 [] := by
    intro n
    induction n with
    | zero =>
      intro x1 x2 hF
      exact absurd hF (by intro z; cases z)
    | succ n ih =>
      intro x1 x2 hF
      have hk13 := ih
      have hF : fX8_host_B13 σ (fX8_host_l13 σ n) x1 x2 = some r := hF
      unfold fX8_host_B13 at hF
      refine ww_iload_n cx dX8_host_13 rfl 2 rfl ?_
      refine ww_aload_n cx dX8_host_14 rfl 0 rfl ?_
      refine gf_X8_9 cx dX8_host_15 ?_
      refine ww_iconst cx dX8_host_18 ic_3 ?_
      refine ww_iald (N := 77) cx (sh_63) dX8_host_19 hF (fun hF => ?_)
      refine ww_icmp_ge cx dX8_host_20 (tgt := 40) rfl hF (fun hF => ?_) (fun hF => ?_)
      · refine ww_iconst cx dX8_host_40 ic_m1 ?_
        exact ww_rip hE dX8_host_41 hF
      · refine ww_aload_n cx dX8_host_23 rfl 0 rfl ?_
        refine ww_iload_n cx dX8_host_24 rfl 2 rfl ?_
        refine ww_V1_pi kv_X8_372 rfl cx sh_62 ⟨Nat.le_of_ble_eq_true rfl, Nat.le_of_ble_eq_true rfl⟩ (Nat.le_of_ble_eq_true rfl) dX8_host_25 (kX8_whoOf G) hF (fun r1 hF => ?_)
        refine ww_iload_n cx dX8_host_28 rfl 1 rfl ?_
        refine ww_icmp_ne cx dX8_host_29 (tgt := 34) rfl hF (fun hF => ?_) (fun hF => ?_)
        · refine ww_iinc (j := 2) (ks := [0, 1, 2]) (lv' := fun v2 => [(2, .int v2), (0, .ref (gad G 62)), (1, .int x1)]) cx dX8_host_34 (by decide) rfl ic_1 hF (fun _ => rfl) (fun v2 hF => ?_)
          refine ww_goto cx dX8_host_37 (tgt := 13) rfl ?_
          exact ww_sub [1, 2, 0] rfl (hk13 _ _ hF)
        · refine ww_iload_n cx dX8_host_32 rfl 2 rfl ?_
          exact ww_rip hE dX8_host_33 hF
  unfold fX8_host at hF
  show WW G X 3 σ [(0, .ref (gad G 62)), (1, .int a1)] 0 []
  refine ww_aload_n cx dX8_host_0 rfl 0 rfl ?_
  refine ww_iload_n cx dX8_host_1 rfl 1 rfl ?_
  refine ww_V1_pi kv_X8_378 rfl cx sh_62 ⟨Nat.le_of_ble_eq_true rfl, Nat.le_of_ble_eq_true rfl⟩ (Nat.le_of_ble_eq_true rfl) dX8_host_2 (kX8_areGuests G) hF (fun r3 hF => ?_)
  refine ww_if_ne cx dX8_host_5 (tgt := 11) rfl hF (fun hF => ?_) (fun hF => ?_)
  · refine ww_iconst cx dX8_host_11 ic_0 ?_
    refine ww_istore_n (ks := [0, 1, 2]) (lv' := fun v4 => [(2, .int v4), (0, .ref (gad G 62)), (1, .int a1)]) cx dX8_host_12 rfl (by decide) hF (fun _ => rfl) (fun v4 hF => ?_)
    exact ww_sub [1, 2, 0] rfl (hl13 FU _ _ hF)
  · refine ww_bipush cx dX8_host_8 bc_m2 ?_
    exact ww_rip hE dX8_host_10 hF
theorem dX8_leaves_0 : decode cX8_leaves 0 = .ok (.aload_n 0, 1) := by decide +kernel
theorem dX8_leaves_1 : decode cX8_leaves 1 = .ok (.invokevirtual 291, 3) := by decide +kernel
theorem dX8_leaves_4 : decode cX8_leaves 4 = .ok (.ifCond .ne 6, 3) := by decide +kernel
theorem dX8_leaves_7 : decode cX8_leaves 7 = .ok (.bipush (-2), 2) := by decide +kernel
theorem dX8_leaves_9 : decode cX8_leaves 9 = .ok (.ireturn, 1) := by decide +kernel
theorem dX8_leaves_10 : decode cX8_leaves 10 = .ok (.aload_n 0, 1) := by decide +kernel
theorem dX8_leaves_11 : decode cX8_leaves 11 = .ok (.invokevirtual 433, 3) := by decide +kernel
theorem dX8_leaves_14 : decode cX8_leaves 14 = .ok (.istore_n 1, 1) := by decide +kernel
theorem dX8_leaves_15 : decode cX8_leaves 15 = .ok (.iload_n 1, 1) := by decide +kernel
theorem dX8_leaves_16 : decode cX8_leaves 16 = .ok (.iconst (-1), 1) := by decide +kernel
theorem dX8_leaves_17 : decode cX8_leaves 17 = .ok (.if_icmp .ne 13, 3) := by decide +kernel
theorem dX8_leaves_20 : decode cX8_leaves 20 = .ok (.aload_n 0, 1) := by decide +kernel
theorem dX8_leaves_21 : decode cX8_leaves 21 = .ok (.invokevirtual 266, 3) := by decide +kernel
theorem dX8_leaves_24 : decode cX8_leaves 24 = .ok (.invokestatic 273, 3) := by decide +kernel
theorem dX8_leaves_27 : decode cX8_leaves 27 = .ok (.goto 8, 3) := by decide +kernel
theorem dX8_leaves_30 : decode cX8_leaves 30 = .ok (.aload_n 0, 1) := by decide +kernel
theorem dX8_leaves_31 : decode cX8_leaves 31 = .ok (.iload_n 1, 1) := by decide +kernel
theorem dX8_leaves_32 : decode cX8_leaves 32 = .ok (.invokevirtual 430, 3) := by decide +kernel
theorem dX8_leaves_35 : decode cX8_leaves 35 = .ok (.ireturn, 1) := by decide +kernel
set_option maxRecDepth 4000 in
theorem kX8_leaves (G : GT) {σ : St} : ∀ (r : Int32) , fX8_leaves σ = some r → MCt G 7 yX8_leaves cX8_leaves 2 (some .int) [.ref (gad G 62)] σ (some (.int r)) σ := by
  intro r hF
  refine met_i (by decide) (Nat.le_of_ble_eq_true rfl) (fun X cx hE => ?_)
  have cx : Cx G X RX8 cX8_leaves 2 7 := cx
  unfold fX8_leaves at hF
  show WW G X 2 σ [(0, .ref (gad G 62))] 0 []
  refine ww_aload_n cx dX8_leaves_0 rfl 0 rfl ?_
  refine ww_V0_pi kv_X8_291 rfl cx sh_62 ⟨Nat.le_of_ble_eq_true rfl, Nat.le_of_ble_eq_true rfl⟩ (Nat.le_of_ble_eq_true rfl) dX8_leaves_1 (kX8_isTable G) hF (fun r1 hF => ?_)
  refine ww_if_ne cx dX8_leaves_4 (tgt := 10) rfl hF (fun hF => ?_) (fun hF => ?_)
  · refine ww_aload_n cx dX8_leaves_10 rfl 0 rfl ?_
    refine ww_V0_pi kv_X8_433 rfl cx sh_62 ⟨Nat.le_of_ble_eq_true rfl, Nat.le_of_ble_eq_true rfl⟩ (Nat.le_of_ble_eq_true rfl) dX8_leaves_11 (kX8_askOf G) hF (fun r2 hF => ?_)
    refine ww_istore_n (ks := [0, 1]) (lv' := fun v3 => [(1, .int v3), (0, .ref (gad G 62))]) cx dX8_leaves_14 rfl (by decide) hF (fun _ => rfl) (fun v3 hF => ?_)
    refine ww_iload_n cx dX8_leaves_15 rfl 0 rfl ?_
    refine ww_iconst cx dX8_leaves_16 ic_m1 ?_
    refine ww_icmp_ne cx dX8_leaves_17 (tgt := 30) rfl hF (fun hF => ?_) (fun hF => ?_)
    · refine ww_aload_n cx dX8_leaves_30 rfl 1 rfl ?_
      refine ww_iload_n cx dX8_leaves_31 rfl 0 rfl ?_
      refine ww_V1_pi kv_X8_430 rfl cx sh_62 ⟨Nat.le_of_ble_eq_true rfl, Nat.le_of_ble_eq_true rfl⟩ (Nat.le_of_ble_eq_true rfl) dX8_leaves_32 (kX8_worstOf G) hF (fun r4 hF => ?_)
      exact ww_rip hE dX8_leaves_35 hF
    · refine ww_aload_n cx dX8_leaves_20 rfl 1 rfl ?_
      refine ww_V0_pi kv_X8_266 rfl cx sh_62 ⟨Nat.le_of_ble_eq_true rfl, Nat.le_of_ble_eq_true rfl⟩ (Nat.le_of_ble_eq_true rfl) dX8_leaves_21 (kX8_saltedNow G) hF (fun r5 hF => ?_)
      refine ww_S1_pi kv_X8_273 cx ⟨Nat.le_of_ble_eq_true rfl, Nat.le_of_ble_eq_true rfl⟩ (Nat.le_of_ble_eq_true rfl) dX8_leaves_24 (kX8_bits G) hF (fun r6 hF => ?_)
      refine ww_goto cx dX8_leaves_27 (tgt := 35) rfl ?_
      exact ww_rip hE dX8_leaves_35 hF
  · refine ww_bipush cx dX8_leaves_7 bc_m2 ?_
    exact ww_rip hE dX8_leaves_9 hF
theorem dX8_lemma_0 : decode cX8_lemma 0 = .ok (.aload_n 0, 1) := by decide +kernel
theorem dX8_lemma_1 : decode cX8_lemma 1 = .ok (.iload_n 1, 1) := by decide +kernel
theorem dX8_lemma_2 : decode cX8_lemma 2 = .ok (.i2l, 1) := by decide +kernel
theorem dX8_lemma_3 : decode cX8_lemma 3 = .ok (.invokevirtual 285, 3) := by decide +kernel
theorem dX8_lemma_6 : decode cX8_lemma 6 = .ok (.ifCond .eq 11, 3) := by decide +kernel
theorem dX8_lemma_9 : decode cX8_lemma 9 = .ok (.aload_n 0, 1) := by decide +kernel
theorem dX8_lemma_10 : decode cX8_lemma 10 = .ok (.iload_n 1, 1) := by decide +kernel
theorem dX8_lemma_11 : decode cX8_lemma 11 = .ok (.invokevirtual 381, 3) := by decide +kernel
theorem dX8_lemma_14 : decode cX8_lemma 14 = .ok (.goto 5, 3) := by decide +kernel
theorem dX8_lemma_17 : decode cX8_lemma 17 = .ok (.bipush (-2), 2) := by decide +kernel
theorem dX8_lemma_19 : decode cX8_lemma 19 = .ok (.ireturn, 1) := by decide +kernel
set_option maxRecDepth 4000 in
theorem kX8_lemma (G : GT) {σ : St} {a1 : Int32} : ∀ (r : Int32) (σo : St) , fX8_lemma σ a1 = some (r, σo) → MCt G 7 yX8_lemma cX8_lemma 2 (some .int) [.ref (gad G 62), .int a1] σ (some (.int r)) σo := by
  intro r σo hF
  refine met_i (by decide) (Nat.le_of_ble_eq_true rfl) (fun X cx hE => ?_)
  have cx : Cx G X RX8 cX8_lemma 2 7 := cx
  unfold fX8_lemma at hF
  show WW G X 2 σ [(0, .ref (gad G 62)), (1, .int a1)] 0 []
  refine ww_aload_n cx dX8_lemma_0 rfl 0 rfl ?_
  refine ww_iload_n cx dX8_lemma_1 rfl 1 rfl ?_
  refine ww_i2l cx dX8_lemma_2 ?_
  refine ww_V1_pi kv_X8_285 rfl cx sh_62 ⟨Nat.le_of_ble_eq_true rfl, Nat.le_of_ble_eq_true rfl⟩ (Nat.le_of_ble_eq_true rfl) dX8_lemma_3 (kX8_isGuest G) hF (fun r1 hF => ?_)
  refine ww_if_eq cx dX8_lemma_6 (tgt := 17) rfl hF (fun hF => ?_) (fun hF => ?_)
  · refine ww_bipush cx dX8_lemma_17 bc_m2 ?_
    exact ww_ris hE dX8_lemma_19 hF
  · refine ww_aload_n cx dX8_lemma_9 rfl 0 rfl ?_
    refine ww_iload_n cx dX8_lemma_10 rfl 1 rfl ?_
    refine ww_V1_si kv_X8_381 rfl cx sh_62 ⟨Nat.le_of_ble_eq_true rfl, Nat.le_of_ble_eq_true rfl⟩ (Nat.le_of_ble_eq_true rfl) dX8_lemma_11 (kX8_lemmaOf G) hF (fun r2 σ3 hF => ?_)
    refine ww_goto cx dX8_lemma_14 (tgt := 19) rfl ?_
    exact ww_ris hE dX8_lemma_19 hF
theorem dX8_needs_0 : decode cX8_needs 0 = .ok (.aload_n 0, 1) := by decide +kernel
theorem dX8_needs_1 : decode cX8_needs 1 = .ok (.aload_n 1, 1) := by decide +kernel
theorem dX8_needs_2 : decode cX8_needs 2 = .ok (.invokevirtual 154, 3) := by decide +kernel
theorem dX8_needs_5 : decode cX8_needs 5 = .ok (.ifCond .ne 8, 3) := by decide +kernel
theorem dX8_needs_8 : decode cX8_needs 8 = .ok (.aload_n 0, 1) := by decide +kernel
theorem dX8_needs_9 : decode cX8_needs 9 = .ok (.iconst 1, 1) := by decide +kernel
theorem dX8_needs_10 : decode cX8_needs 10 = .ok (.invokevirtual 157, 3) := by decide +kernel
theorem dX8_needs_13 : decode cX8_needs 13 = .ok (.return_, 1) := by decide +kernel
set_option maxRecDepth 4000 in
theorem kX8_needs (G : GT) {σ : St} {w : Nat} (hw : w < 18) : ∀ (σo : St) , fX8_needs σ w = some σo → MCt G 7 yX8_needs cX8_needs 2 (none) [.ref (gad G 62), .ref (gsk G w)] σ (none) σo := by
  intro σo hF
  refine met_v (by decide) (Nat.le_of_ble_eq_true rfl) (fun X cx hE => ?_)
  have cx : Cx G X RX8 cX8_needs 2 7 := cx
  unfold fX8_needs at hF
  show WW G X 2 σ [(0, .ref (gad G 62)), (1, .ref (gsk G w))] 0 []
  refine ww_aload_n cx dX8_needs_0 rfl 0 rfl ?_
  refine ww_aload_n cx dX8_needs_1 rfl 1 rfl ?_
  refine ww_V1_si kv_X8_154 rfl cx sh_62 ⟨Nat.le_of_ble_eq_true rfl, Nat.le_of_ble_eq_true rfl⟩ (Nat.le_of_ble_eq_true rfl) dX8_needs_2 (kX8_takes G hw) hF (fun r1 σ2 hF => ?_)
  refine ww_if_ne cx dX8_needs_5 (tgt := 13) rfl hF (fun hF => ?_) (fun hF => ?_)
  · exact ww_rvs hE dX8_needs_13 hF
  · refine ww_aload_n cx dX8_needs_8 rfl 0 rfl ?_
    refine ww_iconst cx dX8_needs_9 ic_1 ?_
    refine ww_V1_sv kv_X8_157 rfl cx sh_62 ⟨Nat.le_of_ble_eq_true rfl, Nat.le_of_ble_eq_true rfl⟩ (Nat.le_of_ble_eq_true rfl) dX8_needs_10 (kX8_errs G) hF (fun σ3 hF => ?_)
    exact ww_rvs hE dX8_needs_13 hF
theorem dX8_team_0 : decode cX8_team 0 = .ok (.aload_n 0, 1) := by decide +kernel
theorem dX8_team_1 : decode cX8_team 1 = .ok (.iload_n 1, 1) := by decide +kernel
theorem dX8_team_2 : decode cX8_team 2 = .ok (.i2l, 1) := by decide +kernel
theorem dX8_team_3 : decode cX8_team 3 = .ok (.invokevirtual 269, 3) := by decide +kernel
theorem dX8_team_6 : decode cX8_team 6 = .ok (.ifCond .eq 11, 3) := by decide +kernel
theorem dX8_team_9 : decode cX8_team 9 = .ok (.aload_n 0, 1) := by decide +kernel
theorem dX8_team_10 : decode cX8_team 10 = .ok (.iload_n 1, 1) := by decide +kernel
theorem dX8_team_11 : decode cX8_team 11 = .ok (.invokevirtual 390, 3) := by decide +kernel
theorem dX8_team_14 : decode cX8_team 14 = .ok (.goto 5, 3) := by decide +kernel
theorem dX8_team_17 : decode cX8_team 17 = .ok (.bipush (-2), 2) := by decide +kernel
theorem dX8_team_19 : decode cX8_team 19 = .ok (.ireturn, 1) := by decide +kernel
set_option maxRecDepth 4000 in
theorem kX8_team (G : GT) {σ : St} {a1 : Int32} : ∀ (r : Int32) , fX8_team σ a1 = some r → MCt G 7 yX8_team cX8_team 2 (some .int) [.ref (gad G 62), .int a1] σ (some (.int r)) σ := by
  intro r hF
  refine met_i (by decide) (Nat.le_of_ble_eq_true rfl) (fun X cx hE => ?_)
  have cx : Cx G X RX8 cX8_team 2 7 := cx
  unfold fX8_team at hF
  show WW G X 2 σ [(0, .ref (gad G 62)), (1, .int a1)] 0 []
  refine ww_aload_n cx dX8_team_0 rfl 0 rfl ?_
  refine ww_iload_n cx dX8_team_1 rfl 1 rfl ?_
  refine ww_i2l cx dX8_team_2 ?_
  refine ww_V1_pi kv_X8_269 rfl cx sh_62 ⟨Nat.le_of_ble_eq_true rfl, Nat.le_of_ble_eq_true rfl⟩ (Nat.le_of_ble_eq_true rfl) dX8_team_3 (kX8_isClaim G) hF (fun r1 hF => ?_)
  refine ww_if_eq cx dX8_team_6 (tgt := 17) rfl hF (fun hF => ?_) (fun hF => ?_)
  · refine ww_bipush cx dX8_team_17 bc_m2 ?_
    exact ww_rip hE dX8_team_19 hF
  · refine ww_aload_n cx dX8_team_9 rfl 0 rfl ?_
    refine ww_iload_n cx dX8_team_10 rfl 1 rfl ?_
    refine ww_V1_pi kv_X8_390 rfl cx sh_62 ⟨Nat.le_of_ble_eq_true rfl, Nat.le_of_ble_eq_true rfl⟩ (Nat.le_of_ble_eq_true rfl) dX8_team_11 (kX8_teamOf G) hF (fun r2 hF => ?_)
    refine ww_goto cx dX8_team_14 (tgt := 19) rfl ?_
    exact ww_rip hE dX8_team_19 hF
theorem dX8_who_0 : decode cX8_who 0 = .ok (.aload_n 0, 1) := by decide +kernel
theorem dX8_who_1 : decode cX8_who 1 = .ok (.iload_n 1, 1) := by decide +kernel
theorem dX8_who_2 : decode cX8_who 2 = .ok (.i2l, 1) := by decide +kernel
theorem dX8_who_3 : decode cX8_who 3 = .ok (.invokevirtual 269, 3) := by decide +kernel
theorem dX8_who_6 : decode cX8_who 6 = .ok (.ifCond .eq 11, 3) := by decide +kernel
theorem dX8_who_9 : decode cX8_who 9 = .ok (.aload_n 0, 1) := by decide +kernel
theorem dX8_who_10 : decode cX8_who 10 = .ok (.iload_n 1, 1) := by decide +kernel
theorem dX8_who_11 : decode cX8_who 11 = .ok (.invokevirtual 372, 3) := by decide +kernel
theorem dX8_who_14 : decode cX8_who 14 = .ok (.goto 5, 3) := by decide +kernel
theorem dX8_who_17 : decode cX8_who 17 = .ok (.bipush (-2), 2) := by decide +kernel
theorem dX8_who_19 : decode cX8_who 19 = .ok (.ireturn, 1) := by decide +kernel
set_option maxRecDepth 4000 in
theorem kX8_who (G : GT) {σ : St} {a1 : Int32} : ∀ (r : Int32) , fX8_who σ a1 = some r → MCt G 7 yX8_who cX8_who 2 (some .int) [.ref (gad G 62), .int a1] σ (some (.int r)) σ := by
  intro r hF
  refine met_i (by decide) (Nat.le_of_ble_eq_true rfl) (fun X cx hE => ?_)
  have cx : Cx G X RX8 cX8_who 2 7 := cx
  unfold fX8_who at hF
  show WW G X 2 σ [(0, .ref (gad G 62)), (1, .int a1)] 0 []
  refine ww_aload_n cx dX8_who_0 rfl 0 rfl ?_
  refine ww_iload_n cx dX8_who_1 rfl 1 rfl ?_
  refine ww_i2l cx dX8_who_2 ?_
  refine ww_V1_pi kv_X8_269 rfl cx sh_62 ⟨Nat.le_of_ble_eq_true rfl, Nat.le_of_ble_eq_true rfl⟩ (Nat.le_of_ble_eq_true rfl) dX8_who_3 (kX8_isClaim G) hF (fun r1 hF => ?_)
  refine ww_if_eq cx dX8_who_6 (tgt := 17) rfl hF (fun hF => ?_) (fun hF => ?_)
  · refine ww_bipush cx dX8_who_17 bc_m2 ?_
    exact ww_rip hE dX8_who_19 hF
  · refine ww_aload_n cx dX8_who_9 rfl 0 rfl ?_
    refine ww_iload_n cx dX8_who_10 rfl 1 rfl ?_
    refine ww_V1_pi kv_X8_372 rfl cx sh_62 ⟨Nat.le_of_ble_eq_true rfl, Nat.le_of_ble_eq_true rfl⟩ (Nat.le_of_ble_eq_true rfl) dX8_who_11 (kX8_whoOf G) hF (fun r2 hF => ?_)
    refine ww_goto cx dX8_who_14 (tgt := 19) rfl ?_
    exact ww_rip hE dX8_who_19 hF
theorem dX8_wrong_0 : decode cX8_wrong 0 = .ok (.aload_n 0, 1) := by decide +kernel
theorem dX8_wrong_1 : decode cX8_wrong 1 = .ok (.invokevirtual 291, 3) := by decide +kernel
theorem dX8_wrong_4 : decode cX8_wrong 4 = .ok (.ifCond .eq 17, 3) := by decide +kernel
theorem dX8_wrong_7 : decode cX8_wrong 7 = .ok (.aload_n 0, 1) := by decide +kernel
theorem dX8_wrong_8 : decode cX8_wrong 8 = .ok (.invokevirtual 310, 3) := by decide +kernel
theorem dX8_wrong_11 : decode cX8_wrong 11 = .ok (.aload_n 0, 1) := by decide +kernel
theorem dX8_wrong_12 : decode cX8_wrong 12 = .ok (.invokevirtual 313, 3) := by decide +kernel
theorem dX8_wrong_15 : decode cX8_wrong 15 = .ok (.iconst (-1), 1) := by decide +kernel
theorem dX8_wrong_16 : decode cX8_wrong 16 = .ok (.ixor, 1) := by decide +kernel
theorem dX8_wrong_17 : decode cX8_wrong 17 = .ok (.iand, 1) := by decide +kernel
theorem dX8_wrong_18 : decode cX8_wrong 18 = .ok (.goto 5, 3) := by decide +kernel
theorem dX8_wrong_21 : decode cX8_wrong 21 = .ok (.bipush (-2), 2) := by decide +kernel
theorem dX8_wrong_23 : decode cX8_wrong 23 = .ok (.ireturn, 1) := by decide +kernel
set_option maxRecDepth 4000 in
theorem kX8_wrong (G : GT) {σ : St} : ∀ (r : Int32) , fX8_wrong σ = some r → MCt G 7 yX8_wrong cX8_wrong 1 (some .int) [.ref (gad G 62)] σ (some (.int r)) σ := by
  intro r hF
  refine met_i (by decide) (Nat.le_of_ble_eq_true rfl) (fun X cx hE => ?_)
  have cx : Cx G X RX8 cX8_wrong 1 7 := cx
  unfold fX8_wrong at hF
  show WW G X 1 σ [(0, .ref (gad G 62))] 0 []
  refine ww_aload_n cx dX8_wrong_0 rfl 0 rfl ?_
  refine ww_V0_pi kv_X8_291 rfl cx sh_62 ⟨Nat.le_of_ble_eq_true rfl, Nat.le_of_ble_eq_true rfl⟩ (Nat.le_of_ble_eq_true rfl) dX8_wrong_1 (kX8_isTable G) hF (fun r1 hF => ?_)
  refine ww_if_eq cx dX8_wrong_4 (tgt := 21) rfl hF (fun hF => ?_) (fun hF => ?_)
  · refine ww_bipush cx dX8_wrong_21 bc_m2 ?_
    exact ww_rip hE dX8_wrong_23 hF
  · refine ww_aload_n cx dX8_wrong_7 rfl 0 rfl ?_
    refine ww_V0_pi kv_X8_310 rfl cx sh_62 ⟨Nat.le_of_ble_eq_true rfl, Nat.le_of_ble_eq_true rfl⟩ (Nat.le_of_ble_eq_true rfl) dX8_wrong_8 (kX8_provedNow G) hF (fun r2 hF => ?_)
    refine ww_aload_n cx dX8_wrong_11 rfl 0 rfl ?_
    refine ww_V0_pi kv_X8_313 rfl cx sh_62 ⟨Nat.le_of_ble_eq_true rfl, Nat.le_of_ble_eq_true rfl⟩ (Nat.le_of_ble_eq_true rfl) dX8_wrong_12 (kX8_following G) hF (fun r3 hF => ?_)
    refine ww_iconst cx dX8_wrong_15 ic_m1 ?_
    refine ww_ixor cx dX8_wrong_16 ?_
    refine ww_iand cx dX8_wrong_17 ?_
    refine ww_goto cx dX8_wrong_18 (tgt := 23) rfl ?_
    exact ww_rip hE dX8_wrong_23 hF
theorem dX7_brings_0 : decode cX7_brings 0 = .ok (.aload_n 0, 1) := by decide +kernel
theorem dX7_brings_1 : decode cX7_brings 1 = .ok (.getfield 19, 3) := by decide +kernel
theorem dX7_brings_4 : decode cX7_brings 4 = .ok (.iload_n 1, 1) := by decide +kernel
theorem dX7_brings_5 : decode cX7_brings 5 = .ok (.invokevirtual 137, 3) := by decide +kernel
theorem dX7_brings_8 : decode cX7_brings 8 = .ok (.ifCond .ne 6, 3) := by decide +kernel
theorem dX7_brings_11 : decode cX7_brings 11 = .ok (.bipush (-2), 2) := by decide +kernel
theorem dX7_brings_13 : decode cX7_brings 13 = .ok (.ireturn, 1) := by decide +kernel
theorem dX7_brings_14 : decode cX7_brings 14 = .ok (.aload_n 0, 1) := by decide +kernel
theorem dX7_brings_15 : decode cX7_brings 15 = .ok (.iload_n 1, 1) := by decide +kernel
theorem dX7_brings_16 : decode cX7_brings 16 = .ok (.invokevirtual 258, 3) := by decide +kernel
theorem dX7_brings_19 : decode cX7_brings 19 = .ok (.istore_n 2, 1) := by decide +kernel
theorem dX7_brings_20 : decode cX7_brings 20 = .ok (.iload_n 2, 1) := by decide +kernel
theorem dX7_brings_21 : decode cX7_brings 21 = .ok (.iconst (-1), 1) := by decide +kernel
theorem dX7_brings_22 : decode cX7_brings 22 = .ok (.if_icmp .ne 7, 3) := by decide +kernel
theorem dX7_brings_25 : decode cX7_brings 25 = .ok (.iconst 0, 1) := by decide +kernel
theorem dX7_brings_26 : decode cX7_brings 26 = .ok (.goto 16, 3) := by decide +kernel
theorem dX7_brings_29 : decode cX7_brings 29 = .ok (.aload_n 0, 1) := by decide +kernel
theorem dX7_brings_30 : decode cX7_brings 30 = .ok (.iload_n 1, 1) := by decide +kernel
theorem dX7_brings_31 : decode cX7_brings 31 = .ok (.iload_n 2, 1) := by decide +kernel
theorem dX7_brings_32 : decode cX7_brings 32 = .ok (.invokevirtual 255, 3) := by decide +kernel
theorem dX7_brings_35 : decode cX7_brings 35 = .ok (.aload_n 0, 1) := by decide +kernel
theorem dX7_brings_36 : decode cX7_brings 36 = .ok (.iload_n 1, 1) := by decide +kernel
theorem dX7_brings_37 : decode cX7_brings 37 = .ok (.iconst 0, 1) := by decide +kernel
theorem dX7_brings_38 : decode cX7_brings 38 = .ok (.invokevirtual 231, 3) := by decide +kernel
theorem dX7_brings_41 : decode cX7_brings 41 = .ok (.isub, 1) := by decide +kernel
theorem dX7_brings_42 : decode cX7_brings 42 = .ok (.ireturn, 1) := by decide +kernel
set_option maxRecDepth 4000 in
theorem kX7_brings (G : GT) {σ : St} {a1 : Int32} : ∀ (r : Int32) (σo : St) , fX7_brings σ a1 = some (r, σo) → MCt G 8 yX7_brings cX7_brings 3 (some .int) [.ref (gad G 0), .int a1] σ (some (.int r)) σo := by
  intro r σo hF
  refine met_i (by decide) (Nat.le_of_ble_eq_true rfl) (fun X cx hE => ?_)
  have cx : Cx G X RX7 cX7_brings 3 8 := cx
  unfold fX7_brings at hF
  show WW G X 3 σ [(0, .ref (gad G 0)), (1, .int a1)] 0 []
  refine ww_aload_n cx dX7_brings_0 rfl 0 rfl ?_
  refine gf_X7_19 cx dX7_brings_1 ?_
  refine ww_iload_n cx dX7_brings_4 rfl 1 rfl ?_
  refine ww_V1_pi kv_X7_137 rfl cx ((isTab_3).1) ⟨Nat.le_of_ble_eq_true rfl, Nat.le_of_ble_eq_true rfl⟩ (Nat.le_of_ble_eq_true rfl) dX7_brings_5 (kX6_hasGuest G (isTab_3)) hF (fun r1 hF => ?_)
  refine ww_if_ne cx dX7_brings_8 (tgt := 14) rfl hF (fun hF => ?_) (fun hF => ?_)
  · refine ww_aload_n cx dX7_brings_14 rfl 0 rfl ?_
    refine ww_iload_n cx dX7_brings_15 rfl 1 rfl ?_
    refine ww_V1_si kv_X7_258 rfl cx sh_0 ⟨Nat.le_of_ble_eq_true rfl, Nat.le_of_ble_eq_true rfl⟩ (Nat.le_of_ble_eq_true rfl) dX7_brings_16 (kX7_lemma G) hF (fun r2 σ3 hF => ?_)
    refine ww_istore_n (ks := [0, 1, 2]) (lv' := fun v4 => [(2, .int v4), (0, .ref (gad G 0)), (1, .int a1)]) cx dX7_brings_19 rfl (by decide) hF (fun _ => rfl) (fun v4 hF => ?_)
    refine ww_iload_n cx dX7_brings_20 rfl 0 rfl ?_
    refine ww_iconst cx dX7_brings_21 ic_m1 ?_
    refine ww_icmp_ne cx dX7_brings_22 (tgt := 29) rfl hF (fun hF => ?_) (fun hF => ?_)
    · refine ww_aload_n cx dX7_brings_29 rfl 1 rfl ?_
      refine ww_iload_n cx dX7_brings_30 rfl 2 rfl ?_
      refine ww_iload_n cx dX7_brings_31 rfl 0 rfl ?_
      refine ww_V2_si kv_X7_255 rfl cx sh_0 ⟨Nat.le_of_ble_eq_true rfl, Nat.le_of_ble_eq_true rfl⟩ (Nat.le_of_ble_eq_true rfl) dX7_brings_32 (kX7_worthWithLemma G) hF (fun r5 σ6 hF => ?_)
      refine ww_aload_n cx dX7_brings_35 rfl 1 rfl ?_
      refine ww_iload_n cx dX7_brings_36 rfl 2 rfl ?_
      refine ww_iconst cx dX7_brings_37 ic_0 ?_
      refine ww_V2_si kv_X7_231 rfl cx sh_0 ⟨Nat.le_of_ble_eq_true rfl, Nat.le_of_ble_eq_true rfl⟩ (Nat.le_of_ble_eq_true rfl) dX7_brings_38 (kX7_menuWorth G) hF (fun r7 σ8 hF => ?_)
      refine ww_isub cx dX7_brings_41 ?_
      exact ww_ris hE dX7_brings_42 hF
    · refine ww_iconst cx dX7_brings_25 ic_0 ?_
      refine ww_goto cx dX7_brings_26 (tgt := 42) rfl ?_
      exact ww_ris hE dX7_brings_42 hF
  · refine ww_bipush cx dX7_brings_11 bc_m2 ?_
    exact ww_ris hE dX7_brings_13 hF
theorem dX2_readGuest_0 : decode cX2_readGuest 0 = .ok (.aload_n 1, 1) := by decide +kernel
theorem dX2_readGuest_1 : decode cX2_readGuest 1 = .ok (.getfield 141, 3) := by decide +kernel
theorem dX2_readGuest_4 : decode cX2_readGuest 4 = .ok (.iconst 5, 1) := by decide +kernel
theorem dX2_readGuest_5 : decode cX2_readGuest 5 = .ok (.if_icmp .lt 9, 3) := by decide +kernel
theorem dX2_readGuest_8 : decode cX2_readGuest 8 = .ok (.aload_n 0, 1) := by decide +kernel
theorem dX2_readGuest_9 : decode cX2_readGuest 9 = .ok (.iconst 3, 1) := by decide +kernel
theorem dX2_readGuest_10 : decode cX2_readGuest 10 = .ok (.invokevirtual 77, 3) := by decide +kernel
theorem dX2_readGuest_13 : decode cX2_readGuest 13 = .ok (.ireturn, 1) := by decide +kernel
theorem dX2_readGuest_14 : decode cX2_readGuest 14 = .ok (.aload_n 0, 1) := by decide +kernel
theorem dX2_readGuest_15 : decode cX2_readGuest 15 = .ok (.invokevirtual 33, 3) := by decide +kernel
theorem dX2_readGuest_18 : decode cX2_readGuest 18 = .ok (.aload_n 0, 1) := by decide +kernel
theorem dX2_readGuest_19 : decode cX2_readGuest 19 = .ok (.ldc 144, 2) := by decide +kernel
theorem dX2_readGuest_21 : decode cX2_readGuest 21 = .ok (.iconst 1, 1) := by decide +kernel
theorem dX2_readGuest_22 : decode cX2_readGuest 22 = .ok (.bipush 9, 2) := by decide +kernel
theorem dX2_readGuest_24 : decode cX2_readGuest 24 = .ok (.invokevirtual 88, 3) := by decide +kernel
theorem dX2_readGuest_27 : decode cX2_readGuest 27 = .ok (.istore_n 2, 1) := by decide +kernel
theorem dX2_readGuest_28 : decode cX2_readGuest 28 = .ok (.iload_n 2, 1) := by decide +kernel
theorem dX2_readGuest_29 : decode cX2_readGuest 29 = .ok (.iconst (-1), 1) := by decide +kernel
theorem dX2_readGuest_30 : decode cX2_readGuest 30 = .ok (.if_icmp .eq 12, 3) := by decide +kernel
theorem dX2_readGuest_33 : decode cX2_readGuest 33 = .ok (.aload_n 0, 1) := by decide +kernel
theorem dX2_readGuest_34 : decode cX2_readGuest 34 = .ok (.ldc 146, 2) := by decide +kernel
theorem dX2_readGuest_36 : decode cX2_readGuest 36 = .ok (.invokevirtual 83, 3) := by decide +kernel
theorem dX2_readGuest_39 : decode cX2_readGuest 39 = .ok (.ifCond .ne 5, 3) := by decide +kernel
theorem dX2_readGuest_42 : decode cX2_readGuest 42 = .ok (.iconst 0, 1) := by decide +kernel
theorem dX2_readGuest_43 : decode cX2_readGuest 43 = .ok (.ireturn, 1) := by decide +kernel
theorem dX2_readGuest_44 : decode cX2_readGuest 44 = .ok (.aload_n 0, 1) := by decide +kernel
theorem dX2_readGuest_45 : decode cX2_readGuest 45 = .ok (.aload_n 1, 1) := by decide +kernel
theorem dX2_readGuest_46 : decode cX2_readGuest 46 = .ok (.getfield 129, 3) := by decide +kernel
theorem dX2_readGuest_49 : decode cX2_readGuest 49 = .ok (.bipush 12, 2) := by decide +kernel
theorem dX2_readGuest_51 : decode cX2_readGuest 51 = .ok (.invokevirtual 134, 3) := by decide +kernel
theorem dX2_readGuest_54 : decode cX2_readGuest 54 = .ok (.istore_n 3, 1) := by decide +kernel
theorem dX2_readGuest_55 : decode cX2_readGuest 55 = .ok (.iload_n 3, 1) := by decide +kernel
theorem dX2_readGuest_56 : decode cX2_readGuest 56 = .ok (.iconst (-1), 1) := by decide +kernel
theorem dX2_readGuest_57 : decode cX2_readGuest 57 = .ok (.if_icmp .ne 5, 3) := by decide +kernel
theorem dX2_readGuest_60 : decode cX2_readGuest 60 = .ok (.iconst 0, 1) := by decide +kernel
theorem dX2_readGuest_61 : decode cX2_readGuest 61 = .ok (.ireturn, 1) := by decide +kernel
theorem dX2_readGuest_62 : decode cX2_readGuest 62 = .ok (.aload_n 1, 1) := by decide +kernel
theorem dX2_readGuest_63 : decode cX2_readGuest 63 = .ok (.getfield 148, 3) := by decide +kernel
theorem dX2_readGuest_66 : decode cX2_readGuest 66 = .ok (.aload_n 1, 1) := by decide +kernel
theorem dX2_readGuest_67 : decode cX2_readGuest 67 = .ok (.getfield 141, 3) := by decide +kernel
theorem dX2_readGuest_70 : decode cX2_readGuest 70 = .ok (.iload_n 2, 1) := by decide +kernel
theorem dX2_readGuest_71 : decode cX2_readGuest 71 = .ok (.iastore, 1) := by decide +kernel
theorem dX2_readGuest_72 : decode cX2_readGuest 72 = .ok (.aload_n 1, 1) := by decide +kernel
theorem dX2_readGuest_73 : decode cX2_readGuest 73 = .ok (.getfield 150, 3) := by decide +kernel
theorem dX2_readGuest_76 : decode cX2_readGuest 76 = .ok (.aload_n 1, 1) := by decide +kernel
theorem dX2_readGuest_77 : decode cX2_readGuest 77 = .ok (.getfield 141, 3) := by decide +kernel
theorem dX2_readGuest_80 : decode cX2_readGuest 80 = .ok (.iload_n 3, 1) := by decide +kernel
theorem dX2_readGuest_81 : decode cX2_readGuest 81 = .ok (.iastore, 1) := by decide +kernel
theorem dX2_readGuest_82 : decode cX2_readGuest 82 = .ok (.aload_n 1, 1) := by decide +kernel
theorem dX2_readGuest_83 : decode cX2_readGuest 83 = .ok (.dup, 1) := by decide +kernel
theorem dX2_readGuest_84 : decode cX2_readGuest 84 = .ok (.getfield 141, 3) := by decide +kernel
theorem dX2_readGuest_87 : decode cX2_readGuest 87 = .ok (.iconst 1, 1) := by decide +kernel
theorem dX2_readGuest_88 : decode cX2_readGuest 88 = .ok (.iadd, 1) := by decide +kernel
theorem dX2_readGuest_89 : decode cX2_readGuest 89 = .ok (.putfield 141, 3) := by decide +kernel
theorem dX2_readGuest_92 : decode cX2_readGuest 92 = .ok (.iconst 1, 1) := by decide +kernel
theorem dX2_readGuest_93 : decode cX2_readGuest 93 = .ok (.ireturn, 1) := by decide +kernel
set_option maxRecDepth 4000 in
theorem kX2_readGuest (G : GT) {σ : St} {t : Nat} (ht : isTab t) : ∀ (r : Int32) (σo : St) , fX2_readGuest σ t = some (r, σo) → MCt G 8 yX2_readGuest cX2_readGuest 4 (some .boolean) [.ref (gad G 1), .ref (gad G t)] σ (some (.int r)) σo := by
  intro r σo hF
  refine met_zz (by decide) (Nat.le_of_ble_eq_true rfl) (fun X cx hE => ?_)
  have cx : Cx G X RX2 cX2_readGuest 4 8 := cx
  unfold fX2_readGuest at hF
  show WW G X 4 σ [(0, .ref (gad G 1)), (1, .ref (gad G t))] 0 []
  refine ww_aload_n cx dX2_readGuest_0 rfl 1 rfl ?_
  refine gf_X2_141 cx (ht) dX2_readGuest_1 ?_
  refine ww_iconst cx dX2_readGuest_4 ic_5 ?_
  refine ww_icmp_lt cx dX2_readGuest_5 (tgt := 14) rfl hF (fun hF => ?_) (fun hF => ?_)
  · refine ww_aload_n cx dX2_readGuest_14 rfl 0 rfl ?_
    refine ww_V0_sv kv_X2_33 rfl cx sh_1 ⟨Nat.le_of_ble_eq_true rfl, Nat.le_of_ble_eq_true rfl⟩ (Nat.le_of_ble_eq_true rfl) dX2_readGuest_15 (kX2_advance G) hF (fun σ1 hF => ?_)
    refine ww_aload_n cx dX2_readGuest_18 rfl 0 rfl ?_
    refine ww_ldcS (w := 16) (tx := "speed") cx (by decide +kernel) dX2_readGuest_19 ?_
    refine ww_iconst cx dX2_readGuest_21 ic_1 ?_
    refine ww_bipush cx dX2_readGuest_22 bc_9 ?_
    refine ww_V3_si kv_X2_88 rfl cx sh_1 ⟨Nat.le_of_ble_eq_true rfl, Nat.le_of_ble_eq_true rfl⟩ (Nat.le_of_ble_eq_true rfl) dX2_readGuest_24 (kX2_readNamed G (by decide)) hF (fun r2 σ3 hF => ?_)
    refine ww_istore_n (ks := [0, 1, 2]) (lv' := fun v4 => [(2, .int v4), (0, .ref (gad G 1)), (1, .ref (gad G t))]) cx dX2_readGuest_27 rfl (by decide) hF (fun _ => rfl) (fun v4 hF => ?_)
    refine ww_iload_n cx dX2_readGuest_28 rfl 0 rfl ?_
    refine ww_iconst cx dX2_readGuest_29 ic_m1 ?_
    refine ww_icmp_eq cx dX2_readGuest_30 (tgt := 42) rfl hF (fun hF => ?_) (fun hF => ?_)
    · refine ww_iconst cx dX2_readGuest_42 ic_0 ?_
      exact ww_rzs hE dX2_readGuest_43 hF
    · refine ww_aload_n cx dX2_readGuest_33 rfl 1 rfl ?_
      refine ww_ldcS (w := 17) (tx := "knows") cx (by decide +kernel) dX2_readGuest_34 ?_
      refine ww_V1_si kv_X2_83 rfl cx sh_1 ⟨Nat.le_of_ble_eq_true rfl, Nat.le_of_ble_eq_true rfl⟩ (Nat.le_of_ble_eq_true rfl) dX2_readGuest_36 (kX2_readWord G (by decide)) hF (fun r5 σ6 hF => ?_)
      refine ww_if_ne cx dX2_readGuest_39 (tgt := 44) rfl hF (fun hF => ?_) (fun hF => ?_)
      · refine ww_aload_n cx dX2_readGuest_44 rfl 1 rfl ?_
        refine ww_aload_n cx dX2_readGuest_45 rfl 2 rfl ?_
        refine gf_X2_129 cx (ht) dX2_readGuest_46 ?_
        refine ww_bipush cx dX2_readGuest_49 bc_12 ?_
        refine ww_V2_si kv_X2_134 rfl cx sh_1 ⟨Nat.le_of_ble_eq_true rfl, Nat.le_of_ble_eq_true rfl⟩ (Nat.le_of_ble_eq_true rfl) dX2_readGuest_51 (kX2_readSet G) hF (fun r7 σ8 hF => ?_)
        refine ww_istore_n (ks := [0, 1, 3]) (lv' := fun v9 => [(3, .int v9), (2, .int v4), (1, .ref (gad G t))]) cx dX2_readGuest_54 rfl (by decide) hF (fun _ => rfl) (fun v9 hF => ?_)
        refine ww_iload_n cx dX2_readGuest_55 rfl 0 rfl ?_
        refine ww_iconst cx dX2_readGuest_56 ic_m1 ?_
        refine ww_icmp_ne cx dX2_readGuest_57 (tgt := 62) rfl hF (fun hF => ?_) (fun hF => ?_)
        · refine ww_aload_n cx dX2_readGuest_62 rfl 2 rfl ?_
          refine gf_X2_148 cx (ht) dX2_readGuest_63 ?_
          refine ww_aload_n cx dX2_readGuest_66 rfl 2 rfl ?_
          refine gf_X2_141 cx (ht) dX2_readGuest_67 ?_
          refine ww_iload_n cx dX2_readGuest_70 rfl 1 rfl ?_
          refine ww_iast (N := 5) cx (ar_X6_12 ht) dX2_readGuest_71 hF (fun σ10 hF => ?_)
          refine ww_aload_n cx dX2_readGuest_72 rfl 2 rfl ?_
          refine gf_X2_150 cx (ht) dX2_readGuest_73 ?_
          refine ww_aload_n cx dX2_readGuest_76 rfl 2 rfl ?_
          refine gf_X2_141 cx (ht) dX2_readGuest_77 ?_
          refine ww_iload_n cx dX2_readGuest_80 rfl 0 rfl ?_
          refine ww_iast (N := 5) cx (ar_X6_13 ht) dX2_readGuest_81 hF (fun σ11 hF => ?_)
          refine ww_aload_n cx dX2_readGuest_82 rfl 2 rfl ?_
          refine ww_dup cx dX2_readGuest_83 rfl ?_
          refine gf_X2_141 cx (ht) dX2_readGuest_84 ?_
          refine ww_iconst cx dX2_readGuest_87 ic_1 ?_
          refine ww_iadd cx dX2_readGuest_88 ?_
          refine pf_X2_141 cx (ht) dX2_readGuest_89 hF (fun σ12 hF => ?_)
          refine ww_iconst cx dX2_readGuest_92 ic_1 ?_
          exact ww_rzs hE dX2_readGuest_93 hF
        · refine ww_iconst cx dX2_readGuest_60 ic_0 ?_
          exact ww_rzs hE dX2_readGuest_61 hF
      · refine ww_iconst cx dX2_readGuest_42 ic_0 ?_
        exact ww_rzs hE dX2_readGuest_43 hF
  · refine ww_aload_n cx dX2_readGuest_8 rfl 0 rfl ?_
    refine ww_iconst cx dX2_readGuest_9 ic_3 ?_
    refine ww_V1_si kv_X2_77 rfl cx sh_1 ⟨Nat.le_of_ble_eq_true rfl, Nat.le_of_ble_eq_true rfl⟩ (Nat.le_of_ble_eq_true rfl) dX2_readGuest_10 (kX2_fail G) hF (fun r13 σ14 hF => ?_)
    exact ww_rzs hE dX2_readGuest_13 hF
theorem dX2_readHead_0 : decode cX2_readHead 0 = .ok (.aload_n 0, 1) := by decide +kernel
theorem dX2_readHead_1 : decode cX2_readHead 1 = .ok (.ldc 81, 2) := by decide +kernel
theorem dX2_readHead_3 : decode cX2_readHead 3 = .ok (.invokevirtual 83, 3) := by decide +kernel
theorem dX2_readHead_6 : decode cX2_readHead 6 = .ok (.ifCond .ne 5, 3) := by decide +kernel
theorem dX2_readHead_9 : decode cX2_readHead 9 = .ok (.iconst 0, 1) := by decide +kernel
theorem dX2_readHead_10 : decode cX2_readHead 10 = .ok (.ireturn, 1) := by decide +kernel
theorem dX2_readHead_11 : decode cX2_readHead 11 = .ok (.aload_n 1, 1) := by decide +kernel
theorem dX2_readHead_12 : decode cX2_readHead 12 = .ok (.aload_n 0, 1) := by decide +kernel
theorem dX2_readHead_13 : decode cX2_readHead 13 = .ok (.ldc 86, 2) := by decide +kernel
theorem dX2_readHead_15 : decode cX2_readHead 15 = .ok (.iconst 2, 1) := by decide +kernel
theorem dX2_readHead_16 : decode cX2_readHead 16 = .ok (.iconst 4, 1) := by decide +kernel
theorem dX2_readHead_17 : decode cX2_readHead 17 = .ok (.invokevirtual 88, 3) := by decide +kernel
theorem dX2_readHead_20 : decode cX2_readHead 20 = .ok (.putfield 92, 3) := by decide +kernel
theorem dX2_readHead_23 : decode cX2_readHead 23 = .ok (.aload_n 1, 1) := by decide +kernel
theorem dX2_readHead_24 : decode cX2_readHead 24 = .ok (.getfield 92, 3) := by decide +kernel
theorem dX2_readHead_27 : decode cX2_readHead 27 = .ok (.iconst (-1), 1) := by decide +kernel
theorem dX2_readHead_28 : decode cX2_readHead 28 = .ok (.if_icmp .ne 5, 3) := by decide +kernel
theorem dX2_readHead_31 : decode cX2_readHead 31 = .ok (.iconst 0, 1) := by decide +kernel
theorem dX2_readHead_32 : decode cX2_readHead 32 = .ok (.ireturn, 1) := by decide +kernel
theorem dX2_readHead_33 : decode cX2_readHead 33 = .ok (.aload_n 1, 1) := by decide +kernel
theorem dX2_readHead_34 : decode cX2_readHead 34 = .ok (.aload_n 0, 1) := by decide +kernel
theorem dX2_readHead_35 : decode cX2_readHead 35 = .ok (.ldc 94, 2) := by decide +kernel
theorem dX2_readHead_37 : decode cX2_readHead 37 = .ok (.iconst 1, 1) := by decide +kernel
theorem dX2_readHead_38 : decode cX2_readHead 38 = .ok (.bipush 99, 2) := by decide +kernel
theorem dX2_readHead_40 : decode cX2_readHead 40 = .ok (.invokevirtual 88, 3) := by decide +kernel
theorem dX2_readHead_43 : decode cX2_readHead 43 = .ok (.putfield 96, 3) := by decide +kernel
theorem dX2_readHead_46 : decode cX2_readHead 46 = .ok (.aload_n 1, 1) := by decide +kernel
theorem dX2_readHead_47 : decode cX2_readHead 47 = .ok (.getfield 96, 3) := by decide +kernel
theorem dX2_readHead_50 : decode cX2_readHead 50 = .ok (.iconst (-1), 1) := by decide +kernel
theorem dX2_readHead_51 : decode cX2_readHead 51 = .ok (.if_icmp .ne 5, 3) := by decide +kernel
theorem dX2_readHead_54 : decode cX2_readHead 54 = .ok (.iconst 0, 1) := by decide +kernel
theorem dX2_readHead_55 : decode cX2_readHead 55 = .ok (.ireturn, 1) := by decide +kernel
theorem dX2_readHead_56 : decode cX2_readHead 56 = .ok (.aload_n 1, 1) := by decide +kernel
theorem dX2_readHead_57 : decode cX2_readHead 57 = .ok (.aload_n 0, 1) := by decide +kernel
theorem dX2_readHead_58 : decode cX2_readHead 58 = .ok (.ldc 98, 2) := by decide +kernel
theorem dX2_readHead_60 : decode cX2_readHead 60 = .ok (.iconst 0, 1) := by decide +kernel
theorem dX2_readHead_61 : decode cX2_readHead 61 = .ok (.bipush 100, 2) := by decide +kernel
theorem dX2_readHead_63 : decode cX2_readHead 63 = .ok (.invokevirtual 88, 3) := by decide +kernel
theorem dX2_readHead_66 : decode cX2_readHead 66 = .ok (.putfield 100, 3) := by decide +kernel
theorem dX2_readHead_69 : decode cX2_readHead 69 = .ok (.aload_n 1, 1) := by decide +kernel
theorem dX2_readHead_70 : decode cX2_readHead 70 = .ok (.getfield 100, 3) := by decide +kernel
theorem dX2_readHead_73 : decode cX2_readHead 73 = .ok (.iconst (-1), 1) := by decide +kernel
theorem dX2_readHead_74 : decode cX2_readHead 74 = .ok (.if_icmp .eq 7, 3) := by decide +kernel
theorem dX2_readHead_77 : decode cX2_readHead 77 = .ok (.iconst 1, 1) := by decide +kernel
theorem dX2_readHead_78 : decode cX2_readHead 78 = .ok (.goto 4, 3) := by decide +kernel
theorem dX2_readHead_81 : decode cX2_readHead 81 = .ok (.iconst 0, 1) := by decide +kernel
theorem dX2_readHead_82 : decode cX2_readHead 82 = .ok (.ireturn, 1) := by decide +kernel
set_option maxRecDepth 4000 in
theorem kX2_readHead (G : GT) {σ : St} {t : Nat} (ht : isTab t) : ∀ (r : Int32) (σo : St) , fX2_readHead σ t = some (r, σo) → MCt G 8 yX2_readHead cX2_readHead 2 (some .boolean) [.ref (gad G 1), .ref (gad G t)] σ (some (.int r)) σo := by
  intro r σo hF
  refine met_zz (by decide) (Nat.le_of_ble_eq_true rfl) (fun X cx hE => ?_)
  have cx : Cx G X RX2 cX2_readHead 2 8 := cx
  unfold fX2_readHead at hF
  show WW G X 2 σ [(0, .ref (gad G 1)), (1, .ref (gad G t))] 0 []
  refine ww_aload_n cx dX2_readHead_0 rfl 0 rfl ?_
  refine ww_ldcS (w := 0) (tx := "table") cx (by decide +kernel) dX2_readHead_1 ?_
  refine ww_V1_si kv_X2_83 rfl cx sh_1 ⟨Nat.le_of_ble_eq_true rfl, Nat.le_of_ble_eq_true rfl⟩ (Nat.le_of_ble_eq_true rfl) dX2_readHead_3 (kX2_readWord G (by decide)) hF (fun r1 σ2 hF => ?_)
  refine ww_if_ne cx dX2_readHead_6 (tgt := 11) rfl hF (fun hF => ?_) (fun hF => ?_)
  · refine ww_aload_n cx dX2_readHead_11 rfl 1 rfl ?_
    refine ww_aload_n cx dX2_readHead_12 rfl 0 rfl ?_
    refine ww_ldcS (w := 1) (tx := "atoms") cx (by decide +kernel) dX2_readHead_13 ?_
    refine ww_iconst cx dX2_readHead_15 ic_2 ?_
    refine ww_iconst cx dX2_readHead_16 ic_4 ?_
    refine ww_V3_si kv_X2_88 rfl cx sh_1 ⟨Nat.le_of_ble_eq_true rfl, Nat.le_of_ble_eq_true rfl⟩ (Nat.le_of_ble_eq_true rfl) dX2_readHead_17 (kX2_readNamed G (by decide)) hF (fun r3 σ4 hF => ?_)
    refine pf_X2_92 cx (ht) dX2_readHead_20 hF (fun σ5 hF => ?_)
    refine ww_aload_n cx dX2_readHead_23 rfl 1 rfl ?_
    refine gf_X2_92 cx (ht) dX2_readHead_24 ?_
    refine ww_iconst cx dX2_readHead_27 ic_m1 ?_
    refine ww_icmp_ne cx dX2_readHead_28 (tgt := 33) rfl hF (fun hF => ?_) (fun hF => ?_)
    · refine ww_aload_n cx dX2_readHead_33 rfl 1 rfl ?_
      refine ww_aload_n cx dX2_readHead_34 rfl 0 rfl ?_
      refine ww_ldcS (w := 2) (tx := "hours") cx (by decide +kernel) dX2_readHead_35 ?_
      refine ww_iconst cx dX2_readHead_37 ic_1 ?_
      refine ww_bipush cx dX2_readHead_38 bc_99 ?_
      refine ww_V3_si kv_X2_88 rfl cx sh_1 ⟨Nat.le_of_ble_eq_true rfl, Nat.le_of_ble_eq_true rfl⟩ (Nat.le_of_ble_eq_true rfl) dX2_readHead_40 (kX2_readNamed G (by decide)) hF (fun r6 σ7 hF => ?_)
      refine pf_X2_96 cx (ht) dX2_readHead_43 hF (fun σ8 hF => ?_)
      refine ww_aload_n cx dX2_readHead_46 rfl 1 rfl ?_
      refine gf_X2_96 cx (ht) dX2_readHead_47 ?_
      refine ww_iconst cx dX2_readHead_50 ic_m1 ?_
      refine ww_icmp_ne cx dX2_readHead_51 (tgt := 56) rfl hF (fun hF => ?_) (fun hF => ?_)
      · refine ww_aload_n cx dX2_readHead_56 rfl 1 rfl ?_
        refine ww_aload_n cx dX2_readHead_57 rfl 0 rfl ?_
        refine ww_ldcS (w := 3) (tx := "holes") cx (by decide +kernel) dX2_readHead_58 ?_
        refine ww_iconst cx dX2_readHead_60 ic_0 ?_
        refine ww_bipush cx dX2_readHead_61 bc_100 ?_
        refine ww_V3_si kv_X2_88 rfl cx sh_1 ⟨Nat.le_of_ble_eq_true rfl, Nat.le_of_ble_eq_true rfl⟩ (Nat.le_of_ble_eq_true rfl) dX2_readHead_63 (kX2_readNamed G (by decide)) hF (fun r9 σ10 hF => ?_)
        refine pf_X2_100 cx (ht) dX2_readHead_66 hF (fun σ11 hF => ?_)
        refine ww_aload_n cx dX2_readHead_69 rfl 1 rfl ?_
        refine gf_X2_100 cx (ht) dX2_readHead_70 ?_
        refine ww_iconst cx dX2_readHead_73 ic_m1 ?_
        refine ww_icmp_eq cx dX2_readHead_74 (tgt := 81) rfl hF (fun hF => ?_) (fun hF => ?_)
        · refine ww_iconst cx dX2_readHead_81 ic_0 ?_
          exact ww_rzs hE dX2_readHead_82 hF
        · refine ww_iconst cx dX2_readHead_77 ic_1 ?_
          refine ww_goto cx dX2_readHead_78 (tgt := 82) rfl ?_
          exact ww_rzs hE dX2_readHead_82 hF
      · refine ww_iconst cx dX2_readHead_54 ic_0 ?_
        exact ww_rzs hE dX2_readHead_55 hF
    · refine ww_iconst cx dX2_readHead_31 ic_0 ?_
      exact ww_rzs hE dX2_readHead_32 hF
  · refine ww_iconst cx dX2_readHead_9 ic_0 ?_
    exact ww_rzs hE dX2_readHead_10 hF
theorem dX8_readStep_0 : decode cX8_readStep 0 = .ok (.bipush 43, 2) := by decide +kernel
theorem dX8_readStep_2 : decode cX8_readStep 2 = .ok (.iconst 2, 1) := by decide +kernel
theorem dX8_readStep_3 : decode cX8_readStep 3 = .ok (.aload_n 0, 1) := by decide +kernel
theorem dX8_readStep_4 : decode cX8_readStep 4 = .ok (.getfield 31, 3) := by decide +kernel
theorem dX8_readStep_7 : decode cX8_readStep 7 = .ok (.iconst 4, 1) := by decide +kernel
theorem dX8_readStep_8 : decode cX8_readStep 8 = .ok (.iaload, 1) := by decide +kernel
theorem dX8_readStep_9 : decode cX8_readStep 9 = .ok (.imul, 1) := by decide +kernel
theorem dX8_readStep_10 : decode cX8_readStep 10 = .ok (.iadd, 1) := by decide +kernel
theorem dX8_readStep_11 : decode cX8_readStep 11 = .ok (.istore_n 1, 1) := by decide +kernel
theorem dX8_readStep_12 : decode cX8_readStep 12 = .ok (.aload_n 0, 1) := by decide +kernel
theorem dX8_readStep_13 : decode cX8_readStep 13 = .ok (.invokevirtual 212, 3) := by decide +kernel
theorem dX8_readStep_16 : decode cX8_readStep 16 = .ok (.istore_n 2, 1) := by decide +kernel
theorem dX8_readStep_17 : decode cX8_readStep 17 = .ok (.aload_n 0, 1) := by decide +kernel
theorem dX8_readStep_18 : decode cX8_readStep 18 = .ok (.ldc 215, 2) := by decide +kernel
theorem dX8_readStep_20 : decode cX8_readStep 20 = .ok (.invokevirtual 161, 3) := by decide +kernel
theorem dX8_readStep_23 : decode cX8_readStep 23 = .ok (.iconst 0, 1) := by decide +kernel
theorem dX8_readStep_24 : decode cX8_readStep 24 = .ok (.istore_n 3, 1) := by decide +kernel
theorem dX8_readStep_25 : decode cX8_readStep 25 = .ok (.iconst 0, 1) := by decide +kernel
theorem dX8_readStep_26 : decode cX8_readStep 26 = .ok (.istore 4, 2) := by decide +kernel
theorem dX8_readStep_28 : decode cX8_readStep 28 = .ok (.iload 4, 2) := by decide +kernel
theorem dX8_readStep_30 : decode cX8_readStep 30 = .ok (.iconst 3, 1) := by decide +kernel
theorem dX8_readStep_31 : decode cX8_readStep 31 = .ok (.if_icmp .ne 21, 3) := by decide +kernel
theorem dX8_readStep_34 : decode cX8_readStep 34 = .ok (.aload_n 0, 1) := by decide +kernel
theorem dX8_readStep_35 : decode cX8_readStep 35 = .ok (.aload_n 0, 1) := by decide +kernel
theorem dX8_readStep_36 : decode cX8_readStep 36 = .ok (.getfield 31, 3) := by decide +kernel
theorem dX8_readStep_39 : decode cX8_readStep 39 = .ok (.iconst 3, 1) := by decide +kernel
theorem dX8_readStep_40 : decode cX8_readStep 40 = .ok (.iaload, 1) := by decide +kernel
theorem dX8_readStep_41 : decode cX8_readStep 41 = .ok (.invokevirtual 208, 3) := by decide +kernel
theorem dX8_readStep_44 : decode cX8_readStep 44 = .ok (.ifCond .eq 8, 3) := by decide +kernel
theorem dX8_readStep_47 : decode cX8_readStep 47 = .ok (.aload_n 0, 1) := by decide +kernel
theorem dX8_readStep_48 : decode cX8_readStep 48 = .ok (.iconst 3, 1) := by decide +kernel
theorem dX8_readStep_49 : decode cX8_readStep 49 = .ok (.invokevirtual 157, 3) := by decide +kernel
theorem dX8_readStep_52 : decode cX8_readStep 52 = .ok (.aload_n 0, 1) := by decide +kernel
theorem dX8_readStep_53 : decode cX8_readStep 53 = .ok (.invokevirtual 212, 3) := by decide +kernel
theorem dX8_readStep_56 : decode cX8_readStep 56 = .ok (.istore 5, 2) := by decide +kernel
theorem dX8_readStep_58 : decode cX8_readStep 58 = .ok (.aload_n 0, 1) := by decide +kernel
theorem dX8_readStep_59 : decode cX8_readStep 59 = .ok (.invokevirtual 134, 3) := by decide +kernel
theorem dX8_readStep_62 : decode cX8_readStep 62 = .ok (.ifCond .ne 4, 3) := by decide +kernel
theorem dX8_readStep_65 : decode cX8_readStep 65 = .ok (.return_, 1) := by decide +kernel
theorem dX8_readStep_66 : decode cX8_readStep 66 = .ok (.iload_n 3, 1) := by decide +kernel
theorem dX8_readStep_67 : decode cX8_readStep 67 = .ok (.iconst 1, 1) := by decide +kernel
theorem dX8_readStep_68 : decode cX8_readStep 68 = .ok (.iload 5, 2) := by decide +kernel
theorem dX8_readStep_70 : decode cX8_readStep 70 = .ok (.ishl, 1) := by decide +kernel
theorem dX8_readStep_71 : decode cX8_readStep 71 = .ok (.ior, 1) := by decide +kernel
theorem dX8_readStep_72 : decode cX8_readStep 72 = .ok (.istore_n 3, 1) := by decide +kernel
theorem dX8_readStep_73 : decode cX8_readStep 73 = .ok (.iinc 4 1, 3) := by decide +kernel
theorem dX8_readStep_76 : decode cX8_readStep 76 = .ok (.aload_n 0, 1) := by decide +kernel
theorem dX8_readStep_77 : decode cX8_readStep 77 = .ok (.getfield 111, 3) := by decide +kernel
theorem dX8_readStep_80 : decode cX8_readStep 80 = .ok (.iconst 3, 1) := by decide +kernel
theorem dX8_readStep_81 : decode cX8_readStep 81 = .ok (.if_icmp .ne (-53), 3) := by decide +kernel
theorem dX8_readStep_84 : decode cX8_readStep 84 = .ok (.aload_n 0, 1) := by decide +kernel
theorem dX8_readStep_85 : decode cX8_readStep 85 = .ok (.getfield 31, 3) := by decide +kernel
theorem dX8_readStep_88 : decode cX8_readStep 88 = .ok (.iload_n 1, 1) := by decide +kernel
theorem dX8_readStep_89 : decode cX8_readStep 89 = .ok (.iconst 0, 1) := by decide +kernel
theorem dX8_readStep_90 : decode cX8_readStep 90 = .ok (.iadd, 1) := by decide +kernel
theorem dX8_readStep_91 : decode cX8_readStep 91 = .ok (.iload_n 2, 1) := by decide +kernel
theorem dX8_readStep_92 : decode cX8_readStep 92 = .ok (.iastore, 1) := by decide +kernel
theorem dX8_readStep_93 : decode cX8_readStep 93 = .ok (.aload_n 0, 1) := by decide +kernel
theorem dX8_readStep_94 : decode cX8_readStep 94 = .ok (.getfield 31, 3) := by decide +kernel
theorem dX8_readStep_97 : decode cX8_readStep 97 = .ok (.iload_n 1, 1) := by decide +kernel
theorem dX8_readStep_98 : decode cX8_readStep 98 = .ok (.iconst 1, 1) := by decide +kernel
theorem dX8_readStep_99 : decode cX8_readStep 99 = .ok (.iadd, 1) := by decide +kernel
theorem dX8_readStep_100 : decode cX8_readStep 100 = .ok (.iload_n 3, 1) := by decide +kernel
theorem dX8_readStep_101 : decode cX8_readStep 101 = .ok (.iastore, 1) := by decide +kernel
theorem dX8_readStep_102 : decode cX8_readStep 102 = .ok (.aload_n 0, 1) := by decide +kernel
theorem dX8_readStep_103 : decode cX8_readStep 103 = .ok (.getfield 31, 3) := by decide +kernel
theorem dX8_readStep_106 : decode cX8_readStep 106 = .ok (.iconst 4, 1) := by decide +kernel
theorem dX8_readStep_107 : decode cX8_readStep 107 = .ok (.dup2, 1) := by decide +kernel
theorem dX8_readStep_108 : decode cX8_readStep 108 = .ok (.iaload, 1) := by decide +kernel
theorem dX8_readStep_109 : decode cX8_readStep 109 = .ok (.iconst 1, 1) := by decide +kernel
theorem dX8_readStep_110 : decode cX8_readStep 110 = .ok (.iadd, 1) := by decide +kernel
theorem dX8_readStep_111 : decode cX8_readStep 111 = .ok (.iastore, 1) := by decide +kernel
theorem dX8_readStep_112 : decode cX8_readStep 112 = .ok (.return_, 1) := by decide +kernel
set_option maxRecDepth 4000 in
theorem kX8_readStep (G : GT) {σ : St} : ∀ (σo : St) , fX8_readStep σ = some σo → MCt G 8 yX8_readStep cX8_readStep 6 (none) [.ref (gad G 62)] σ (none) σo := by
  intro σo hF
  refine met_v (by decide) (Nat.le_of_ble_eq_true rfl) (fun X cx hE => ?_)
  have cx : Cx G X RX8 cX8_readStep 6 8 := cx
  have hb52 : ∀ (kr28 : St → Int32 → Int32 → Int32 → Int32 → Option (St)), (∀ (σ : St) (x1 : Int32) (x2 : Int32) (x3 : Int32) (x4 : Int32) , kr28 σ x1 x2 x3 x4 = some σo → WW G X 6 σ [(0, .ref (gad G 62)), (1, .int x1), (2, .int x2), (3, .int x3), (4, .int x4)] 28 []) → ∀ (σ : St) (x1 : Int32) (x2 : Int32) (x3 : Int32) (x4 : Int32) , fX8_readStep_b52 kr28 σ x1 x2 x3 x4 = some σo → WW G X 6 σ [(0, .ref (gad G 62)), (1, .int x1), (2, .int x2), (3, .int x3), (4, .int x4)] 52 [] := by
    intro kr28 hk28
    intro σ x1 x2 x3 x4 hF
    unfold fX8_readStep_b52 at hF
    refine ww_aload_n cx dX8_readStep_52 rfl 0 rfl ?_
    refine ww_V0_si kv_X8_212 rfl cx sh_62 ⟨Nat.le_of_ble_eq_true rfl, Nat.le_of_ble_eq_true rfl⟩ (Nat.le_of_ble_eq_true rfl) dX8_readStep_53 (kX8_freshClaim G) hF (fun r1 σ2 hF => ?_)
    refine ww_istore (ks := [0, 1, 2, 3, 4, 5]) (lv' := fun v3 => [(5, .int v3), (0, .ref (gad G 62)), (1, .int x1), (2, .int x2), (3, .int x3), (4, .int x4)]) cx dX8_readStep_56 (by decide) hF (fun _ => rfl) (fun v3 hF => ?_)
    refine ww_aload_n cx dX8_readStep_58 rfl 1 rfl ?_
    refine ww_V0_pi kv_X8_134 rfl cx sh_62 ⟨Nat.le_of_ble_eq_true rfl, Nat.le_of_ble_eq_true rfl⟩ (Nat.le_of_ble_eq_true rfl) dX8_readStep_59 (kX8_good G) hF (fun r4 hF => ?_)
    refine ww_if_ne cx dX8_readStep_62 (tgt := 66) rfl hF (fun hF => ?_) (fun hF => ?_)
    · refine ww_iload_n cx dX8_readStep_66 rfl 4 rfl ?_
      refine ww_iconst cx dX8_readStep_67 ic_1 ?_
      refine ww_iload cx dX8_readStep_68 0 rfl ?_
      refine ww_ishl cx dX8_readStep_70 ?_
      refine ww_ior cx dX8_readStep_71 ?_
      refine ww_istore_n (ks := [0, 2, 3, 4, 5]) (lv' := fun v5 => [(3, .int v5), (0, .ref (gad G 62)), (1, .int x1), (2, .int x2), (4, .int x4)]) cx dX8_readStep_72 rfl (by decide) hF (fun _ => rfl) (fun v5 hF => ?_)
      refine ww_iinc (j := 4) (ks := [0, 1, 2, 3, 4]) (lv' := fun v6 => [(4, .int v6), (3, .int v5), (0, .ref (gad G 62)), (1, .int x1), (2, .int x2)]) cx dX8_readStep_73 (by decide) rfl ic_1 hF (fun _ => rfl) (fun v6 hF => ?_)
      refine ww_aload_n cx dX8_readStep_76 rfl 2 rfl ?_
      refine gf_X8_111 cx dX8_readStep_77 ?_
      refine ww_iconst cx dX8_readStep_80 ic_3 ?_
      refine ww_icmp_ne cx dX8_readStep_81 (tgt := 28) rfl hF (fun hF => ?_) (fun hF => ?_)
      · exact ww_sub [2, 3, 4, 1, 0] rfl (hk28 _ _ _ _ _ hF)
      · refine ww_aload_n cx dX8_readStep_84 rfl 2 rfl ?_
        refine gf_X8_31 cx dX8_readStep_85 ?_
        refine ww_iload_n cx dX8_readStep_88 rfl 3 rfl ?_
        refine ww_iconst cx dX8_readStep_89 ic_0 ?_
        refine ww_iadd cx dX8_readStep_90 ?_
        refine ww_iload_n cx dX8_readStep_91 rfl 4 rfl ?_
        refine ww_iast (N := 77) cx (sh_68) dX8_readStep_92 hF (fun σ7 hF => ?_)
        refine ww_aload_n cx dX8_readStep_93 rfl 2 rfl ?_
        refine gf_X8_31 cx dX8_readStep_94 ?_
        refine ww_iload_n cx dX8_readStep_97 rfl 3 rfl ?_
        refine ww_iconst cx dX8_readStep_98 ic_1 ?_
        refine ww_iadd cx dX8_readStep_99 ?_
        refine ww_iload_n cx dX8_readStep_100 rfl 1 rfl ?_
        refine ww_iast (N := 77) cx (sh_68) dX8_readStep_101 hF (fun σ8 hF => ?_)
        refine ww_aload_n cx dX8_readStep_102 rfl 2 rfl ?_
        refine gf_X8_31 cx dX8_readStep_103 ?_
        refine ww_iconst cx dX8_readStep_106 ic_4 ?_
        refine ww_dup2 cx dX8_readStep_107 rfl rfl ?_
        refine ww_iald (N := 77) cx (sh_68) dX8_readStep_108 hF (fun hF => ?_)
        refine ww_iconst cx dX8_readStep_109 ic_1 ?_
        refine ww_iadd cx dX8_readStep_110 ?_
        refine ww_iast (N := 77) cx (sh_68) dX8_readStep_111 hF (fun σ9 hF => ?_)
        exact ww_rvs hE dX8_readStep_112 hF
    · exact ww_rvs hE dX8_readStep_65 hF
  have hl28 : ∀ n : Nat, ∀ (σ : St) (x1 : Int32) (x2 : Int32) (x3 : Int32) (x4 : Int32) , fX8_readStep_l28 n σ x1 x2 x3 x4 = some σo → WW G X 6 σ [(0, .ref (gad G 62)), (1, .int x1), (2, .int x2), (3, .int x3), (4, .int x4)] 28 [] := by
    intro n
    induction n with
    | zero =>
      intro σ x1 x2 x3 x4 hF
      exact absurd hF (by intro z; cases z)
    | succ n ih =>
      intro σ x1 x2 x3 x4 hF
      have hk28 := ih
      have hF : fX8_readStep_B28 (fX8_readStep_l28 n) σ x1 x2 x3 x4 = some σo := hF
      unfold fX8_readStep_B28 at hF
      refine ww_iload cx dX8_readStep_28 4 rfl ?_
      refine ww_iconst cx dX8_readStep_30 ic_3 ?_
      refine ww_icmp_ne cx dX8_readStep_31 (tgt := 52) rfl hF (fun hF => ?_) (fun hF => ?_)
      · exact hb52 _ hk28 _ _ _ _ _ hF
      · refine ww_aload_n cx dX8_readStep_34 rfl 0 rfl ?_
        refine ww_aload_n cx dX8_readStep_35 rfl 0 rfl ?_
        refine gf_X8_31 cx dX8_readStep_36 ?_
        refine ww_iconst cx dX8_readStep_39 ic_3 ?_
        refine ww_iald (N := 77) cx (sh_68) dX8_readStep_40 hF (fun hF => ?_)
        refine ww_V1_pi kv_X8_208 rfl cx sh_62 ⟨Nat.le_of_ble_eq_true rfl, Nat.le_of_ble_eq_true rfl⟩ (Nat.le_of_ble_eq_true rfl) dX8_readStep_41 (kX8_isNextIn G) hF (fun r10 hF => ?_)
        refine ww_if_eq cx dX8_readStep_44 (tgt := 52) rfl hF (fun hF => ?_) (fun hF => ?_)
        · exact hb52 _ hk28 _ _ _ _ _ hF
        · refine ww_aload_n cx dX8_readStep_47 rfl 0 rfl ?_
          refine ww_iconst cx dX8_readStep_48 ic_3 ?_
          refine ww_V1_sv kv_X8_157 rfl cx sh_62 ⟨Nat.le_of_ble_eq_true rfl, Nat.le_of_ble_eq_true rfl⟩ (Nat.le_of_ble_eq_true rfl) dX8_readStep_49 (kX8_errs G) hF (fun σ11 hF => ?_)
          exact hb52 _ hk28 _ _ _ _ _ hF
  unfold fX8_readStep at hF
  show WW G X 6 σ [(0, .ref (gad G 62))] 0 []
  refine ww_bipush cx dX8_readStep_0 bc_43 ?_
  refine ww_iconst cx dX8_readStep_2 ic_2 ?_
  refine ww_aload_n cx dX8_readStep_3 rfl 0 rfl ?_
  refine gf_X8_31 cx dX8_readStep_4 ?_
  refine ww_iconst cx dX8_readStep_7 ic_4 ?_
  refine ww_iald (N := 77) cx (sh_68) dX8_readStep_8 hF (fun hF => ?_)
  refine ww_imul cx dX8_readStep_9 ?_
  refine ww_iadd cx dX8_readStep_10 ?_
  refine ww_istore_n (ks := [0, 1]) (lv' := fun v12 => [(1, .int v12), (0, .ref (gad G 62))]) cx dX8_readStep_11 rfl (by decide) hF (fun _ => rfl) (fun v12 hF => ?_)
  refine ww_aload_n cx dX8_readStep_12 rfl 1 rfl ?_
  refine ww_V0_si kv_X8_212 rfl cx sh_62 ⟨Nat.le_of_ble_eq_true rfl, Nat.le_of_ble_eq_true rfl⟩ (Nat.le_of_ble_eq_true rfl) dX8_readStep_13 (kX8_freshClaim G) hF (fun r13 σ14 hF => ?_)
  refine ww_istore_n (ks := [0, 1, 2]) (lv' := fun v15 => [(2, .int v15), (1, .int v12), (0, .ref (gad G 62))]) cx dX8_readStep_16 rfl (by decide) hF (fun _ => rfl) (fun v15 hF => ?_)
  refine ww_aload_n cx dX8_readStep_17 rfl 2 rfl ?_
  refine ww_ldcS (w := 14) (tx := "from") cx (by decide +kernel) dX8_readStep_18 ?_
  refine ww_V1_sv kv_X8_161 rfl cx sh_62 ⟨Nat.le_of_ble_eq_true rfl, Nat.le_of_ble_eq_true rfl⟩ (Nat.le_of_ble_eq_true rfl) dX8_readStep_20 (kX8_needs G (by decide)) hF (fun σ16 hF => ?_)
  refine ww_iconst cx dX8_readStep_23 ic_0 ?_
  refine ww_istore_n (ks := [0, 1, 2, 3]) (lv' := fun v17 => [(3, .int v17), (2, .int v15), (1, .int v12), (0, .ref (gad G 62))]) cx dX8_readStep_24 rfl (by decide) hF (fun _ => rfl) (fun v17 hF => ?_)
  refine ww_iconst cx dX8_readStep_25 ic_0 ?_
  refine ww_istore (ks := [0, 1, 2, 3, 4]) (lv' := fun v18 => [(4, .int v18), (3, .int v17), (2, .int v15), (1, .int v12), (0, .ref (gad G 62))]) cx dX8_readStep_26 (by decide) hF (fun _ => rfl) (fun v18 hF => ?_)
  exact ww_sub [4, 3, 2, 1, 0] rfl (hl28 FU _ _ _ _ _ hF)
theorem dX8_told_0 : decode cX8_told 0 = .ok (.aload_n 0, 1) := by decide +kernel
theorem dX8_told_1 : decode cX8_told 1 = .ok (.aload_n 1, 1) := by decide +kernel
theorem dX8_told_2 : decode cX8_told 2 = .ok (.invokevirtual 161, 3) := by decide +kernel
theorem dX8_told_5 : decode cX8_told 5 = .ok (.aload_n 0, 1) := by decide +kernel
theorem dX8_told_6 : decode cX8_told 6 = .ok (.iload_n 2, 1) := by decide +kernel
theorem dX8_told_7 : decode cX8_told 7 = .ok (.iload_n 3, 1) := by decide +kernel
theorem dX8_told_8 : decode cX8_told 8 = .ok (.invokevirtual 165, 3) := by decide +kernel
theorem dX8_told_11 : decode cX8_told 11 = .ok (.ireturn, 1) := by decide +kernel
set_option maxRecDepth 4000 in
theorem kX8_told (G : GT) {σ : St} {w : Nat} {a2 : Int32} {a3 : Int32} (hw : w < 18) : ∀ (r : Int32) (σo : St) , fX8_told σ w a2 a3 = some (r, σo) → MCt G 8 yX8_told cX8_told 4 (some .int) [.ref (gad G 62), .ref (gsk G w), .int a2, .int a3] σ (some (.int r)) σo := by
  intro r σo hF
  refine met_i (by decide) (Nat.le_of_ble_eq_true rfl) (fun X cx hE => ?_)
  have cx : Cx G X RX8 cX8_told 4 8 := cx
  unfold fX8_told at hF
  show WW G X 4 σ [(0, .ref (gad G 62)), (1, .ref (gsk G w)), (2, .int a2), (3, .int a3)] 0 []
  refine ww_aload_n cx dX8_told_0 rfl 0 rfl ?_
  refine ww_aload_n cx dX8_told_1 rfl 1 rfl ?_
  refine ww_V1_sv kv_X8_161 rfl cx sh_62 ⟨Nat.le_of_ble_eq_true rfl, Nat.le_of_ble_eq_true rfl⟩ (Nat.le_of_ble_eq_true rfl) dX8_told_2 (kX8_needs G hw) hF (fun σ1 hF => ?_)
  refine ww_aload_n cx dX8_told_5 rfl 0 rfl ?_
  refine ww_iload_n cx dX8_told_6 rfl 2 rfl ?_
  refine ww_iload_n cx dX8_told_7 rfl 3 rfl ?_
  refine ww_V2_si kv_X8_165 rfl cx sh_62 ⟨Nat.le_of_ble_eq_true rfl, Nat.le_of_ble_eq_true rfl⟩ (Nat.le_of_ble_eq_true rfl) dX8_told_8 (kX8_number G) hF (fun r2 σ3 hF => ?_)
  exact ww_ris hE dX8_told_11 hF
