theorem dX8_lent_0 : decode cX8_lent 0 = .ok (.aload_n 0, 1) := by decide +kernel
theorem dX8_lent_1 : decode cX8_lent 1 = .ok (.iload_n 1, 1) := by decide +kernel
theorem dX8_lent_2 : decode cX8_lent 2 = .ok (.aload_n 0, 1) := by decide +kernel
theorem dX8_lent_3 : decode cX8_lent 3 = .ok (.iload_n 2, 1) := by decide +kernel
theorem dX8_lent_4 : decode cX8_lent 4 = .ok (.i2l, 1) := by decide +kernel
theorem dX8_lent_5 : decode cX8_lent 5 = .ok (.invokevirtual 285, 3) := by decide +kernel
theorem dX8_lent_8 : decode cX8_lent 8 = .ok (.invokevirtual 439, 3) := by decide +kernel
theorem dX8_lent_11 : decode cX8_lent 11 = .ok (.istore_n 3, 1) := by decide +kernel
theorem dX8_lent_12 : decode cX8_lent 12 = .ok (.iload_n 3, 1) := by decide +kernel
theorem dX8_lent_13 : decode cX8_lent 13 = .ok (.ifCond .ge 5, 3) := by decide +kernel
theorem dX8_lent_16 : decode cX8_lent 16 = .ok (.iload_n 3, 1) := by decide +kernel
theorem dX8_lent_17 : decode cX8_lent 17 = .ok (.ireturn, 1) := by decide +kernel
theorem dX8_lent_18 : decode cX8_lent 18 = .ok (.aload_n 0, 1) := by decide +kernel
theorem dX8_lent_19 : decode cX8_lent 19 = .ok (.iload_n 1, 1) := by decide +kernel
theorem dX8_lent_20 : decode cX8_lent 20 = .ok (.invokevirtual 442, 3) := by decide +kernel
theorem dX8_lent_23 : decode cX8_lent 23 = .ok (.istore 4, 2) := by decide +kernel
theorem dX8_lent_25 : decode cX8_lent 25 = .ok (.iload 4, 2) := by decide +kernel
theorem dX8_lent_27 : decode cX8_lent 27 = .ok (.aload_n 0, 1) := by decide +kernel
theorem dX8_lent_28 : decode cX8_lent 28 = .ok (.aload_n 0, 1) := by decide +kernel
theorem dX8_lent_29 : decode cX8_lent 29 = .ok (.invokevirtual 257, 3) := by decide +kernel
theorem dX8_lent_32 : decode cX8_lent 32 = .ok (.aload_n 0, 1) := by decide +kernel
theorem dX8_lent_33 : decode cX8_lent 33 = .ok (.iload_n 2, 1) := by decide +kernel
theorem dX8_lent_34 : decode cX8_lent 34 = .ok (.iconst 1, 1) := by decide +kernel
theorem dX8_lent_35 : decode cX8_lent 35 = .ok (.invokevirtual 282, 3) := by decide +kernel
theorem dX8_lent_38 : decode cX8_lent 38 = .ok (.invokevirtual 307, 3) := by decide +kernel
theorem dX8_lent_41 : decode cX8_lent 41 = .ok (.iconst (-1), 1) := by decide +kernel
theorem dX8_lent_42 : decode cX8_lent 42 = .ok (.ixor, 1) := by decide +kernel
theorem dX8_lent_43 : decode cX8_lent 43 = .ok (.iand, 1) := by decide +kernel
theorem dX8_lent_44 : decode cX8_lent 44 = .ok (.ifCond .ne 5, 3) := by decide +kernel
theorem dX8_lent_47 : decode cX8_lent 47 = .ok (.iconst 0, 1) := by decide +kernel
theorem dX8_lent_48 : decode cX8_lent 48 = .ok (.ireturn, 1) := by decide +kernel
theorem dX8_lent_49 : decode cX8_lent 49 = .ok (.iconst 0, 1) := by decide +kernel
theorem dX8_lent_50 : decode cX8_lent 50 = .ok (.istore 5, 2) := by decide +kernel
theorem dX8_lent_52 : decode cX8_lent 52 = .ok (.iconst 0, 1) := by decide +kernel
theorem dX8_lent_53 : decode cX8_lent 53 = .ok (.istore 6, 2) := by decide +kernel
theorem dX8_lent_55 : decode cX8_lent 55 = .ok (.iload 6, 2) := by decide +kernel
theorem dX8_lent_57 : decode cX8_lent 57 = .ok (.aload_n 0, 1) := by decide +kernel
theorem dX8_lent_58 : decode cX8_lent 58 = .ok (.getfield 9, 3) := by decide +kernel
theorem dX8_lent_61 : decode cX8_lent 61 = .ok (.iconst 5, 1) := by decide +kernel
theorem dX8_lent_62 : decode cX8_lent 62 = .ok (.iaload, 1) := by decide +kernel
theorem dX8_lent_63 : decode cX8_lent 63 = .ok (.if_icmp .ge 58, 3) := by decide +kernel
theorem dX8_lent_66 : decode cX8_lent 66 = .ok (.iload 5, 2) := by decide +kernel
theorem dX8_lent_68 : decode cX8_lent 68 = .ok (.iload 6, 2) := by decide +kernel
theorem dX8_lent_70 : decode cX8_lent 70 = .ok (.iload_n 2, 1) := by decide +kernel
theorem dX8_lent_71 : decode cX8_lent 71 = .ok (.if_icmp .eq 40, 3) := by decide +kernel
theorem dX8_lent_74 : decode cX8_lent 74 = .ok (.iload 4, 2) := by decide +kernel
theorem dX8_lent_76 : decode cX8_lent 76 = .ok (.aload_n 0, 1) := by decide +kernel
theorem dX8_lent_77 : decode cX8_lent 77 = .ok (.aload_n 0, 1) := by decide +kernel
theorem dX8_lent_78 : decode cX8_lent 78 = .ok (.invokevirtual 257, 3) := by decide +kernel
theorem dX8_lent_81 : decode cX8_lent 81 = .ok (.aload_n 0, 1) := by decide +kernel
theorem dX8_lent_82 : decode cX8_lent 82 = .ok (.iload_n 2, 1) := by decide +kernel
theorem dX8_lent_83 : decode cX8_lent 83 = .ok (.iconst 1, 1) := by decide +kernel
theorem dX8_lent_84 : decode cX8_lent 84 = .ok (.invokevirtual 282, 3) := by decide +kernel
theorem dX8_lent_87 : decode cX8_lent 87 = .ok (.aload_n 0, 1) := by decide +kernel
theorem dX8_lent_88 : decode cX8_lent 88 = .ok (.iload 6, 2) := by decide +kernel
theorem dX8_lent_90 : decode cX8_lent 90 = .ok (.iconst 1, 1) := by decide +kernel
theorem dX8_lent_91 : decode cX8_lent 91 = .ok (.invokevirtual 282, 3) := by decide +kernel
theorem dX8_lent_94 : decode cX8_lent 94 = .ok (.ior, 1) := by decide +kernel
theorem dX8_lent_95 : decode cX8_lent 95 = .ok (.invokevirtual 307, 3) := by decide +kernel
theorem dX8_lent_98 : decode cX8_lent 98 = .ok (.iconst (-1), 1) := by decide +kernel
theorem dX8_lent_99 : decode cX8_lent 99 = .ok (.ixor, 1) := by decide +kernel
theorem dX8_lent_100 : decode cX8_lent 100 = .ok (.iand, 1) := by decide +kernel
theorem dX8_lent_101 : decode cX8_lent 101 = .ok (.ifCond .ne 10, 3) := by decide +kernel
theorem dX8_lent_104 : decode cX8_lent 104 = .ok (.iconst 1, 1) := by decide +kernel
theorem dX8_lent_105 : decode cX8_lent 105 = .ok (.iload 6, 2) := by decide +kernel
theorem dX8_lent_107 : decode cX8_lent 107 = .ok (.ishl, 1) := by decide +kernel
theorem dX8_lent_108 : decode cX8_lent 108 = .ok (.goto 4, 3) := by decide +kernel
theorem dX8_lent_111 : decode cX8_lent 111 = .ok (.iconst 0, 1) := by decide +kernel
theorem dX8_lent_112 : decode cX8_lent 112 = .ok (.ior, 1) := by decide +kernel
theorem dX8_lent_113 : decode cX8_lent 113 = .ok (.istore 5, 2) := by decide +kernel
theorem dX8_lent_115 : decode cX8_lent 115 = .ok (.iinc 6 1, 3) := by decide +kernel
theorem dX8_lent_118 : decode cX8_lent 118 = .ok (.goto (-63), 3) := by decide +kernel
theorem dX8_lent_121 : decode cX8_lent 121 = .ok (.iload 5, 2) := by decide +kernel
theorem dX8_lent_123 : decode cX8_lent 123 = .ok (.ireturn, 1) := by decide +kernel
set_option maxRecDepth 4000 in
theorem kX8_lent (G : GT) {σ : St} {a1 : Int32} {a2 : Int32} : ∀ (r : Int32) , fX8_lent σ a1 a2 = some r → MCt G 4 yX8_lent cX8_lent 7 (some .int) [.ref (gad G 62), .int a1, .int a2] σ (some (.int r)) σ := by
  intro r hF
  refine met_i (by decide) (Nat.le_of_ble_eq_true rfl) (fun X cx hE => ?_)
  have cx : Cx G X RX8 cX8_lent 7 4 := cx
  have hb112 : ∀ (kr55 : Int32 → Int32 → Int32 → Int32 → Option (Int32)), (∀ (x2 : Int32) (x4 : Int32) (x5 : Int32) (x6 : Int32) , kr55 x2 x4 x5 x6 = some r → WW G X 7 σ [(0, .ref (gad G 62)), (2, .int x2), (4, .int x4), (5, .int x5), (6, .int x6)] 55 []) → ∀ (x2 : Int32) (x4 : Int32) (x6 : Int32) (y0 : Int32) (y1 : Int32) , fX8_lent_b112 σ kr55 x2 x4 x6 y0 y1 = some r → WW G X 7 σ [(0, .ref (gad G 62)), (2, .int x2), (4, .int x4), (6, .int x6)] 112 [.int y1, .int y0] := by
    intro kr55 hk55
    intro x2 x4 x6 y0 y1 hF
    unfold fX8_lent_b112 at hF
    refine ww_ior cx dX8_lent_112 ?_
    refine ww_istore (ks := [0, 1, 2, 3, 4]) (lv' := fun v1 => [(5, .int v1), (0, .ref (gad G 62)), (2, .int x2), (4, .int x4), (6, .int x6)]) cx dX8_lent_113 (by decide) hF (fun _ => rfl) (fun v1 hF => ?_)
    refine ww_iinc (j := 4) (ks := [0, 1, 2, 3, 4]) (lv' := fun v2 => [(6, .int v2), (5, .int v1), (0, .ref (gad G 62)), (2, .int x2), (4, .int x4)]) cx dX8_lent_115 (by decide) rfl ic_1 hF (fun _ => rfl) (fun v2 hF => ?_)
    refine ww_goto cx dX8_lent_118 (tgt := 55) rfl ?_
    exact ww_sub [2, 3, 4, 1, 0] rfl (hk55 _ _ _ _ hF)
  have hb111 : ∀ (kr55 : Int32 → Int32 → Int32 → Int32 → Option (Int32)), (∀ (x2 : Int32) (x4 : Int32) (x5 : Int32) (x6 : Int32) , kr55 x2 x4 x5 x6 = some r → WW G X 7 σ [(0, .ref (gad G 62)), (2, .int x2), (4, .int x4), (5, .int x5), (6, .int x6)] 55 []) → ∀ (x2 : Int32) (x4 : Int32) (x6 : Int32) (y0 : Int32) , fX8_lent_b111 σ kr55 x2 x4 x6 y0 = some r → WW G X 7 σ [(0, .ref (gad G 62)), (2, .int x2), (4, .int x4), (6, .int x6)] 111 [.int y0] := by
    intro kr55 hk55
    intro x2 x4 x6 y0 hF
    unfold fX8_lent_b111 at hF
    refine ww_iconst cx dX8_lent_111 ic_0 ?_
    exact hb112 _ hk55 _ _ _ _ _ hF
  have hl55 : ∀ n : Nat, ∀ (x2 : Int32) (x4 : Int32) (x5 : Int32) (x6 : Int32) , fX8_lent_l55 σ n x2 x4 x5 x6 = some r → WW G X 7 σ [(0, .ref (gad G 62)), (2, .int x2), (4, .int x4), (5, .int x5), (6, .int x6)] 55 [] := by
    intro n
    induction n with
    | zero =>
      intro x2 x4 x5 x6 hF
      exact absurd hF (by intro z; cases z)
    | succ n ih =>
      intro x2 x4 x5 x6 hF
      have hk55 := ih
      have hF : fX8_lent_B55 σ (fX8_lent_l55 σ n) x2 x4 x5 x6 = some r := hF
      unfold fX8_lent_B55 at hF
      refine ww_iload cx dX8_lent_55 4 rfl ?_
      refine ww_aload_n cx dX8_lent_57 rfl 0 rfl ?_
      refine gf_X8_9 cx dX8_lent_58 ?_
      refine ww_iconst cx dX8_lent_61 ic_5 ?_
      refine ww_iald (N := 77) cx (sh_63) dX8_lent_62 hF (fun hF => ?_)
      refine ww_icmp_ge cx dX8_lent_63 (tgt := 121) rfl hF (fun hF => ?_) (fun hF => ?_)
      · refine ww_iload cx dX8_lent_121 3 rfl ?_
        exact ww_rip hE dX8_lent_123 hF
      · refine ww_iload cx dX8_lent_66 3 rfl ?_
        refine ww_iload cx dX8_lent_68 4 rfl ?_
        refine ww_iload_n cx dX8_lent_70 rfl 1 rfl ?_
        refine ww_icmp_eq cx dX8_lent_71 (tgt := 111) rfl hF (fun hF => ?_) (fun hF => ?_)
        · exact ww_sub [0, 1, 2, 4] rfl (hb111 _ hk55 _ _ _ _ hF)
        · refine ww_iload cx dX8_lent_74 2 rfl ?_
          refine ww_aload_n cx dX8_lent_76 rfl 0 rfl ?_
          refine ww_aload_n cx dX8_lent_77 rfl 0 rfl ?_
          refine ww_V0_pi kv_X8_257 rfl cx sh_62 ⟨Nat.le_of_ble_eq_true rfl, Nat.le_of_ble_eq_true rfl⟩ (Nat.le_of_ble_eq_true rfl) dX8_lent_78 (kX8_saltNow G) hF (fun r3 hF => ?_)
          refine ww_aload_n cx dX8_lent_81 rfl 0 rfl ?_
          refine ww_iload_n cx dX8_lent_82 rfl 1 rfl ?_
          refine ww_iconst cx dX8_lent_83 ic_1 ?_
          refine ww_V2_pi kv_X8_282 rfl cx sh_62 ⟨Nat.le_of_ble_eq_true rfl, Nat.le_of_ble_eq_true rfl⟩ (Nat.le_of_ble_eq_true rfl) dX8_lent_84 (kX8_ofGuest G) hF (fun r4 hF => ?_)
          refine ww_aload_n cx dX8_lent_87 rfl 0 rfl ?_
          refine ww_iload cx dX8_lent_88 4 rfl ?_
          refine ww_iconst cx dX8_lent_90 ic_1 ?_
          refine ww_V2_pi kv_X8_282 rfl cx sh_62 ⟨Nat.le_of_ble_eq_true rfl, Nat.le_of_ble_eq_true rfl⟩ (Nat.le_of_ble_eq_true rfl) dX8_lent_91 (kX8_ofGuest G) hF (fun r5 hF => ?_)
          refine ww_ior cx dX8_lent_94 ?_
          refine ww_V2_pi kv_X8_307 rfl cx sh_62 ⟨Nat.le_of_ble_eq_true rfl, Nat.le_of_ble_eq_true rfl⟩ (Nat.le_of_ble_eq_true rfl) dX8_lent_95 (kX8_provedBy G) hF (fun r6 hF => ?_)
          refine ww_iconst cx dX8_lent_98 ic_m1 ?_
          refine ww_ixor cx dX8_lent_99 ?_
          refine ww_iand cx dX8_lent_100 ?_
          refine ww_if_ne cx dX8_lent_101 (tgt := 111) rfl hF (fun hF => ?_) (fun hF => ?_)
          · exact ww_sub [0, 1, 2, 4] rfl (hb111 _ hk55 _ _ _ _ hF)
          · refine ww_iconst cx dX8_lent_104 ic_1 ?_
            refine ww_iload cx dX8_lent_105 4 rfl ?_
            refine ww_ishl cx dX8_lent_107 ?_
            refine ww_goto cx dX8_lent_108 (tgt := 112) rfl ?_
            exact ww_sub [0, 1, 2, 4] rfl (hb112 _ hk55 _ _ _ _ _ hF)
  unfold fX8_lent at hF
  show WW G X 7 σ [(0, .ref (gad G 62)), (1, .int a1), (2, .int a2)] 0 []
  refine ww_aload_n cx dX8_lent_0 rfl 0 rfl ?_
  refine ww_iload_n cx dX8_lent_1 rfl 1 rfl ?_
  refine ww_aload_n cx dX8_lent_2 rfl 0 rfl ?_
  refine ww_iload_n cx dX8_lent_3 rfl 2 rfl ?_
  refine ww_i2l cx dX8_lent_4 ?_
  refine ww_V1_pi kv_X8_285 rfl cx sh_62 ⟨Nat.le_of_ble_eq_true rfl, Nat.le_of_ble_eq_true rfl⟩ (Nat.le_of_ble_eq_true rfl) dX8_lent_5 (kX8_isGuest G) hF (fun r7 hF => ?_)
  refine ww_V2_pi kv_X8_439 rfl cx sh_62 ⟨Nat.le_of_ble_eq_true rfl, Nat.le_of_ble_eq_true rfl⟩ (Nat.le_of_ble_eq_true rfl) dX8_lent_8 (kX8_asksEaten G) hF (fun r8 hF => ?_)
  refine ww_istore_n (ks := [0, 1, 2, 3]) (lv' := fun v9 => [(3, .int v9), (0, .ref (gad G 62)), (1, .int a1), (2, .int a2)]) cx dX8_lent_11 rfl (by decide) hF (fun _ => rfl) (fun v9 hF => ?_)
  refine ww_iload_n cx dX8_lent_12 rfl 0 rfl ?_
  refine ww_if_ge cx dX8_lent_13 (tgt := 18) rfl hF (fun hF => ?_) (fun hF => ?_)
  · refine ww_aload_n cx dX8_lent_18 rfl 1 rfl ?_
    refine ww_iload_n cx dX8_lent_19 rfl 2 rfl ?_
    refine ww_V1_pi kv_X8_442 rfl cx sh_62 ⟨Nat.le_of_ble_eq_true rfl, Nat.le_of_ble_eq_true rfl⟩ (Nat.le_of_ble_eq_true rfl) dX8_lent_20 (kX8_eatenBy G) hF (fun r10 hF => ?_)
    refine ww_istore (ks := [0, 2, 4]) (lv' := fun v11 => [(4, .int v11), (0, .ref (gad G 62)), (2, .int a2)]) cx dX8_lent_23 (by decide) hF (fun _ => rfl) (fun v11 hF => ?_)
    refine ww_iload cx dX8_lent_25 0 rfl ?_
    refine ww_aload_n cx dX8_lent_27 rfl 1 rfl ?_
    refine ww_aload_n cx dX8_lent_28 rfl 1 rfl ?_
    refine ww_V0_pi kv_X8_257 rfl cx sh_62 ⟨Nat.le_of_ble_eq_true rfl, Nat.le_of_ble_eq_true rfl⟩ (Nat.le_of_ble_eq_true rfl) dX8_lent_29 (kX8_saltNow G) hF (fun r12 hF => ?_)
    refine ww_aload_n cx dX8_lent_32 rfl 1 rfl ?_
    refine ww_iload_n cx dX8_lent_33 rfl 2 rfl ?_
    refine ww_iconst cx dX8_lent_34 ic_1 ?_
    refine ww_V2_pi kv_X8_282 rfl cx sh_62 ⟨Nat.le_of_ble_eq_true rfl, Nat.le_of_ble_eq_true rfl⟩ (Nat.le_of_ble_eq_true rfl) dX8_lent_35 (kX8_ofGuest G) hF (fun r13 hF => ?_)
    refine ww_V2_pi kv_X8_307 rfl cx sh_62 ⟨Nat.le_of_ble_eq_true rfl, Nat.le_of_ble_eq_true rfl⟩ (Nat.le_of_ble_eq_true rfl) dX8_lent_38 (kX8_provedBy G) hF (fun r14 hF => ?_)
    refine ww_iconst cx dX8_lent_41 ic_m1 ?_
    refine ww_ixor cx dX8_lent_42 ?_
    refine ww_iand cx dX8_lent_43 ?_
    refine ww_if_ne cx dX8_lent_44 (tgt := 49) rfl hF (fun hF => ?_) (fun hF => ?_)
    · refine ww_iconst cx dX8_lent_49 ic_0 ?_
      refine ww_istore (ks := [0, 1, 2, 3]) (lv' := fun v15 => [(5, .int v15), (4, .int v11), (0, .ref (gad G 62)), (2, .int a2)]) cx dX8_lent_50 (by decide) hF (fun _ => rfl) (fun v15 hF => ?_)
      refine ww_iconst cx dX8_lent_52 ic_0 ?_
      refine ww_istore (ks := [0, 1, 2, 3, 4]) (lv' := fun v16 => [(6, .int v16), (5, .int v15), (4, .int v11), (0, .ref (gad G 62)), (2, .int a2)]) cx dX8_lent_53 (by decide) hF (fun _ => rfl) (fun v16 hF => ?_)
      exact ww_sub [3, 4, 2, 1, 0] rfl (hl55 FU _ _ _ _ hF)
    · refine ww_iconst cx dX8_lent_47 ic_0 ?_
      exact ww_rip hE dX8_lent_48 hF
  · refine ww_iload_n cx dX8_lent_16 rfl 0 rfl ?_
    exact ww_rip hE dX8_lent_17 hF
theorem dX8_mostBy_0 : decode cX8_mostBy 0 = .ok (.iconst (-1), 1) := by decide +kernel
theorem dX8_mostBy_1 : decode cX8_mostBy 1 = .ok (.istore 4, 2) := by decide +kernel
theorem dX8_mostBy_3 : decode cX8_mostBy 3 = .ok (.aload_n 0, 1) := by decide +kernel
theorem dX8_mostBy_4 : decode cX8_mostBy 4 = .ok (.iconst 0, 1) := by decide +kernel
theorem dX8_mostBy_5 : decode cX8_mostBy 5 = .ok (.putfield 351, 3) := by decide +kernel
theorem dX8_mostBy_8 : decode cX8_mostBy 8 = .ok (.iconst 0, 1) := by decide +kernel
theorem dX8_mostBy_9 : decode cX8_mostBy 9 = .ok (.istore 5, 2) := by decide +kernel
theorem dX8_mostBy_11 : decode cX8_mostBy 11 = .ok (.iload 5, 2) := by decide +kernel
theorem dX8_mostBy_13 : decode cX8_mostBy 13 = .ok (.aload_n 0, 1) := by decide +kernel
theorem dX8_mostBy_14 : decode cX8_mostBy 14 = .ok (.invokevirtual 304, 3) := by decide +kernel
theorem dX8_mostBy_17 : decode cX8_mostBy 17 = .ok (.if_icmp .gt 86, 3) := by decide +kernel
theorem dX8_mostBy_20 : decode cX8_mostBy 20 = .ok (.iload 5, 2) := by decide +kernel
theorem dX8_mostBy_22 : decode cX8_mostBy 22 = .ok (.iload_n 2, 1) := by decide +kernel
theorem dX8_mostBy_23 : decode cX8_mostBy 23 = .ok (.iconst (-1), 1) := by decide +kernel
theorem dX8_mostBy_24 : decode cX8_mostBy 24 = .ok (.ixor, 1) := by decide +kernel
theorem dX8_mostBy_25 : decode cX8_mostBy 25 = .ok (.iand, 1) := by decide +kernel
theorem dX8_mostBy_26 : decode cX8_mostBy 26 = .ok (.ifCond .ne 71, 3) := by decide +kernel
theorem dX8_mostBy_29 : decode cX8_mostBy 29 = .ok (.iload 5, 2) := by decide +kernel
theorem dX8_mostBy_31 : decode cX8_mostBy 31 = .ok (.invokestatic 273, 3) := by decide +kernel
theorem dX8_mostBy_34 : decode cX8_mostBy 34 = .ok (.iload_n 3, 1) := by decide +kernel
theorem dX8_mostBy_35 : decode cX8_mostBy 35 = .ok (.if_icmp .le 6, 3) := by decide +kernel
theorem dX8_mostBy_38 : decode cX8_mostBy 38 = .ok (.goto 59, 3) := by decide +kernel
theorem dX8_mostBy_41 : decode cX8_mostBy 41 = .ok (.aload_n 0, 1) := by decide +kernel
theorem dX8_mostBy_42 : decode cX8_mostBy 42 = .ok (.aload_n 0, 1) := by decide +kernel
theorem dX8_mostBy_43 : decode cX8_mostBy 43 = .ok (.iload_n 1, 1) := by decide +kernel
theorem dX8_mostBy_44 : decode cX8_mostBy 44 = .ok (.iload 5, 2) := by decide +kernel
theorem dX8_mostBy_46 : decode cX8_mostBy 46 = .ok (.invokevirtual 307, 3) := by decide +kernel
theorem dX8_mostBy_49 : decode cX8_mostBy 49 = .ok (.iload_n 1, 1) := by decide +kernel
theorem dX8_mostBy_50 : decode cX8_mostBy 50 = .ok (.iconst (-1), 1) := by decide +kernel
theorem dX8_mostBy_51 : decode cX8_mostBy 51 = .ok (.ixor, 1) := by decide +kernel
theorem dX8_mostBy_52 : decode cX8_mostBy 52 = .ok (.iand, 1) := by decide +kernel
theorem dX8_mostBy_53 : decode cX8_mostBy 53 = .ok (.invokevirtual 354, 3) := by decide +kernel
theorem dX8_mostBy_56 : decode cX8_mostBy 56 = .ok (.istore 6, 2) := by decide +kernel
theorem dX8_mostBy_58 : decode cX8_mostBy 58 = .ok (.iload 6, 2) := by decide +kernel
theorem dX8_mostBy_60 : decode cX8_mostBy 60 = .ok (.iload 4, 2) := by decide +kernel
theorem dX8_mostBy_62 : decode cX8_mostBy 62 = .ok (.if_icmp .gt 25, 3) := by decide +kernel
theorem dX8_mostBy_65 : decode cX8_mostBy 65 = .ok (.iload 6, 2) := by decide +kernel
theorem dX8_mostBy_67 : decode cX8_mostBy 67 = .ok (.iload 4, 2) := by decide +kernel
theorem dX8_mostBy_69 : decode cX8_mostBy 69 = .ok (.if_icmp .ne 28, 3) := by decide +kernel
theorem dX8_mostBy_72 : decode cX8_mostBy 72 = .ok (.iload 5, 2) := by decide +kernel
theorem dX8_mostBy_74 : decode cX8_mostBy 74 = .ok (.invokestatic 273, 3) := by decide +kernel
theorem dX8_mostBy_77 : decode cX8_mostBy 77 = .ok (.aload_n 0, 1) := by decide +kernel
theorem dX8_mostBy_78 : decode cX8_mostBy 78 = .ok (.getfield 351, 3) := by decide +kernel
theorem dX8_mostBy_81 : decode cX8_mostBy 81 = .ok (.invokestatic 273, 3) := by decide +kernel
theorem dX8_mostBy_84 : decode cX8_mostBy 84 = .ok (.if_icmp .ge 13, 3) := by decide +kernel
theorem dX8_mostBy_87 : decode cX8_mostBy 87 = .ok (.iload 6, 2) := by decide +kernel
theorem dX8_mostBy_89 : decode cX8_mostBy 89 = .ok (.istore 4, 2) := by decide +kernel
theorem dX8_mostBy_91 : decode cX8_mostBy 91 = .ok (.aload_n 0, 1) := by decide +kernel
theorem dX8_mostBy_92 : decode cX8_mostBy 92 = .ok (.iload 5, 2) := by decide +kernel
theorem dX8_mostBy_94 : decode cX8_mostBy 94 = .ok (.putfield 351, 3) := by decide +kernel
theorem dX8_mostBy_97 : decode cX8_mostBy 97 = .ok (.iinc 5 1, 3) := by decide +kernel
theorem dX8_mostBy_100 : decode cX8_mostBy 100 = .ok (.goto (-89), 3) := by decide +kernel
theorem dX8_mostBy_103 : decode cX8_mostBy 103 = .ok (.iload 4, 2) := by decide +kernel
theorem dX8_mostBy_105 : decode cX8_mostBy 105 = .ok (.ireturn, 1) := by decide +kernel
set_option maxRecDepth 4000 in
theorem kX8_mostBy (G : GT) {σ : St} {a1 : Int32} {a2 : Int32} {a3 : Int32} : ∀ (r : Int32) (σo : St) , fX8_mostBy σ a1 a2 a3 = some (r, σo) → MCt G 4 yX8_mostBy cX8_mostBy 7 (some .int) [.ref (gad G 62), .int a1, .int a2, .int a3] σ (some (.int r)) σo := by
  intro r σo hF
  refine met_i (by decide) (Nat.le_of_ble_eq_true rfl) (fun X cx hE => ?_)
  have cx : Cx G X RX8 cX8_mostBy 7 4 := cx
  have hb87 : ∀ (kr11 : St → Int32 → Int32 → Int32 → Int32 → Int32 → Option (Int32 × St)), (∀ (σ : St) (x1 : Int32) (x2 : Int32) (x3 : Int32) (x4 : Int32) (x5 : Int32) , kr11 σ x1 x2 x3 x4 x5 = some (r, σo) → WW G X 7 σ [(0, .ref (gad G 62)), (1, .int x1), (2, .int x2), (3, .int x3), (4, .int x4), (5, .int x5)] 11 []) → ∀ (σ : St) (x1 : Int32) (x2 : Int32) (x3 : Int32) (x5 : Int32) (x6 : Int32) , fX8_mostBy_b87 kr11 σ x1 x2 x3 x5 x6 = some (r, σo) → WW G X 7 σ [(0, .ref (gad G 62)), (1, .int x1), (2, .int x2), (3, .int x3), (5, .int x5), (6, .int x6)] 87 [] := by
    intro kr11 hk11
    intro σ x1 x2 x3 x5 x6 hF
    unfold fX8_mostBy_b87 at hF
    refine ww_iload cx dX8_mostBy_87 5 rfl ?_
    refine ww_istore (ks := [0, 1, 2, 3, 4, 5]) (lv' := fun v1 => [(4, .int v1), (0, .ref (gad G 62)), (1, .int x1), (2, .int x2), (3, .int x3), (5, .int x5)]) cx dX8_mostBy_89 (by decide) hF (fun _ => rfl) (fun v1 hF => ?_)
    refine ww_aload_n cx dX8_mostBy_91 rfl 1 rfl ?_
    refine ww_iload cx dX8_mostBy_92 5 rfl ?_
    refine pf_X8_351 cx dX8_mostBy_94 hF (fun σ2 hF => ?_)
    refine ww_iinc (j := 5) (ks := [0, 1, 2, 3, 4, 5]) (lv' := fun v3 => [(5, .int v3), (4, .int v1), (0, .ref (gad G 62)), (1, .int x1), (2, .int x2), (3, .int x3)]) cx dX8_mostBy_97 (by decide) rfl ic_1 hF (fun _ => rfl) (fun v3 hF => ?_)
    refine ww_goto cx dX8_mostBy_100 (tgt := 11) rfl ?_
    exact ww_sub [2, 3, 4, 5, 1, 0] rfl (hk11 _ _ _ _ _ _ hF)
  have hl11 : ∀ n : Nat, ∀ (σ : St) (x1 : Int32) (x2 : Int32) (x3 : Int32) (x4 : Int32) (x5 : Int32) , fX8_mostBy_l11 n σ x1 x2 x3 x4 x5 = some (r, σo) → WW G X 7 σ [(0, .ref (gad G 62)), (1, .int x1), (2, .int x2), (3, .int x3), (4, .int x4), (5, .int x5)] 11 [] := by
    intro n
    induction n with
    | zero =>
      intro σ x1 x2 x3 x4 x5 hF
      exact absurd hF (by intro z; cases z)
    | succ n ih =>
      intro σ x1 x2 x3 x4 x5 hF
      have hk11 := ih
      have hF : fX8_mostBy_B11 (fX8_mostBy_l11 n) σ x1 x2 x3 x4 x5 = some (r, σo) := hF
      unfold fX8_mostBy_B11 at hF
      refine ww_iload cx dX8_mostBy_11 5 rfl ?_
      refine ww_aload_n cx dX8_mostBy_13 rfl 0 rfl ?_
      refine ww_V0_pi kv_X8_304 rfl cx sh_62 ⟨Nat.le_of_ble_eq_true rfl, Nat.le_of_ble_eq_true rfl⟩ (Nat.le_of_ble_eq_true rfl) dX8_mostBy_14 (kX8_allSteps G) hF (fun r4 hF => ?_)
      refine ww_icmp_gt cx dX8_mostBy_17 (tgt := 103) rfl hF (fun hF => ?_) (fun hF => ?_)
      · refine ww_iload cx dX8_mostBy_103 4 rfl ?_
        exact ww_ris hE dX8_mostBy_105 hF
      · refine ww_iload cx dX8_mostBy_20 5 rfl ?_
        refine ww_iload_n cx dX8_mostBy_22 rfl 2 rfl ?_
        refine ww_iconst cx dX8_mostBy_23 ic_m1 ?_
        refine ww_ixor cx dX8_mostBy_24 ?_
        refine ww_iand cx dX8_mostBy_25 ?_
        refine ww_if_ne cx dX8_mostBy_26 (tgt := 97) rfl hF (fun hF => ?_) (fun hF => ?_)
        · refine ww_iinc (j := 5) (ks := [0, 1, 2, 3, 4, 5]) (lv' := fun v5 => [(5, .int v5), (0, .ref (gad G 62)), (1, .int x1), (2, .int x2), (3, .int x3), (4, .int x4)]) cx dX8_mostBy_97 (by decide) rfl ic_1 hF (fun _ => rfl) (fun v5 hF => ?_)
          refine ww_goto cx dX8_mostBy_100 (tgt := 11) rfl ?_
          exact ww_sub [1, 2, 3, 4, 5, 0] rfl (hk11 _ _ _ _ _ _ hF)
        · refine ww_iload cx dX8_mostBy_29 5 rfl ?_
          refine ww_S1_pi kv_X8_273 cx ⟨Nat.le_of_ble_eq_true rfl, Nat.le_of_ble_eq_true rfl⟩ (Nat.le_of_ble_eq_true rfl) dX8_mostBy_31 (kX8_bits G) hF (fun r6 hF => ?_)
          refine ww_iload_n cx dX8_mostBy_34 rfl 3 rfl ?_
          refine ww_icmp_le cx dX8_mostBy_35 (tgt := 41) rfl hF (fun hF => ?_) (fun hF => ?_)
          · refine ww_aload_n cx dX8_mostBy_41 rfl 0 rfl ?_
            refine ww_aload_n cx dX8_mostBy_42 rfl 0 rfl ?_
            refine ww_iload_n cx dX8_mostBy_43 rfl 1 rfl ?_
            refine ww_iload cx dX8_mostBy_44 5 rfl ?_
            refine ww_V2_pi kv_X8_307 rfl cx sh_62 ⟨Nat.le_of_ble_eq_true rfl, Nat.le_of_ble_eq_true rfl⟩ (Nat.le_of_ble_eq_true rfl) dX8_mostBy_46 (kX8_provedBy G) hF (fun r7 hF => ?_)
            refine ww_iload_n cx dX8_mostBy_49 rfl 1 rfl ?_
            refine ww_iconst cx dX8_mostBy_50 ic_m1 ?_
            refine ww_ixor cx dX8_mostBy_51 ?_
            refine ww_iand cx dX8_mostBy_52 ?_
            refine ww_V1_pi kv_X8_354 rfl cx sh_62 ⟨Nat.le_of_ble_eq_true rfl, Nat.le_of_ble_eq_true rfl⟩ (Nat.le_of_ble_eq_true rfl) dX8_mostBy_53 (kX8_worthsOf G) hF (fun r8 hF => ?_)
            refine ww_istore (ks := [0, 1, 2, 3, 4, 5, 6]) (lv' := fun v9 => [(6, .int v9), (0, .ref (gad G 62)), (1, .int x1), (2, .int x2), (3, .int x3), (4, .int x4), (5, .int x5)]) cx dX8_mostBy_56 (by decide) hF (fun _ => rfl) (fun v9 hF => ?_)
            refine ww_iload cx dX8_mostBy_58 0 rfl ?_
            refine ww_iload cx dX8_mostBy_60 5 rfl ?_
            refine ww_icmp_gt cx dX8_mostBy_62 (tgt := 87) rfl hF (fun hF => ?_) (fun hF => ?_)
            · exact ww_sub [1, 2, 3, 4, 6, 0] rfl (hb87 _ hk11 _ _ _ _ _ _ hF)
            · refine ww_iload cx dX8_mostBy_65 0 rfl ?_
              refine ww_iload cx dX8_mostBy_67 5 rfl ?_
              refine ww_icmp_ne cx dX8_mostBy_69 (tgt := 97) rfl hF (fun hF => ?_) (fun hF => ?_)
              · refine ww_iinc (j := 6) (ks := [0, 2, 3, 4, 5, 6]) (lv' := fun v10 => [(5, .int v10), (0, .ref (gad G 62)), (1, .int x1), (2, .int x2), (3, .int x3), (4, .int x4)]) cx dX8_mostBy_97 (by decide) rfl ic_1 hF (fun _ => rfl) (fun v10 hF => ?_)
                refine ww_goto cx dX8_mostBy_100 (tgt := 11) rfl ?_
                exact ww_sub [1, 2, 3, 4, 5, 0] rfl (hk11 _ _ _ _ _ _ hF)
              · refine ww_iload cx dX8_mostBy_72 6 rfl ?_
                refine ww_S1_pi kv_X8_273 cx ⟨Nat.le_of_ble_eq_true rfl, Nat.le_of_ble_eq_true rfl⟩ (Nat.le_of_ble_eq_true rfl) dX8_mostBy_74 (kX8_bits G) hF (fun r11 hF => ?_)
                refine ww_aload_n cx dX8_mostBy_77 rfl 1 rfl ?_
                refine gf_X8_351 cx dX8_mostBy_78 ?_
                refine ww_S1_pi kv_X8_273 cx ⟨Nat.le_of_ble_eq_true rfl, Nat.le_of_ble_eq_true rfl⟩ (Nat.le_of_ble_eq_true rfl) dX8_mostBy_81 (kX8_bits G) hF (fun r12 hF => ?_)
                refine ww_icmp_ge cx dX8_mostBy_84 (tgt := 97) rfl hF (fun hF => ?_) (fun hF => ?_)
                · refine ww_iinc (j := 6) (ks := [0, 2, 3, 4, 5, 6]) (lv' := fun v13 => [(5, .int v13), (0, .ref (gad G 62)), (1, .int x1), (2, .int x2), (3, .int x3), (4, .int x4)]) cx dX8_mostBy_97 (by decide) rfl ic_1 hF (fun _ => rfl) (fun v13 hF => ?_)
                  refine ww_goto cx dX8_mostBy_100 (tgt := 11) rfl ?_
                  exact ww_sub [1, 2, 3, 4, 5, 0] rfl (hk11 _ _ _ _ _ _ hF)
                · exact ww_sub [1, 2, 3, 4, 6, 0] rfl (hb87 _ hk11 _ _ _ _ _ _ hF)
          · refine ww_goto cx dX8_mostBy_38 (tgt := 97) rfl ?_
            refine ww_iinc (j := 5) (ks := [0, 1, 2, 3, 4, 5]) (lv' := fun v14 => [(5, .int v14), (0, .ref (gad G 62)), (1, .int x1), (2, .int x2), (3, .int x3), (4, .int x4)]) cx dX8_mostBy_97 (by decide) rfl ic_1 hF (fun _ => rfl) (fun v14 hF => ?_)
            refine ww_goto cx dX8_mostBy_100 (tgt := 11) rfl ?_
            exact ww_sub [1, 2, 3, 4, 5, 0] rfl (hk11 _ _ _ _ _ _ hF)
  unfold fX8_mostBy at hF
  show WW G X 7 σ [(0, .ref (gad G 62)), (1, .int a1), (2, .int a2), (3, .int a3)] 0 []
  refine ww_iconst cx dX8_mostBy_0 ic_m1 ?_
  refine ww_istore (ks := [0, 1, 2, 3, 4]) (lv' := fun v15 => [(4, .int v15), (0, .ref (gad G 62)), (1, .int a1), (2, .int a2), (3, .int a3)]) cx dX8_mostBy_1 (by decide) hF (fun _ => rfl) (fun v15 hF => ?_)
  refine ww_aload_n cx dX8_mostBy_3 rfl 1 rfl ?_
  refine ww_iconst cx dX8_mostBy_4 ic_0 ?_
  refine pf_X8_351 cx dX8_mostBy_5 hF (fun σ16 hF => ?_)
  refine ww_iconst cx dX8_mostBy_8 ic_0 ?_
  refine ww_istore (ks := [0, 1, 2, 3, 4, 5]) (lv' := fun v17 => [(5, .int v17), (4, .int v15), (0, .ref (gad G 62)), (1, .int a1), (2, .int a2), (3, .int a3)]) cx dX8_mostBy_9 (by decide) hF (fun _ => rfl) (fun v17 hF => ?_)
  exact ww_sub [2, 3, 4, 5, 1, 0] rfl (hl11 FU _ _ _ _ _ _ hF)
theorem dX8_move_0 : decode cX8_move 0 = .ok (.aload_n 0, 1) := by decide +kernel
theorem dX8_move_1 : decode cX8_move 1 = .ok (.invokevirtual 291, 3) := by decide +kernel
theorem dX8_move_4 : decode cX8_move 4 = .ok (.ifCond .ne 6, 3) := by decide +kernel
theorem dX8_move_7 : decode cX8_move 7 = .ok (.bipush (-2), 2) := by decide +kernel
theorem dX8_move_9 : decode cX8_move 9 = .ok (.ireturn, 1) := by decide +kernel
theorem dX8_move_10 : decode cX8_move 10 = .ok (.aload_n 0, 1) := by decide +kernel
theorem dX8_move_11 : decode cX8_move 11 = .ok (.invokevirtual 418, 3) := by decide +kernel
theorem dX8_move_14 : decode cX8_move 14 = .ok (.iconst 0, 1) := by decide +kernel
theorem dX8_move_15 : decode cX8_move 15 = .ok (.istore_n 1, 1) := by decide +kernel
theorem dX8_move_16 : decode cX8_move 16 = .ok (.iload_n 1, 1) := by decide +kernel
theorem dX8_move_17 : decode cX8_move 17 = .ok (.aload_n 0, 1) := by decide +kernel
theorem dX8_move_18 : decode cX8_move 18 = .ok (.getfield 9, 3) := by decide +kernel
theorem dX8_move_21 : decode cX8_move 21 = .ok (.iconst 4, 1) := by decide +kernel
theorem dX8_move_22 : decode cX8_move 22 = .ok (.iaload, 1) := by decide +kernel
theorem dX8_move_23 : decode cX8_move 23 = .ok (.if_icmp .ge 44, 3) := by decide +kernel
theorem dX8_move_26 : decode cX8_move 26 = .ok (.aload_n 0, 1) := by decide +kernel
theorem dX8_move_27 : decode cX8_move 27 = .ok (.iload_n 1, 1) := by decide +kernel
theorem dX8_move_28 : decode cX8_move 28 = .ok (.aload_n 0, 1) := by decide +kernel
theorem dX8_move_29 : decode cX8_move 29 = .ok (.invokevirtual 257, 3) := by decide +kernel
theorem dX8_move_32 : decode cX8_move 32 = .ok (.invokevirtual 300, 3) := by decide +kernel
theorem dX8_move_35 : decode cX8_move 35 = .ok (.ifCond .eq 26, 3) := by decide +kernel
theorem dX8_move_38 : decode cX8_move 38 = .ok (.aload_n 0, 1) := by decide +kernel
theorem dX8_move_39 : decode cX8_move 39 = .ok (.getfield 58, 3) := by decide +kernel
theorem dX8_move_42 : decode cX8_move 42 = .ok (.aload_n 0, 1) := by decide +kernel
theorem dX8_move_43 : decode cX8_move 43 = .ok (.invokevirtual 257, 3) := by decide +kernel
theorem dX8_move_46 : decode cX8_move 46 = .ok (.iconst 1, 1) := by decide +kernel
theorem dX8_move_47 : decode cX8_move 47 = .ok (.aload_n 0, 1) := by decide +kernel
theorem dX8_move_48 : decode cX8_move 48 = .ok (.iload_n 1, 1) := by decide +kernel
theorem dX8_move_49 : decode cX8_move 49 = .ok (.iconst 0, 1) := by decide +kernel
theorem dX8_move_50 : decode cX8_move 50 = .ok (.invokevirtual 263, 3) := by decide +kernel
theorem dX8_move_53 : decode cX8_move 53 = .ok (.ishl, 1) := by decide +kernel
theorem dX8_move_54 : decode cX8_move 54 = .ok (.ior, 1) := by decide +kernel
theorem dX8_move_55 : decode cX8_move 55 = .ok (.iaload, 1) := by decide +kernel
theorem dX8_move_56 : decode cX8_move 56 = .ok (.ifCond .ge 5, 3) := by decide +kernel
theorem dX8_move_59 : decode cX8_move 59 = .ok (.iload_n 1, 1) := by decide +kernel
theorem dX8_move_60 : decode cX8_move 60 = .ok (.ireturn, 1) := by decide +kernel
theorem dX8_move_61 : decode cX8_move 61 = .ok (.iinc 1 1, 3) := by decide +kernel
theorem dX8_move_64 : decode cX8_move 64 = .ok (.goto (-48), 3) := by decide +kernel
theorem dX8_move_67 : decode cX8_move 67 = .ok (.iconst (-1), 1) := by decide +kernel
theorem dX8_move_68 : decode cX8_move 68 = .ok (.ireturn, 1) := by decide +kernel
set_option maxRecDepth 4000 in
theorem kX8_move (G : GT) {σ : St} : ∀ (r : Int32) (σo : St) , fX8_move σ = some (r, σo) → MCt G 4 yX8_move cX8_move 2 (some .int) [.ref (gad G 62)] σ (some (.int r)) σo := by
  intro r σo hF
  refine met_i (by decide) (Nat.le_of_ble_eq_true rfl) (fun X cx hE => ?_)
  have cx : Cx G X RX8 cX8_move 2 4 := cx
  have hl16 : ∀ n : Nat, ∀ (σ : St) (x1 : Int32) , fX8_move_l16 n σ x1 = some (r, σo) → WW G X 2 σ [(0, .ref (gad G 62)), (1, .int x1)] 16 [] := by
    intro n
    induction n with
    | zero =>
      intro σ x1 hF
      exact absurd hF (by intro z; cases z)
    | succ n ih =>
      intro σ x1 hF
      have hk16 := ih
      have hF : fX8_move_B16 (fX8_move_l16 n) σ x1 = some (r, σo) := hF
      unfold fX8_move_B16 at hF
      refine ww_iload_n cx dX8_move_16 rfl 1 rfl ?_
      refine ww_aload_n cx dX8_move_17 rfl 0 rfl ?_
      refine gf_X8_9 cx dX8_move_18 ?_
      refine ww_iconst cx dX8_move_21 ic_4 ?_
      refine ww_iald (N := 77) cx (sh_63) dX8_move_22 hF (fun hF => ?_)
      refine ww_icmp_ge cx dX8_move_23 (tgt := 67) rfl hF (fun hF => ?_) (fun hF => ?_)
      · refine ww_iconst cx dX8_move_67 ic_m1 ?_
        exact ww_ris hE dX8_move_68 hF
      · refine ww_aload_n cx dX8_move_26 rfl 0 rfl ?_
        refine ww_iload_n cx dX8_move_27 rfl 1 rfl ?_
        refine ww_aload_n cx dX8_move_28 rfl 0 rfl ?_
        refine ww_V0_pi kv_X8_257 rfl cx sh_62 ⟨Nat.le_of_ble_eq_true rfl, Nat.le_of_ble_eq_true rfl⟩ (Nat.le_of_ble_eq_true rfl) dX8_move_29 (kX8_saltNow G) hF (fun r1 hF => ?_)
        refine ww_V2_pi kv_X8_300 rfl cx sh_62 ⟨Nat.le_of_ble_eq_true rfl, Nat.le_of_ble_eq_true rfl⟩ (Nat.le_of_ble_eq_true rfl) dX8_move_32 (kX8_goes G) hF (fun r2 hF => ?_)
        refine ww_if_eq cx dX8_move_35 (tgt := 61) rfl hF (fun hF => ?_) (fun hF => ?_)
        · refine ww_iinc (j := 1) (ks := [0, 1]) (lv' := fun v3 => [(1, .int v3), (0, .ref (gad G 62))]) cx dX8_move_61 (by decide) rfl ic_1 hF (fun _ => rfl) (fun v3 hF => ?_)
          refine ww_goto cx dX8_move_64 (tgt := 16) rfl ?_
          exact ww_sub [1, 0] rfl (hk16 _ _ hF)
        · refine ww_aload_n cx dX8_move_38 rfl 0 rfl ?_
          refine gf_X8_58 cx dX8_move_39 ?_
          refine ww_aload_n cx dX8_move_42 rfl 0 rfl ?_
          refine ww_V0_pi kv_X8_257 rfl cx sh_62 ⟨Nat.le_of_ble_eq_true rfl, Nat.le_of_ble_eq_true rfl⟩ (Nat.le_of_ble_eq_true rfl) dX8_move_43 (kX8_saltNow G) hF (fun r4 hF => ?_)
          refine ww_iconst cx dX8_move_46 ic_1 ?_
          refine ww_aload_n cx dX8_move_47 rfl 0 rfl ?_
          refine ww_iload_n cx dX8_move_48 rfl 1 rfl ?_
          refine ww_iconst cx dX8_move_49 ic_0 ?_
          refine ww_V2_pi kv_X8_263 rfl cx sh_62 ⟨Nat.le_of_ble_eq_true rfl, Nat.le_of_ble_eq_true rfl⟩ (Nat.le_of_ble_eq_true rfl) dX8_move_50 (kX8_ofStep G) hF (fun r5 hF => ?_)
          refine ww_ishl cx dX8_move_53 ?_
          refine ww_ior cx dX8_move_54 ?_
          refine ww_iald (N := 4096) cx (sh_77) dX8_move_55 hF (fun hF => ?_)
          refine ww_if_ge cx dX8_move_56 (tgt := 61) rfl hF (fun hF => ?_) (fun hF => ?_)
          · refine ww_iinc (j := 1) (ks := [0, 1]) (lv' := fun v6 => [(1, .int v6), (0, .ref (gad G 62))]) cx dX8_move_61 (by decide) rfl ic_1 hF (fun _ => rfl) (fun v6 hF => ?_)
            refine ww_goto cx dX8_move_64 (tgt := 16) rfl ?_
            exact ww_sub [1, 0] rfl (hk16 _ _ hF)
          · refine ww_iload_n cx dX8_move_59 rfl 1 rfl ?_
            exact ww_ris hE dX8_move_60 hF
  unfold fX8_move at hF
  show WW G X 2 σ [(0, .ref (gad G 62))] 0 []
  refine ww_aload_n cx dX8_move_0 rfl 0 rfl ?_
  refine ww_V0_pi kv_X8_291 rfl cx sh_62 ⟨Nat.le_of_ble_eq_true rfl, Nat.le_of_ble_eq_true rfl⟩ (Nat.le_of_ble_eq_true rfl) dX8_move_1 (kX8_isTable G) hF (fun r7 hF => ?_)
  refine ww_if_ne cx dX8_move_4 (tgt := 10) rfl hF (fun hF => ?_) (fun hF => ?_)
  · refine ww_aload_n cx dX8_move_10 rfl 0 rfl ?_
    refine ww_V0_sv kv_X8_418 rfl cx sh_62 ⟨Nat.le_of_ble_eq_true rfl, Nat.le_of_ble_eq_true rfl⟩ (Nat.le_of_ble_eq_true rfl) dX8_move_11 (kX8_fillDuel G) hF (fun σ8 hF => ?_)
    refine ww_iconst cx dX8_move_14 ic_0 ?_
    refine ww_istore_n (ks := [0, 1]) (lv' := fun v9 => [(1, .int v9), (0, .ref (gad G 62))]) cx dX8_move_15 rfl (by decide) hF (fun _ => rfl) (fun v9 hF => ?_)
    exact ww_sub [1, 0] rfl (hl16 FU _ _ hF)
  · refine ww_bipush cx dX8_move_7 bc_m2 ?_
    exact ww_ris hE dX8_move_9 hF
theorem dX8_provedNow_0 : decode cX8_provedNow 0 = .ok (.aload_n 0, 1) := by decide +kernel
theorem dX8_provedNow_1 : decode cX8_provedNow 1 = .ok (.aload_n 0, 1) := by decide +kernel
theorem dX8_provedNow_2 : decode cX8_provedNow 2 = .ok (.invokevirtual 257, 3) := by decide +kernel
theorem dX8_provedNow_5 : decode cX8_provedNow 5 = .ok (.aload_n 0, 1) := by decide +kernel
theorem dX8_provedNow_6 : decode cX8_provedNow 6 = .ok (.invokevirtual 304, 3) := by decide +kernel
theorem dX8_provedNow_9 : decode cX8_provedNow 9 = .ok (.invokevirtual 307, 3) := by decide +kernel
theorem dX8_provedNow_12 : decode cX8_provedNow 12 = .ok (.ireturn, 1) := by decide +kernel
set_option maxRecDepth 4000 in
theorem kX8_provedNow (G : GT) {σ : St} : ∀ (r : Int32) , fX8_provedNow σ = some r → MCt G 4 yX8_provedNow cX8_provedNow 1 (some .int) [.ref (gad G 62)] σ (some (.int r)) σ := by
  intro r hF
  refine met_i (by decide) (Nat.le_of_ble_eq_true rfl) (fun X cx hE => ?_)
  have cx : Cx G X RX8 cX8_provedNow 1 4 := cx
  unfold fX8_provedNow at hF
  show WW G X 1 σ [(0, .ref (gad G 62))] 0 []
  refine ww_aload_n cx dX8_provedNow_0 rfl 0 rfl ?_
  refine ww_aload_n cx dX8_provedNow_1 rfl 0 rfl ?_
  refine ww_V0_pi kv_X8_257 rfl cx sh_62 ⟨Nat.le_of_ble_eq_true rfl, Nat.le_of_ble_eq_true rfl⟩ (Nat.le_of_ble_eq_true rfl) dX8_provedNow_2 (kX8_saltNow G) hF (fun r1 hF => ?_)
  refine ww_aload_n cx dX8_provedNow_5 rfl 0 rfl ?_
  refine ww_V0_pi kv_X8_304 rfl cx sh_62 ⟨Nat.le_of_ble_eq_true rfl, Nat.le_of_ble_eq_true rfl⟩ (Nat.le_of_ble_eq_true rfl) dX8_provedNow_6 (kX8_allSteps G) hF (fun r2 hF => ?_)
  refine ww_V2_pi kv_X8_307 rfl cx sh_62 ⟨Nat.le_of_ble_eq_true rfl, Nat.le_of_ble_eq_true rfl⟩ (Nat.le_of_ble_eq_true rfl) dX8_provedNow_9 (kX8_provedBy G) hF (fun r3 hF => ?_)
  exact ww_rip hE dX8_provedNow_12 hF
theorem dX8_reached_0 : decode cX8_reached 0 = .ok (.aload_n 0, 1) := by decide +kernel
theorem dX8_reached_1 : decode cX8_reached 1 = .ok (.iload_n 1, 1) := by decide +kernel
theorem dX8_reached_2 : decode cX8_reached 2 = .ok (.iconst 1, 1) := by decide +kernel
theorem dX8_reached_3 : decode cX8_reached 3 = .ok (.invokevirtual 329, 3) := by decide +kernel
theorem dX8_reached_6 : decode cX8_reached 6 = .ok (.istore_n 2, 1) := by decide +kernel
theorem dX8_reached_7 : decode cX8_reached 7 = .ok (.iload_n 2, 1) := by decide +kernel
theorem dX8_reached_8 : decode cX8_reached 8 = .ok (.ifCond .ge 5, 3) := by decide +kernel
theorem dX8_reached_11 : decode cX8_reached 11 = .ok (.iload_n 2, 1) := by decide +kernel
theorem dX8_reached_12 : decode cX8_reached 12 = .ok (.ireturn, 1) := by decide +kernel
theorem dX8_reached_13 : decode cX8_reached 13 = .ok (.aload_n 0, 1) := by decide +kernel
theorem dX8_reached_14 : decode cX8_reached 14 = .ok (.iload_n 1, 1) := by decide +kernel
theorem dX8_reached_15 : decode cX8_reached 15 = .ok (.invokevirtual 333, 3) := by decide +kernel
theorem dX8_reached_18 : decode cX8_reached 18 = .ok (.aload_n 0, 1) := by decide +kernel
theorem dX8_reached_19 : decode cX8_reached 19 = .ok (.getfield 323, 3) := by decide +kernel
theorem dX8_reached_22 : decode cX8_reached 22 = .ok (.ireturn, 1) := by decide +kernel
set_option maxRecDepth 4000 in
theorem kX8_reached (G : GT) {σ : St} {a1 : Int32} : ∀ (r : Int32) (σo : St) , fX8_reached σ a1 = some (r, σo) → MCt G 4 yX8_reached cX8_reached 3 (some .int) [.ref (gad G 62), .int a1] σ (some (.int r)) σo := by
  intro r σo hF
  refine met_i (by decide) (Nat.le_of_ble_eq_true rfl) (fun X cx hE => ?_)
  have cx : Cx G X RX8 cX8_reached 3 4 := cx
  unfold fX8_reached at hF
  show WW G X 3 σ [(0, .ref (gad G 62)), (1, .int a1)] 0 []
  refine ww_aload_n cx dX8_reached_0 rfl 0 rfl ?_
  refine ww_iload_n cx dX8_reached_1 rfl 1 rfl ?_
  refine ww_iconst cx dX8_reached_2 ic_1 ?_
  refine ww_V2_pi kv_X8_329 rfl cx sh_62 ⟨Nat.le_of_ble_eq_true rfl, Nat.le_of_ble_eq_true rfl⟩ (Nat.le_of_ble_eq_true rfl) dX8_reached_3 (kX8_asksRow G) hF (fun r1 hF => ?_)
  refine ww_istore_n (ks := [0, 1, 2]) (lv' := fun v2 => [(2, .int v2), (0, .ref (gad G 62)), (1, .int a1)]) cx dX8_reached_6 rfl (by decide) hF (fun _ => rfl) (fun v2 hF => ?_)
  refine ww_iload_n cx dX8_reached_7 rfl 0 rfl ?_
  refine ww_if_ge cx dX8_reached_8 (tgt := 13) rfl hF (fun hF => ?_) (fun hF => ?_)
  · refine ww_aload_n cx dX8_reached_13 rfl 1 rfl ?_
    refine ww_iload_n cx dX8_reached_14 rfl 2 rfl ?_
    refine ww_V1_sv kv_X8_333 rfl cx sh_62 ⟨Nat.le_of_ble_eq_true rfl, Nat.le_of_ble_eq_true rfl⟩ (Nat.le_of_ble_eq_true rfl) dX8_reached_15 (kX8_readRow G) hF (fun σ3 hF => ?_)
    refine ww_aload_n cx dX8_reached_18 rfl 1 rfl ?_
    refine gf_X8_323 cx dX8_reached_19 ?_
    exact ww_ris hE dX8_reached_22 hF
  · refine ww_iload_n cx dX8_reached_11 rfl 0 rfl ?_
    exact ww_ris hE dX8_reached_12 hF
theorem dX8_reads_0 : decode cX8_reads 0 = .ok (.aload_n 0, 1) := by decide +kernel
theorem dX8_reads_1 : decode cX8_reads 1 = .ok (.iload_n 1, 1) := by decide +kernel
theorem dX8_reads_2 : decode cX8_reads 2 = .ok (.iconst 1, 1) := by decide +kernel
theorem dX8_reads_3 : decode cX8_reads 3 = .ok (.invokevirtual 329, 3) := by decide +kernel
theorem dX8_reads_6 : decode cX8_reads 6 = .ok (.istore_n 2, 1) := by decide +kernel
theorem dX8_reads_7 : decode cX8_reads 7 = .ok (.iload_n 2, 1) := by decide +kernel
theorem dX8_reads_8 : decode cX8_reads 8 = .ok (.ifCond .ge 5, 3) := by decide +kernel
theorem dX8_reads_11 : decode cX8_reads 11 = .ok (.iload_n 2, 1) := by decide +kernel
theorem dX8_reads_12 : decode cX8_reads 12 = .ok (.ireturn, 1) := by decide +kernel
theorem dX8_reads_13 : decode cX8_reads 13 = .ok (.aload_n 0, 1) := by decide +kernel
theorem dX8_reads_14 : decode cX8_reads 14 = .ok (.iload_n 1, 1) := by decide +kernel
theorem dX8_reads_15 : decode cX8_reads 15 = .ok (.invokevirtual 333, 3) := by decide +kernel
theorem dX8_reads_18 : decode cX8_reads 18 = .ok (.aload_n 0, 1) := by decide +kernel
theorem dX8_reads_19 : decode cX8_reads 19 = .ok (.getfield 326, 3) := by decide +kernel
theorem dX8_reads_22 : decode cX8_reads 22 = .ok (.ireturn, 1) := by decide +kernel
set_option maxRecDepth 4000 in
theorem kX8_reads (G : GT) {σ : St} {a1 : Int32} : ∀ (r : Int32) (σo : St) , fX8_reads σ a1 = some (r, σo) → MCt G 4 yX8_reads cX8_reads 3 (some .int) [.ref (gad G 62), .int a1] σ (some (.int r)) σo := by
  intro r σo hF
  refine met_i (by decide) (Nat.le_of_ble_eq_true rfl) (fun X cx hE => ?_)
  have cx : Cx G X RX8 cX8_reads 3 4 := cx
  unfold fX8_reads at hF
  show WW G X 3 σ [(0, .ref (gad G 62)), (1, .int a1)] 0 []
  refine ww_aload_n cx dX8_reads_0 rfl 0 rfl ?_
  refine ww_iload_n cx dX8_reads_1 rfl 1 rfl ?_
  refine ww_iconst cx dX8_reads_2 ic_1 ?_
  refine ww_V2_pi kv_X8_329 rfl cx sh_62 ⟨Nat.le_of_ble_eq_true rfl, Nat.le_of_ble_eq_true rfl⟩ (Nat.le_of_ble_eq_true rfl) dX8_reads_3 (kX8_asksRow G) hF (fun r1 hF => ?_)
  refine ww_istore_n (ks := [0, 1, 2]) (lv' := fun v2 => [(2, .int v2), (0, .ref (gad G 62)), (1, .int a1)]) cx dX8_reads_6 rfl (by decide) hF (fun _ => rfl) (fun v2 hF => ?_)
  refine ww_iload_n cx dX8_reads_7 rfl 0 rfl ?_
  refine ww_if_ge cx dX8_reads_8 (tgt := 13) rfl hF (fun hF => ?_) (fun hF => ?_)
  · refine ww_aload_n cx dX8_reads_13 rfl 1 rfl ?_
    refine ww_iload_n cx dX8_reads_14 rfl 2 rfl ?_
    refine ww_V1_sv kv_X8_333 rfl cx sh_62 ⟨Nat.le_of_ble_eq_true rfl, Nat.le_of_ble_eq_true rfl⟩ (Nat.le_of_ble_eq_true rfl) dX8_reads_15 (kX8_readRow G) hF (fun σ3 hF => ?_)
    refine ww_aload_n cx dX8_reads_18 rfl 1 rfl ?_
    refine gf_X8_326 cx dX8_reads_19 ?_
    exact ww_ris hE dX8_reads_22 hF
  · refine ww_iload_n cx dX8_reads_11 rfl 0 rfl ?_
    exact ww_ris hE dX8_reads_12 hF
theorem dX8_saltedNow_0 : decode cX8_saltedNow 0 = .ok (.aload_n 0, 1) := by decide +kernel
theorem dX8_saltedNow_1 : decode cX8_saltedNow 1 = .ok (.aload_n 0, 1) := by decide +kernel
theorem dX8_saltedNow_2 : decode cX8_saltedNow 2 = .ok (.invokevirtual 257, 3) := by decide +kernel
theorem dX8_saltedNow_5 : decode cX8_saltedNow 5 = .ok (.invokevirtual 260, 3) := by decide +kernel
theorem dX8_saltedNow_8 : decode cX8_saltedNow 8 = .ok (.ireturn, 1) := by decide +kernel
set_option maxRecDepth 4000 in
theorem kX8_saltedNow (G : GT) {σ : St} : ∀ (r : Int32) , fX8_saltedNow σ = some r → MCt G 4 yX8_saltedNow cX8_saltedNow 1 (some .int) [.ref (gad G 62)] σ (some (.int r)) σ := by
  intro r hF
  refine met_i (by decide) (Nat.le_of_ble_eq_true rfl) (fun X cx hE => ?_)
  have cx : Cx G X RX8 cX8_saltedNow 1 4 := cx
  unfold fX8_saltedNow at hF
  show WW G X 1 σ [(0, .ref (gad G 62))] 0 []
  refine ww_aload_n cx dX8_saltedNow_0 rfl 0 rfl ?_
  refine ww_aload_n cx dX8_saltedNow_1 rfl 0 rfl ?_
  refine ww_V0_pi kv_X8_257 rfl cx sh_62 ⟨Nat.le_of_ble_eq_true rfl, Nat.le_of_ble_eq_true rfl⟩ (Nat.le_of_ble_eq_true rfl) dX8_saltedNow_2 (kX8_saltNow G) hF (fun r1 hF => ?_)
  refine ww_V1_pi kv_X8_260 rfl cx sh_62 ⟨Nat.le_of_ble_eq_true rfl, Nat.le_of_ble_eq_true rfl⟩ (Nat.le_of_ble_eq_true rfl) dX8_saltedNow_5 (kX8_saltedBy G) hF (fun r2 hF => ?_)
  exact ww_rip hE dX8_saltedNow_8 hF
theorem dX8_shares_0 : decode cX8_shares 0 = .ok (.aload_n 0, 1) := by decide +kernel
theorem dX8_shares_1 : decode cX8_shares 1 = .ok (.iload_n 1, 1) := by decide +kernel
theorem dX8_shares_2 : decode cX8_shares 2 = .ok (.aload_n 0, 1) := by decide +kernel
theorem dX8_shares_3 : decode cX8_shares 3 = .ok (.iload_n 2, 1) := by decide +kernel
theorem dX8_shares_4 : decode cX8_shares 4 = .ok (.i2l, 1) := by decide +kernel
theorem dX8_shares_5 : decode cX8_shares 5 = .ok (.invokevirtual 269, 3) := by decide +kernel
theorem dX8_shares_8 : decode cX8_shares 8 = .ok (.invokevirtual 409, 3) := by decide +kernel
theorem dX8_shares_11 : decode cX8_shares 11 = .ok (.istore_n 3, 1) := by decide +kernel
theorem dX8_shares_12 : decode cX8_shares 12 = .ok (.iload_n 3, 1) := by decide +kernel
theorem dX8_shares_13 : decode cX8_shares 13 = .ok (.ifCond .ge 5, 3) := by decide +kernel
theorem dX8_shares_16 : decode cX8_shares 16 = .ok (.iload_n 3, 1) := by decide +kernel
theorem dX8_shares_17 : decode cX8_shares 17 = .ok (.ireturn, 1) := by decide +kernel
theorem dX8_shares_18 : decode cX8_shares 18 = .ok (.aload_n 0, 1) := by decide +kernel
theorem dX8_shares_19 : decode cX8_shares 19 = .ok (.iload_n 1, 1) := by decide +kernel
theorem dX8_shares_20 : decode cX8_shares 20 = .ok (.invokevirtual 412, 3) := by decide +kernel
theorem dX8_shares_23 : decode cX8_shares 23 = .ok (.aload_n 0, 1) := by decide +kernel
theorem dX8_shares_24 : decode cX8_shares 24 = .ok (.getfield 49, 3) := by decide +kernel
theorem dX8_shares_27 : decode cX8_shares 27 = .ok (.iload_n 2, 1) := by decide +kernel
theorem dX8_shares_28 : decode cX8_shares 28 = .ok (.iaload, 1) := by decide +kernel
theorem dX8_shares_29 : decode cX8_shares 29 = .ok (.ireturn, 1) := by decide +kernel
set_option maxRecDepth 4000 in
theorem kX8_shares (G : GT) {σ : St} {a1 : Int32} {a2 : Int32} : ∀ (r : Int32) (σo : St) , fX8_shares σ a1 a2 = some (r, σo) → MCt G 4 yX8_shares cX8_shares 4 (some .int) [.ref (gad G 62), .int a1, .int a2] σ (some (.int r)) σo := by
  intro r σo hF
  refine met_i (by decide) (Nat.le_of_ble_eq_true rfl) (fun X cx hE => ?_)
  have cx : Cx G X RX8 cX8_shares 4 4 := cx
  unfold fX8_shares at hF
  show WW G X 4 σ [(0, .ref (gad G 62)), (1, .int a1), (2, .int a2)] 0 []
  refine ww_aload_n cx dX8_shares_0 rfl 0 rfl ?_
  refine ww_iload_n cx dX8_shares_1 rfl 1 rfl ?_
  refine ww_aload_n cx dX8_shares_2 rfl 0 rfl ?_
  refine ww_iload_n cx dX8_shares_3 rfl 2 rfl ?_
  refine ww_i2l cx dX8_shares_4 ?_
  refine ww_V1_pi kv_X8_269 rfl cx sh_62 ⟨Nat.le_of_ble_eq_true rfl, Nat.le_of_ble_eq_true rfl⟩ (Nat.le_of_ble_eq_true rfl) dX8_shares_5 (kX8_isClaim G) hF (fun r1 hF => ?_)
  refine ww_V2_pi kv_X8_409 rfl cx sh_62 ⟨Nat.le_of_ble_eq_true rfl, Nat.le_of_ble_eq_true rfl⟩ (Nat.le_of_ble_eq_true rfl) dX8_shares_8 (kX8_asksKitchen G) hF (fun r2 hF => ?_)
  refine ww_istore_n (ks := [0, 1, 2, 3]) (lv' := fun v3 => [(3, .int v3), (0, .ref (gad G 62)), (1, .int a1), (2, .int a2)]) cx dX8_shares_11 rfl (by decide) hF (fun _ => rfl) (fun v3 hF => ?_)
  refine ww_iload_n cx dX8_shares_12 rfl 0 rfl ?_
  refine ww_if_ge cx dX8_shares_13 (tgt := 18) rfl hF (fun hF => ?_) (fun hF => ?_)
  · refine ww_aload_n cx dX8_shares_18 rfl 1 rfl ?_
    refine ww_iload_n cx dX8_shares_19 rfl 2 rfl ?_
    refine ww_V1_sv kv_X8_412 rfl cx sh_62 ⟨Nat.le_of_ble_eq_true rfl, Nat.le_of_ble_eq_true rfl⟩ (Nat.le_of_ble_eq_true rfl) dX8_shares_20 (kX8_goKitchen G) hF (fun σ4 hF => ?_)
    refine ww_aload_n cx dX8_shares_23 rfl 1 rfl ?_
    refine gf_X8_49 cx dX8_shares_24 ?_
    refine ww_iload_n cx dX8_shares_27 rfl 3 rfl ?_
    refine ww_iald (N := 12) cx (sh_74) dX8_shares_28 hF (fun hF => ?_)
    exact ww_ris hE dX8_shares_29 hF
  · refine ww_iload_n cx dX8_shares_16 rfl 0 rfl ?_
    exact ww_ris hE dX8_shares_17 hF
theorem dX8_spareOf_0 : decode cX8_spareOf 0 = .ok (.aload_n 0, 1) := by decide +kernel
theorem dX8_spareOf_1 : decode cX8_spareOf 1 = .ok (.invokevirtual 257, 3) := by decide +kernel
theorem dX8_spareOf_4 : decode cX8_spareOf 4 = .ok (.istore_n 2, 1) := by decide +kernel
theorem dX8_spareOf_5 : decode cX8_spareOf 5 = .ok (.iconst (-1), 1) := by decide +kernel
theorem dX8_spareOf_6 : decode cX8_spareOf 6 = .ok (.istore_n 3, 1) := by decide +kernel
theorem dX8_spareOf_7 : decode cX8_spareOf 7 = .ok (.iconst 0, 1) := by decide +kernel
theorem dX8_spareOf_8 : decode cX8_spareOf 8 = .ok (.istore 4, 2) := by decide +kernel
theorem dX8_spareOf_10 : decode cX8_spareOf 10 = .ok (.iload 4, 2) := by decide +kernel
theorem dX8_spareOf_12 : decode cX8_spareOf 12 = .ok (.iload_n 2, 1) := by decide +kernel
theorem dX8_spareOf_13 : decode cX8_spareOf 13 = .ok (.if_icmp .gt 55, 3) := by decide +kernel
theorem dX8_spareOf_16 : decode cX8_spareOf 16 = .ok (.iload 4, 2) := by decide +kernel
theorem dX8_spareOf_18 : decode cX8_spareOf 18 = .ok (.iload_n 2, 1) := by decide +kernel
theorem dX8_spareOf_19 : decode cX8_spareOf 19 = .ok (.iconst (-1), 1) := by decide +kernel
theorem dX8_spareOf_20 : decode cX8_spareOf 20 = .ok (.ixor, 1) := by decide +kernel
theorem dX8_spareOf_21 : decode cX8_spareOf 21 = .ok (.iand, 1) := by decide +kernel
theorem dX8_spareOf_22 : decode cX8_spareOf 22 = .ok (.ifCond .ne 40, 3) := by decide +kernel
theorem dX8_spareOf_25 : decode cX8_spareOf 25 = .ok (.iload_n 3, 1) := by decide +kernel
theorem dX8_spareOf_26 : decode cX8_spareOf 26 = .ok (.iconst (-1), 1) := by decide +kernel
theorem dX8_spareOf_27 : decode cX8_spareOf 27 = .ok (.if_icmp .eq 15, 3) := by decide +kernel
theorem dX8_spareOf_30 : decode cX8_spareOf 30 = .ok (.iload 4, 2) := by decide +kernel
theorem dX8_spareOf_32 : decode cX8_spareOf 32 = .ok (.invokestatic 273, 3) := by decide +kernel
theorem dX8_spareOf_35 : decode cX8_spareOf 35 = .ok (.iload_n 3, 1) := by decide +kernel
theorem dX8_spareOf_36 : decode cX8_spareOf 36 = .ok (.invokestatic 273, 3) := by decide +kernel
theorem dX8_spareOf_39 : decode cX8_spareOf 39 = .ok (.if_icmp .ge 23, 3) := by decide +kernel
theorem dX8_spareOf_42 : decode cX8_spareOf 42 = .ok (.iload_n 1, 1) := by decide +kernel
theorem dX8_spareOf_43 : decode cX8_spareOf 43 = .ok (.aload_n 0, 1) := by decide +kernel
theorem dX8_spareOf_44 : decode cX8_spareOf 44 = .ok (.iload 4, 2) := by decide +kernel
theorem dX8_spareOf_46 : decode cX8_spareOf 46 = .ok (.aload_n 0, 1) := by decide +kernel
theorem dX8_spareOf_47 : decode cX8_spareOf 47 = .ok (.invokevirtual 304, 3) := by decide +kernel
theorem dX8_spareOf_50 : decode cX8_spareOf 50 = .ok (.invokevirtual 307, 3) := by decide +kernel
theorem dX8_spareOf_53 : decode cX8_spareOf 53 = .ok (.iconst (-1), 1) := by decide +kernel
theorem dX8_spareOf_54 : decode cX8_spareOf 54 = .ok (.ixor, 1) := by decide +kernel
theorem dX8_spareOf_55 : decode cX8_spareOf 55 = .ok (.iand, 1) := by decide +kernel
theorem dX8_spareOf_56 : decode cX8_spareOf 56 = .ok (.ifCond .ne 6, 3) := by decide +kernel
theorem dX8_spareOf_59 : decode cX8_spareOf 59 = .ok (.iload 4, 2) := by decide +kernel
theorem dX8_spareOf_61 : decode cX8_spareOf 61 = .ok (.istore_n 3, 1) := by decide +kernel
theorem dX8_spareOf_62 : decode cX8_spareOf 62 = .ok (.iinc 4 1, 3) := by decide +kernel
theorem dX8_spareOf_65 : decode cX8_spareOf 65 = .ok (.goto (-55), 3) := by decide +kernel
theorem dX8_spareOf_68 : decode cX8_spareOf 68 = .ok (.iload_n 3, 1) := by decide +kernel
theorem dX8_spareOf_69 : decode cX8_spareOf 69 = .ok (.ireturn, 1) := by decide +kernel
set_option maxRecDepth 4000 in
theorem kX8_spareOf (G : GT) {σ : St} {a1 : Int32} : ∀ (r : Int32) , fX8_spareOf σ a1 = some r → MCt G 4 yX8_spareOf cX8_spareOf 5 (some .int) [.ref (gad G 62), .int a1] σ (some (.int r)) σ := by
  intro r hF
  refine met_i (by decide) (Nat.le_of_ble_eq_true rfl) (fun X cx hE => ?_)
  have cx : Cx G X RX8 cX8_spareOf 5 4 := cx
  have hb42 : ∀ (kr10 : Int32 → Int32 → Int32 → Int32 → Option (Int32)), (∀ (x1 : Int32) (x2 : Int32) (x3 : Int32) (x4 : Int32) , kr10 x1 x2 x3 x4 = some r → WW G X 5 σ [(0, .ref (gad G 62)), (1, .int x1), (2, .int x2), (3, .int x3), (4, .int x4)] 10 []) → ∀ (x1 : Int32) (x2 : Int32) (x3 : Int32) (x4 : Int32) , fX8_spareOf_b42 σ kr10 x1 x2 x3 x4 = some r → WW G X 5 σ [(0, .ref (gad G 62)), (1, .int x1), (2, .int x2), (3, .int x3), (4, .int x4)] 42 [] := by
    intro kr10 hk10
    intro x1 x2 x3 x4 hF
    unfold fX8_spareOf_b42 at hF
    refine ww_iload_n cx dX8_spareOf_42 rfl 1 rfl ?_
    refine ww_aload_n cx dX8_spareOf_43 rfl 0 rfl ?_
    refine ww_iload cx dX8_spareOf_44 4 rfl ?_
    refine ww_aload_n cx dX8_spareOf_46 rfl 0 rfl ?_
    refine ww_V0_pi kv_X8_304 rfl cx sh_62 ⟨Nat.le_of_ble_eq_true rfl, Nat.le_of_ble_eq_true rfl⟩ (Nat.le_of_ble_eq_true rfl) dX8_spareOf_47 (kX8_allSteps G) hF (fun r1 hF => ?_)
    refine ww_V2_pi kv_X8_307 rfl cx sh_62 ⟨Nat.le_of_ble_eq_true rfl, Nat.le_of_ble_eq_true rfl⟩ (Nat.le_of_ble_eq_true rfl) dX8_spareOf_50 (kX8_provedBy G) hF (fun r2 hF => ?_)
    refine ww_iconst cx dX8_spareOf_53 ic_m1 ?_
    refine ww_ixor cx dX8_spareOf_54 ?_
    refine ww_iand cx dX8_spareOf_55 ?_
    refine ww_if_ne cx dX8_spareOf_56 (tgt := 62) rfl hF (fun hF => ?_) (fun hF => ?_)
    · refine ww_iinc (j := 4) (ks := [0, 1, 2, 3, 4]) (lv' := fun v3 => [(4, .int v3), (0, .ref (gad G 62)), (1, .int x1), (2, .int x2), (3, .int x3)]) cx dX8_spareOf_62 (by decide) rfl ic_1 hF (fun _ => rfl) (fun v3 hF => ?_)
      refine ww_goto cx dX8_spareOf_65 (tgt := 10) rfl ?_
      exact ww_sub [1, 2, 3, 4, 0] rfl (hk10 _ _ _ _ hF)
    · refine ww_iload cx dX8_spareOf_59 4 rfl ?_
      refine ww_istore_n (ks := [0, 1, 2, 3, 4]) (lv' := fun v4 => [(3, .int v4), (0, .ref (gad G 62)), (1, .int x1), (2, .int x2), (4, .int x4)]) cx dX8_spareOf_61 rfl (by decide) hF (fun _ => rfl) (fun v4 hF => ?_)
      refine ww_iinc (j := 4) (ks := [0, 1, 2, 3, 4]) (lv' := fun v5 => [(4, .int v5), (3, .int v4), (0, .ref (gad G 62)), (1, .int x1), (2, .int x2)]) cx dX8_spareOf_62 (by decide) rfl ic_1 hF (fun _ => rfl) (fun v5 hF => ?_)
      refine ww_goto cx dX8_spareOf_65 (tgt := 10) rfl ?_
      exact ww_sub [2, 3, 4, 1, 0] rfl (hk10 _ _ _ _ hF)
  have hl10 : ∀ n : Nat, ∀ (x1 : Int32) (x2 : Int32) (x3 : Int32) (x4 : Int32) , fX8_spareOf_l10 σ n x1 x2 x3 x4 = some r → WW G X 5 σ [(0, .ref (gad G 62)), (1, .int x1), (2, .int x2), (3, .int x3), (4, .int x4)] 10 [] := by
    intro n
    induction n with
    | zero =>
      intro x1 x2 x3 x4 hF
      exact absurd hF (by intro z; cases z)
    | succ n ih =>
      intro x1 x2 x3 x4 hF
      have hk10 := ih
      have hF : fX8_spareOf_B10 σ (fX8_spareOf_l10 σ n) x1 x2 x3 x4 = some r := hF
      unfold fX8_spareOf_B10 at hF
      refine ww_iload cx dX8_spareOf_10 4 rfl ?_
      refine ww_iload_n cx dX8_spareOf_12 rfl 2 rfl ?_
      refine ww_icmp_gt cx dX8_spareOf_13 (tgt := 68) rfl hF (fun hF => ?_) (fun hF => ?_)
      · refine ww_iload_n cx dX8_spareOf_68 rfl 3 rfl ?_
        exact ww_rip hE dX8_spareOf_69 hF
      · refine ww_iload cx dX8_spareOf_16 4 rfl ?_
        refine ww_iload_n cx dX8_spareOf_18 rfl 2 rfl ?_
        refine ww_iconst cx dX8_spareOf_19 ic_m1 ?_
        refine ww_ixor cx dX8_spareOf_20 ?_
        refine ww_iand cx dX8_spareOf_21 ?_
        refine ww_if_ne cx dX8_spareOf_22 (tgt := 62) rfl hF (fun hF => ?_) (fun hF => ?_)
        · refine ww_iinc (j := 4) (ks := [0, 1, 2, 3, 4]) (lv' := fun v6 => [(4, .int v6), (0, .ref (gad G 62)), (1, .int x1), (2, .int x2), (3, .int x3)]) cx dX8_spareOf_62 (by decide) rfl ic_1 hF (fun _ => rfl) (fun v6 hF => ?_)
          refine ww_goto cx dX8_spareOf_65 (tgt := 10) rfl ?_
          exact ww_sub [1, 2, 3, 4, 0] rfl (hk10 _ _ _ _ hF)
        · refine ww_iload_n cx dX8_spareOf_25 rfl 3 rfl ?_
          refine ww_iconst cx dX8_spareOf_26 ic_m1 ?_
          refine ww_icmp_eq cx dX8_spareOf_27 (tgt := 42) rfl hF (fun hF => ?_) (fun hF => ?_)
          · exact hb42 _ hk10 _ _ _ _ hF
          · refine ww_iload cx dX8_spareOf_30 4 rfl ?_
            refine ww_S1_pi kv_X8_273 cx ⟨Nat.le_of_ble_eq_true rfl, Nat.le_of_ble_eq_true rfl⟩ (Nat.le_of_ble_eq_true rfl) dX8_spareOf_32 (kX8_bits G) hF (fun r7 hF => ?_)
            refine ww_iload_n cx dX8_spareOf_35 rfl 3 rfl ?_
            refine ww_S1_pi kv_X8_273 cx ⟨Nat.le_of_ble_eq_true rfl, Nat.le_of_ble_eq_true rfl⟩ (Nat.le_of_ble_eq_true rfl) dX8_spareOf_36 (kX8_bits G) hF (fun r8 hF => ?_)
            refine ww_icmp_ge cx dX8_spareOf_39 (tgt := 62) rfl hF (fun hF => ?_) (fun hF => ?_)
            · refine ww_iinc (j := 4) (ks := [0, 1, 2, 3, 4]) (lv' := fun v9 => [(4, .int v9), (0, .ref (gad G 62)), (1, .int x1), (2, .int x2), (3, .int x3)]) cx dX8_spareOf_62 (by decide) rfl ic_1 hF (fun _ => rfl) (fun v9 hF => ?_)
              refine ww_goto cx dX8_spareOf_65 (tgt := 10) rfl ?_
              exact ww_sub [1, 2, 3, 4, 0] rfl (hk10 _ _ _ _ hF)
            · exact hb42 _ hk10 _ _ _ _ hF
  unfold fX8_spareOf at hF
  show WW G X 5 σ [(0, .ref (gad G 62)), (1, .int a1)] 0 []
  refine ww_aload_n cx dX8_spareOf_0 rfl 0 rfl ?_
  refine ww_V0_pi kv_X8_257 rfl cx sh_62 ⟨Nat.le_of_ble_eq_true rfl, Nat.le_of_ble_eq_true rfl⟩ (Nat.le_of_ble_eq_true rfl) dX8_spareOf_1 (kX8_saltNow G) hF (fun r10 hF => ?_)
  refine ww_istore_n (ks := [0, 1, 2]) (lv' := fun v11 => [(2, .int v11), (0, .ref (gad G 62)), (1, .int a1)]) cx dX8_spareOf_4 rfl (by decide) hF (fun _ => rfl) (fun v11 hF => ?_)
  refine ww_iconst cx dX8_spareOf_5 ic_m1 ?_
  refine ww_istore_n (ks := [0, 1, 2, 3]) (lv' := fun v12 => [(3, .int v12), (2, .int v11), (0, .ref (gad G 62)), (1, .int a1)]) cx dX8_spareOf_6 rfl (by decide) hF (fun _ => rfl) (fun v12 hF => ?_)
  refine ww_iconst cx dX8_spareOf_7 ic_0 ?_
  refine ww_istore (ks := [0, 1, 2, 3, 4]) (lv' := fun v13 => [(4, .int v13), (3, .int v12), (2, .int v11), (0, .ref (gad G 62)), (1, .int a1)]) cx dX8_spareOf_8 (by decide) hF (fun _ => rfl) (fun v13 hF => ?_)
  exact ww_sub [3, 4, 2, 1, 0] rfl (hl10 FU _ _ _ _ hF)
theorem dX8_strength_0 : decode cX8_strength 0 = .ok (.aload_n 0, 1) := by decide +kernel
theorem dX8_strength_1 : decode cX8_strength 1 = .ok (.iload_n 1, 1) := by decide +kernel
theorem dX8_strength_2 : decode cX8_strength 2 = .ok (.invokevirtual 378, 3) := by decide +kernel
theorem dX8_strength_5 : decode cX8_strength 5 = .ok (.ifCond .eq 11, 3) := by decide +kernel
theorem dX8_strength_8 : decode cX8_strength 8 = .ok (.aload_n 0, 1) := by decide +kernel
theorem dX8_strength_9 : decode cX8_strength 9 = .ok (.iload_n 1, 1) := by decide +kernel
theorem dX8_strength_10 : decode cX8_strength 10 = .ok (.invokevirtual 384, 3) := by decide +kernel
theorem dX8_strength_13 : decode cX8_strength 13 = .ok (.goto 5, 3) := by decide +kernel
theorem dX8_strength_16 : decode cX8_strength 16 = .ok (.bipush (-2), 2) := by decide +kernel
theorem dX8_strength_18 : decode cX8_strength 18 = .ok (.ireturn, 1) := by decide +kernel
set_option maxRecDepth 4000 in
theorem kX8_strength (G : GT) {σ : St} {a1 : Int32} : ∀ (r : Int32) , fX8_strength σ a1 = some r → MCt G 4 yX8_strength cX8_strength 2 (some .int) [.ref (gad G 62), .int a1] σ (some (.int r)) σ := by
  intro r hF
  refine met_i (by decide) (Nat.le_of_ble_eq_true rfl) (fun X cx hE => ?_)
  have cx : Cx G X RX8 cX8_strength 2 4 := cx
  unfold fX8_strength at hF
  show WW G X 2 σ [(0, .ref (gad G 62)), (1, .int a1)] 0 []
  refine ww_aload_n cx dX8_strength_0 rfl 0 rfl ?_
  refine ww_iload_n cx dX8_strength_1 rfl 1 rfl ?_
  refine ww_V1_pi kv_X8_378 rfl cx sh_62 ⟨Nat.le_of_ble_eq_true rfl, Nat.le_of_ble_eq_true rfl⟩ (Nat.le_of_ble_eq_true rfl) dX8_strength_2 (kX8_areGuests G) hF (fun r1 hF => ?_)
  refine ww_if_eq cx dX8_strength_5 (tgt := 16) rfl hF (fun hF => ?_) (fun hF => ?_)
  · refine ww_bipush cx dX8_strength_16 bc_m2 ?_
    exact ww_rip hE dX8_strength_18 hF
  · refine ww_aload_n cx dX8_strength_8 rfl 0 rfl ?_
    refine ww_iload_n cx dX8_strength_9 rfl 1 rfl ?_
    refine ww_V1_pi kv_X8_384 rfl cx sh_62 ⟨Nat.le_of_ble_eq_true rfl, Nat.le_of_ble_eq_true rfl⟩ (Nat.le_of_ble_eq_true rfl) dX8_strength_10 (kX8_strengthOf G) hF (fun r2 hF => ?_)
    refine ww_goto cx dX8_strength_13 (tgt := 18) rfl ?_
    exact ww_rip hE dX8_strength_18 hF
theorem dX8_usedBy_0 : decode cX8_usedBy 0 = .ok (.aload_n 0, 1) := by decide +kernel
theorem dX8_usedBy_1 : decode cX8_usedBy 1 = .ok (.iload_n 1, 1) := by decide +kernel
theorem dX8_usedBy_2 : decode cX8_usedBy 2 = .ok (.invokevirtual 333, 3) := by decide +kernel
theorem dX8_usedBy_5 : decode cX8_usedBy 5 = .ok (.iconst 1, 1) := by decide +kernel
theorem dX8_usedBy_6 : decode cX8_usedBy 6 = .ok (.iload_n 2, 1) := by decide +kernel
theorem dX8_usedBy_7 : decode cX8_usedBy 7 = .ok (.ishl, 1) := by decide +kernel
theorem dX8_usedBy_8 : decode cX8_usedBy 8 = .ok (.istore_n 3, 1) := by decide +kernel
theorem dX8_usedBy_9 : decode cX8_usedBy 9 = .ok (.iconst 0, 1) := by decide +kernel
theorem dX8_usedBy_10 : decode cX8_usedBy 10 = .ok (.istore 4, 2) := by decide +kernel
theorem dX8_usedBy_12 : decode cX8_usedBy 12 = .ok (.aload_n 0, 1) := by decide +kernel
theorem dX8_usedBy_13 : decode cX8_usedBy 13 = .ok (.getfield 326, 3) := by decide +kernel
theorem dX8_usedBy_16 : decode cX8_usedBy 16 = .ok (.iconst 1, 1) := by decide +kernel
theorem dX8_usedBy_17 : decode cX8_usedBy 17 = .ok (.isub, 1) := by decide +kernel
theorem dX8_usedBy_18 : decode cX8_usedBy 18 = .ok (.istore 5, 2) := by decide +kernel
theorem dX8_usedBy_20 : decode cX8_usedBy 20 = .ok (.iload 5, 2) := by decide +kernel
theorem dX8_usedBy_22 : decode cX8_usedBy 22 = .ok (.ifCond .lt 55, 3) := by decide +kernel
theorem dX8_usedBy_25 : decode cX8_usedBy 25 = .ok (.aload_n 0, 1) := by decide +kernel
theorem dX8_usedBy_26 : decode cX8_usedBy 26 = .ok (.iload_n 1, 1) := by decide +kernel
theorem dX8_usedBy_27 : decode cX8_usedBy 27 = .ok (.iload 5, 2) := by decide +kernel
theorem dX8_usedBy_29 : decode cX8_usedBy 29 = .ok (.invokevirtual 319, 3) := by decide +kernel
theorem dX8_usedBy_32 : decode cX8_usedBy 32 = .ok (.l2i, 1) := by decide +kernel
theorem dX8_usedBy_33 : decode cX8_usedBy 33 = .ok (.istore 6, 2) := by decide +kernel
theorem dX8_usedBy_35 : decode cX8_usedBy 35 = .ok (.iload_n 3, 1) := by decide +kernel
theorem dX8_usedBy_36 : decode cX8_usedBy 36 = .ok (.aload_n 0, 1) := by decide +kernel
theorem dX8_usedBy_37 : decode cX8_usedBy 37 = .ok (.iload 6, 2) := by decide +kernel
theorem dX8_usedBy_39 : decode cX8_usedBy 39 = .ok (.iconst 0, 1) := by decide +kernel
theorem dX8_usedBy_40 : decode cX8_usedBy 40 = .ok (.invokevirtual 263, 3) := by decide +kernel
theorem dX8_usedBy_43 : decode cX8_usedBy 43 = .ok (.invokestatic 168, 3) := by decide +kernel
theorem dX8_usedBy_46 : decode cX8_usedBy 46 = .ok (.ifCond .ne 6, 3) := by decide +kernel
theorem dX8_usedBy_49 : decode cX8_usedBy 49 = .ok (.goto 22, 3) := by decide +kernel
theorem dX8_usedBy_52 : decode cX8_usedBy 52 = .ok (.iload 4, 2) := by decide +kernel
theorem dX8_usedBy_54 : decode cX8_usedBy 54 = .ok (.iconst 1, 1) := by decide +kernel
theorem dX8_usedBy_55 : decode cX8_usedBy 55 = .ok (.iload 6, 2) := by decide +kernel
theorem dX8_usedBy_57 : decode cX8_usedBy 57 = .ok (.ishl, 1) := by decide +kernel
theorem dX8_usedBy_58 : decode cX8_usedBy 58 = .ok (.ior, 1) := by decide +kernel
theorem dX8_usedBy_59 : decode cX8_usedBy 59 = .ok (.istore 4, 2) := by decide +kernel
theorem dX8_usedBy_61 : decode cX8_usedBy 61 = .ok (.iload_n 3, 1) := by decide +kernel
theorem dX8_usedBy_62 : decode cX8_usedBy 62 = .ok (.aload_n 0, 1) := by decide +kernel
theorem dX8_usedBy_63 : decode cX8_usedBy 63 = .ok (.iload 6, 2) := by decide +kernel
theorem dX8_usedBy_65 : decode cX8_usedBy 65 = .ok (.iconst 1, 1) := by decide +kernel
theorem dX8_usedBy_66 : decode cX8_usedBy 66 = .ok (.invokevirtual 263, 3) := by decide +kernel
theorem dX8_usedBy_69 : decode cX8_usedBy 69 = .ok (.ior, 1) := by decide +kernel
theorem dX8_usedBy_70 : decode cX8_usedBy 70 = .ok (.istore_n 3, 1) := by decide +kernel
theorem dX8_usedBy_71 : decode cX8_usedBy 71 = .ok (.iinc 5 (-1), 3) := by decide +kernel
theorem dX8_usedBy_74 : decode cX8_usedBy 74 = .ok (.goto (-54), 3) := by decide +kernel
theorem dX8_usedBy_77 : decode cX8_usedBy 77 = .ok (.iload 4, 2) := by decide +kernel
theorem dX8_usedBy_79 : decode cX8_usedBy 79 = .ok (.ireturn, 1) := by decide +kernel
set_option maxRecDepth 4000 in
theorem kX8_usedBy (G : GT) {σ : St} {a1 : Int32} {a2 : Int32} : ∀ (r : Int32) (σo : St) , fX8_usedBy σ a1 a2 = some (r, σo) → MCt G 4 yX8_usedBy cX8_usedBy 7 (some .int) [.ref (gad G 62), .int a1, .int a2] σ (some (.int r)) σo := by
  intro r σo hF
  refine met_i (by decide) (Nat.le_of_ble_eq_true rfl) (fun X cx hE => ?_)
  have cx : Cx G X RX8 cX8_usedBy 7 4 := cx
  have hl20 : ∀ n : Nat, ∀ (σ : St) (x1 : Int32) (x3 : Int32) (x4 : Int32) (x5 : Int32) , fX8_usedBy_l20 n σ x1 x3 x4 x5 = some (r, σo) → WW G X 7 σ [(0, .ref (gad G 62)), (1, .int x1), (3, .int x3), (4, .int x4), (5, .int x5)] 20 [] := by
    intro n
    induction n with
    | zero =>
      intro σ x1 x3 x4 x5 hF
      exact absurd hF (by intro z; cases z)
    | succ n ih =>
      intro σ x1 x3 x4 x5 hF
      have hk20 := ih
      have hF : fX8_usedBy_B20 (fX8_usedBy_l20 n) σ x1 x3 x4 x5 = some (r, σo) := hF
      unfold fX8_usedBy_B20 at hF
      refine ww_iload cx dX8_usedBy_20 4 rfl ?_
      refine ww_if_lt cx dX8_usedBy_22 (tgt := 77) rfl hF (fun hF => ?_) (fun hF => ?_)
      · refine ww_iload cx dX8_usedBy_77 3 rfl ?_
        exact ww_ris hE dX8_usedBy_79 hF
      · refine ww_aload_n cx dX8_usedBy_25 rfl 0 rfl ?_
        refine ww_iload_n cx dX8_usedBy_26 rfl 1 rfl ?_
        refine ww_iload cx dX8_usedBy_27 4 rfl ?_
        refine ww_V2_pl kv_X8_319 rfl cx sh_62 ⟨Nat.le_of_ble_eq_true rfl, Nat.le_of_ble_eq_true rfl⟩ (Nat.le_of_ble_eq_true rfl) dX8_usedBy_29 (kX8_numberAt G) hF (fun r1 hF => ?_)
        refine ww_l2i cx dX8_usedBy_32 ?_
        refine ww_istore (ks := [0, 1, 2, 3, 4, 5]) (lv' := fun v2 => [(6, .int v2), (0, .ref (gad G 62)), (1, .int x1), (3, .int x3), (4, .int x4), (5, .int x5)]) cx dX8_usedBy_33 (by decide) hF (fun _ => rfl) (fun v2 hF => ?_)
        refine ww_iload_n cx dX8_usedBy_35 rfl 3 rfl ?_
        refine ww_aload_n cx dX8_usedBy_36 rfl 1 rfl ?_
        refine ww_iload cx dX8_usedBy_37 0 rfl ?_
        refine ww_iconst cx dX8_usedBy_39 ic_0 ?_
        refine ww_V2_pi kv_X8_263 rfl cx sh_62 ⟨Nat.le_of_ble_eq_true rfl, Nat.le_of_ble_eq_true rfl⟩ (Nat.le_of_ble_eq_true rfl) dX8_usedBy_40 (kX8_ofStep G) hF (fun r3 hF => ?_)
        refine ww_S2_pi kv_X8_168 cx ⟨Nat.le_of_ble_eq_true rfl, Nat.le_of_ble_eq_true rfl⟩ (Nat.le_of_ble_eq_true rfl) dX8_usedBy_43 (kX8_bit G) hF (fun r4 hF => ?_)
        refine ww_if_ne cx dX8_usedBy_46 (tgt := 52) rfl hF (fun hF => ?_) (fun hF => ?_)
        · refine ww_iload cx dX8_usedBy_52 4 rfl ?_
          refine ww_iconst cx dX8_usedBy_54 ic_1 ?_
          refine ww_iload cx dX8_usedBy_55 0 rfl ?_
          refine ww_ishl cx dX8_usedBy_57 ?_
          refine ww_ior cx dX8_usedBy_58 ?_
          refine ww_istore (ks := [0, 1, 2, 3, 4, 5]) (lv' := fun v5 => [(4, .int v5), (6, .int v2), (0, .ref (gad G 62)), (1, .int x1), (3, .int x3), (5, .int x5)]) cx dX8_usedBy_59 (by decide) hF (fun _ => rfl) (fun v5 hF => ?_)
          refine ww_iload_n cx dX8_usedBy_61 rfl 4 rfl ?_
          refine ww_aload_n cx dX8_usedBy_62 rfl 2 rfl ?_
          refine ww_iload cx dX8_usedBy_63 1 rfl ?_
          refine ww_iconst cx dX8_usedBy_65 ic_1 ?_
          refine ww_V2_pi kv_X8_263 rfl cx sh_62 ⟨Nat.le_of_ble_eq_true rfl, Nat.le_of_ble_eq_true rfl⟩ (Nat.le_of_ble_eq_true rfl) dX8_usedBy_66 (kX8_ofStep G) hF (fun r6 hF => ?_)
          refine ww_ior cx dX8_usedBy_69 ?_
          refine ww_istore_n (ks := [0, 1, 3, 4, 5]) (lv' := fun v7 => [(3, .int v7), (4, .int v5), (0, .ref (gad G 62)), (1, .int x1), (5, .int x5)]) cx dX8_usedBy_70 rfl (by decide) hF (fun _ => rfl) (fun v7 hF => ?_)
          refine ww_iinc (j := 4) (ks := [0, 1, 2, 3, 4]) (lv' := fun v8 => [(5, .int v8), (3, .int v7), (4, .int v5), (0, .ref (gad G 62)), (1, .int x1)]) cx dX8_usedBy_71 (by decide) rfl ic_m1 hF (fun _ => rfl) (fun v8 hF => ?_)
          refine ww_goto cx dX8_usedBy_74 (tgt := 20) rfl ?_
          exact ww_sub [3, 4, 1, 2, 0] rfl (hk20 _ _ _ _ _ hF)
        · refine ww_goto cx dX8_usedBy_49 (tgt := 71) rfl ?_
          refine ww_iinc (j := 5) (ks := [0, 2, 3, 4, 5]) (lv' := fun v9 => [(5, .int v9), (0, .ref (gad G 62)), (1, .int x1), (3, .int x3), (4, .int x4)]) cx dX8_usedBy_71 (by decide) rfl ic_m1 hF (fun _ => rfl) (fun v9 hF => ?_)
          refine ww_goto cx dX8_usedBy_74 (tgt := 20) rfl ?_
          exact ww_sub [1, 2, 3, 4, 0] rfl (hk20 _ _ _ _ _ hF)
  unfold fX8_usedBy at hF
  show WW G X 7 σ [(0, .ref (gad G 62)), (1, .int a1), (2, .int a2)] 0 []
  refine ww_aload_n cx dX8_usedBy_0 rfl 0 rfl ?_
  refine ww_iload_n cx dX8_usedBy_1 rfl 1 rfl ?_
  refine ww_V1_sv kv_X8_333 rfl cx sh_62 ⟨Nat.le_of_ble_eq_true rfl, Nat.le_of_ble_eq_true rfl⟩ (Nat.le_of_ble_eq_true rfl) dX8_usedBy_2 (kX8_readRow G) hF (fun σ10 hF => ?_)
  refine ww_iconst cx dX8_usedBy_5 ic_1 ?_
  refine ww_iload_n cx dX8_usedBy_6 rfl 2 rfl ?_
  refine ww_ishl cx dX8_usedBy_7 ?_
  refine ww_istore_n (ks := [0, 1, 2]) (lv' := fun v11 => [(3, .int v11), (0, .ref (gad G 62)), (1, .int a1)]) cx dX8_usedBy_8 rfl (by decide) hF (fun _ => rfl) (fun v11 hF => ?_)
  refine ww_iconst cx dX8_usedBy_9 ic_0 ?_
  refine ww_istore (ks := [0, 1, 2, 3]) (lv' := fun v12 => [(4, .int v12), (3, .int v11), (0, .ref (gad G 62)), (1, .int a1)]) cx dX8_usedBy_10 (by decide) hF (fun _ => rfl) (fun v12 hF => ?_)
  refine ww_aload_n cx dX8_usedBy_12 rfl 2 rfl ?_
  refine gf_X8_326 cx dX8_usedBy_13 ?_
  refine ww_iconst cx dX8_usedBy_16 ic_1 ?_
  refine ww_isub cx dX8_usedBy_17 ?_
  refine ww_istore (ks := [0, 1, 2, 3, 4]) (lv' := fun v13 => [(5, .int v13), (4, .int v12), (3, .int v11), (0, .ref (gad G 62)), (1, .int a1)]) cx dX8_usedBy_18 (by decide) hF (fun _ => rfl) (fun v13 hF => ?_)
  exact ww_sub [3, 4, 2, 1, 0] rfl (hl20 FU _ _ _ _ _ hF)
theorem dX8_when_0 : decode cX8_when 0 = .ok (.aload_n 0, 1) := by decide +kernel
theorem dX8_when_1 : decode cX8_when 1 = .ok (.iload_n 1, 1) := by decide +kernel
theorem dX8_when_2 : decode cX8_when 2 = .ok (.aload_n 0, 1) := by decide +kernel
theorem dX8_when_3 : decode cX8_when 3 = .ok (.iload_n 2, 1) := by decide +kernel
theorem dX8_when_4 : decode cX8_when 4 = .ok (.i2l, 1) := by decide +kernel
theorem dX8_when_5 : decode cX8_when 5 = .ok (.invokevirtual 269, 3) := by decide +kernel
theorem dX8_when_8 : decode cX8_when 8 = .ok (.invokevirtual 409, 3) := by decide +kernel
theorem dX8_when_11 : decode cX8_when 11 = .ok (.istore_n 3, 1) := by decide +kernel
theorem dX8_when_12 : decode cX8_when 12 = .ok (.iload_n 3, 1) := by decide +kernel
theorem dX8_when_13 : decode cX8_when 13 = .ok (.ifCond .ge 5, 3) := by decide +kernel
theorem dX8_when_16 : decode cX8_when 16 = .ok (.iload_n 3, 1) := by decide +kernel
theorem dX8_when_17 : decode cX8_when 17 = .ok (.ireturn, 1) := by decide +kernel
theorem dX8_when_18 : decode cX8_when 18 = .ok (.aload_n 0, 1) := by decide +kernel
theorem dX8_when_19 : decode cX8_when 19 = .ok (.iload_n 1, 1) := by decide +kernel
theorem dX8_when_20 : decode cX8_when 20 = .ok (.invokevirtual 412, 3) := by decide +kernel
theorem dX8_when_23 : decode cX8_when 23 = .ok (.aload_n 0, 1) := by decide +kernel
theorem dX8_when_24 : decode cX8_when 24 = .ok (.getfield 46, 3) := by decide +kernel
theorem dX8_when_27 : decode cX8_when 27 = .ok (.iload_n 2, 1) := by decide +kernel
theorem dX8_when_28 : decode cX8_when 28 = .ok (.iaload, 1) := by decide +kernel
theorem dX8_when_29 : decode cX8_when 29 = .ok (.ireturn, 1) := by decide +kernel
set_option maxRecDepth 4000 in
theorem kX8_when (G : GT) {σ : St} {a1 : Int32} {a2 : Int32} : ∀ (r : Int32) (σo : St) , fX8_when σ a1 a2 = some (r, σo) → MCt G 4 yX8_when cX8_when 4 (some .int) [.ref (gad G 62), .int a1, .int a2] σ (some (.int r)) σo := by
  intro r σo hF
  refine met_i (by decide) (Nat.le_of_ble_eq_true rfl) (fun X cx hE => ?_)
  have cx : Cx G X RX8 cX8_when 4 4 := cx
  unfold fX8_when at hF
  show WW G X 4 σ [(0, .ref (gad G 62)), (1, .int a1), (2, .int a2)] 0 []
  refine ww_aload_n cx dX8_when_0 rfl 0 rfl ?_
  refine ww_iload_n cx dX8_when_1 rfl 1 rfl ?_
  refine ww_aload_n cx dX8_when_2 rfl 0 rfl ?_
  refine ww_iload_n cx dX8_when_3 rfl 2 rfl ?_
  refine ww_i2l cx dX8_when_4 ?_
  refine ww_V1_pi kv_X8_269 rfl cx sh_62 ⟨Nat.le_of_ble_eq_true rfl, Nat.le_of_ble_eq_true rfl⟩ (Nat.le_of_ble_eq_true rfl) dX8_when_5 (kX8_isClaim G) hF (fun r1 hF => ?_)
  refine ww_V2_pi kv_X8_409 rfl cx sh_62 ⟨Nat.le_of_ble_eq_true rfl, Nat.le_of_ble_eq_true rfl⟩ (Nat.le_of_ble_eq_true rfl) dX8_when_8 (kX8_asksKitchen G) hF (fun r2 hF => ?_)
  refine ww_istore_n (ks := [0, 1, 2, 3]) (lv' := fun v3 => [(3, .int v3), (0, .ref (gad G 62)), (1, .int a1), (2, .int a2)]) cx dX8_when_11 rfl (by decide) hF (fun _ => rfl) (fun v3 hF => ?_)
  refine ww_iload_n cx dX8_when_12 rfl 0 rfl ?_
  refine ww_if_ge cx dX8_when_13 (tgt := 18) rfl hF (fun hF => ?_) (fun hF => ?_)
  · refine ww_aload_n cx dX8_when_18 rfl 1 rfl ?_
    refine ww_iload_n cx dX8_when_19 rfl 2 rfl ?_
    refine ww_V1_sv kv_X8_412 rfl cx sh_62 ⟨Nat.le_of_ble_eq_true rfl, Nat.le_of_ble_eq_true rfl⟩ (Nat.le_of_ble_eq_true rfl) dX8_when_20 (kX8_goKitchen G) hF (fun σ4 hF => ?_)
    refine ww_aload_n cx dX8_when_23 rfl 1 rfl ?_
    refine gf_X8_46 cx dX8_when_24 ?_
    refine ww_iload_n cx dX8_when_27 rfl 3 rfl ?_
    refine ww_iald (N := 12) cx (sh_73) dX8_when_28 hF (fun hF => ?_)
    exact ww_ris hE dX8_when_29 hF
  · refine ww_iload_n cx dX8_when_16 rfl 0 rfl ?_
    exact ww_ris hE dX8_when_17 hF
theorem dX8_why_0 : decode cX8_why 0 = .ok (.aload_n 0, 1) := by decide +kernel
theorem dX8_why_1 : decode cX8_why 1 = .ok (.iload_n 1, 1) := by decide +kernel
theorem dX8_why_2 : decode cX8_why 2 = .ok (.iconst 1, 1) := by decide +kernel
theorem dX8_why_3 : decode cX8_why 3 = .ok (.invokevirtual 329, 3) := by decide +kernel
theorem dX8_why_6 : decode cX8_why 6 = .ok (.istore_n 2, 1) := by decide +kernel
theorem dX8_why_7 : decode cX8_why 7 = .ok (.iload_n 2, 1) := by decide +kernel
theorem dX8_why_8 : decode cX8_why 8 = .ok (.ifCond .ge 5, 3) := by decide +kernel
theorem dX8_why_11 : decode cX8_why 11 = .ok (.iload_n 2, 1) := by decide +kernel
theorem dX8_why_12 : decode cX8_why 12 = .ok (.ireturn, 1) := by decide +kernel
theorem dX8_why_13 : decode cX8_why 13 = .ok (.aload_n 0, 1) := by decide +kernel
theorem dX8_why_14 : decode cX8_why 14 = .ok (.iload_n 1, 1) := by decide +kernel
theorem dX8_why_15 : decode cX8_why 15 = .ok (.invokevirtual 333, 3) := by decide +kernel
theorem dX8_why_18 : decode cX8_why 18 = .ok (.aload_n 0, 1) := by decide +kernel
theorem dX8_why_19 : decode cX8_why 19 = .ok (.getfield 326, 3) := by decide +kernel
theorem dX8_why_22 : decode cX8_why 22 = .ok (.aload_n 0, 1) := by decide +kernel
theorem dX8_why_23 : decode cX8_why 23 = .ok (.getfield 61, 3) := by decide +kernel
theorem dX8_why_26 : decode cX8_why 26 = .ok (.iload_n 1, 1) := by decide +kernel
theorem dX8_why_27 : decode cX8_why 27 = .ok (.iaload, 1) := by decide +kernel
theorem dX8_why_28 : decode cX8_why 28 = .ok (.if_icmp .ne 5, 3) := by decide +kernel
theorem dX8_why_31 : decode cX8_why 31 = .ok (.iconst 0, 1) := by decide +kernel
theorem dX8_why_32 : decode cX8_why 32 = .ok (.ireturn, 1) := by decide +kernel
theorem dX8_why_33 : decode cX8_why 33 = .ok (.aload_n 0, 1) := by decide +kernel
theorem dX8_why_34 : decode cX8_why 34 = .ok (.aload_n 0, 1) := by decide +kernel
theorem dX8_why_35 : decode cX8_why 35 = .ok (.iload_n 1, 1) := by decide +kernel
theorem dX8_why_36 : decode cX8_why 36 = .ok (.aload_n 0, 1) := by decide +kernel
theorem dX8_why_37 : decode cX8_why 37 = .ok (.getfield 326, 3) := by decide +kernel
theorem dX8_why_40 : decode cX8_why 40 = .ok (.invokevirtual 319, 3) := by decide +kernel
theorem dX8_why_43 : decode cX8_why 43 = .ok (.l2i, 1) := by decide +kernel
theorem dX8_why_44 : decode cX8_why 44 = .ok (.iconst 1, 1) := by decide +kernel
theorem dX8_why_45 : decode cX8_why 45 = .ok (.invokevirtual 263, 3) := by decide +kernel
theorem dX8_why_48 : decode cX8_why 48 = .ok (.aload_n 0, 1) := by decide +kernel
theorem dX8_why_49 : decode cX8_why 49 = .ok (.getfield 323, 3) := by decide +kernel
theorem dX8_why_52 : decode cX8_why 52 = .ok (.iconst (-1), 1) := by decide +kernel
theorem dX8_why_53 : decode cX8_why 53 = .ok (.ixor, 1) := by decide +kernel
theorem dX8_why_54 : decode cX8_why 54 = .ok (.iand, 1) := by decide +kernel
theorem dX8_why_55 : decode cX8_why 55 = .ok (.ifCond .eq 7, 3) := by decide +kernel
theorem dX8_why_58 : decode cX8_why 58 = .ok (.iconst 1, 1) := by decide +kernel
theorem dX8_why_59 : decode cX8_why 59 = .ok (.goto 4, 3) := by decide +kernel
theorem dX8_why_62 : decode cX8_why 62 = .ok (.iconst 2, 1) := by decide +kernel
theorem dX8_why_63 : decode cX8_why 63 = .ok (.ireturn, 1) := by decide +kernel
set_option maxRecDepth 4000 in
theorem kX8_why (G : GT) {σ : St} {a1 : Int32} : ∀ (r : Int32) (σo : St) , fX8_why σ a1 = some (r, σo) → MCt G 4 yX8_why cX8_why 3 (some .int) [.ref (gad G 62), .int a1] σ (some (.int r)) σo := by
  intro r σo hF
  refine met_i (by decide) (Nat.le_of_ble_eq_true rfl) (fun X cx hE => ?_)
  have cx : Cx G X RX8 cX8_why 3 4 := cx
  unfold fX8_why at hF
  show WW G X 3 σ [(0, .ref (gad G 62)), (1, .int a1)] 0 []
  refine ww_aload_n cx dX8_why_0 rfl 0 rfl ?_
  refine ww_iload_n cx dX8_why_1 rfl 1 rfl ?_
  refine ww_iconst cx dX8_why_2 ic_1 ?_
  refine ww_V2_pi kv_X8_329 rfl cx sh_62 ⟨Nat.le_of_ble_eq_true rfl, Nat.le_of_ble_eq_true rfl⟩ (Nat.le_of_ble_eq_true rfl) dX8_why_3 (kX8_asksRow G) hF (fun r1 hF => ?_)
  refine ww_istore_n (ks := [0, 1, 2]) (lv' := fun v2 => [(2, .int v2), (0, .ref (gad G 62)), (1, .int a1)]) cx dX8_why_6 rfl (by decide) hF (fun _ => rfl) (fun v2 hF => ?_)
  refine ww_iload_n cx dX8_why_7 rfl 0 rfl ?_
  refine ww_if_ge cx dX8_why_8 (tgt := 13) rfl hF (fun hF => ?_) (fun hF => ?_)
  · refine ww_aload_n cx dX8_why_13 rfl 1 rfl ?_
    refine ww_iload_n cx dX8_why_14 rfl 2 rfl ?_
    refine ww_V1_sv kv_X8_333 rfl cx sh_62 ⟨Nat.le_of_ble_eq_true rfl, Nat.le_of_ble_eq_true rfl⟩ (Nat.le_of_ble_eq_true rfl) dX8_why_15 (kX8_readRow G) hF (fun σ3 hF => ?_)
    refine ww_aload_n cx dX8_why_18 rfl 1 rfl ?_
    refine gf_X8_326 cx dX8_why_19 ?_
    refine ww_aload_n cx dX8_why_22 rfl 1 rfl ?_
    refine gf_X8_61 cx dX8_why_23 ?_
    refine ww_iload_n cx dX8_why_26 rfl 2 rfl ?_
    refine ww_iald (N := 4) cx (sh_78) dX8_why_27 hF (fun hF => ?_)
    refine ww_icmp_ne cx dX8_why_28 (tgt := 33) rfl hF (fun hF => ?_) (fun hF => ?_)
    · refine ww_aload_n cx dX8_why_33 rfl 1 rfl ?_
      refine ww_aload_n cx dX8_why_34 rfl 1 rfl ?_
      refine ww_iload_n cx dX8_why_35 rfl 2 rfl ?_
      refine ww_aload_n cx dX8_why_36 rfl 1 rfl ?_
      refine gf_X8_326 cx dX8_why_37 ?_
      refine ww_V2_pl kv_X8_319 rfl cx sh_62 ⟨Nat.le_of_ble_eq_true rfl, Nat.le_of_ble_eq_true rfl⟩ (Nat.le_of_ble_eq_true rfl) dX8_why_40 (kX8_numberAt G) hF (fun r4 hF => ?_)
      refine ww_l2i cx dX8_why_43 ?_
      refine ww_iconst cx dX8_why_44 ic_1 ?_
      refine ww_V2_pi kv_X8_263 rfl cx sh_62 ⟨Nat.le_of_ble_eq_true rfl, Nat.le_of_ble_eq_true rfl⟩ (Nat.le_of_ble_eq_true rfl) dX8_why_45 (kX8_ofStep G) hF (fun r5 hF => ?_)
      refine ww_aload_n cx dX8_why_48 rfl 1 rfl ?_
      refine gf_X8_323 cx dX8_why_49 ?_
      refine ww_iconst cx dX8_why_52 ic_m1 ?_
      refine ww_ixor cx dX8_why_53 ?_
      refine ww_iand cx dX8_why_54 ?_
      refine ww_if_eq cx dX8_why_55 (tgt := 62) rfl hF (fun hF => ?_) (fun hF => ?_)
      · refine ww_iconst cx dX8_why_62 ic_2 ?_
        exact ww_ris hE dX8_why_63 hF
      · refine ww_iconst cx dX8_why_58 ic_1 ?_
        refine ww_goto cx dX8_why_59 (tgt := 63) rfl ?_
        exact ww_ris hE dX8_why_63 hF
    · refine ww_iconst cx dX8_why_31 ic_0 ?_
      exact ww_ris hE dX8_why_32 hF
  · refine ww_iload_n cx dX8_why_11 rfl 0 rfl ?_
    exact ww_ris hE dX8_why_12 hF
theorem dX7_borrowed_0 : decode cX7_borrowed 0 = .ok (.aload_n 0, 1) := by decide +kernel
theorem dX7_borrowed_1 : decode cX7_borrowed 1 = .ok (.getfield 19, 3) := by decide +kernel
theorem dX7_borrowed_4 : decode cX7_borrowed 4 = .ok (.iload_n 2, 1) := by decide +kernel
theorem dX7_borrowed_5 : decode cX7_borrowed 5 = .ok (.invokevirtual 137, 3) := by decide +kernel
theorem dX7_borrowed_8 : decode cX7_borrowed 8 = .ok (.ifCond .eq 11, 3) := by decide +kernel
theorem dX7_borrowed_11 : decode cX7_borrowed 11 = .ok (.aload_n 0, 1) := by decide +kernel
theorem dX7_borrowed_12 : decode cX7_borrowed 12 = .ok (.iload_n 1, 1) := by decide +kernel
theorem dX7_borrowed_13 : decode cX7_borrowed 13 = .ok (.invokevirtual 332, 3) := by decide +kernel
theorem dX7_borrowed_16 : decode cX7_borrowed 16 = .ok (.goto 5, 3) := by decide +kernel
theorem dX7_borrowed_19 : decode cX7_borrowed 19 = .ok (.bipush (-2), 2) := by decide +kernel
theorem dX7_borrowed_21 : decode cX7_borrowed 21 = .ok (.istore_n 3, 1) := by decide +kernel
theorem dX7_borrowed_22 : decode cX7_borrowed 22 = .ok (.iload_n 3, 1) := by decide +kernel
theorem dX7_borrowed_23 : decode cX7_borrowed 23 = .ok (.ifCond .eq 5, 3) := by decide +kernel
theorem dX7_borrowed_26 : decode cX7_borrowed 26 = .ok (.iload_n 3, 1) := by decide +kernel
theorem dX7_borrowed_27 : decode cX7_borrowed 27 = .ok (.ireturn, 1) := by decide +kernel
theorem dX7_borrowed_28 : decode cX7_borrowed 28 = .ok (.aload_n 0, 1) := by decide +kernel
theorem dX7_borrowed_29 : decode cX7_borrowed 29 = .ok (.invokevirtual 218, 3) := by decide +kernel
theorem dX7_borrowed_32 : decode cX7_borrowed 32 = .ok (.getfield 237, 3) := by decide +kernel
theorem dX7_borrowed_35 : decode cX7_borrowed 35 = .ok (.aload_n 0, 1) := by decide +kernel
theorem dX7_borrowed_36 : decode cX7_borrowed 36 = .ok (.getfield 19, 3) := by decide +kernel
theorem dX7_borrowed_39 : decode cX7_borrowed 39 = .ok (.getfield 143, 3) := by decide +kernel
theorem dX7_borrowed_42 : decode cX7_borrowed 42 = .ok (.iload_n 2, 1) := by decide +kernel
theorem dX7_borrowed_43 : decode cX7_borrowed 43 = .ok (.iaload, 1) := by decide +kernel
theorem dX7_borrowed_44 : decode cX7_borrowed 44 = .ok (.iaload, 1) := by decide +kernel
theorem dX7_borrowed_45 : decode cX7_borrowed 45 = .ok (.istore 4, 2) := by decide +kernel
theorem dX7_borrowed_47 : decode cX7_borrowed 47 = .ok (.iconst 0, 1) := by decide +kernel
theorem dX7_borrowed_48 : decode cX7_borrowed 48 = .ok (.istore 5, 2) := by decide +kernel
theorem dX7_borrowed_50 : decode cX7_borrowed 50 = .ok (.iload 5, 2) := by decide +kernel
theorem dX7_borrowed_52 : decode cX7_borrowed 52 = .ok (.aload_n 0, 1) := by decide +kernel
theorem dX7_borrowed_53 : decode cX7_borrowed 53 = .ok (.getfield 36, 3) := by decide +kernel
theorem dX7_borrowed_56 : decode cX7_borrowed 56 = .ok (.iload_n 1, 1) := by decide +kernel
theorem dX7_borrowed_57 : decode cX7_borrowed 57 = .ok (.aaload, 1) := by decide +kernel
theorem dX7_borrowed_58 : decode cX7_borrowed 58 = .ok (.getfield 338, 3) := by decide +kernel
theorem dX7_borrowed_61 : decode cX7_borrowed 61 = .ok (.if_icmp .ge 37, 3) := by decide +kernel
theorem dX7_borrowed_64 : decode cX7_borrowed 64 = .ok (.aload_n 0, 1) := by decide +kernel
theorem dX7_borrowed_65 : decode cX7_borrowed 65 = .ok (.getfield 36, 3) := by decide +kernel
theorem dX7_borrowed_68 : decode cX7_borrowed 68 = .ok (.iload_n 1, 1) := by decide +kernel
theorem dX7_borrowed_69 : decode cX7_borrowed 69 = .ok (.aaload, 1) := by decide +kernel
theorem dX7_borrowed_70 : decode cX7_borrowed 70 = .ok (.getfield 341, 3) := by decide +kernel
theorem dX7_borrowed_73 : decode cX7_borrowed 73 = .ok (.iload 5, 2) := by decide +kernel
theorem dX7_borrowed_75 : decode cX7_borrowed 75 = .ok (.laload, 1) := by decide +kernel
theorem dX7_borrowed_76 : decode cX7_borrowed 76 = .ok (.l2i, 1) := by decide +kernel
theorem dX7_borrowed_77 : decode cX7_borrowed 77 = .ok (.istore 6, 2) := by decide +kernel
theorem dX7_borrowed_79 : decode cX7_borrowed 79 = .ok (.iload 4, 2) := by decide +kernel
theorem dX7_borrowed_81 : decode cX7_borrowed 81 = .ok (.iload 6, 2) := by decide +kernel
theorem dX7_borrowed_83 : decode cX7_borrowed 83 = .ok (.ishr, 1) := by decide +kernel
theorem dX7_borrowed_84 : decode cX7_borrowed 84 = .ok (.iconst 1, 1) := by decide +kernel
theorem dX7_borrowed_85 : decode cX7_borrowed 85 = .ok (.iand, 1) := by decide +kernel
theorem dX7_borrowed_86 : decode cX7_borrowed 86 = .ok (.ifCond .ne 6, 3) := by decide +kernel
theorem dX7_borrowed_89 : decode cX7_borrowed 89 = .ok (.iload 6, 2) := by decide +kernel
theorem dX7_borrowed_91 : decode cX7_borrowed 91 = .ok (.ireturn, 1) := by decide +kernel
theorem dX7_borrowed_92 : decode cX7_borrowed 92 = .ok (.iinc 5 1, 3) := by decide +kernel
theorem dX7_borrowed_95 : decode cX7_borrowed 95 = .ok (.goto (-45), 3) := by decide +kernel
theorem dX7_borrowed_98 : decode cX7_borrowed 98 = .ok (.iconst (-1), 1) := by decide +kernel
theorem dX7_borrowed_99 : decode cX7_borrowed 99 = .ok (.ireturn, 1) := by decide +kernel
set_option maxRecDepth 4000 in
theorem kX7_borrowed (G : GT) {σ : St} {a1 : Int32} {a2 : Int32} : ∀ (r : Int32) (σo : St) , fX7_borrowed σ a1 a2 = some (r, σo) → MCt G 5 yX7_borrowed cX7_borrowed 7 (some .int) [.ref (gad G 0), .int a1, .int a2] σ (some (.int r)) σo := by
  intro r σo hF
  refine met_i (by decide) (Nat.le_of_ble_eq_true rfl) (fun X cx hE => ?_)
  have cx : Cx G X RX7 cX7_borrowed 7 5 := cx
  have hl50 : ∀ n : Nat, ∀ (σ : St) (x1 : Int32) (x4 : Int32) (x5 : Int32) , fX7_borrowed_l50 n σ x1 x4 x5 = some (r, σo) → WW G X 7 σ [(0, .ref (gad G 0)), (1, .int x1), (4, .int x4), (5, .int x5)] 50 [] := by
    intro n
    induction n with
    | zero =>
      intro σ x1 x4 x5 hF
      exact absurd hF (by intro z; cases z)
    | succ n ih =>
      intro σ x1 x4 x5 hF
      have hk50 := ih
      have hF : fX7_borrowed_B50 (fX7_borrowed_l50 n) σ x1 x4 x5 = some (r, σo) := hF
      unfold fX7_borrowed_B50 at hF
      refine ww_iload cx dX7_borrowed_50 3 rfl ?_
      refine ww_aload_n cx dX7_borrowed_52 rfl 0 rfl ?_
      refine gf_X7_36 cx dX7_borrowed_53 ?_
      refine ww_iload_n cx dX7_borrowed_56 rfl 1 rfl ?_
      refine ww_aaldR cx dX7_borrowed_57 hF (fun k1 hk1 hF => ?_)
      refine gf_X7_338 cx (hk1) dX7_borrowed_58 ?_
      refine ww_icmp_ge cx dX7_borrowed_61 (tgt := 98) rfl hF (fun hF => ?_) (fun hF => ?_)
      · refine ww_iconst cx dX7_borrowed_98 ic_m1 ?_
        exact ww_ris hE dX7_borrowed_99 hF
      · refine ww_aload_n cx dX7_borrowed_64 rfl 0 rfl ?_
        refine gf_X7_36 cx dX7_borrowed_65 ?_
        refine ww_iload_n cx dX7_borrowed_68 rfl 1 rfl ?_
        refine ww_aaldR cx dX7_borrowed_69 hF (fun k2 hk2 hF => ?_)
        refine gf_X7_341 cx (hk2) dX7_borrowed_70 ?_
        refine ww_iload cx dX7_borrowed_73 3 rfl ?_
        refine ww_lald (N := 60) cx (ar_X4_3 hk2) dX7_borrowed_75 hF (fun hF => ?_)
        refine ww_l2i cx dX7_borrowed_76 ?_
        refine ww_istore (ks := [0, 1, 2, 3, 4]) (lv' := fun v3 => [(6, .int v3), (0, .ref (gad G 0)), (1, .int x1), (4, .int x4), (5, .int x5)]) cx dX7_borrowed_77 (by decide) hF (fun _ => rfl) (fun v3 hF => ?_)
        refine ww_iload cx dX7_borrowed_79 3 rfl ?_
        refine ww_iload cx dX7_borrowed_81 0 rfl ?_
        refine ww_ishr cx dX7_borrowed_83 ?_
        refine ww_iconst cx dX7_borrowed_84 ic_1 ?_
        refine ww_iand cx dX7_borrowed_85 ?_
        refine ww_if_ne cx dX7_borrowed_86 (tgt := 92) rfl hF (fun hF => ?_) (fun hF => ?_)
        · refine ww_iinc (j := 4) (ks := [0, 2, 3, 4]) (lv' := fun v4 => [(5, .int v4), (0, .ref (gad G 0)), (1, .int x1), (4, .int x4)]) cx dX7_borrowed_92 (by decide) rfl ic_1 hF (fun _ => rfl) (fun v4 hF => ?_)
          refine ww_goto cx dX7_borrowed_95 (tgt := 50) rfl ?_
          exact ww_sub [1, 2, 3, 0] rfl (hk50 _ _ _ _ hF)
        · refine ww_iload cx dX7_borrowed_89 0 rfl ?_
          exact ww_ris hE dX7_borrowed_91 hF
  have hb21 : ∀ (σ : St) (x1 : Int32) (x2 : Int32) (y0 : Int32) , fX7_borrowed_b21 σ x1 x2 y0 = some (r, σo) → WW G X 7 σ [(0, .ref (gad G 0)), (1, .int x1), (2, .int x2)] 21 [.int y0] := by
    intro σ x1 x2 y0 hF
    unfold fX7_borrowed_b21 at hF
    refine ww_istore_n (ks := [0, 1, 2, 3]) (lv' := fun v5 => [(3, .int v5), (0, .ref (gad G 0)), (1, .int x1), (2, .int x2)]) cx dX7_borrowed_21 rfl (by decide) hF (fun _ => rfl) (fun v5 hF => ?_)
    refine ww_iload_n cx dX7_borrowed_22 rfl 0 rfl ?_
    refine ww_if_eq cx dX7_borrowed_23 (tgt := 28) rfl hF (fun hF => ?_) (fun hF => ?_)
    · refine ww_aload_n cx dX7_borrowed_28 rfl 1 rfl ?_
      refine ww_V0_sr kv_X7_218 rfl cx sh_0 ⟨Nat.le_of_ble_eq_true rfl, Nat.le_of_ble_eq_true rfl⟩ (Nat.le_of_ble_eq_true rfl) dX7_borrowed_29 (kX7_freshProofs G) hF (fun σ6 hF => ?_)
      refine gf_X7_237 cx (isShe_49) dX7_borrowed_32 ?_
      refine ww_aload_n cx dX7_borrowed_35 rfl 1 rfl ?_
      refine gf_X7_19 cx dX7_borrowed_36 ?_
      refine gf_X7_143 cx (isTab_3) dX7_borrowed_39 ?_
      refine ww_iload_n cx dX7_borrowed_42 rfl 3 rfl ?_
      refine ww_iald (N := 5) cx (ar_X6_13 isTab_3) dX7_borrowed_43 hF (fun hF => ?_)
      refine ww_iald (N := 4096) cx (ar_X5_0 isShe_49) dX7_borrowed_44 hF (fun hF => ?_)
      refine ww_istore (ks := [0, 2, 3]) (lv' := fun v7 => [(4, .int v7), (0, .ref (gad G 0)), (1, .int x1)]) cx dX7_borrowed_45 (by decide) hF (fun _ => rfl) (fun v7 hF => ?_)
      refine ww_iconst cx dX7_borrowed_47 ic_0 ?_
      refine ww_istore (ks := [0, 1, 2, 3]) (lv' := fun v8 => [(5, .int v8), (4, .int v7), (0, .ref (gad G 0)), (1, .int x1)]) cx dX7_borrowed_48 (by decide) hF (fun _ => rfl) (fun v8 hF => ?_)
      exact ww_sub [2, 3, 1, 0] rfl (hl50 FU _ _ _ _ hF)
    · refine ww_iload_n cx dX7_borrowed_26 rfl 0 rfl ?_
      exact ww_ris hE dX7_borrowed_27 hF
  unfold fX7_borrowed at hF
  show WW G X 7 σ [(0, .ref (gad G 0)), (1, .int a1), (2, .int a2)] 0 []
  refine ww_aload_n cx dX7_borrowed_0 rfl 0 rfl ?_
  refine gf_X7_19 cx dX7_borrowed_1 ?_
  refine ww_iload_n cx dX7_borrowed_4 rfl 2 rfl ?_
  refine ww_V1_pi kv_X7_137 rfl cx ((isTab_3).1) ⟨Nat.le_of_ble_eq_true rfl, Nat.le_of_ble_eq_true rfl⟩ (Nat.le_of_ble_eq_true rfl) dX7_borrowed_5 (kX6_hasGuest G (isTab_3)) hF (fun r9 hF => ?_)
  refine ww_if_eq cx dX7_borrowed_8 (tgt := 19) rfl hF (fun hF => ?_) (fun hF => ?_)
  · refine ww_bipush cx dX7_borrowed_19 bc_m2 ?_
    exact hb21 _ _ _ _ hF
  · refine ww_aload_n cx dX7_borrowed_11 rfl 0 rfl ?_
    refine ww_iload_n cx dX7_borrowed_12 rfl 1 rfl ?_
    refine ww_V1_pi kv_X7_332 rfl cx sh_0 ⟨Nat.le_of_ble_eq_true rfl, Nat.le_of_ble_eq_true rfl⟩ (Nat.le_of_ble_eq_true rfl) dX7_borrowed_13 (kX7_refusalOfDishes G) hF (fun r10 hF => ?_)
    refine ww_goto cx dX7_borrowed_16 (tgt := 21) rfl ?_
    exact hb21 _ _ _ _ hF
theorem dX7_busy_0 : decode cX7_busy 0 = .ok (.aload_n 0, 1) := by decide +kernel
theorem dX7_busy_1 : decode cX7_busy 1 = .ok (.getfield 19, 3) := by decide +kernel
theorem dX7_busy_4 : decode cX7_busy 4 = .ok (.iload_n 2, 1) := by decide +kernel
theorem dX7_busy_5 : decode cX7_busy 5 = .ok (.invokevirtual 137, 3) := by decide +kernel
theorem dX7_busy_8 : decode cX7_busy 8 = .ok (.ifCond .eq 18, 3) := by decide +kernel
theorem dX7_busy_11 : decode cX7_busy 11 = .ok (.iload_n 3, 1) := by decide +kernel
theorem dX7_busy_12 : decode cX7_busy 12 = .ok (.invokestatic 270, 3) := by decide +kernel
theorem dX7_busy_15 : decode cX7_busy 15 = .ok (.ifCond .eq 11, 3) := by decide +kernel
theorem dX7_busy_18 : decode cX7_busy 18 = .ok (.aload_n 0, 1) := by decide +kernel
theorem dX7_busy_19 : decode cX7_busy 19 = .ok (.iload_n 1, 1) := by decide +kernel
theorem dX7_busy_20 : decode cX7_busy 20 = .ok (.invokevirtual 277, 3) := by decide +kernel
theorem dX7_busy_23 : decode cX7_busy 23 = .ok (.goto 5, 3) := by decide +kernel
theorem dX7_busy_26 : decode cX7_busy 26 = .ok (.bipush (-2), 2) := by decide +kernel
theorem dX7_busy_28 : decode cX7_busy 28 = .ok (.istore 4, 2) := by decide +kernel
theorem dX7_busy_30 : decode cX7_busy 30 = .ok (.iload 4, 2) := by decide +kernel
theorem dX7_busy_32 : decode cX7_busy 32 = .ok (.ifCond .eq 6, 3) := by decide +kernel
theorem dX7_busy_35 : decode cX7_busy 35 = .ok (.iload 4, 2) := by decide +kernel
theorem dX7_busy_37 : decode cX7_busy 37 = .ok (.ireturn, 1) := by decide +kernel
theorem dX7_busy_38 : decode cX7_busy 38 = .ok (.aload_n 0, 1) := by decide +kernel
theorem dX7_busy_39 : decode cX7_busy 39 = .ok (.getfield 65, 3) := by decide +kernel
theorem dX7_busy_42 : decode cX7_busy 42 = .ok (.aload_n 0, 1) := by decide +kernel
theorem dX7_busy_43 : decode cX7_busy 43 = .ok (.getfield 19, 3) := by decide +kernel
theorem dX7_busy_46 : decode cX7_busy 46 = .ok (.aload_n 0, 1) := by decide +kernel
theorem dX7_busy_47 : decode cX7_busy 47 = .ok (.getfield 36, 3) := by decide +kernel
theorem dX7_busy_50 : decode cX7_busy 50 = .ok (.iload_n 1, 1) := by decide +kernel
theorem dX7_busy_51 : decode cX7_busy 51 = .ok (.aaload, 1) := by decide +kernel
theorem dX7_busy_52 : decode cX7_busy 52 = .ok (.invokevirtual 280, 3) := by decide +kernel
theorem dX7_busy_55 : decode cX7_busy 55 = .ok (.aload_n 0, 1) := by decide +kernel
theorem dX7_busy_56 : decode cX7_busy 56 = .ok (.getfield 65, 3) := by decide +kernel
theorem dX7_busy_59 : decode cX7_busy 59 = .ok (.getfield 301, 3) := by decide +kernel
theorem dX7_busy_62 : decode cX7_busy 62 = .ok (.iload_n 2, 1) := by decide +kernel
theorem dX7_busy_63 : decode cX7_busy 63 = .ok (.iaload, 1) := by decide +kernel
theorem dX7_busy_64 : decode cX7_busy 64 = .ok (.istore 5, 2) := by decide +kernel
theorem dX7_busy_66 : decode cX7_busy 66 = .ok (.iload_n 3, 1) := by decide +kernel
theorem dX7_busy_67 : decode cX7_busy 67 = .ok (.ifCond .ne 8, 3) := by decide +kernel
theorem dX7_busy_70 : decode cX7_busy 70 = .ok (.iload 5, 2) := by decide +kernel
theorem dX7_busy_72 : decode cX7_busy 72 = .ok (.goto 15, 3) := by decide +kernel
theorem dX7_busy_75 : decode cX7_busy 75 = .ok (.aload_n 0, 1) := by decide +kernel
theorem dX7_busy_76 : decode cX7_busy 76 = .ok (.getfield 65, 3) := by decide +kernel
theorem dX7_busy_79 : decode cX7_busy 79 = .ok (.getfield 304, 3) := by decide +kernel
theorem dX7_busy_82 : decode cX7_busy 82 = .ok (.iload_n 2, 1) := by decide +kernel
theorem dX7_busy_83 : decode cX7_busy 83 = .ok (.iaload, 1) := by decide +kernel
theorem dX7_busy_84 : decode cX7_busy 84 = .ok (.iload 5, 2) := by decide +kernel
theorem dX7_busy_86 : decode cX7_busy 86 = .ok (.isub, 1) := by decide +kernel
theorem dX7_busy_87 : decode cX7_busy 87 = .ok (.ireturn, 1) := by decide +kernel
set_option maxRecDepth 4000 in
theorem kX7_busy (G : GT) {σ : St} {a1 : Int32} {a2 : Int32} {a3 : Int32} : ∀ (r : Int32) (σo : St) , fX7_busy σ a1 a2 a3 = some (r, σo) → MCt G 5 yX7_busy cX7_busy 6 (some .int) [.ref (gad G 0), .int a1, .int a2, .int a3] σ (some (.int r)) σo := by
  intro r σo hF
  refine met_i (by decide) (Nat.le_of_ble_eq_true rfl) (fun X cx hE => ?_)
  have cx : Cx G X RX7 cX7_busy 6 5 := cx
  have hb28 : ∀ (σ : St) (x1 : Int32) (x2 : Int32) (x3 : Int32) (y0 : Int32) , fX7_busy_b28 σ x1 x2 x3 y0 = some (r, σo) → WW G X 6 σ [(0, .ref (gad G 0)), (1, .int x1), (2, .int x2), (3, .int x3)] 28 [.int y0] := by
    intro σ x1 x2 x3 y0 hF
    unfold fX7_busy_b28 at hF
    refine ww_istore (ks := [0, 1, 2, 3, 4]) (lv' := fun v1 => [(4, .int v1), (0, .ref (gad G 0)), (1, .int x1), (2, .int x2), (3, .int x3)]) cx dX7_busy_28 (by decide) hF (fun _ => rfl) (fun v1 hF => ?_)
    refine ww_iload cx dX7_busy_30 0 rfl ?_
    refine ww_if_eq cx dX7_busy_32 (tgt := 38) rfl hF (fun hF => ?_) (fun hF => ?_)
    · refine ww_aload_n cx dX7_busy_38 rfl 1 rfl ?_
      refine gf_X7_65 cx dX7_busy_39 ?_
      refine ww_aload_n cx dX7_busy_42 rfl 1 rfl ?_
      refine gf_X7_19 cx dX7_busy_43 ?_
      refine ww_aload_n cx dX7_busy_46 rfl 1 rfl ?_
      refine gf_X7_36 cx dX7_busy_47 ?_
      refine ww_iload_n cx dX7_busy_50 rfl 2 rfl ?_
      refine ww_aaldR cx dX7_busy_51 hF (fun k2 hk2 hF => ?_)
      refine ww_V2_sv kv_X7_280 rfl cx sh_55 ⟨Nat.le_of_ble_eq_true rfl, Nat.le_of_ble_eq_true rfl⟩ (Nat.le_of_ble_eq_true rfl) dX7_busy_52 (kX1_cook G (isTab_3) (hk2)) hF (fun σ3 hF => ?_)
      refine ww_aload_n cx dX7_busy_55 rfl 1 rfl ?_
      refine gf_X7_65 cx dX7_busy_56 ?_
      refine gf_X7_301 cx dX7_busy_59 ?_
      refine ww_iload_n cx dX7_busy_62 rfl 3 rfl ?_
      refine ww_iald (N := 5) cx (sh_59) dX7_busy_63 hF (fun hF => ?_)
      refine ww_istore (ks := [0, 2, 4, 5]) (lv' := fun v4 => [(5, .int v4), (0, .ref (gad G 0)), (2, .int x2), (3, .int x3)]) cx dX7_busy_64 (by decide) hF (fun _ => rfl) (fun v4 hF => ?_)
      refine ww_iload_n cx dX7_busy_66 rfl 3 rfl ?_
      refine ww_if_ne cx dX7_busy_67 (tgt := 75) rfl hF (fun hF => ?_) (fun hF => ?_)
      · refine ww_aload_n cx dX7_busy_75 rfl 1 rfl ?_
        refine gf_X7_65 cx dX7_busy_76 ?_
        refine gf_X7_304 cx dX7_busy_79 ?_
        refine ww_iload_n cx dX7_busy_82 rfl 2 rfl ?_
        refine ww_iald (N := 5) cx (sh_58) dX7_busy_83 hF (fun hF => ?_)
        refine ww_iload cx dX7_busy_84 0 rfl ?_
        refine ww_isub cx dX7_busy_86 ?_
        exact ww_ris hE dX7_busy_87 hF
      · refine ww_iload cx dX7_busy_70 0 rfl ?_
        refine ww_goto cx dX7_busy_72 (tgt := 87) rfl ?_
        exact ww_ris hE dX7_busy_87 hF
    · refine ww_iload cx dX7_busy_35 0 rfl ?_
      exact ww_ris hE dX7_busy_37 hF
  have hb26 : ∀ (σ : St) (x1 : Int32) (x2 : Int32) (x3 : Int32) , fX7_busy_b26 σ x1 x2 x3 = some (r, σo) → WW G X 6 σ [(0, .ref (gad G 0)), (1, .int x1), (2, .int x2), (3, .int x3)] 26 [] := by
    intro σ x1 x2 x3 hF
    unfold fX7_busy_b26 at hF
    refine ww_bipush cx dX7_busy_26 bc_m2 ?_
    exact hb28 _ _ _ _ _ hF
  unfold fX7_busy at hF
  show WW G X 6 σ [(0, .ref (gad G 0)), (1, .int a1), (2, .int a2), (3, .int a3)] 0 []
  refine ww_aload_n cx dX7_busy_0 rfl 0 rfl ?_
  refine gf_X7_19 cx dX7_busy_1 ?_
  refine ww_iload_n cx dX7_busy_4 rfl 2 rfl ?_
  refine ww_V1_pi kv_X7_137 rfl cx ((isTab_3).1) ⟨Nat.le_of_ble_eq_true rfl, Nat.le_of_ble_eq_true rfl⟩ (Nat.le_of_ble_eq_true rfl) dX7_busy_5 (kX6_hasGuest G (isTab_3)) hF (fun r5 hF => ?_)
  refine ww_if_eq cx dX7_busy_8 (tgt := 26) rfl hF (fun hF => ?_) (fun hF => ?_)
  · exact hb26 _ _ _ _ hF
  · refine ww_iload_n cx dX7_busy_11 rfl 3 rfl ?_
    refine ww_S1_pi kv_X7_270 cx ⟨Nat.le_of_ble_eq_true rfl, Nat.le_of_ble_eq_true rfl⟩ (Nat.le_of_ble_eq_true rfl) dX7_busy_12 (kX7_isBit G) hF (fun r6 hF => ?_)
    refine ww_if_eq cx dX7_busy_15 (tgt := 26) rfl hF (fun hF => ?_) (fun hF => ?_)
    · exact hb26 _ _ _ _ hF
    · refine ww_aload_n cx dX7_busy_18 rfl 0 rfl ?_
      refine ww_iload_n cx dX7_busy_19 rfl 1 rfl ?_
      refine ww_V1_pi kv_X7_277 rfl cx sh_0 ⟨Nat.le_of_ble_eq_true rfl, Nat.le_of_ble_eq_true rfl⟩ (Nat.le_of_ble_eq_true rfl) dX7_busy_20 (kX7_refusalOfPairs G) hF (fun r7 hF => ?_)
      refine ww_goto cx dX7_busy_23 (tgt := 28) rfl ?_
      exact hb28 _ _ _ _ _ hF
theorem dX7_core_0 : decode cX7_core 0 = .ok (.aload_n 0, 1) := by decide +kernel
theorem dX7_core_1 : decode cX7_core 1 = .ok (.getfield 19, 3) := by decide +kernel
theorem dX7_core_4 : decode cX7_core 4 = .ok (.invokevirtual 149, 3) := by decide +kernel
theorem dX7_core_7 : decode cX7_core 7 = .ok (.ifCond .eq 13, 3) := by decide +kernel
theorem dX7_core_10 : decode cX7_core 10 = .ok (.aload_n 0, 1) := by decide +kernel
theorem dX7_core_11 : decode cX7_core 11 = .ok (.invokevirtual 310, 3) := by decide +kernel
theorem dX7_core_14 : decode cX7_core 14 = .ok (.invokestatic 211, 3) := by decide +kernel
theorem dX7_core_17 : decode cX7_core 17 = .ok (.goto 5, 3) := by decide +kernel
theorem dX7_core_20 : decode cX7_core 20 = .ok (.bipush (-2), 2) := by decide +kernel
theorem dX7_core_22 : decode cX7_core 22 = .ok (.ireturn, 1) := by decide +kernel
set_option maxRecDepth 4000 in
theorem kX7_core (G : GT) {σ : St} : ∀ (r : Int32) (σo : St) , fX7_core σ = some (r, σo) → MCt G 5 yX7_core cX7_core 1 (some .int) [.ref (gad G 0)] σ (some (.int r)) σo := by
  intro r σo hF
  refine met_i (by decide) (Nat.le_of_ble_eq_true rfl) (fun X cx hE => ?_)
  have cx : Cx G X RX7 cX7_core 1 5 := cx
  unfold fX7_core at hF
  show WW G X 1 σ [(0, .ref (gad G 0))] 0 []
  refine ww_aload_n cx dX7_core_0 rfl 0 rfl ?_
  refine gf_X7_19 cx dX7_core_1 ?_
  refine ww_V0_pi kv_X7_149 rfl cx ((isTab_3).1) ⟨Nat.le_of_ble_eq_true rfl, Nat.le_of_ble_eq_true rfl⟩ (Nat.le_of_ble_eq_true rfl) dX7_core_4 (kX6_isTold G (isTab_3)) hF (fun r1 hF => ?_)
  refine ww_if_eq cx dX7_core_7 (tgt := 20) rfl hF (fun hF => ?_) (fun hF => ?_)
  · refine ww_bipush cx dX7_core_20 bc_m2 ?_
    exact ww_ris hE dX7_core_22 hF
  · refine ww_aload_n cx dX7_core_10 rfl 0 rfl ?_
    refine ww_V0_si kv_X7_310 rfl cx sh_0 ⟨Nat.le_of_ble_eq_true rfl, Nat.le_of_ble_eq_true rfl⟩ (Nat.le_of_ble_eq_true rfl) dX7_core_11 (kX7_coreSet G) hF (fun r2 σ3 hF => ?_)
    refine ww_S1_pi kv_X7_211 cx ⟨Nat.le_of_ble_eq_true rfl, Nat.le_of_ble_eq_true rfl⟩ (Nat.le_of_ble_eq_true rfl) dX7_core_14 (kX7_sizeOrNone G) hF (fun r4 hF => ?_)
    refine ww_goto cx dX7_core_17 (tgt := 22) rfl ?_
    exact ww_ris hE dX7_core_22 hF
theorem dX7_cored_0 : decode cX7_cored 0 = .ok (.aload_n 0, 1) := by decide +kernel
theorem dX7_cored_1 : decode cX7_cored 1 = .ok (.getfield 19, 3) := by decide +kernel
theorem dX7_cored_4 : decode cX7_cored 4 = .ok (.invokevirtual 149, 3) := by decide +kernel
theorem dX7_cored_7 : decode cX7_cored 7 = .ok (.ifCond .eq 10, 3) := by decide +kernel
theorem dX7_cored_10 : decode cX7_cored 10 = .ok (.aload_n 0, 1) := by decide +kernel
theorem dX7_cored_11 : decode cX7_cored 11 = .ok (.invokevirtual 310, 3) := by decide +kernel
theorem dX7_cored_14 : decode cX7_cored 14 = .ok (.goto 5, 3) := by decide +kernel
theorem dX7_cored_17 : decode cX7_cored 17 = .ok (.bipush (-2), 2) := by decide +kernel
theorem dX7_cored_19 : decode cX7_cored 19 = .ok (.ireturn, 1) := by decide +kernel
set_option maxRecDepth 4000 in
theorem kX7_cored (G : GT) {σ : St} : ∀ (r : Int32) (σo : St) , fX7_cored σ = some (r, σo) → MCt G 5 yX7_cored cX7_cored 1 (some .int) [.ref (gad G 0)] σ (some (.int r)) σo := by
  intro r σo hF
  refine met_i (by decide) (Nat.le_of_ble_eq_true rfl) (fun X cx hE => ?_)
  have cx : Cx G X RX7 cX7_cored 1 5 := cx
  unfold fX7_cored at hF
  show WW G X 1 σ [(0, .ref (gad G 0))] 0 []
  refine ww_aload_n cx dX7_cored_0 rfl 0 rfl ?_
  refine gf_X7_19 cx dX7_cored_1 ?_
  refine ww_V0_pi kv_X7_149 rfl cx ((isTab_3).1) ⟨Nat.le_of_ble_eq_true rfl, Nat.le_of_ble_eq_true rfl⟩ (Nat.le_of_ble_eq_true rfl) dX7_cored_4 (kX6_isTold G (isTab_3)) hF (fun r1 hF => ?_)
  refine ww_if_eq cx dX7_cored_7 (tgt := 17) rfl hF (fun hF => ?_) (fun hF => ?_)
  · refine ww_bipush cx dX7_cored_17 bc_m2 ?_
    exact ww_ris hE dX7_cored_19 hF
  · refine ww_aload_n cx dX7_cored_10 rfl 0 rfl ?_
    refine ww_V0_si kv_X7_310 rfl cx sh_0 ⟨Nat.le_of_ble_eq_true rfl, Nat.le_of_ble_eq_true rfl⟩ (Nat.le_of_ble_eq_true rfl) dX7_cored_11 (kX7_coreSet G) hF (fun r2 σ3 hF => ?_)
    refine ww_goto cx dX7_cored_14 (tgt := 19) rfl ?_
    exact ww_ris hE dX7_cored_19 hF
theorem dX7_doesTeamProve_0 : decode cX7_doesTeamProve 0 = .ok (.aload_n 0, 1) := by decide +kernel
theorem dX7_doesTeamProve_1 : decode cX7_doesTeamProve 1 = .ok (.invokevirtual 218, 3) := by decide +kernel
theorem dX7_doesTeamProve_4 : decode cX7_doesTeamProve 4 = .ok (.aload_n 0, 1) := by decide +kernel
theorem dX7_doesTeamProve_5 : decode cX7_doesTeamProve 5 = .ok (.getfield 19, 3) := by decide +kernel
theorem dX7_doesTeamProve_8 : decode cX7_doesTeamProve 8 = .ok (.iload_n 1, 1) := by decide +kernel
theorem dX7_doesTeamProve_9 : decode cX7_doesTeamProve 9 = .ok (.invokevirtual 405, 3) := by decide +kernel
theorem dX7_doesTeamProve_12 : decode cX7_doesTeamProve 12 = .ok (.iconst 1, 1) := by decide +kernel
theorem dX7_doesTeamProve_13 : decode cX7_doesTeamProve 13 = .ok (.iload_n 2, 1) := by decide +kernel
theorem dX7_doesTeamProve_14 : decode cX7_doesTeamProve 14 = .ok (.ishl, 1) := by decide +kernel
theorem dX7_doesTeamProve_15 : decode cX7_doesTeamProve 15 = .ok (.invokevirtual 243, 3) := by decide +kernel
theorem dX7_doesTeamProve_18 : decode cX7_doesTeamProve 18 = .ok (.istore_n 3, 1) := by decide +kernel
theorem dX7_doesTeamProve_19 : decode cX7_doesTeamProve 19 = .ok (.iload_n 3, 1) := by decide +kernel
theorem dX7_doesTeamProve_20 : decode cX7_doesTeamProve 20 = .ok (.iconst (-1), 1) := by decide +kernel
theorem dX7_doesTeamProve_21 : decode cX7_doesTeamProve 21 = .ok (.if_icmp .eq 22, 3) := by decide +kernel
theorem dX7_doesTeamProve_24 : decode cX7_doesTeamProve 24 = .ok (.iload_n 3, 1) := by decide +kernel
theorem dX7_doesTeamProve_25 : decode cX7_doesTeamProve 25 = .ok (.invokestatic 115, 3) := by decide +kernel
theorem dX7_doesTeamProve_28 : decode cX7_doesTeamProve 28 = .ok (.aload_n 0, 1) := by decide +kernel
theorem dX7_doesTeamProve_29 : decode cX7_doesTeamProve 29 = .ok (.getfield 19, 3) := by decide +kernel
theorem dX7_doesTeamProve_32 : decode cX7_doesTeamProve 32 = .ok (.iload_n 1, 1) := by decide +kernel
theorem dX7_doesTeamProve_33 : decode cX7_doesTeamProve 33 = .ok (.invokevirtual 261, 3) := by decide +kernel
theorem dX7_doesTeamProve_36 : decode cX7_doesTeamProve 36 = .ok (.if_icmp .gt 7, 3) := by decide +kernel
theorem dX7_doesTeamProve_39 : decode cX7_doesTeamProve 39 = .ok (.iconst 1, 1) := by decide +kernel
theorem dX7_doesTeamProve_40 : decode cX7_doesTeamProve 40 = .ok (.goto 4, 3) := by decide +kernel
theorem dX7_doesTeamProve_43 : decode cX7_doesTeamProve 43 = .ok (.iconst 0, 1) := by decide +kernel
theorem dX7_doesTeamProve_44 : decode cX7_doesTeamProve 44 = .ok (.ireturn, 1) := by decide +kernel
set_option maxRecDepth 4000 in
theorem kX7_doesTeamProve (G : GT) {σ : St} {a1 : Int32} {a2 : Int32} : ∀ (r : Int32) (σo : St) , fX7_doesTeamProve σ a1 a2 = some (r, σo) → MCt G 5 yX7_doesTeamProve cX7_doesTeamProve 4 (some .boolean) [.ref (gad G 0), .int a1, .int a2] σ (some (.int r)) σo := by
  intro r σo hF
  refine met_zz (by decide) (Nat.le_of_ble_eq_true rfl) (fun X cx hE => ?_)
  have cx : Cx G X RX7 cX7_doesTeamProve 4 5 := cx
  unfold fX7_doesTeamProve at hF
  show WW G X 4 σ [(0, .ref (gad G 0)), (1, .int a1), (2, .int a2)] 0 []
  refine ww_aload_n cx dX7_doesTeamProve_0 rfl 0 rfl ?_
  refine ww_V0_sr kv_X7_218 rfl cx sh_0 ⟨Nat.le_of_ble_eq_true rfl, Nat.le_of_ble_eq_true rfl⟩ (Nat.le_of_ble_eq_true rfl) dX7_doesTeamProve_1 (kX7_freshProofs G) hF (fun σ1 hF => ?_)
  refine ww_aload_n cx dX7_doesTeamProve_4 rfl 0 rfl ?_
  refine gf_X7_19 cx dX7_doesTeamProve_5 ?_
  refine ww_iload_n cx dX7_doesTeamProve_8 rfl 1 rfl ?_
  refine ww_V1_pi kv_X7_405 rfl cx ((isTab_3).1) ⟨Nat.le_of_ble_eq_true rfl, Nat.le_of_ble_eq_true rfl⟩ (Nat.le_of_ble_eq_true rfl) dX7_doesTeamProve_9 (kX6_teamKnows G (isTab_3)) hF (fun r2 hF => ?_)
  refine ww_iconst cx dX7_doesTeamProve_12 ic_1 ?_
  refine ww_iload_n cx dX7_doesTeamProve_13 rfl 2 rfl ?_
  refine ww_ishl cx dX7_doesTeamProve_14 ?_
  refine ww_V2_pi kv_X7_243 rfl cx ((isShe_49).1) ⟨Nat.le_of_ble_eq_true rfl, Nat.le_of_ble_eq_true rfl⟩ (Nat.le_of_ble_eq_true rfl) dX7_doesTeamProve_15 (kX5_leastSet G (isShe_49)) hF (fun r3 hF => ?_)
  refine ww_istore_n (ks := [0, 1, 2]) (lv' := fun v4 => [(3, .int v4), (0, .ref (gad G 0)), (1, .int a1)]) cx dX7_doesTeamProve_18 rfl (by decide) hF (fun _ => rfl) (fun v4 hF => ?_)
  refine ww_iload_n cx dX7_doesTeamProve_19 rfl 0 rfl ?_
  refine ww_iconst cx dX7_doesTeamProve_20 ic_m1 ?_
  refine ww_icmp_eq cx dX7_doesTeamProve_21 (tgt := 43) rfl hF (fun hF => ?_) (fun hF => ?_)
  · refine ww_iconst cx dX7_doesTeamProve_43 ic_0 ?_
    exact ww_rzs hE dX7_doesTeamProve_44 hF
  · refine ww_iload_n cx dX7_doesTeamProve_24 rfl 0 rfl ?_
    refine ww_S1_pi kv_X7_115 cx ⟨Nat.le_of_ble_eq_true rfl, Nat.le_of_ble_eq_true rfl⟩ (Nat.le_of_ble_eq_true rfl) dX7_doesTeamProve_25 (kJ6_bitCount_0f7a4 G) hF (fun r5 hF => ?_)
    refine ww_aload_n cx dX7_doesTeamProve_28 rfl 1 rfl ?_
    refine gf_X7_19 cx dX7_doesTeamProve_29 ?_
    refine ww_iload_n cx dX7_doesTeamProve_32 rfl 2 rfl ?_
    refine ww_V1_pi kv_X7_261 rfl cx ((isTab_3).1) ⟨Nat.le_of_ble_eq_true rfl, Nat.le_of_ble_eq_true rfl⟩ (Nat.le_of_ble_eq_true rfl) dX7_doesTeamProve_33 (kX6_teamCanDo G (isTab_3)) hF (fun r6 hF => ?_)
    refine ww_icmp_gt cx dX7_doesTeamProve_36 (tgt := 43) rfl hF (fun hF => ?_) (fun hF => ?_)
    · refine ww_iconst cx dX7_doesTeamProve_43 ic_0 ?_
      exact ww_rzs hE dX7_doesTeamProve_44 hF
    · refine ww_iconst cx dX7_doesTeamProve_39 ic_1 ?_
      refine ww_goto cx dX7_doesTeamProve_40 (tgt := 44) rfl ?_
      exact ww_rzs hE dX7_doesTeamProve_44 hF
theorem dX7_guestsProving_0 : decode cX7_guestsProving 0 = .ok (.iconst 0, 1) := by decide +kernel
theorem dX7_guestsProving_1 : decode cX7_guestsProving 1 = .ok (.istore_n 2, 1) := by decide +kernel
theorem dX7_guestsProving_2 : decode cX7_guestsProving 2 = .ok (.iconst 0, 1) := by decide +kernel
theorem dX7_guestsProving_3 : decode cX7_guestsProving 3 = .ok (.istore_n 3, 1) := by decide +kernel
theorem dX7_guestsProving_4 : decode cX7_guestsProving 4 = .ok (.iload_n 3, 1) := by decide +kernel
theorem dX7_guestsProving_5 : decode cX7_guestsProving 5 = .ok (.aload_n 0, 1) := by decide +kernel
theorem dX7_guestsProving_6 : decode cX7_guestsProving 6 = .ok (.getfield 19, 3) := by decide +kernel
theorem dX7_guestsProving_9 : decode cX7_guestsProving 9 = .ok (.getfield 345, 3) := by decide +kernel
theorem dX7_guestsProving_12 : decode cX7_guestsProving 12 = .ok (.if_icmp .ge 56, 3) := by decide +kernel
theorem dX7_guestsProving_15 : decode cX7_guestsProving 15 = .ok (.aload_n 0, 1) := by decide +kernel
theorem dX7_guestsProving_16 : decode cX7_guestsProving 16 = .ok (.invokevirtual 218, 3) := by decide +kernel
theorem dX7_guestsProving_19 : decode cX7_guestsProving 19 = .ok (.aload_n 0, 1) := by decide +kernel
theorem dX7_guestsProving_20 : decode cX7_guestsProving 20 = .ok (.getfield 19, 3) := by decide +kernel
theorem dX7_guestsProving_23 : decode cX7_guestsProving 23 = .ok (.getfield 143, 3) := by decide +kernel
theorem dX7_guestsProving_26 : decode cX7_guestsProving 26 = .ok (.iload_n 3, 1) := by decide +kernel
theorem dX7_guestsProving_27 : decode cX7_guestsProving 27 = .ok (.iaload, 1) := by decide +kernel
theorem dX7_guestsProving_28 : decode cX7_guestsProving 28 = .ok (.iload_n 1, 1) := by decide +kernel
theorem dX7_guestsProving_29 : decode cX7_guestsProving 29 = .ok (.invokevirtual 243, 3) := by decide +kernel
theorem dX7_guestsProving_32 : decode cX7_guestsProving 32 = .ok (.istore 4, 2) := by decide +kernel
theorem dX7_guestsProving_34 : decode cX7_guestsProving 34 = .ok (.iload 4, 2) := by decide +kernel
theorem dX7_guestsProving_36 : decode cX7_guestsProving 36 = .ok (.iconst (-1), 1) := by decide +kernel
theorem dX7_guestsProving_37 : decode cX7_guestsProving 37 = .ok (.if_icmp .eq 25, 3) := by decide +kernel
theorem dX7_guestsProving_40 : decode cX7_guestsProving 40 = .ok (.iload 4, 2) := by decide +kernel
theorem dX7_guestsProving_42 : decode cX7_guestsProving 42 = .ok (.invokestatic 115, 3) := by decide +kernel
theorem dX7_guestsProving_45 : decode cX7_guestsProving 45 = .ok (.aload_n 0, 1) := by decide +kernel
theorem dX7_guestsProving_46 : decode cX7_guestsProving 46 = .ok (.getfield 19, 3) := by decide +kernel
theorem dX7_guestsProving_49 : decode cX7_guestsProving 49 = .ok (.iload_n 3, 1) := by decide +kernel
theorem dX7_guestsProving_50 : decode cX7_guestsProving 50 = .ok (.invokevirtual 146, 3) := by decide +kernel
theorem dX7_guestsProving_53 : decode cX7_guestsProving 53 = .ok (.if_icmp .gt 9, 3) := by decide +kernel
theorem dX7_guestsProving_56 : decode cX7_guestsProving 56 = .ok (.iload_n 2, 1) := by decide +kernel
theorem dX7_guestsProving_57 : decode cX7_guestsProving 57 = .ok (.iconst 1, 1) := by decide +kernel
theorem dX7_guestsProving_58 : decode cX7_guestsProving 58 = .ok (.iload_n 3, 1) := by decide +kernel
theorem dX7_guestsProving_59 : decode cX7_guestsProving 59 = .ok (.ishl, 1) := by decide +kernel
theorem dX7_guestsProving_60 : decode cX7_guestsProving 60 = .ok (.ior, 1) := by decide +kernel
theorem dX7_guestsProving_61 : decode cX7_guestsProving 61 = .ok (.istore_n 2, 1) := by decide +kernel
theorem dX7_guestsProving_62 : decode cX7_guestsProving 62 = .ok (.iinc 3 1, 3) := by decide +kernel
theorem dX7_guestsProving_65 : decode cX7_guestsProving 65 = .ok (.goto (-61), 3) := by decide +kernel
theorem dX7_guestsProving_68 : decode cX7_guestsProving 68 = .ok (.iload_n 2, 1) := by decide +kernel
theorem dX7_guestsProving_69 : decode cX7_guestsProving 69 = .ok (.ireturn, 1) := by decide +kernel
set_option maxRecDepth 4000 in
theorem kX7_guestsProving (G : GT) {σ : St} {a1 : Int32} : ∀ (r : Int32) (σo : St) , fX7_guestsProving σ a1 = some (r, σo) → MCt G 5 yX7_guestsProving cX7_guestsProving 5 (some .int) [.ref (gad G 0), .int a1] σ (some (.int r)) σo := by
  intro r σo hF
  refine met_i (by decide) (Nat.le_of_ble_eq_true rfl) (fun X cx hE => ?_)
  have cx : Cx G X RX7 cX7_guestsProving 5 5 := cx
  have hl4 : ∀ n : Nat, ∀ (σ : St) (x1 : Int32) (x2 : Int32) (x3 : Int32) , fX7_guestsProving_l4 n σ x1 x2 x3 = some (r, σo) → WW G X 5 σ [(0, .ref (gad G 0)), (1, .int x1), (2, .int x2), (3, .int x3)] 4 [] := by
    intro n
    induction n with
    | zero =>
      intro σ x1 x2 x3 hF
      exact absurd hF (by intro z; cases z)
    | succ n ih =>
      intro σ x1 x2 x3 hF
      have hk4 := ih
      have hF : fX7_guestsProving_B4 (fX7_guestsProving_l4 n) σ x1 x2 x3 = some (r, σo) := hF
      unfold fX7_guestsProving_B4 at hF
      refine ww_iload_n cx dX7_guestsProving_4 rfl 3 rfl ?_
      refine ww_aload_n cx dX7_guestsProving_5 rfl 0 rfl ?_
      refine gf_X7_19 cx dX7_guestsProving_6 ?_
      refine gf_X7_345 cx (isTab_3) dX7_guestsProving_9 ?_
      refine ww_icmp_ge cx dX7_guestsProving_12 (tgt := 68) rfl hF (fun hF => ?_) (fun hF => ?_)
      · refine ww_iload_n cx dX7_guestsProving_68 rfl 2 rfl ?_
        exact ww_ris hE dX7_guestsProving_69 hF
      · refine ww_aload_n cx dX7_guestsProving_15 rfl 0 rfl ?_
        refine ww_V0_sr kv_X7_218 rfl cx sh_0 ⟨Nat.le_of_ble_eq_true rfl, Nat.le_of_ble_eq_true rfl⟩ (Nat.le_of_ble_eq_true rfl) dX7_guestsProving_16 (kX7_freshProofs G) hF (fun σ1 hF => ?_)
        refine ww_aload_n cx dX7_guestsProving_19 rfl 0 rfl ?_
        refine gf_X7_19 cx dX7_guestsProving_20 ?_
        refine gf_X7_143 cx (isTab_3) dX7_guestsProving_23 ?_
        refine ww_iload_n cx dX7_guestsProving_26 rfl 3 rfl ?_
        refine ww_iald (N := 5) cx (ar_X6_13 isTab_3) dX7_guestsProving_27 hF (fun hF => ?_)
        refine ww_iload_n cx dX7_guestsProving_28 rfl 1 rfl ?_
        refine ww_V2_pi kv_X7_243 rfl cx ((isShe_49).1) ⟨Nat.le_of_ble_eq_true rfl, Nat.le_of_ble_eq_true rfl⟩ (Nat.le_of_ble_eq_true rfl) dX7_guestsProving_29 (kX5_leastSet G (isShe_49)) hF (fun r2 hF => ?_)
        refine ww_istore (ks := [0, 1, 2, 3, 4]) (lv' := fun v3 => [(4, .int v3), (0, .ref (gad G 0)), (1, .int x1), (2, .int x2), (3, .int x3)]) cx dX7_guestsProving_32 (by decide) hF (fun _ => rfl) (fun v3 hF => ?_)
        refine ww_iload cx dX7_guestsProving_34 0 rfl ?_
        refine ww_iconst cx dX7_guestsProving_36 ic_m1 ?_
        refine ww_icmp_eq cx dX7_guestsProving_37 (tgt := 62) rfl hF (fun hF => ?_) (fun hF => ?_)
        · refine ww_iinc (j := 4) (ks := [0, 2, 3, 4]) (lv' := fun v4 => [(3, .int v4), (0, .ref (gad G 0)), (1, .int x1), (2, .int x2)]) cx dX7_guestsProving_62 (by decide) rfl ic_1 hF (fun _ => rfl) (fun v4 hF => ?_)
          refine ww_goto cx dX7_guestsProving_65 (tgt := 4) rfl ?_
          exact ww_sub [1, 2, 3, 0] rfl (hk4 _ _ _ _ hF)
        · refine ww_iload cx dX7_guestsProving_40 0 rfl ?_
          refine ww_S1_pi kv_X7_115 cx ⟨Nat.le_of_ble_eq_true rfl, Nat.le_of_ble_eq_true rfl⟩ (Nat.le_of_ble_eq_true rfl) dX7_guestsProving_42 (kJ6_bitCount_0f7a4 G) hF (fun r5 hF => ?_)
          refine ww_aload_n cx dX7_guestsProving_45 rfl 1 rfl ?_
          refine gf_X7_19 cx dX7_guestsProving_46 ?_
          refine ww_iload_n cx dX7_guestsProving_49 rfl 4 rfl ?_
          refine ww_V1_pi kv_X7_146 rfl cx ((isTab_3).1) ⟨Nat.le_of_ble_eq_true rfl, Nat.le_of_ble_eq_true rfl⟩ (Nat.le_of_ble_eq_true rfl) dX7_guestsProving_50 (kX6_canDo G (isTab_3)) hF (fun r6 hF => ?_)
          refine ww_icmp_gt cx dX7_guestsProving_53 (tgt := 62) rfl hF (fun hF => ?_) (fun hF => ?_)
          · refine ww_iinc (j := 4) (ks := [0, 2, 3, 4]) (lv' := fun v7 => [(3, .int v7), (0, .ref (gad G 0)), (1, .int x1), (2, .int x2)]) cx dX7_guestsProving_62 (by decide) rfl ic_1 hF (fun _ => rfl) (fun v7 hF => ?_)
            refine ww_goto cx dX7_guestsProving_65 (tgt := 4) rfl ?_
            exact ww_sub [1, 2, 3, 0] rfl (hk4 _ _ _ _ hF)
          · refine ww_iload_n cx dX7_guestsProving_56 rfl 3 rfl ?_
            refine ww_iconst cx dX7_guestsProving_57 ic_1 ?_
            refine ww_iload_n cx dX7_guestsProving_58 rfl 4 rfl ?_
            refine ww_ishl cx dX7_guestsProving_59 ?_
            refine ww_ior cx dX7_guestsProving_60 ?_
            refine ww_istore_n (ks := [0, 2, 3, 4]) (lv' := fun v8 => [(2, .int v8), (0, .ref (gad G 0)), (1, .int x1), (3, .int x3)]) cx dX7_guestsProving_61 rfl (by decide) hF (fun _ => rfl) (fun v8 hF => ?_)
            refine ww_iinc (j := 3) (ks := [0, 1, 2, 3]) (lv' := fun v9 => [(3, .int v9), (2, .int v8), (0, .ref (gad G 0)), (1, .int x1)]) cx dX7_guestsProving_62 (by decide) rfl ic_1 hF (fun _ => rfl) (fun v9 hF => ?_)
            refine ww_goto cx dX7_guestsProving_65 (tgt := 4) rfl ?_
            exact ww_sub [2, 3, 1, 0] rfl (hk4 _ _ _ _ hF)
  unfold fX7_guestsProving at hF
  show WW G X 5 σ [(0, .ref (gad G 0)), (1, .int a1)] 0 []
  refine ww_iconst cx dX7_guestsProving_0 ic_0 ?_
  refine ww_istore_n (ks := [0, 1, 2]) (lv' := fun v10 => [(2, .int v10), (0, .ref (gad G 0)), (1, .int a1)]) cx dX7_guestsProving_1 rfl (by decide) hF (fun _ => rfl) (fun v10 hF => ?_)
  refine ww_iconst cx dX7_guestsProving_2 ic_0 ?_
  refine ww_istore_n (ks := [0, 1, 2, 3]) (lv' := fun v11 => [(3, .int v11), (2, .int v10), (0, .ref (gad G 0)), (1, .int a1)]) cx dX7_guestsProving_3 rfl (by decide) hF (fun _ => rfl) (fun v11 hF => ?_)
  exact ww_sub [2, 3, 1, 0] rfl (hl4 FU _ _ _ _ hF)
theorem dX7_kitchen_0 : decode cX7_kitchen 0 = .ok (.iload_n 2, 1) := by decide +kernel
theorem dX7_kitchen_1 : decode cX7_kitchen 1 = .ok (.ifCond .lt 16, 3) := by decide +kernel
theorem dX7_kitchen_4 : decode cX7_kitchen 4 = .ok (.iload_n 2, 1) := by decide +kernel
theorem dX7_kitchen_5 : decode cX7_kitchen 5 = .ok (.iconst 2, 1) := by decide +kernel
theorem dX7_kitchen_6 : decode cX7_kitchen 6 = .ok (.if_icmp .gt 11, 3) := by decide +kernel
theorem dX7_kitchen_9 : decode cX7_kitchen 9 = .ok (.aload_n 0, 1) := by decide +kernel
theorem dX7_kitchen_10 : decode cX7_kitchen 10 = .ok (.iload_n 1, 1) := by decide +kernel
theorem dX7_kitchen_11 : decode cX7_kitchen 11 = .ok (.invokevirtual 277, 3) := by decide +kernel
theorem dX7_kitchen_14 : decode cX7_kitchen 14 = .ok (.goto 5, 3) := by decide +kernel
theorem dX7_kitchen_17 : decode cX7_kitchen 17 = .ok (.bipush (-2), 2) := by decide +kernel
theorem dX7_kitchen_19 : decode cX7_kitchen 19 = .ok (.istore_n 3, 1) := by decide +kernel
theorem dX7_kitchen_20 : decode cX7_kitchen 20 = .ok (.iload_n 3, 1) := by decide +kernel
theorem dX7_kitchen_21 : decode cX7_kitchen 21 = .ok (.ifCond .eq 5, 3) := by decide +kernel
theorem dX7_kitchen_24 : decode cX7_kitchen 24 = .ok (.iload_n 3, 1) := by decide +kernel
theorem dX7_kitchen_25 : decode cX7_kitchen 25 = .ok (.ireturn, 1) := by decide +kernel
theorem dX7_kitchen_26 : decode cX7_kitchen 26 = .ok (.aload_n 0, 1) := by decide +kernel
theorem dX7_kitchen_27 : decode cX7_kitchen 27 = .ok (.getfield 65, 3) := by decide +kernel
theorem dX7_kitchen_30 : decode cX7_kitchen 30 = .ok (.aload_n 0, 1) := by decide +kernel
theorem dX7_kitchen_31 : decode cX7_kitchen 31 = .ok (.getfield 19, 3) := by decide +kernel
theorem dX7_kitchen_34 : decode cX7_kitchen 34 = .ok (.aload_n 0, 1) := by decide +kernel
theorem dX7_kitchen_35 : decode cX7_kitchen 35 = .ok (.getfield 36, 3) := by decide +kernel
theorem dX7_kitchen_38 : decode cX7_kitchen 38 = .ok (.iload_n 1, 1) := by decide +kernel
theorem dX7_kitchen_39 : decode cX7_kitchen 39 = .ok (.aaload, 1) := by decide +kernel
theorem dX7_kitchen_40 : decode cX7_kitchen 40 = .ok (.invokevirtual 280, 3) := by decide +kernel
theorem dX7_kitchen_43 : decode cX7_kitchen 43 = .ok (.iload_n 2, 1) := by decide +kernel
theorem dX7_kitchen_44 : decode cX7_kitchen 44 = .ok (.lookupswitch 44 #[(0, 28), (1, 36)], 28) := by decide +kernel
theorem dX7_kitchen_72 : decode cX7_kitchen 72 = .ok (.aload_n 0, 1) := by decide +kernel
theorem dX7_kitchen_73 : decode cX7_kitchen 73 = .ok (.getfield 65, 3) := by decide +kernel
theorem dX7_kitchen_76 : decode cX7_kitchen 76 = .ok (.getfield 283, 3) := by decide +kernel
theorem dX7_kitchen_79 : decode cX7_kitchen 79 = .ok (.ireturn, 1) := by decide +kernel
theorem dX7_kitchen_80 : decode cX7_kitchen 80 = .ok (.aload_n 0, 1) := by decide +kernel
theorem dX7_kitchen_81 : decode cX7_kitchen 81 = .ok (.getfield 65, 3) := by decide +kernel
theorem dX7_kitchen_84 : decode cX7_kitchen 84 = .ok (.getfield 286, 3) := by decide +kernel
theorem dX7_kitchen_87 : decode cX7_kitchen 87 = .ok (.ireturn, 1) := by decide +kernel
theorem dX7_kitchen_88 : decode cX7_kitchen 88 = .ok (.aload_n 0, 1) := by decide +kernel
theorem dX7_kitchen_89 : decode cX7_kitchen 89 = .ok (.getfield 19, 3) := by decide +kernel
theorem dX7_kitchen_92 : decode cX7_kitchen 92 = .ok (.aload_n 0, 1) := by decide +kernel
theorem dX7_kitchen_93 : decode cX7_kitchen 93 = .ok (.getfield 65, 3) := by decide +kernel
theorem dX7_kitchen_96 : decode cX7_kitchen 96 = .ok (.getfield 289, 3) := by decide +kernel
theorem dX7_kitchen_99 : decode cX7_kitchen 99 = .ok (.aload_n 0, 1) := by decide +kernel
theorem dX7_kitchen_100 : decode cX7_kitchen 100 = .ok (.getfield 19, 3) := by decide +kernel
theorem dX7_kitchen_103 : decode cX7_kitchen 103 = .ok (.getfield 109, 3) := by decide +kernel
theorem dX7_kitchen_106 : decode cX7_kitchen 106 = .ok (.iconst (-1), 1) := by decide +kernel
theorem dX7_kitchen_107 : decode cX7_kitchen 107 = .ok (.ixor, 1) := by decide +kernel
theorem dX7_kitchen_108 : decode cX7_kitchen 108 = .ok (.iand, 1) := by decide +kernel
theorem dX7_kitchen_109 : decode cX7_kitchen 109 = .ok (.invokevirtual 292, 3) := by decide +kernel
theorem dX7_kitchen_112 : decode cX7_kitchen 112 = .ok (.ireturn, 1) := by decide +kernel
set_option maxRecDepth 4000 in
theorem kX7_kitchen (G : GT) {σ : St} {a1 : Int32} {a2 : Int32} : ∀ (r : Int32) (σo : St) , fX7_kitchen σ a1 a2 = some (r, σo) → MCt G 5 yX7_kitchen cX7_kitchen 4 (some .int) [.ref (gad G 0), .int a1, .int a2] σ (some (.int r)) σo := by
  intro r σo hF
  refine met_i (by decide) (Nat.le_of_ble_eq_true rfl) (fun X cx hE => ?_)
  have cx : Cx G X RX7 cX7_kitchen 4 5 := cx
  have hb19 : ∀ (σ : St) (x1 : Int32) (x2 : Int32) (y0 : Int32) , fX7_kitchen_b19 σ x1 x2 y0 = some (r, σo) → WW G X 4 σ [(0, .ref (gad G 0)), (1, .int x1), (2, .int x2)] 19 [.int y0] := by
    intro σ x1 x2 y0 hF
    unfold fX7_kitchen_b19 at hF
    refine ww_istore_n (ks := [0, 1, 2, 3]) (lv' := fun v1 => [(3, .int v1), (0, .ref (gad G 0)), (1, .int x1), (2, .int x2)]) cx dX7_kitchen_19 rfl (by decide) hF (fun _ => rfl) (fun v1 hF => ?_)
    refine ww_iload_n cx dX7_kitchen_20 rfl 0 rfl ?_
    refine ww_if_eq cx dX7_kitchen_21 (tgt := 26) rfl hF (fun hF => ?_) (fun hF => ?_)
    · refine ww_aload_n cx dX7_kitchen_26 rfl 1 rfl ?_
      refine gf_X7_65 cx dX7_kitchen_27 ?_
      refine ww_aload_n cx dX7_kitchen_30 rfl 1 rfl ?_
      refine gf_X7_19 cx dX7_kitchen_31 ?_
      refine ww_aload_n cx dX7_kitchen_34 rfl 1 rfl ?_
      refine gf_X7_36 cx dX7_kitchen_35 ?_
      refine ww_iload_n cx dX7_kitchen_38 rfl 2 rfl ?_
      refine ww_aaldR cx dX7_kitchen_39 hF (fun k2 hk2 hF => ?_)
      refine ww_V2_sv kv_X7_280 rfl cx sh_55 ⟨Nat.le_of_ble_eq_true rfl, Nat.le_of_ble_eq_true rfl⟩ (Nat.le_of_ble_eq_true rfl) dX7_kitchen_40 (kX1_cook G (isTab_3) (hk2)) hF (fun σ3 hF => ?_)
      refine ww_iload_n cx dX7_kitchen_43 rfl 3 rfl ?_
      by_cases e0 : x2 = 0
      · replace hF := it_t e0 hF
        refine ww_lsIn (v := 0) (tgt := 72) cx dX7_kitchen_44 e0 (by decide +kernel) rfl rfl ?_
        refine ww_aload_n cx dX7_kitchen_72 rfl 1 rfl ?_
        refine gf_X7_65 cx dX7_kitchen_73 ?_
        refine gf_X7_283 cx dX7_kitchen_76 ?_
        exact ww_ris hE dX7_kitchen_79 hF
      replace hF := it_f e0 hF
      by_cases e1 : x2 = 1
      · replace hF := it_t e1 hF
        refine ww_lsIn (v := 1) (tgt := 80) cx dX7_kitchen_44 e1 (by decide +kernel) rfl rfl ?_
        refine ww_aload_n cx dX7_kitchen_80 rfl 1 rfl ?_
        refine gf_X7_65 cx dX7_kitchen_81 ?_
        refine gf_X7_286 cx dX7_kitchen_84 ?_
        exact ww_ris hE dX7_kitchen_87 hF
      replace hF := it_f e1 hF
      refine ww_lsOut (tgt := 88) cx dX7_kitchen_44 (by decide +kernel) (ls_out2 e0 e1) rfl ?_
      refine ww_aload_n cx dX7_kitchen_88 rfl 1 rfl ?_
      refine gf_X7_19 cx dX7_kitchen_89 ?_
      refine ww_aload_n cx dX7_kitchen_92 rfl 1 rfl ?_
      refine gf_X7_65 cx dX7_kitchen_93 ?_
      refine gf_X7_289 cx dX7_kitchen_96 ?_
      refine ww_aload_n cx dX7_kitchen_99 rfl 1 rfl ?_
      refine gf_X7_19 cx dX7_kitchen_100 ?_
      refine gf_X7_109 cx (isTab_3) dX7_kitchen_103 ?_
      refine ww_iconst cx dX7_kitchen_106 ic_m1 ?_
      refine ww_ixor cx dX7_kitchen_107 ?_
      refine ww_iand cx dX7_kitchen_108 ?_
      refine ww_V1_pi kv_X7_292 rfl cx ((isTab_3).1) ⟨Nat.le_of_ble_eq_true rfl, Nat.le_of_ble_eq_true rfl⟩ (Nat.le_of_ble_eq_true rfl) dX7_kitchen_109 (kX6_worthOf G (isTab_3)) hF (fun r4 hF => ?_)
      exact ww_ris hE dX7_kitchen_112 hF
    · refine ww_iload_n cx dX7_kitchen_24 rfl 0 rfl ?_
      exact ww_ris hE dX7_kitchen_25 hF
  have hb17 : ∀ (σ : St) (x1 : Int32) (x2 : Int32) , fX7_kitchen_b17 σ x1 x2 = some (r, σo) → WW G X 4 σ [(0, .ref (gad G 0)), (1, .int x1), (2, .int x2)] 17 [] := by
    intro σ x1 x2 hF
    unfold fX7_kitchen_b17 at hF
    refine ww_bipush cx dX7_kitchen_17 bc_m2 ?_
    exact hb19 _ _ _ _ hF
  unfold fX7_kitchen at hF
  show WW G X 4 σ [(0, .ref (gad G 0)), (1, .int a1), (2, .int a2)] 0 []
  refine ww_iload_n cx dX7_kitchen_0 rfl 2 rfl ?_
  refine ww_if_lt cx dX7_kitchen_1 (tgt := 17) rfl hF (fun hF => ?_) (fun hF => ?_)
  · exact hb17 _ _ _ hF
  · refine ww_iload_n cx dX7_kitchen_4 rfl 2 rfl ?_
    refine ww_iconst cx dX7_kitchen_5 ic_2 ?_
    refine ww_icmp_gt cx dX7_kitchen_6 (tgt := 17) rfl hF (fun hF => ?_) (fun hF => ?_)
    · exact hb17 _ _ _ hF
    · refine ww_aload_n cx dX7_kitchen_9 rfl 0 rfl ?_
      refine ww_iload_n cx dX7_kitchen_10 rfl 1 rfl ?_
      refine ww_V1_pi kv_X7_277 rfl cx sh_0 ⟨Nat.le_of_ble_eq_true rfl, Nat.le_of_ble_eq_true rfl⟩ (Nat.le_of_ble_eq_true rfl) dX7_kitchen_11 (kX7_refusalOfPairs G) hF (fun r5 hF => ?_)
      refine ww_goto cx dX7_kitchen_14 (tgt := 19) rfl ?_
      exact hb19 _ _ _ _ hF
theorem dX7_leaves_0 : decode cX7_leaves 0 = .ok (.aload_n 0, 1) := by decide +kernel
theorem dX7_leaves_1 : decode cX7_leaves 1 = .ok (.getfield 19, 3) := by decide +kernel
theorem dX7_leaves_4 : decode cX7_leaves 4 = .ok (.invokevirtual 149, 3) := by decide +kernel
theorem dX7_leaves_7 : decode cX7_leaves 7 = .ok (.ifCond .ne 6, 3) := by decide +kernel
theorem dX7_leaves_10 : decode cX7_leaves 10 = .ok (.bipush (-2), 2) := by decide +kernel
theorem dX7_leaves_12 : decode cX7_leaves 12 = .ok (.ireturn, 1) := by decide +kernel
theorem dX7_leaves_13 : decode cX7_leaves 13 = .ok (.aload_n 0, 1) := by decide +kernel
theorem dX7_leaves_14 : decode cX7_leaves 14 = .ok (.invokevirtual 320, 3) := by decide +kernel
theorem dX7_leaves_17 : decode cX7_leaves 17 = .ok (.istore_n 1, 1) := by decide +kernel
theorem dX7_leaves_18 : decode cX7_leaves 18 = .ok (.iload_n 1, 1) := by decide +kernel
theorem dX7_leaves_19 : decode cX7_leaves 19 = .ok (.iconst (-1), 1) := by decide +kernel
theorem dX7_leaves_20 : decode cX7_leaves 20 = .ok (.if_icmp .ne 23, 3) := by decide +kernel
theorem dX7_leaves_23 : decode cX7_leaves 23 = .ok (.aload_n 0, 1) := by decide +kernel
theorem dX7_leaves_24 : decode cX7_leaves 24 = .ok (.getfield 19, 3) := by decide +kernel
theorem dX7_leaves_27 : decode cX7_leaves 27 = .ok (.aload_n 0, 1) := by decide +kernel
theorem dX7_leaves_28 : decode cX7_leaves 28 = .ok (.getfield 19, 3) := by decide +kernel
theorem dX7_leaves_31 : decode cX7_leaves 31 = .ok (.getfield 109, 3) := by decide +kernel
theorem dX7_leaves_34 : decode cX7_leaves 34 = .ok (.invokevirtual 153, 3) := by decide +kernel
theorem dX7_leaves_37 : decode cX7_leaves 37 = .ok (.invokestatic 115, 3) := by decide +kernel
theorem dX7_leaves_40 : decode cX7_leaves 40 = .ok (.goto 11, 3) := by decide +kernel
theorem dX7_leaves_43 : decode cX7_leaves 43 = .ok (.aload_n 0, 1) := by decide +kernel
theorem dX7_leaves_44 : decode cX7_leaves 44 = .ok (.getfield 19, 3) := by decide +kernel
theorem dX7_leaves_47 : decode cX7_leaves 47 = .ok (.iload_n 1, 1) := by decide +kernel
theorem dX7_leaves_48 : decode cX7_leaves 48 = .ok (.invokevirtual 317, 3) := by decide +kernel
theorem dX7_leaves_51 : decode cX7_leaves 51 = .ok (.ireturn, 1) := by decide +kernel
set_option maxRecDepth 4000 in
theorem kX7_leaves (G : GT) {σ : St} : ∀ (r : Int32) , fX7_leaves σ = some r → MCt G 5 yX7_leaves cX7_leaves 2 (some .int) [.ref (gad G 0)] σ (some (.int r)) σ := by
  intro r hF
  refine met_i (by decide) (Nat.le_of_ble_eq_true rfl) (fun X cx hE => ?_)
  have cx : Cx G X RX7 cX7_leaves 2 5 := cx
  unfold fX7_leaves at hF
  show WW G X 2 σ [(0, .ref (gad G 0))] 0 []
  refine ww_aload_n cx dX7_leaves_0 rfl 0 rfl ?_
  refine gf_X7_19 cx dX7_leaves_1 ?_
  refine ww_V0_pi kv_X7_149 rfl cx ((isTab_3).1) ⟨Nat.le_of_ble_eq_true rfl, Nat.le_of_ble_eq_true rfl⟩ (Nat.le_of_ble_eq_true rfl) dX7_leaves_4 (kX6_isTold G (isTab_3)) hF (fun r1 hF => ?_)
  refine ww_if_ne cx dX7_leaves_7 (tgt := 13) rfl hF (fun hF => ?_) (fun hF => ?_)
  · refine ww_aload_n cx dX7_leaves_13 rfl 0 rfl ?_
    refine ww_V0_pi kv_X7_320 rfl cx sh_0 ⟨Nat.le_of_ble_eq_true rfl, Nat.le_of_ble_eq_true rfl⟩ (Nat.le_of_ble_eq_true rfl) dX7_leaves_14 (kX7_ask G) hF (fun r2 hF => ?_)
    refine ww_istore_n (ks := [0, 1]) (lv' := fun v3 => [(1, .int v3), (0, .ref (gad G 0))]) cx dX7_leaves_17 rfl (by decide) hF (fun _ => rfl) (fun v3 hF => ?_)
    refine ww_iload_n cx dX7_leaves_18 rfl 0 rfl ?_
    refine ww_iconst cx dX7_leaves_19 ic_m1 ?_
    refine ww_icmp_ne cx dX7_leaves_20 (tgt := 43) rfl hF (fun hF => ?_) (fun hF => ?_)
    · refine ww_aload_n cx dX7_leaves_43 rfl 1 rfl ?_
      refine gf_X7_19 cx dX7_leaves_44 ?_
      refine ww_iload_n cx dX7_leaves_47 rfl 0 rfl ?_
      refine ww_V1_pi kv_X7_317 rfl cx ((isTab_3).1) ⟨Nat.le_of_ble_eq_true rfl, Nat.le_of_ble_eq_true rfl⟩ (Nat.le_of_ble_eq_true rfl) dX7_leaves_48 (kX6_leftAtWorst G (isTab_3)) hF (fun r4 hF => ?_)
      exact ww_rip hE dX7_leaves_51 hF
    · refine ww_aload_n cx dX7_leaves_23 rfl 1 rfl ?_
      refine gf_X7_19 cx dX7_leaves_24 ?_
      refine ww_aload_n cx dX7_leaves_27 rfl 1 rfl ?_
      refine gf_X7_19 cx dX7_leaves_28 ?_
      refine gf_X7_109 cx (isTab_3) dX7_leaves_31 ?_
      refine ww_V1_pi kv_X7_153 rfl cx ((isTab_3).1) ⟨Nat.le_of_ble_eq_true rfl, Nat.le_of_ble_eq_true rfl⟩ (Nat.le_of_ble_eq_true rfl) dX7_leaves_34 (kX6_worldsOf G (isTab_3)) hF (fun r5 hF => ?_)
      refine ww_S1_pi kv_X7_115 cx ⟨Nat.le_of_ble_eq_true rfl, Nat.le_of_ble_eq_true rfl⟩ (Nat.le_of_ble_eq_true rfl) dX7_leaves_37 (kJ6_bitCount_0f7a4 G) hF (fun r6 hF => ?_)
      refine ww_goto cx dX7_leaves_40 (tgt := 51) rfl ?_
      exact ww_rip hE dX7_leaves_51 hF
  · refine ww_bipush cx dX7_leaves_10 bc_m2 ?_
    exact ww_rip hE dX7_leaves_12 hF
