theorem dX7_lent_0 : decode cX7_lent 0 = .ok (.aload_n 0, 1) := by decide +kernel
theorem dX7_lent_1 : decode cX7_lent 1 = .ok (.getfield 19, 3) := by decide +kernel
theorem dX7_lent_4 : decode cX7_lent 4 = .ok (.iload_n 2, 1) := by decide +kernel
theorem dX7_lent_5 : decode cX7_lent 5 = .ok (.invokevirtual 137, 3) := by decide +kernel
theorem dX7_lent_8 : decode cX7_lent 8 = .ok (.ifCond .eq 11, 3) := by decide +kernel
theorem dX7_lent_11 : decode cX7_lent 11 = .ok (.aload_n 0, 1) := by decide +kernel
theorem dX7_lent_12 : decode cX7_lent 12 = .ok (.iload_n 1, 1) := by decide +kernel
theorem dX7_lent_13 : decode cX7_lent 13 = .ok (.invokevirtual 332, 3) := by decide +kernel
theorem dX7_lent_16 : decode cX7_lent 16 = .ok (.goto 5, 3) := by decide +kernel
theorem dX7_lent_19 : decode cX7_lent 19 = .ok (.bipush (-2), 2) := by decide +kernel
theorem dX7_lent_21 : decode cX7_lent 21 = .ok (.istore_n 3, 1) := by decide +kernel
theorem dX7_lent_22 : decode cX7_lent 22 = .ok (.iload_n 3, 1) := by decide +kernel
theorem dX7_lent_23 : decode cX7_lent 23 = .ok (.ifCond .eq 5, 3) := by decide +kernel
theorem dX7_lent_26 : decode cX7_lent 26 = .ok (.iload_n 3, 1) := by decide +kernel
theorem dX7_lent_27 : decode cX7_lent 27 = .ok (.ireturn, 1) := by decide +kernel
theorem dX7_lent_28 : decode cX7_lent 28 = .ok (.aload_n 0, 1) := by decide +kernel
theorem dX7_lent_29 : decode cX7_lent 29 = .ok (.getfield 36, 3) := by decide +kernel
theorem dX7_lent_32 : decode cX7_lent 32 = .ok (.iload_n 1, 1) := by decide +kernel
theorem dX7_lent_33 : decode cX7_lent 33 = .ok (.aaload, 1) := by decide +kernel
theorem dX7_lent_34 : decode cX7_lent 34 = .ok (.invokevirtual 335, 3) := by decide +kernel
theorem dX7_lent_37 : decode cX7_lent 37 = .ok (.istore 4, 2) := by decide +kernel
theorem dX7_lent_39 : decode cX7_lent 39 = .ok (.aload_n 0, 1) := by decide +kernel
theorem dX7_lent_40 : decode cX7_lent 40 = .ok (.getfield 19, 3) := by decide +kernel
theorem dX7_lent_43 : decode cX7_lent 43 = .ok (.getfield 143, 3) := by decide +kernel
theorem dX7_lent_46 : decode cX7_lent 46 = .ok (.iload_n 2, 1) := by decide +kernel
theorem dX7_lent_47 : decode cX7_lent 47 = .ok (.iaload, 1) := by decide +kernel
theorem dX7_lent_48 : decode cX7_lent 48 = .ok (.istore 5, 2) := by decide +kernel
theorem dX7_lent_50 : decode cX7_lent 50 = .ok (.aload_n 0, 1) := by decide +kernel
theorem dX7_lent_51 : decode cX7_lent 51 = .ok (.invokevirtual 218, 3) := by decide +kernel
theorem dX7_lent_54 : decode cX7_lent 54 = .ok (.getfield 237, 3) := by decide +kernel
theorem dX7_lent_57 : decode cX7_lent 57 = .ok (.astore 6, 2) := by decide +kernel
theorem dX7_lent_59 : decode cX7_lent 59 = .ok (.iload 4, 2) := by decide +kernel
theorem dX7_lent_61 : decode cX7_lent 61 = .ok (.aload 6, 2) := by decide +kernel
theorem dX7_lent_63 : decode cX7_lent 63 = .ok (.iload 5, 2) := by decide +kernel
theorem dX7_lent_65 : decode cX7_lent 65 = .ok (.iaload, 1) := by decide +kernel
theorem dX7_lent_66 : decode cX7_lent 66 = .ok (.iconst (-1), 1) := by decide +kernel
theorem dX7_lent_67 : decode cX7_lent 67 = .ok (.ixor, 1) := by decide +kernel
theorem dX7_lent_68 : decode cX7_lent 68 = .ok (.iand, 1) := by decide +kernel
theorem dX7_lent_69 : decode cX7_lent 69 = .ok (.ifCond .ne 5, 3) := by decide +kernel
theorem dX7_lent_72 : decode cX7_lent 72 = .ok (.iconst 0, 1) := by decide +kernel
theorem dX7_lent_73 : decode cX7_lent 73 = .ok (.ireturn, 1) := by decide +kernel
theorem dX7_lent_74 : decode cX7_lent 74 = .ok (.iconst 0, 1) := by decide +kernel
theorem dX7_lent_75 : decode cX7_lent 75 = .ok (.istore 7, 2) := by decide +kernel
theorem dX7_lent_77 : decode cX7_lent 77 = .ok (.iconst 0, 1) := by decide +kernel
theorem dX7_lent_78 : decode cX7_lent 78 = .ok (.istore 8, 2) := by decide +kernel
theorem dX7_lent_80 : decode cX7_lent 80 = .ok (.iload 8, 2) := by decide +kernel
theorem dX7_lent_82 : decode cX7_lent 82 = .ok (.aload_n 0, 1) := by decide +kernel
theorem dX7_lent_83 : decode cX7_lent 83 = .ok (.getfield 19, 3) := by decide +kernel
theorem dX7_lent_86 : decode cX7_lent 86 = .ok (.getfield 345, 3) := by decide +kernel
theorem dX7_lent_89 : decode cX7_lent 89 = .ok (.if_icmp .ge 42, 3) := by decide +kernel
theorem dX7_lent_92 : decode cX7_lent 92 = .ok (.iload 4, 2) := by decide +kernel
theorem dX7_lent_94 : decode cX7_lent 94 = .ok (.aload 6, 2) := by decide +kernel
theorem dX7_lent_96 : decode cX7_lent 96 = .ok (.iload 5, 2) := by decide +kernel
theorem dX7_lent_98 : decode cX7_lent 98 = .ok (.aload_n 0, 1) := by decide +kernel
theorem dX7_lent_99 : decode cX7_lent 99 = .ok (.getfield 19, 3) := by decide +kernel
theorem dX7_lent_102 : decode cX7_lent 102 = .ok (.getfield 143, 3) := by decide +kernel
theorem dX7_lent_105 : decode cX7_lent 105 = .ok (.iload 8, 2) := by decide +kernel
theorem dX7_lent_107 : decode cX7_lent 107 = .ok (.iaload, 1) := by decide +kernel
theorem dX7_lent_108 : decode cX7_lent 108 = .ok (.ior, 1) := by decide +kernel
theorem dX7_lent_109 : decode cX7_lent 109 = .ok (.iaload, 1) := by decide +kernel
theorem dX7_lent_110 : decode cX7_lent 110 = .ok (.iconst (-1), 1) := by decide +kernel
theorem dX7_lent_111 : decode cX7_lent 111 = .ok (.ixor, 1) := by decide +kernel
theorem dX7_lent_112 : decode cX7_lent 112 = .ok (.iand, 1) := by decide +kernel
theorem dX7_lent_113 : decode cX7_lent 113 = .ok (.ifCond .ne 12, 3) := by decide +kernel
theorem dX7_lent_116 : decode cX7_lent 116 = .ok (.iload 7, 2) := by decide +kernel
theorem dX7_lent_118 : decode cX7_lent 118 = .ok (.iconst 1, 1) := by decide +kernel
theorem dX7_lent_119 : decode cX7_lent 119 = .ok (.iload 8, 2) := by decide +kernel
theorem dX7_lent_121 : decode cX7_lent 121 = .ok (.ishl, 1) := by decide +kernel
theorem dX7_lent_122 : decode cX7_lent 122 = .ok (.ior, 1) := by decide +kernel
theorem dX7_lent_123 : decode cX7_lent 123 = .ok (.istore 7, 2) := by decide +kernel
theorem dX7_lent_125 : decode cX7_lent 125 = .ok (.iinc 8 1, 3) := by decide +kernel
theorem dX7_lent_128 : decode cX7_lent 128 = .ok (.goto (-48), 3) := by decide +kernel
theorem dX7_lent_131 : decode cX7_lent 131 = .ok (.iload 7, 2) := by decide +kernel
theorem dX7_lent_133 : decode cX7_lent 133 = .ok (.ireturn, 1) := by decide +kernel
set_option maxRecDepth 4000 in
theorem kX7_lent (G : GT) {σ : St} {a1 : Int32} {a2 : Int32} : ∀ (r : Int32) (σo : St) , fX7_lent σ a1 a2 = some (r, σo) → MCt G 5 yX7_lent cX7_lent 9 (some .int) [.ref (gad G 0), .int a1, .int a2] σ (some (.int r)) σo := by
  intro r σo hF
  refine met_i (by decide) (Nat.le_of_ble_eq_true rfl) (fun X cx hE => ?_)
  have cx : Cx G X RX7 cX7_lent 9 5 := cx
  have hl80 : ∀ n : Nat, ∀ (σ : St) (x4 : Int32) (x5 : Int32) (x7 : Int32) (x8 : Int32) , fX7_lent_l80 n σ x4 x5 x7 x8 = some (r, σo) → WW G X 9 σ [(0, .ref (gad G 0)), (4, .int x4), (5, .int x5), (6, .ref (gad G (49 + 1))), (7, .int x7), (8, .int x8)] 80 [] := by
    intro n
    induction n with
    | zero =>
      intro σ x4 x5 x7 x8 hF
      exact absurd hF (by intro z; cases z)
    | succ n ih =>
      intro σ x4 x5 x7 x8 hF
      have hk80 := ih
      have hF : fX7_lent_B80 (fX7_lent_l80 n) σ x4 x5 x7 x8 = some (r, σo) := hF
      unfold fX7_lent_B80 at hF
      refine ww_iload cx dX7_lent_80 5 rfl ?_
      refine ww_aload_n cx dX7_lent_82 rfl 0 rfl ?_
      refine gf_X7_19 cx dX7_lent_83 ?_
      refine gf_X7_345 cx (isTab_3) dX7_lent_86 ?_
      refine ww_icmp_ge cx dX7_lent_89 (tgt := 131) rfl hF (fun hF => ?_) (fun hF => ?_)
      · refine ww_iload cx dX7_lent_131 4 rfl ?_
        exact ww_ris hE dX7_lent_133 hF
      · refine ww_iload cx dX7_lent_92 1 rfl ?_
        refine ww_aload cx dX7_lent_94 3 rfl ?_
        refine ww_iload cx dX7_lent_96 2 rfl ?_
        refine ww_aload_n cx dX7_lent_98 rfl 0 rfl ?_
        refine gf_X7_19 cx dX7_lent_99 ?_
        refine gf_X7_143 cx (isTab_3) dX7_lent_102 ?_
        refine ww_iload cx dX7_lent_105 5 rfl ?_
        refine ww_iald (N := 5) cx (ar_X6_13 isTab_3) dX7_lent_107 hF (fun hF => ?_)
        refine ww_ior cx dX7_lent_108 ?_
        refine ww_iald (N := 4096) cx (ar_X5_0 isShe_49) dX7_lent_109 hF (fun hF => ?_)
        refine ww_iconst cx dX7_lent_110 ic_m1 ?_
        refine ww_ixor cx dX7_lent_111 ?_
        refine ww_iand cx dX7_lent_112 ?_
        refine ww_if_ne cx dX7_lent_113 (tgt := 125) rfl hF (fun hF => ?_) (fun hF => ?_)
        · refine ww_iinc (j := 5) (ks := [0, 1, 2, 3, 4, 5]) (lv' := fun v1 => [(8, .int v1), (0, .ref (gad G 0)), (4, .int x4), (5, .int x5), (6, .ref (gad G (49 + 1))), (7, .int x7)]) cx dX7_lent_125 (by decide) rfl ic_1 hF (fun _ => rfl) (fun v1 hF => ?_)
          refine ww_goto cx dX7_lent_128 (tgt := 80) rfl ?_
          exact ww_sub [1, 2, 3, 4, 5, 0] rfl (hk80 _ _ _ _ _ hF)
        · refine ww_iload cx dX7_lent_116 4 rfl ?_
          refine ww_iconst cx dX7_lent_118 ic_1 ?_
          refine ww_iload cx dX7_lent_119 5 rfl ?_
          refine ww_ishl cx dX7_lent_121 ?_
          refine ww_ior cx dX7_lent_122 ?_
          refine ww_istore (ks := [0, 1, 2, 3, 4, 5]) (lv' := fun v2 => [(7, .int v2), (0, .ref (gad G 0)), (4, .int x4), (5, .int x5), (6, .ref (gad G (49 + 1))), (8, .int x8)]) cx dX7_lent_123 (by decide) hF (fun _ => rfl) (fun v2 hF => ?_)
          refine ww_iinc (j := 5) (ks := [0, 1, 2, 3, 4, 5]) (lv' := fun v3 => [(8, .int v3), (7, .int v2), (0, .ref (gad G 0)), (4, .int x4), (5, .int x5), (6, .ref (gad G (49 + 1)))]) cx dX7_lent_125 (by decide) rfl ic_1 hF (fun _ => rfl) (fun v3 hF => ?_)
          refine ww_goto cx dX7_lent_128 (tgt := 80) rfl ?_
          exact ww_sub [2, 3, 4, 5, 1, 0] rfl (hk80 _ _ _ _ _ hF)
  have hb21 : ∀ (σ : St) (x1 : Int32) (x2 : Int32) (y0 : Int32) , fX7_lent_b21 σ x1 x2 y0 = some (r, σo) → WW G X 9 σ [(0, .ref (gad G 0)), (1, .int x1), (2, .int x2)] 21 [.int y0] := by
    intro σ x1 x2 y0 hF
    unfold fX7_lent_b21 at hF
    refine ww_istore_n (ks := [0, 1, 2, 3]) (lv' := fun v4 => [(3, .int v4), (0, .ref (gad G 0)), (1, .int x1), (2, .int x2)]) cx dX7_lent_21 rfl (by decide) hF (fun _ => rfl) (fun v4 hF => ?_)
    refine ww_iload_n cx dX7_lent_22 rfl 0 rfl ?_
    refine ww_if_eq cx dX7_lent_23 (tgt := 28) rfl hF (fun hF => ?_) (fun hF => ?_)
    · refine ww_aload_n cx dX7_lent_28 rfl 1 rfl ?_
      refine gf_X7_36 cx dX7_lent_29 ?_
      refine ww_iload_n cx dX7_lent_32 rfl 2 rfl ?_
      refine ww_aaldR cx dX7_lent_33 hF (fun k5 hk5 hF => ?_)
      refine ww_V0_pi kv_X7_335 rfl cx ((hk5).1) ⟨Nat.le_of_ble_eq_true rfl, Nat.le_of_ble_eq_true rfl⟩ (Nat.le_of_ble_eq_true rfl) dX7_lent_34 (kX4_asSet G (hk5)) hF (fun r6 hF => ?_)
      refine ww_istore (ks := [0, 2, 4]) (lv' := fun v7 => [(4, .int v7), (0, .ref (gad G 0)), (2, .int x2)]) cx dX7_lent_37 (by decide) hF (fun _ => rfl) (fun v7 hF => ?_)
      refine ww_aload_n cx dX7_lent_39 rfl 1 rfl ?_
      refine gf_X7_19 cx dX7_lent_40 ?_
      refine gf_X7_143 cx (isTab_3) dX7_lent_43 ?_
      refine ww_iload_n cx dX7_lent_46 rfl 2 rfl ?_
      refine ww_iald (N := 5) cx (ar_X6_13 isTab_3) dX7_lent_47 hF (fun hF => ?_)
      refine ww_istore (ks := [0, 1, 2]) (lv' := fun v8 => [(5, .int v8), (4, .int v7), (0, .ref (gad G 0))]) cx dX7_lent_48 (by decide) hF (fun _ => rfl) (fun v8 hF => ?_)
      refine ww_aload_n cx dX7_lent_50 rfl 2 rfl ?_
      refine ww_V0_sr kv_X7_218 rfl cx sh_0 ⟨Nat.le_of_ble_eq_true rfl, Nat.le_of_ble_eq_true rfl⟩ (Nat.le_of_ble_eq_true rfl) dX7_lent_51 (kX7_freshProofs G) hF (fun σ9 hF => ?_)
      refine gf_X7_237 cx (isShe_49) dX7_lent_54 ?_
      refine ww_astore (ks := [0, 1, 2, 3]) (lv' := [(6, .ref (gad G (49 + 1))), (5, .int v8), (4, .int v7), (0, .ref (gad G 0))]) cx dX7_lent_57 (by decide) rfl ?_
      refine ww_iload cx dX7_lent_59 2 rfl ?_
      refine ww_aload cx dX7_lent_61 0 rfl ?_
      refine ww_iload cx dX7_lent_63 1 rfl ?_
      refine ww_iald (N := 4096) cx (ar_X5_0 isShe_49) dX7_lent_65 hF (fun hF => ?_)
      refine ww_iconst cx dX7_lent_66 ic_m1 ?_
      refine ww_ixor cx dX7_lent_67 ?_
      refine ww_iand cx dX7_lent_68 ?_
      refine ww_if_ne cx dX7_lent_69 (tgt := 74) rfl hF (fun hF => ?_) (fun hF => ?_)
      · refine ww_iconst cx dX7_lent_74 ic_0 ?_
        refine ww_istore (ks := [0, 1, 2, 3, 4]) (lv' := fun v10 => [(7, .int v10), (6, .ref (gad G (49 + 1))), (5, .int v8), (4, .int v7), (0, .ref (gad G 0))]) cx dX7_lent_75 (by decide) hF (fun _ => rfl) (fun v10 hF => ?_)
        refine ww_iconst cx dX7_lent_77 ic_0 ?_
        refine ww_istore (ks := [0, 1, 2, 3, 4, 5]) (lv' := fun v11 => [(8, .int v11), (7, .int v10), (6, .ref (gad G (49 + 1))), (5, .int v8), (4, .int v7), (0, .ref (gad G 0))]) cx dX7_lent_78 (by decide) hF (fun _ => rfl) (fun v11 hF => ?_)
        exact ww_sub [5, 4, 3, 2, 1, 0] rfl (hl80 FU _ _ _ _ _ hF)
      · refine ww_iconst cx dX7_lent_72 ic_0 ?_
        exact ww_ris hE dX7_lent_73 hF
    · refine ww_iload_n cx dX7_lent_26 rfl 0 rfl ?_
      exact ww_ris hE dX7_lent_27 hF
  unfold fX7_lent at hF
  show WW G X 9 σ [(0, .ref (gad G 0)), (1, .int a1), (2, .int a2)] 0 []
  refine ww_aload_n cx dX7_lent_0 rfl 0 rfl ?_
  refine gf_X7_19 cx dX7_lent_1 ?_
  refine ww_iload_n cx dX7_lent_4 rfl 2 rfl ?_
  refine ww_V1_pi kv_X7_137 rfl cx ((isTab_3).1) ⟨Nat.le_of_ble_eq_true rfl, Nat.le_of_ble_eq_true rfl⟩ (Nat.le_of_ble_eq_true rfl) dX7_lent_5 (kX6_hasGuest G (isTab_3)) hF (fun r12 hF => ?_)
  refine ww_if_eq cx dX7_lent_8 (tgt := 19) rfl hF (fun hF => ?_) (fun hF => ?_)
  · refine ww_bipush cx dX7_lent_19 bc_m2 ?_
    exact hb21 _ _ _ _ hF
  · refine ww_aload_n cx dX7_lent_11 rfl 0 rfl ?_
    refine ww_iload_n cx dX7_lent_12 rfl 1 rfl ?_
    refine ww_V1_pi kv_X7_332 rfl cx sh_0 ⟨Nat.le_of_ble_eq_true rfl, Nat.le_of_ble_eq_true rfl⟩ (Nat.le_of_ble_eq_true rfl) dX7_lent_13 (kX7_refusalOfDishes G) hF (fun r13 hF => ?_)
    refine ww_goto cx dX7_lent_16 (tgt := 21) rfl ?_
    exact hb21 _ _ _ _ hF
theorem dX7_menuSet_0 : decode cX7_menuSet 0 = .ok (.aload_n 0, 1) := by decide +kernel
theorem dX7_menuSet_1 : decode cX7_menuSet 1 = .ok (.invokevirtual 218, 3) := by decide +kernel
theorem dX7_menuSet_4 : decode cX7_menuSet 4 = .ok (.aload_n 0, 1) := by decide +kernel
theorem dX7_menuSet_5 : decode cX7_menuSet 5 = .ok (.getfield 19, 3) := by decide +kernel
theorem dX7_menuSet_8 : decode cX7_menuSet 8 = .ok (.aload_n 0, 1) := by decide +kernel
theorem dX7_menuSet_9 : decode cX7_menuSet 9 = .ok (.getfield 19, 3) := by decide +kernel
theorem dX7_menuSet_12 : decode cX7_menuSet 12 = .ok (.getfield 143, 3) := by decide +kernel
theorem dX7_menuSet_15 : decode cX7_menuSet 15 = .ok (.iload_n 1, 1) := by decide +kernel
theorem dX7_menuSet_16 : decode cX7_menuSet 16 = .ok (.iaload, 1) := by decide +kernel
theorem dX7_menuSet_17 : decode cX7_menuSet 17 = .ok (.iload_n 2, 1) := by decide +kernel
theorem dX7_menuSet_18 : decode cX7_menuSet 18 = .ok (.iconst (-1), 1) := by decide +kernel
theorem dX7_menuSet_19 : decode cX7_menuSet 19 = .ok (.ixor, 1) := by decide +kernel
theorem dX7_menuSet_20 : decode cX7_menuSet 20 = .ok (.iand, 1) := by decide +kernel
theorem dX7_menuSet_21 : decode cX7_menuSet 21 = .ok (.aload_n 0, 1) := by decide +kernel
theorem dX7_menuSet_22 : decode cX7_menuSet 22 = .ok (.getfield 19, 3) := by decide +kernel
theorem dX7_menuSet_25 : decode cX7_menuSet 25 = .ok (.iload_n 1, 1) := by decide +kernel
theorem dX7_menuSet_26 : decode cX7_menuSet 26 = .ok (.invokevirtual 146, 3) := by decide +kernel
theorem dX7_menuSet_29 : decode cX7_menuSet 29 = .ok (.invokevirtual 403, 3) := by decide +kernel
theorem dX7_menuSet_32 : decode cX7_menuSet 32 = .ok (.ireturn, 1) := by decide +kernel
set_option maxRecDepth 4000 in
theorem kX7_menuSet (G : GT) {σ : St} {a1 : Int32} {a2 : Int32} : ∀ (r : Int32) (σo : St) , fX7_menuSet σ a1 a2 = some (r, σo) → MCt G 5 yX7_menuSet cX7_menuSet 3 (some .int) [.ref (gad G 0), .int a1, .int a2] σ (some (.int r)) σo := by
  intro r σo hF
  refine met_i (by decide) (Nat.le_of_ble_eq_true rfl) (fun X cx hE => ?_)
  have cx : Cx G X RX7 cX7_menuSet 3 5 := cx
  unfold fX7_menuSet at hF
  show WW G X 3 σ [(0, .ref (gad G 0)), (1, .int a1), (2, .int a2)] 0 []
  refine ww_aload_n cx dX7_menuSet_0 rfl 0 rfl ?_
  refine ww_V0_sr kv_X7_218 rfl cx sh_0 ⟨Nat.le_of_ble_eq_true rfl, Nat.le_of_ble_eq_true rfl⟩ (Nat.le_of_ble_eq_true rfl) dX7_menuSet_1 (kX7_freshProofs G) hF (fun σ1 hF => ?_)
  refine ww_aload_n cx dX7_menuSet_4 rfl 0 rfl ?_
  refine gf_X7_19 cx dX7_menuSet_5 ?_
  refine ww_aload_n cx dX7_menuSet_8 rfl 0 rfl ?_
  refine gf_X7_19 cx dX7_menuSet_9 ?_
  refine gf_X7_143 cx (isTab_3) dX7_menuSet_12 ?_
  refine ww_iload_n cx dX7_menuSet_15 rfl 1 rfl ?_
  refine ww_iald (N := 5) cx (ar_X6_13 isTab_3) dX7_menuSet_16 hF (fun hF => ?_)
  refine ww_iload_n cx dX7_menuSet_17 rfl 2 rfl ?_
  refine ww_iconst cx dX7_menuSet_18 ic_m1 ?_
  refine ww_ixor cx dX7_menuSet_19 ?_
  refine ww_iand cx dX7_menuSet_20 ?_
  refine ww_aload_n cx dX7_menuSet_21 rfl 0 rfl ?_
  refine gf_X7_19 cx dX7_menuSet_22 ?_
  refine ww_iload_n cx dX7_menuSet_25 rfl 1 rfl ?_
  refine ww_V1_pi kv_X7_146 rfl cx ((isTab_3).1) ⟨Nat.le_of_ble_eq_true rfl, Nat.le_of_ble_eq_true rfl⟩ (Nat.le_of_ble_eq_true rfl) dX7_menuSet_26 (kX6_canDo G (isTab_3)) hF (fun r2 hF => ?_)
  refine ww_V3_pi kv_X7_403 rfl cx ((isShe_49).1) ⟨Nat.le_of_ble_eq_true rfl, Nat.le_of_ble_eq_true rfl⟩ (Nat.le_of_ble_eq_true rfl) dX7_menuSet_29 (kX5_menuSet G (isShe_49) (isTab_3)) hF (fun r3 hF => ?_)
  exact ww_ris hE dX7_menuSet_32 hF
theorem dX7_proofs_0 : decode cX7_proofs 0 = .ok (.aload_n 0, 1) := by decide +kernel
theorem dX7_proofs_1 : decode cX7_proofs 1 = .ok (.getfield 19, 3) := by decide +kernel
theorem dX7_proofs_4 : decode cX7_proofs 4 = .ok (.iload_n 1, 1) := by decide +kernel
theorem dX7_proofs_5 : decode cX7_proofs 5 = .ok (.invokevirtual 101, 3) := by decide +kernel
theorem dX7_proofs_8 : decode cX7_proofs 8 = .ok (.ifCond .eq 21, 3) := by decide +kernel
theorem dX7_proofs_11 : decode cX7_proofs 11 = .ok (.aload_n 0, 1) := by decide +kernel
theorem dX7_proofs_12 : decode cX7_proofs 12 = .ok (.invokevirtual 218, 3) := by decide +kernel
theorem dX7_proofs_15 : decode cX7_proofs 15 = .ok (.aload_n 0, 1) := by decide +kernel
theorem dX7_proofs_16 : decode cX7_proofs 16 = .ok (.getfield 19, 3) := by decide +kernel
theorem dX7_proofs_19 : decode cX7_proofs 19 = .ok (.invokevirtual 222, 3) := by decide +kernel
theorem dX7_proofs_22 : decode cX7_proofs 22 = .ok (.iload_n 1, 1) := by decide +kernel
theorem dX7_proofs_23 : decode cX7_proofs 23 = .ok (.invokevirtual 225, 3) := by decide +kernel
theorem dX7_proofs_26 : decode cX7_proofs 26 = .ok (.goto 5, 3) := by decide +kernel
theorem dX7_proofs_29 : decode cX7_proofs 29 = .ok (.bipush (-2), 2) := by decide +kernel
theorem dX7_proofs_31 : decode cX7_proofs 31 = .ok (.ireturn, 1) := by decide +kernel
set_option maxRecDepth 4000 in
theorem kX7_proofs (G : GT) {σ : St} {a1 : Int32} : ∀ (r : Int32) (σo : St) , fX7_proofs σ a1 = some (r, σo) → MCt G 5 yX7_proofs cX7_proofs 2 (some .int) [.ref (gad G 0), .int a1] σ (some (.int r)) σo := by
  intro r σo hF
  refine met_i (by decide) (Nat.le_of_ble_eq_true rfl) (fun X cx hE => ?_)
  have cx : Cx G X RX7 cX7_proofs 2 5 := cx
  unfold fX7_proofs at hF
  show WW G X 2 σ [(0, .ref (gad G 0)), (1, .int a1)] 0 []
  refine ww_aload_n cx dX7_proofs_0 rfl 0 rfl ?_
  refine gf_X7_19 cx dX7_proofs_1 ?_
  refine ww_iload_n cx dX7_proofs_4 rfl 1 rfl ?_
  refine ww_V1_pi kv_X7_101 rfl cx ((isTab_3).1) ⟨Nat.le_of_ble_eq_true rfl, Nat.le_of_ble_eq_true rfl⟩ (Nat.le_of_ble_eq_true rfl) dX7_proofs_5 (kX6_hasClaim G (isTab_3)) hF (fun r1 hF => ?_)
  refine ww_if_eq cx dX7_proofs_8 (tgt := 29) rfl hF (fun hF => ?_) (fun hF => ?_)
  · refine ww_bipush cx dX7_proofs_29 bc_m2 ?_
    exact ww_ris hE dX7_proofs_31 hF
  · refine ww_aload_n cx dX7_proofs_11 rfl 0 rfl ?_
    refine ww_V0_sr kv_X7_218 rfl cx sh_0 ⟨Nat.le_of_ble_eq_true rfl, Nat.le_of_ble_eq_true rfl⟩ (Nat.le_of_ble_eq_true rfl) dX7_proofs_12 (kX7_freshProofs G) hF (fun σ2 hF => ?_)
    refine ww_aload_n cx dX7_proofs_15 rfl 0 rfl ?_
    refine gf_X7_19 cx dX7_proofs_16 ?_
    refine ww_V0_pi kv_X7_222 rfl cx ((isTab_3).1) ⟨Nat.le_of_ble_eq_true rfl, Nat.le_of_ble_eq_true rfl⟩ (Nat.le_of_ble_eq_true rfl) dX7_proofs_19 (kX6_allSteps G (isTab_3)) hF (fun r3 hF => ?_)
    refine ww_iload_n cx dX7_proofs_22 rfl 1 rfl ?_
    refine ww_V2_pi kv_X7_225 rfl cx ((isShe_49).1) ⟨Nat.le_of_ble_eq_true rfl, Nat.le_of_ble_eq_true rfl⟩ (Nat.le_of_ble_eq_true rfl) dX7_proofs_23 (kX5_countLeast G (isShe_49)) hF (fun r4 hF => ?_)
    refine ww_goto cx dX7_proofs_26 (tgt := 31) rfl ?_
    exact ww_ris hE dX7_proofs_31 hF
theorem dX7_provedByAll_0 : decode cX7_provedByAll 0 = .ok (.aload_n 0, 1) := by decide +kernel
theorem dX7_provedByAll_1 : decode cX7_provedByAll 1 = .ok (.invokevirtual 218, 3) := by decide +kernel
theorem dX7_provedByAll_4 : decode cX7_provedByAll 4 = .ok (.getfield 237, 3) := by decide +kernel
theorem dX7_provedByAll_7 : decode cX7_provedByAll 7 = .ok (.aload_n 0, 1) := by decide +kernel
theorem dX7_provedByAll_8 : decode cX7_provedByAll 8 = .ok (.getfield 19, 3) := by decide +kernel
theorem dX7_provedByAll_11 : decode cX7_provedByAll 11 = .ok (.invokevirtual 222, 3) := by decide +kernel
theorem dX7_provedByAll_14 : decode cX7_provedByAll 14 = .ok (.iaload, 1) := by decide +kernel
theorem dX7_provedByAll_15 : decode cX7_provedByAll 15 = .ok (.ireturn, 1) := by decide +kernel
set_option maxRecDepth 4000 in
theorem kX7_provedByAll (G : GT) {σ : St} : ∀ (r : Int32) (σo : St) , fX7_provedByAll σ = some (r, σo) → MCt G 5 yX7_provedByAll cX7_provedByAll 1 (some .int) [.ref (gad G 0)] σ (some (.int r)) σo := by
  intro r σo hF
  refine met_i (by decide) (Nat.le_of_ble_eq_true rfl) (fun X cx hE => ?_)
  have cx : Cx G X RX7 cX7_provedByAll 1 5 := cx
  unfold fX7_provedByAll at hF
  show WW G X 1 σ [(0, .ref (gad G 0))] 0 []
  refine ww_aload_n cx dX7_provedByAll_0 rfl 0 rfl ?_
  refine ww_V0_sr kv_X7_218 rfl cx sh_0 ⟨Nat.le_of_ble_eq_true rfl, Nat.le_of_ble_eq_true rfl⟩ (Nat.le_of_ble_eq_true rfl) dX7_provedByAll_1 (kX7_freshProofs G) hF (fun σ1 hF => ?_)
  refine gf_X7_237 cx (isShe_49) dX7_provedByAll_4 ?_
  refine ww_aload_n cx dX7_provedByAll_7 rfl 0 rfl ?_
  refine gf_X7_19 cx dX7_provedByAll_8 ?_
  refine ww_V0_pi kv_X7_222 rfl cx ((isTab_3).1) ⟨Nat.le_of_ble_eq_true rfl, Nat.le_of_ble_eq_true rfl⟩ (Nat.le_of_ble_eq_true rfl) dX7_provedByAll_11 (kX6_allSteps G (isTab_3)) hF (fun r2 hF => ?_)
  refine ww_iald (N := 4096) cx (ar_X5_0 isShe_49) dX7_provedByAll_14 hF (fun hF => ?_)
  exact ww_ris hE dX7_provedByAll_15 hF
theorem dX7_provedWithout_0 : decode cX7_provedWithout 0 = .ok (.aload_n 0, 1) := by decide +kernel
theorem dX7_provedWithout_1 : decode cX7_provedWithout 1 = .ok (.invokevirtual 218, 3) := by decide +kernel
theorem dX7_provedWithout_4 : decode cX7_provedWithout 4 = .ok (.getfield 237, 3) := by decide +kernel
theorem dX7_provedWithout_7 : decode cX7_provedWithout 7 = .ok (.aload_n 0, 1) := by decide +kernel
theorem dX7_provedWithout_8 : decode cX7_provedWithout 8 = .ok (.getfield 19, 3) := by decide +kernel
theorem dX7_provedWithout_11 : decode cX7_provedWithout 11 = .ok (.invokevirtual 222, 3) := by decide +kernel
theorem dX7_provedWithout_14 : decode cX7_provedWithout 14 = .ok (.iconst 1, 1) := by decide +kernel
theorem dX7_provedWithout_15 : decode cX7_provedWithout 15 = .ok (.iload_n 1, 1) := by decide +kernel
theorem dX7_provedWithout_16 : decode cX7_provedWithout 16 = .ok (.ishl, 1) := by decide +kernel
theorem dX7_provedWithout_17 : decode cX7_provedWithout 17 = .ok (.iconst (-1), 1) := by decide +kernel
theorem dX7_provedWithout_18 : decode cX7_provedWithout 18 = .ok (.ixor, 1) := by decide +kernel
theorem dX7_provedWithout_19 : decode cX7_provedWithout 19 = .ok (.iand, 1) := by decide +kernel
theorem dX7_provedWithout_20 : decode cX7_provedWithout 20 = .ok (.iaload, 1) := by decide +kernel
theorem dX7_provedWithout_21 : decode cX7_provedWithout 21 = .ok (.ireturn, 1) := by decide +kernel
set_option maxRecDepth 4000 in
theorem kX7_provedWithout (G : GT) {σ : St} {a1 : Int32} : ∀ (r : Int32) (σo : St) , fX7_provedWithout σ a1 = some (r, σo) → MCt G 5 yX7_provedWithout cX7_provedWithout 2 (some .int) [.ref (gad G 0), .int a1] σ (some (.int r)) σo := by
  intro r σo hF
  refine met_i (by decide) (Nat.le_of_ble_eq_true rfl) (fun X cx hE => ?_)
  have cx : Cx G X RX7 cX7_provedWithout 2 5 := cx
  unfold fX7_provedWithout at hF
  show WW G X 2 σ [(0, .ref (gad G 0)), (1, .int a1)] 0 []
  refine ww_aload_n cx dX7_provedWithout_0 rfl 0 rfl ?_
  refine ww_V0_sr kv_X7_218 rfl cx sh_0 ⟨Nat.le_of_ble_eq_true rfl, Nat.le_of_ble_eq_true rfl⟩ (Nat.le_of_ble_eq_true rfl) dX7_provedWithout_1 (kX7_freshProofs G) hF (fun σ1 hF => ?_)
  refine gf_X7_237 cx (isShe_49) dX7_provedWithout_4 ?_
  refine ww_aload_n cx dX7_provedWithout_7 rfl 0 rfl ?_
  refine gf_X7_19 cx dX7_provedWithout_8 ?_
  refine ww_V0_pi kv_X7_222 rfl cx ((isTab_3).1) ⟨Nat.le_of_ble_eq_true rfl, Nat.le_of_ble_eq_true rfl⟩ (Nat.le_of_ble_eq_true rfl) dX7_provedWithout_11 (kX6_allSteps G (isTab_3)) hF (fun r2 hF => ?_)
  refine ww_iconst cx dX7_provedWithout_14 ic_1 ?_
  refine ww_iload_n cx dX7_provedWithout_15 rfl 1 rfl ?_
  refine ww_ishl cx dX7_provedWithout_16 ?_
  refine ww_iconst cx dX7_provedWithout_17 ic_m1 ?_
  refine ww_ixor cx dX7_provedWithout_18 ?_
  refine ww_iand cx dX7_provedWithout_19 ?_
  refine ww_iald (N := 4096) cx (ar_X5_0 isShe_49) dX7_provedWithout_20 hF (fun hF => ?_)
  exact ww_ris hE dX7_provedWithout_21 hF
theorem dX7_shares_0 : decode cX7_shares 0 = .ok (.aload_n 0, 1) := by decide +kernel
theorem dX7_shares_1 : decode cX7_shares 1 = .ok (.getfield 19, 3) := by decide +kernel
theorem dX7_shares_4 : decode cX7_shares 4 = .ok (.iload_n 2, 1) := by decide +kernel
theorem dX7_shares_5 : decode cX7_shares 5 = .ok (.invokevirtual 101, 3) := by decide +kernel
theorem dX7_shares_8 : decode cX7_shares 8 = .ok (.ifCond .eq 11, 3) := by decide +kernel
theorem dX7_shares_11 : decode cX7_shares 11 = .ok (.aload_n 0, 1) := by decide +kernel
theorem dX7_shares_12 : decode cX7_shares 12 = .ok (.iload_n 1, 1) := by decide +kernel
theorem dX7_shares_13 : decode cX7_shares 13 = .ok (.invokevirtual 277, 3) := by decide +kernel
theorem dX7_shares_16 : decode cX7_shares 16 = .ok (.goto 5, 3) := by decide +kernel
theorem dX7_shares_19 : decode cX7_shares 19 = .ok (.bipush (-2), 2) := by decide +kernel
theorem dX7_shares_21 : decode cX7_shares 21 = .ok (.istore_n 3, 1) := by decide +kernel
theorem dX7_shares_22 : decode cX7_shares 22 = .ok (.iload_n 3, 1) := by decide +kernel
theorem dX7_shares_23 : decode cX7_shares 23 = .ok (.ifCond .eq 5, 3) := by decide +kernel
theorem dX7_shares_26 : decode cX7_shares 26 = .ok (.iload_n 3, 1) := by decide +kernel
theorem dX7_shares_27 : decode cX7_shares 27 = .ok (.ireturn, 1) := by decide +kernel
theorem dX7_shares_28 : decode cX7_shares 28 = .ok (.aload_n 0, 1) := by decide +kernel
theorem dX7_shares_29 : decode cX7_shares 29 = .ok (.getfield 65, 3) := by decide +kernel
theorem dX7_shares_32 : decode cX7_shares 32 = .ok (.aload_n 0, 1) := by decide +kernel
theorem dX7_shares_33 : decode cX7_shares 33 = .ok (.getfield 19, 3) := by decide +kernel
theorem dX7_shares_36 : decode cX7_shares 36 = .ok (.aload_n 0, 1) := by decide +kernel
theorem dX7_shares_37 : decode cX7_shares 37 = .ok (.getfield 36, 3) := by decide +kernel
theorem dX7_shares_40 : decode cX7_shares 40 = .ok (.iload_n 1, 1) := by decide +kernel
theorem dX7_shares_41 : decode cX7_shares 41 = .ok (.aaload, 1) := by decide +kernel
theorem dX7_shares_42 : decode cX7_shares 42 = .ok (.invokevirtual 280, 3) := by decide +kernel
theorem dX7_shares_45 : decode cX7_shares 45 = .ok (.aload_n 0, 1) := by decide +kernel
theorem dX7_shares_46 : decode cX7_shares 46 = .ok (.getfield 65, 3) := by decide +kernel
theorem dX7_shares_49 : decode cX7_shares 49 = .ok (.getfield 298, 3) := by decide +kernel
theorem dX7_shares_52 : decode cX7_shares 52 = .ok (.iload_n 2, 1) := by decide +kernel
theorem dX7_shares_53 : decode cX7_shares 53 = .ok (.iaload, 1) := by decide +kernel
theorem dX7_shares_54 : decode cX7_shares 54 = .ok (.ireturn, 1) := by decide +kernel
set_option maxRecDepth 4000 in
theorem kX7_shares (G : GT) {σ : St} {a1 : Int32} {a2 : Int32} : ∀ (r : Int32) (σo : St) , fX7_shares σ a1 a2 = some (r, σo) → MCt G 5 yX7_shares cX7_shares 4 (some .int) [.ref (gad G 0), .int a1, .int a2] σ (some (.int r)) σo := by
  intro r σo hF
  refine met_i (by decide) (Nat.le_of_ble_eq_true rfl) (fun X cx hE => ?_)
  have cx : Cx G X RX7 cX7_shares 4 5 := cx
  have hb21 : ∀ (σ : St) (x1 : Int32) (x2 : Int32) (y0 : Int32) , fX7_shares_b21 σ x1 x2 y0 = some (r, σo) → WW G X 4 σ [(0, .ref (gad G 0)), (1, .int x1), (2, .int x2)] 21 [.int y0] := by
    intro σ x1 x2 y0 hF
    unfold fX7_shares_b21 at hF
    refine ww_istore_n (ks := [0, 1, 2, 3]) (lv' := fun v1 => [(3, .int v1), (0, .ref (gad G 0)), (1, .int x1), (2, .int x2)]) cx dX7_shares_21 rfl (by decide) hF (fun _ => rfl) (fun v1 hF => ?_)
    refine ww_iload_n cx dX7_shares_22 rfl 0 rfl ?_
    refine ww_if_eq cx dX7_shares_23 (tgt := 28) rfl hF (fun hF => ?_) (fun hF => ?_)
    · refine ww_aload_n cx dX7_shares_28 rfl 1 rfl ?_
      refine gf_X7_65 cx dX7_shares_29 ?_
      refine ww_aload_n cx dX7_shares_32 rfl 1 rfl ?_
      refine gf_X7_19 cx dX7_shares_33 ?_
      refine ww_aload_n cx dX7_shares_36 rfl 1 rfl ?_
      refine gf_X7_36 cx dX7_shares_37 ?_
      refine ww_iload_n cx dX7_shares_40 rfl 2 rfl ?_
      refine ww_aaldR cx dX7_shares_41 hF (fun k2 hk2 hF => ?_)
      refine ww_V2_sv kv_X7_280 rfl cx sh_55 ⟨Nat.le_of_ble_eq_true rfl, Nat.le_of_ble_eq_true rfl⟩ (Nat.le_of_ble_eq_true rfl) dX7_shares_42 (kX1_cook G (isTab_3) (hk2)) hF (fun σ3 hF => ?_)
      refine ww_aload_n cx dX7_shares_45 rfl 1 rfl ?_
      refine gf_X7_65 cx dX7_shares_46 ?_
      refine gf_X7_298 cx dX7_shares_49 ?_
      refine ww_iload_n cx dX7_shares_52 rfl 3 rfl ?_
      refine ww_iald (N := 12) cx (sh_57) dX7_shares_53 hF (fun hF => ?_)
      exact ww_ris hE dX7_shares_54 hF
    · refine ww_iload_n cx dX7_shares_26 rfl 0 rfl ?_
      exact ww_ris hE dX7_shares_27 hF
  unfold fX7_shares at hF
  show WW G X 4 σ [(0, .ref (gad G 0)), (1, .int a1), (2, .int a2)] 0 []
  refine ww_aload_n cx dX7_shares_0 rfl 0 rfl ?_
  refine gf_X7_19 cx dX7_shares_1 ?_
  refine ww_iload_n cx dX7_shares_4 rfl 2 rfl ?_
  refine ww_V1_pi kv_X7_101 rfl cx ((isTab_3).1) ⟨Nat.le_of_ble_eq_true rfl, Nat.le_of_ble_eq_true rfl⟩ (Nat.le_of_ble_eq_true rfl) dX7_shares_5 (kX6_hasClaim G (isTab_3)) hF (fun r4 hF => ?_)
  refine ww_if_eq cx dX7_shares_8 (tgt := 19) rfl hF (fun hF => ?_) (fun hF => ?_)
  · refine ww_bipush cx dX7_shares_19 bc_m2 ?_
    exact hb21 _ _ _ _ hF
  · refine ww_aload_n cx dX7_shares_11 rfl 0 rfl ?_
    refine ww_iload_n cx dX7_shares_12 rfl 1 rfl ?_
    refine ww_V1_pi kv_X7_277 rfl cx sh_0 ⟨Nat.le_of_ble_eq_true rfl, Nat.le_of_ble_eq_true rfl⟩ (Nat.le_of_ble_eq_true rfl) dX7_shares_13 (kX7_refusalOfPairs G) hF (fun r5 hF => ?_)
    refine ww_goto cx dX7_shares_16 (tgt := 21) rfl ?_
    exact hb21 _ _ _ _ hF
theorem dX7_shortestSet_0 : decode cX7_shortestSet 0 = .ok (.aload_n 0, 1) := by decide +kernel
theorem dX7_shortestSet_1 : decode cX7_shortestSet 1 = .ok (.invokevirtual 218, 3) := by decide +kernel
theorem dX7_shortestSet_4 : decode cX7_shortestSet 4 = .ok (.aload_n 0, 1) := by decide +kernel
theorem dX7_shortestSet_5 : decode cX7_shortestSet 5 = .ok (.getfield 19, 3) := by decide +kernel
theorem dX7_shortestSet_8 : decode cX7_shortestSet 8 = .ok (.invokevirtual 222, 3) := by decide +kernel
theorem dX7_shortestSet_11 : decode cX7_shortestSet 11 = .ok (.iconst 1, 1) := by decide +kernel
theorem dX7_shortestSet_12 : decode cX7_shortestSet 12 = .ok (.iload_n 1, 1) := by decide +kernel
theorem dX7_shortestSet_13 : decode cX7_shortestSet 13 = .ok (.ishl, 1) := by decide +kernel
theorem dX7_shortestSet_14 : decode cX7_shortestSet 14 = .ok (.invokevirtual 243, 3) := by decide +kernel
theorem dX7_shortestSet_17 : decode cX7_shortestSet 17 = .ok (.ireturn, 1) := by decide +kernel
set_option maxRecDepth 4000 in
theorem kX7_shortestSet (G : GT) {σ : St} {a1 : Int32} : ∀ (r : Int32) (σo : St) , fX7_shortestSet σ a1 = some (r, σo) → MCt G 5 yX7_shortestSet cX7_shortestSet 2 (some .int) [.ref (gad G 0), .int a1] σ (some (.int r)) σo := by
  intro r σo hF
  refine met_i (by decide) (Nat.le_of_ble_eq_true rfl) (fun X cx hE => ?_)
  have cx : Cx G X RX7 cX7_shortestSet 2 5 := cx
  unfold fX7_shortestSet at hF
  show WW G X 2 σ [(0, .ref (gad G 0)), (1, .int a1)] 0 []
  refine ww_aload_n cx dX7_shortestSet_0 rfl 0 rfl ?_
  refine ww_V0_sr kv_X7_218 rfl cx sh_0 ⟨Nat.le_of_ble_eq_true rfl, Nat.le_of_ble_eq_true rfl⟩ (Nat.le_of_ble_eq_true rfl) dX7_shortestSet_1 (kX7_freshProofs G) hF (fun σ1 hF => ?_)
  refine ww_aload_n cx dX7_shortestSet_4 rfl 0 rfl ?_
  refine gf_X7_19 cx dX7_shortestSet_5 ?_
  refine ww_V0_pi kv_X7_222 rfl cx ((isTab_3).1) ⟨Nat.le_of_ble_eq_true rfl, Nat.le_of_ble_eq_true rfl⟩ (Nat.le_of_ble_eq_true rfl) dX7_shortestSet_8 (kX6_allSteps G (isTab_3)) hF (fun r2 hF => ?_)
  refine ww_iconst cx dX7_shortestSet_11 ic_1 ?_
  refine ww_iload_n cx dX7_shortestSet_12 rfl 1 rfl ?_
  refine ww_ishl cx dX7_shortestSet_13 ?_
  refine ww_V2_pi kv_X7_243 rfl cx ((isShe_49).1) ⟨Nat.le_of_ble_eq_true rfl, Nat.le_of_ble_eq_true rfl⟩ (Nat.le_of_ble_eq_true rfl) dX7_shortestSet_14 (kX5_leastSet G (isShe_49)) hF (fun r3 hF => ?_)
  exact ww_ris hE dX7_shortestSet_17 hF
theorem dX7_spare_0 : decode cX7_spare 0 = .ok (.aload_n 0, 1) := by decide +kernel
theorem dX7_spare_1 : decode cX7_spare 1 = .ok (.getfield 19, 3) := by decide +kernel
theorem dX7_spare_4 : decode cX7_spare 4 = .ok (.iload_n 1, 1) := by decide +kernel
theorem dX7_spare_5 : decode cX7_spare 5 = .ok (.invokevirtual 240, 3) := by decide +kernel
theorem dX7_spare_8 : decode cX7_spare 8 = .ok (.ifCond .eq 14, 3) := by decide +kernel
theorem dX7_spare_11 : decode cX7_spare 11 = .ok (.aload_n 0, 1) := by decide +kernel
theorem dX7_spare_12 : decode cX7_spare 12 = .ok (.iload_n 1, 1) := by decide +kernel
theorem dX7_spare_13 : decode cX7_spare 13 = .ok (.invokevirtual 326, 3) := by decide +kernel
theorem dX7_spare_16 : decode cX7_spare 16 = .ok (.invokestatic 211, 3) := by decide +kernel
theorem dX7_spare_19 : decode cX7_spare 19 = .ok (.goto 5, 3) := by decide +kernel
theorem dX7_spare_22 : decode cX7_spare 22 = .ok (.bipush (-2), 2) := by decide +kernel
theorem dX7_spare_24 : decode cX7_spare 24 = .ok (.ireturn, 1) := by decide +kernel
set_option maxRecDepth 4000 in
theorem kX7_spare (G : GT) {σ : St} {a1 : Int32} : ∀ (r : Int32) (σo : St) , fX7_spare σ a1 = some (r, σo) → MCt G 5 yX7_spare cX7_spare 2 (some .int) [.ref (gad G 0), .int a1] σ (some (.int r)) σo := by
  intro r σo hF
  refine met_i (by decide) (Nat.le_of_ble_eq_true rfl) (fun X cx hE => ?_)
  have cx : Cx G X RX7 cX7_spare 2 5 := cx
  unfold fX7_spare at hF
  show WW G X 2 σ [(0, .ref (gad G 0)), (1, .int a1)] 0 []
  refine ww_aload_n cx dX7_spare_0 rfl 0 rfl ?_
  refine gf_X7_19 cx dX7_spare_1 ?_
  refine ww_iload_n cx dX7_spare_4 rfl 1 rfl ?_
  refine ww_V1_pi kv_X7_240 rfl cx ((isTab_3).1) ⟨Nat.le_of_ble_eq_true rfl, Nat.le_of_ble_eq_true rfl⟩ (Nat.le_of_ble_eq_true rfl) dX7_spare_5 (kX6_isClaimSet G (isTab_3)) hF (fun r1 hF => ?_)
  refine ww_if_eq cx dX7_spare_8 (tgt := 22) rfl hF (fun hF => ?_) (fun hF => ?_)
  · refine ww_bipush cx dX7_spare_22 bc_m2 ?_
    exact ww_ris hE dX7_spare_24 hF
  · refine ww_aload_n cx dX7_spare_11 rfl 0 rfl ?_
    refine ww_iload_n cx dX7_spare_12 rfl 1 rfl ?_
    refine ww_V1_si kv_X7_326 rfl cx sh_0 ⟨Nat.le_of_ble_eq_true rfl, Nat.le_of_ble_eq_true rfl⟩ (Nat.le_of_ble_eq_true rfl) dX7_spare_13 (kX7_leastSaltFor G) hF (fun r2 σ3 hF => ?_)
    refine ww_S1_pi kv_X7_211 cx ⟨Nat.le_of_ble_eq_true rfl, Nat.le_of_ble_eq_true rfl⟩ (Nat.le_of_ble_eq_true rfl) dX7_spare_16 (kX7_sizeOrNone G) hF (fun r4 hF => ?_)
    refine ww_goto cx dX7_spare_19 (tgt := 24) rfl ?_
    exact ww_ris hE dX7_spare_24 hF
theorem dX7_spared_0 : decode cX7_spared 0 = .ok (.aload_n 0, 1) := by decide +kernel
theorem dX7_spared_1 : decode cX7_spared 1 = .ok (.getfield 19, 3) := by decide +kernel
theorem dX7_spared_4 : decode cX7_spared 4 = .ok (.iload_n 1, 1) := by decide +kernel
theorem dX7_spared_5 : decode cX7_spared 5 = .ok (.invokevirtual 240, 3) := by decide +kernel
theorem dX7_spared_8 : decode cX7_spared 8 = .ok (.ifCond .eq 11, 3) := by decide +kernel
theorem dX7_spared_11 : decode cX7_spared 11 = .ok (.aload_n 0, 1) := by decide +kernel
theorem dX7_spared_12 : decode cX7_spared 12 = .ok (.iload_n 1, 1) := by decide +kernel
theorem dX7_spared_13 : decode cX7_spared 13 = .ok (.invokevirtual 326, 3) := by decide +kernel
theorem dX7_spared_16 : decode cX7_spared 16 = .ok (.goto 5, 3) := by decide +kernel
theorem dX7_spared_19 : decode cX7_spared 19 = .ok (.bipush (-2), 2) := by decide +kernel
theorem dX7_spared_21 : decode cX7_spared 21 = .ok (.ireturn, 1) := by decide +kernel
set_option maxRecDepth 4000 in
theorem kX7_spared (G : GT) {σ : St} {a1 : Int32} : ∀ (r : Int32) (σo : St) , fX7_spared σ a1 = some (r, σo) → MCt G 5 yX7_spared cX7_spared 2 (some .int) [.ref (gad G 0), .int a1] σ (some (.int r)) σo := by
  intro r σo hF
  refine met_i (by decide) (Nat.le_of_ble_eq_true rfl) (fun X cx hE => ?_)
  have cx : Cx G X RX7 cX7_spared 2 5 := cx
  unfold fX7_spared at hF
  show WW G X 2 σ [(0, .ref (gad G 0)), (1, .int a1)] 0 []
  refine ww_aload_n cx dX7_spared_0 rfl 0 rfl ?_
  refine gf_X7_19 cx dX7_spared_1 ?_
  refine ww_iload_n cx dX7_spared_4 rfl 1 rfl ?_
  refine ww_V1_pi kv_X7_240 rfl cx ((isTab_3).1) ⟨Nat.le_of_ble_eq_true rfl, Nat.le_of_ble_eq_true rfl⟩ (Nat.le_of_ble_eq_true rfl) dX7_spared_5 (kX6_isClaimSet G (isTab_3)) hF (fun r1 hF => ?_)
  refine ww_if_eq cx dX7_spared_8 (tgt := 19) rfl hF (fun hF => ?_) (fun hF => ?_)
  · refine ww_bipush cx dX7_spared_19 bc_m2 ?_
    exact ww_ris hE dX7_spared_21 hF
  · refine ww_aload_n cx dX7_spared_11 rfl 0 rfl ?_
    refine ww_iload_n cx dX7_spared_12 rfl 1 rfl ?_
    refine ww_V1_si kv_X7_326 rfl cx sh_0 ⟨Nat.le_of_ble_eq_true rfl, Nat.le_of_ble_eq_true rfl⟩ (Nat.le_of_ble_eq_true rfl) dX7_spared_13 (kX7_leastSaltFor G) hF (fun r2 σ3 hF => ?_)
    refine ww_goto cx dX7_spared_16 (tgt := 21) rfl ?_
    exact ww_ris hE dX7_spared_21 hF
theorem dX7_takes_0 : decode cX7_takes 0 = .ok (.aload_n 0, 1) := by decide +kernel
theorem dX7_takes_1 : decode cX7_takes 1 = .ok (.getfield 19, 3) := by decide +kernel
theorem dX7_takes_4 : decode cX7_takes 4 = .ok (.iload_n 1, 1) := by decide +kernel
theorem dX7_takes_5 : decode cX7_takes 5 = .ok (.invokevirtual 137, 3) := by decide +kernel
theorem dX7_takes_8 : decode cX7_takes 8 = .ok (.ifCond .eq 14, 3) := by decide +kernel
theorem dX7_takes_11 : decode cX7_takes 11 = .ok (.aload_n 0, 1) := by decide +kernel
theorem dX7_takes_12 : decode cX7_takes 12 = .ok (.getfield 19, 3) := by decide +kernel
theorem dX7_takes_15 : decode cX7_takes 15 = .ok (.iload_n 2, 1) := by decide +kernel
theorem dX7_takes_16 : decode cX7_takes 16 = .ok (.invokevirtual 240, 3) := by decide +kernel
theorem dX7_takes_19 : decode cX7_takes 19 = .ok (.ifCond .ne 6, 3) := by decide +kernel
theorem dX7_takes_22 : decode cX7_takes 22 = .ok (.bipush (-2), 2) := by decide +kernel
theorem dX7_takes_24 : decode cX7_takes 24 = .ok (.ireturn, 1) := by decide +kernel
theorem dX7_takes_25 : decode cX7_takes 25 = .ok (.aload_n 0, 1) := by decide +kernel
theorem dX7_takes_26 : decode cX7_takes 26 = .ok (.invokevirtual 218, 3) := by decide +kernel
theorem dX7_takes_29 : decode cX7_takes 29 = .ok (.aload_n 0, 1) := by decide +kernel
theorem dX7_takes_30 : decode cX7_takes 30 = .ok (.getfield 19, 3) := by decide +kernel
theorem dX7_takes_33 : decode cX7_takes 33 = .ok (.getfield 143, 3) := by decide +kernel
theorem dX7_takes_36 : decode cX7_takes 36 = .ok (.iload_n 1, 1) := by decide +kernel
theorem dX7_takes_37 : decode cX7_takes 37 = .ok (.iaload, 1) := by decide +kernel
theorem dX7_takes_38 : decode cX7_takes 38 = .ok (.iload_n 2, 1) := by decide +kernel
theorem dX7_takes_39 : decode cX7_takes 39 = .ok (.invokevirtual 243, 3) := by decide +kernel
theorem dX7_takes_42 : decode cX7_takes 42 = .ok (.istore_n 3, 1) := by decide +kernel
theorem dX7_takes_43 : decode cX7_takes 43 = .ok (.iload_n 3, 1) := by decide +kernel
theorem dX7_takes_44 : decode cX7_takes 44 = .ok (.iconst (-1), 1) := by decide +kernel
theorem dX7_takes_45 : decode cX7_takes 45 = .ok (.if_icmp .ne 7, 3) := by decide +kernel
theorem dX7_takes_48 : decode cX7_takes 48 = .ok (.iconst (-1), 1) := by decide +kernel
theorem dX7_takes_49 : decode cX7_takes 49 = .ok (.goto 17, 3) := by decide +kernel
theorem dX7_takes_52 : decode cX7_takes 52 = .ok (.iload_n 3, 1) := by decide +kernel
theorem dX7_takes_53 : decode cX7_takes 53 = .ok (.invokestatic 115, 3) := by decide +kernel
theorem dX7_takes_56 : decode cX7_takes 56 = .ok (.aload_n 0, 1) := by decide +kernel
theorem dX7_takes_57 : decode cX7_takes 57 = .ok (.getfield 19, 3) := by decide +kernel
theorem dX7_takes_60 : decode cX7_takes 60 = .ok (.getfield 140, 3) := by decide +kernel
theorem dX7_takes_63 : decode cX7_takes 63 = .ok (.iload_n 1, 1) := by decide +kernel
theorem dX7_takes_64 : decode cX7_takes 64 = .ok (.iaload, 1) := by decide +kernel
theorem dX7_takes_65 : decode cX7_takes 65 = .ok (.imul, 1) := by decide +kernel
theorem dX7_takes_66 : decode cX7_takes 66 = .ok (.ireturn, 1) := by decide +kernel
set_option maxRecDepth 4000 in
theorem kX7_takes (G : GT) {σ : St} {a1 : Int32} {a2 : Int32} : ∀ (r : Int32) (σo : St) , fX7_takes σ a1 a2 = some (r, σo) → MCt G 5 yX7_takes cX7_takes 4 (some .int) [.ref (gad G 0), .int a1, .int a2] σ (some (.int r)) σo := by
  intro r σo hF
  refine met_i (by decide) (Nat.le_of_ble_eq_true rfl) (fun X cx hE => ?_)
  have cx : Cx G X RX7 cX7_takes 4 5 := cx
  unfold fX7_takes at hF
  show WW G X 4 σ [(0, .ref (gad G 0)), (1, .int a1), (2, .int a2)] 0 []
  refine ww_aload_n cx dX7_takes_0 rfl 0 rfl ?_
  refine gf_X7_19 cx dX7_takes_1 ?_
  refine ww_iload_n cx dX7_takes_4 rfl 1 rfl ?_
  refine ww_V1_pi kv_X7_137 rfl cx ((isTab_3).1) ⟨Nat.le_of_ble_eq_true rfl, Nat.le_of_ble_eq_true rfl⟩ (Nat.le_of_ble_eq_true rfl) dX7_takes_5 (kX6_hasGuest G (isTab_3)) hF (fun r1 hF => ?_)
  refine ww_if_eq cx dX7_takes_8 (tgt := 22) rfl hF (fun hF => ?_) (fun hF => ?_)
  · refine ww_bipush cx dX7_takes_22 bc_m2 ?_
    exact ww_ris hE dX7_takes_24 hF
  · refine ww_aload_n cx dX7_takes_11 rfl 0 rfl ?_
    refine gf_X7_19 cx dX7_takes_12 ?_
    refine ww_iload_n cx dX7_takes_15 rfl 2 rfl ?_
    refine ww_V1_pi kv_X7_240 rfl cx ((isTab_3).1) ⟨Nat.le_of_ble_eq_true rfl, Nat.le_of_ble_eq_true rfl⟩ (Nat.le_of_ble_eq_true rfl) dX7_takes_16 (kX6_isClaimSet G (isTab_3)) hF (fun r2 hF => ?_)
    refine ww_if_ne cx dX7_takes_19 (tgt := 25) rfl hF (fun hF => ?_) (fun hF => ?_)
    · refine ww_aload_n cx dX7_takes_25 rfl 0 rfl ?_
      refine ww_V0_sr kv_X7_218 rfl cx sh_0 ⟨Nat.le_of_ble_eq_true rfl, Nat.le_of_ble_eq_true rfl⟩ (Nat.le_of_ble_eq_true rfl) dX7_takes_26 (kX7_freshProofs G) hF (fun σ3 hF => ?_)
      refine ww_aload_n cx dX7_takes_29 rfl 0 rfl ?_
      refine gf_X7_19 cx dX7_takes_30 ?_
      refine gf_X7_143 cx (isTab_3) dX7_takes_33 ?_
      refine ww_iload_n cx dX7_takes_36 rfl 1 rfl ?_
      refine ww_iald (N := 5) cx (ar_X6_13 isTab_3) dX7_takes_37 hF (fun hF => ?_)
      refine ww_iload_n cx dX7_takes_38 rfl 2 rfl ?_
      refine ww_V2_pi kv_X7_243 rfl cx ((isShe_49).1) ⟨Nat.le_of_ble_eq_true rfl, Nat.le_of_ble_eq_true rfl⟩ (Nat.le_of_ble_eq_true rfl) dX7_takes_39 (kX5_leastSet G (isShe_49)) hF (fun r4 hF => ?_)
      refine ww_istore_n (ks := [0, 1, 2]) (lv' := fun v5 => [(3, .int v5), (0, .ref (gad G 0)), (1, .int a1)]) cx dX7_takes_42 rfl (by decide) hF (fun _ => rfl) (fun v5 hF => ?_)
      refine ww_iload_n cx dX7_takes_43 rfl 0 rfl ?_
      refine ww_iconst cx dX7_takes_44 ic_m1 ?_
      refine ww_icmp_ne cx dX7_takes_45 (tgt := 52) rfl hF (fun hF => ?_) (fun hF => ?_)
      · refine ww_iload_n cx dX7_takes_52 rfl 0 rfl ?_
        refine ww_S1_pi kv_X7_115 cx ⟨Nat.le_of_ble_eq_true rfl, Nat.le_of_ble_eq_true rfl⟩ (Nat.le_of_ble_eq_true rfl) dX7_takes_53 (kJ6_bitCount_0f7a4 G) hF (fun r6 hF => ?_)
        refine ww_aload_n cx dX7_takes_56 rfl 1 rfl ?_
        refine gf_X7_19 cx dX7_takes_57 ?_
        refine gf_X7_140 cx (isTab_3) dX7_takes_60 ?_
        refine ww_iload_n cx dX7_takes_63 rfl 2 rfl ?_
        refine ww_iald (N := 5) cx (ar_X6_12 isTab_3) dX7_takes_64 hF (fun hF => ?_)
        refine ww_imul cx dX7_takes_65 ?_
        exact ww_ris hE dX7_takes_66 hF
      · refine ww_iconst cx dX7_takes_48 ic_m1 ?_
        refine ww_goto cx dX7_takes_49 (tgt := 66) rfl ?_
        exact ww_ris hE dX7_takes_66 hF
    · refine ww_bipush cx dX7_takes_22 bc_m2 ?_
      exact ww_ris hE dX7_takes_24 hF
theorem dX7_when_0 : decode cX7_when 0 = .ok (.aload_n 0, 1) := by decide +kernel
theorem dX7_when_1 : decode cX7_when 1 = .ok (.getfield 19, 3) := by decide +kernel
theorem dX7_when_4 : decode cX7_when 4 = .ok (.iload_n 2, 1) := by decide +kernel
theorem dX7_when_5 : decode cX7_when 5 = .ok (.invokevirtual 101, 3) := by decide +kernel
theorem dX7_when_8 : decode cX7_when 8 = .ok (.ifCond .eq 11, 3) := by decide +kernel
theorem dX7_when_11 : decode cX7_when 11 = .ok (.aload_n 0, 1) := by decide +kernel
theorem dX7_when_12 : decode cX7_when 12 = .ok (.iload_n 1, 1) := by decide +kernel
theorem dX7_when_13 : decode cX7_when 13 = .ok (.invokevirtual 277, 3) := by decide +kernel
theorem dX7_when_16 : decode cX7_when 16 = .ok (.goto 5, 3) := by decide +kernel
theorem dX7_when_19 : decode cX7_when 19 = .ok (.bipush (-2), 2) := by decide +kernel
theorem dX7_when_21 : decode cX7_when 21 = .ok (.istore_n 3, 1) := by decide +kernel
theorem dX7_when_22 : decode cX7_when 22 = .ok (.iload_n 3, 1) := by decide +kernel
theorem dX7_when_23 : decode cX7_when 23 = .ok (.ifCond .eq 5, 3) := by decide +kernel
theorem dX7_when_26 : decode cX7_when 26 = .ok (.iload_n 3, 1) := by decide +kernel
theorem dX7_when_27 : decode cX7_when 27 = .ok (.ireturn, 1) := by decide +kernel
theorem dX7_when_28 : decode cX7_when 28 = .ok (.aload_n 0, 1) := by decide +kernel
theorem dX7_when_29 : decode cX7_when 29 = .ok (.getfield 65, 3) := by decide +kernel
theorem dX7_when_32 : decode cX7_when 32 = .ok (.aload_n 0, 1) := by decide +kernel
theorem dX7_when_33 : decode cX7_when 33 = .ok (.getfield 19, 3) := by decide +kernel
theorem dX7_when_36 : decode cX7_when 36 = .ok (.aload_n 0, 1) := by decide +kernel
theorem dX7_when_37 : decode cX7_when 37 = .ok (.getfield 36, 3) := by decide +kernel
theorem dX7_when_40 : decode cX7_when 40 = .ok (.iload_n 1, 1) := by decide +kernel
theorem dX7_when_41 : decode cX7_when 41 = .ok (.aaload, 1) := by decide +kernel
theorem dX7_when_42 : decode cX7_when 42 = .ok (.invokevirtual 280, 3) := by decide +kernel
theorem dX7_when_45 : decode cX7_when 45 = .ok (.aload_n 0, 1) := by decide +kernel
theorem dX7_when_46 : decode cX7_when 46 = .ok (.getfield 65, 3) := by decide +kernel
theorem dX7_when_49 : decode cX7_when 49 = .ok (.getfield 295, 3) := by decide +kernel
theorem dX7_when_52 : decode cX7_when 52 = .ok (.iload_n 2, 1) := by decide +kernel
theorem dX7_when_53 : decode cX7_when 53 = .ok (.iaload, 1) := by decide +kernel
theorem dX7_when_54 : decode cX7_when 54 = .ok (.ireturn, 1) := by decide +kernel
set_option maxRecDepth 4000 in
theorem kX7_when (G : GT) {σ : St} {a1 : Int32} {a2 : Int32} : ∀ (r : Int32) (σo : St) , fX7_when σ a1 a2 = some (r, σo) → MCt G 5 yX7_when cX7_when 4 (some .int) [.ref (gad G 0), .int a1, .int a2] σ (some (.int r)) σo := by
  intro r σo hF
  refine met_i (by decide) (Nat.le_of_ble_eq_true rfl) (fun X cx hE => ?_)
  have cx : Cx G X RX7 cX7_when 4 5 := cx
  have hb21 : ∀ (σ : St) (x1 : Int32) (x2 : Int32) (y0 : Int32) , fX7_when_b21 σ x1 x2 y0 = some (r, σo) → WW G X 4 σ [(0, .ref (gad G 0)), (1, .int x1), (2, .int x2)] 21 [.int y0] := by
    intro σ x1 x2 y0 hF
    unfold fX7_when_b21 at hF
    refine ww_istore_n (ks := [0, 1, 2, 3]) (lv' := fun v1 => [(3, .int v1), (0, .ref (gad G 0)), (1, .int x1), (2, .int x2)]) cx dX7_when_21 rfl (by decide) hF (fun _ => rfl) (fun v1 hF => ?_)
    refine ww_iload_n cx dX7_when_22 rfl 0 rfl ?_
    refine ww_if_eq cx dX7_when_23 (tgt := 28) rfl hF (fun hF => ?_) (fun hF => ?_)
    · refine ww_aload_n cx dX7_when_28 rfl 1 rfl ?_
      refine gf_X7_65 cx dX7_when_29 ?_
      refine ww_aload_n cx dX7_when_32 rfl 1 rfl ?_
      refine gf_X7_19 cx dX7_when_33 ?_
      refine ww_aload_n cx dX7_when_36 rfl 1 rfl ?_
      refine gf_X7_36 cx dX7_when_37 ?_
      refine ww_iload_n cx dX7_when_40 rfl 2 rfl ?_
      refine ww_aaldR cx dX7_when_41 hF (fun k2 hk2 hF => ?_)
      refine ww_V2_sv kv_X7_280 rfl cx sh_55 ⟨Nat.le_of_ble_eq_true rfl, Nat.le_of_ble_eq_true rfl⟩ (Nat.le_of_ble_eq_true rfl) dX7_when_42 (kX1_cook G (isTab_3) (hk2)) hF (fun σ3 hF => ?_)
      refine ww_aload_n cx dX7_when_45 rfl 1 rfl ?_
      refine gf_X7_65 cx dX7_when_46 ?_
      refine gf_X7_295 cx dX7_when_49 ?_
      refine ww_iload_n cx dX7_when_52 rfl 3 rfl ?_
      refine ww_iald (N := 12) cx (sh_56) dX7_when_53 hF (fun hF => ?_)
      exact ww_ris hE dX7_when_54 hF
    · refine ww_iload_n cx dX7_when_26 rfl 0 rfl ?_
      exact ww_ris hE dX7_when_27 hF
  unfold fX7_when at hF
  show WW G X 4 σ [(0, .ref (gad G 0)), (1, .int a1), (2, .int a2)] 0 []
  refine ww_aload_n cx dX7_when_0 rfl 0 rfl ?_
  refine gf_X7_19 cx dX7_when_1 ?_
  refine ww_iload_n cx dX7_when_4 rfl 2 rfl ?_
  refine ww_V1_pi kv_X7_101 rfl cx ((isTab_3).1) ⟨Nat.le_of_ble_eq_true rfl, Nat.le_of_ble_eq_true rfl⟩ (Nat.le_of_ble_eq_true rfl) dX7_when_5 (kX6_hasClaim G (isTab_3)) hF (fun r4 hF => ?_)
  refine ww_if_eq cx dX7_when_8 (tgt := 19) rfl hF (fun hF => ?_) (fun hF => ?_)
  · refine ww_bipush cx dX7_when_19 bc_m2 ?_
    exact hb21 _ _ _ _ hF
  · refine ww_aload_n cx dX7_when_11 rfl 0 rfl ?_
    refine ww_iload_n cx dX7_when_12 rfl 1 rfl ?_
    refine ww_V1_pi kv_X7_277 rfl cx sh_0 ⟨Nat.le_of_ble_eq_true rfl, Nat.le_of_ble_eq_true rfl⟩ (Nat.le_of_ble_eq_true rfl) dX7_when_13 (kX7_refusalOfPairs G) hF (fun r5 hF => ?_)
    refine ww_goto cx dX7_when_16 (tgt := 21) rfl ?_
    exact hb21 _ _ _ _ hF
theorem dX2_isWord_0 : decode cX2_isWord 0 = .ok (.aload_n 0, 1) := by decide +kernel
theorem dX2_isWord_1 : decode cX2_isWord 1 = .ok (.getfield 36, 3) := by decide +kernel
theorem dX2_isWord_4 : decode cX2_isWord 4 = .ok (.iconst 1, 1) := by decide +kernel
theorem dX2_isWord_5 : decode cX2_isWord 5 = .ok (.if_icmp .ne 19, 3) := by decide +kernel
theorem dX2_isWord_8 : decode cX2_isWord 8 = .ok (.aload_n 0, 1) := by decide +kernel
theorem dX2_isWord_9 : decode cX2_isWord 9 = .ok (.getfield 30, 3) := by decide +kernel
theorem dX2_isWord_12 : decode cX2_isWord 12 = .ok (.aload_n 0, 1) := by decide +kernel
theorem dX2_isWord_13 : decode cX2_isWord 13 = .ok (.getfield 177, 3) := by decide +kernel
theorem dX2_isWord_16 : decode cX2_isWord 16 = .ok (.isub, 1) := by decide +kernel
theorem dX2_isWord_17 : decode cX2_isWord 17 = .ok (.aload_n 1, 1) := by decide +kernel
theorem dX2_isWord_18 : decode cX2_isWord 18 = .ok (.invokevirtual 191, 3) := by decide +kernel
theorem dX2_isWord_21 : decode cX2_isWord 21 = .ok (.if_icmp .eq 5, 3) := by decide +kernel
theorem dX2_isWord_24 : decode cX2_isWord 24 = .ok (.iconst 0, 1) := by decide +kernel
theorem dX2_isWord_25 : decode cX2_isWord 25 = .ok (.ireturn, 1) := by decide +kernel
theorem dX2_isWord_26 : decode cX2_isWord 26 = .ok (.iconst 0, 1) := by decide +kernel
theorem dX2_isWord_27 : decode cX2_isWord 27 = .ok (.istore_n 2, 1) := by decide +kernel
theorem dX2_isWord_28 : decode cX2_isWord 28 = .ok (.iload_n 2, 1) := by decide +kernel
theorem dX2_isWord_29 : decode cX2_isWord 29 = .ok (.aload_n 1, 1) := by decide +kernel
theorem dX2_isWord_30 : decode cX2_isWord 30 = .ok (.invokevirtual 191, 3) := by decide +kernel
theorem dX2_isWord_33 : decode cX2_isWord 33 = .ok (.if_icmp .ge 30, 3) := by decide +kernel
theorem dX2_isWord_36 : decode cX2_isWord 36 = .ok (.aload_n 0, 1) := by decide +kernel
theorem dX2_isWord_37 : decode cX2_isWord 37 = .ok (.getfield 9, 3) := by decide +kernel
theorem dX2_isWord_40 : decode cX2_isWord 40 = .ok (.aload_n 0, 1) := by decide +kernel
theorem dX2_isWord_41 : decode cX2_isWord 41 = .ok (.getfield 177, 3) := by decide +kernel
theorem dX2_isWord_44 : decode cX2_isWord 44 = .ok (.iload_n 2, 1) := by decide +kernel
theorem dX2_isWord_45 : decode cX2_isWord 45 = .ok (.iadd, 1) := by decide +kernel
theorem dX2_isWord_46 : decode cX2_isWord 46 = .ok (.baload, 1) := by decide +kernel
theorem dX2_isWord_47 : decode cX2_isWord 47 = .ok (.aload_n 1, 1) := by decide +kernel
theorem dX2_isWord_48 : decode cX2_isWord 48 = .ok (.iload_n 2, 1) := by decide +kernel
theorem dX2_isWord_49 : decode cX2_isWord 49 = .ok (.invokevirtual 195, 3) := by decide +kernel
theorem dX2_isWord_52 : decode cX2_isWord 52 = .ok (.if_icmp .eq 5, 3) := by decide +kernel
theorem dX2_isWord_55 : decode cX2_isWord 55 = .ok (.iconst 0, 1) := by decide +kernel
theorem dX2_isWord_56 : decode cX2_isWord 56 = .ok (.ireturn, 1) := by decide +kernel
theorem dX2_isWord_57 : decode cX2_isWord 57 = .ok (.iinc 2 1, 3) := by decide +kernel
theorem dX2_isWord_60 : decode cX2_isWord 60 = .ok (.goto (-32), 3) := by decide +kernel
theorem dX2_isWord_63 : decode cX2_isWord 63 = .ok (.iconst 1, 1) := by decide +kernel
theorem dX2_isWord_64 : decode cX2_isWord 64 = .ok (.ireturn, 1) := by decide +kernel
set_option maxRecDepth 4000 in
theorem kX2_isWord (G : GT) {σ : St} {w : Nat} (hw : w < 18) : ∀ (r : Int32) , fX2_isWord σ w = some r → MCt G 5 yX2_isWord cX2_isWord 3 (some .boolean) [.ref (gad G 1), .ref (gsk G w)] σ (some (.int r)) σ := by
  intro r hF
  refine met_zz (by decide) (Nat.le_of_ble_eq_true rfl) (fun X cx hE => ?_)
  have cx : Cx G X RX2 cX2_isWord 3 5 := cx
  have hl28 : ∀ n : Nat, ∀ (x2 : Int32) , fX2_isWord_l28 σ w n x2 = some r → WW G X 3 σ [(0, .ref (gad G 1)), (1, .ref (gsk G w)), (2, .int x2)] 28 [] := by
    intro n
    induction n with
    | zero =>
      intro x2 hF
      exact absurd hF (by intro z; cases z)
    | succ n ih =>
      intro x2 hF
      have hk28 := ih
      have hF : fX2_isWord_B28 σ w (fX2_isWord_l28 σ w n) x2 = some r := hF
      unfold fX2_isWord_B28 at hF
      refine ww_iload_n cx dX2_isWord_28 rfl 2 rfl ?_
      refine ww_aload_n cx dX2_isWord_29 rfl 1 rfl ?_
      refine ww_slen cx kv_X2_191 hw (by decide) (Nat.le_of_ble_eq_true rfl) dX2_isWord_30 ?_
      refine ww_icmp_ge cx dX2_isWord_33 (tgt := 63) rfl hF (fun hF => ?_) (fun hF => ?_)
      · refine ww_iconst cx dX2_isWord_63 ic_1 ?_
        exact ww_rzp hE dX2_isWord_64 hF
      · refine ww_aload_n cx dX2_isWord_36 rfl 0 rfl ?_
        refine gf_X2_9 cx dX2_isWord_37 ?_
        refine ww_aload_n cx dX2_isWord_40 rfl 0 rfl ?_
        refine gf_X2_177 cx dX2_isWord_41 ?_
        refine ww_iload_n cx dX2_isWord_44 rfl 2 rfl ?_
        refine ww_iadd cx dX2_isWord_45 ?_
        refine ww_bald (N := 1600) cx (sh_2) dX2_isWord_46 hF (fun hF => ?_)
        refine ww_aload_n cx dX2_isWord_47 rfl 1 rfl ?_
        refine ww_iload_n cx dX2_isWord_48 rfl 2 rfl ?_
        refine ww_scha cx kv_X2_195 hw (by decide) (Nat.le_of_ble_eq_true rfl) dX2_isWord_49 hF (fun hF => ?_)
        refine ww_icmp_eq cx dX2_isWord_52 (tgt := 57) rfl hF (fun hF => ?_) (fun hF => ?_)
        · refine ww_iinc (j := 2) (ks := [0, 1, 2]) (lv' := fun v3 => [(2, .int v3), (0, .ref (gad G 1)), (1, .ref (gsk G w))]) cx dX2_isWord_57 (by decide) rfl ic_1 hF (fun _ => rfl) (fun v3 hF => ?_)
          refine ww_goto cx dX2_isWord_60 (tgt := 28) rfl ?_
          exact ww_sub [1, 2, 0] rfl (hk28 _ hF)
        · refine ww_iconst cx dX2_isWord_55 ic_0 ?_
          exact ww_rzp hE dX2_isWord_56 hF
  unfold fX2_isWord at hF
  show WW G X 3 σ [(0, .ref (gad G 1)), (1, .ref (gsk G w))] 0 []
  refine ww_aload_n cx dX2_isWord_0 rfl 0 rfl ?_
  refine gf_X2_36 cx dX2_isWord_1 ?_
  refine ww_iconst cx dX2_isWord_4 ic_1 ?_
  refine ww_icmp_ne cx dX2_isWord_5 (tgt := 24) rfl hF (fun hF => ?_) (fun hF => ?_)
  · refine ww_iconst cx dX2_isWord_24 ic_0 ?_
    exact ww_rzp hE dX2_isWord_25 hF
  · refine ww_aload_n cx dX2_isWord_8 rfl 0 rfl ?_
    refine gf_X2_30 cx dX2_isWord_9 ?_
    refine ww_aload_n cx dX2_isWord_12 rfl 0 rfl ?_
    refine gf_X2_177 cx dX2_isWord_13 ?_
    refine ww_isub cx dX2_isWord_16 ?_
    refine ww_aload_n cx dX2_isWord_17 rfl 1 rfl ?_
    refine ww_slen cx kv_X2_191 hw (by decide) (Nat.le_of_ble_eq_true rfl) dX2_isWord_18 ?_
    refine ww_icmp_eq cx dX2_isWord_21 (tgt := 26) rfl hF (fun hF => ?_) (fun hF => ?_)
    · refine ww_iconst cx dX2_isWord_26 ic_0 ?_
      refine ww_istore_n (ks := [0, 1, 2]) (lv' := fun v5 => [(2, .int v5), (0, .ref (gad G 1)), (1, .ref (gsk G w))]) cx dX2_isWord_27 rfl (by decide) hF (fun _ => rfl) (fun v5 hF => ?_)
      exact ww_sub [1, 2, 0] rfl (hl28 FU _ hF)
    · refine ww_iconst cx dX2_isWord_24 ic_0 ?_
      exact ww_rzp hE dX2_isWord_25 hF
theorem dX8_canProve_0 : decode cX8_canProve 0 = .ok (.aload_n 0, 1) := by decide +kernel
theorem dX8_canProve_1 : decode cX8_canProve 1 = .ok (.aload_n 0, 1) := by decide +kernel
theorem dX8_canProve_2 : decode cX8_canProve 2 = .ok (.invokevirtual 257, 3) := by decide +kernel
theorem dX8_canProve_5 : decode cX8_canProve 5 = .ok (.aload_n 0, 1) := by decide +kernel
theorem dX8_canProve_6 : decode cX8_canProve 6 = .ok (.iload_n 1, 1) := by decide +kernel
theorem dX8_canProve_7 : decode cX8_canProve 7 = .ok (.iconst 1, 1) := by decide +kernel
theorem dX8_canProve_8 : decode cX8_canProve 8 = .ok (.invokevirtual 282, 3) := by decide +kernel
theorem dX8_canProve_11 : decode cX8_canProve 11 = .ok (.iload_n 2, 1) := by decide +kernel
theorem dX8_canProve_12 : decode cX8_canProve 12 = .ok (.invokevirtual 339, 3) := by decide +kernel
theorem dX8_canProve_15 : decode cX8_canProve 15 = .ok (.istore_n 3, 1) := by decide +kernel
theorem dX8_canProve_16 : decode cX8_canProve 16 = .ok (.iload_n 3, 1) := by decide +kernel
theorem dX8_canProve_17 : decode cX8_canProve 17 = .ok (.iconst (-1), 1) := by decide +kernel
theorem dX8_canProve_18 : decode cX8_canProve 18 = .ok (.if_icmp .eq 19, 3) := by decide +kernel
theorem dX8_canProve_21 : decode cX8_canProve 21 = .ok (.iload_n 3, 1) := by decide +kernel
theorem dX8_canProve_22 : decode cX8_canProve 22 = .ok (.invokestatic 273, 3) := by decide +kernel
theorem dX8_canProve_25 : decode cX8_canProve 25 = .ok (.aload_n 0, 1) := by decide +kernel
theorem dX8_canProve_26 : decode cX8_canProve 26 = .ok (.iload_n 1, 1) := by decide +kernel
theorem dX8_canProve_27 : decode cX8_canProve 27 = .ok (.invokevirtual 288, 3) := by decide +kernel
theorem dX8_canProve_30 : decode cX8_canProve 30 = .ok (.if_icmp .gt 7, 3) := by decide +kernel
theorem dX8_canProve_33 : decode cX8_canProve 33 = .ok (.iconst 1, 1) := by decide +kernel
theorem dX8_canProve_34 : decode cX8_canProve 34 = .ok (.goto 4, 3) := by decide +kernel
theorem dX8_canProve_37 : decode cX8_canProve 37 = .ok (.iconst 0, 1) := by decide +kernel
theorem dX8_canProve_38 : decode cX8_canProve 38 = .ok (.ireturn, 1) := by decide +kernel
set_option maxRecDepth 4000 in
theorem kX8_canProve (G : GT) {σ : St} {a1 : Int32} {a2 : Int32} : ∀ (r : Int32) , fX8_canProve σ a1 a2 = some r → MCt G 5 yX8_canProve cX8_canProve 4 (some .boolean) [.ref (gad G 62), .int a1, .int a2] σ (some (.int r)) σ := by
  intro r hF
  refine met_zz (by decide) (Nat.le_of_ble_eq_true rfl) (fun X cx hE => ?_)
  have cx : Cx G X RX8 cX8_canProve 4 5 := cx
  unfold fX8_canProve at hF
  show WW G X 4 σ [(0, .ref (gad G 62)), (1, .int a1), (2, .int a2)] 0 []
  refine ww_aload_n cx dX8_canProve_0 rfl 0 rfl ?_
  refine ww_aload_n cx dX8_canProve_1 rfl 0 rfl ?_
  refine ww_V0_pi kv_X8_257 rfl cx sh_62 ⟨Nat.le_of_ble_eq_true rfl, Nat.le_of_ble_eq_true rfl⟩ (Nat.le_of_ble_eq_true rfl) dX8_canProve_2 (kX8_saltNow G) hF (fun r1 hF => ?_)
  refine ww_aload_n cx dX8_canProve_5 rfl 0 rfl ?_
  refine ww_iload_n cx dX8_canProve_6 rfl 1 rfl ?_
  refine ww_iconst cx dX8_canProve_7 ic_1 ?_
  refine ww_V2_pi kv_X8_282 rfl cx sh_62 ⟨Nat.le_of_ble_eq_true rfl, Nat.le_of_ble_eq_true rfl⟩ (Nat.le_of_ble_eq_true rfl) dX8_canProve_8 (kX8_ofGuest G) hF (fun r2 hF => ?_)
  refine ww_iload_n cx dX8_canProve_11 rfl 2 rfl ?_
  refine ww_V3_pi kv_X8_339 rfl cx sh_62 ⟨Nat.le_of_ble_eq_true rfl, Nat.le_of_ble_eq_true rfl⟩ (Nat.le_of_ble_eq_true rfl) dX8_canProve_12 (kX8_fewestSteps G) hF (fun r3 hF => ?_)
  refine ww_istore_n (ks := [0, 1, 2]) (lv' := fun v4 => [(3, .int v4), (0, .ref (gad G 62)), (1, .int a1)]) cx dX8_canProve_15 rfl (by decide) hF (fun _ => rfl) (fun v4 hF => ?_)
  refine ww_iload_n cx dX8_canProve_16 rfl 0 rfl ?_
  refine ww_iconst cx dX8_canProve_17 ic_m1 ?_
  refine ww_icmp_eq cx dX8_canProve_18 (tgt := 37) rfl hF (fun hF => ?_) (fun hF => ?_)
  · refine ww_iconst cx dX8_canProve_37 ic_0 ?_
    exact ww_rzp hE dX8_canProve_38 hF
  · refine ww_iload_n cx dX8_canProve_21 rfl 0 rfl ?_
    refine ww_S1_pi kv_X8_273 cx ⟨Nat.le_of_ble_eq_true rfl, Nat.le_of_ble_eq_true rfl⟩ (Nat.le_of_ble_eq_true rfl) dX8_canProve_22 (kX8_bits G) hF (fun r5 hF => ?_)
    refine ww_aload_n cx dX8_canProve_25 rfl 1 rfl ?_
    refine ww_iload_n cx dX8_canProve_26 rfl 2 rfl ?_
    refine ww_V1_pi kv_X8_288 rfl cx sh_62 ⟨Nat.le_of_ble_eq_true rfl, Nat.le_of_ble_eq_true rfl⟩ (Nat.le_of_ble_eq_true rfl) dX8_canProve_27 (kX8_canDo G) hF (fun r6 hF => ?_)
    refine ww_icmp_gt cx dX8_canProve_30 (tgt := 37) rfl hF (fun hF => ?_) (fun hF => ?_)
    · refine ww_iconst cx dX8_canProve_37 ic_0 ?_
      exact ww_rzp hE dX8_canProve_38 hF
    · refine ww_iconst cx dX8_canProve_33 ic_1 ?_
      refine ww_goto cx dX8_canProve_34 (tgt := 38) rfl ?_
      exact ww_rzp hE dX8_canProve_38 hF
theorem dX8_canTogether_0 : decode cX8_canTogether 0 = .ok (.iconst 0, 1) := by decide +kernel
theorem dX8_canTogether_1 : decode cX8_canTogether 1 = .ok (.istore_n 3, 1) := by decide +kernel
theorem dX8_canTogether_2 : decode cX8_canTogether 2 = .ok (.iconst 0, 1) := by decide +kernel
theorem dX8_canTogether_3 : decode cX8_canTogether 3 = .ok (.istore 4, 2) := by decide +kernel
theorem dX8_canTogether_5 : decode cX8_canTogether 5 = .ok (.iload 4, 2) := by decide +kernel
theorem dX8_canTogether_7 : decode cX8_canTogether 7 = .ok (.aload_n 0, 1) := by decide +kernel
theorem dX8_canTogether_8 : decode cX8_canTogether 8 = .ok (.getfield 9, 3) := by decide +kernel
theorem dX8_canTogether_11 : decode cX8_canTogether 11 = .ok (.iconst 5, 1) := by decide +kernel
theorem dX8_canTogether_12 : decode cX8_canTogether 12 = .ok (.iaload, 1) := by decide +kernel
theorem dX8_canTogether_13 : decode cX8_canTogether 13 = .ok (.if_icmp .ge 33, 3) := by decide +kernel
theorem dX8_canTogether_16 : decode cX8_canTogether 16 = .ok (.iload_n 3, 1) := by decide +kernel
theorem dX8_canTogether_17 : decode cX8_canTogether 17 = .ok (.iload_n 1, 1) := by decide +kernel
theorem dX8_canTogether_18 : decode cX8_canTogether 18 = .ok (.iload 4, 2) := by decide +kernel
theorem dX8_canTogether_20 : decode cX8_canTogether 20 = .ok (.invokestatic 168, 3) := by decide +kernel
theorem dX8_canTogether_23 : decode cX8_canTogether 23 = .ok (.iconst 1, 1) := by decide +kernel
theorem dX8_canTogether_24 : decode cX8_canTogether 24 = .ok (.if_icmp .ne 13, 3) := by decide +kernel
theorem dX8_canTogether_27 : decode cX8_canTogether 27 = .ok (.aload_n 0, 1) := by decide +kernel
theorem dX8_canTogether_28 : decode cX8_canTogether 28 = .ok (.iload 4, 2) := by decide +kernel
theorem dX8_canTogether_30 : decode cX8_canTogether 30 = .ok (.iconst 1, 1) := by decide +kernel
theorem dX8_canTogether_31 : decode cX8_canTogether 31 = .ok (.invokevirtual 282, 3) := by decide +kernel
theorem dX8_canTogether_34 : decode cX8_canTogether 34 = .ok (.goto 4, 3) := by decide +kernel
theorem dX8_canTogether_37 : decode cX8_canTogether 37 = .ok (.iconst 0, 1) := by decide +kernel
theorem dX8_canTogether_38 : decode cX8_canTogether 38 = .ok (.ior, 1) := by decide +kernel
theorem dX8_canTogether_39 : decode cX8_canTogether 39 = .ok (.istore_n 3, 1) := by decide +kernel
theorem dX8_canTogether_40 : decode cX8_canTogether 40 = .ok (.iinc 4 1, 3) := by decide +kernel
theorem dX8_canTogether_43 : decode cX8_canTogether 43 = .ok (.goto (-38), 3) := by decide +kernel
theorem dX8_canTogether_46 : decode cX8_canTogether 46 = .ok (.aload_n 0, 1) := by decide +kernel
theorem dX8_canTogether_47 : decode cX8_canTogether 47 = .ok (.aload_n 0, 1) := by decide +kernel
theorem dX8_canTogether_48 : decode cX8_canTogether 48 = .ok (.invokevirtual 257, 3) := by decide +kernel
theorem dX8_canTogether_51 : decode cX8_canTogether 51 = .ok (.iload_n 3, 1) := by decide +kernel
theorem dX8_canTogether_52 : decode cX8_canTogether 52 = .ok (.iconst 1, 1) := by decide +kernel
theorem dX8_canTogether_53 : decode cX8_canTogether 53 = .ok (.iload_n 2, 1) := by decide +kernel
theorem dX8_canTogether_54 : decode cX8_canTogether 54 = .ok (.ishl, 1) := by decide +kernel
theorem dX8_canTogether_55 : decode cX8_canTogether 55 = .ok (.invokevirtual 339, 3) := by decide +kernel
theorem dX8_canTogether_58 : decode cX8_canTogether 58 = .ok (.istore 4, 2) := by decide +kernel
theorem dX8_canTogether_60 : decode cX8_canTogether 60 = .ok (.iload 4, 2) := by decide +kernel
theorem dX8_canTogether_62 : decode cX8_canTogether 62 = .ok (.iconst (-1), 1) := by decide +kernel
theorem dX8_canTogether_63 : decode cX8_canTogether 63 = .ok (.if_icmp .eq 20, 3) := by decide +kernel
theorem dX8_canTogether_66 : decode cX8_canTogether 66 = .ok (.iload 4, 2) := by decide +kernel
theorem dX8_canTogether_68 : decode cX8_canTogether 68 = .ok (.invokestatic 273, 3) := by decide +kernel
theorem dX8_canTogether_71 : decode cX8_canTogether 71 = .ok (.aload_n 0, 1) := by decide +kernel
theorem dX8_canTogether_72 : decode cX8_canTogether 72 = .ok (.iload_n 1, 1) := by decide +kernel
theorem dX8_canTogether_73 : decode cX8_canTogether 73 = .ok (.invokevirtual 384, 3) := by decide +kernel
theorem dX8_canTogether_76 : decode cX8_canTogether 76 = .ok (.if_icmp .gt 7, 3) := by decide +kernel
theorem dX8_canTogether_79 : decode cX8_canTogether 79 = .ok (.iconst 1, 1) := by decide +kernel
theorem dX8_canTogether_80 : decode cX8_canTogether 80 = .ok (.goto 4, 3) := by decide +kernel
theorem dX8_canTogether_83 : decode cX8_canTogether 83 = .ok (.iconst 0, 1) := by decide +kernel
theorem dX8_canTogether_84 : decode cX8_canTogether 84 = .ok (.ireturn, 1) := by decide +kernel
set_option maxRecDepth 4000 in
theorem kX8_canTogether (G : GT) {σ : St} {a1 : Int32} {a2 : Int32} : ∀ (r : Int32) , fX8_canTogether σ a1 a2 = some r → MCt G 5 yX8_canTogether cX8_canTogether 5 (some .boolean) [.ref (gad G 62), .int a1, .int a2] σ (some (.int r)) σ := by
  intro r hF
  refine met_zz (by decide) (Nat.le_of_ble_eq_true rfl) (fun X cx hE => ?_)
  have cx : Cx G X RX8 cX8_canTogether 5 5 := cx
  have hb38 : ∀ (kr5 : Int32 → Int32 → Int32 → Int32 → Option (Int32)), (∀ (x1 : Int32) (x2 : Int32) (x3 : Int32) (x4 : Int32) , kr5 x1 x2 x3 x4 = some r → WW G X 5 σ [(0, .ref (gad G 62)), (1, .int x1), (2, .int x2), (3, .int x3), (4, .int x4)] 5 []) → ∀ (x1 : Int32) (x2 : Int32) (x4 : Int32) (y0 : Int32) (y1 : Int32) , fX8_canTogether_b38 σ kr5 x1 x2 x4 y0 y1 = some r → WW G X 5 σ [(0, .ref (gad G 62)), (1, .int x1), (2, .int x2), (4, .int x4)] 38 [.int y1, .int y0] := by
    intro kr5 hk5
    intro x1 x2 x4 y0 y1 hF
    unfold fX8_canTogether_b38 at hF
    refine ww_ior cx dX8_canTogether_38 ?_
    refine ww_istore_n (ks := [0, 1, 2, 3, 4]) (lv' := fun v1 => [(3, .int v1), (0, .ref (gad G 62)), (1, .int x1), (2, .int x2), (4, .int x4)]) cx dX8_canTogether_39 rfl (by decide) hF (fun _ => rfl) (fun v1 hF => ?_)
    refine ww_iinc (j := 4) (ks := [0, 1, 2, 3, 4]) (lv' := fun v2 => [(4, .int v2), (3, .int v1), (0, .ref (gad G 62)), (1, .int x1), (2, .int x2)]) cx dX8_canTogether_40 (by decide) rfl ic_1 hF (fun _ => rfl) (fun v2 hF => ?_)
    refine ww_goto cx dX8_canTogether_43 (tgt := 5) rfl ?_
    exact ww_sub [2, 3, 4, 1, 0] rfl (hk5 _ _ _ _ hF)
  have hl5 : ∀ n : Nat, ∀ (x1 : Int32) (x2 : Int32) (x3 : Int32) (x4 : Int32) , fX8_canTogether_l5 σ n x1 x2 x3 x4 = some r → WW G X 5 σ [(0, .ref (gad G 62)), (1, .int x1), (2, .int x2), (3, .int x3), (4, .int x4)] 5 [] := by
    intro n
    induction n with
    | zero =>
      intro x1 x2 x3 x4 hF
      exact absurd hF (by intro z; cases z)
    | succ n ih =>
      intro x1 x2 x3 x4 hF
      have hk5 := ih
      have hF : fX8_canTogether_B5 σ (fX8_canTogether_l5 σ n) x1 x2 x3 x4 = some r := hF
      unfold fX8_canTogether_B5 at hF
      refine ww_iload cx dX8_canTogether_5 4 rfl ?_
      refine ww_aload_n cx dX8_canTogether_7 rfl 0 rfl ?_
      refine gf_X8_9 cx dX8_canTogether_8 ?_
      refine ww_iconst cx dX8_canTogether_11 ic_5 ?_
      refine ww_iald (N := 77) cx (sh_63) dX8_canTogether_12 hF (fun hF => ?_)
      refine ww_icmp_ge cx dX8_canTogether_13 (tgt := 46) rfl hF (fun hF => ?_) (fun hF => ?_)
      · refine ww_aload_n cx dX8_canTogether_46 rfl 0 rfl ?_
        refine ww_aload_n cx dX8_canTogether_47 rfl 0 rfl ?_
        refine ww_V0_pi kv_X8_257 rfl cx sh_62 ⟨Nat.le_of_ble_eq_true rfl, Nat.le_of_ble_eq_true rfl⟩ (Nat.le_of_ble_eq_true rfl) dX8_canTogether_48 (kX8_saltNow G) hF (fun r3 hF => ?_)
        refine ww_iload_n cx dX8_canTogether_51 rfl 3 rfl ?_
        refine ww_iconst cx dX8_canTogether_52 ic_1 ?_
        refine ww_iload_n cx dX8_canTogether_53 rfl 2 rfl ?_
        refine ww_ishl cx dX8_canTogether_54 ?_
        refine ww_V3_pi kv_X8_339 rfl cx sh_62 ⟨Nat.le_of_ble_eq_true rfl, Nat.le_of_ble_eq_true rfl⟩ (Nat.le_of_ble_eq_true rfl) dX8_canTogether_55 (kX8_fewestSteps G) hF (fun r4 hF => ?_)
        refine ww_istore (ks := [0, 1, 2]) (lv' := fun v5 => [(4, .int v5), (0, .ref (gad G 62)), (1, .int x1)]) cx dX8_canTogether_58 (by decide) hF (fun _ => rfl) (fun v5 hF => ?_)
        refine ww_iload cx dX8_canTogether_60 0 rfl ?_
        refine ww_iconst cx dX8_canTogether_62 ic_m1 ?_
        refine ww_icmp_eq cx dX8_canTogether_63 (tgt := 83) rfl hF (fun hF => ?_) (fun hF => ?_)
        · refine ww_iconst cx dX8_canTogether_83 ic_0 ?_
          exact ww_rzp hE dX8_canTogether_84 hF
        · refine ww_iload cx dX8_canTogether_66 0 rfl ?_
          refine ww_S1_pi kv_X8_273 cx ⟨Nat.le_of_ble_eq_true rfl, Nat.le_of_ble_eq_true rfl⟩ (Nat.le_of_ble_eq_true rfl) dX8_canTogether_68 (kX8_bits G) hF (fun r6 hF => ?_)
          refine ww_aload_n cx dX8_canTogether_71 rfl 1 rfl ?_
          refine ww_iload_n cx dX8_canTogether_72 rfl 2 rfl ?_
          refine ww_V1_pi kv_X8_384 rfl cx sh_62 ⟨Nat.le_of_ble_eq_true rfl, Nat.le_of_ble_eq_true rfl⟩ (Nat.le_of_ble_eq_true rfl) dX8_canTogether_73 (kX8_strengthOf G) hF (fun r7 hF => ?_)
          refine ww_icmp_gt cx dX8_canTogether_76 (tgt := 83) rfl hF (fun hF => ?_) (fun hF => ?_)
          · refine ww_iconst cx dX8_canTogether_83 ic_0 ?_
            exact ww_rzp hE dX8_canTogether_84 hF
          · refine ww_iconst cx dX8_canTogether_79 ic_1 ?_
            refine ww_goto cx dX8_canTogether_80 (tgt := 84) rfl ?_
            exact ww_rzp hE dX8_canTogether_84 hF
      · refine ww_iload_n cx dX8_canTogether_16 rfl 3 rfl ?_
        refine ww_iload_n cx dX8_canTogether_17 rfl 1 rfl ?_
        refine ww_iload cx dX8_canTogether_18 4 rfl ?_
        refine ww_S2_pi kv_X8_168 cx ⟨Nat.le_of_ble_eq_true rfl, Nat.le_of_ble_eq_true rfl⟩ (Nat.le_of_ble_eq_true rfl) dX8_canTogether_20 (kX8_bit G) hF (fun r8 hF => ?_)
        refine ww_iconst cx dX8_canTogether_23 ic_1 ?_
        refine ww_icmp_ne cx dX8_canTogether_24 (tgt := 37) rfl hF (fun hF => ?_) (fun hF => ?_)
        · refine ww_iconst cx dX8_canTogether_37 ic_0 ?_
          exact ww_sub [0, 1, 2, 4] rfl (hb38 _ hk5 _ _ _ _ _ hF)
        · refine ww_aload_n cx dX8_canTogether_27 rfl 0 rfl ?_
          refine ww_iload cx dX8_canTogether_28 4 rfl ?_
          refine ww_iconst cx dX8_canTogether_30 ic_1 ?_
          refine ww_V2_pi kv_X8_282 rfl cx sh_62 ⟨Nat.le_of_ble_eq_true rfl, Nat.le_of_ble_eq_true rfl⟩ (Nat.le_of_ble_eq_true rfl) dX8_canTogether_31 (kX8_ofGuest G) hF (fun r9 hF => ?_)
          refine ww_goto cx dX8_canTogether_34 (tgt := 38) rfl ?_
          exact ww_sub [0, 1, 2, 4] rfl (hb38 _ hk5 _ _ _ _ _ hF)
  unfold fX8_canTogether at hF
  show WW G X 5 σ [(0, .ref (gad G 62)), (1, .int a1), (2, .int a2)] 0 []
  refine ww_iconst cx dX8_canTogether_0 ic_0 ?_
  refine ww_istore_n (ks := [0, 1, 2, 3]) (lv' := fun v10 => [(3, .int v10), (0, .ref (gad G 62)), (1, .int a1), (2, .int a2)]) cx dX8_canTogether_1 rfl (by decide) hF (fun _ => rfl) (fun v10 hF => ?_)
  refine ww_iconst cx dX8_canTogether_2 ic_0 ?_
  refine ww_istore (ks := [0, 1, 2, 3, 4]) (lv' := fun v11 => [(4, .int v11), (3, .int v10), (0, .ref (gad G 62)), (1, .int a1), (2, .int a2)]) cx dX8_canTogether_3 (by decide) hF (fun _ => rfl) (fun v11 hF => ?_)
  exact ww_sub [2, 3, 4, 1, 0] rfl (hl5 FU _ _ _ _ hF)
theorem dX8_core_0 : decode cX8_core 0 = .ok (.aload_n 0, 1) := by decide +kernel
theorem dX8_core_1 : decode cX8_core 1 = .ok (.invokevirtual 291, 3) := by decide +kernel
theorem dX8_core_4 : decode cX8_core 4 = .ok (.ifCond .ne 6, 3) := by decide +kernel
theorem dX8_core_7 : decode cX8_core 7 = .ok (.bipush (-2), 2) := by decide +kernel
theorem dX8_core_9 : decode cX8_core 9 = .ok (.ireturn, 1) := by decide +kernel
theorem dX8_core_10 : decode cX8_core 10 = .ok (.aload_n 0, 1) := by decide +kernel
theorem dX8_core_11 : decode cX8_core 11 = .ok (.invokevirtual 421, 3) := by decide +kernel
theorem dX8_core_14 : decode cX8_core 14 = .ok (.istore_n 1, 1) := by decide +kernel
theorem dX8_core_15 : decode cX8_core 15 = .ok (.iload_n 1, 1) := by decide +kernel
theorem dX8_core_16 : decode cX8_core 16 = .ok (.iconst (-1), 1) := by decide +kernel
theorem dX8_core_17 : decode cX8_core 17 = .ok (.if_icmp .ne 7, 3) := by decide +kernel
theorem dX8_core_20 : decode cX8_core 20 = .ok (.iconst (-1), 1) := by decide +kernel
theorem dX8_core_21 : decode cX8_core 21 = .ok (.goto 7, 3) := by decide +kernel
theorem dX8_core_24 : decode cX8_core 24 = .ok (.iload_n 1, 1) := by decide +kernel
theorem dX8_core_25 : decode cX8_core 25 = .ok (.invokestatic 273, 3) := by decide +kernel
theorem dX8_core_28 : decode cX8_core 28 = .ok (.ireturn, 1) := by decide +kernel
set_option maxRecDepth 4000 in
theorem kX8_core (G : GT) {σ : St} : ∀ (r : Int32) , fX8_core σ = some r → MCt G 5 yX8_core cX8_core 2 (some .int) [.ref (gad G 62)] σ (some (.int r)) σ := by
  intro r hF
  refine met_i (by decide) (Nat.le_of_ble_eq_true rfl) (fun X cx hE => ?_)
  have cx : Cx G X RX8 cX8_core 2 5 := cx
  unfold fX8_core at hF
  show WW G X 2 σ [(0, .ref (gad G 62))] 0 []
  refine ww_aload_n cx dX8_core_0 rfl 0 rfl ?_
  refine ww_V0_pi kv_X8_291 rfl cx sh_62 ⟨Nat.le_of_ble_eq_true rfl, Nat.le_of_ble_eq_true rfl⟩ (Nat.le_of_ble_eq_true rfl) dX8_core_1 (kX8_isTable G) hF (fun r1 hF => ?_)
  refine ww_if_ne cx dX8_core_4 (tgt := 10) rfl hF (fun hF => ?_) (fun hF => ?_)
  · refine ww_aload_n cx dX8_core_10 rfl 0 rfl ?_
    refine ww_V0_pi kv_X8_421 rfl cx sh_62 ⟨Nat.le_of_ble_eq_true rfl, Nat.le_of_ble_eq_true rfl⟩ (Nat.le_of_ble_eq_true rfl) dX8_core_11 (kX8_coreOf G) hF (fun r2 hF => ?_)
    refine ww_istore_n (ks := [0]) (lv' := fun v3 => [(1, .int v3)]) cx dX8_core_14 rfl (by decide) hF (fun _ => rfl) (fun v3 hF => ?_)
    refine ww_iload_n cx dX8_core_15 rfl 0 rfl ?_
    refine ww_iconst cx dX8_core_16 ic_m1 ?_
    refine ww_icmp_ne cx dX8_core_17 (tgt := 24) rfl hF (fun hF => ?_) (fun hF => ?_)
    · refine ww_iload_n cx dX8_core_24 rfl 0 rfl ?_
      refine ww_S1_pi kv_X8_273 cx ⟨Nat.le_of_ble_eq_true rfl, Nat.le_of_ble_eq_true rfl⟩ (Nat.le_of_ble_eq_true rfl) dX8_core_25 (kX8_bits G) hF (fun r4 hF => ?_)
      exact ww_rip hE dX8_core_28 hF
    · refine ww_iconst cx dX8_core_20 ic_m1 ?_
      refine ww_goto cx dX8_core_21 (tgt := 28) rfl ?_
      exact ww_rip hE dX8_core_28 hF
  · refine ww_bipush cx dX8_core_7 bc_m2 ?_
    exact ww_rip hE dX8_core_9 hF
theorem dX8_cored_0 : decode cX8_cored 0 = .ok (.aload_n 0, 1) := by decide +kernel
theorem dX8_cored_1 : decode cX8_cored 1 = .ok (.invokevirtual 291, 3) := by decide +kernel
theorem dX8_cored_4 : decode cX8_cored 4 = .ok (.ifCond .eq 10, 3) := by decide +kernel
theorem dX8_cored_7 : decode cX8_cored 7 = .ok (.aload_n 0, 1) := by decide +kernel
theorem dX8_cored_8 : decode cX8_cored 8 = .ok (.invokevirtual 421, 3) := by decide +kernel
theorem dX8_cored_11 : decode cX8_cored 11 = .ok (.goto 5, 3) := by decide +kernel
theorem dX8_cored_14 : decode cX8_cored 14 = .ok (.bipush (-2), 2) := by decide +kernel
theorem dX8_cored_16 : decode cX8_cored 16 = .ok (.ireturn, 1) := by decide +kernel
set_option maxRecDepth 4000 in
theorem kX8_cored (G : GT) {σ : St} : ∀ (r : Int32) , fX8_cored σ = some r → MCt G 5 yX8_cored cX8_cored 1 (some .int) [.ref (gad G 62)] σ (some (.int r)) σ := by
  intro r hF
  refine met_i (by decide) (Nat.le_of_ble_eq_true rfl) (fun X cx hE => ?_)
  have cx : Cx G X RX8 cX8_cored 1 5 := cx
  unfold fX8_cored at hF
  show WW G X 1 σ [(0, .ref (gad G 62))] 0 []
  refine ww_aload_n cx dX8_cored_0 rfl 0 rfl ?_
  refine ww_V0_pi kv_X8_291 rfl cx sh_62 ⟨Nat.le_of_ble_eq_true rfl, Nat.le_of_ble_eq_true rfl⟩ (Nat.le_of_ble_eq_true rfl) dX8_cored_1 (kX8_isTable G) hF (fun r1 hF => ?_)
  refine ww_if_eq cx dX8_cored_4 (tgt := 14) rfl hF (fun hF => ?_) (fun hF => ?_)
  · refine ww_bipush cx dX8_cored_14 bc_m2 ?_
    exact ww_rip hE dX8_cored_16 hF
  · refine ww_aload_n cx dX8_cored_7 rfl 0 rfl ?_
    refine ww_V0_pi kv_X8_421 rfl cx sh_62 ⟨Nat.le_of_ble_eq_true rfl, Nat.le_of_ble_eq_true rfl⟩ (Nat.le_of_ble_eq_true rfl) dX8_cored_8 (kX8_coreOf G) hF (fun r2 hF => ?_)
    refine ww_goto cx dX8_cored_11 (tgt := 16) rfl ?_
    exact ww_rip hE dX8_cored_16 hF
theorem dX8_counter_0 : decode cX8_counter 0 = .ok (.aload_n 0, 1) := by decide +kernel
theorem dX8_counter_1 : decode cX8_counter 1 = .ok (.iload_n 1, 1) := by decide +kernel
theorem dX8_counter_2 : decode cX8_counter 2 = .ok (.i2l, 1) := by decide +kernel
theorem dX8_counter_3 : decode cX8_counter 3 = .ok (.invokevirtual 269, 3) := by decide +kernel
theorem dX8_counter_6 : decode cX8_counter 6 = .ok (.ifCond .eq 22, 3) := by decide +kernel
theorem dX8_counter_9 : decode cX8_counter 9 = .ok (.aload_n 0, 1) := by decide +kernel
theorem dX8_counter_10 : decode cX8_counter 10 = .ok (.invokevirtual 266, 3) := by decide +kernel
theorem dX8_counter_13 : decode cX8_counter 13 = .ok (.aload_n 0, 1) := by decide +kernel
theorem dX8_counter_14 : decode cX8_counter 14 = .ok (.iload_n 1, 1) := by decide +kernel
theorem dX8_counter_15 : decode cX8_counter 15 = .ok (.iconst 2, 1) := by decide +kernel
theorem dX8_counter_16 : decode cX8_counter 16 = .ok (.invokevirtual 91, 3) := by decide +kernel
theorem dX8_counter_19 : decode cX8_counter 19 = .ok (.iconst (-1), 1) := by decide +kernel
theorem dX8_counter_20 : decode cX8_counter 20 = .ok (.ixor, 1) := by decide +kernel
theorem dX8_counter_21 : decode cX8_counter 21 = .ok (.iand, 1) := by decide +kernel
theorem dX8_counter_22 : decode cX8_counter 22 = .ok (.invokestatic 297, 3) := by decide +kernel
theorem dX8_counter_25 : decode cX8_counter 25 = .ok (.goto 5, 3) := by decide +kernel
theorem dX8_counter_28 : decode cX8_counter 28 = .ok (.bipush (-2), 2) := by decide +kernel
theorem dX8_counter_30 : decode cX8_counter 30 = .ok (.ireturn, 1) := by decide +kernel
set_option maxRecDepth 4000 in
theorem kX8_counter (G : GT) {σ : St} {a1 : Int32} : ∀ (r : Int32) , fX8_counter σ a1 = some r → MCt G 5 yX8_counter cX8_counter 2 (some .int) [.ref (gad G 62), .int a1] σ (some (.int r)) σ := by
  intro r hF
  refine met_i (by decide) (Nat.le_of_ble_eq_true rfl) (fun X cx hE => ?_)
  have cx : Cx G X RX8 cX8_counter 2 5 := cx
  unfold fX8_counter at hF
  show WW G X 2 σ [(0, .ref (gad G 62)), (1, .int a1)] 0 []
  refine ww_aload_n cx dX8_counter_0 rfl 0 rfl ?_
  refine ww_iload_n cx dX8_counter_1 rfl 1 rfl ?_
  refine ww_i2l cx dX8_counter_2 ?_
  refine ww_V1_pi kv_X8_269 rfl cx sh_62 ⟨Nat.le_of_ble_eq_true rfl, Nat.le_of_ble_eq_true rfl⟩ (Nat.le_of_ble_eq_true rfl) dX8_counter_3 (kX8_isClaim G) hF (fun r1 hF => ?_)
  refine ww_if_eq cx dX8_counter_6 (tgt := 28) rfl hF (fun hF => ?_) (fun hF => ?_)
  · refine ww_bipush cx dX8_counter_28 bc_m2 ?_
    exact ww_rip hE dX8_counter_30 hF
  · refine ww_aload_n cx dX8_counter_9 rfl 0 rfl ?_
    refine ww_V0_pi kv_X8_266 rfl cx sh_62 ⟨Nat.le_of_ble_eq_true rfl, Nat.le_of_ble_eq_true rfl⟩ (Nat.le_of_ble_eq_true rfl) dX8_counter_10 (kX8_saltedNow G) hF (fun r2 hF => ?_)
    refine ww_aload_n cx dX8_counter_13 rfl 0 rfl ?_
    refine ww_iload_n cx dX8_counter_14 rfl 1 rfl ?_
    refine ww_iconst cx dX8_counter_15 ic_2 ?_
    refine ww_V2_pi kv_X8_91 rfl cx sh_62 ⟨Nat.le_of_ble_eq_true rfl, Nat.le_of_ble_eq_true rfl⟩ (Nat.le_of_ble_eq_true rfl) dX8_counter_16 (kX8_ofClaim G) hF (fun r3 hF => ?_)
    refine ww_iconst cx dX8_counter_19 ic_m1 ?_
    refine ww_ixor cx dX8_counter_20 ?_
    refine ww_iand cx dX8_counter_21 ?_
    refine ww_S1_pi kv_X8_297 cx ⟨Nat.le_of_ble_eq_true rfl, Nat.le_of_ble_eq_true rfl⟩ (Nat.le_of_ble_eq_true rfl) dX8_counter_22 (kX8_lowest G) hF (fun r4 hF => ?_)
    refine ww_goto cx dX8_counter_25 (tgt := 30) rfl ?_
    exact ww_rip hE dX8_counter_30 hF
theorem dX8_falls_0 : decode cX8_falls 0 = .ok (.aload_n 0, 1) := by decide +kernel
theorem dX8_falls_1 : decode cX8_falls 1 = .ok (.iload_n 1, 1) := by decide +kernel
theorem dX8_falls_2 : decode cX8_falls 2 = .ok (.i2l, 1) := by decide +kernel
theorem dX8_falls_3 : decode cX8_falls 3 = .ok (.invokevirtual 269, 3) := by decide +kernel
theorem dX8_falls_6 : decode cX8_falls 6 = .ok (.ifCond .eq 12, 3) := by decide +kernel
theorem dX8_falls_9 : decode cX8_falls 9 = .ok (.aload_n 0, 1) := by decide +kernel
theorem dX8_falls_10 : decode cX8_falls 10 = .ok (.iload_n 1, 1) := by decide +kernel
theorem dX8_falls_11 : decode cX8_falls 11 = .ok (.iconst 1, 1) := by decide +kernel
theorem dX8_falls_12 : decode cX8_falls 12 = .ok (.invokevirtual 91, 3) := by decide +kernel
theorem dX8_falls_15 : decode cX8_falls 15 = .ok (.ifCond .ne 6, 3) := by decide +kernel
theorem dX8_falls_18 : decode cX8_falls 18 = .ok (.bipush (-2), 2) := by decide +kernel
theorem dX8_falls_20 : decode cX8_falls 20 = .ok (.ireturn, 1) := by decide +kernel
theorem dX8_falls_21 : decode cX8_falls 21 = .ok (.aload_n 0, 1) := by decide +kernel
theorem dX8_falls_22 : decode cX8_falls 22 = .ok (.invokevirtual 310, 3) := by decide +kernel
theorem dX8_falls_25 : decode cX8_falls 25 = .ok (.aload_n 0, 1) := by decide +kernel
theorem dX8_falls_26 : decode cX8_falls 26 = .ok (.aload_n 0, 1) := by decide +kernel
theorem dX8_falls_27 : decode cX8_falls 27 = .ok (.invokevirtual 257, 3) := by decide +kernel
theorem dX8_falls_30 : decode cX8_falls 30 = .ok (.iconst 1, 1) := by decide +kernel
theorem dX8_falls_31 : decode cX8_falls 31 = .ok (.iload_n 1, 1) := by decide +kernel
theorem dX8_falls_32 : decode cX8_falls 32 = .ok (.ishl, 1) := by decide +kernel
theorem dX8_falls_33 : decode cX8_falls 33 = .ok (.iconst (-1), 1) := by decide +kernel
theorem dX8_falls_34 : decode cX8_falls 34 = .ok (.ixor, 1) := by decide +kernel
theorem dX8_falls_35 : decode cX8_falls 35 = .ok (.iand, 1) := by decide +kernel
theorem dX8_falls_36 : decode cX8_falls 36 = .ok (.aload_n 0, 1) := by decide +kernel
theorem dX8_falls_37 : decode cX8_falls 37 = .ok (.invokevirtual 304, 3) := by decide +kernel
theorem dX8_falls_40 : decode cX8_falls 40 = .ok (.invokevirtual 307, 3) := by decide +kernel
theorem dX8_falls_43 : decode cX8_falls 43 = .ok (.iconst (-1), 1) := by decide +kernel
theorem dX8_falls_44 : decode cX8_falls 44 = .ok (.ixor, 1) := by decide +kernel
theorem dX8_falls_45 : decode cX8_falls 45 = .ok (.iand, 1) := by decide +kernel
theorem dX8_falls_46 : decode cX8_falls 46 = .ok (.ireturn, 1) := by decide +kernel
set_option maxRecDepth 4000 in
theorem kX8_falls (G : GT) {σ : St} {a1 : Int32} : ∀ (r : Int32) , fX8_falls σ a1 = some r → MCt G 5 yX8_falls cX8_falls 2 (some .int) [.ref (gad G 62), .int a1] σ (some (.int r)) σ := by
  intro r hF
  refine met_i (by decide) (Nat.le_of_ble_eq_true rfl) (fun X cx hE => ?_)
  have cx : Cx G X RX8 cX8_falls 2 5 := cx
  unfold fX8_falls at hF
  show WW G X 2 σ [(0, .ref (gad G 62)), (1, .int a1)] 0 []
  refine ww_aload_n cx dX8_falls_0 rfl 0 rfl ?_
  refine ww_iload_n cx dX8_falls_1 rfl 1 rfl ?_
  refine ww_i2l cx dX8_falls_2 ?_
  refine ww_V1_pi kv_X8_269 rfl cx sh_62 ⟨Nat.le_of_ble_eq_true rfl, Nat.le_of_ble_eq_true rfl⟩ (Nat.le_of_ble_eq_true rfl) dX8_falls_3 (kX8_isClaim G) hF (fun r1 hF => ?_)
  refine ww_if_eq cx dX8_falls_6 (tgt := 18) rfl hF (fun hF => ?_) (fun hF => ?_)
  · refine ww_bipush cx dX8_falls_18 bc_m2 ?_
    exact ww_rip hE dX8_falls_20 hF
  · refine ww_aload_n cx dX8_falls_9 rfl 0 rfl ?_
    refine ww_iload_n cx dX8_falls_10 rfl 1 rfl ?_
    refine ww_iconst cx dX8_falls_11 ic_1 ?_
    refine ww_V2_pi kv_X8_91 rfl cx sh_62 ⟨Nat.le_of_ble_eq_true rfl, Nat.le_of_ble_eq_true rfl⟩ (Nat.le_of_ble_eq_true rfl) dX8_falls_12 (kX8_ofClaim G) hF (fun r2 hF => ?_)
    refine ww_if_ne cx dX8_falls_15 (tgt := 21) rfl hF (fun hF => ?_) (fun hF => ?_)
    · refine ww_aload_n cx dX8_falls_21 rfl 0 rfl ?_
      refine ww_V0_pi kv_X8_310 rfl cx sh_62 ⟨Nat.le_of_ble_eq_true rfl, Nat.le_of_ble_eq_true rfl⟩ (Nat.le_of_ble_eq_true rfl) dX8_falls_22 (kX8_provedNow G) hF (fun r3 hF => ?_)
      refine ww_aload_n cx dX8_falls_25 rfl 0 rfl ?_
      refine ww_aload_n cx dX8_falls_26 rfl 0 rfl ?_
      refine ww_V0_pi kv_X8_257 rfl cx sh_62 ⟨Nat.le_of_ble_eq_true rfl, Nat.le_of_ble_eq_true rfl⟩ (Nat.le_of_ble_eq_true rfl) dX8_falls_27 (kX8_saltNow G) hF (fun r4 hF => ?_)
      refine ww_iconst cx dX8_falls_30 ic_1 ?_
      refine ww_iload_n cx dX8_falls_31 rfl 1 rfl ?_
      refine ww_ishl cx dX8_falls_32 ?_
      refine ww_iconst cx dX8_falls_33 ic_m1 ?_
      refine ww_ixor cx dX8_falls_34 ?_
      refine ww_iand cx dX8_falls_35 ?_
      refine ww_aload_n cx dX8_falls_36 rfl 0 rfl ?_
      refine ww_V0_pi kv_X8_304 rfl cx sh_62 ⟨Nat.le_of_ble_eq_true rfl, Nat.le_of_ble_eq_true rfl⟩ (Nat.le_of_ble_eq_true rfl) dX8_falls_37 (kX8_allSteps G) hF (fun r5 hF => ?_)
      refine ww_V2_pi kv_X8_307 rfl cx sh_62 ⟨Nat.le_of_ble_eq_true rfl, Nat.le_of_ble_eq_true rfl⟩ (Nat.le_of_ble_eq_true rfl) dX8_falls_40 (kX8_provedBy G) hF (fun r6 hF => ?_)
      refine ww_iconst cx dX8_falls_43 ic_m1 ?_
      refine ww_ixor cx dX8_falls_44 ?_
      refine ww_iand cx dX8_falls_45 ?_
      exact ww_rip hE dX8_falls_46 hF
    · refine ww_bipush cx dX8_falls_18 bc_m2 ?_
      exact ww_rip hE dX8_falls_20 hF
theorem dX8_falsity_0 : decode cX8_falsity 0 = .ok (.aload_n 0, 1) := by decide +kernel
theorem dX8_falsity_1 : decode cX8_falsity 1 = .ok (.iload_n 1, 1) := by decide +kernel
theorem dX8_falsity_2 : decode cX8_falsity 2 = .ok (.i2l, 1) := by decide +kernel
theorem dX8_falsity_3 : decode cX8_falsity 3 = .ok (.invokevirtual 276, 3) := by decide +kernel
theorem dX8_falsity_6 : decode cX8_falsity 6 = .ok (.ifCond .eq 14, 3) := by decide +kernel
theorem dX8_falsity_9 : decode cX8_falsity 9 = .ok (.aload_n 0, 1) := by decide +kernel
theorem dX8_falsity_10 : decode cX8_falsity 10 = .ok (.iload_n 1, 1) := by decide +kernel
theorem dX8_falsity_11 : decode cX8_falsity 11 = .ok (.invokevirtual 279, 3) := by decide +kernel
theorem dX8_falsity_14 : decode cX8_falsity 14 = .ok (.invokestatic 297, 3) := by decide +kernel
theorem dX8_falsity_17 : decode cX8_falsity 17 = .ok (.goto 5, 3) := by decide +kernel
theorem dX8_falsity_20 : decode cX8_falsity 20 = .ok (.bipush (-2), 2) := by decide +kernel
theorem dX8_falsity_22 : decode cX8_falsity 22 = .ok (.ireturn, 1) := by decide +kernel
set_option maxRecDepth 4000 in
theorem kX8_falsity (G : GT) {σ : St} {a1 : Int32} : ∀ (r : Int32) , fX8_falsity σ a1 = some r → MCt G 5 yX8_falsity cX8_falsity 2 (some .int) [.ref (gad G 62), .int a1] σ (some (.int r)) σ := by
  intro r hF
  refine met_i (by decide) (Nat.le_of_ble_eq_true rfl) (fun X cx hE => ?_)
  have cx : Cx G X RX8 cX8_falsity 2 5 := cx
  unfold fX8_falsity at hF
  show WW G X 2 σ [(0, .ref (gad G 62)), (1, .int a1)] 0 []
  refine ww_aload_n cx dX8_falsity_0 rfl 0 rfl ?_
  refine ww_iload_n cx dX8_falsity_1 rfl 1 rfl ?_
  refine ww_i2l cx dX8_falsity_2 ?_
  refine ww_V1_pi kv_X8_276 rfl cx sh_62 ⟨Nat.le_of_ble_eq_true rfl, Nat.le_of_ble_eq_true rfl⟩ (Nat.le_of_ble_eq_true rfl) dX8_falsity_3 (kX8_isStep G) hF (fun r1 hF => ?_)
  refine ww_if_eq cx dX8_falsity_6 (tgt := 20) rfl hF (fun hF => ?_) (fun hF => ?_)
  · refine ww_bipush cx dX8_falsity_20 bc_m2 ?_
    exact ww_rip hE dX8_falsity_22 hF
  · refine ww_aload_n cx dX8_falsity_9 rfl 0 rfl ?_
    refine ww_iload_n cx dX8_falsity_10 rfl 1 rfl ?_
    refine ww_V1_pi kv_X8_279 rfl cx sh_62 ⟨Nat.le_of_ble_eq_true rfl, Nat.le_of_ble_eq_true rfl⟩ (Nat.le_of_ble_eq_true rfl) dX8_falsity_11 (kX8_falseIn G) hF (fun r2 hF => ?_)
    refine ww_S1_pi kv_X8_297 cx ⟨Nat.le_of_ble_eq_true rfl, Nat.le_of_ble_eq_true rfl⟩ (Nat.le_of_ble_eq_true rfl) dX8_falsity_14 (kX8_lowest G) hF (fun r3 hF => ?_)
    refine ww_goto cx dX8_falsity_17 (tgt := 22) rfl ?_
    exact ww_rip hE dX8_falsity_22 hF
theorem dX8_feastOf_0 : decode cX8_feastOf 0 = .ok (.aload_n 0, 1) := by decide +kernel
theorem dX8_feastOf_1 : decode cX8_feastOf 1 = .ok (.aload_n 0, 1) := by decide +kernel
theorem dX8_feastOf_2 : decode cX8_feastOf 2 = .ok (.invokevirtual 257, 3) := by decide +kernel
theorem dX8_feastOf_5 : decode cX8_feastOf 5 = .ok (.aload_n 0, 1) := by decide +kernel
theorem dX8_feastOf_6 : decode cX8_feastOf 6 = .ok (.iload_n 3, 1) := by decide +kernel
theorem dX8_feastOf_7 : decode cX8_feastOf 7 = .ok (.iconst 1, 1) := by decide +kernel
theorem dX8_feastOf_8 : decode cX8_feastOf 8 = .ok (.invokevirtual 282, 3) := by decide +kernel
theorem dX8_feastOf_11 : decode cX8_feastOf 11 = .ok (.aload_n 0, 1) := by decide +kernel
theorem dX8_feastOf_12 : decode cX8_feastOf 12 = .ok (.lload_n 1, 1) := by decide +kernel
theorem dX8_feastOf_13 : decode cX8_feastOf 13 = .ok (.invokevirtual 462, 3) := by decide +kernel
theorem dX8_feastOf_16 : decode cX8_feastOf 16 = .ok (.iconst (-1), 1) := by decide +kernel
theorem dX8_feastOf_17 : decode cX8_feastOf 17 = .ok (.ixor, 1) := by decide +kernel
theorem dX8_feastOf_18 : decode cX8_feastOf 18 = .ok (.iand, 1) := by decide +kernel
theorem dX8_feastOf_19 : decode cX8_feastOf 19 = .ok (.aload_n 0, 1) := by decide +kernel
theorem dX8_feastOf_20 : decode cX8_feastOf 20 = .ok (.iload_n 3, 1) := by decide +kernel
theorem dX8_feastOf_21 : decode cX8_feastOf 21 = .ok (.invokevirtual 288, 3) := by decide +kernel
theorem dX8_feastOf_24 : decode cX8_feastOf 24 = .ok (.invokevirtual 357, 3) := by decide +kernel
theorem dX8_feastOf_27 : decode cX8_feastOf 27 = .ok (.ireturn, 1) := by decide +kernel
set_option maxRecDepth 4000 in
theorem kX8_feastOf (G : GT) {σ : St} {a1 : Int64} {a3 : Int32} : ∀ (r : Int32) (σo : St) , fX8_feastOf σ a1 a3 = some (r, σo) → MCt G 5 yX8_feastOf cX8_feastOf 4 (some .int) [.ref (gad G 62), .long a1, .int a3] σ (some (.int r)) σo := by
  intro r σo hF
  refine met_i (by decide) (Nat.le_of_ble_eq_true rfl) (fun X cx hE => ?_)
  have cx : Cx G X RX8 cX8_feastOf 4 5 := cx
  unfold fX8_feastOf at hF
  show WW G X 4 σ [(0, .ref (gad G 62)), (1, .long a1), (3, .int a3)] 0 []
  refine ww_aload_n cx dX8_feastOf_0 rfl 0 rfl ?_
  refine ww_aload_n cx dX8_feastOf_1 rfl 0 rfl ?_
  refine ww_V0_pi kv_X8_257 rfl cx sh_62 ⟨Nat.le_of_ble_eq_true rfl, Nat.le_of_ble_eq_true rfl⟩ (Nat.le_of_ble_eq_true rfl) dX8_feastOf_2 (kX8_saltNow G) hF (fun r1 hF => ?_)
  refine ww_aload_n cx dX8_feastOf_5 rfl 0 rfl ?_
  refine ww_iload_n cx dX8_feastOf_6 rfl 2 rfl ?_
  refine ww_iconst cx dX8_feastOf_7 ic_1 ?_
  refine ww_V2_pi kv_X8_282 rfl cx sh_62 ⟨Nat.le_of_ble_eq_true rfl, Nat.le_of_ble_eq_true rfl⟩ (Nat.le_of_ble_eq_true rfl) dX8_feastOf_8 (kX8_ofGuest G) hF (fun r2 hF => ?_)
  refine ww_aload_n cx dX8_feastOf_11 rfl 0 rfl ?_
  refine ww_lload_n cx dX8_feastOf_12 rfl 1 rfl ?_
  refine ww_V1_pi kv_X8_462 rfl cx sh_62 ⟨Nat.le_of_ble_eq_true rfl, Nat.le_of_ble_eq_true rfl⟩ (Nat.le_of_ble_eq_true rfl) dX8_feastOf_13 (kX8_holesBy G) hF (fun r3 hF => ?_)
  refine ww_iconst cx dX8_feastOf_16 ic_m1 ?_
  refine ww_ixor cx dX8_feastOf_17 ?_
  refine ww_iand cx dX8_feastOf_18 ?_
  refine ww_aload_n cx dX8_feastOf_19 rfl 0 rfl ?_
  refine ww_iload_n cx dX8_feastOf_20 rfl 2 rfl ?_
  refine ww_V1_pi kv_X8_288 rfl cx sh_62 ⟨Nat.le_of_ble_eq_true rfl, Nat.le_of_ble_eq_true rfl⟩ (Nat.le_of_ble_eq_true rfl) dX8_feastOf_21 (kX8_canDo G) hF (fun r4 hF => ?_)
  refine ww_V3_si kv_X8_357 rfl cx sh_62 ⟨Nat.le_of_ble_eq_true rfl, Nat.le_of_ble_eq_true rfl⟩ (Nat.le_of_ble_eq_true rfl) dX8_feastOf_24 (kX8_mostBy G) hF (fun r5 σ6 hF => ?_)
  exact ww_ris hE dX8_feastOf_27 hF
theorem dX8_is_0 : decode cX8_is 0 = .ok (.aload_n 0, 1) := by decide +kernel
theorem dX8_is_1 : decode cX8_is 1 = .ok (.invokevirtual 134, 3) := by decide +kernel
theorem dX8_is_4 : decode cX8_is 4 = .ok (.ifCond .eq 31, 3) := by decide +kernel
theorem dX8_is_7 : decode cX8_is 7 = .ok (.aload_n 0, 1) := by decide +kernel
theorem dX8_is_8 : decode cX8_is 8 = .ok (.getfield 111, 3) := by decide +kernel
theorem dX8_is_11 : decode cX8_is 11 = .ok (.iconst 1, 1) := by decide +kernel
theorem dX8_is_12 : decode cX8_is 12 = .ok (.if_icmp .ne 23, 3) := by decide +kernel
theorem dX8_is_15 : decode cX8_is 15 = .ok (.aload_n 0, 1) := by decide +kernel
theorem dX8_is_16 : decode cX8_is 16 = .ok (.getfield 101, 3) := by decide +kernel
theorem dX8_is_19 : decode cX8_is 19 = .ok (.aload_n 0, 1) := by decide +kernel
theorem dX8_is_20 : decode cX8_is 20 = .ok (.getfield 108, 3) := by decide +kernel
theorem dX8_is_23 : decode cX8_is 23 = .ok (.isub, 1) := by decide +kernel
theorem dX8_is_24 : decode cX8_is 24 = .ok (.aload_n 1, 1) := by decide +kernel
theorem dX8_is_25 : decode cX8_is 25 = .ok (.invokevirtual 138, 3) := by decide +kernel
theorem dX8_is_28 : decode cX8_is 28 = .ok (.if_icmp .ne 7, 3) := by decide +kernel
theorem dX8_is_31 : decode cX8_is 31 = .ok (.iconst 1, 1) := by decide +kernel
theorem dX8_is_32 : decode cX8_is 32 = .ok (.goto 4, 3) := by decide +kernel
theorem dX8_is_35 : decode cX8_is 35 = .ok (.iconst 0, 1) := by decide +kernel
theorem dX8_is_36 : decode cX8_is 36 = .ok (.istore_n 2, 1) := by decide +kernel
theorem dX8_is_37 : decode cX8_is 37 = .ok (.iconst 0, 1) := by decide +kernel
theorem dX8_is_38 : decode cX8_is 38 = .ok (.istore_n 3, 1) := by decide +kernel
theorem dX8_is_39 : decode cX8_is 39 = .ok (.iload_n 3, 1) := by decide +kernel
theorem dX8_is_40 : decode cX8_is 40 = .ok (.aload_n 1, 1) := by decide +kernel
theorem dX8_is_41 : decode cX8_is 41 = .ok (.invokevirtual 138, 3) := by decide +kernel
theorem dX8_is_44 : decode cX8_is 44 = .ok (.if_icmp .ge 38, 3) := by decide +kernel
theorem dX8_is_47 : decode cX8_is 47 = .ok (.iload_n 2, 1) := by decide +kernel
theorem dX8_is_48 : decode cX8_is 48 = .ok (.ifCond .eq 34, 3) := by decide +kernel
theorem dX8_is_51 : decode cX8_is 51 = .ok (.aload_n 0, 1) := by decide +kernel
theorem dX8_is_52 : decode cX8_is 52 = .ok (.getfield 20, 3) := by decide +kernel
theorem dX8_is_55 : decode cX8_is 55 = .ok (.aload_n 0, 1) := by decide +kernel
theorem dX8_is_56 : decode cX8_is 56 = .ok (.getfield 108, 3) := by decide +kernel
theorem dX8_is_59 : decode cX8_is 59 = .ok (.iload_n 3, 1) := by decide +kernel
theorem dX8_is_60 : decode cX8_is 60 = .ok (.iadd, 1) := by decide +kernel
theorem dX8_is_61 : decode cX8_is 61 = .ok (.baload, 1) := by decide +kernel
theorem dX8_is_62 : decode cX8_is 62 = .ok (.aload_n 1, 1) := by decide +kernel
theorem dX8_is_63 : decode cX8_is 63 = .ok (.iload_n 3, 1) := by decide +kernel
theorem dX8_is_64 : decode cX8_is 64 = .ok (.invokevirtual 143, 3) := by decide +kernel
theorem dX8_is_67 : decode cX8_is 67 = .ok (.if_icmp .ne 7, 3) := by decide +kernel
theorem dX8_is_70 : decode cX8_is 70 = .ok (.iconst 1, 1) := by decide +kernel
theorem dX8_is_71 : decode cX8_is 71 = .ok (.goto 4, 3) := by decide +kernel
theorem dX8_is_74 : decode cX8_is 74 = .ok (.iconst 0, 1) := by decide +kernel
theorem dX8_is_75 : decode cX8_is 75 = .ok (.istore_n 2, 1) := by decide +kernel
theorem dX8_is_76 : decode cX8_is 76 = .ok (.iinc 3 1, 3) := by decide +kernel
theorem dX8_is_79 : decode cX8_is 79 = .ok (.goto (-40), 3) := by decide +kernel
theorem dX8_is_82 : decode cX8_is 82 = .ok (.iload_n 2, 1) := by decide +kernel
theorem dX8_is_83 : decode cX8_is 83 = .ok (.ireturn, 1) := by decide +kernel
set_option maxRecDepth 4000 in
theorem kX8_is (G : GT) {σ : St} {w : Nat} (hw : w < 18) : ∀ (r : Int32) , fX8_is σ w = some r → MCt G 5 yX8_is cX8_is 4 (some .boolean) [.ref (gad G 62), .ref (gsk G w)] σ (some (.int r)) σ := by
  intro r hF
  refine met_zz (by decide) (Nat.le_of_ble_eq_true rfl) (fun X cx hE => ?_)
  have cx : Cx G X RX8 cX8_is 4 5 := cx
  have hl39 : ∀ n : Nat, ∀ (x2 : Int32) (x3 : Int32) , fX8_is_l39 σ w n x2 x3 = some r → WW G X 4 σ [(0, .ref (gad G 62)), (1, .ref (gsk G w)), (2, .int x2), (3, .int x3)] 39 [] := by
    intro n
    induction n with
    | zero =>
      intro x2 x3 hF
      exact absurd hF (by intro z; cases z)
    | succ n ih =>
      intro x2 x3 hF
      have hk39 := ih
      have hF : fX8_is_B39 σ w (fX8_is_l39 σ w n) x2 x3 = some r := hF
      unfold fX8_is_B39 at hF
      refine ww_iload_n cx dX8_is_39 rfl 3 rfl ?_
      refine ww_aload_n cx dX8_is_40 rfl 1 rfl ?_
      refine ww_slen cx kv_X8_138 hw (by decide) (Nat.le_of_ble_eq_true rfl) dX8_is_41 ?_
      refine ww_icmp_ge cx dX8_is_44 (tgt := 82) rfl hF (fun hF => ?_) (fun hF => ?_)
      · refine ww_iload_n cx dX8_is_82 rfl 2 rfl ?_
        exact ww_rzp hE dX8_is_83 hF
      · refine ww_iload_n cx dX8_is_47 rfl 2 rfl ?_
        refine ww_if_eq cx dX8_is_48 (tgt := 82) rfl hF (fun hF => ?_) (fun hF => ?_)
        · refine ww_iload_n cx dX8_is_82 rfl 2 rfl ?_
          exact ww_rzp hE dX8_is_83 hF
        · refine ww_aload_n cx dX8_is_51 rfl 0 rfl ?_
          refine gf_X8_20 cx dX8_is_52 ?_
          refine ww_aload_n cx dX8_is_55 rfl 0 rfl ?_
          refine gf_X8_108 cx dX8_is_56 ?_
          refine ww_iload_n cx dX8_is_59 rfl 3 rfl ?_
          refine ww_iadd cx dX8_is_60 ?_
          refine ww_bald (N := 1600) cx (sh_66) dX8_is_61 hF (fun hF => ?_)
          refine ww_aload_n cx dX8_is_62 rfl 1 rfl ?_
          refine ww_iload_n cx dX8_is_63 rfl 3 rfl ?_
          refine ww_scha cx kv_X8_143 hw (by decide) (Nat.le_of_ble_eq_true rfl) dX8_is_64 hF (fun hF => ?_)
          refine ww_icmp_ne cx dX8_is_67 (tgt := 74) rfl hF (fun hF => ?_) (fun hF => ?_)
          · refine ww_iconst cx dX8_is_74 ic_0 ?_
            refine ww_istore_n (ks := [0, 1, 2, 3]) (lv' := fun v3 => [(2, .int v3), (0, .ref (gad G 62)), (1, .ref (gsk G w)), (3, .int x3)]) cx dX8_is_75 rfl (by decide) hF (fun _ => rfl) (fun v3 hF => ?_)
            refine ww_iinc (j := 3) (ks := [0, 1, 2, 3]) (lv' := fun v4 => [(3, .int v4), (2, .int v3), (0, .ref (gad G 62)), (1, .ref (gsk G w))]) cx dX8_is_76 (by decide) rfl ic_1 hF (fun _ => rfl) (fun v4 hF => ?_)
            refine ww_goto cx dX8_is_79 (tgt := 39) rfl ?_
            exact ww_sub [2, 3, 1, 0] rfl (hk39 _ _ hF)
          · refine ww_iconst cx dX8_is_70 ic_1 ?_
            refine ww_goto cx dX8_is_71 (tgt := 75) rfl ?_
            refine ww_istore_n (ks := [0, 1, 2, 3]) (lv' := fun v5 => [(2, .int v5), (0, .ref (gad G 62)), (1, .ref (gsk G w)), (3, .int x3)]) cx dX8_is_75 rfl (by decide) hF (fun _ => rfl) (fun v5 hF => ?_)
            refine ww_iinc (j := 3) (ks := [0, 1, 2, 3]) (lv' := fun v6 => [(3, .int v6), (2, .int v5), (0, .ref (gad G 62)), (1, .ref (gsk G w))]) cx dX8_is_76 (by decide) rfl ic_1 hF (fun _ => rfl) (fun v6 hF => ?_)
            refine ww_goto cx dX8_is_79 (tgt := 39) rfl ?_
            exact ww_sub [2, 3, 1, 0] rfl (hk39 _ _ hF)
  have hb36 : ∀ (y0 : Int32) , fX8_is_b36 σ w y0 = some r → WW G X 4 σ [(0, .ref (gad G 62)), (1, .ref (gsk G w))] 36 [.int y0] := by
    intro y0 hF
    unfold fX8_is_b36 at hF
    refine ww_istore_n (ks := [0, 1, 2]) (lv' := fun v7 => [(2, .int v7), (0, .ref (gad G 62)), (1, .ref (gsk G w))]) cx dX8_is_36 rfl (by decide) hF (fun _ => rfl) (fun v7 hF => ?_)
    refine ww_iconst cx dX8_is_37 ic_0 ?_
    refine ww_istore_n (ks := [0, 1, 2, 3]) (lv' := fun v8 => [(3, .int v8), (2, .int v7), (0, .ref (gad G 62)), (1, .ref (gsk G w))]) cx dX8_is_38 rfl (by decide) hF (fun _ => rfl) (fun v8 hF => ?_)
    exact ww_sub [2, 3, 1, 0] rfl (hl39 FU _ _ hF)
  have hb35 : fX8_is_b35 σ w = some r → WW G X 4 σ [(0, .ref (gad G 62)), (1, .ref (gsk G w))] 35 [] := by
    intro hF
    unfold fX8_is_b35 at hF
    refine ww_iconst cx dX8_is_35 ic_0 ?_
    exact hb36 _ hF
  unfold fX8_is at hF
  show WW G X 4 σ [(0, .ref (gad G 62)), (1, .ref (gsk G w))] 0 []
  refine ww_aload_n cx dX8_is_0 rfl 0 rfl ?_
  refine ww_V0_pi kv_X8_134 rfl cx sh_62 ⟨Nat.le_of_ble_eq_true rfl, Nat.le_of_ble_eq_true rfl⟩ (Nat.le_of_ble_eq_true rfl) dX8_is_1 (kX8_good G) hF (fun r9 hF => ?_)
  refine ww_if_eq cx dX8_is_4 (tgt := 35) rfl hF (fun hF => ?_) (fun hF => ?_)
  · exact hb35 hF
  · refine ww_aload_n cx dX8_is_7 rfl 0 rfl ?_
    refine gf_X8_111 cx dX8_is_8 ?_
    refine ww_iconst cx dX8_is_11 ic_1 ?_
    refine ww_icmp_ne cx dX8_is_12 (tgt := 35) rfl hF (fun hF => ?_) (fun hF => ?_)
    · exact hb35 hF
    · refine ww_aload_n cx dX8_is_15 rfl 0 rfl ?_
      refine gf_X8_101 cx dX8_is_16 ?_
      refine ww_aload_n cx dX8_is_19 rfl 0 rfl ?_
      refine gf_X8_108 cx dX8_is_20 ?_
      refine ww_isub cx dX8_is_23 ?_
      refine ww_aload_n cx dX8_is_24 rfl 1 rfl ?_
      refine ww_slen cx kv_X8_138 hw (by decide) (Nat.le_of_ble_eq_true rfl) dX8_is_25 ?_
      refine ww_icmp_ne cx dX8_is_28 (tgt := 35) rfl hF (fun hF => ?_) (fun hF => ?_)
      · exact hb35 hF
      · refine ww_iconst cx dX8_is_31 ic_1 ?_
        refine ww_goto cx dX8_is_32 (tgt := 36) rfl ?_
        exact hb36 _ hF
theorem dX8_isFollowing_0 : decode cX8_isFollowing 0 = .ok (.aload_n 0, 1) := by decide +kernel
theorem dX8_isFollowing_1 : decode cX8_isFollowing 1 = .ok (.invokevirtual 266, 3) := by decide +kernel
theorem dX8_isFollowing_4 : decode cX8_isFollowing 4 = .ok (.aload_n 0, 1) := by decide +kernel
theorem dX8_isFollowing_5 : decode cX8_isFollowing 5 = .ok (.iload_n 1, 1) := by decide +kernel
theorem dX8_isFollowing_6 : decode cX8_isFollowing 6 = .ok (.iconst 2, 1) := by decide +kernel
theorem dX8_isFollowing_7 : decode cX8_isFollowing 7 = .ok (.invokevirtual 91, 3) := by decide +kernel
theorem dX8_isFollowing_10 : decode cX8_isFollowing 10 = .ok (.iconst (-1), 1) := by decide +kernel
theorem dX8_isFollowing_11 : decode cX8_isFollowing 11 = .ok (.ixor, 1) := by decide +kernel
theorem dX8_isFollowing_12 : decode cX8_isFollowing 12 = .ok (.iand, 1) := by decide +kernel
theorem dX8_isFollowing_13 : decode cX8_isFollowing 13 = .ok (.ifCond .ne 7, 3) := by decide +kernel
theorem dX8_isFollowing_16 : decode cX8_isFollowing 16 = .ok (.iconst 1, 1) := by decide +kernel
theorem dX8_isFollowing_17 : decode cX8_isFollowing 17 = .ok (.goto 4, 3) := by decide +kernel
theorem dX8_isFollowing_20 : decode cX8_isFollowing 20 = .ok (.iconst 0, 1) := by decide +kernel
theorem dX8_isFollowing_21 : decode cX8_isFollowing 21 = .ok (.ireturn, 1) := by decide +kernel
set_option maxRecDepth 4000 in
theorem kX8_isFollowing (G : GT) {σ : St} {a1 : Int32} : ∀ (r : Int32) , fX8_isFollowing σ a1 = some r → MCt G 5 yX8_isFollowing cX8_isFollowing 2 (some .boolean) [.ref (gad G 62), .int a1] σ (some (.int r)) σ := by
  intro r hF
  refine met_zz (by decide) (Nat.le_of_ble_eq_true rfl) (fun X cx hE => ?_)
  have cx : Cx G X RX8 cX8_isFollowing 2 5 := cx
  unfold fX8_isFollowing at hF
  show WW G X 2 σ [(0, .ref (gad G 62)), (1, .int a1)] 0 []
  refine ww_aload_n cx dX8_isFollowing_0 rfl 0 rfl ?_
  refine ww_V0_pi kv_X8_266 rfl cx sh_62 ⟨Nat.le_of_ble_eq_true rfl, Nat.le_of_ble_eq_true rfl⟩ (Nat.le_of_ble_eq_true rfl) dX8_isFollowing_1 (kX8_saltedNow G) hF (fun r1 hF => ?_)
  refine ww_aload_n cx dX8_isFollowing_4 rfl 0 rfl ?_
  refine ww_iload_n cx dX8_isFollowing_5 rfl 1 rfl ?_
  refine ww_iconst cx dX8_isFollowing_6 ic_2 ?_
  refine ww_V2_pi kv_X8_91 rfl cx sh_62 ⟨Nat.le_of_ble_eq_true rfl, Nat.le_of_ble_eq_true rfl⟩ (Nat.le_of_ble_eq_true rfl) dX8_isFollowing_7 (kX8_ofClaim G) hF (fun r2 hF => ?_)
  refine ww_iconst cx dX8_isFollowing_10 ic_m1 ?_
  refine ww_ixor cx dX8_isFollowing_11 ?_
  refine ww_iand cx dX8_isFollowing_12 ?_
  refine ww_if_ne cx dX8_isFollowing_13 (tgt := 20) rfl hF (fun hF => ?_) (fun hF => ?_)
  · refine ww_iconst cx dX8_isFollowing_20 ic_0 ?_
    exact ww_rzp hE dX8_isFollowing_21 hF
  · refine ww_iconst cx dX8_isFollowing_16 ic_1 ?_
    refine ww_goto cx dX8_isFollowing_17 (tgt := 21) rfl ?_
    exact ww_rzp hE dX8_isFollowing_21 hF
theorem dX8_isLeastProof_0 : decode cX8_isLeastProof 0 = .ok (.aload_n 0, 1) := by decide +kernel
theorem dX8_isLeastProof_1 : decode cX8_isLeastProof 1 = .ok (.iload_n 1, 1) := by decide +kernel
theorem dX8_isLeastProof_2 : decode cX8_isLeastProof 2 = .ok (.iload_n 2, 1) := by decide +kernel
theorem dX8_isLeastProof_3 : decode cX8_isLeastProof 3 = .ok (.invokevirtual 345, 3) := by decide +kernel
theorem dX8_isLeastProof_6 : decode cX8_isLeastProof 6 = .ok (.ifCond .ne 5, 3) := by decide +kernel
theorem dX8_isLeastProof_9 : decode cX8_isLeastProof 9 = .ok (.iconst 0, 1) := by decide +kernel
theorem dX8_isLeastProof_10 : decode cX8_isLeastProof 10 = .ok (.ireturn, 1) := by decide +kernel
theorem dX8_isLeastProof_11 : decode cX8_isLeastProof 11 = .ok (.iconst 0, 1) := by decide +kernel
theorem dX8_isLeastProof_12 : decode cX8_isLeastProof 12 = .ok (.istore_n 3, 1) := by decide +kernel
theorem dX8_isLeastProof_13 : decode cX8_isLeastProof 13 = .ok (.iload_n 3, 1) := by decide +kernel
theorem dX8_isLeastProof_14 : decode cX8_isLeastProof 14 = .ok (.aload_n 0, 1) := by decide +kernel
theorem dX8_isLeastProof_15 : decode cX8_isLeastProof 15 = .ok (.getfield 9, 3) := by decide +kernel
theorem dX8_isLeastProof_18 : decode cX8_isLeastProof 18 = .ok (.iconst 4, 1) := by decide +kernel
theorem dX8_isLeastProof_19 : decode cX8_isLeastProof 19 = .ok (.iaload, 1) := by decide +kernel
theorem dX8_isLeastProof_20 : decode cX8_isLeastProof 20 = .ok (.if_icmp .ge 35, 3) := by decide +kernel
theorem dX8_isLeastProof_23 : decode cX8_isLeastProof 23 = .ok (.iload_n 1, 1) := by decide +kernel
theorem dX8_isLeastProof_24 : decode cX8_isLeastProof 24 = .ok (.iload_n 3, 1) := by decide +kernel
theorem dX8_isLeastProof_25 : decode cX8_isLeastProof 25 = .ok (.invokestatic 168, 3) := by decide +kernel
theorem dX8_isLeastProof_28 : decode cX8_isLeastProof 28 = .ok (.iconst 1, 1) := by decide +kernel
theorem dX8_isLeastProof_29 : decode cX8_isLeastProof 29 = .ok (.if_icmp .ne 20, 3) := by decide +kernel
theorem dX8_isLeastProof_32 : decode cX8_isLeastProof 32 = .ok (.aload_n 0, 1) := by decide +kernel
theorem dX8_isLeastProof_33 : decode cX8_isLeastProof 33 = .ok (.iload_n 1, 1) := by decide +kernel
theorem dX8_isLeastProof_34 : decode cX8_isLeastProof 34 = .ok (.iconst 1, 1) := by decide +kernel
theorem dX8_isLeastProof_35 : decode cX8_isLeastProof 35 = .ok (.iload_n 3, 1) := by decide +kernel
theorem dX8_isLeastProof_36 : decode cX8_isLeastProof 36 = .ok (.ishl, 1) := by decide +kernel
theorem dX8_isLeastProof_37 : decode cX8_isLeastProof 37 = .ok (.iconst (-1), 1) := by decide +kernel
theorem dX8_isLeastProof_38 : decode cX8_isLeastProof 38 = .ok (.ixor, 1) := by decide +kernel
theorem dX8_isLeastProof_39 : decode cX8_isLeastProof 39 = .ok (.iand, 1) := by decide +kernel
theorem dX8_isLeastProof_40 : decode cX8_isLeastProof 40 = .ok (.iload_n 2, 1) := by decide +kernel
theorem dX8_isLeastProof_41 : decode cX8_isLeastProof 41 = .ok (.invokevirtual 345, 3) := by decide +kernel
theorem dX8_isLeastProof_44 : decode cX8_isLeastProof 44 = .ok (.ifCond .eq 5, 3) := by decide +kernel
theorem dX8_isLeastProof_47 : decode cX8_isLeastProof 47 = .ok (.iconst 0, 1) := by decide +kernel
theorem dX8_isLeastProof_48 : decode cX8_isLeastProof 48 = .ok (.ireturn, 1) := by decide +kernel
theorem dX8_isLeastProof_49 : decode cX8_isLeastProof 49 = .ok (.iinc 3 1, 3) := by decide +kernel
theorem dX8_isLeastProof_52 : decode cX8_isLeastProof 52 = .ok (.goto (-39), 3) := by decide +kernel
theorem dX8_isLeastProof_55 : decode cX8_isLeastProof 55 = .ok (.iconst 1, 1) := by decide +kernel
theorem dX8_isLeastProof_56 : decode cX8_isLeastProof 56 = .ok (.ireturn, 1) := by decide +kernel
set_option maxRecDepth 4000 in
theorem kX8_isLeastProof (G : GT) {σ : St} {a1 : Int32} {a2 : Int32} : ∀ (r : Int32) , fX8_isLeastProof σ a1 a2 = some r → MCt G 5 yX8_isLeastProof cX8_isLeastProof 4 (some .boolean) [.ref (gad G 62), .int a1, .int a2] σ (some (.int r)) σ := by
  intro r hF
  refine met_zz (by decide) (Nat.le_of_ble_eq_true rfl) (fun X cx hE => ?_)
  have cx : Cx G X RX8 cX8_isLeastProof 4 5 := cx
  have hl13 : ∀ n : Nat, ∀ (x1 : Int32) (x2 : Int32) (x3 : Int32) , fX8_isLeastProof_l13 σ n x1 x2 x3 = some r → WW G X 4 σ [(0, .ref (gad G 62)), (1, .int x1), (2, .int x2), (3, .int x3)] 13 [] := by
    intro n
    induction n with
    | zero =>
      intro x1 x2 x3 hF
      exact absurd hF (by intro z; cases z)
    | succ n ih =>
      intro x1 x2 x3 hF
      have hk13 := ih
      have hF : fX8_isLeastProof_B13 σ (fX8_isLeastProof_l13 σ n) x1 x2 x3 = some r := hF
      unfold fX8_isLeastProof_B13 at hF
      refine ww_iload_n cx dX8_isLeastProof_13 rfl 3 rfl ?_
      refine ww_aload_n cx dX8_isLeastProof_14 rfl 0 rfl ?_
      refine gf_X8_9 cx dX8_isLeastProof_15 ?_
      refine ww_iconst cx dX8_isLeastProof_18 ic_4 ?_
      refine ww_iald (N := 77) cx (sh_63) dX8_isLeastProof_19 hF (fun hF => ?_)
      refine ww_icmp_ge cx dX8_isLeastProof_20 (tgt := 55) rfl hF (fun hF => ?_) (fun hF => ?_)
      · refine ww_iconst cx dX8_isLeastProof_55 ic_1 ?_
        exact ww_rzp hE dX8_isLeastProof_56 hF
      · refine ww_iload_n cx dX8_isLeastProof_23 rfl 1 rfl ?_
        refine ww_iload_n cx dX8_isLeastProof_24 rfl 3 rfl ?_
        refine ww_S2_pi kv_X8_168 cx ⟨Nat.le_of_ble_eq_true rfl, Nat.le_of_ble_eq_true rfl⟩ (Nat.le_of_ble_eq_true rfl) dX8_isLeastProof_25 (kX8_bit G) hF (fun r1 hF => ?_)
        refine ww_iconst cx dX8_isLeastProof_28 ic_1 ?_
        refine ww_icmp_ne cx dX8_isLeastProof_29 (tgt := 49) rfl hF (fun hF => ?_) (fun hF => ?_)
        · refine ww_iinc (j := 3) (ks := [0, 1, 2, 3]) (lv' := fun v2 => [(3, .int v2), (0, .ref (gad G 62)), (1, .int x1), (2, .int x2)]) cx dX8_isLeastProof_49 (by decide) rfl ic_1 hF (fun _ => rfl) (fun v2 hF => ?_)
          refine ww_goto cx dX8_isLeastProof_52 (tgt := 13) rfl ?_
          exact ww_sub [1, 2, 3, 0] rfl (hk13 _ _ _ hF)
        · refine ww_aload_n cx dX8_isLeastProof_32 rfl 0 rfl ?_
          refine ww_iload_n cx dX8_isLeastProof_33 rfl 1 rfl ?_
          refine ww_iconst cx dX8_isLeastProof_34 ic_1 ?_
          refine ww_iload_n cx dX8_isLeastProof_35 rfl 3 rfl ?_
          refine ww_ishl cx dX8_isLeastProof_36 ?_
          refine ww_iconst cx dX8_isLeastProof_37 ic_m1 ?_
          refine ww_ixor cx dX8_isLeastProof_38 ?_
          refine ww_iand cx dX8_isLeastProof_39 ?_
          refine ww_iload_n cx dX8_isLeastProof_40 rfl 2 rfl ?_
          refine ww_V2_pi kv_X8_345 rfl cx sh_62 ⟨Nat.le_of_ble_eq_true rfl, Nat.le_of_ble_eq_true rfl⟩ (Nat.le_of_ble_eq_true rfl) dX8_isLeastProof_41 (kX8_isProvedBy G) hF (fun r3 hF => ?_)
          refine ww_if_eq cx dX8_isLeastProof_44 (tgt := 49) rfl hF (fun hF => ?_) (fun hF => ?_)
          · refine ww_iinc (j := 3) (ks := [0, 1, 2, 3]) (lv' := fun v4 => [(3, .int v4), (0, .ref (gad G 62)), (1, .int x1), (2, .int x2)]) cx dX8_isLeastProof_49 (by decide) rfl ic_1 hF (fun _ => rfl) (fun v4 hF => ?_)
            refine ww_goto cx dX8_isLeastProof_52 (tgt := 13) rfl ?_
            exact ww_sub [1, 2, 3, 0] rfl (hk13 _ _ _ hF)
          · refine ww_iconst cx dX8_isLeastProof_47 ic_0 ?_
            exact ww_rzp hE dX8_isLeastProof_48 hF
  unfold fX8_isLeastProof at hF
  show WW G X 4 σ [(0, .ref (gad G 62)), (1, .int a1), (2, .int a2)] 0 []
  refine ww_aload_n cx dX8_isLeastProof_0 rfl 0 rfl ?_
  refine ww_iload_n cx dX8_isLeastProof_1 rfl 1 rfl ?_
  refine ww_iload_n cx dX8_isLeastProof_2 rfl 2 rfl ?_
  refine ww_V2_pi kv_X8_345 rfl cx sh_62 ⟨Nat.le_of_ble_eq_true rfl, Nat.le_of_ble_eq_true rfl⟩ (Nat.le_of_ble_eq_true rfl) dX8_isLeastProof_3 (kX8_isProvedBy G) hF (fun r5 hF => ?_)
  refine ww_if_ne cx dX8_isLeastProof_6 (tgt := 11) rfl hF (fun hF => ?_) (fun hF => ?_)
  · refine ww_iconst cx dX8_isLeastProof_11 ic_0 ?_
    refine ww_istore_n (ks := [0, 1, 2, 3]) (lv' := fun v6 => [(3, .int v6), (0, .ref (gad G 62)), (1, .int a1), (2, .int a2)]) cx dX8_isLeastProof_12 rfl (by decide) hF (fun _ => rfl) (fun v6 hF => ?_)
    exact ww_sub [1, 2, 3, 0] rfl (hl13 FU _ _ _ hF)
  · refine ww_iconst cx dX8_isLeastProof_9 ic_0 ?_
    exact ww_rzp hE dX8_isLeastProof_10 hF
theorem dX8_likely_0 : decode cX8_likely 0 = .ok (.aload_n 0, 1) := by decide +kernel
theorem dX8_likely_1 : decode cX8_likely 1 = .ok (.iload_n 1, 1) := by decide +kernel
theorem dX8_likely_2 : decode cX8_likely 2 = .ok (.i2l, 1) := by decide +kernel
theorem dX8_likely_3 : decode cX8_likely 3 = .ok (.invokevirtual 269, 3) := by decide +kernel
theorem dX8_likely_6 : decode cX8_likely 6 = .ok (.ifCond .eq 13, 3) := by decide +kernel
theorem dX8_likely_9 : decode cX8_likely 9 = .ok (.iload_n 2, 1) := by decide +kernel
theorem dX8_likely_10 : decode cX8_likely 10 = .ok (.i2l, 1) := by decide +kernel
theorem dX8_likely_11 : decode cX8_likely 11 = .ok (.lconst 0, 1) := by decide +kernel
theorem dX8_likely_12 : decode cX8_likely 12 = .ok (.lconst 1, 1) := by decide +kernel
theorem dX8_likely_13 : decode cX8_likely 13 = .ok (.invokestatic 83, 3) := by decide +kernel
theorem dX8_likely_16 : decode cX8_likely 16 = .ok (.ifCond .ne 6, 3) := by decide +kernel
theorem dX8_likely_19 : decode cX8_likely 19 = .ok (.bipush (-2), 2) := by decide +kernel
theorem dX8_likely_21 : decode cX8_likely 21 = .ok (.ireturn, 1) := by decide +kernel
theorem dX8_likely_22 : decode cX8_likely 22 = .ok (.aload_n 0, 1) := by decide +kernel
theorem dX8_likely_23 : decode cX8_likely 23 = .ok (.invokevirtual 266, 3) := by decide +kernel
theorem dX8_likely_26 : decode cX8_likely 26 = .ok (.istore_n 3, 1) := by decide +kernel
theorem dX8_likely_27 : decode cX8_likely 27 = .ok (.iload_n 3, 1) := by decide +kernel
theorem dX8_likely_28 : decode cX8_likely 28 = .ok (.ifCond .ne 7, 3) := by decide +kernel
theorem dX8_likely_31 : decode cX8_likely 31 = .ok (.iload_n 2, 1) := by decide +kernel
theorem dX8_likely_32 : decode cX8_likely 32 = .ok (.goto 22, 3) := by decide +kernel
theorem dX8_likely_35 : decode cX8_likely 35 = .ok (.iload_n 3, 1) := by decide +kernel
theorem dX8_likely_36 : decode cX8_likely 36 = .ok (.aload_n 0, 1) := by decide +kernel
theorem dX8_likely_37 : decode cX8_likely 37 = .ok (.iload_n 1, 1) := by decide +kernel
theorem dX8_likely_38 : decode cX8_likely 38 = .ok (.iconst 2, 1) := by decide +kernel
theorem dX8_likely_39 : decode cX8_likely 39 = .ok (.invokevirtual 91, 3) := by decide +kernel
theorem dX8_likely_42 : decode cX8_likely 42 = .ok (.iand, 1) := by decide +kernel
theorem dX8_likely_43 : decode cX8_likely 43 = .ok (.invokestatic 273, 3) := by decide +kernel
theorem dX8_likely_46 : decode cX8_likely 46 = .ok (.iload_n 3, 1) := by decide +kernel
theorem dX8_likely_47 : decode cX8_likely 47 = .ok (.invokestatic 273, 3) := by decide +kernel
theorem dX8_likely_50 : decode cX8_likely 50 = .ok (.iload_n 2, 1) := by decide +kernel
theorem dX8_likely_51 : decode cX8_likely 51 = .ok (.invokestatic 427, 3) := by decide +kernel
theorem dX8_likely_54 : decode cX8_likely 54 = .ok (.ireturn, 1) := by decide +kernel
set_option maxRecDepth 4000 in
theorem kX8_likely (G : GT) {σ : St} {a1 : Int32} {a2 : Int32} : ∀ (r : Int32) , fX8_likely σ a1 a2 = some r → MCt G 5 yX8_likely cX8_likely 4 (some .int) [.ref (gad G 62), .int a1, .int a2] σ (some (.int r)) σ := by
  intro r hF
  refine met_i (by decide) (Nat.le_of_ble_eq_true rfl) (fun X cx hE => ?_)
  have cx : Cx G X RX8 cX8_likely 4 5 := cx
  unfold fX8_likely at hF
  show WW G X 4 σ [(0, .ref (gad G 62)), (1, .int a1), (2, .int a2)] 0 []
  refine ww_aload_n cx dX8_likely_0 rfl 0 rfl ?_
  refine ww_iload_n cx dX8_likely_1 rfl 1 rfl ?_
  refine ww_i2l cx dX8_likely_2 ?_
  refine ww_V1_pi kv_X8_269 rfl cx sh_62 ⟨Nat.le_of_ble_eq_true rfl, Nat.le_of_ble_eq_true rfl⟩ (Nat.le_of_ble_eq_true rfl) dX8_likely_3 (kX8_isClaim G) hF (fun r1 hF => ?_)
  refine ww_if_eq cx dX8_likely_6 (tgt := 19) rfl hF (fun hF => ?_) (fun hF => ?_)
  · refine ww_bipush cx dX8_likely_19 bc_m2 ?_
    exact ww_rip hE dX8_likely_21 hF
  · refine ww_iload_n cx dX8_likely_9 rfl 2 rfl ?_
    refine ww_i2l cx dX8_likely_10 ?_
    refine ww_lconst cx dX8_likely_11 lc_0 ?_
    refine ww_lconst cx dX8_likely_12 lc_1 ?_
    refine ww_S3_pi kv_X8_83 cx ⟨Nat.le_of_ble_eq_true rfl, Nat.le_of_ble_eq_true rfl⟩ (Nat.le_of_ble_eq_true rfl) dX8_likely_13 (kX8_in G) hF (fun r2 hF => ?_)
    refine ww_if_ne cx dX8_likely_16 (tgt := 22) rfl hF (fun hF => ?_) (fun hF => ?_)
    · refine ww_aload_n cx dX8_likely_22 rfl 0 rfl ?_
      refine ww_V0_pi kv_X8_266 rfl cx sh_62 ⟨Nat.le_of_ble_eq_true rfl, Nat.le_of_ble_eq_true rfl⟩ (Nat.le_of_ble_eq_true rfl) dX8_likely_23 (kX8_saltedNow G) hF (fun r3 hF => ?_)
      refine ww_istore_n (ks := [0, 1, 2, 3]) (lv' := fun v4 => [(3, .int v4), (0, .ref (gad G 62)), (1, .int a1), (2, .int a2)]) cx dX8_likely_26 rfl (by decide) hF (fun _ => rfl) (fun v4 hF => ?_)
      refine ww_iload_n cx dX8_likely_27 rfl 0 rfl ?_
      refine ww_if_ne cx dX8_likely_28 (tgt := 35) rfl hF (fun hF => ?_) (fun hF => ?_)
      · refine ww_iload_n cx dX8_likely_35 rfl 0 rfl ?_
        refine ww_aload_n cx dX8_likely_36 rfl 1 rfl ?_
        refine ww_iload_n cx dX8_likely_37 rfl 2 rfl ?_
        refine ww_iconst cx dX8_likely_38 ic_2 ?_
        refine ww_V2_pi kv_X8_91 rfl cx sh_62 ⟨Nat.le_of_ble_eq_true rfl, Nat.le_of_ble_eq_true rfl⟩ (Nat.le_of_ble_eq_true rfl) dX8_likely_39 (kX8_ofClaim G) hF (fun r5 hF => ?_)
        refine ww_iand cx dX8_likely_42 ?_
        refine ww_S1_pi kv_X8_273 cx ⟨Nat.le_of_ble_eq_true rfl, Nat.le_of_ble_eq_true rfl⟩ (Nat.le_of_ble_eq_true rfl) dX8_likely_43 (kX8_bits G) hF (fun r6 hF => ?_)
        refine ww_iload_n cx dX8_likely_46 rfl 0 rfl ?_
        refine ww_S1_pi kv_X8_273 cx ⟨Nat.le_of_ble_eq_true rfl, Nat.le_of_ble_eq_true rfl⟩ (Nat.le_of_ble_eq_true rfl) dX8_likely_47 (kX8_bits G) hF (fun r7 hF => ?_)
        refine ww_iload_n cx dX8_likely_50 rfl 3 rfl ?_
        refine ww_S3_pi kv_X8_427 cx ⟨Nat.le_of_ble_eq_true rfl, Nat.le_of_ble_eq_true rfl⟩ (Nat.le_of_ble_eq_true rfl) dX8_likely_51 (kX8_part G) hF (fun r8 hF => ?_)
        exact ww_rip hE dX8_likely_54 hF
      · refine ww_iload_n cx dX8_likely_31 rfl 3 rfl ?_
        refine ww_goto cx dX8_likely_32 (tgt := 54) rfl ?_
        exact ww_rip hE dX8_likely_54 hF
    · refine ww_bipush cx dX8_likely_19 bc_m2 ?_
      exact ww_rip hE dX8_likely_21 hF
theorem dX8_menuOf_0 : decode cX8_menuOf 0 = .ok (.aload_n 0, 1) := by decide +kernel
theorem dX8_menuOf_1 : decode cX8_menuOf 1 = .ok (.aload_n 0, 1) := by decide +kernel
theorem dX8_menuOf_2 : decode cX8_menuOf 2 = .ok (.invokevirtual 257, 3) := by decide +kernel
theorem dX8_menuOf_5 : decode cX8_menuOf 5 = .ok (.aload_n 0, 1) := by decide +kernel
theorem dX8_menuOf_6 : decode cX8_menuOf 6 = .ok (.iload_n 1, 1) := by decide +kernel
theorem dX8_menuOf_7 : decode cX8_menuOf 7 = .ok (.iconst 1, 1) := by decide +kernel
theorem dX8_menuOf_8 : decode cX8_menuOf 8 = .ok (.invokevirtual 282, 3) := by decide +kernel
theorem dX8_menuOf_11 : decode cX8_menuOf 11 = .ok (.aload_n 0, 1) := by decide +kernel
theorem dX8_menuOf_12 : decode cX8_menuOf 12 = .ok (.iload_n 1, 1) := by decide +kernel
theorem dX8_menuOf_13 : decode cX8_menuOf 13 = .ok (.invokevirtual 288, 3) := by decide +kernel
theorem dX8_menuOf_16 : decode cX8_menuOf 16 = .ok (.invokevirtual 357, 3) := by decide +kernel
theorem dX8_menuOf_19 : decode cX8_menuOf 19 = .ok (.ireturn, 1) := by decide +kernel
set_option maxRecDepth 4000 in
theorem kX8_menuOf (G : GT) {σ : St} {a1 : Int32} : ∀ (r : Int32) (σo : St) , fX8_menuOf σ a1 = some (r, σo) → MCt G 5 yX8_menuOf cX8_menuOf 2 (some .int) [.ref (gad G 62), .int a1] σ (some (.int r)) σo := by
  intro r σo hF
  refine met_i (by decide) (Nat.le_of_ble_eq_true rfl) (fun X cx hE => ?_)
  have cx : Cx G X RX8 cX8_menuOf 2 5 := cx
  unfold fX8_menuOf at hF
  show WW G X 2 σ [(0, .ref (gad G 62)), (1, .int a1)] 0 []
  refine ww_aload_n cx dX8_menuOf_0 rfl 0 rfl ?_
  refine ww_aload_n cx dX8_menuOf_1 rfl 0 rfl ?_
  refine ww_V0_pi kv_X8_257 rfl cx sh_62 ⟨Nat.le_of_ble_eq_true rfl, Nat.le_of_ble_eq_true rfl⟩ (Nat.le_of_ble_eq_true rfl) dX8_menuOf_2 (kX8_saltNow G) hF (fun r1 hF => ?_)
  refine ww_aload_n cx dX8_menuOf_5 rfl 0 rfl ?_
  refine ww_iload_n cx dX8_menuOf_6 rfl 1 rfl ?_
  refine ww_iconst cx dX8_menuOf_7 ic_1 ?_
  refine ww_V2_pi kv_X8_282 rfl cx sh_62 ⟨Nat.le_of_ble_eq_true rfl, Nat.le_of_ble_eq_true rfl⟩ (Nat.le_of_ble_eq_true rfl) dX8_menuOf_8 (kX8_ofGuest G) hF (fun r2 hF => ?_)
  refine ww_aload_n cx dX8_menuOf_11 rfl 0 rfl ?_
  refine ww_iload_n cx dX8_menuOf_12 rfl 1 rfl ?_
  refine ww_V1_pi kv_X8_288 rfl cx sh_62 ⟨Nat.le_of_ble_eq_true rfl, Nat.le_of_ble_eq_true rfl⟩ (Nat.le_of_ble_eq_true rfl) dX8_menuOf_13 (kX8_canDo G) hF (fun r3 hF => ?_)
  refine ww_V3_si kv_X8_357 rfl cx sh_62 ⟨Nat.le_of_ble_eq_true rfl, Nat.le_of_ble_eq_true rfl⟩ (Nat.le_of_ble_eq_true rfl) dX8_menuOf_16 (kX8_mostBy G) hF (fun r4 σ5 hF => ?_)
  exact ww_ris hE dX8_menuOf_19 hF
theorem dX8_needs__0 : decode cX8_needs_ 0 = .ok (.aload_n 0, 1) := by decide +kernel
theorem dX8_needs__1 : decode cX8_needs_ 1 = .ok (.iload_n 1, 1) := by decide +kernel
theorem dX8_needs__2 : decode cX8_needs_ 2 = .ok (.i2l, 1) := by decide +kernel
theorem dX8_needs__3 : decode cX8_needs_ 3 = .ok (.invokevirtual 269, 3) := by decide +kernel
theorem dX8_needs__6 : decode cX8_needs_ 6 = .ok (.ifCond .ne 6, 3) := by decide +kernel
theorem dX8_needs__9 : decode cX8_needs_ 9 = .ok (.bipush (-2), 2) := by decide +kernel
theorem dX8_needs__11 : decode cX8_needs_ 11 = .ok (.ireturn, 1) := by decide +kernel
theorem dX8_needs__12 : decode cX8_needs_ 12 = .ok (.aload_n 0, 1) := by decide +kernel
theorem dX8_needs__13 : decode cX8_needs_ 13 = .ok (.aload_n 0, 1) := by decide +kernel
theorem dX8_needs__14 : decode cX8_needs_ 14 = .ok (.invokevirtual 304, 3) := by decide +kernel
theorem dX8_needs__17 : decode cX8_needs_ 17 = .ok (.iload_n 1, 1) := by decide +kernel
theorem dX8_needs__18 : decode cX8_needs_ 18 = .ok (.invokevirtual 345, 3) := by decide +kernel
theorem dX8_needs__21 : decode cX8_needs_ 21 = .ok (.ifCond .ne 5, 3) := by decide +kernel
theorem dX8_needs__24 : decode cX8_needs_ 24 = .ok (.iconst (-1), 1) := by decide +kernel
theorem dX8_needs__25 : decode cX8_needs_ 25 = .ok (.ireturn, 1) := by decide +kernel
theorem dX8_needs__26 : decode cX8_needs_ 26 = .ok (.iconst 0, 1) := by decide +kernel
theorem dX8_needs__27 : decode cX8_needs_ 27 = .ok (.istore_n 2, 1) := by decide +kernel
theorem dX8_needs__28 : decode cX8_needs_ 28 = .ok (.iconst 0, 1) := by decide +kernel
theorem dX8_needs__29 : decode cX8_needs_ 29 = .ok (.istore_n 3, 1) := by decide +kernel
theorem dX8_needs__30 : decode cX8_needs_ 30 = .ok (.iload_n 3, 1) := by decide +kernel
theorem dX8_needs__31 : decode cX8_needs_ 31 = .ok (.aload_n 0, 1) := by decide +kernel
theorem dX8_needs__32 : decode cX8_needs_ 32 = .ok (.getfield 9, 3) := by decide +kernel
theorem dX8_needs__35 : decode cX8_needs_ 35 = .ok (.iconst 4, 1) := by decide +kernel
theorem dX8_needs__36 : decode cX8_needs_ 36 = .ok (.iaload, 1) := by decide +kernel
theorem dX8_needs__37 : decode cX8_needs_ 37 = .ok (.if_icmp .ge 37, 3) := by decide +kernel
theorem dX8_needs__40 : decode cX8_needs_ 40 = .ok (.iload_n 2, 1) := by decide +kernel
theorem dX8_needs__41 : decode cX8_needs_ 41 = .ok (.aload_n 0, 1) := by decide +kernel
theorem dX8_needs__42 : decode cX8_needs_ 42 = .ok (.aload_n 0, 1) := by decide +kernel
theorem dX8_needs__43 : decode cX8_needs_ 43 = .ok (.invokevirtual 304, 3) := by decide +kernel
theorem dX8_needs__46 : decode cX8_needs_ 46 = .ok (.iconst 1, 1) := by decide +kernel
theorem dX8_needs__47 : decode cX8_needs_ 47 = .ok (.iload_n 3, 1) := by decide +kernel
theorem dX8_needs__48 : decode cX8_needs_ 48 = .ok (.ishl, 1) := by decide +kernel
theorem dX8_needs__49 : decode cX8_needs_ 49 = .ok (.iconst (-1), 1) := by decide +kernel
theorem dX8_needs__50 : decode cX8_needs_ 50 = .ok (.ixor, 1) := by decide +kernel
theorem dX8_needs__51 : decode cX8_needs_ 51 = .ok (.iand, 1) := by decide +kernel
theorem dX8_needs__52 : decode cX8_needs_ 52 = .ok (.iload_n 1, 1) := by decide +kernel
theorem dX8_needs__53 : decode cX8_needs_ 53 = .ok (.invokevirtual 345, 3) := by decide +kernel
theorem dX8_needs__56 : decode cX8_needs_ 56 = .ok (.ifCond .eq 7, 3) := by decide +kernel
theorem dX8_needs__59 : decode cX8_needs_ 59 = .ok (.iconst 0, 1) := by decide +kernel
theorem dX8_needs__60 : decode cX8_needs_ 60 = .ok (.goto 6, 3) := by decide +kernel
theorem dX8_needs__63 : decode cX8_needs_ 63 = .ok (.iconst 1, 1) := by decide +kernel
theorem dX8_needs__64 : decode cX8_needs_ 64 = .ok (.iload_n 3, 1) := by decide +kernel
theorem dX8_needs__65 : decode cX8_needs_ 65 = .ok (.ishl, 1) := by decide +kernel
theorem dX8_needs__66 : decode cX8_needs_ 66 = .ok (.ior, 1) := by decide +kernel
theorem dX8_needs__67 : decode cX8_needs_ 67 = .ok (.istore_n 2, 1) := by decide +kernel
theorem dX8_needs__68 : decode cX8_needs_ 68 = .ok (.iinc 3 1, 3) := by decide +kernel
theorem dX8_needs__71 : decode cX8_needs_ 71 = .ok (.goto (-41), 3) := by decide +kernel
theorem dX8_needs__74 : decode cX8_needs_ 74 = .ok (.iload_n 2, 1) := by decide +kernel
theorem dX8_needs__75 : decode cX8_needs_ 75 = .ok (.ireturn, 1) := by decide +kernel
set_option maxRecDepth 4000 in
theorem kX8_needs_ (G : GT) {σ : St} {a1 : Int32} : ∀ (r : Int32) , fX8_needs_ σ a1 = some r → MCt G 5 yX8_needs_ cX8_needs_ 4 (some .int) [.ref (gad G 62), .int a1] σ (some (.int r)) σ := by
  intro r hF
  refine met_i (by decide) (Nat.le_of_ble_eq_true rfl) (fun X cx hE => ?_)
  have cx : Cx G X RX8 cX8_needs_ 4 5 := cx
  have hb66 : ∀ (kr30 : Int32 → Int32 → Int32 → Option (Int32)), (∀ (x1 : Int32) (x2 : Int32) (x3 : Int32) , kr30 x1 x2 x3 = some r → WW G X 4 σ [(0, .ref (gad G 62)), (1, .int x1), (2, .int x2), (3, .int x3)] 30 []) → ∀ (x1 : Int32) (x3 : Int32) (y0 : Int32) (y1 : Int32) , fX8_needs__b66 σ kr30 x1 x3 y0 y1 = some r → WW G X 4 σ [(0, .ref (gad G 62)), (1, .int x1), (3, .int x3)] 66 [.int y1, .int y0] := by
    intro kr30 hk30
    intro x1 x3 y0 y1 hF
    unfold fX8_needs__b66 at hF
    refine ww_ior cx dX8_needs__66 ?_
    refine ww_istore_n (ks := [0, 1, 2, 3]) (lv' := fun v1 => [(2, .int v1), (0, .ref (gad G 62)), (1, .int x1), (3, .int x3)]) cx dX8_needs__67 rfl (by decide) hF (fun _ => rfl) (fun v1 hF => ?_)
    refine ww_iinc (j := 3) (ks := [0, 1, 2, 3]) (lv' := fun v2 => [(3, .int v2), (2, .int v1), (0, .ref (gad G 62)), (1, .int x1)]) cx dX8_needs__68 (by decide) rfl ic_1 hF (fun _ => rfl) (fun v2 hF => ?_)
    refine ww_goto cx dX8_needs__71 (tgt := 30) rfl ?_
    exact ww_sub [2, 3, 1, 0] rfl (hk30 _ _ _ hF)
  have hl30 : ∀ n : Nat, ∀ (x1 : Int32) (x2 : Int32) (x3 : Int32) , fX8_needs__l30 σ n x1 x2 x3 = some r → WW G X 4 σ [(0, .ref (gad G 62)), (1, .int x1), (2, .int x2), (3, .int x3)] 30 [] := by
    intro n
    induction n with
    | zero =>
      intro x1 x2 x3 hF
      exact absurd hF (by intro z; cases z)
    | succ n ih =>
      intro x1 x2 x3 hF
      have hk30 := ih
      have hF : fX8_needs__B30 σ (fX8_needs__l30 σ n) x1 x2 x3 = some r := hF
      unfold fX8_needs__B30 at hF
      refine ww_iload_n cx dX8_needs__30 rfl 3 rfl ?_
      refine ww_aload_n cx dX8_needs__31 rfl 0 rfl ?_
      refine gf_X8_9 cx dX8_needs__32 ?_
      refine ww_iconst cx dX8_needs__35 ic_4 ?_
      refine ww_iald (N := 77) cx (sh_63) dX8_needs__36 hF (fun hF => ?_)
      refine ww_icmp_ge cx dX8_needs__37 (tgt := 74) rfl hF (fun hF => ?_) (fun hF => ?_)
      · refine ww_iload_n cx dX8_needs__74 rfl 2 rfl ?_
        exact ww_rip hE dX8_needs__75 hF
      · refine ww_iload_n cx dX8_needs__40 rfl 2 rfl ?_
        refine ww_aload_n cx dX8_needs__41 rfl 0 rfl ?_
        refine ww_aload_n cx dX8_needs__42 rfl 0 rfl ?_
        refine ww_V0_pi kv_X8_304 rfl cx sh_62 ⟨Nat.le_of_ble_eq_true rfl, Nat.le_of_ble_eq_true rfl⟩ (Nat.le_of_ble_eq_true rfl) dX8_needs__43 (kX8_allSteps G) hF (fun r3 hF => ?_)
        refine ww_iconst cx dX8_needs__46 ic_1 ?_
        refine ww_iload_n cx dX8_needs__47 rfl 3 rfl ?_
        refine ww_ishl cx dX8_needs__48 ?_
        refine ww_iconst cx dX8_needs__49 ic_m1 ?_
        refine ww_ixor cx dX8_needs__50 ?_
        refine ww_iand cx dX8_needs__51 ?_
        refine ww_iload_n cx dX8_needs__52 rfl 1 rfl ?_
        refine ww_V2_pi kv_X8_345 rfl cx sh_62 ⟨Nat.le_of_ble_eq_true rfl, Nat.le_of_ble_eq_true rfl⟩ (Nat.le_of_ble_eq_true rfl) dX8_needs__53 (kX8_isProvedBy G) hF (fun r4 hF => ?_)
        refine ww_if_eq cx dX8_needs__56 (tgt := 63) rfl hF (fun hF => ?_) (fun hF => ?_)
        · refine ww_iconst cx dX8_needs__63 ic_1 ?_
          refine ww_iload_n cx dX8_needs__64 rfl 3 rfl ?_
          refine ww_ishl cx dX8_needs__65 ?_
          exact ww_sub [0, 1, 3] rfl (hb66 _ hk30 _ _ _ _ hF)
        · refine ww_iconst cx dX8_needs__59 ic_0 ?_
          refine ww_goto cx dX8_needs__60 (tgt := 66) rfl ?_
          exact ww_sub [0, 1, 3] rfl (hb66 _ hk30 _ _ _ _ hF)
  unfold fX8_needs_ at hF
  show WW G X 4 σ [(0, .ref (gad G 62)), (1, .int a1)] 0 []
  refine ww_aload_n cx dX8_needs__0 rfl 0 rfl ?_
  refine ww_iload_n cx dX8_needs__1 rfl 1 rfl ?_
  refine ww_i2l cx dX8_needs__2 ?_
  refine ww_V1_pi kv_X8_269 rfl cx sh_62 ⟨Nat.le_of_ble_eq_true rfl, Nat.le_of_ble_eq_true rfl⟩ (Nat.le_of_ble_eq_true rfl) dX8_needs__3 (kX8_isClaim G) hF (fun r5 hF => ?_)
  refine ww_if_ne cx dX8_needs__6 (tgt := 12) rfl hF (fun hF => ?_) (fun hF => ?_)
  · refine ww_aload_n cx dX8_needs__12 rfl 0 rfl ?_
    refine ww_aload_n cx dX8_needs__13 rfl 0 rfl ?_
    refine ww_V0_pi kv_X8_304 rfl cx sh_62 ⟨Nat.le_of_ble_eq_true rfl, Nat.le_of_ble_eq_true rfl⟩ (Nat.le_of_ble_eq_true rfl) dX8_needs__14 (kX8_allSteps G) hF (fun r6 hF => ?_)
    refine ww_iload_n cx dX8_needs__17 rfl 1 rfl ?_
    refine ww_V2_pi kv_X8_345 rfl cx sh_62 ⟨Nat.le_of_ble_eq_true rfl, Nat.le_of_ble_eq_true rfl⟩ (Nat.le_of_ble_eq_true rfl) dX8_needs__18 (kX8_isProvedBy G) hF (fun r7 hF => ?_)
    refine ww_if_ne cx dX8_needs__21 (tgt := 26) rfl hF (fun hF => ?_) (fun hF => ?_)
    · refine ww_iconst cx dX8_needs__26 ic_0 ?_
      refine ww_istore_n (ks := [0, 1, 2]) (lv' := fun v8 => [(2, .int v8), (0, .ref (gad G 62)), (1, .int a1)]) cx dX8_needs__27 rfl (by decide) hF (fun _ => rfl) (fun v8 hF => ?_)
      refine ww_iconst cx dX8_needs__28 ic_0 ?_
      refine ww_istore_n (ks := [0, 1, 2, 3]) (lv' := fun v9 => [(3, .int v9), (2, .int v8), (0, .ref (gad G 62)), (1, .int a1)]) cx dX8_needs__29 rfl (by decide) hF (fun _ => rfl) (fun v9 hF => ?_)
      exact ww_sub [2, 3, 1, 0] rfl (hl30 FU _ _ _ hF)
    · refine ww_iconst cx dX8_needs__24 ic_m1 ?_
      exact ww_rip hE dX8_needs__25 hF
  · refine ww_bipush cx dX8_needs__9 bc_m2 ?_
    exact ww_rip hE dX8_needs__11 hF
theorem dX8_proofOf_0 : decode cX8_proofOf 0 = .ok (.aload_n 0, 1) := by decide +kernel
theorem dX8_proofOf_1 : decode cX8_proofOf 1 = .ok (.aload_n 0, 1) := by decide +kernel
theorem dX8_proofOf_2 : decode cX8_proofOf 2 = .ok (.invokevirtual 257, 3) := by decide +kernel
theorem dX8_proofOf_5 : decode cX8_proofOf 5 = .ok (.aload_n 0, 1) := by decide +kernel
theorem dX8_proofOf_6 : decode cX8_proofOf 6 = .ok (.invokevirtual 304, 3) := by decide +kernel
theorem dX8_proofOf_9 : decode cX8_proofOf 9 = .ok (.iconst 1, 1) := by decide +kernel
theorem dX8_proofOf_10 : decode cX8_proofOf 10 = .ok (.iload_n 1, 1) := by decide +kernel
theorem dX8_proofOf_11 : decode cX8_proofOf 11 = .ok (.ishl, 1) := by decide +kernel
theorem dX8_proofOf_12 : decode cX8_proofOf 12 = .ok (.invokevirtual 339, 3) := by decide +kernel
theorem dX8_proofOf_15 : decode cX8_proofOf 15 = .ok (.ireturn, 1) := by decide +kernel
set_option maxRecDepth 4000 in
theorem kX8_proofOf (G : GT) {σ : St} {a1 : Int32} : ∀ (r : Int32) , fX8_proofOf σ a1 = some r → MCt G 5 yX8_proofOf cX8_proofOf 2 (some .int) [.ref (gad G 62), .int a1] σ (some (.int r)) σ := by
  intro r hF
  refine met_i (by decide) (Nat.le_of_ble_eq_true rfl) (fun X cx hE => ?_)
  have cx : Cx G X RX8 cX8_proofOf 2 5 := cx
  unfold fX8_proofOf at hF
  show WW G X 2 σ [(0, .ref (gad G 62)), (1, .int a1)] 0 []
  refine ww_aload_n cx dX8_proofOf_0 rfl 0 rfl ?_
  refine ww_aload_n cx dX8_proofOf_1 rfl 0 rfl ?_
  refine ww_V0_pi kv_X8_257 rfl cx sh_62 ⟨Nat.le_of_ble_eq_true rfl, Nat.le_of_ble_eq_true rfl⟩ (Nat.le_of_ble_eq_true rfl) dX8_proofOf_2 (kX8_saltNow G) hF (fun r1 hF => ?_)
  refine ww_aload_n cx dX8_proofOf_5 rfl 0 rfl ?_
  refine ww_V0_pi kv_X8_304 rfl cx sh_62 ⟨Nat.le_of_ble_eq_true rfl, Nat.le_of_ble_eq_true rfl⟩ (Nat.le_of_ble_eq_true rfl) dX8_proofOf_6 (kX8_allSteps G) hF (fun r2 hF => ?_)
  refine ww_iconst cx dX8_proofOf_9 ic_1 ?_
  refine ww_iload_n cx dX8_proofOf_10 rfl 1 rfl ?_
  refine ww_ishl cx dX8_proofOf_11 ?_
  refine ww_V3_pi kv_X8_339 rfl cx sh_62 ⟨Nat.le_of_ble_eq_true rfl, Nat.le_of_ble_eq_true rfl⟩ (Nat.le_of_ble_eq_true rfl) dX8_proofOf_12 (kX8_fewestSteps G) hF (fun r3 hF => ?_)
  exact ww_rip hE dX8_proofOf_15 hF
theorem dX8_proved_0 : decode cX8_proved 0 = .ok (.aload_n 0, 1) := by decide +kernel
theorem dX8_proved_1 : decode cX8_proved 1 = .ok (.invokevirtual 291, 3) := by decide +kernel
theorem dX8_proved_4 : decode cX8_proved 4 = .ok (.ifCond .eq 10, 3) := by decide +kernel
theorem dX8_proved_7 : decode cX8_proved 7 = .ok (.aload_n 0, 1) := by decide +kernel
theorem dX8_proved_8 : decode cX8_proved 8 = .ok (.invokevirtual 310, 3) := by decide +kernel
theorem dX8_proved_11 : decode cX8_proved 11 = .ok (.goto 5, 3) := by decide +kernel
theorem dX8_proved_14 : decode cX8_proved 14 = .ok (.bipush (-2), 2) := by decide +kernel
theorem dX8_proved_16 : decode cX8_proved 16 = .ok (.ireturn, 1) := by decide +kernel
set_option maxRecDepth 4000 in
theorem kX8_proved (G : GT) {σ : St} : ∀ (r : Int32) , fX8_proved σ = some r → MCt G 5 yX8_proved cX8_proved 1 (some .int) [.ref (gad G 62)] σ (some (.int r)) σ := by
  intro r hF
  refine met_i (by decide) (Nat.le_of_ble_eq_true rfl) (fun X cx hE => ?_)
  have cx : Cx G X RX8 cX8_proved 1 5 := cx
  unfold fX8_proved at hF
  show WW G X 1 σ [(0, .ref (gad G 62))] 0 []
  refine ww_aload_n cx dX8_proved_0 rfl 0 rfl ?_
  refine ww_V0_pi kv_X8_291 rfl cx sh_62 ⟨Nat.le_of_ble_eq_true rfl, Nat.le_of_ble_eq_true rfl⟩ (Nat.le_of_ble_eq_true rfl) dX8_proved_1 (kX8_isTable G) hF (fun r1 hF => ?_)
  refine ww_if_eq cx dX8_proved_4 (tgt := 14) rfl hF (fun hF => ?_) (fun hF => ?_)
  · refine ww_bipush cx dX8_proved_14 bc_m2 ?_
    exact ww_rip hE dX8_proved_16 hF
  · refine ww_aload_n cx dX8_proved_7 rfl 0 rfl ?_
    refine ww_V0_pi kv_X8_310 rfl cx sh_62 ⟨Nat.le_of_ble_eq_true rfl, Nat.le_of_ble_eq_true rfl⟩ (Nat.le_of_ble_eq_true rfl) dX8_proved_8 (kX8_provedNow G) hF (fun r2 hF => ?_)
    refine ww_goto cx dX8_proved_11 (tgt := 16) rfl ?_
    exact ww_rip hE dX8_proved_16 hF
