theorem dX3_read_0 : decode cX3_read 0 = .ok (.aload_n 0, 1) := by decide +kernel
theorem dX3_read_1 : decode cX3_read 1 = .ok (.iconst 0, 1) := by decide +kernel
theorem dX3_read_2 : decode cX3_read 2 = .ok (.putfield 15, 3) := by decide +kernel
theorem dX3_read_5 : decode cX3_read 5 = .ok (.aload_n 0, 1) := by decide +kernel
theorem dX3_read_6 : decode cX3_read 6 = .ok (.iconst 0, 1) := by decide +kernel
theorem dX3_read_7 : decode cX3_read 7 = .ok (.putfield 19, 3) := by decide +kernel
theorem dX3_read_10 : decode cX3_read 10 = .ok (.aload_n 0, 1) := by decide +kernel
theorem dX3_read_11 : decode cX3_read 11 = .ok (.aload_n 1, 1) := by decide +kernel
theorem dX3_read_12 : decode cX3_read 12 = .ok (.getfield 22, 3) := by decide +kernel
theorem dX3_read_15 : decode cX3_read 15 = .ok (.putfield 27, 3) := by decide +kernel
theorem dX3_read_18 : decode cX3_read 18 = .ok (.iconst 0, 1) := by decide +kernel
theorem dX3_read_19 : decode cX3_read 19 = .ok (.istore_n 3, 1) := by decide +kernel
theorem dX3_read_20 : decode cX3_read 20 = .ok (.iload_n 3, 1) := by decide +kernel
theorem dX3_read_21 : decode cX3_read 21 = .ok (.bipush 12, 2) := by decide +kernel
theorem dX3_read_23 : decode cX3_read 23 = .ok (.if_icmp .ge 16, 3) := by decide +kernel
theorem dX3_read_26 : decode cX3_read 26 = .ok (.aload_n 0, 1) := by decide +kernel
theorem dX3_read_27 : decode cX3_read 27 = .ok (.getfield 9, 3) := by decide +kernel
theorem dX3_read_30 : decode cX3_read 30 = .ok (.iload_n 3, 1) := by decide +kernel
theorem dX3_read_31 : decode cX3_read 31 = .ok (.iconst 0, 1) := by decide +kernel
theorem dX3_read_32 : decode cX3_read 32 = .ok (.iastore, 1) := by decide +kernel
theorem dX3_read_33 : decode cX3_read 33 = .ok (.iinc 3 1, 3) := by decide +kernel
theorem dX3_read_36 : decode cX3_read 36 = .ok (.goto (-16), 3) := by decide +kernel
theorem dX3_read_39 : decode cX3_read 39 = .ok (.iconst 0, 1) := by decide +kernel
theorem dX3_read_40 : decode cX3_read 40 = .ok (.istore_n 3, 1) := by decide +kernel
theorem dX3_read_41 : decode cX3_read 41 = .ok (.iload_n 3, 1) := by decide +kernel
theorem dX3_read_42 : decode cX3_read 42 = .ok (.aload_n 2, 1) := by decide +kernel
theorem dX3_read_43 : decode cX3_read 43 = .ok (.getfield 30, 3) := by decide +kernel
theorem dX3_read_46 : decode cX3_read 46 = .ok (.if_icmp .ge 100, 3) := by decide +kernel
theorem dX3_read_49 : decode cX3_read 49 = .ok (.aload_n 0, 1) := by decide +kernel
theorem dX3_read_50 : decode cX3_read 50 = .ok (.getfield 19, 3) := by decide +kernel
theorem dX3_read_53 : decode cX3_read 53 = .ok (.ifCond .ne 93, 3) := by decide +kernel
theorem dX3_read_56 : decode cX3_read 56 = .ok (.aload_n 2, 1) := by decide +kernel
theorem dX3_read_57 : decode cX3_read 57 = .ok (.getfield 35, 3) := by decide +kernel
theorem dX3_read_60 : decode cX3_read 60 = .ok (.iload_n 3, 1) := by decide +kernel
theorem dX3_read_61 : decode cX3_read 61 = .ok (.laload, 1) := by decide +kernel
theorem dX3_read_62 : decode cX3_read 62 = .ok (.l2i, 1) := by decide +kernel
theorem dX3_read_63 : decode cX3_read 63 = .ok (.istore 4, 2) := by decide +kernel
theorem dX3_read_65 : decode cX3_read 65 = .ok (.aload_n 0, 1) := by decide +kernel
theorem dX3_read_66 : decode cX3_read 66 = .ok (.aload_n 0, 1) := by decide +kernel
theorem dX3_read_67 : decode cX3_read 67 = .ok (.aload_n 1, 1) := by decide +kernel
theorem dX3_read_68 : decode cX3_read 68 = .ok (.iload 4, 2) := by decide +kernel
theorem dX3_read_70 : decode cX3_read 70 = .ok (.invokevirtual 39, 3) := by decide +kernel
theorem dX3_read_73 : decode cX3_read 73 = .ok (.putfield 19, 3) := by decide +kernel
theorem dX3_read_76 : decode cX3_read 76 = .ok (.aload_n 0, 1) := by decide +kernel
theorem dX3_read_77 : decode cX3_read 77 = .ok (.getfield 19, 3) := by decide +kernel
theorem dX3_read_80 : decode cX3_read 80 = .ok (.ifCond .ne 60, 3) := by decide +kernel
theorem dX3_read_83 : decode cX3_read 83 = .ok (.aload_n 0, 1) := by decide +kernel
theorem dX3_read_84 : decode cX3_read 84 = .ok (.getfield 9, 3) := by decide +kernel
theorem dX3_read_87 : decode cX3_read 87 = .ok (.aload_n 1, 1) := by decide +kernel
theorem dX3_read_88 : decode cX3_read 88 = .ok (.getfield 43, 3) := by decide +kernel
theorem dX3_read_91 : decode cX3_read 91 = .ok (.iload 4, 2) := by decide +kernel
theorem dX3_read_93 : decode cX3_read 93 = .ok (.iaload, 1) := by decide +kernel
theorem dX3_read_94 : decode cX3_read 94 = .ok (.iconst 1, 1) := by decide +kernel
theorem dX3_read_95 : decode cX3_read 95 = .ok (.iload 4, 2) := by decide +kernel
theorem dX3_read_97 : decode cX3_read 97 = .ok (.ishl, 1) := by decide +kernel
theorem dX3_read_98 : decode cX3_read 98 = .ok (.aload_n 0, 1) := by decide +kernel
theorem dX3_read_99 : decode cX3_read 99 = .ok (.aload_n 1, 1) := by decide +kernel
theorem dX3_read_100 : decode cX3_read 100 = .ok (.aload_n 1, 1) := by decide +kernel
theorem dX3_read_101 : decode cX3_read 101 = .ok (.getfield 46, 3) := by decide +kernel
theorem dX3_read_104 : decode cX3_read 104 = .ok (.iload 4, 2) := by decide +kernel
theorem dX3_read_106 : decode cX3_read 106 = .ok (.iaload, 1) := by decide +kernel
theorem dX3_read_107 : decode cX3_read 107 = .ok (.invokevirtual 49, 3) := by decide +kernel
theorem dX3_read_110 : decode cX3_read 110 = .ok (.ior, 1) := by decide +kernel
theorem dX3_read_111 : decode cX3_read 111 = .ok (.iastore, 1) := by decide +kernel
theorem dX3_read_112 : decode cX3_read 112 = .ok (.aload_n 0, 1) := by decide +kernel
theorem dX3_read_113 : decode cX3_read 113 = .ok (.dup, 1) := by decide +kernel
theorem dX3_read_114 : decode cX3_read 114 = .ok (.getfield 27, 3) := by decide +kernel
theorem dX3_read_117 : decode cX3_read 117 = .ok (.iconst 1, 1) := by decide +kernel
theorem dX3_read_118 : decode cX3_read 118 = .ok (.aload_n 1, 1) := by decide +kernel
theorem dX3_read_119 : decode cX3_read 119 = .ok (.getfield 43, 3) := by decide +kernel
theorem dX3_read_122 : decode cX3_read 122 = .ok (.iload 4, 2) := by decide +kernel
theorem dX3_read_124 : decode cX3_read 124 = .ok (.iaload, 1) := by decide +kernel
theorem dX3_read_125 : decode cX3_read 125 = .ok (.ishl, 1) := by decide +kernel
theorem dX3_read_126 : decode cX3_read 126 = .ok (.ior, 1) := by decide +kernel
theorem dX3_read_127 : decode cX3_read 127 = .ok (.putfield 27, 3) := by decide +kernel
theorem dX3_read_130 : decode cX3_read 130 = .ok (.aload_n 0, 1) := by decide +kernel
theorem dX3_read_131 : decode cX3_read 131 = .ok (.dup, 1) := by decide +kernel
theorem dX3_read_132 : decode cX3_read 132 = .ok (.getfield 15, 3) := by decide +kernel
theorem dX3_read_135 : decode cX3_read 135 = .ok (.iconst 1, 1) := by decide +kernel
theorem dX3_read_136 : decode cX3_read 136 = .ok (.iadd, 1) := by decide +kernel
theorem dX3_read_137 : decode cX3_read 137 = .ok (.putfield 15, 3) := by decide +kernel
theorem dX3_read_140 : decode cX3_read 140 = .ok (.iinc 3 1, 3) := by decide +kernel
theorem dX3_read_143 : decode cX3_read 143 = .ok (.goto (-102), 3) := by decide +kernel
theorem dX3_read_146 : decode cX3_read 146 = .ok (.return_, 1) := by decide +kernel
set_option maxRecDepth 4000 in
theorem kX3_read (G : GT) {σ : St} {t : Nat} {w : Nat} (ht : isTab t) (hw : isRow w) : ∀ (σo : St) , fX3_read σ t w = some σo → MCt G 2 yX3_read cX3_read 5 (none) [.ref (gad G 53), .ref (gad G t), .ref (gad G w)] σ (none) σo := by
  intro σo hF
  refine met_v (by decide) (Nat.le_of_ble_eq_true rfl) (fun X cx hE => ?_)
  have cx : Cx G X RX3 cX3_read 5 2 := cx
  have hl41 : ∀ n : Nat, ∀ (σ : St) (x3 : Int32) , fX3_read_l41 t w n σ x3 = some σo → WW G X 5 σ [(0, .ref (gad G 53)), (1, .ref (gad G t)), (2, .ref (gad G w)), (3, .int x3)] 41 [] := by
    intro n
    induction n with
    | zero =>
      intro σ x3 hF
      exact absurd hF (by intro z; cases z)
    | succ n ih =>
      intro σ x3 hF
      have hk41 := ih
      have hF : fX3_read_B41 t w (fX3_read_l41 t w n) σ x3 = some σo := hF
      unfold fX3_read_B41 at hF
      refine ww_iload_n cx dX3_read_41 rfl 3 rfl ?_
      refine ww_aload_n cx dX3_read_42 rfl 2 rfl ?_
      refine gf_X3_30 cx (hw) dX3_read_43 ?_
      refine ww_icmp_ge cx dX3_read_46 (tgt := 146) rfl hF (fun hF => ?_) (fun hF => ?_)
      · exact ww_rvs hE dX3_read_146 hF
      · refine ww_aload_n cx dX3_read_49 rfl 0 rfl ?_
        refine gf_X3_19 cx dX3_read_50 ?_
        refine ww_if_ne cx dX3_read_53 (tgt := 146) rfl hF (fun hF => ?_) (fun hF => ?_)
        · exact ww_rvs hE dX3_read_146 hF
        · refine ww_aload_n cx dX3_read_56 rfl 2 rfl ?_
          refine gf_X3_35 cx (hw) dX3_read_57 ?_
          refine ww_iload_n cx dX3_read_60 rfl 3 rfl ?_
          refine ww_lald (N := 60) cx (ar_X4_3 hw) dX3_read_61 hF (fun hF => ?_)
          refine ww_l2i cx dX3_read_62 ?_
          refine ww_istore (ks := [0, 1, 2, 3, 4]) (lv' := fun v1 => [(4, .int v1), (0, .ref (gad G 53)), (1, .ref (gad G t)), (2, .ref (gad G w)), (3, .int x3)]) cx dX3_read_63 (by decide) hF (fun _ => rfl) (fun v1 hF => ?_)
          refine ww_aload_n cx dX3_read_65 rfl 1 rfl ?_
          refine ww_aload_n cx dX3_read_66 rfl 1 rfl ?_
          refine ww_aload_n cx dX3_read_67 rfl 2 rfl ?_
          refine ww_iload cx dX3_read_68 0 rfl ?_
          refine ww_V2_pi kv_X3_39 rfl cx sh_53 ⟨Nat.le_of_ble_eq_true rfl, Nat.le_of_ble_eq_true rfl⟩ (Nat.le_of_ble_eq_true rfl) dX3_read_70 (kX3_reasonAgainst G (ht)) hF (fun r2 hF => ?_)
          refine pf_X3_19 cx dX3_read_73 hF (fun σ3 hF => ?_)
          refine ww_aload_n cx dX3_read_76 rfl 1 rfl ?_
          refine gf_X3_19 cx dX3_read_77 ?_
          refine ww_if_ne cx dX3_read_80 (tgt := 140) rfl hF (fun hF => ?_) (fun hF => ?_)
          · refine ww_iinc (j := 4) (ks := [0, 2, 3, 4]) (lv' := fun v4 => [(3, .int v4), (0, .ref (gad G 53)), (1, .ref (gad G t)), (2, .ref (gad G w))]) cx dX3_read_140 (by decide) rfl ic_1 hF (fun _ => rfl) (fun v4 hF => ?_)
            refine ww_goto cx dX3_read_143 (tgt := 41) rfl ?_
            exact ww_sub [1, 2, 3, 0] rfl (hk41 _ _ hF)
          · refine ww_aload_n cx dX3_read_83 rfl 1 rfl ?_
            refine gf_X3_9 cx dX3_read_84 ?_
            refine ww_aload_n cx dX3_read_87 rfl 2 rfl ?_
            refine gf_X3_43 cx (ht) dX3_read_88 ?_
            refine ww_iload cx dX3_read_91 0 rfl ?_
            refine ww_iald (N := 12) cx (ar_X6_10 ht) dX3_read_93 hF (fun hF => ?_)
            refine ww_iconst cx dX3_read_94 ic_1 ?_
            refine ww_iload cx dX3_read_95 0 rfl ?_
            refine ww_ishl cx dX3_read_97 ?_
            refine ww_aload_n cx dX3_read_98 rfl 1 rfl ?_
            refine ww_aload_n cx dX3_read_99 rfl 2 rfl ?_
            refine ww_aload_n cx dX3_read_100 rfl 2 rfl ?_
            refine gf_X3_46 cx (ht) dX3_read_101 ?_
            refine ww_iload cx dX3_read_104 0 rfl ?_
            refine ww_iald (N := 12) cx (ar_X6_11 ht) dX3_read_106 hF (fun hF => ?_)
            refine ww_V2_pi kv_X3_49 rfl cx sh_53 ⟨Nat.le_of_ble_eq_true rfl, Nat.le_of_ble_eq_true rfl⟩ (Nat.le_of_ble_eq_true rfl) dX3_read_107 (kX3_usedForAll G (ht)) hF (fun r5 hF => ?_)
            refine ww_ior cx dX3_read_110 ?_
            refine ww_iast (N := 12) cx (sh_54) dX3_read_111 hF (fun σ6 hF => ?_)
            refine ww_aload_n cx dX3_read_112 rfl 1 rfl ?_
            refine ww_dup cx dX3_read_113 rfl ?_
            refine gf_X3_27 cx dX3_read_114 ?_
            refine ww_iconst cx dX3_read_117 ic_1 ?_
            refine ww_aload_n cx dX3_read_118 rfl 2 rfl ?_
            refine gf_X3_43 cx (ht) dX3_read_119 ?_
            refine ww_iload cx dX3_read_122 0 rfl ?_
            refine ww_iald (N := 12) cx (ar_X6_10 ht) dX3_read_124 hF (fun hF => ?_)
            refine ww_ishl cx dX3_read_125 ?_
            refine ww_ior cx dX3_read_126 ?_
            refine pf_X3_27 cx dX3_read_127 hF (fun σ7 hF => ?_)
            refine ww_aload_n cx dX3_read_130 rfl 1 rfl ?_
            refine ww_dup cx dX3_read_131 rfl ?_
            refine gf_X3_15 cx dX3_read_132 ?_
            refine ww_iconst cx dX3_read_135 ic_1 ?_
            refine ww_iadd cx dX3_read_136 ?_
            refine pf_X3_15 cx dX3_read_137 hF (fun σ8 hF => ?_)
            refine ww_iinc (j := 4) (ks := [0, 2, 3, 4]) (lv' := fun v9 => [(3, .int v9), (0, .ref (gad G 53)), (1, .ref (gad G t)), (2, .ref (gad G w))]) cx dX3_read_140 (by decide) rfl ic_1 hF (fun _ => rfl) (fun v9 hF => ?_)
            refine ww_goto cx dX3_read_143 (tgt := 41) rfl ?_
            exact ww_sub [1, 2, 3, 0] rfl (hk41 _ _ hF)
  have hl20 : ∀ n : Nat, ∀ (σ : St) (x3 : Int32) , fX3_read_l20 t w n σ x3 = some σo → WW G X 5 σ [(0, .ref (gad G 53)), (1, .ref (gad G t)), (2, .ref (gad G w)), (3, .int x3)] 20 [] := by
    intro n
    induction n with
    | zero =>
      intro σ x3 hF
      exact absurd hF (by intro z; cases z)
    | succ n ih =>
      intro σ x3 hF
      have hk20 := ih
      have hF : fX3_read_B20 t w (fX3_read_l20 t w n) σ x3 = some σo := hF
      unfold fX3_read_B20 at hF
      refine ww_iload_n cx dX3_read_20 rfl 3 rfl ?_
      refine ww_bipush cx dX3_read_21 bc_12 ?_
      refine ww_icmp_ge cx dX3_read_23 (tgt := 39) rfl hF (fun hF => ?_) (fun hF => ?_)
      · refine ww_iconst cx dX3_read_39 ic_0 ?_
        refine ww_istore_n (ks := [0, 1, 2, 3]) (lv' := fun v10 => [(3, .int v10), (0, .ref (gad G 53)), (1, .ref (gad G t)), (2, .ref (gad G w))]) cx dX3_read_40 rfl (by decide) hF (fun _ => rfl) (fun v10 hF => ?_)
        exact ww_sub [1, 2, 3, 0] rfl (hl41 FU _ _ hF)
      · refine ww_aload_n cx dX3_read_26 rfl 0 rfl ?_
        refine gf_X3_9 cx dX3_read_27 ?_
        refine ww_iload_n cx dX3_read_30 rfl 3 rfl ?_
        refine ww_iconst cx dX3_read_31 ic_0 ?_
        refine ww_iast (N := 12) cx (sh_54) dX3_read_32 hF (fun σ11 hF => ?_)
        refine ww_iinc (j := 3) (ks := [0, 1, 2, 3]) (lv' := fun v12 => [(3, .int v12), (0, .ref (gad G 53)), (1, .ref (gad G t)), (2, .ref (gad G w))]) cx dX3_read_33 (by decide) rfl ic_1 hF (fun _ => rfl) (fun v12 hF => ?_)
        refine ww_goto cx dX3_read_36 (tgt := 20) rfl ?_
        exact ww_sub [1, 2, 3, 0] rfl (hk20 _ _ hF)
  unfold fX3_read at hF
  show WW G X 5 σ [(0, .ref (gad G 53)), (1, .ref (gad G t)), (2, .ref (gad G w))] 0 []
  refine ww_aload_n cx dX3_read_0 rfl 0 rfl ?_
  refine ww_iconst cx dX3_read_1 ic_0 ?_
  refine pf_X3_15 cx dX3_read_2 hF (fun σ13 hF => ?_)
  refine ww_aload_n cx dX3_read_5 rfl 0 rfl ?_
  refine ww_iconst cx dX3_read_6 ic_0 ?_
  refine pf_X3_19 cx dX3_read_7 hF (fun σ14 hF => ?_)
  refine ww_aload_n cx dX3_read_10 rfl 0 rfl ?_
  refine ww_aload_n cx dX3_read_11 rfl 1 rfl ?_
  refine gf_X3_22 cx (ht) dX3_read_12 ?_
  refine pf_X3_27 cx dX3_read_15 hF (fun σ15 hF => ?_)
  refine ww_iconst cx dX3_read_18 ic_0 ?_
  refine ww_istore_n (ks := [0, 1, 2, 3]) (lv' := fun v16 => [(3, .int v16), (0, .ref (gad G 53)), (1, .ref (gad G t)), (2, .ref (gad G w))]) cx dX3_read_19 rfl (by decide) hF (fun _ => rfl) (fun v16 hF => ?_)
  exact ww_sub [1, 2, 3, 0] rfl (hl20 FU _ _ hF)
theorem dX3_worthEaten_0 : decode cX3_worthEaten 0 = .ok (.aload_n 1, 1) := by decide +kernel
theorem dX3_worthEaten_1 : decode cX3_worthEaten 1 = .ok (.getfield 22, 3) := by decide +kernel
theorem dX3_worthEaten_4 : decode cX3_worthEaten 4 = .ok (.istore 4, 2) := by decide +kernel
theorem dX3_worthEaten_6 : decode cX3_worthEaten 6 = .ok (.aload_n 2, 1) := by decide +kernel
theorem dX3_worthEaten_7 : decode cX3_worthEaten 7 = .ok (.getfield 30, 3) := by decide +kernel
theorem dX3_worthEaten_10 : decode cX3_worthEaten 10 = .ok (.aload_n 1, 1) := by decide +kernel
theorem dX3_worthEaten_11 : decode cX3_worthEaten 11 = .ok (.iload_n 3, 1) := by decide +kernel
theorem dX3_worthEaten_12 : decode cX3_worthEaten 12 = .ok (.invokevirtual 55, 3) := by decide +kernel
theorem dX3_worthEaten_15 : decode cX3_worthEaten 15 = .ok (.invokestatic 59, 3) := by decide +kernel
theorem dX3_worthEaten_18 : decode cX3_worthEaten 18 = .ok (.istore 5, 2) := by decide +kernel
theorem dX3_worthEaten_20 : decode cX3_worthEaten 20 = .ok (.iconst 0, 1) := by decide +kernel
theorem dX3_worthEaten_21 : decode cX3_worthEaten 21 = .ok (.istore 6, 2) := by decide +kernel
theorem dX3_worthEaten_23 : decode cX3_worthEaten 23 = .ok (.iload 6, 2) := by decide +kernel
theorem dX3_worthEaten_25 : decode cX3_worthEaten 25 = .ok (.iload 5, 2) := by decide +kernel
theorem dX3_worthEaten_27 : decode cX3_worthEaten 27 = .ok (.if_icmp .ge 74, 3) := by decide +kernel
theorem dX3_worthEaten_30 : decode cX3_worthEaten 30 = .ok (.aload_n 2, 1) := by decide +kernel
theorem dX3_worthEaten_31 : decode cX3_worthEaten 31 = .ok (.getfield 35, 3) := by decide +kernel
theorem dX3_worthEaten_34 : decode cX3_worthEaten 34 = .ok (.iload 6, 2) := by decide +kernel
theorem dX3_worthEaten_36 : decode cX3_worthEaten 36 = .ok (.laload, 1) := by decide +kernel
theorem dX3_worthEaten_37 : decode cX3_worthEaten 37 = .ok (.l2i, 1) := by decide +kernel
theorem dX3_worthEaten_38 : decode cX3_worthEaten 38 = .ok (.istore 7, 2) := by decide +kernel
theorem dX3_worthEaten_40 : decode cX3_worthEaten 40 = .ok (.aload_n 1, 1) := by decide +kernel
theorem dX3_worthEaten_41 : decode cX3_worthEaten 41 = .ok (.getfield 65, 3) := by decide +kernel
theorem dX3_worthEaten_44 : decode cX3_worthEaten 44 = .ok (.iload_n 3, 1) := by decide +kernel
theorem dX3_worthEaten_45 : decode cX3_worthEaten 45 = .ok (.iaload, 1) := by decide +kernel
theorem dX3_worthEaten_46 : decode cX3_worthEaten 46 = .ok (.iload 7, 2) := by decide +kernel
theorem dX3_worthEaten_48 : decode cX3_worthEaten 48 = .ok (.ishr, 1) := by decide +kernel
theorem dX3_worthEaten_49 : decode cX3_worthEaten 49 = .ok (.iconst 1, 1) := by decide +kernel
theorem dX3_worthEaten_50 : decode cX3_worthEaten 50 = .ok (.iand, 1) := by decide +kernel
theorem dX3_worthEaten_51 : decode cX3_worthEaten 51 = .ok (.iconst 1, 1) := by decide +kernel
theorem dX3_worthEaten_52 : decode cX3_worthEaten 52 = .ok (.if_icmp .ne 7, 3) := by decide +kernel
theorem dX3_worthEaten_55 : decode cX3_worthEaten 55 = .ok (.iconst 1, 1) := by decide +kernel
theorem dX3_worthEaten_56 : decode cX3_worthEaten 56 = .ok (.goto 4, 3) := by decide +kernel
theorem dX3_worthEaten_59 : decode cX3_worthEaten 59 = .ok (.iconst 0, 1) := by decide +kernel
theorem dX3_worthEaten_60 : decode cX3_worthEaten 60 = .ok (.istore 8, 2) := by decide +kernel
theorem dX3_worthEaten_62 : decode cX3_worthEaten 62 = .ok (.iload 8, 2) := by decide +kernel
theorem dX3_worthEaten_64 : decode cX3_worthEaten 64 = .ok (.ifCond .eq 37, 3) := by decide +kernel
theorem dX3_worthEaten_67 : decode cX3_worthEaten 67 = .ok (.aload_n 1, 1) := by decide +kernel
theorem dX3_worthEaten_68 : decode cX3_worthEaten 68 = .ok (.iload 7, 2) := by decide +kernel
theorem dX3_worthEaten_70 : decode cX3_worthEaten 70 = .ok (.iload 4, 2) := by decide +kernel
theorem dX3_worthEaten_72 : decode cX3_worthEaten 72 = .ok (.invokevirtual 68, 3) := by decide +kernel
theorem dX3_worthEaten_75 : decode cX3_worthEaten 75 = .ok (.ifCond .ne 6, 3) := by decide +kernel
theorem dX3_worthEaten_78 : decode cX3_worthEaten 78 = .ok (.goto 23, 3) := by decide +kernel
theorem dX3_worthEaten_81 : decode cX3_worthEaten 81 = .ok (.iload 4, 2) := by decide +kernel
theorem dX3_worthEaten_83 : decode cX3_worthEaten 83 = .ok (.iconst 1, 1) := by decide +kernel
theorem dX3_worthEaten_84 : decode cX3_worthEaten 84 = .ok (.aload_n 1, 1) := by decide +kernel
theorem dX3_worthEaten_85 : decode cX3_worthEaten 85 = .ok (.getfield 43, 3) := by decide +kernel
theorem dX3_worthEaten_88 : decode cX3_worthEaten 88 = .ok (.iload 7, 2) := by decide +kernel
theorem dX3_worthEaten_90 : decode cX3_worthEaten 90 = .ok (.iaload, 1) := by decide +kernel
theorem dX3_worthEaten_91 : decode cX3_worthEaten 91 = .ok (.ishl, 1) := by decide +kernel
theorem dX3_worthEaten_92 : decode cX3_worthEaten 92 = .ok (.ior, 1) := by decide +kernel
theorem dX3_worthEaten_93 : decode cX3_worthEaten 93 = .ok (.istore 4, 2) := by decide +kernel
theorem dX3_worthEaten_95 : decode cX3_worthEaten 95 = .ok (.iinc 6 1, 3) := by decide +kernel
theorem dX3_worthEaten_98 : decode cX3_worthEaten 98 = .ok (.goto (-75), 3) := by decide +kernel
theorem dX3_worthEaten_101 : decode cX3_worthEaten 101 = .ok (.aload_n 1, 1) := by decide +kernel
theorem dX3_worthEaten_102 : decode cX3_worthEaten 102 = .ok (.iload 4, 2) := by decide +kernel
theorem dX3_worthEaten_104 : decode cX3_worthEaten 104 = .ok (.aload_n 1, 1) := by decide +kernel
theorem dX3_worthEaten_105 : decode cX3_worthEaten 105 = .ok (.getfield 22, 3) := by decide +kernel
theorem dX3_worthEaten_108 : decode cX3_worthEaten 108 = .ok (.iconst (-1), 1) := by decide +kernel
theorem dX3_worthEaten_109 : decode cX3_worthEaten 109 = .ok (.ixor, 1) := by decide +kernel
theorem dX3_worthEaten_110 : decode cX3_worthEaten 110 = .ok (.iand, 1) := by decide +kernel
theorem dX3_worthEaten_111 : decode cX3_worthEaten 111 = .ok (.invokevirtual 72, 3) := by decide +kernel
theorem dX3_worthEaten_114 : decode cX3_worthEaten 114 = .ok (.ireturn, 1) := by decide +kernel
set_option maxRecDepth 4000 in
theorem kX3_worthEaten (G : GT) {σ : St} {t : Nat} {w : Nat} {a3 : Int32} (ht : isTab t) (hw : isRow w) : ∀ (r : Int32) , fX3_worthEaten σ t w a3 = some r → MCt G 2 yX3_worthEaten cX3_worthEaten 9 (some .int) [.ref (gad G 53), .ref (gad G t), .ref (gad G w), .int a3] σ (some (.int r)) σ := by
  intro r hF
  refine met_i (by decide) (Nat.le_of_ble_eq_true rfl) (fun X cx hE => ?_)
  have cx : Cx G X RX3 cX3_worthEaten 9 2 := cx
  have hb101 : ∀ (x4 : Int32) , fX3_worthEaten_b101 σ t w x4 = some r → WW G X 9 σ [(1, .ref (gad G t)), (4, .int x4)] 101 [] := by
    intro x4 hF
    unfold fX3_worthEaten_b101 at hF
    refine ww_aload_n cx dX3_worthEaten_101 rfl 0 rfl ?_
    refine ww_iload cx dX3_worthEaten_102 1 rfl ?_
    refine ww_aload_n cx dX3_worthEaten_104 rfl 0 rfl ?_
    refine gf_X3_22 cx (ht) dX3_worthEaten_105 ?_
    refine ww_iconst cx dX3_worthEaten_108 ic_m1 ?_
    refine ww_ixor cx dX3_worthEaten_109 ?_
    refine ww_iand cx dX3_worthEaten_110 ?_
    refine ww_V1_pi kv_X3_72 rfl cx ((ht).1) ⟨Nat.le_of_ble_eq_true rfl, Nat.le_of_ble_eq_true rfl⟩ (Nat.le_of_ble_eq_true rfl) dX3_worthEaten_111 (kX6_worthOf G (ht)) hF (fun r1 hF => ?_)
    exact ww_rip hE dX3_worthEaten_114 hF
  have hb60 : ∀ (kr23 : Int32 → Int32 → Int32 → Int32 → Option (Int32)), (∀ (x3 : Int32) (x4 : Int32) (x5 : Int32) (x6 : Int32) , kr23 x3 x4 x5 x6 = some r → WW G X 9 σ [(1, .ref (gad G t)), (2, .ref (gad G w)), (3, .int x3), (4, .int x4), (5, .int x5), (6, .int x6)] 23 []) → ∀ (x3 : Int32) (x4 : Int32) (x5 : Int32) (x6 : Int32) (x7 : Int32) (y0 : Int32) , fX3_worthEaten_b60 σ t w kr23 x3 x4 x5 x6 x7 y0 = some r → WW G X 9 σ [(1, .ref (gad G t)), (2, .ref (gad G w)), (3, .int x3), (4, .int x4), (5, .int x5), (6, .int x6), (7, .int x7)] 60 [.int y0] := by
    intro kr23 hk23
    intro x3 x4 x5 x6 x7 y0 hF
    unfold fX3_worthEaten_b60 at hF
    refine ww_istore (ks := [0, 1, 2, 3, 4, 5, 6, 7]) (lv' := fun v2 => [(8, .int v2), (1, .ref (gad G t)), (2, .ref (gad G w)), (3, .int x3), (4, .int x4), (5, .int x5), (6, .int x6), (7, .int x7)]) cx dX3_worthEaten_60 (by decide) hF (fun _ => rfl) (fun v2 hF => ?_)
    refine ww_iload cx dX3_worthEaten_62 0 rfl ?_
    refine ww_if_eq cx dX3_worthEaten_64 (tgt := 101) rfl hF (fun hF => ?_) (fun hF => ?_)
    · exact ww_sub [1, 4] rfl (hb101 _ hF)
    · refine ww_aload_n cx dX3_worthEaten_67 rfl 1 rfl ?_
      refine ww_iload cx dX3_worthEaten_68 7 rfl ?_
      refine ww_iload cx dX3_worthEaten_70 4 rfl ?_
      refine ww_V2_pi kv_X3_68 rfl cx ((ht).1) ⟨Nat.le_of_ble_eq_true rfl, Nat.le_of_ble_eq_true rfl⟩ (Nat.le_of_ble_eq_true rfl) dX3_worthEaten_72 (kX6_goes G (ht)) hF (fun r3 hF => ?_)
      refine ww_if_ne cx dX3_worthEaten_75 (tgt := 81) rfl hF (fun hF => ?_) (fun hF => ?_)
      · refine ww_iload cx dX3_worthEaten_81 4 rfl ?_
        refine ww_iconst cx dX3_worthEaten_83 ic_1 ?_
        refine ww_aload_n cx dX3_worthEaten_84 rfl 1 rfl ?_
        refine gf_X3_43 cx (ht) dX3_worthEaten_85 ?_
        refine ww_iload cx dX3_worthEaten_88 7 rfl ?_
        refine ww_iald (N := 12) cx (ar_X6_10 ht) dX3_worthEaten_90 hF (fun hF => ?_)
        refine ww_ishl cx dX3_worthEaten_91 ?_
        refine ww_ior cx dX3_worthEaten_92 ?_
        refine ww_istore (ks := [0, 2, 3, 4, 5, 6]) (lv' := fun v4 => [(4, .int v4), (1, .ref (gad G t)), (2, .ref (gad G w)), (3, .int x3), (5, .int x5), (6, .int x6)]) cx dX3_worthEaten_93 (by decide) hF (fun _ => rfl) (fun v4 hF => ?_)
        refine ww_iinc (j := 5) (ks := [0, 1, 2, 3, 4, 5]) (lv' := fun v5 => [(6, .int v5), (4, .int v4), (1, .ref (gad G t)), (2, .ref (gad G w)), (3, .int x3), (5, .int x5)]) cx dX3_worthEaten_95 (by decide) rfl ic_1 hF (fun _ => rfl) (fun v5 hF => ?_)
        refine ww_goto cx dX3_worthEaten_98 (tgt := 23) rfl ?_
        exact ww_sub [2, 3, 4, 1, 5, 0] rfl (hk23 _ _ _ _ hF)
      · refine ww_goto cx dX3_worthEaten_78 (tgt := 101) rfl ?_
        exact ww_sub [1, 4] rfl (hb101 _ hF)
  have hl23 : ∀ n : Nat, ∀ (x3 : Int32) (x4 : Int32) (x5 : Int32) (x6 : Int32) , fX3_worthEaten_l23 σ t w n x3 x4 x5 x6 = some r → WW G X 9 σ [(1, .ref (gad G t)), (2, .ref (gad G w)), (3, .int x3), (4, .int x4), (5, .int x5), (6, .int x6)] 23 [] := by
    intro n
    induction n with
    | zero =>
      intro x3 x4 x5 x6 hF
      exact absurd hF (by intro z; cases z)
    | succ n ih =>
      intro x3 x4 x5 x6 hF
      have hk23 := ih
      have hF : fX3_worthEaten_B23 σ t w (fX3_worthEaten_l23 σ t w n) x3 x4 x5 x6 = some r := hF
      unfold fX3_worthEaten_B23 at hF
      refine ww_iload cx dX3_worthEaten_23 5 rfl ?_
      refine ww_iload cx dX3_worthEaten_25 4 rfl ?_
      refine ww_icmp_ge cx dX3_worthEaten_27 (tgt := 101) rfl hF (fun hF => ?_) (fun hF => ?_)
      · exact ww_sub [0, 3] rfl (hb101 _ hF)
      · refine ww_aload_n cx dX3_worthEaten_30 rfl 1 rfl ?_
        refine gf_X3_35 cx (hw) dX3_worthEaten_31 ?_
        refine ww_iload cx dX3_worthEaten_34 5 rfl ?_
        refine ww_lald (N := 60) cx (ar_X4_3 hw) dX3_worthEaten_36 hF (fun hF => ?_)
        refine ww_l2i cx dX3_worthEaten_37 ?_
        refine ww_istore (ks := [0, 1, 2, 3, 4, 5, 6]) (lv' := fun v6 => [(7, .int v6), (1, .ref (gad G t)), (2, .ref (gad G w)), (3, .int x3), (4, .int x4), (5, .int x5), (6, .int x6)]) cx dX3_worthEaten_38 (by decide) hF (fun _ => rfl) (fun v6 hF => ?_)
        refine ww_aload_n cx dX3_worthEaten_40 rfl 1 rfl ?_
        refine gf_X3_65 cx (ht) dX3_worthEaten_41 ?_
        refine ww_iload_n cx dX3_worthEaten_44 rfl 3 rfl ?_
        refine ww_iald (N := 5) cx (ar_X6_13 ht) dX3_worthEaten_45 hF (fun hF => ?_)
        refine ww_iload cx dX3_worthEaten_46 0 rfl ?_
        refine ww_ishr cx dX3_worthEaten_48 ?_
        refine ww_iconst cx dX3_worthEaten_49 ic_1 ?_
        refine ww_iand cx dX3_worthEaten_50 ?_
        refine ww_iconst cx dX3_worthEaten_51 ic_1 ?_
        refine ww_icmp_ne cx dX3_worthEaten_52 (tgt := 59) rfl hF (fun hF => ?_) (fun hF => ?_)
        · refine ww_iconst cx dX3_worthEaten_59 ic_0 ?_
          exact ww_sub [1, 2, 3, 4, 5, 6, 0] rfl (hb60 _ hk23 _ _ _ _ _ _ hF)
        · refine ww_iconst cx dX3_worthEaten_55 ic_1 ?_
          refine ww_goto cx dX3_worthEaten_56 (tgt := 60) rfl ?_
          exact ww_sub [1, 2, 3, 4, 5, 6, 0] rfl (hb60 _ hk23 _ _ _ _ _ _ hF)
  unfold fX3_worthEaten at hF
  show WW G X 9 σ [(0, .ref (gad G 53)), (1, .ref (gad G t)), (2, .ref (gad G w)), (3, .int a3)] 0 []
  refine ww_aload_n cx dX3_worthEaten_0 rfl 1 rfl ?_
  refine gf_X3_22 cx (ht) dX3_worthEaten_1 ?_
  refine ww_istore (ks := [0, 2, 3, 4]) (lv' := fun v7 => [(4, .int v7), (1, .ref (gad G t)), (2, .ref (gad G w)), (3, .int a3)]) cx dX3_worthEaten_4 (by decide) hF (fun _ => rfl) (fun v7 hF => ?_)
  refine ww_aload_n cx dX3_worthEaten_6 rfl 2 rfl ?_
  refine gf_X3_30 cx (hw) dX3_worthEaten_7 ?_
  refine ww_aload_n cx dX3_worthEaten_10 rfl 1 rfl ?_
  refine ww_iload_n cx dX3_worthEaten_11 rfl 3 rfl ?_
  refine ww_V1_pi kv_X3_55 rfl cx ((ht).1) ⟨Nat.le_of_ble_eq_true rfl, Nat.le_of_ble_eq_true rfl⟩ (Nat.le_of_ble_eq_true rfl) dX3_worthEaten_12 (kX6_canDo G (ht)) hF (fun r8 hF => ?_)
  refine ww_mmin cx ml_X3_59 (by decide) (Nat.le_of_ble_eq_true rfl) dX3_worthEaten_15 ?_
  refine ww_istore (ks := [0, 1, 2, 3, 4]) (lv' := fun v9 => [(5, .int v9), (4, .int v7), (1, .ref (gad G t)), (2, .ref (gad G w)), (3, .int a3)]) cx dX3_worthEaten_18 (by decide) hF (fun _ => rfl) (fun v9 hF => ?_)
  refine ww_iconst cx dX3_worthEaten_20 ic_0 ?_
  refine ww_istore (ks := [0, 1, 2, 3, 4, 5]) (lv' := fun v10 => [(6, .int v10), (5, .int v9), (4, .int v7), (1, .ref (gad G t)), (2, .ref (gad G w)), (3, .int a3)]) cx dX3_worthEaten_21 (by decide) hF (fun _ => rfl) (fun v10 hF => ?_)
  exact ww_sub [3, 4, 5, 2, 1, 0] rfl (hl23 FU _ _ _ _ hF)
theorem dX5_subsetsOf_0 : decode cX5_subsetsOf 0 = .ok (.iconst 1, 1) := by decide +kernel
theorem dX5_subsetsOf_1 : decode cX5_subsetsOf 1 = .ok (.iload_n 0, 1) := by decide +kernel
theorem dX5_subsetsOf_2 : decode cX5_subsetsOf 2 = .ok (.invokestatic 15, 3) := by decide +kernel
theorem dX5_subsetsOf_5 : decode cX5_subsetsOf 5 = .ok (.ishl, 1) := by decide +kernel
theorem dX5_subsetsOf_6 : decode cX5_subsetsOf 6 = .ok (.ireturn, 1) := by decide +kernel
set_option maxRecDepth 4000 in
theorem kX5_subsetsOf (G : GT) {σ : St} {a0 : Int32} : ∀ (r : Int32) , fX5_subsetsOf a0 = some r → MCt G 2 yX5_subsetsOf cX5_subsetsOf 1 (some .int) [.int a0] σ (some (.int r)) σ := by
  intro r hF
  refine met_i (by decide) (Nat.le_of_ble_eq_true rfl) (fun X cx hE => ?_)
  have cx : Cx G X RX5 cX5_subsetsOf 1 2 := cx
  unfold fX5_subsetsOf at hF
  show WW G X 1 σ [(0, .int a0)] 0 []
  refine ww_iconst cx dX5_subsetsOf_0 ic_1 ?_
  refine ww_iload_n cx dX5_subsetsOf_1 rfl 0 rfl ?_
  refine ww_S1_pi kv_X5_15 cx ⟨Nat.le_of_ble_eq_true rfl, Nat.le_of_ble_eq_true rfl⟩ (Nat.le_of_ble_eq_true rfl) dX5_subsetsOf_2 (kJ6_bitCount_0f7a4 G) hF (fun r1 hF => ?_)
  refine ww_ishl cx dX5_subsetsOf_5 ?_
  exact ww_rip hE dX5_subsetsOf_6 hF
theorem dX6_copyFrom_0 : decode cX6_copyFrom 0 = .ok (.aload_n 0, 1) := by decide +kernel
theorem dX6_copyFrom_1 : decode cX6_copyFrom 1 = .ok (.aload_n 1, 1) := by decide +kernel
theorem dX6_copyFrom_2 : decode cX6_copyFrom 2 = .ok (.getfield 30, 3) := by decide +kernel
theorem dX6_copyFrom_5 : decode cX6_copyFrom 5 = .ok (.putfield 30, 3) := by decide +kernel
theorem dX6_copyFrom_8 : decode cX6_copyFrom 8 = .ok (.aload_n 0, 1) := by decide +kernel
theorem dX6_copyFrom_9 : decode cX6_copyFrom 9 = .ok (.aload_n 1, 1) := by decide +kernel
theorem dX6_copyFrom_10 : decode cX6_copyFrom 10 = .ok (.getfield 34, 3) := by decide +kernel
theorem dX6_copyFrom_13 : decode cX6_copyFrom 13 = .ok (.putfield 34, 3) := by decide +kernel
theorem dX6_copyFrom_16 : decode cX6_copyFrom 16 = .ok (.aload_n 0, 1) := by decide +kernel
theorem dX6_copyFrom_17 : decode cX6_copyFrom 17 = .ok (.aload_n 1, 1) := by decide +kernel
theorem dX6_copyFrom_18 : decode cX6_copyFrom 18 = .ok (.getfield 37, 3) := by decide +kernel
theorem dX6_copyFrom_21 : decode cX6_copyFrom 21 = .ok (.putfield 37, 3) := by decide +kernel
theorem dX6_copyFrom_24 : decode cX6_copyFrom 24 = .ok (.aload_n 0, 1) := by decide +kernel
theorem dX6_copyFrom_25 : decode cX6_copyFrom 25 = .ok (.aload_n 1, 1) := by decide +kernel
theorem dX6_copyFrom_26 : decode cX6_copyFrom 26 = .ok (.getfield 40, 3) := by decide +kernel
theorem dX6_copyFrom_29 : decode cX6_copyFrom 29 = .ok (.putfield 40, 3) := by decide +kernel
theorem dX6_copyFrom_32 : decode cX6_copyFrom 32 = .ok (.aload_n 0, 1) := by decide +kernel
theorem dX6_copyFrom_33 : decode cX6_copyFrom 33 = .ok (.aload_n 1, 1) := by decide +kernel
theorem dX6_copyFrom_34 : decode cX6_copyFrom 34 = .ok (.getfield 43, 3) := by decide +kernel
theorem dX6_copyFrom_37 : decode cX6_copyFrom 37 = .ok (.putfield 43, 3) := by decide +kernel
theorem dX6_copyFrom_40 : decode cX6_copyFrom 40 = .ok (.aload_n 0, 1) := by decide +kernel
theorem dX6_copyFrom_41 : decode cX6_copyFrom 41 = .ok (.aload_n 1, 1) := by decide +kernel
theorem dX6_copyFrom_42 : decode cX6_copyFrom 42 = .ok (.getfield 46, 3) := by decide +kernel
theorem dX6_copyFrom_45 : decode cX6_copyFrom 45 = .ok (.putfield 46, 3) := by decide +kernel
theorem dX6_copyFrom_48 : decode cX6_copyFrom 48 = .ok (.aload_n 0, 1) := by decide +kernel
theorem dX6_copyFrom_49 : decode cX6_copyFrom 49 = .ok (.aload_n 1, 1) := by decide +kernel
theorem dX6_copyFrom_50 : decode cX6_copyFrom 50 = .ok (.getfield 49, 3) := by decide +kernel
theorem dX6_copyFrom_53 : decode cX6_copyFrom 53 = .ok (.putfield 49, 3) := by decide +kernel
theorem dX6_copyFrom_56 : decode cX6_copyFrom 56 = .ok (.aload_n 0, 1) := by decide +kernel
theorem dX6_copyFrom_57 : decode cX6_copyFrom 57 = .ok (.aload_n 1, 1) := by decide +kernel
theorem dX6_copyFrom_58 : decode cX6_copyFrom 58 = .ok (.getfield 52, 3) := by decide +kernel
theorem dX6_copyFrom_61 : decode cX6_copyFrom 61 = .ok (.putfield 52, 3) := by decide +kernel
theorem dX6_copyFrom_64 : decode cX6_copyFrom 64 = .ok (.aload_n 1, 1) := by decide +kernel
theorem dX6_copyFrom_65 : decode cX6_copyFrom 65 = .ok (.getfield 9, 3) := by decide +kernel
theorem dX6_copyFrom_68 : decode cX6_copyFrom 68 = .ok (.iconst 0, 1) := by decide +kernel
theorem dX6_copyFrom_69 : decode cX6_copyFrom 69 = .ok (.aload_n 0, 1) := by decide +kernel
theorem dX6_copyFrom_70 : decode cX6_copyFrom 70 = .ok (.getfield 9, 3) := by decide +kernel
theorem dX6_copyFrom_73 : decode cX6_copyFrom 73 = .ok (.iconst 0, 1) := by decide +kernel
theorem dX6_copyFrom_74 : decode cX6_copyFrom 74 = .ok (.bipush 12, 2) := by decide +kernel
theorem dX6_copyFrom_76 : decode cX6_copyFrom 76 = .ok (.invokestatic 55, 3) := by decide +kernel
theorem dX6_copyFrom_79 : decode cX6_copyFrom 79 = .ok (.aload_n 1, 1) := by decide +kernel
theorem dX6_copyFrom_80 : decode cX6_copyFrom 80 = .ok (.getfield 15, 3) := by decide +kernel
theorem dX6_copyFrom_83 : decode cX6_copyFrom 83 = .ok (.iconst 0, 1) := by decide +kernel
theorem dX6_copyFrom_84 : decode cX6_copyFrom 84 = .ok (.aload_n 0, 1) := by decide +kernel
theorem dX6_copyFrom_85 : decode cX6_copyFrom 85 = .ok (.getfield 15, 3) := by decide +kernel
theorem dX6_copyFrom_88 : decode cX6_copyFrom 88 = .ok (.iconst 0, 1) := by decide +kernel
theorem dX6_copyFrom_89 : decode cX6_copyFrom 89 = .ok (.bipush 12, 2) := by decide +kernel
theorem dX6_copyFrom_91 : decode cX6_copyFrom 91 = .ok (.invokestatic 55, 3) := by decide +kernel
theorem dX6_copyFrom_94 : decode cX6_copyFrom 94 = .ok (.aload_n 1, 1) := by decide +kernel
theorem dX6_copyFrom_95 : decode cX6_copyFrom 95 = .ok (.getfield 18, 3) := by decide +kernel
theorem dX6_copyFrom_98 : decode cX6_copyFrom 98 = .ok (.iconst 0, 1) := by decide +kernel
theorem dX6_copyFrom_99 : decode cX6_copyFrom 99 = .ok (.aload_n 0, 1) := by decide +kernel
theorem dX6_copyFrom_100 : decode cX6_copyFrom 100 = .ok (.getfield 18, 3) := by decide +kernel
theorem dX6_copyFrom_103 : decode cX6_copyFrom 103 = .ok (.iconst 0, 1) := by decide +kernel
theorem dX6_copyFrom_104 : decode cX6_copyFrom 104 = .ok (.bipush 12, 2) := by decide +kernel
theorem dX6_copyFrom_106 : decode cX6_copyFrom 106 = .ok (.invokestatic 55, 3) := by decide +kernel
theorem dX6_copyFrom_109 : decode cX6_copyFrom 109 = .ok (.aload_n 1, 1) := by decide +kernel
theorem dX6_copyFrom_110 : decode cX6_copyFrom 110 = .ok (.getfield 21, 3) := by decide +kernel
theorem dX6_copyFrom_113 : decode cX6_copyFrom 113 = .ok (.iconst 0, 1) := by decide +kernel
theorem dX6_copyFrom_114 : decode cX6_copyFrom 114 = .ok (.aload_n 0, 1) := by decide +kernel
theorem dX6_copyFrom_115 : decode cX6_copyFrom 115 = .ok (.getfield 21, 3) := by decide +kernel
theorem dX6_copyFrom_118 : decode cX6_copyFrom 118 = .ok (.iconst 0, 1) := by decide +kernel
theorem dX6_copyFrom_119 : decode cX6_copyFrom 119 = .ok (.bipush 12, 2) := by decide +kernel
theorem dX6_copyFrom_121 : decode cX6_copyFrom 121 = .ok (.invokestatic 55, 3) := by decide +kernel
theorem dX6_copyFrom_124 : decode cX6_copyFrom 124 = .ok (.aload_n 1, 1) := by decide +kernel
theorem dX6_copyFrom_125 : decode cX6_copyFrom 125 = .ok (.getfield 24, 3) := by decide +kernel
theorem dX6_copyFrom_128 : decode cX6_copyFrom 128 = .ok (.iconst 0, 1) := by decide +kernel
theorem dX6_copyFrom_129 : decode cX6_copyFrom 129 = .ok (.aload_n 0, 1) := by decide +kernel
theorem dX6_copyFrom_130 : decode cX6_copyFrom 130 = .ok (.getfield 24, 3) := by decide +kernel
theorem dX6_copyFrom_133 : decode cX6_copyFrom 133 = .ok (.iconst 0, 1) := by decide +kernel
theorem dX6_copyFrom_134 : decode cX6_copyFrom 134 = .ok (.iconst 5, 1) := by decide +kernel
theorem dX6_copyFrom_135 : decode cX6_copyFrom 135 = .ok (.invokestatic 55, 3) := by decide +kernel
theorem dX6_copyFrom_138 : decode cX6_copyFrom 138 = .ok (.aload_n 1, 1) := by decide +kernel
theorem dX6_copyFrom_139 : decode cX6_copyFrom 139 = .ok (.getfield 27, 3) := by decide +kernel
theorem dX6_copyFrom_142 : decode cX6_copyFrom 142 = .ok (.iconst 0, 1) := by decide +kernel
theorem dX6_copyFrom_143 : decode cX6_copyFrom 143 = .ok (.aload_n 0, 1) := by decide +kernel
theorem dX6_copyFrom_144 : decode cX6_copyFrom 144 = .ok (.getfield 27, 3) := by decide +kernel
theorem dX6_copyFrom_147 : decode cX6_copyFrom 147 = .ok (.iconst 0, 1) := by decide +kernel
theorem dX6_copyFrom_148 : decode cX6_copyFrom 148 = .ok (.iconst 5, 1) := by decide +kernel
theorem dX6_copyFrom_149 : decode cX6_copyFrom 149 = .ok (.invokestatic 55, 3) := by decide +kernel
theorem dX6_copyFrom_152 : decode cX6_copyFrom 152 = .ok (.return_, 1) := by decide +kernel
set_option maxRecDepth 4000 in
theorem kX6_copyFrom (G : GT) {σ : St} {t : Nat} {t2 : Nat} (ht : isTab t) (ht2 : isTab t2) : ∀ (σo : St) , fX6_copyFrom σ t t2 = some σo → MCt G 2 yX6_copyFrom cX6_copyFrom 2 (none) [.ref (gad G t), .ref (gad G t2)] σ (none) σo := by
  intro σo hF
  refine met_v (by decide) (Nat.le_of_ble_eq_true rfl) (fun X cx hE => ?_)
  have cx : Cx G X RX6 cX6_copyFrom 2 2 := cx
  unfold fX6_copyFrom at hF
  show WW G X 2 σ [(0, .ref (gad G t)), (1, .ref (gad G t2))] 0 []
  refine ww_aload_n cx dX6_copyFrom_0 rfl 0 rfl ?_
  refine ww_aload_n cx dX6_copyFrom_1 rfl 1 rfl ?_
  refine gf_X6_30 cx (ht2) dX6_copyFrom_2 ?_
  refine pf_X6_30 cx (ht) dX6_copyFrom_5 hF (fun σ1 hF => ?_)
  refine ww_aload_n cx dX6_copyFrom_8 rfl 0 rfl ?_
  refine ww_aload_n cx dX6_copyFrom_9 rfl 1 rfl ?_
  refine gf_X6_34 cx (ht2) dX6_copyFrom_10 ?_
  refine pf_X6_34 cx (ht) dX6_copyFrom_13 hF (fun σ2 hF => ?_)
  refine ww_aload_n cx dX6_copyFrom_16 rfl 0 rfl ?_
  refine ww_aload_n cx dX6_copyFrom_17 rfl 1 rfl ?_
  refine gf_X6_37 cx (ht2) dX6_copyFrom_18 ?_
  refine pf_X6_37 cx (ht) dX6_copyFrom_21 hF (fun σ3 hF => ?_)
  refine ww_aload_n cx dX6_copyFrom_24 rfl 0 rfl ?_
  refine ww_aload_n cx dX6_copyFrom_25 rfl 1 rfl ?_
  refine gf_X6_40 cx (ht2) dX6_copyFrom_26 ?_
  refine pf_X6_40 cx (ht) dX6_copyFrom_29 hF (fun σ4 hF => ?_)
  refine ww_aload_n cx dX6_copyFrom_32 rfl 0 rfl ?_
  refine ww_aload_n cx dX6_copyFrom_33 rfl 1 rfl ?_
  refine gf_X6_43 cx (ht2) dX6_copyFrom_34 ?_
  refine pf_X6_43 cx (ht) dX6_copyFrom_37 hF (fun σ5 hF => ?_)
  refine ww_aload_n cx dX6_copyFrom_40 rfl 0 rfl ?_
  refine ww_aload_n cx dX6_copyFrom_41 rfl 1 rfl ?_
  refine gf_X6_46 cx (ht2) dX6_copyFrom_42 ?_
  refine pf_X6_46 cx (ht) dX6_copyFrom_45 hF (fun σ6 hF => ?_)
  refine ww_aload_n cx dX6_copyFrom_48 rfl 0 rfl ?_
  refine ww_aload_n cx dX6_copyFrom_49 rfl 1 rfl ?_
  refine gf_X6_49 cx (ht2) dX6_copyFrom_50 ?_
  refine pf_X6_49 cx (ht) dX6_copyFrom_53 hF (fun σ7 hF => ?_)
  refine ww_aload_n cx dX6_copyFrom_56 rfl 0 rfl ?_
  refine ww_aload_n cx dX6_copyFrom_57 rfl 1 rfl ?_
  refine gf_X6_52 cx (ht2) dX6_copyFrom_58 ?_
  refine pf_X6_52 cx (ht) dX6_copyFrom_61 hF (fun σ8 hF => ?_)
  refine ww_aload_n cx dX6_copyFrom_64 rfl 1 rfl ?_
  refine gf_X6_9 cx (ht2) dX6_copyFrom_65 ?_
  refine ww_iconst cx dX6_copyFrom_68 ic_0 ?_
  refine ww_aload_n cx dX6_copyFrom_69 rfl 0 rfl ?_
  refine gf_X6_9 cx (ht) dX6_copyFrom_70 ?_
  refine ww_iconst cx dX6_copyFrom_73 ic_0 ?_
  refine ww_bipush cx dX6_copyFrom_74 bc_12 ?_
  refine ww_copyI (N0 := 12) (N1 := 12) cx ml_X6_55 (ar_X6_8 ht2) (ar_X6_8 ht) (by decide) (Nat.le_of_ble_eq_true rfl) dX6_copyFrom_76 hF (fun σ9 hF => ?_)
  refine ww_aload_n cx dX6_copyFrom_79 rfl 1 rfl ?_
  refine gf_X6_15 cx (ht2) dX6_copyFrom_80 ?_
  refine ww_iconst cx dX6_copyFrom_83 ic_0 ?_
  refine ww_aload_n cx dX6_copyFrom_84 rfl 0 rfl ?_
  refine gf_X6_15 cx (ht) dX6_copyFrom_85 ?_
  refine ww_iconst cx dX6_copyFrom_88 ic_0 ?_
  refine ww_bipush cx dX6_copyFrom_89 bc_12 ?_
  refine ww_copyI (N0 := 12) (N1 := 12) cx ml_X6_55 (ar_X6_9 ht2) (ar_X6_9 ht) (by decide) (Nat.le_of_ble_eq_true rfl) dX6_copyFrom_91 hF (fun σ10 hF => ?_)
  refine ww_aload_n cx dX6_copyFrom_94 rfl 1 rfl ?_
  refine gf_X6_18 cx (ht2) dX6_copyFrom_95 ?_
  refine ww_iconst cx dX6_copyFrom_98 ic_0 ?_
  refine ww_aload_n cx dX6_copyFrom_99 rfl 0 rfl ?_
  refine gf_X6_18 cx (ht) dX6_copyFrom_100 ?_
  refine ww_iconst cx dX6_copyFrom_103 ic_0 ?_
  refine ww_bipush cx dX6_copyFrom_104 bc_12 ?_
  refine ww_copyI (N0 := 12) (N1 := 12) cx ml_X6_55 (ar_X6_10 ht2) (ar_X6_10 ht) (by decide) (Nat.le_of_ble_eq_true rfl) dX6_copyFrom_106 hF (fun σ11 hF => ?_)
  refine ww_aload_n cx dX6_copyFrom_109 rfl 1 rfl ?_
  refine gf_X6_21 cx (ht2) dX6_copyFrom_110 ?_
  refine ww_iconst cx dX6_copyFrom_113 ic_0 ?_
  refine ww_aload_n cx dX6_copyFrom_114 rfl 0 rfl ?_
  refine gf_X6_21 cx (ht) dX6_copyFrom_115 ?_
  refine ww_iconst cx dX6_copyFrom_118 ic_0 ?_
  refine ww_bipush cx dX6_copyFrom_119 bc_12 ?_
  refine ww_copyI (N0 := 12) (N1 := 12) cx ml_X6_55 (ar_X6_11 ht2) (ar_X6_11 ht) (by decide) (Nat.le_of_ble_eq_true rfl) dX6_copyFrom_121 hF (fun σ12 hF => ?_)
  refine ww_aload_n cx dX6_copyFrom_124 rfl 1 rfl ?_
  refine gf_X6_24 cx (ht2) dX6_copyFrom_125 ?_
  refine ww_iconst cx dX6_copyFrom_128 ic_0 ?_
  refine ww_aload_n cx dX6_copyFrom_129 rfl 0 rfl ?_
  refine gf_X6_24 cx (ht) dX6_copyFrom_130 ?_
  refine ww_iconst cx dX6_copyFrom_133 ic_0 ?_
  refine ww_iconst cx dX6_copyFrom_134 ic_5 ?_
  refine ww_copyI (N0 := 5) (N1 := 5) cx ml_X6_55 (ar_X6_12 ht2) (ar_X6_12 ht) (by decide) (Nat.le_of_ble_eq_true rfl) dX6_copyFrom_135 hF (fun σ13 hF => ?_)
  refine ww_aload_n cx dX6_copyFrom_138 rfl 1 rfl ?_
  refine gf_X6_27 cx (ht2) dX6_copyFrom_139 ?_
  refine ww_iconst cx dX6_copyFrom_142 ic_0 ?_
  refine ww_aload_n cx dX6_copyFrom_143 rfl 0 rfl ?_
  refine gf_X6_27 cx (ht) dX6_copyFrom_144 ?_
  refine ww_iconst cx dX6_copyFrom_147 ic_0 ?_
  refine ww_iconst cx dX6_copyFrom_148 ic_5 ?_
  refine ww_copyI (N0 := 5) (N1 := 5) cx ml_X6_55 (ar_X6_13 ht2) (ar_X6_13 ht) (by decide) (Nat.le_of_ble_eq_true rfl) dX6_copyFrom_149 hF (fun σ14 hF => ?_)
  exact ww_rvs hE dX6_copyFrom_152 hF
theorem dX6_firstGoing_0 : decode cX6_firstGoing 0 = .ok (.iconst 0, 1) := by decide +kernel
theorem dX6_firstGoing_1 : decode cX6_firstGoing 1 = .ok (.istore_n 3, 1) := by decide +kernel
theorem dX6_firstGoing_2 : decode cX6_firstGoing 2 = .ok (.iload_n 3, 1) := by decide +kernel
theorem dX6_firstGoing_3 : decode cX6_firstGoing 3 = .ok (.aload_n 0, 1) := by decide +kernel
theorem dX6_firstGoing_4 : decode cX6_firstGoing 4 = .ok (.getfield 46, 3) := by decide +kernel
theorem dX6_firstGoing_7 : decode cX6_firstGoing 7 = .ok (.if_icmp .ge 29, 3) := by decide +kernel
theorem dX6_firstGoing_10 : decode cX6_firstGoing 10 = .ok (.iload_n 1, 1) := by decide +kernel
theorem dX6_firstGoing_11 : decode cX6_firstGoing 11 = .ok (.iload_n 3, 1) := by decide +kernel
theorem dX6_firstGoing_12 : decode cX6_firstGoing 12 = .ok (.ishr, 1) := by decide +kernel
theorem dX6_firstGoing_13 : decode cX6_firstGoing 13 = .ok (.iconst 1, 1) := by decide +kernel
theorem dX6_firstGoing_14 : decode cX6_firstGoing 14 = .ok (.iand, 1) := by decide +kernel
theorem dX6_firstGoing_15 : decode cX6_firstGoing 15 = .ok (.iconst 1, 1) := by decide +kernel
theorem dX6_firstGoing_16 : decode cX6_firstGoing 16 = .ok (.if_icmp .ne 14, 3) := by decide +kernel
theorem dX6_firstGoing_19 : decode cX6_firstGoing 19 = .ok (.aload_n 0, 1) := by decide +kernel
theorem dX6_firstGoing_20 : decode cX6_firstGoing 20 = .ok (.iload_n 3, 1) := by decide +kernel
theorem dX6_firstGoing_21 : decode cX6_firstGoing 21 = .ok (.iload_n 2, 1) := by decide +kernel
theorem dX6_firstGoing_22 : decode cX6_firstGoing 22 = .ok (.invokevirtual 84, 3) := by decide +kernel
theorem dX6_firstGoing_25 : decode cX6_firstGoing 25 = .ok (.ifCond .eq 5, 3) := by decide +kernel
theorem dX6_firstGoing_28 : decode cX6_firstGoing 28 = .ok (.iload_n 3, 1) := by decide +kernel
theorem dX6_firstGoing_29 : decode cX6_firstGoing 29 = .ok (.ireturn, 1) := by decide +kernel
theorem dX6_firstGoing_30 : decode cX6_firstGoing 30 = .ok (.iinc 3 1, 3) := by decide +kernel
theorem dX6_firstGoing_33 : decode cX6_firstGoing 33 = .ok (.goto (-31), 3) := by decide +kernel
theorem dX6_firstGoing_36 : decode cX6_firstGoing 36 = .ok (.iconst (-1), 1) := by decide +kernel
theorem dX6_firstGoing_37 : decode cX6_firstGoing 37 = .ok (.ireturn, 1) := by decide +kernel
set_option maxRecDepth 4000 in
theorem kX6_firstGoing (G : GT) {σ : St} {t : Nat} {a1 : Int32} {a2 : Int32} (ht : isTab t) : ∀ (r : Int32) , fX6_firstGoing σ t a1 a2 = some r → MCt G 2 yX6_firstGoing cX6_firstGoing 4 (some .int) [.ref (gad G t), .int a1, .int a2] σ (some (.int r)) σ := by
  intro r hF
  refine met_i (by decide) (Nat.le_of_ble_eq_true rfl) (fun X cx hE => ?_)
  have cx : Cx G X RX6 cX6_firstGoing 4 2 := cx
  have hl2 : ∀ n : Nat, ∀ (x1 : Int32) (x2 : Int32) (x3 : Int32) , fX6_firstGoing_l2 σ t n x1 x2 x3 = some r → WW G X 4 σ [(0, .ref (gad G t)), (1, .int x1), (2, .int x2), (3, .int x3)] 2 [] := by
    intro n
    induction n with
    | zero =>
      intro x1 x2 x3 hF
      exact absurd hF (by intro z; cases z)
    | succ n ih =>
      intro x1 x2 x3 hF
      have hk2 := ih
      have hF : fX6_firstGoing_B2 σ t (fX6_firstGoing_l2 σ t n) x1 x2 x3 = some r := hF
      unfold fX6_firstGoing_B2 at hF
      refine ww_iload_n cx dX6_firstGoing_2 rfl 3 rfl ?_
      refine ww_aload_n cx dX6_firstGoing_3 rfl 0 rfl ?_
      refine gf_X6_46 cx (ht) dX6_firstGoing_4 ?_
      refine ww_icmp_ge cx dX6_firstGoing_7 (tgt := 36) rfl hF (fun hF => ?_) (fun hF => ?_)
      · refine ww_iconst cx dX6_firstGoing_36 ic_m1 ?_
        exact ww_rip hE dX6_firstGoing_37 hF
      · refine ww_iload_n cx dX6_firstGoing_10 rfl 1 rfl ?_
        refine ww_iload_n cx dX6_firstGoing_11 rfl 3 rfl ?_
        refine ww_ishr cx dX6_firstGoing_12 ?_
        refine ww_iconst cx dX6_firstGoing_13 ic_1 ?_
        refine ww_iand cx dX6_firstGoing_14 ?_
        refine ww_iconst cx dX6_firstGoing_15 ic_1 ?_
        refine ww_icmp_ne cx dX6_firstGoing_16 (tgt := 30) rfl hF (fun hF => ?_) (fun hF => ?_)
        · refine ww_iinc (j := 3) (ks := [0, 1, 2, 3]) (lv' := fun v1 => [(3, .int v1), (0, .ref (gad G t)), (1, .int x1), (2, .int x2)]) cx dX6_firstGoing_30 (by decide) rfl ic_1 hF (fun _ => rfl) (fun v1 hF => ?_)
          refine ww_goto cx dX6_firstGoing_33 (tgt := 2) rfl ?_
          exact ww_sub [1, 2, 3, 0] rfl (hk2 _ _ _ hF)
        · refine ww_aload_n cx dX6_firstGoing_19 rfl 0 rfl ?_
          refine ww_iload_n cx dX6_firstGoing_20 rfl 3 rfl ?_
          refine ww_iload_n cx dX6_firstGoing_21 rfl 2 rfl ?_
          refine ww_V2_pi kv_X6_84 rfl cx ((ht).1) ⟨Nat.le_of_ble_eq_true rfl, Nat.le_of_ble_eq_true rfl⟩ (Nat.le_of_ble_eq_true rfl) dX6_firstGoing_22 (kX6_goes G (ht)) hF (fun r2 hF => ?_)
          refine ww_if_eq cx dX6_firstGoing_25 (tgt := 30) rfl hF (fun hF => ?_) (fun hF => ?_)
          · refine ww_iinc (j := 3) (ks := [0, 1, 2, 3]) (lv' := fun v3 => [(3, .int v3), (0, .ref (gad G t)), (1, .int x1), (2, .int x2)]) cx dX6_firstGoing_30 (by decide) rfl ic_1 hF (fun _ => rfl) (fun v3 hF => ?_)
            refine ww_goto cx dX6_firstGoing_33 (tgt := 2) rfl ?_
            exact ww_sub [1, 2, 3, 0] rfl (hk2 _ _ _ hF)
          · refine ww_iload_n cx dX6_firstGoing_28 rfl 3 rfl ?_
            exact ww_rip hE dX6_firstGoing_29 hF
  unfold fX6_firstGoing at hF
  show WW G X 4 σ [(0, .ref (gad G t)), (1, .int a1), (2, .int a2)] 0 []
  refine ww_iconst cx dX6_firstGoing_0 ic_0 ?_
  refine ww_istore_n (ks := [0, 1, 2, 3]) (lv' := fun v4 => [(3, .int v4), (0, .ref (gad G t)), (1, .int a1), (2, .int a2)]) cx dX6_firstGoing_1 rfl (by decide) hF (fun _ => rfl) (fun v4 hF => ?_)
  exact ww_sub [1, 2, 3, 0] rfl (hl2 FU _ _ _ hF)
theorem dX6_isClaimSet_0 : decode cX6_isClaimSet 0 = .ok (.aload_n 0, 1) := by decide +kernel
theorem dX6_isClaimSet_1 : decode cX6_isClaimSet 1 = .ok (.invokevirtual 61, 3) := by decide +kernel
theorem dX6_isClaimSet_4 : decode cX6_isClaimSet 4 = .ok (.ifCond .eq 21, 3) := by decide +kernel
theorem dX6_isClaimSet_7 : decode cX6_isClaimSet 7 = .ok (.iload_n 1, 1) := by decide +kernel
theorem dX6_isClaimSet_8 : decode cX6_isClaimSet 8 = .ok (.ifCond .lt 17, 3) := by decide +kernel
theorem dX6_isClaimSet_11 : decode cX6_isClaimSet 11 = .ok (.iload_n 1, 1) := by decide +kernel
theorem dX6_isClaimSet_12 : decode cX6_isClaimSet 12 = .ok (.iconst 1, 1) := by decide +kernel
theorem dX6_isClaimSet_13 : decode cX6_isClaimSet 13 = .ok (.aload_n 0, 1) := by decide +kernel
theorem dX6_isClaimSet_14 : decode cX6_isClaimSet 14 = .ok (.getfield 43, 3) := by decide +kernel
theorem dX6_isClaimSet_17 : decode cX6_isClaimSet 17 = .ok (.ishl, 1) := by decide +kernel
theorem dX6_isClaimSet_18 : decode cX6_isClaimSet 18 = .ok (.if_icmp .ge 7, 3) := by decide +kernel
theorem dX6_isClaimSet_21 : decode cX6_isClaimSet 21 = .ok (.iconst 1, 1) := by decide +kernel
theorem dX6_isClaimSet_22 : decode cX6_isClaimSet 22 = .ok (.goto 4, 3) := by decide +kernel
theorem dX6_isClaimSet_25 : decode cX6_isClaimSet 25 = .ok (.iconst 0, 1) := by decide +kernel
theorem dX6_isClaimSet_26 : decode cX6_isClaimSet 26 = .ok (.ireturn, 1) := by decide +kernel
set_option maxRecDepth 4000 in
theorem kX6_isClaimSet (G : GT) {σ : St} {t : Nat} {a1 : Int32} (ht : isTab t) : ∀ (r : Int32) , fX6_isClaimSet σ t a1 = some r → MCt G 2 yX6_isClaimSet cX6_isClaimSet 2 (some .boolean) [.ref (gad G t), .int a1] σ (some (.int r)) σ := by
  intro r hF
  refine met_zz (by decide) (Nat.le_of_ble_eq_true rfl) (fun X cx hE => ?_)
  have cx : Cx G X RX6 cX6_isClaimSet 2 2 := cx
  unfold fX6_isClaimSet at hF
  show WW G X 2 σ [(0, .ref (gad G t)), (1, .int a1)] 0 []
  refine ww_aload_n cx dX6_isClaimSet_0 rfl 0 rfl ?_
  refine ww_V0_pi kv_X6_61 rfl cx ((ht).1) ⟨Nat.le_of_ble_eq_true rfl, Nat.le_of_ble_eq_true rfl⟩ (Nat.le_of_ble_eq_true rfl) dX6_isClaimSet_1 (kX6_isTold G (ht)) hF (fun r1 hF => ?_)
  refine ww_if_eq cx dX6_isClaimSet_4 (tgt := 25) rfl hF (fun hF => ?_) (fun hF => ?_)
  · refine ww_iconst cx dX6_isClaimSet_25 ic_0 ?_
    exact ww_rzp hE dX6_isClaimSet_26 hF
  · refine ww_iload_n cx dX6_isClaimSet_7 rfl 1 rfl ?_
    refine ww_if_lt cx dX6_isClaimSet_8 (tgt := 25) rfl hF (fun hF => ?_) (fun hF => ?_)
    · refine ww_iconst cx dX6_isClaimSet_25 ic_0 ?_
      exact ww_rzp hE dX6_isClaimSet_26 hF
    · refine ww_iload_n cx dX6_isClaimSet_11 rfl 1 rfl ?_
      refine ww_iconst cx dX6_isClaimSet_12 ic_1 ?_
      refine ww_aload_n cx dX6_isClaimSet_13 rfl 0 rfl ?_
      refine gf_X6_43 cx (ht) dX6_isClaimSet_14 ?_
      refine ww_ishl cx dX6_isClaimSet_17 ?_
      refine ww_icmp_ge cx dX6_isClaimSet_18 (tgt := 25) rfl hF (fun hF => ?_) (fun hF => ?_)
      · refine ww_iconst cx dX6_isClaimSet_25 ic_0 ?_
        exact ww_rzp hE dX6_isClaimSet_26 hF
      · refine ww_iconst cx dX6_isClaimSet_21 ic_1 ?_
        refine ww_goto cx dX6_isClaimSet_22 (tgt := 26) rfl ?_
        exact ww_rzp hE dX6_isClaimSet_26 hF
theorem dX6_isGuestSet_0 : decode cX6_isGuestSet 0 = .ok (.aload_n 0, 1) := by decide +kernel
theorem dX6_isGuestSet_1 : decode cX6_isGuestSet 1 = .ok (.invokevirtual 61, 3) := by decide +kernel
theorem dX6_isGuestSet_4 : decode cX6_isGuestSet 4 = .ok (.ifCond .eq 21, 3) := by decide +kernel
theorem dX6_isGuestSet_7 : decode cX6_isGuestSet 7 = .ok (.iload_n 1, 1) := by decide +kernel
theorem dX6_isGuestSet_8 : decode cX6_isGuestSet 8 = .ok (.ifCond .lt 17, 3) := by decide +kernel
theorem dX6_isGuestSet_11 : decode cX6_isGuestSet 11 = .ok (.iload_n 1, 1) := by decide +kernel
theorem dX6_isGuestSet_12 : decode cX6_isGuestSet 12 = .ok (.iconst 1, 1) := by decide +kernel
theorem dX6_isGuestSet_13 : decode cX6_isGuestSet 13 = .ok (.aload_n 0, 1) := by decide +kernel
theorem dX6_isGuestSet_14 : decode cX6_isGuestSet 14 = .ok (.getfield 49, 3) := by decide +kernel
theorem dX6_isGuestSet_17 : decode cX6_isGuestSet 17 = .ok (.ishl, 1) := by decide +kernel
theorem dX6_isGuestSet_18 : decode cX6_isGuestSet 18 = .ok (.if_icmp .ge 7, 3) := by decide +kernel
theorem dX6_isGuestSet_21 : decode cX6_isGuestSet 21 = .ok (.iconst 1, 1) := by decide +kernel
theorem dX6_isGuestSet_22 : decode cX6_isGuestSet 22 = .ok (.goto 4, 3) := by decide +kernel
theorem dX6_isGuestSet_25 : decode cX6_isGuestSet 25 = .ok (.iconst 0, 1) := by decide +kernel
theorem dX6_isGuestSet_26 : decode cX6_isGuestSet 26 = .ok (.ireturn, 1) := by decide +kernel
set_option maxRecDepth 4000 in
theorem kX6_isGuestSet (G : GT) {σ : St} {t : Nat} {a1 : Int32} (ht : isTab t) : ∀ (r : Int32) , fX6_isGuestSet σ t a1 = some r → MCt G 2 yX6_isGuestSet cX6_isGuestSet 2 (some .boolean) [.ref (gad G t), .int a1] σ (some (.int r)) σ := by
  intro r hF
  refine met_zz (by decide) (Nat.le_of_ble_eq_true rfl) (fun X cx hE => ?_)
  have cx : Cx G X RX6 cX6_isGuestSet 2 2 := cx
  unfold fX6_isGuestSet at hF
  show WW G X 2 σ [(0, .ref (gad G t)), (1, .int a1)] 0 []
  refine ww_aload_n cx dX6_isGuestSet_0 rfl 0 rfl ?_
  refine ww_V0_pi kv_X6_61 rfl cx ((ht).1) ⟨Nat.le_of_ble_eq_true rfl, Nat.le_of_ble_eq_true rfl⟩ (Nat.le_of_ble_eq_true rfl) dX6_isGuestSet_1 (kX6_isTold G (ht)) hF (fun r1 hF => ?_)
  refine ww_if_eq cx dX6_isGuestSet_4 (tgt := 25) rfl hF (fun hF => ?_) (fun hF => ?_)
  · refine ww_iconst cx dX6_isGuestSet_25 ic_0 ?_
    exact ww_rzp hE dX6_isGuestSet_26 hF
  · refine ww_iload_n cx dX6_isGuestSet_7 rfl 1 rfl ?_
    refine ww_if_lt cx dX6_isGuestSet_8 (tgt := 25) rfl hF (fun hF => ?_) (fun hF => ?_)
    · refine ww_iconst cx dX6_isGuestSet_25 ic_0 ?_
      exact ww_rzp hE dX6_isGuestSet_26 hF
    · refine ww_iload_n cx dX6_isGuestSet_11 rfl 1 rfl ?_
      refine ww_iconst cx dX6_isGuestSet_12 ic_1 ?_
      refine ww_aload_n cx dX6_isGuestSet_13 rfl 0 rfl ?_
      refine gf_X6_49 cx (ht) dX6_isGuestSet_14 ?_
      refine ww_ishl cx dX6_isGuestSet_17 ?_
      refine ww_icmp_ge cx dX6_isGuestSet_18 (tgt := 25) rfl hF (fun hF => ?_) (fun hF => ?_)
      · refine ww_iconst cx dX6_isGuestSet_25 ic_0 ?_
        exact ww_rzp hE dX6_isGuestSet_26 hF
      · refine ww_iconst cx dX6_isGuestSet_21 ic_1 ?_
        refine ww_goto cx dX6_isGuestSet_22 (tgt := 26) rfl ?_
        exact ww_rzp hE dX6_isGuestSet_26 hF
theorem dX6_spread_0 : decode cX6_spread 0 = .ok (.iload_n 2, 1) := by decide +kernel
theorem dX6_spread_1 : decode cX6_spread 1 = .ok (.istore_n 3, 1) := by decide +kernel
theorem dX6_spread_2 : decode cX6_spread 2 = .ok (.iconst 1, 1) := by decide +kernel
theorem dX6_spread_3 : decode cX6_spread 3 = .ok (.istore 4, 2) := by decide +kernel
theorem dX6_spread_5 : decode cX6_spread 5 = .ok (.iconst 0, 1) := by decide +kernel
theorem dX6_spread_6 : decode cX6_spread 6 = .ok (.istore 5, 2) := by decide +kernel
theorem dX6_spread_8 : decode cX6_spread 8 = .ok (.iload 5, 2) := by decide +kernel
theorem dX6_spread_10 : decode cX6_spread 10 = .ok (.bipush 12, 2) := by decide +kernel
theorem dX6_spread_12 : decode cX6_spread 12 = .ok (.if_icmp .gt 80, 3) := by decide +kernel
theorem dX6_spread_15 : decode cX6_spread 15 = .ok (.iload 4, 2) := by decide +kernel
theorem dX6_spread_17 : decode cX6_spread 17 = .ok (.ifCond .eq 75, 3) := by decide +kernel
theorem dX6_spread_20 : decode cX6_spread 20 = .ok (.iload_n 3, 1) := by decide +kernel
theorem dX6_spread_21 : decode cX6_spread 21 = .ok (.istore 6, 2) := by decide +kernel
theorem dX6_spread_23 : decode cX6_spread 23 = .ok (.iconst 0, 1) := by decide +kernel
theorem dX6_spread_24 : decode cX6_spread 24 = .ok (.istore 7, 2) := by decide +kernel
theorem dX6_spread_26 : decode cX6_spread 26 = .ok (.iload 7, 2) := by decide +kernel
theorem dX6_spread_28 : decode cX6_spread 28 = .ok (.aload_n 0, 1) := by decide +kernel
theorem dX6_spread_29 : decode cX6_spread 29 = .ok (.getfield 46, 3) := by decide +kernel
theorem dX6_spread_32 : decode cX6_spread 32 = .ok (.if_icmp .ge 41, 3) := by decide +kernel
theorem dX6_spread_35 : decode cX6_spread 35 = .ok (.iload_n 1, 1) := by decide +kernel
theorem dX6_spread_36 : decode cX6_spread 36 = .ok (.iload 7, 2) := by decide +kernel
theorem dX6_spread_38 : decode cX6_spread 38 = .ok (.ishr, 1) := by decide +kernel
theorem dX6_spread_39 : decode cX6_spread 39 = .ok (.iconst 1, 1) := by decide +kernel
theorem dX6_spread_40 : decode cX6_spread 40 = .ok (.iand, 1) := by decide +kernel
theorem dX6_spread_41 : decode cX6_spread 41 = .ok (.iconst 1, 1) := by decide +kernel
theorem dX6_spread_42 : decode cX6_spread 42 = .ok (.if_icmp .ne 25, 3) := by decide +kernel
theorem dX6_spread_45 : decode cX6_spread 45 = .ok (.aload_n 0, 1) := by decide +kernel
theorem dX6_spread_46 : decode cX6_spread 46 = .ok (.iload 7, 2) := by decide +kernel
theorem dX6_spread_48 : decode cX6_spread 48 = .ok (.iload_n 3, 1) := by decide +kernel
theorem dX6_spread_49 : decode cX6_spread 49 = .ok (.invokevirtual 84, 3) := by decide +kernel
theorem dX6_spread_52 : decode cX6_spread 52 = .ok (.ifCond .eq 15, 3) := by decide +kernel
theorem dX6_spread_55 : decode cX6_spread 55 = .ok (.iload_n 3, 1) := by decide +kernel
theorem dX6_spread_56 : decode cX6_spread 56 = .ok (.iconst 1, 1) := by decide +kernel
theorem dX6_spread_57 : decode cX6_spread 57 = .ok (.aload_n 0, 1) := by decide +kernel
theorem dX6_spread_58 : decode cX6_spread 58 = .ok (.getfield 18, 3) := by decide +kernel
theorem dX6_spread_61 : decode cX6_spread 61 = .ok (.iload 7, 2) := by decide +kernel
theorem dX6_spread_63 : decode cX6_spread 63 = .ok (.iaload, 1) := by decide +kernel
theorem dX6_spread_64 : decode cX6_spread 64 = .ok (.ishl, 1) := by decide +kernel
theorem dX6_spread_65 : decode cX6_spread 65 = .ok (.ior, 1) := by decide +kernel
theorem dX6_spread_66 : decode cX6_spread 66 = .ok (.istore_n 3, 1) := by decide +kernel
theorem dX6_spread_67 : decode cX6_spread 67 = .ok (.iinc 7 1, 3) := by decide +kernel
theorem dX6_spread_70 : decode cX6_spread 70 = .ok (.goto (-44), 3) := by decide +kernel
theorem dX6_spread_73 : decode cX6_spread 73 = .ok (.iload_n 3, 1) := by decide +kernel
theorem dX6_spread_74 : decode cX6_spread 74 = .ok (.iload 6, 2) := by decide +kernel
theorem dX6_spread_76 : decode cX6_spread 76 = .ok (.if_icmp .eq 7, 3) := by decide +kernel
theorem dX6_spread_79 : decode cX6_spread 79 = .ok (.iconst 1, 1) := by decide +kernel
theorem dX6_spread_80 : decode cX6_spread 80 = .ok (.goto 4, 3) := by decide +kernel
theorem dX6_spread_83 : decode cX6_spread 83 = .ok (.iconst 0, 1) := by decide +kernel
theorem dX6_spread_84 : decode cX6_spread 84 = .ok (.istore 4, 2) := by decide +kernel
theorem dX6_spread_86 : decode cX6_spread 86 = .ok (.iinc 5 1, 3) := by decide +kernel
theorem dX6_spread_89 : decode cX6_spread 89 = .ok (.goto (-81), 3) := by decide +kernel
theorem dX6_spread_92 : decode cX6_spread 92 = .ok (.iload_n 3, 1) := by decide +kernel
theorem dX6_spread_93 : decode cX6_spread 93 = .ok (.ireturn, 1) := by decide +kernel
set_option maxRecDepth 4000 in
theorem kX6_spread (G : GT) {σ : St} {t : Nat} {a1 : Int32} {a2 : Int32} (ht : isTab t) : ∀ (r : Int32) , fX6_spread σ t a1 a2 = some r → MCt G 2 yX6_spread cX6_spread 8 (some .int) [.ref (gad G t), .int a1, .int a2] σ (some (.int r)) σ := by
  intro r hF
  refine met_i (by decide) (Nat.le_of_ble_eq_true rfl) (fun X cx hE => ?_)
  have cx : Cx G X RX6 cX6_spread 8 2 := cx
  have hl26 : ∀ (kr8 : Int32 → Int32 → Int32 → Int32 → Option (Int32)), (∀ (x1 : Int32) (x3 : Int32) (x4 : Int32) (x5 : Int32) , kr8 x1 x3 x4 x5 = some r → WW G X 8 σ [(0, .ref (gad G t)), (1, .int x1), (3, .int x3), (4, .int x4), (5, .int x5)] 8 []) → ∀ n : Nat, ∀ (x1 : Int32) (x3 : Int32) (x5 : Int32) (x6 : Int32) (x7 : Int32) , fX6_spread_l26 σ t kr8 n x1 x3 x5 x6 x7 = some r → WW G X 8 σ [(0, .ref (gad G t)), (1, .int x1), (3, .int x3), (5, .int x5), (6, .int x6), (7, .int x7)] 26 [] := by
    intro kr8 hk8
    intro n
    induction n with
    | zero =>
      intro x1 x3 x5 x6 x7 hF
      exact absurd hF (by intro z; cases z)
    | succ n ih =>
      intro x1 x3 x5 x6 x7 hF
      have hk26 := ih
      have hF : fX6_spread_B26 σ t kr8 (fX6_spread_l26 σ t kr8 n) x1 x3 x5 x6 x7 = some r := hF
      unfold fX6_spread_B26 at hF
      refine ww_iload cx dX6_spread_26 5 rfl ?_
      refine ww_aload_n cx dX6_spread_28 rfl 0 rfl ?_
      refine gf_X6_46 cx (ht) dX6_spread_29 ?_
      refine ww_icmp_ge cx dX6_spread_32 (tgt := 73) rfl hF (fun hF => ?_) (fun hF => ?_)
      · refine ww_iload_n cx dX6_spread_73 rfl 2 rfl ?_
        refine ww_iload cx dX6_spread_74 4 rfl ?_
        refine ww_icmp_eq cx dX6_spread_76 (tgt := 83) rfl hF (fun hF => ?_) (fun hF => ?_)
        · refine ww_iconst cx dX6_spread_83 ic_0 ?_
          refine ww_istore (ks := [0, 1, 2, 3, 4]) (lv' := fun v1 => [(4, .int v1), (0, .ref (gad G t)), (1, .int x1), (3, .int x3), (5, .int x5)]) cx dX6_spread_84 (by decide) hF (fun _ => rfl) (fun v1 hF => ?_)
          refine ww_iinc (j := 4) (ks := [0, 1, 2, 3, 4]) (lv' := fun v2 => [(5, .int v2), (4, .int v1), (0, .ref (gad G t)), (1, .int x1), (3, .int x3)]) cx dX6_spread_86 (by decide) rfl ic_1 hF (fun _ => rfl) (fun v2 hF => ?_)
          refine ww_goto cx dX6_spread_89 (tgt := 8) rfl ?_
          exact ww_sub [2, 3, 4, 1, 0] rfl (hk8 _ _ _ _ hF)
        · refine ww_iconst cx dX6_spread_79 ic_1 ?_
          refine ww_goto cx dX6_spread_80 (tgt := 84) rfl ?_
          refine ww_istore (ks := [0, 1, 2, 3, 4]) (lv' := fun v3 => [(4, .int v3), (0, .ref (gad G t)), (1, .int x1), (3, .int x3), (5, .int x5)]) cx dX6_spread_84 (by decide) hF (fun _ => rfl) (fun v3 hF => ?_)
          refine ww_iinc (j := 4) (ks := [0, 1, 2, 3, 4]) (lv' := fun v4 => [(5, .int v4), (4, .int v3), (0, .ref (gad G t)), (1, .int x1), (3, .int x3)]) cx dX6_spread_86 (by decide) rfl ic_1 hF (fun _ => rfl) (fun v4 hF => ?_)
          refine ww_goto cx dX6_spread_89 (tgt := 8) rfl ?_
          exact ww_sub [2, 3, 4, 1, 0] rfl (hk8 _ _ _ _ hF)
      · refine ww_iload_n cx dX6_spread_35 rfl 1 rfl ?_
        refine ww_iload cx dX6_spread_36 5 rfl ?_
        refine ww_ishr cx dX6_spread_38 ?_
        refine ww_iconst cx dX6_spread_39 ic_1 ?_
        refine ww_iand cx dX6_spread_40 ?_
        refine ww_iconst cx dX6_spread_41 ic_1 ?_
        refine ww_icmp_ne cx dX6_spread_42 (tgt := 67) rfl hF (fun hF => ?_) (fun hF => ?_)
        · refine ww_iinc (j := 5) (ks := [0, 1, 2, 3, 4, 5]) (lv' := fun v5 => [(7, .int v5), (0, .ref (gad G t)), (1, .int x1), (3, .int x3), (5, .int x5), (6, .int x6)]) cx dX6_spread_67 (by decide) rfl ic_1 hF (fun _ => rfl) (fun v5 hF => ?_)
          refine ww_goto cx dX6_spread_70 (tgt := 26) rfl ?_
          exact ww_sub [1, 2, 3, 4, 5, 0] rfl (hk26 _ _ _ _ _ hF)
        · refine ww_aload_n cx dX6_spread_45 rfl 0 rfl ?_
          refine ww_iload cx dX6_spread_46 5 rfl ?_
          refine ww_iload_n cx dX6_spread_48 rfl 2 rfl ?_
          refine ww_V2_pi kv_X6_84 rfl cx ((ht).1) ⟨Nat.le_of_ble_eq_true rfl, Nat.le_of_ble_eq_true rfl⟩ (Nat.le_of_ble_eq_true rfl) dX6_spread_49 (kX6_goes G (ht)) hF (fun r6 hF => ?_)
          refine ww_if_eq cx dX6_spread_52 (tgt := 67) rfl hF (fun hF => ?_) (fun hF => ?_)
          · refine ww_iinc (j := 5) (ks := [0, 1, 2, 3, 4, 5]) (lv' := fun v7 => [(7, .int v7), (0, .ref (gad G t)), (1, .int x1), (3, .int x3), (5, .int x5), (6, .int x6)]) cx dX6_spread_67 (by decide) rfl ic_1 hF (fun _ => rfl) (fun v7 hF => ?_)
            refine ww_goto cx dX6_spread_70 (tgt := 26) rfl ?_
            exact ww_sub [1, 2, 3, 4, 5, 0] rfl (hk26 _ _ _ _ _ hF)
          · refine ww_iload_n cx dX6_spread_55 rfl 2 rfl ?_
            refine ww_iconst cx dX6_spread_56 ic_1 ?_
            refine ww_aload_n cx dX6_spread_57 rfl 0 rfl ?_
            refine gf_X6_18 cx (ht) dX6_spread_58 ?_
            refine ww_iload cx dX6_spread_61 5 rfl ?_
            refine ww_iald (N := 12) cx (ar_X6_10 ht) dX6_spread_63 hF (fun hF => ?_)
            refine ww_ishl cx dX6_spread_64 ?_
            refine ww_ior cx dX6_spread_65 ?_
            refine ww_istore_n (ks := [0, 1, 2, 3, 4, 5]) (lv' := fun v8 => [(3, .int v8), (0, .ref (gad G t)), (1, .int x1), (5, .int x5), (6, .int x6), (7, .int x7)]) cx dX6_spread_66 rfl (by decide) hF (fun _ => rfl) (fun v8 hF => ?_)
            refine ww_iinc (j := 5) (ks := [0, 1, 2, 3, 4, 5]) (lv' := fun v9 => [(7, .int v9), (3, .int v8), (0, .ref (gad G t)), (1, .int x1), (5, .int x5), (6, .int x6)]) cx dX6_spread_67 (by decide) rfl ic_1 hF (fun _ => rfl) (fun v9 hF => ?_)
            refine ww_goto cx dX6_spread_70 (tgt := 26) rfl ?_
            exact ww_sub [2, 3, 1, 4, 5, 0] rfl (hk26 _ _ _ _ _ hF)
  have hl8 : ∀ n : Nat, ∀ (x1 : Int32) (x3 : Int32) (x4 : Int32) (x5 : Int32) , fX6_spread_l8 σ t n x1 x3 x4 x5 = some r → WW G X 8 σ [(0, .ref (gad G t)), (1, .int x1), (3, .int x3), (4, .int x4), (5, .int x5)] 8 [] := by
    intro n
    induction n with
    | zero =>
      intro x1 x3 x4 x5 hF
      exact absurd hF (by intro z; cases z)
    | succ n ih =>
      intro x1 x3 x4 x5 hF
      have hk8 := ih
      have hF : fX6_spread_B8 σ t (fX6_spread_l8 σ t n) x1 x3 x4 x5 = some r := hF
      unfold fX6_spread_B8 at hF
      refine ww_iload cx dX6_spread_8 4 rfl ?_
      refine ww_bipush cx dX6_spread_10 bc_12 ?_
      refine ww_icmp_gt cx dX6_spread_12 (tgt := 92) rfl hF (fun hF => ?_) (fun hF => ?_)
      · refine ww_iload_n cx dX6_spread_92 rfl 2 rfl ?_
        exact ww_rip hE dX6_spread_93 hF
      · refine ww_iload cx dX6_spread_15 3 rfl ?_
        refine ww_if_eq cx dX6_spread_17 (tgt := 92) rfl hF (fun hF => ?_) (fun hF => ?_)
        · refine ww_iload_n cx dX6_spread_92 rfl 2 rfl ?_
          exact ww_rip hE dX6_spread_93 hF
        · refine ww_iload_n cx dX6_spread_20 rfl 2 rfl ?_
          refine ww_istore (ks := [0, 1, 2, 3, 5]) (lv' := fun v10 => [(6, .int v10), (0, .ref (gad G t)), (1, .int x1), (3, .int x3), (5, .int x5)]) cx dX6_spread_21 (by decide) hF (fun _ => rfl) (fun v10 hF => ?_)
          refine ww_iconst cx dX6_spread_23 ic_0 ?_
          refine ww_istore (ks := [0, 1, 2, 3, 4, 5]) (lv' := fun v11 => [(7, .int v11), (6, .int v10), (0, .ref (gad G t)), (1, .int x1), (3, .int x3), (5, .int x5)]) cx dX6_spread_24 (by decide) hF (fun _ => rfl) (fun v11 hF => ?_)
          exact ww_sub [2, 3, 4, 5, 1, 0] rfl (hl26 _ hk8 FU _ _ _ _ _ hF)
  unfold fX6_spread at hF
  show WW G X 8 σ [(0, .ref (gad G t)), (1, .int a1), (2, .int a2)] 0 []
  refine ww_iload_n cx dX6_spread_0 rfl 2 rfl ?_
  refine ww_istore_n (ks := [0, 1, 2]) (lv' := fun v12 => [(3, .int v12), (0, .ref (gad G t)), (1, .int a1)]) cx dX6_spread_1 rfl (by decide) hF (fun _ => rfl) (fun v12 hF => ?_)
  refine ww_iconst cx dX6_spread_2 ic_1 ?_
  refine ww_istore (ks := [0, 1, 2, 3]) (lv' := fun v13 => [(4, .int v13), (3, .int v12), (0, .ref (gad G t)), (1, .int a1)]) cx dX6_spread_3 (by decide) hF (fun _ => rfl) (fun v13 hF => ?_)
  refine ww_iconst cx dX6_spread_5 ic_0 ?_
  refine ww_istore (ks := [0, 1, 2, 3, 4]) (lv' := fun v14 => [(5, .int v14), (4, .int v13), (3, .int v12), (0, .ref (gad G t)), (1, .int a1)]) cx dX6_spread_6 (by decide) hF (fun _ => rfl) (fun v14 hF => ?_)
  exact ww_sub [3, 4, 2, 1, 0] rfl (hl8 FU _ _ _ _ hF)
theorem dX6_teamCanDo_0 : decode cX6_teamCanDo 0 = .ok (.iconst 0, 1) := by decide +kernel
theorem dX6_teamCanDo_1 : decode cX6_teamCanDo 1 = .ok (.istore_n 2, 1) := by decide +kernel
theorem dX6_teamCanDo_2 : decode cX6_teamCanDo 2 = .ok (.iconst 0, 1) := by decide +kernel
theorem dX6_teamCanDo_3 : decode cX6_teamCanDo 3 = .ok (.istore_n 3, 1) := by decide +kernel
theorem dX6_teamCanDo_4 : decode cX6_teamCanDo 4 = .ok (.iload_n 3, 1) := by decide +kernel
theorem dX6_teamCanDo_5 : decode cX6_teamCanDo 5 = .ok (.aload_n 0, 1) := by decide +kernel
theorem dX6_teamCanDo_6 : decode cX6_teamCanDo 6 = .ok (.getfield 49, 3) := by decide +kernel
theorem dX6_teamCanDo_9 : decode cX6_teamCanDo 9 = .ok (.if_icmp .ge 26, 3) := by decide +kernel
theorem dX6_teamCanDo_12 : decode cX6_teamCanDo 12 = .ok (.iload_n 1, 1) := by decide +kernel
theorem dX6_teamCanDo_13 : decode cX6_teamCanDo 13 = .ok (.iload_n 3, 1) := by decide +kernel
theorem dX6_teamCanDo_14 : decode cX6_teamCanDo 14 = .ok (.ishr, 1) := by decide +kernel
theorem dX6_teamCanDo_15 : decode cX6_teamCanDo 15 = .ok (.iconst 1, 1) := by decide +kernel
theorem dX6_teamCanDo_16 : decode cX6_teamCanDo 16 = .ok (.iand, 1) := by decide +kernel
theorem dX6_teamCanDo_17 : decode cX6_teamCanDo 17 = .ok (.iconst 1, 1) := by decide +kernel
theorem dX6_teamCanDo_18 : decode cX6_teamCanDo 18 = .ok (.if_icmp .ne 11, 3) := by decide +kernel
theorem dX6_teamCanDo_21 : decode cX6_teamCanDo 21 = .ok (.iload_n 2, 1) := by decide +kernel
theorem dX6_teamCanDo_22 : decode cX6_teamCanDo 22 = .ok (.aload_n 0, 1) := by decide +kernel
theorem dX6_teamCanDo_23 : decode cX6_teamCanDo 23 = .ok (.iload_n 3, 1) := by decide +kernel
theorem dX6_teamCanDo_24 : decode cX6_teamCanDo 24 = .ok (.invokevirtual 88, 3) := by decide +kernel
theorem dX6_teamCanDo_27 : decode cX6_teamCanDo 27 = .ok (.iadd, 1) := by decide +kernel
theorem dX6_teamCanDo_28 : decode cX6_teamCanDo 28 = .ok (.istore_n 2, 1) := by decide +kernel
theorem dX6_teamCanDo_29 : decode cX6_teamCanDo 29 = .ok (.iinc 3 1, 3) := by decide +kernel
theorem dX6_teamCanDo_32 : decode cX6_teamCanDo 32 = .ok (.goto (-28), 3) := by decide +kernel
theorem dX6_teamCanDo_35 : decode cX6_teamCanDo 35 = .ok (.iload_n 2, 1) := by decide +kernel
theorem dX6_teamCanDo_36 : decode cX6_teamCanDo 36 = .ok (.ireturn, 1) := by decide +kernel
set_option maxRecDepth 4000 in
theorem kX6_teamCanDo (G : GT) {σ : St} {t : Nat} {a1 : Int32} (ht : isTab t) : ∀ (r : Int32) , fX6_teamCanDo σ t a1 = some r → MCt G 2 yX6_teamCanDo cX6_teamCanDo 4 (some .int) [.ref (gad G t), .int a1] σ (some (.int r)) σ := by
  intro r hF
  refine met_i (by decide) (Nat.le_of_ble_eq_true rfl) (fun X cx hE => ?_)
  have cx : Cx G X RX6 cX6_teamCanDo 4 2 := cx
  have hl4 : ∀ n : Nat, ∀ (x1 : Int32) (x2 : Int32) (x3 : Int32) , fX6_teamCanDo_l4 σ t n x1 x2 x3 = some r → WW G X 4 σ [(0, .ref (gad G t)), (1, .int x1), (2, .int x2), (3, .int x3)] 4 [] := by
    intro n
    induction n with
    | zero =>
      intro x1 x2 x3 hF
      exact absurd hF (by intro z; cases z)
    | succ n ih =>
      intro x1 x2 x3 hF
      have hk4 := ih
      have hF : fX6_teamCanDo_B4 σ t (fX6_teamCanDo_l4 σ t n) x1 x2 x3 = some r := hF
      unfold fX6_teamCanDo_B4 at hF
      refine ww_iload_n cx dX6_teamCanDo_4 rfl 3 rfl ?_
      refine ww_aload_n cx dX6_teamCanDo_5 rfl 0 rfl ?_
      refine gf_X6_49 cx (ht) dX6_teamCanDo_6 ?_
      refine ww_icmp_ge cx dX6_teamCanDo_9 (tgt := 35) rfl hF (fun hF => ?_) (fun hF => ?_)
      · refine ww_iload_n cx dX6_teamCanDo_35 rfl 2 rfl ?_
        exact ww_rip hE dX6_teamCanDo_36 hF
      · refine ww_iload_n cx dX6_teamCanDo_12 rfl 1 rfl ?_
        refine ww_iload_n cx dX6_teamCanDo_13 rfl 3 rfl ?_
        refine ww_ishr cx dX6_teamCanDo_14 ?_
        refine ww_iconst cx dX6_teamCanDo_15 ic_1 ?_
        refine ww_iand cx dX6_teamCanDo_16 ?_
        refine ww_iconst cx dX6_teamCanDo_17 ic_1 ?_
        refine ww_icmp_ne cx dX6_teamCanDo_18 (tgt := 29) rfl hF (fun hF => ?_) (fun hF => ?_)
        · refine ww_iinc (j := 3) (ks := [0, 1, 2, 3]) (lv' := fun v1 => [(3, .int v1), (0, .ref (gad G t)), (1, .int x1), (2, .int x2)]) cx dX6_teamCanDo_29 (by decide) rfl ic_1 hF (fun _ => rfl) (fun v1 hF => ?_)
          refine ww_goto cx dX6_teamCanDo_32 (tgt := 4) rfl ?_
          exact ww_sub [1, 2, 3, 0] rfl (hk4 _ _ _ hF)
        · refine ww_iload_n cx dX6_teamCanDo_21 rfl 2 rfl ?_
          refine ww_aload_n cx dX6_teamCanDo_22 rfl 0 rfl ?_
          refine ww_iload_n cx dX6_teamCanDo_23 rfl 3 rfl ?_
          refine ww_V1_pi kv_X6_88 rfl cx ((ht).1) ⟨Nat.le_of_ble_eq_true rfl, Nat.le_of_ble_eq_true rfl⟩ (Nat.le_of_ble_eq_true rfl) dX6_teamCanDo_24 (kX6_canDo G (ht)) hF (fun r2 hF => ?_)
          refine ww_iadd cx dX6_teamCanDo_27 ?_
          refine ww_istore_n (ks := [0, 1, 2, 3]) (lv' := fun v3 => [(2, .int v3), (0, .ref (gad G t)), (1, .int x1), (3, .int x3)]) cx dX6_teamCanDo_28 rfl (by decide) hF (fun _ => rfl) (fun v3 hF => ?_)
          refine ww_iinc (j := 3) (ks := [0, 1, 2, 3]) (lv' := fun v4 => [(3, .int v4), (2, .int v3), (0, .ref (gad G t)), (1, .int x1)]) cx dX6_teamCanDo_29 (by decide) rfl ic_1 hF (fun _ => rfl) (fun v4 hF => ?_)
          refine ww_goto cx dX6_teamCanDo_32 (tgt := 4) rfl ?_
          exact ww_sub [2, 3, 1, 0] rfl (hk4 _ _ _ hF)
  unfold fX6_teamCanDo at hF
  show WW G X 4 σ [(0, .ref (gad G t)), (1, .int a1)] 0 []
  refine ww_iconst cx dX6_teamCanDo_0 ic_0 ?_
  refine ww_istore_n (ks := [0, 1, 2]) (lv' := fun v5 => [(2, .int v5), (0, .ref (gad G t)), (1, .int a1)]) cx dX6_teamCanDo_1 rfl (by decide) hF (fun _ => rfl) (fun v5 hF => ?_)
  refine ww_iconst cx dX6_teamCanDo_2 ic_0 ?_
  refine ww_istore_n (ks := [0, 1, 2, 3]) (lv' := fun v6 => [(3, .int v6), (2, .int v5), (0, .ref (gad G t)), (1, .int a1)]) cx dX6_teamCanDo_3 rfl (by decide) hF (fun _ => rfl) (fun v6 hF => ?_)
  exact ww_sub [2, 3, 1, 0] rfl (hl4 FU _ _ _ hF)
theorem dX6_worldsOf_0 : decode cX6_worldsOf 0 = .ok (.aload_n 0, 1) := by decide +kernel
theorem dX6_worldsOf_1 : decode cX6_worldsOf 1 = .ok (.invokevirtual 65, 3) := by decide +kernel
theorem dX6_worldsOf_4 : decode cX6_worldsOf 4 = .ok (.istore_n 2, 1) := by decide +kernel
theorem dX6_worldsOf_5 : decode cX6_worldsOf 5 = .ok (.iconst 0, 1) := by decide +kernel
theorem dX6_worldsOf_6 : decode cX6_worldsOf 6 = .ok (.istore_n 3, 1) := by decide +kernel
theorem dX6_worldsOf_7 : decode cX6_worldsOf 7 = .ok (.iload_n 3, 1) := by decide +kernel
theorem dX6_worldsOf_8 : decode cX6_worldsOf 8 = .ok (.aload_n 0, 1) := by decide +kernel
theorem dX6_worldsOf_9 : decode cX6_worldsOf 9 = .ok (.getfield 43, 3) := by decide +kernel
theorem dX6_worldsOf_12 : decode cX6_worldsOf 12 = .ok (.if_icmp .ge 27, 3) := by decide +kernel
theorem dX6_worldsOf_15 : decode cX6_worldsOf 15 = .ok (.iload_n 1, 1) := by decide +kernel
theorem dX6_worldsOf_16 : decode cX6_worldsOf 16 = .ok (.iload_n 3, 1) := by decide +kernel
theorem dX6_worldsOf_17 : decode cX6_worldsOf 17 = .ok (.ishr, 1) := by decide +kernel
theorem dX6_worldsOf_18 : decode cX6_worldsOf 18 = .ok (.iconst 1, 1) := by decide +kernel
theorem dX6_worldsOf_19 : decode cX6_worldsOf 19 = .ok (.iand, 1) := by decide +kernel
theorem dX6_worldsOf_20 : decode cX6_worldsOf 20 = .ok (.iconst 1, 1) := by decide +kernel
theorem dX6_worldsOf_21 : decode cX6_worldsOf 21 = .ok (.if_icmp .ne 12, 3) := by decide +kernel
theorem dX6_worldsOf_24 : decode cX6_worldsOf 24 = .ok (.iload_n 2, 1) := by decide +kernel
theorem dX6_worldsOf_25 : decode cX6_worldsOf 25 = .ok (.aload_n 0, 1) := by decide +kernel
theorem dX6_worldsOf_26 : decode cX6_worldsOf 26 = .ok (.getfield 15, 3) := by decide +kernel
theorem dX6_worldsOf_29 : decode cX6_worldsOf 29 = .ok (.iload_n 3, 1) := by decide +kernel
theorem dX6_worldsOf_30 : decode cX6_worldsOf 30 = .ok (.iaload, 1) := by decide +kernel
theorem dX6_worldsOf_31 : decode cX6_worldsOf 31 = .ok (.iand, 1) := by decide +kernel
theorem dX6_worldsOf_32 : decode cX6_worldsOf 32 = .ok (.istore_n 2, 1) := by decide +kernel
theorem dX6_worldsOf_33 : decode cX6_worldsOf 33 = .ok (.iinc 3 1, 3) := by decide +kernel
theorem dX6_worldsOf_36 : decode cX6_worldsOf 36 = .ok (.goto (-29), 3) := by decide +kernel
theorem dX6_worldsOf_39 : decode cX6_worldsOf 39 = .ok (.iload_n 2, 1) := by decide +kernel
theorem dX6_worldsOf_40 : decode cX6_worldsOf 40 = .ok (.ireturn, 1) := by decide +kernel
set_option maxRecDepth 4000 in
theorem kX6_worldsOf (G : GT) {σ : St} {t : Nat} {a1 : Int32} (ht : isTab t) : ∀ (r : Int32) , fX6_worldsOf σ t a1 = some r → MCt G 2 yX6_worldsOf cX6_worldsOf 4 (some .int) [.ref (gad G t), .int a1] σ (some (.int r)) σ := by
  intro r hF
  refine met_i (by decide) (Nat.le_of_ble_eq_true rfl) (fun X cx hE => ?_)
  have cx : Cx G X RX6 cX6_worldsOf 4 2 := cx
  have hl7 : ∀ n : Nat, ∀ (x1 : Int32) (x2 : Int32) (x3 : Int32) , fX6_worldsOf_l7 σ t n x1 x2 x3 = some r → WW G X 4 σ [(0, .ref (gad G t)), (1, .int x1), (2, .int x2), (3, .int x3)] 7 [] := by
    intro n
    induction n with
    | zero =>
      intro x1 x2 x3 hF
      exact absurd hF (by intro z; cases z)
    | succ n ih =>
      intro x1 x2 x3 hF
      have hk7 := ih
      have hF : fX6_worldsOf_B7 σ t (fX6_worldsOf_l7 σ t n) x1 x2 x3 = some r := hF
      unfold fX6_worldsOf_B7 at hF
      refine ww_iload_n cx dX6_worldsOf_7 rfl 3 rfl ?_
      refine ww_aload_n cx dX6_worldsOf_8 rfl 0 rfl ?_
      refine gf_X6_43 cx (ht) dX6_worldsOf_9 ?_
      refine ww_icmp_ge cx dX6_worldsOf_12 (tgt := 39) rfl hF (fun hF => ?_) (fun hF => ?_)
      · refine ww_iload_n cx dX6_worldsOf_39 rfl 2 rfl ?_
        exact ww_rip hE dX6_worldsOf_40 hF
      · refine ww_iload_n cx dX6_worldsOf_15 rfl 1 rfl ?_
        refine ww_iload_n cx dX6_worldsOf_16 rfl 3 rfl ?_
        refine ww_ishr cx dX6_worldsOf_17 ?_
        refine ww_iconst cx dX6_worldsOf_18 ic_1 ?_
        refine ww_iand cx dX6_worldsOf_19 ?_
        refine ww_iconst cx dX6_worldsOf_20 ic_1 ?_
        refine ww_icmp_ne cx dX6_worldsOf_21 (tgt := 33) rfl hF (fun hF => ?_) (fun hF => ?_)
        · refine ww_iinc (j := 3) (ks := [0, 1, 2, 3]) (lv' := fun v1 => [(3, .int v1), (0, .ref (gad G t)), (1, .int x1), (2, .int x2)]) cx dX6_worldsOf_33 (by decide) rfl ic_1 hF (fun _ => rfl) (fun v1 hF => ?_)
          refine ww_goto cx dX6_worldsOf_36 (tgt := 7) rfl ?_
          exact ww_sub [1, 2, 3, 0] rfl (hk7 _ _ _ hF)
        · refine ww_iload_n cx dX6_worldsOf_24 rfl 2 rfl ?_
          refine ww_aload_n cx dX6_worldsOf_25 rfl 0 rfl ?_
          refine gf_X6_15 cx (ht) dX6_worldsOf_26 ?_
          refine ww_iload_n cx dX6_worldsOf_29 rfl 3 rfl ?_
          refine ww_iald (N := 12) cx (ar_X6_9 ht) dX6_worldsOf_30 hF (fun hF => ?_)
          refine ww_iand cx dX6_worldsOf_31 ?_
          refine ww_istore_n (ks := [0, 1, 2, 3]) (lv' := fun v2 => [(2, .int v2), (0, .ref (gad G t)), (1, .int x1), (3, .int x3)]) cx dX6_worldsOf_32 rfl (by decide) hF (fun _ => rfl) (fun v2 hF => ?_)
          refine ww_iinc (j := 3) (ks := [0, 1, 2, 3]) (lv' := fun v3 => [(3, .int v3), (2, .int v2), (0, .ref (gad G t)), (1, .int x1)]) cx dX6_worldsOf_33 (by decide) rfl ic_1 hF (fun _ => rfl) (fun v3 hF => ?_)
          refine ww_goto cx dX6_worldsOf_36 (tgt := 7) rfl ?_
          exact ww_sub [2, 3, 1, 0] rfl (hk7 _ _ _ hF)
  unfold fX6_worldsOf at hF
  show WW G X 4 σ [(0, .ref (gad G t)), (1, .int a1)] 0 []
  refine ww_aload_n cx dX6_worldsOf_0 rfl 0 rfl ?_
  refine ww_V0_pi kv_X6_65 rfl cx ((ht).1) ⟨Nat.le_of_ble_eq_true rfl, Nat.le_of_ble_eq_true rfl⟩ (Nat.le_of_ble_eq_true rfl) dX6_worldsOf_1 (kX6_allWorlds G (ht)) hF (fun r4 hF => ?_)
  refine ww_istore_n (ks := [0, 1, 2]) (lv' := fun v5 => [(2, .int v5), (0, .ref (gad G t)), (1, .int a1)]) cx dX6_worldsOf_4 rfl (by decide) hF (fun _ => rfl) (fun v5 hF => ?_)
  refine ww_iconst cx dX6_worldsOf_5 ic_0 ?_
  refine ww_istore_n (ks := [0, 1, 2, 3]) (lv' := fun v6 => [(3, .int v6), (2, .int v5), (0, .ref (gad G t)), (1, .int a1)]) cx dX6_worldsOf_6 rfl (by decide) hF (fun _ => rfl) (fun v6 hF => ?_)
  exact ww_sub [2, 3, 1, 0] rfl (hl7 FU _ _ _ hF)
theorem dX8_advance_0 : decode cX8_advance 0 = .ok (.aload_n 0, 1) := by decide +kernel
theorem dX8_advance_1 : decode cX8_advance 1 = .ok (.aload_n 0, 1) := by decide +kernel
theorem dX8_advance_2 : decode cX8_advance 2 = .ok (.getfield 101, 3) := by decide +kernel
theorem dX8_advance_5 : decode cX8_advance 5 = .ok (.invokevirtual 104, 3) := by decide +kernel
theorem dX8_advance_8 : decode cX8_advance 8 = .ok (.bipush 32, 2) := by decide +kernel
theorem dX8_advance_10 : decode cX8_advance 10 = .ok (.if_icmp .eq 16, 3) := by decide +kernel
theorem dX8_advance_13 : decode cX8_advance 13 = .ok (.aload_n 0, 1) := by decide +kernel
theorem dX8_advance_14 : decode cX8_advance 14 = .ok (.aload_n 0, 1) := by decide +kernel
theorem dX8_advance_15 : decode cX8_advance 15 = .ok (.getfield 101, 3) := by decide +kernel
theorem dX8_advance_18 : decode cX8_advance 18 = .ok (.invokevirtual 104, 3) := by decide +kernel
theorem dX8_advance_21 : decode cX8_advance 21 = .ok (.bipush 10, 2) := by decide +kernel
theorem dX8_advance_23 : decode cX8_advance 23 = .ok (.if_icmp .ne 16, 3) := by decide +kernel
theorem dX8_advance_26 : decode cX8_advance 26 = .ok (.aload_n 0, 1) := by decide +kernel
theorem dX8_advance_27 : decode cX8_advance 27 = .ok (.dup, 1) := by decide +kernel
theorem dX8_advance_28 : decode cX8_advance 28 = .ok (.getfield 101, 3) := by decide +kernel
theorem dX8_advance_31 : decode cX8_advance 31 = .ok (.iconst 1, 1) := by decide +kernel
theorem dX8_advance_32 : decode cX8_advance 32 = .ok (.iadd, 1) := by decide +kernel
theorem dX8_advance_33 : decode cX8_advance 33 = .ok (.putfield 101, 3) := by decide +kernel
theorem dX8_advance_36 : decode cX8_advance 36 = .ok (.goto (-36), 3) := by decide +kernel
theorem dX8_advance_39 : decode cX8_advance 39 = .ok (.aload_n 0, 1) := by decide +kernel
theorem dX8_advance_40 : decode cX8_advance 40 = .ok (.aload_n 0, 1) := by decide +kernel
theorem dX8_advance_41 : decode cX8_advance 41 = .ok (.getfield 101, 3) := by decide +kernel
theorem dX8_advance_44 : decode cX8_advance 44 = .ok (.putfield 108, 3) := by decide +kernel
theorem dX8_advance_47 : decode cX8_advance 47 = .ok (.aload_n 0, 1) := by decide +kernel
theorem dX8_advance_48 : decode cX8_advance 48 = .ok (.aload_n 0, 1) := by decide +kernel
theorem dX8_advance_49 : decode cX8_advance 49 = .ok (.getfield 101, 3) := by decide +kernel
theorem dX8_advance_52 : decode cX8_advance 52 = .ok (.invokevirtual 104, 3) := by decide +kernel
theorem dX8_advance_55 : decode cX8_advance 55 = .ok (.istore_n 1, 1) := by decide +kernel
theorem dX8_advance_56 : decode cX8_advance 56 = .ok (.iload_n 1, 1) := by decide +kernel
theorem dX8_advance_57 : decode cX8_advance 57 = .ok (.iconst (-1), 1) := by decide +kernel
theorem dX8_advance_58 : decode cX8_advance 58 = .ok (.if_icmp .ne 11, 3) := by decide +kernel
theorem dX8_advance_61 : decode cX8_advance 61 = .ok (.aload_n 0, 1) := by decide +kernel
theorem dX8_advance_62 : decode cX8_advance 62 = .ok (.iconst 0, 1) := by decide +kernel
theorem dX8_advance_63 : decode cX8_advance 63 = .ok (.putfield 111, 3) := by decide +kernel
theorem dX8_advance_66 : decode cX8_advance 66 = .ok (.goto 173, 3) := by decide +kernel
theorem dX8_advance_69 : decode cX8_advance 69 = .ok (.iload_n 1, 1) := by decide +kernel
theorem dX8_advance_70 : decode cX8_advance 70 = .ok (.i2l, 1) := by decide +kernel
theorem dX8_advance_71 : decode cX8_advance 71 = .ok (.ldc2_w 114, 3) := by decide +kernel
theorem dX8_advance_74 : decode cX8_advance 74 = .ok (.ldc2_w 116, 3) := by decide +kernel
theorem dX8_advance_77 : decode cX8_advance 77 = .ok (.invokestatic 83, 3) := by decide +kernel
theorem dX8_advance_80 : decode cX8_advance 80 = .ok (.ifCond .eq 45, 3) := by decide +kernel
theorem dX8_advance_83 : decode cX8_advance 83 = .ok (.aload_n 0, 1) := by decide +kernel
theorem dX8_advance_84 : decode cX8_advance 84 = .ok (.aload_n 0, 1) := by decide +kernel
theorem dX8_advance_85 : decode cX8_advance 85 = .ok (.getfield 101, 3) := by decide +kernel
theorem dX8_advance_88 : decode cX8_advance 88 = .ok (.invokevirtual 104, 3) := by decide +kernel
theorem dX8_advance_91 : decode cX8_advance 91 = .ok (.i2l, 1) := by decide +kernel
theorem dX8_advance_92 : decode cX8_advance 92 = .ok (.ldc2_w 114, 3) := by decide +kernel
theorem dX8_advance_95 : decode cX8_advance 95 = .ok (.ldc2_w 116, 3) := by decide +kernel
theorem dX8_advance_98 : decode cX8_advance 98 = .ok (.invokestatic 83, 3) := by decide +kernel
theorem dX8_advance_101 : decode cX8_advance 101 = .ok (.ifCond .eq 16, 3) := by decide +kernel
theorem dX8_advance_104 : decode cX8_advance 104 = .ok (.aload_n 0, 1) := by decide +kernel
theorem dX8_advance_105 : decode cX8_advance 105 = .ok (.dup, 1) := by decide +kernel
theorem dX8_advance_106 : decode cX8_advance 106 = .ok (.getfield 101, 3) := by decide +kernel
theorem dX8_advance_109 : decode cX8_advance 109 = .ok (.iconst 1, 1) := by decide +kernel
theorem dX8_advance_110 : decode cX8_advance 110 = .ok (.iadd, 1) := by decide +kernel
theorem dX8_advance_111 : decode cX8_advance 111 = .ok (.putfield 101, 3) := by decide +kernel
theorem dX8_advance_114 : decode cX8_advance 114 = .ok (.goto (-31), 3) := by decide +kernel
theorem dX8_advance_117 : decode cX8_advance 117 = .ok (.aload_n 0, 1) := by decide +kernel
theorem dX8_advance_118 : decode cX8_advance 118 = .ok (.iconst 1, 1) := by decide +kernel
theorem dX8_advance_119 : decode cX8_advance 119 = .ok (.putfield 111, 3) := by decide +kernel
theorem dX8_advance_122 : decode cX8_advance 122 = .ok (.goto 117, 3) := by decide +kernel
theorem dX8_advance_125 : decode cX8_advance 125 = .ok (.iload_n 1, 1) := by decide +kernel
theorem dX8_advance_126 : decode cX8_advance 126 = .ok (.i2l, 1) := by decide +kernel
theorem dX8_advance_127 : decode cX8_advance 127 = .ok (.ldc2_w 118, 3) := by decide +kernel
theorem dX8_advance_130 : decode cX8_advance 130 = .ok (.ldc2_w 120, 3) := by decide +kernel
theorem dX8_advance_133 : decode cX8_advance 133 = .ok (.invokestatic 83, 3) := by decide +kernel
theorem dX8_advance_136 : decode cX8_advance 136 = .ok (.ifCond .eq 78, 3) := by decide +kernel
theorem dX8_advance_139 : decode cX8_advance 139 = .ok (.aload_n 0, 1) := by decide +kernel
theorem dX8_advance_140 : decode cX8_advance 140 = .ok (.iconst 0, 1) := by decide +kernel
theorem dX8_advance_141 : decode cX8_advance 141 = .ok (.putfield 122, 3) := by decide +kernel
theorem dX8_advance_144 : decode cX8_advance 144 = .ok (.aload_n 0, 1) := by decide +kernel
theorem dX8_advance_145 : decode cX8_advance 145 = .ok (.aload_n 0, 1) := by decide +kernel
theorem dX8_advance_146 : decode cX8_advance 146 = .ok (.getfield 101, 3) := by decide +kernel
theorem dX8_advance_149 : decode cX8_advance 149 = .ok (.invokevirtual 104, 3) := by decide +kernel
theorem dX8_advance_152 : decode cX8_advance 152 = .ok (.i2l, 1) := by decide +kernel
theorem dX8_advance_153 : decode cX8_advance 153 = .ok (.ldc2_w 118, 3) := by decide +kernel
theorem dX8_advance_156 : decode cX8_advance 156 = .ok (.ldc2_w 120, 3) := by decide +kernel
theorem dX8_advance_159 : decode cX8_advance 159 = .ok (.invokestatic 83, 3) := by decide +kernel
theorem dX8_advance_162 : decode cX8_advance 162 = .ok (.ifCond .eq 44, 3) := by decide +kernel
theorem dX8_advance_165 : decode cX8_advance 165 = .ok (.aload_n 0, 1) := by decide +kernel
theorem dX8_advance_166 : decode cX8_advance 166 = .ok (.ldc 125, 2) := by decide +kernel
theorem dX8_advance_168 : decode cX8_advance 168 = .ok (.bipush 10, 2) := by decide +kernel
theorem dX8_advance_170 : decode cX8_advance 170 = .ok (.aload_n 0, 1) := by decide +kernel
theorem dX8_advance_171 : decode cX8_advance 171 = .ok (.getfield 122, 3) := by decide +kernel
theorem dX8_advance_174 : decode cX8_advance 174 = .ok (.imul, 1) := by decide +kernel
theorem dX8_advance_175 : decode cX8_advance 175 = .ok (.aload_n 0, 1) := by decide +kernel
theorem dX8_advance_176 : decode cX8_advance 176 = .ok (.aload_n 0, 1) := by decide +kernel
theorem dX8_advance_177 : decode cX8_advance 177 = .ok (.getfield 101, 3) := by decide +kernel
theorem dX8_advance_180 : decode cX8_advance 180 = .ok (.invokevirtual 104, 3) := by decide +kernel
theorem dX8_advance_183 : decode cX8_advance 183 = .ok (.iadd, 1) := by decide +kernel
theorem dX8_advance_184 : decode cX8_advance 184 = .ok (.bipush 48, 2) := by decide +kernel
theorem dX8_advance_186 : decode cX8_advance 186 = .ok (.isub, 1) := by decide +kernel
theorem dX8_advance_187 : decode cX8_advance 187 = .ok (.invokestatic 126, 3) := by decide +kernel
theorem dX8_advance_190 : decode cX8_advance 190 = .ok (.putfield 122, 3) := by decide +kernel
theorem dX8_advance_193 : decode cX8_advance 193 = .ok (.aload_n 0, 1) := by decide +kernel
theorem dX8_advance_194 : decode cX8_advance 194 = .ok (.dup, 1) := by decide +kernel
theorem dX8_advance_195 : decode cX8_advance 195 = .ok (.getfield 101, 3) := by decide +kernel
theorem dX8_advance_198 : decode cX8_advance 198 = .ok (.iconst 1, 1) := by decide +kernel
theorem dX8_advance_199 : decode cX8_advance 199 = .ok (.iadd, 1) := by decide +kernel
theorem dX8_advance_200 : decode cX8_advance 200 = .ok (.putfield 101, 3) := by decide +kernel
theorem dX8_advance_203 : decode cX8_advance 203 = .ok (.goto (-59), 3) := by decide +kernel
theorem dX8_advance_206 : decode cX8_advance 206 = .ok (.aload_n 0, 1) := by decide +kernel
theorem dX8_advance_207 : decode cX8_advance 207 = .ok (.iconst 2, 1) := by decide +kernel
theorem dX8_advance_208 : decode cX8_advance 208 = .ok (.putfield 111, 3) := by decide +kernel
theorem dX8_advance_211 : decode cX8_advance 211 = .ok (.goto 28, 3) := by decide +kernel
theorem dX8_advance_214 : decode cX8_advance 214 = .ok (.aload_n 0, 1) := by decide +kernel
theorem dX8_advance_215 : decode cX8_advance 215 = .ok (.iload_n 1, 1) := by decide +kernel
theorem dX8_advance_216 : decode cX8_advance 216 = .ok (.bipush 59, 2) := by decide +kernel
theorem dX8_advance_218 : decode cX8_advance 218 = .ok (.if_icmp .ne 7, 3) := by decide +kernel
theorem dX8_advance_221 : decode cX8_advance 221 = .ok (.iconst 3, 1) := by decide +kernel
theorem dX8_advance_222 : decode cX8_advance 222 = .ok (.goto 4, 3) := by decide +kernel
theorem dX8_advance_225 : decode cX8_advance 225 = .ok (.iconst 4, 1) := by decide +kernel
theorem dX8_advance_226 : decode cX8_advance 226 = .ok (.putfield 111, 3) := by decide +kernel
theorem dX8_advance_229 : decode cX8_advance 229 = .ok (.aload_n 0, 1) := by decide +kernel
theorem dX8_advance_230 : decode cX8_advance 230 = .ok (.dup, 1) := by decide +kernel
theorem dX8_advance_231 : decode cX8_advance 231 = .ok (.getfield 101, 3) := by decide +kernel
theorem dX8_advance_234 : decode cX8_advance 234 = .ok (.iconst 1, 1) := by decide +kernel
theorem dX8_advance_235 : decode cX8_advance 235 = .ok (.iadd, 1) := by decide +kernel
theorem dX8_advance_236 : decode cX8_advance 236 = .ok (.putfield 101, 3) := by decide +kernel
theorem dX8_advance_239 : decode cX8_advance 239 = .ok (.return_, 1) := by decide +kernel
set_option maxRecDepth 4000 in
theorem kX8_advance (G : GT) {σ : St} : ∀ (σo : St) , fX8_advance σ = some σo → MCt G 2 yX8_advance cX8_advance 2 (none) [.ref (gad G 62)] σ (none) σo := by
  intro σo hF
  refine met_v (by decide) (Nat.le_of_ble_eq_true rfl) (fun X cx hE => ?_)
  have cx : Cx G X RX8 cX8_advance 2 2 := cx
  have hb226 : ∀ (σ : St) (y1 : Int32) , fX8_advance_b226 σ y1 = some σo → WW G X 2 σ [(0, .ref (gad G 62))] 226 [.int y1, .ref (gad G 62)] := by
    intro σ y1 hF
    unfold fX8_advance_b226 at hF
    refine pf_X8_111 cx dX8_advance_226 hF (fun σ1 hF => ?_)
    refine ww_aload_n cx dX8_advance_229 rfl 0 rfl ?_
    refine ww_dup cx dX8_advance_230 rfl ?_
    refine gf_X8_101 cx dX8_advance_231 ?_
    refine ww_iconst cx dX8_advance_234 ic_1 ?_
    refine ww_iadd cx dX8_advance_235 ?_
    refine pf_X8_101 cx dX8_advance_236 hF (fun σ2 hF => ?_)
    exact ww_rvs hE dX8_advance_239 hF
  have hl144 : ∀ n : Nat, ∀ (σ : St) , fX8_advance_l144 n σ = some σo → WW G X 2 σ [(0, .ref (gad G 62))] 144 [] := by
    intro n
    induction n with
    | zero =>
      intro σ hF
      exact absurd hF (by intro z; cases z)
    | succ n ih =>
      intro σ hF
      have hk144 := ih
      have hF : fX8_advance_B144 (fX8_advance_l144 n) σ = some σo := hF
      unfold fX8_advance_B144 at hF
      refine ww_aload_n cx dX8_advance_144 rfl 0 rfl ?_
      refine ww_aload_n cx dX8_advance_145 rfl 0 rfl ?_
      refine gf_X8_101 cx dX8_advance_146 ?_
      refine ww_V1_pi kv_X8_104 rfl cx sh_62 ⟨Nat.le_of_ble_eq_true rfl, Nat.le_of_ble_eq_true rfl⟩ (Nat.le_of_ble_eq_true rfl) dX8_advance_149 (kX8_see G) hF (fun r3 hF => ?_)
      refine ww_i2l cx dX8_advance_152 ?_
      refine ww_ldc2 (v := 48) cx dX8_advance_153 cn_X8_118 ?_
      refine ww_ldc2 (v := 57) cx dX8_advance_156 cn_X8_120 ?_
      refine ww_S3_pi kv_X8_83 cx ⟨Nat.le_of_ble_eq_true rfl, Nat.le_of_ble_eq_true rfl⟩ (Nat.le_of_ble_eq_true rfl) dX8_advance_159 (kX8_in G) hF (fun r4 hF => ?_)
      refine ww_if_eq cx dX8_advance_162 (tgt := 206) rfl hF (fun hF => ?_) (fun hF => ?_)
      · refine ww_aload_n cx dX8_advance_206 rfl 0 rfl ?_
        refine ww_iconst cx dX8_advance_207 ic_2 ?_
        refine pf_X8_111 cx dX8_advance_208 hF (fun σ5 hF => ?_)
        refine ww_goto cx dX8_advance_211 (tgt := 239) rfl ?_
        exact ww_rvs hE dX8_advance_239 hF
      · refine ww_aload_n cx dX8_advance_165 rfl 0 rfl ?_
        refine ww_ldc (v := 99999) cx dX8_advance_166 cn_X8_125 ?_
        refine ww_bipush cx dX8_advance_168 bc_10 ?_
        refine ww_aload_n cx dX8_advance_170 rfl 0 rfl ?_
        refine gf_X8_122 cx dX8_advance_171 ?_
        refine ww_imul cx dX8_advance_174 ?_
        refine ww_aload_n cx dX8_advance_175 rfl 0 rfl ?_
        refine ww_aload_n cx dX8_advance_176 rfl 0 rfl ?_
        refine gf_X8_101 cx dX8_advance_177 ?_
        refine ww_V1_pi kv_X8_104 rfl cx sh_62 ⟨Nat.le_of_ble_eq_true rfl, Nat.le_of_ble_eq_true rfl⟩ (Nat.le_of_ble_eq_true rfl) dX8_advance_180 (kX8_see G) hF (fun r6 hF => ?_)
        refine ww_iadd cx dX8_advance_183 ?_
        refine ww_bipush cx dX8_advance_184 bc_48 ?_
        refine ww_isub cx dX8_advance_186 ?_
        refine ww_mmin cx ml_X8_126 (by decide) (Nat.le_of_ble_eq_true rfl) dX8_advance_187 ?_
        refine pf_X8_122 cx dX8_advance_190 hF (fun σ7 hF => ?_)
        refine ww_aload_n cx dX8_advance_193 rfl 0 rfl ?_
        refine ww_dup cx dX8_advance_194 rfl ?_
        refine gf_X8_101 cx dX8_advance_195 ?_
        refine ww_iconst cx dX8_advance_198 ic_1 ?_
        refine ww_iadd cx dX8_advance_199 ?_
        refine pf_X8_101 cx dX8_advance_200 hF (fun σ8 hF => ?_)
        refine ww_goto cx dX8_advance_203 (tgt := 144) rfl ?_
        exact hk144 _ hF
  have hl83 : ∀ n : Nat, ∀ (σ : St) , fX8_advance_l83 n σ = some σo → WW G X 2 σ [(0, .ref (gad G 62))] 83 [] := by
    intro n
    induction n with
    | zero =>
      intro σ hF
      exact absurd hF (by intro z; cases z)
    | succ n ih =>
      intro σ hF
      have hk83 := ih
      have hF : fX8_advance_B83 (fX8_advance_l83 n) σ = some σo := hF
      unfold fX8_advance_B83 at hF
      refine ww_aload_n cx dX8_advance_83 rfl 0 rfl ?_
      refine ww_aload_n cx dX8_advance_84 rfl 0 rfl ?_
      refine gf_X8_101 cx dX8_advance_85 ?_
      refine ww_V1_pi kv_X8_104 rfl cx sh_62 ⟨Nat.le_of_ble_eq_true rfl, Nat.le_of_ble_eq_true rfl⟩ (Nat.le_of_ble_eq_true rfl) dX8_advance_88 (kX8_see G) hF (fun r9 hF => ?_)
      refine ww_i2l cx dX8_advance_91 ?_
      refine ww_ldc2 (v := 97) cx dX8_advance_92 cn_X8_114 ?_
      refine ww_ldc2 (v := 122) cx dX8_advance_95 cn_X8_116 ?_
      refine ww_S3_pi kv_X8_83 cx ⟨Nat.le_of_ble_eq_true rfl, Nat.le_of_ble_eq_true rfl⟩ (Nat.le_of_ble_eq_true rfl) dX8_advance_98 (kX8_in G) hF (fun r10 hF => ?_)
      refine ww_if_eq cx dX8_advance_101 (tgt := 117) rfl hF (fun hF => ?_) (fun hF => ?_)
      · refine ww_aload_n cx dX8_advance_117 rfl 0 rfl ?_
        refine ww_iconst cx dX8_advance_118 ic_1 ?_
        refine pf_X8_111 cx dX8_advance_119 hF (fun σ11 hF => ?_)
        refine ww_goto cx dX8_advance_122 (tgt := 239) rfl ?_
        exact ww_rvs hE dX8_advance_239 hF
      · refine ww_aload_n cx dX8_advance_104 rfl 0 rfl ?_
        refine ww_dup cx dX8_advance_105 rfl ?_
        refine gf_X8_101 cx dX8_advance_106 ?_
        refine ww_iconst cx dX8_advance_109 ic_1 ?_
        refine ww_iadd cx dX8_advance_110 ?_
        refine pf_X8_101 cx dX8_advance_111 hF (fun σ12 hF => ?_)
        refine ww_goto cx dX8_advance_114 (tgt := 83) rfl ?_
        exact hk83 _ hF
  have hb26 : ∀ (kr0 : St → Option (St)), (∀ (σ : St) , kr0 σ = some σo → WW G X 2 σ [(0, .ref (gad G 62))] 0 []) → ∀ (σ : St) , fX8_advance_b26 kr0 σ = some σo → WW G X 2 σ [(0, .ref (gad G 62))] 26 [] := by
    intro kr0 hk0
    intro σ hF
    unfold fX8_advance_b26 at hF
    refine ww_aload_n cx dX8_advance_26 rfl 0 rfl ?_
    refine ww_dup cx dX8_advance_27 rfl ?_
    refine gf_X8_101 cx dX8_advance_28 ?_
    refine ww_iconst cx dX8_advance_31 ic_1 ?_
    refine ww_iadd cx dX8_advance_32 ?_
    refine pf_X8_101 cx dX8_advance_33 hF (fun σ13 hF => ?_)
    refine ww_goto cx dX8_advance_36 (tgt := 0) rfl ?_
    exact hk0 _ hF
  have hl0 : ∀ n : Nat, ∀ (σ : St) , fX8_advance_l0 n σ = some σo → WW G X 2 σ [(0, .ref (gad G 62))] 0 [] := by
    intro n
    induction n with
    | zero =>
      intro σ hF
      exact absurd hF (by intro z; cases z)
    | succ n ih =>
      intro σ hF
      have hk0 := ih
      have hF : fX8_advance_B0 (fX8_advance_l0 n) σ = some σo := hF
      unfold fX8_advance_B0 at hF
      refine ww_aload_n cx dX8_advance_0 rfl 0 rfl ?_
      refine ww_aload_n cx dX8_advance_1 rfl 0 rfl ?_
      refine gf_X8_101 cx dX8_advance_2 ?_
      refine ww_V1_pi kv_X8_104 rfl cx sh_62 ⟨Nat.le_of_ble_eq_true rfl, Nat.le_of_ble_eq_true rfl⟩ (Nat.le_of_ble_eq_true rfl) dX8_advance_5 (kX8_see G) hF (fun r14 hF => ?_)
      refine ww_bipush cx dX8_advance_8 bc_32 ?_
      refine ww_icmp_eq cx dX8_advance_10 (tgt := 26) rfl hF (fun hF => ?_) (fun hF => ?_)
      · exact hb26 _ hk0 _ hF
      · refine ww_aload_n cx dX8_advance_13 rfl 0 rfl ?_
        refine ww_aload_n cx dX8_advance_14 rfl 0 rfl ?_
        refine gf_X8_101 cx dX8_advance_15 ?_
        refine ww_V1_pi kv_X8_104 rfl cx sh_62 ⟨Nat.le_of_ble_eq_true rfl, Nat.le_of_ble_eq_true rfl⟩ (Nat.le_of_ble_eq_true rfl) dX8_advance_18 (kX8_see G) hF (fun r15 hF => ?_)
        refine ww_bipush cx dX8_advance_21 bc_10 ?_
        refine ww_icmp_ne cx dX8_advance_23 (tgt := 39) rfl hF (fun hF => ?_) (fun hF => ?_)
        · refine ww_aload_n cx dX8_advance_39 rfl 0 rfl ?_
          refine ww_aload_n cx dX8_advance_40 rfl 0 rfl ?_
          refine gf_X8_101 cx dX8_advance_41 ?_
          refine pf_X8_108 cx dX8_advance_44 hF (fun σ16 hF => ?_)
          refine ww_aload_n cx dX8_advance_47 rfl 0 rfl ?_
          refine ww_aload_n cx dX8_advance_48 rfl 0 rfl ?_
          refine gf_X8_101 cx dX8_advance_49 ?_
          refine ww_V1_pi kv_X8_104 rfl cx sh_62 ⟨Nat.le_of_ble_eq_true rfl, Nat.le_of_ble_eq_true rfl⟩ (Nat.le_of_ble_eq_true rfl) dX8_advance_52 (kX8_see G) hF (fun r17 hF => ?_)
          refine ww_istore_n (ks := [0, 1]) (lv' := fun v18 => [(1, .int v18), (0, .ref (gad G 62))]) cx dX8_advance_55 rfl (by decide) hF (fun _ => rfl) (fun v18 hF => ?_)
          refine ww_iload_n cx dX8_advance_56 rfl 0 rfl ?_
          refine ww_iconst cx dX8_advance_57 ic_m1 ?_
          refine ww_icmp_ne cx dX8_advance_58 (tgt := 69) rfl hF (fun hF => ?_) (fun hF => ?_)
          · refine ww_iload_n cx dX8_advance_69 rfl 0 rfl ?_
            refine ww_i2l cx dX8_advance_70 ?_
            refine ww_ldc2 (v := 97) cx dX8_advance_71 cn_X8_114 ?_
            refine ww_ldc2 (v := 122) cx dX8_advance_74 cn_X8_116 ?_
            refine ww_S3_pi kv_X8_83 cx ⟨Nat.le_of_ble_eq_true rfl, Nat.le_of_ble_eq_true rfl⟩ (Nat.le_of_ble_eq_true rfl) dX8_advance_77 (kX8_in G) hF (fun r19 hF => ?_)
            refine ww_if_eq cx dX8_advance_80 (tgt := 125) rfl hF (fun hF => ?_) (fun hF => ?_)
            · refine ww_iload_n cx dX8_advance_125 rfl 0 rfl ?_
              refine ww_i2l cx dX8_advance_126 ?_
              refine ww_ldc2 (v := 48) cx dX8_advance_127 cn_X8_118 ?_
              refine ww_ldc2 (v := 57) cx dX8_advance_130 cn_X8_120 ?_
              refine ww_S3_pi kv_X8_83 cx ⟨Nat.le_of_ble_eq_true rfl, Nat.le_of_ble_eq_true rfl⟩ (Nat.le_of_ble_eq_true rfl) dX8_advance_133 (kX8_in G) hF (fun r20 hF => ?_)
              refine ww_if_eq cx dX8_advance_136 (tgt := 214) rfl hF (fun hF => ?_) (fun hF => ?_)
              · refine ww_aload_n cx dX8_advance_214 rfl 1 rfl ?_
                refine ww_iload_n cx dX8_advance_215 rfl 0 rfl ?_
                refine ww_bipush cx dX8_advance_216 bc_59 ?_
                refine ww_icmp_ne cx dX8_advance_218 (tgt := 225) rfl hF (fun hF => ?_) (fun hF => ?_)
                · refine ww_iconst cx dX8_advance_225 ic_4 ?_
                  exact ww_sub [1] rfl (hb226 _ _ hF)
                · refine ww_iconst cx dX8_advance_221 ic_3 ?_
                  refine ww_goto cx dX8_advance_222 (tgt := 226) rfl ?_
                  exact ww_sub [1] rfl (hb226 _ _ hF)
              · refine ww_aload_n cx dX8_advance_139 rfl 1 rfl ?_
                refine ww_iconst cx dX8_advance_140 ic_0 ?_
                refine pf_X8_122 cx dX8_advance_141 hF (fun σ21 hF => ?_)
                exact ww_sub [1] rfl (hl144 FU _ hF)
            · exact ww_sub [1] rfl (hl83 FU _ hF)
          · refine ww_aload_n cx dX8_advance_61 rfl 1 rfl ?_
            refine ww_iconst cx dX8_advance_62 ic_0 ?_
            refine pf_X8_111 cx dX8_advance_63 hF (fun σ22 hF => ?_)
            refine ww_goto cx dX8_advance_66 (tgt := 239) rfl ?_
            exact ww_rvs hE dX8_advance_239 hF
        · exact hb26 _ hk0 _ hF
  unfold fX8_advance at hF
  show WW G X 2 σ [(0, .ref (gad G 62))] 0 []
  exact hl0 FU _ hF
theorem dX8_allWorlds_0 : decode cX8_allWorlds 0 = .ok (.iconst 1, 1) := by decide +kernel
theorem dX8_allWorlds_1 : decode cX8_allWorlds 1 = .ok (.aload_n 0, 1) := by decide +kernel
theorem dX8_allWorlds_2 : decode cX8_allWorlds 2 = .ok (.invokevirtual 87, 3) := by decide +kernel
theorem dX8_allWorlds_5 : decode cX8_allWorlds 5 = .ok (.ishl, 1) := by decide +kernel
theorem dX8_allWorlds_6 : decode cX8_allWorlds 6 = .ok (.iconst 1, 1) := by decide +kernel
theorem dX8_allWorlds_7 : decode cX8_allWorlds 7 = .ok (.isub, 1) := by decide +kernel
theorem dX8_allWorlds_8 : decode cX8_allWorlds 8 = .ok (.ireturn, 1) := by decide +kernel
set_option maxRecDepth 4000 in
theorem kX8_allWorlds (G : GT) {σ : St} : ∀ (r : Int32) , fX8_allWorlds σ = some r → MCt G 2 yX8_allWorlds cX8_allWorlds 1 (some .int) [.ref (gad G 62)] σ (some (.int r)) σ := by
  intro r hF
  refine met_i (by decide) (Nat.le_of_ble_eq_true rfl) (fun X cx hE => ?_)
  have cx : Cx G X RX8 cX8_allWorlds 1 2 := cx
  unfold fX8_allWorlds at hF
  show WW G X 1 σ [(0, .ref (gad G 62))] 0 []
  refine ww_iconst cx dX8_allWorlds_0 ic_1 ?_
  refine ww_aload_n cx dX8_allWorlds_1 rfl 0 rfl ?_
  refine ww_V0_pi kv_X8_87 rfl cx sh_62 ⟨Nat.le_of_ble_eq_true rfl, Nat.le_of_ble_eq_true rfl⟩ (Nat.le_of_ble_eq_true rfl) dX8_allWorlds_2 (kX8_worlds G) hF (fun r1 hF => ?_)
  refine ww_ishl cx dX8_allWorlds_5 ?_
  refine ww_iconst cx dX8_allWorlds_6 ic_1 ?_
  refine ww_isub cx dX8_allWorlds_7 ?_
  exact ww_rip hE dX8_allWorlds_8 hF
theorem dX8_areClaims_0 : decode cX8_areClaims 0 = .ok (.aload_n 0, 1) := by decide +kernel
theorem dX8_areClaims_1 : decode cX8_areClaims 1 = .ok (.invokevirtual 291, 3) := by decide +kernel
theorem dX8_areClaims_4 : decode cX8_areClaims 4 = .ok (.ifCond .eq 21, 3) := by decide +kernel
theorem dX8_areClaims_7 : decode cX8_areClaims 7 = .ok (.iload_n 1, 1) := by decide +kernel
theorem dX8_areClaims_8 : decode cX8_areClaims 8 = .ok (.i2l, 1) := by decide +kernel
theorem dX8_areClaims_9 : decode cX8_areClaims 9 = .ok (.lconst 0, 1) := by decide +kernel
theorem dX8_areClaims_10 : decode cX8_areClaims 10 = .ok (.aload_n 0, 1) := by decide +kernel
theorem dX8_areClaims_11 : decode cX8_areClaims 11 = .ok (.invokevirtual 363, 3) := by decide +kernel
theorem dX8_areClaims_14 : decode cX8_areClaims 14 = .ok (.i2l, 1) := by decide +kernel
theorem dX8_areClaims_15 : decode cX8_areClaims 15 = .ok (.invokestatic 83, 3) := by decide +kernel
theorem dX8_areClaims_18 : decode cX8_areClaims 18 = .ok (.ifCond .eq 7, 3) := by decide +kernel
theorem dX8_areClaims_21 : decode cX8_areClaims 21 = .ok (.iconst 1, 1) := by decide +kernel
theorem dX8_areClaims_22 : decode cX8_areClaims 22 = .ok (.goto 4, 3) := by decide +kernel
theorem dX8_areClaims_25 : decode cX8_areClaims 25 = .ok (.iconst 0, 1) := by decide +kernel
theorem dX8_areClaims_26 : decode cX8_areClaims 26 = .ok (.ireturn, 1) := by decide +kernel
set_option maxRecDepth 4000 in
theorem kX8_areClaims (G : GT) {σ : St} {a1 : Int32} : ∀ (r : Int32) , fX8_areClaims σ a1 = some r → MCt G 2 yX8_areClaims cX8_areClaims 2 (some .boolean) [.ref (gad G 62), .int a1] σ (some (.int r)) σ := by
  intro r hF
  refine met_zz (by decide) (Nat.le_of_ble_eq_true rfl) (fun X cx hE => ?_)
  have cx : Cx G X RX8 cX8_areClaims 2 2 := cx
  unfold fX8_areClaims at hF
  show WW G X 2 σ [(0, .ref (gad G 62)), (1, .int a1)] 0 []
  refine ww_aload_n cx dX8_areClaims_0 rfl 0 rfl ?_
  refine ww_V0_pi kv_X8_291 rfl cx sh_62 ⟨Nat.le_of_ble_eq_true rfl, Nat.le_of_ble_eq_true rfl⟩ (Nat.le_of_ble_eq_true rfl) dX8_areClaims_1 (kX8_isTable G) hF (fun r1 hF => ?_)
  refine ww_if_eq cx dX8_areClaims_4 (tgt := 25) rfl hF (fun hF => ?_) (fun hF => ?_)
  · refine ww_iconst cx dX8_areClaims_25 ic_0 ?_
    exact ww_rzp hE dX8_areClaims_26 hF
  · refine ww_iload_n cx dX8_areClaims_7 rfl 1 rfl ?_
    refine ww_i2l cx dX8_areClaims_8 ?_
    refine ww_lconst cx dX8_areClaims_9 lc_0 ?_
    refine ww_aload_n cx dX8_areClaims_10 rfl 0 rfl ?_
    refine ww_V0_pi kv_X8_363 rfl cx sh_62 ⟨Nat.le_of_ble_eq_true rfl, Nat.le_of_ble_eq_true rfl⟩ (Nat.le_of_ble_eq_true rfl) dX8_areClaims_11 (kX8_allClaims G) hF (fun r2 hF => ?_)
    refine ww_i2l cx dX8_areClaims_14 ?_
    refine ww_S3_pi kv_X8_83 cx ⟨Nat.le_of_ble_eq_true rfl, Nat.le_of_ble_eq_true rfl⟩ (Nat.le_of_ble_eq_true rfl) dX8_areClaims_15 (kX8_in G) hF (fun r3 hF => ?_)
    refine ww_if_eq cx dX8_areClaims_18 (tgt := 25) rfl hF (fun hF => ?_) (fun hF => ?_)
    · refine ww_iconst cx dX8_areClaims_25 ic_0 ?_
      exact ww_rzp hE dX8_areClaims_26 hF
    · refine ww_iconst cx dX8_areClaims_21 ic_1 ?_
      refine ww_goto cx dX8_areClaims_22 (tgt := 26) rfl ?_
      exact ww_rzp hE dX8_areClaims_26 hF
theorem dX8_areGuests_0 : decode cX8_areGuests 0 = .ok (.aload_n 0, 1) := by decide +kernel
theorem dX8_areGuests_1 : decode cX8_areGuests 1 = .ok (.invokevirtual 291, 3) := by decide +kernel
theorem dX8_areGuests_4 : decode cX8_areGuests 4 = .ok (.ifCond .eq 21, 3) := by decide +kernel
theorem dX8_areGuests_7 : decode cX8_areGuests 7 = .ok (.iload_n 1, 1) := by decide +kernel
theorem dX8_areGuests_8 : decode cX8_areGuests 8 = .ok (.i2l, 1) := by decide +kernel
theorem dX8_areGuests_9 : decode cX8_areGuests 9 = .ok (.lconst 0, 1) := by decide +kernel
theorem dX8_areGuests_10 : decode cX8_areGuests 10 = .ok (.aload_n 0, 1) := by decide +kernel
theorem dX8_areGuests_11 : decode cX8_areGuests 11 = .ok (.invokevirtual 375, 3) := by decide +kernel
theorem dX8_areGuests_14 : decode cX8_areGuests 14 = .ok (.i2l, 1) := by decide +kernel
theorem dX8_areGuests_15 : decode cX8_areGuests 15 = .ok (.invokestatic 83, 3) := by decide +kernel
theorem dX8_areGuests_18 : decode cX8_areGuests 18 = .ok (.ifCond .eq 7, 3) := by decide +kernel
theorem dX8_areGuests_21 : decode cX8_areGuests 21 = .ok (.iconst 1, 1) := by decide +kernel
theorem dX8_areGuests_22 : decode cX8_areGuests 22 = .ok (.goto 4, 3) := by decide +kernel
theorem dX8_areGuests_25 : decode cX8_areGuests 25 = .ok (.iconst 0, 1) := by decide +kernel
theorem dX8_areGuests_26 : decode cX8_areGuests 26 = .ok (.ireturn, 1) := by decide +kernel
set_option maxRecDepth 4000 in
theorem kX8_areGuests (G : GT) {σ : St} {a1 : Int32} : ∀ (r : Int32) , fX8_areGuests σ a1 = some r → MCt G 2 yX8_areGuests cX8_areGuests 2 (some .boolean) [.ref (gad G 62), .int a1] σ (some (.int r)) σ := by
  intro r hF
  refine met_zz (by decide) (Nat.le_of_ble_eq_true rfl) (fun X cx hE => ?_)
  have cx : Cx G X RX8 cX8_areGuests 2 2 := cx
  unfold fX8_areGuests at hF
  show WW G X 2 σ [(0, .ref (gad G 62)), (1, .int a1)] 0 []
  refine ww_aload_n cx dX8_areGuests_0 rfl 0 rfl ?_
  refine ww_V0_pi kv_X8_291 rfl cx sh_62 ⟨Nat.le_of_ble_eq_true rfl, Nat.le_of_ble_eq_true rfl⟩ (Nat.le_of_ble_eq_true rfl) dX8_areGuests_1 (kX8_isTable G) hF (fun r1 hF => ?_)
  refine ww_if_eq cx dX8_areGuests_4 (tgt := 25) rfl hF (fun hF => ?_) (fun hF => ?_)
  · refine ww_iconst cx dX8_areGuests_25 ic_0 ?_
    exact ww_rzp hE dX8_areGuests_26 hF
  · refine ww_iload_n cx dX8_areGuests_7 rfl 1 rfl ?_
    refine ww_i2l cx dX8_areGuests_8 ?_
    refine ww_lconst cx dX8_areGuests_9 lc_0 ?_
    refine ww_aload_n cx dX8_areGuests_10 rfl 0 rfl ?_
    refine ww_V0_pi kv_X8_375 rfl cx sh_62 ⟨Nat.le_of_ble_eq_true rfl, Nat.le_of_ble_eq_true rfl⟩ (Nat.le_of_ble_eq_true rfl) dX8_areGuests_11 (kX8_allGuests G) hF (fun r2 hF => ?_)
    refine ww_i2l cx dX8_areGuests_14 ?_
    refine ww_S3_pi kv_X8_83 cx ⟨Nat.le_of_ble_eq_true rfl, Nat.le_of_ble_eq_true rfl⟩ (Nat.le_of_ble_eq_true rfl) dX8_areGuests_15 (kX8_in G) hF (fun r3 hF => ?_)
    refine ww_if_eq cx dX8_areGuests_18 (tgt := 25) rfl hF (fun hF => ?_) (fun hF => ?_)
    · refine ww_iconst cx dX8_areGuests_25 ic_0 ?_
      exact ww_rzp hE dX8_areGuests_26 hF
    · refine ww_iconst cx dX8_areGuests_21 ic_1 ?_
      refine ww_goto cx dX8_areGuests_22 (tgt := 26) rfl ?_
      exact ww_rzp hE dX8_areGuests_26 hF
theorem dX8_atomWorlds_0 : decode cX8_atomWorlds 0 = .ok (.iconst 0, 1) := by decide +kernel
theorem dX8_atomWorlds_1 : decode cX8_atomWorlds 1 = .ok (.istore_n 2, 1) := by decide +kernel
theorem dX8_atomWorlds_2 : decode cX8_atomWorlds 2 = .ok (.iconst 0, 1) := by decide +kernel
theorem dX8_atomWorlds_3 : decode cX8_atomWorlds 3 = .ok (.istore_n 3, 1) := by decide +kernel
theorem dX8_atomWorlds_4 : decode cX8_atomWorlds 4 = .ok (.iload_n 3, 1) := by decide +kernel
theorem dX8_atomWorlds_5 : decode cX8_atomWorlds 5 = .ok (.iconst 1, 1) := by decide +kernel
theorem dX8_atomWorlds_6 : decode cX8_atomWorlds 6 = .ok (.aload_n 0, 1) := by decide +kernel
theorem dX8_atomWorlds_7 : decode cX8_atomWorlds 7 = .ok (.getfield 31, 3) := by decide +kernel
theorem dX8_atomWorlds_10 : decode cX8_atomWorlds 10 = .ok (.iconst 0, 1) := by decide +kernel
theorem dX8_atomWorlds_11 : decode cX8_atomWorlds 11 = .ok (.iaload, 1) := by decide +kernel
theorem dX8_atomWorlds_12 : decode cX8_atomWorlds 12 = .ok (.ishl, 1) := by decide +kernel
theorem dX8_atomWorlds_13 : decode cX8_atomWorlds 13 = .ok (.if_icmp .ge 19, 3) := by decide +kernel
theorem dX8_atomWorlds_16 : decode cX8_atomWorlds 16 = .ok (.iload_n 2, 1) := by decide +kernel
theorem dX8_atomWorlds_17 : decode cX8_atomWorlds 17 = .ok (.iload_n 3, 1) := by decide +kernel
theorem dX8_atomWorlds_18 : decode cX8_atomWorlds 18 = .ok (.iload_n 1, 1) := by decide +kernel
theorem dX8_atomWorlds_19 : decode cX8_atomWorlds 19 = .ok (.invokestatic 168, 3) := by decide +kernel
theorem dX8_atomWorlds_22 : decode cX8_atomWorlds 22 = .ok (.iload_n 3, 1) := by decide +kernel
theorem dX8_atomWorlds_23 : decode cX8_atomWorlds 23 = .ok (.ishl, 1) := by decide +kernel
theorem dX8_atomWorlds_24 : decode cX8_atomWorlds 24 = .ok (.ior, 1) := by decide +kernel
theorem dX8_atomWorlds_25 : decode cX8_atomWorlds 25 = .ok (.istore_n 2, 1) := by decide +kernel
theorem dX8_atomWorlds_26 : decode cX8_atomWorlds 26 = .ok (.iinc 3 1, 3) := by decide +kernel
theorem dX8_atomWorlds_29 : decode cX8_atomWorlds 29 = .ok (.goto (-25), 3) := by decide +kernel
theorem dX8_atomWorlds_32 : decode cX8_atomWorlds 32 = .ok (.iload_n 2, 1) := by decide +kernel
theorem dX8_atomWorlds_33 : decode cX8_atomWorlds 33 = .ok (.ireturn, 1) := by decide +kernel
set_option maxRecDepth 4000 in
theorem kX8_atomWorlds (G : GT) {σ : St} {a1 : Int32} : ∀ (r : Int32) , fX8_atomWorlds σ a1 = some r → MCt G 2 yX8_atomWorlds cX8_atomWorlds 4 (some .int) [.ref (gad G 62), .int a1] σ (some (.int r)) σ := by
  intro r hF
  refine met_i (by decide) (Nat.le_of_ble_eq_true rfl) (fun X cx hE => ?_)
  have cx : Cx G X RX8 cX8_atomWorlds 4 2 := cx
  have hl4 : ∀ n : Nat, ∀ (x1 : Int32) (x2 : Int32) (x3 : Int32) , fX8_atomWorlds_l4 σ n x1 x2 x3 = some r → WW G X 4 σ [(0, .ref (gad G 62)), (1, .int x1), (2, .int x2), (3, .int x3)] 4 [] := by
    intro n
    induction n with
    | zero =>
      intro x1 x2 x3 hF
      exact absurd hF (by intro z; cases z)
    | succ n ih =>
      intro x1 x2 x3 hF
      have hk4 := ih
      have hF : fX8_atomWorlds_B4 σ (fX8_atomWorlds_l4 σ n) x1 x2 x3 = some r := hF
      unfold fX8_atomWorlds_B4 at hF
      refine ww_iload_n cx dX8_atomWorlds_4 rfl 3 rfl ?_
      refine ww_iconst cx dX8_atomWorlds_5 ic_1 ?_
      refine ww_aload_n cx dX8_atomWorlds_6 rfl 0 rfl ?_
      refine gf_X8_31 cx dX8_atomWorlds_7 ?_
      refine ww_iconst cx dX8_atomWorlds_10 ic_0 ?_
      refine ww_iald (N := 77) cx (sh_68) dX8_atomWorlds_11 hF (fun hF => ?_)
      refine ww_ishl cx dX8_atomWorlds_12 ?_
      refine ww_icmp_ge cx dX8_atomWorlds_13 (tgt := 32) rfl hF (fun hF => ?_) (fun hF => ?_)
      · refine ww_iload_n cx dX8_atomWorlds_32 rfl 2 rfl ?_
        exact ww_rip hE dX8_atomWorlds_33 hF
      · refine ww_iload_n cx dX8_atomWorlds_16 rfl 2 rfl ?_
        refine ww_iload_n cx dX8_atomWorlds_17 rfl 3 rfl ?_
        refine ww_iload_n cx dX8_atomWorlds_18 rfl 1 rfl ?_
        refine ww_S2_pi kv_X8_168 cx ⟨Nat.le_of_ble_eq_true rfl, Nat.le_of_ble_eq_true rfl⟩ (Nat.le_of_ble_eq_true rfl) dX8_atomWorlds_19 (kX8_bit G) hF (fun r1 hF => ?_)
        refine ww_iload_n cx dX8_atomWorlds_22 rfl 3 rfl ?_
        refine ww_ishl cx dX8_atomWorlds_23 ?_
        refine ww_ior cx dX8_atomWorlds_24 ?_
        refine ww_istore_n (ks := [0, 1, 2, 3]) (lv' := fun v2 => [(2, .int v2), (0, .ref (gad G 62)), (1, .int x1), (3, .int x3)]) cx dX8_atomWorlds_25 rfl (by decide) hF (fun _ => rfl) (fun v2 hF => ?_)
        refine ww_iinc (j := 3) (ks := [0, 1, 2, 3]) (lv' := fun v3 => [(3, .int v3), (2, .int v2), (0, .ref (gad G 62)), (1, .int x1)]) cx dX8_atomWorlds_26 (by decide) rfl ic_1 hF (fun _ => rfl) (fun v3 hF => ?_)
        refine ww_goto cx dX8_atomWorlds_29 (tgt := 4) rfl ?_
        exact ww_sub [2, 3, 1, 0] rfl (hk4 _ _ _ hF)
  unfold fX8_atomWorlds at hF
  show WW G X 4 σ [(0, .ref (gad G 62)), (1, .int a1)] 0 []
  refine ww_iconst cx dX8_atomWorlds_0 ic_0 ?_
  refine ww_istore_n (ks := [0, 1, 2]) (lv' := fun v4 => [(2, .int v4), (0, .ref (gad G 62)), (1, .int a1)]) cx dX8_atomWorlds_1 rfl (by decide) hF (fun _ => rfl) (fun v4 hF => ?_)
  refine ww_iconst cx dX8_atomWorlds_2 ic_0 ?_
  refine ww_istore_n (ks := [0, 1, 2, 3]) (lv' := fun v5 => [(3, .int v5), (2, .int v4), (0, .ref (gad G 62)), (1, .int a1)]) cx dX8_atomWorlds_3 rfl (by decide) hF (fun _ => rfl) (fun v5 hF => ?_)
  exact ww_sub [2, 3, 1, 0] rfl (hl4 FU _ _ _ hF)
theorem dX8_back_0 : decode cX8_back 0 = .ok (.iload_n 1, 1) := by decide +kernel
theorem dX8_back_1 : decode cX8_back 1 = .ok (.i2l, 1) := by decide +kernel
theorem dX8_back_2 : decode cX8_back 2 = .ok (.lconst 0, 1) := by decide +kernel
theorem dX8_back_3 : decode cX8_back 3 = .ok (.ldc2_w 81, 3) := by decide +kernel
theorem dX8_back_6 : decode cX8_back 6 = .ok (.invokestatic 83, 3) := by decide +kernel
theorem dX8_back_9 : decode cX8_back 9 = .ok (.ifCond .ne 6, 3) := by decide +kernel
theorem dX8_back_12 : decode cX8_back 12 = .ok (.bipush (-2), 2) := by decide +kernel
theorem dX8_back_14 : decode cX8_back 14 = .ok (.ireturn, 1) := by decide +kernel
theorem dX8_back_15 : decode cX8_back 15 = .ok (.aload_n 0, 1) := by decide +kernel
theorem dX8_back_16 : decode cX8_back 16 = .ok (.getfield 16, 3) := by decide +kernel
theorem dX8_back_19 : decode cX8_back 19 = .ok (.iload_n 1, 1) := by decide +kernel
theorem dX8_back_20 : decode cX8_back 20 = .ok (.baload, 1) := by decide +kernel
theorem dX8_back_21 : decode cX8_back 21 = .ok (.ifCond .ne 6, 3) := by decide +kernel
theorem dX8_back_24 : decode cX8_back 24 = .ok (.bipush (-6), 2) := by decide +kernel
theorem dX8_back_26 : decode cX8_back 26 = .ok (.ireturn, 1) := by decide +kernel
theorem dX8_back_27 : decode cX8_back 27 = .ok (.iconst 0, 1) := by decide +kernel
theorem dX8_back_28 : decode cX8_back 28 = .ok (.istore_n 2, 1) := by decide +kernel
theorem dX8_back_29 : decode cX8_back 29 = .ok (.iload_n 2, 1) := by decide +kernel
theorem dX8_back_30 : decode cX8_back 30 = .ok (.bipush 77, 2) := by decide +kernel
theorem dX8_back_32 : decode cX8_back 32 = .ok (.if_icmp .ge 26, 3) := by decide +kernel
theorem dX8_back_35 : decode cX8_back 35 = .ok (.aload_n 0, 1) := by decide +kernel
theorem dX8_back_36 : decode cX8_back 36 = .ok (.getfield 9, 3) := by decide +kernel
theorem dX8_back_39 : decode cX8_back 39 = .ok (.iload_n 2, 1) := by decide +kernel
theorem dX8_back_40 : decode cX8_back 40 = .ok (.aload_n 0, 1) := by decide +kernel
theorem dX8_back_41 : decode cX8_back 41 = .ok (.getfield 13, 3) := by decide +kernel
theorem dX8_back_44 : decode cX8_back 44 = .ok (.bipush 77, 2) := by decide +kernel
theorem dX8_back_46 : decode cX8_back 46 = .ok (.iload_n 1, 1) := by decide +kernel
theorem dX8_back_47 : decode cX8_back 47 = .ok (.imul, 1) := by decide +kernel
theorem dX8_back_48 : decode cX8_back 48 = .ok (.iload_n 2, 1) := by decide +kernel
theorem dX8_back_49 : decode cX8_back 49 = .ok (.iadd, 1) := by decide +kernel
theorem dX8_back_50 : decode cX8_back 50 = .ok (.iaload, 1) := by decide +kernel
theorem dX8_back_51 : decode cX8_back 51 = .ok (.iastore, 1) := by decide +kernel
theorem dX8_back_52 : decode cX8_back 52 = .ok (.iinc 2 1, 3) := by decide +kernel
theorem dX8_back_55 : decode cX8_back 55 = .ok (.goto (-26), 3) := by decide +kernel
theorem dX8_back_58 : decode cX8_back 58 = .ok (.iconst 0, 1) := by decide +kernel
theorem dX8_back_59 : decode cX8_back 59 = .ok (.ireturn, 1) := by decide +kernel
set_option maxRecDepth 4000 in
theorem kX8_back (G : GT) {σ : St} {a1 : Int32} : ∀ (r : Int32) (σo : St) , fX8_back σ a1 = some (r, σo) → MCt G 2 yX8_back cX8_back 3 (some .int) [.ref (gad G 62), .int a1] σ (some (.int r)) σo := by
  intro r σo hF
  refine met_i (by decide) (Nat.le_of_ble_eq_true rfl) (fun X cx hE => ?_)
  have cx : Cx G X RX8 cX8_back 3 2 := cx
  have hl29 : ∀ n : Nat, ∀ (σ : St) (x1 : Int32) (x2 : Int32) , fX8_back_l29 n σ x1 x2 = some (r, σo) → WW G X 3 σ [(0, .ref (gad G 62)), (1, .int x1), (2, .int x2)] 29 [] := by
    intro n
    induction n with
    | zero =>
      intro σ x1 x2 hF
      exact absurd hF (by intro z; cases z)
    | succ n ih =>
      intro σ x1 x2 hF
      have hk29 := ih
      have hF : fX8_back_B29 (fX8_back_l29 n) σ x1 x2 = some (r, σo) := hF
      unfold fX8_back_B29 at hF
      refine ww_iload_n cx dX8_back_29 rfl 2 rfl ?_
      refine ww_bipush cx dX8_back_30 bc_77 ?_
      refine ww_icmp_ge cx dX8_back_32 (tgt := 58) rfl hF (fun hF => ?_) (fun hF => ?_)
      · refine ww_iconst cx dX8_back_58 ic_0 ?_
        exact ww_ris hE dX8_back_59 hF
      · refine ww_aload_n cx dX8_back_35 rfl 0 rfl ?_
        refine gf_X8_9 cx dX8_back_36 ?_
        refine ww_iload_n cx dX8_back_39 rfl 2 rfl ?_
        refine ww_aload_n cx dX8_back_40 rfl 0 rfl ?_
        refine gf_X8_13 cx dX8_back_41 ?_
        refine ww_bipush cx dX8_back_44 bc_77 ?_
        refine ww_iload_n cx dX8_back_46 rfl 1 rfl ?_
        refine ww_imul cx dX8_back_47 ?_
        refine ww_iload_n cx dX8_back_48 rfl 2 rfl ?_
        refine ww_iadd cx dX8_back_49 ?_
        refine ww_iald (N := 231) cx (sh_64) dX8_back_50 hF (fun hF => ?_)
        refine ww_iast (N := 77) cx (sh_63) dX8_back_51 hF (fun σ1 hF => ?_)
        refine ww_iinc (j := 2) (ks := [0, 1, 2]) (lv' := fun v2 => [(2, .int v2), (0, .ref (gad G 62)), (1, .int x1)]) cx dX8_back_52 (by decide) rfl ic_1 hF (fun _ => rfl) (fun v2 hF => ?_)
        refine ww_goto cx dX8_back_55 (tgt := 29) rfl ?_
        exact ww_sub [1, 2, 0] rfl (hk29 _ _ _ hF)
  unfold fX8_back at hF
  show WW G X 3 σ [(0, .ref (gad G 62)), (1, .int a1)] 0 []
  refine ww_iload_n cx dX8_back_0 rfl 1 rfl ?_
  refine ww_i2l cx dX8_back_1 ?_
  refine ww_lconst cx dX8_back_2 lc_0 ?_
  refine ww_ldc2 (v := 2) cx dX8_back_3 cn_X8_81 ?_
  refine ww_S3_pi kv_X8_83 cx ⟨Nat.le_of_ble_eq_true rfl, Nat.le_of_ble_eq_true rfl⟩ (Nat.le_of_ble_eq_true rfl) dX8_back_6 (kX8_in G) hF (fun r3 hF => ?_)
  refine ww_if_ne cx dX8_back_9 (tgt := 15) rfl hF (fun hF => ?_) (fun hF => ?_)
  · refine ww_aload_n cx dX8_back_15 rfl 0 rfl ?_
    refine gf_X8_16 cx dX8_back_16 ?_
    refine ww_iload_n cx dX8_back_19 rfl 1 rfl ?_
    refine ww_zald (N := 3) cx (sh_65) dX8_back_20 hF (fun hF => ?_)
    refine ww_if_ne cx dX8_back_21 (tgt := 27) rfl hF (fun hF => ?_) (fun hF => ?_)
    · refine ww_iconst cx dX8_back_27 ic_0 ?_
      refine ww_istore_n (ks := [0, 1, 2]) (lv' := fun v4 => [(2, .int v4), (0, .ref (gad G 62)), (1, .int a1)]) cx dX8_back_28 rfl (by decide) hF (fun _ => rfl) (fun v4 hF => ?_)
      exact ww_sub [1, 2, 0] rfl (hl29 FU _ _ _ hF)
    · refine ww_bipush cx dX8_back_24 bc_m6 ?_
      exact ww_ris hE dX8_back_26 hF
  · refine ww_bipush cx dX8_back_12 bc_m2 ?_
    exact ww_ris hE dX8_back_14 hF
theorem dX8_canDo_0 : decode cX8_canDo 0 = .ok (.aload_n 0, 1) := by decide +kernel
theorem dX8_canDo_1 : decode cX8_canDo 1 = .ok (.getfield 9, 3) := by decide +kernel
theorem dX8_canDo_4 : decode cX8_canDo 4 = .ok (.iconst 1, 1) := by decide +kernel
theorem dX8_canDo_5 : decode cX8_canDo 5 = .ok (.iaload, 1) := by decide +kernel
theorem dX8_canDo_6 : decode cX8_canDo 6 = .ok (.aload_n 0, 1) := by decide +kernel
theorem dX8_canDo_7 : decode cX8_canDo 7 = .ok (.iload_n 1, 1) := by decide +kernel
theorem dX8_canDo_8 : decode cX8_canDo 8 = .ok (.iconst 0, 1) := by decide +kernel
theorem dX8_canDo_9 : decode cX8_canDo 9 = .ok (.invokevirtual 282, 3) := by decide +kernel
theorem dX8_canDo_12 : decode cX8_canDo 12 = .ok (.idiv, 1) := by decide +kernel
theorem dX8_canDo_13 : decode cX8_canDo 13 = .ok (.ireturn, 1) := by decide +kernel
set_option maxRecDepth 4000 in
theorem kX8_canDo (G : GT) {σ : St} {a1 : Int32} : ∀ (r : Int32) , fX8_canDo σ a1 = some r → MCt G 2 yX8_canDo cX8_canDo 2 (some .int) [.ref (gad G 62), .int a1] σ (some (.int r)) σ := by
  intro r hF
  refine met_i (by decide) (Nat.le_of_ble_eq_true rfl) (fun X cx hE => ?_)
  have cx : Cx G X RX8 cX8_canDo 2 2 := cx
  unfold fX8_canDo at hF
  show WW G X 2 σ [(0, .ref (gad G 62)), (1, .int a1)] 0 []
  refine ww_aload_n cx dX8_canDo_0 rfl 0 rfl ?_
  refine gf_X8_9 cx dX8_canDo_1 ?_
  refine ww_iconst cx dX8_canDo_4 ic_1 ?_
  refine ww_iald (N := 77) cx (sh_63) dX8_canDo_5 hF (fun hF => ?_)
  refine ww_aload_n cx dX8_canDo_6 rfl 0 rfl ?_
  refine ww_iload_n cx dX8_canDo_7 rfl 1 rfl ?_
  refine ww_iconst cx dX8_canDo_8 ic_0 ?_
  refine ww_V2_pi kv_X8_282 rfl cx sh_62 ⟨Nat.le_of_ble_eq_true rfl, Nat.le_of_ble_eq_true rfl⟩ (Nat.le_of_ble_eq_true rfl) dX8_canDo_9 (kX8_ofGuest G) hF (fun r1 hF => ?_)
  refine ww_idiv cx dX8_canDo_12 hF (fun hF => ?_)
  exact ww_rip hE dX8_canDo_13 hF
