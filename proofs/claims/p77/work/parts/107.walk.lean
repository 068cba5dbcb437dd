theorem dX8_paste_0 : decode cX8_paste 0 = .ok (.iload_n 1, 1) := by decide +kernel
theorem dX8_paste_1 : decode cX8_paste 1 = .ok (.invokestatic 316, 3) := by decide +kernel
theorem dX8_paste_4 : decode cX8_paste 4 = .ok (.ifCond .eq 10, 3) := by decide +kernel
theorem dX8_paste_7 : decode cX8_paste 7 = .ok (.iload_n 3, 1) := by decide +kernel
theorem dX8_paste_8 : decode cX8_paste 8 = .ok (.invokestatic 316, 3) := by decide +kernel
theorem dX8_paste_11 : decode cX8_paste 11 = .ok (.ifCond .ne 6, 3) := by decide +kernel
theorem dX8_paste_14 : decode cX8_paste 14 = .ok (.bipush (-2), 2) := by decide +kernel
theorem dX8_paste_16 : decode cX8_paste 16 = .ok (.ireturn, 1) := by decide +kernel
theorem dX8_paste_17 : decode cX8_paste 17 = .ok (.aload_n 0, 1) := by decide +kernel
theorem dX8_paste_18 : decode cX8_paste 18 = .ok (.getfield 61, 3) := by decide +kernel
theorem dX8_paste_21 : decode cX8_paste 21 = .ok (.iload_n 1, 1) := by decide +kernel
theorem dX8_paste_22 : decode cX8_paste 22 = .ok (.iaload, 1) := by decide +kernel
theorem dX8_paste_23 : decode cX8_paste 23 = .ok (.iconst (-1), 1) := by decide +kernel
theorem dX8_paste_24 : decode cX8_paste 24 = .ok (.if_icmp .eq 13, 3) := by decide +kernel
theorem dX8_paste_27 : decode cX8_paste 27 = .ok (.aload_n 0, 1) := by decide +kernel
theorem dX8_paste_28 : decode cX8_paste 28 = .ok (.getfield 61, 3) := by decide +kernel
theorem dX8_paste_31 : decode cX8_paste 31 = .ok (.iload_n 3, 1) := by decide +kernel
theorem dX8_paste_32 : decode cX8_paste 32 = .ok (.iaload, 1) := by decide +kernel
theorem dX8_paste_33 : decode cX8_paste 33 = .ok (.iconst (-1), 1) := by decide +kernel
theorem dX8_paste_34 : decode cX8_paste 34 = .ok (.if_icmp .ne 6, 3) := by decide +kernel
theorem dX8_paste_37 : decode cX8_paste 37 = .ok (.bipush (-6), 2) := by decide +kernel
theorem dX8_paste_39 : decode cX8_paste 39 = .ok (.ireturn, 1) := by decide +kernel
theorem dX8_paste_40 : decode cX8_paste 40 = .ok (.aload_n 0, 1) := by decide +kernel
theorem dX8_paste_41 : decode cX8_paste 41 = .ok (.getfield 64, 3) := by decide +kernel
theorem dX8_paste_44 : decode cX8_paste 44 = .ok (.iload_n 1, 1) := by decide +kernel
theorem dX8_paste_45 : decode cX8_paste 45 = .ok (.iaload, 1) := by decide +kernel
theorem dX8_paste_46 : decode cX8_paste 46 = .ok (.aload_n 0, 1) := by decide +kernel
theorem dX8_paste_47 : decode cX8_paste 47 = .ok (.getfield 64, 3) := by decide +kernel
theorem dX8_paste_50 : decode cX8_paste 50 = .ok (.iload_n 3, 1) := by decide +kernel
theorem dX8_paste_51 : decode cX8_paste 51 = .ok (.iaload, 1) := by decide +kernel
theorem dX8_paste_52 : decode cX8_paste 52 = .ok (.if_icmp .eq 6, 3) := by decide +kernel
theorem dX8_paste_55 : decode cX8_paste 55 = .ok (.bipush (-8), 2) := by decide +kernel
theorem dX8_paste_57 : decode cX8_paste 57 = .ok (.ireturn, 1) := by decide +kernel
theorem dX8_paste_58 : decode cX8_paste 58 = .ok (.iload_n 2, 1) := by decide +kernel
theorem dX8_paste_59 : decode cX8_paste 59 = .ok (.ifCond .lt 48, 3) := by decide +kernel
theorem dX8_paste_62 : decode cX8_paste 62 = .ok (.iload 4, 2) := by decide +kernel
theorem dX8_paste_64 : decode cX8_paste 64 = .ok (.ifCond .lt 43, 3) := by decide +kernel
theorem dX8_paste_67 : decode cX8_paste 67 = .ok (.iload 5, 2) := by decide +kernel
theorem dX8_paste_69 : decode cX8_paste 69 = .ok (.ifCond .lt 38, 3) := by decide +kernel
theorem dX8_paste_72 : decode cX8_paste 72 = .ok (.iload_n 2, 1) := by decide +kernel
theorem dX8_paste_73 : decode cX8_paste 73 = .ok (.i2l, 1) := by decide +kernel
theorem dX8_paste_74 : decode cX8_paste 74 = .ok (.iload 5, 2) := by decide +kernel
theorem dX8_paste_76 : decode cX8_paste 76 = .ok (.i2l, 1) := by decide +kernel
theorem dX8_paste_77 : decode cX8_paste 77 = .ok (.ladd, 1) := by decide +kernel
theorem dX8_paste_78 : decode cX8_paste 78 = .ok (.aload_n 0, 1) := by decide +kernel
theorem dX8_paste_79 : decode cX8_paste 79 = .ok (.getfield 61, 3) := by decide +kernel
theorem dX8_paste_82 : decode cX8_paste 82 = .ok (.iload_n 1, 1) := by decide +kernel
theorem dX8_paste_83 : decode cX8_paste 83 = .ok (.iaload, 1) := by decide +kernel
theorem dX8_paste_84 : decode cX8_paste 84 = .ok (.i2l, 1) := by decide +kernel
theorem dX8_paste_85 : decode cX8_paste 85 = .ok (.lcmp, 1) := by decide +kernel
theorem dX8_paste_86 : decode cX8_paste 86 = .ok (.ifCond .gt 21, 3) := by decide +kernel
theorem dX8_paste_89 : decode cX8_paste 89 = .ok (.iload 4, 2) := by decide +kernel
theorem dX8_paste_91 : decode cX8_paste 91 = .ok (.i2l, 1) := by decide +kernel
theorem dX8_paste_92 : decode cX8_paste 92 = .ok (.iload 5, 2) := by decide +kernel
theorem dX8_paste_94 : decode cX8_paste 94 = .ok (.i2l, 1) := by decide +kernel
theorem dX8_paste_95 : decode cX8_paste 95 = .ok (.ladd, 1) := by decide +kernel
theorem dX8_paste_96 : decode cX8_paste 96 = .ok (.aload_n 0, 1) := by decide +kernel
theorem dX8_paste_97 : decode cX8_paste 97 = .ok (.getfield 61, 3) := by decide +kernel
theorem dX8_paste_100 : decode cX8_paste 100 = .ok (.iload_n 3, 1) := by decide +kernel
theorem dX8_paste_101 : decode cX8_paste 101 = .ok (.iaload, 1) := by decide +kernel
theorem dX8_paste_102 : decode cX8_paste 102 = .ok (.i2l, 1) := by decide +kernel
theorem dX8_paste_103 : decode cX8_paste 103 = .ok (.lcmp, 1) := by decide +kernel
theorem dX8_paste_104 : decode cX8_paste 104 = .ok (.ifCond .le 6, 3) := by decide +kernel
theorem dX8_paste_107 : decode cX8_paste 107 = .ok (.bipush (-7), 2) := by decide +kernel
theorem dX8_paste_109 : decode cX8_paste 109 = .ok (.ireturn, 1) := by decide +kernel
theorem dX8_paste_110 : decode cX8_paste 110 = .ok (.iconst 0, 1) := by decide +kernel
theorem dX8_paste_111 : decode cX8_paste 111 = .ok (.istore 6, 2) := by decide +kernel
theorem dX8_paste_113 : decode cX8_paste 113 = .ok (.iload 6, 2) := by decide +kernel
theorem dX8_paste_115 : decode cX8_paste 115 = .ok (.iload 5, 2) := by decide +kernel
theorem dX8_paste_117 : decode cX8_paste 117 = .ok (.if_icmp .ge 30, 3) := by decide +kernel
theorem dX8_paste_120 : decode cX8_paste 120 = .ok (.aload_n 0, 1) := by decide +kernel
theorem dX8_paste_121 : decode cX8_paste 121 = .ok (.getfield 71, 3) := by decide +kernel
theorem dX8_paste_124 : decode cX8_paste 124 = .ok (.iload 6, 2) := by decide +kernel
theorem dX8_paste_126 : decode cX8_paste 126 = .ok (.aload_n 0, 1) := by decide +kernel
theorem dX8_paste_127 : decode cX8_paste 127 = .ok (.getfield 67, 3) := by decide +kernel
theorem dX8_paste_130 : decode cX8_paste 130 = .ok (.bipush 60, 2) := by decide +kernel
theorem dX8_paste_132 : decode cX8_paste 132 = .ok (.iload_n 1, 1) := by decide +kernel
theorem dX8_paste_133 : decode cX8_paste 133 = .ok (.imul, 1) := by decide +kernel
theorem dX8_paste_134 : decode cX8_paste 134 = .ok (.iload_n 2, 1) := by decide +kernel
theorem dX8_paste_135 : decode cX8_paste 135 = .ok (.iadd, 1) := by decide +kernel
theorem dX8_paste_136 : decode cX8_paste 136 = .ok (.iload 6, 2) := by decide +kernel
theorem dX8_paste_138 : decode cX8_paste 138 = .ok (.iadd, 1) := by decide +kernel
theorem dX8_paste_139 : decode cX8_paste 139 = .ok (.laload, 1) := by decide +kernel
theorem dX8_paste_140 : decode cX8_paste 140 = .ok (.lastore, 1) := by decide +kernel
theorem dX8_paste_141 : decode cX8_paste 141 = .ok (.iinc 6 1, 3) := by decide +kernel
theorem dX8_paste_144 : decode cX8_paste 144 = .ok (.goto (-31), 3) := by decide +kernel
theorem dX8_paste_147 : decode cX8_paste 147 = .ok (.iconst 0, 1) := by decide +kernel
theorem dX8_paste_148 : decode cX8_paste 148 = .ok (.istore 6, 2) := by decide +kernel
theorem dX8_paste_150 : decode cX8_paste 150 = .ok (.iload 6, 2) := by decide +kernel
theorem dX8_paste_152 : decode cX8_paste 152 = .ok (.iload 5, 2) := by decide +kernel
theorem dX8_paste_154 : decode cX8_paste 154 = .ok (.if_icmp .ge 31, 3) := by decide +kernel
theorem dX8_paste_157 : decode cX8_paste 157 = .ok (.aload_n 0, 1) := by decide +kernel
theorem dX8_paste_158 : decode cX8_paste 158 = .ok (.getfield 67, 3) := by decide +kernel
theorem dX8_paste_161 : decode cX8_paste 161 = .ok (.bipush 60, 2) := by decide +kernel
theorem dX8_paste_163 : decode cX8_paste 163 = .ok (.iload_n 3, 1) := by decide +kernel
theorem dX8_paste_164 : decode cX8_paste 164 = .ok (.imul, 1) := by decide +kernel
theorem dX8_paste_165 : decode cX8_paste 165 = .ok (.iload 4, 2) := by decide +kernel
theorem dX8_paste_167 : decode cX8_paste 167 = .ok (.iadd, 1) := by decide +kernel
theorem dX8_paste_168 : decode cX8_paste 168 = .ok (.iload 6, 2) := by decide +kernel
theorem dX8_paste_170 : decode cX8_paste 170 = .ok (.iadd, 1) := by decide +kernel
theorem dX8_paste_171 : decode cX8_paste 171 = .ok (.aload_n 0, 1) := by decide +kernel
theorem dX8_paste_172 : decode cX8_paste 172 = .ok (.getfield 71, 3) := by decide +kernel
theorem dX8_paste_175 : decode cX8_paste 175 = .ok (.iload 6, 2) := by decide +kernel
theorem dX8_paste_177 : decode cX8_paste 177 = .ok (.laload, 1) := by decide +kernel
theorem dX8_paste_178 : decode cX8_paste 178 = .ok (.lastore, 1) := by decide +kernel
theorem dX8_paste_179 : decode cX8_paste 179 = .ok (.iinc 6 1, 3) := by decide +kernel
theorem dX8_paste_182 : decode cX8_paste 182 = .ok (.goto (-32), 3) := by decide +kernel
theorem dX8_paste_185 : decode cX8_paste 185 = .ok (.iconst 0, 1) := by decide +kernel
theorem dX8_paste_186 : decode cX8_paste 186 = .ok (.ireturn, 1) := by decide +kernel
set_option maxRecDepth 4000 in
theorem kX8_paste (G : GT) {σ : St} {a1 : Int32} {a2 : Int32} {a3 : Int32} {a4 : Int32} {a5 : Int32} : ∀ (r : Int32) (σo : St) , fX8_paste σ a1 a2 a3 a4 a5 = some (r, σo) → MCt G 3 yX8_paste cX8_paste 7 (some .int) [.ref (gad G 62), .int a1, .int a2, .int a3, .int a4, .int a5] σ (some (.int r)) σo := by
  intro r σo hF
  refine met_i (by decide) (Nat.le_of_ble_eq_true rfl) (fun X cx hE => ?_)
  have cx : Cx G X RX8 cX8_paste 7 3 := cx
  have hl150 : ∀ n : Nat, ∀ (σ : St) (x3 : Int32) (x4 : Int32) (x5 : Int32) (x6 : Int32) , fX8_paste_l150 n σ x3 x4 x5 x6 = some (r, σo) → WW G X 7 σ [(0, .ref (gad G 62)), (3, .int x3), (4, .int x4), (5, .int x5), (6, .int x6)] 150 [] := by
    intro n
    induction n with
    | zero =>
      intro σ x3 x4 x5 x6 hF
      exact absurd hF (by intro z; cases z)
    | succ n ih =>
      intro σ x3 x4 x5 x6 hF
      have hk150 := ih
      have hF : fX8_paste_B150 (fX8_paste_l150 n) σ x3 x4 x5 x6 = some (r, σo) := hF
      unfold fX8_paste_B150 at hF
      refine ww_iload cx dX8_paste_150 4 rfl ?_
      refine ww_iload cx dX8_paste_152 3 rfl ?_
      refine ww_icmp_ge cx dX8_paste_154 (tgt := 185) rfl hF (fun hF => ?_) (fun hF => ?_)
      · refine ww_iconst cx dX8_paste_185 ic_0 ?_
        exact ww_ris hE dX8_paste_186 hF
      · refine ww_aload_n cx dX8_paste_157 rfl 0 rfl ?_
        refine gf_X8_67 cx dX8_paste_158 ?_
        refine ww_bipush cx dX8_paste_161 bc_60 ?_
        refine ww_iload_n cx dX8_paste_163 rfl 1 rfl ?_
        refine ww_imul cx dX8_paste_164 ?_
        refine ww_iload cx dX8_paste_165 2 rfl ?_
        refine ww_iadd cx dX8_paste_167 ?_
        refine ww_iload cx dX8_paste_168 4 rfl ?_
        refine ww_iadd cx dX8_paste_170 ?_
        refine ww_aload_n cx dX8_paste_171 rfl 0 rfl ?_
        refine gf_X8_71 cx dX8_paste_172 ?_
        refine ww_iload cx dX8_paste_175 4 rfl ?_
        refine ww_lald (N := 60) cx (sh_81) dX8_paste_177 hF (fun hF => ?_)
        refine ww_last (N := 240) cx (sh_80) dX8_paste_178 hF (fun σ1 hF => ?_)
        refine ww_iinc (j := 4) (ks := [0, 1, 2, 3, 4]) (lv' := fun v2 => [(6, .int v2), (0, .ref (gad G 62)), (3, .int x3), (4, .int x4), (5, .int x5)]) cx dX8_paste_179 (by decide) rfl ic_1 hF (fun _ => rfl) (fun v2 hF => ?_)
        refine ww_goto cx dX8_paste_182 (tgt := 150) rfl ?_
        exact ww_sub [1, 2, 3, 4, 0] rfl (hk150 _ _ _ _ _ hF)
  have hl113 : ∀ n : Nat, ∀ (σ : St) (x1 : Int32) (x2 : Int32) (x3 : Int32) (x4 : Int32) (x5 : Int32) (x6 : Int32) , fX8_paste_l113 n σ x1 x2 x3 x4 x5 x6 = some (r, σo) → WW G X 7 σ [(0, .ref (gad G 62)), (1, .int x1), (2, .int x2), (3, .int x3), (4, .int x4), (5, .int x5), (6, .int x6)] 113 [] := by
    intro n
    induction n with
    | zero =>
      intro σ x1 x2 x3 x4 x5 x6 hF
      exact absurd hF (by intro z; cases z)
    | succ n ih =>
      intro σ x1 x2 x3 x4 x5 x6 hF
      have hk113 := ih
      have hF : fX8_paste_B113 (fX8_paste_l113 n) σ x1 x2 x3 x4 x5 x6 = some (r, σo) := hF
      unfold fX8_paste_B113 at hF
      refine ww_iload cx dX8_paste_113 6 rfl ?_
      refine ww_iload cx dX8_paste_115 5 rfl ?_
      refine ww_icmp_ge cx dX8_paste_117 (tgt := 147) rfl hF (fun hF => ?_) (fun hF => ?_)
      · refine ww_iconst cx dX8_paste_147 ic_0 ?_
        refine ww_istore (ks := [0, 1, 4, 5, 6]) (lv' := fun v3 => [(6, .int v3), (0, .ref (gad G 62)), (3, .int x3), (4, .int x4), (5, .int x5)]) cx dX8_paste_148 (by decide) hF (fun _ => rfl) (fun v3 hF => ?_)
        exact ww_sub [1, 2, 3, 4, 0] rfl (hl150 FU _ _ _ _ _ hF)
      · refine ww_aload_n cx dX8_paste_120 rfl 0 rfl ?_
        refine gf_X8_71 cx dX8_paste_121 ?_
        refine ww_iload cx dX8_paste_124 6 rfl ?_
        refine ww_aload_n cx dX8_paste_126 rfl 0 rfl ?_
        refine gf_X8_67 cx dX8_paste_127 ?_
        refine ww_bipush cx dX8_paste_130 bc_60 ?_
        refine ww_iload_n cx dX8_paste_132 rfl 1 rfl ?_
        refine ww_imul cx dX8_paste_133 ?_
        refine ww_iload_n cx dX8_paste_134 rfl 2 rfl ?_
        refine ww_iadd cx dX8_paste_135 ?_
        refine ww_iload cx dX8_paste_136 6 rfl ?_
        refine ww_iadd cx dX8_paste_138 ?_
        refine ww_lald (N := 240) cx (sh_80) dX8_paste_139 hF (fun hF => ?_)
        refine ww_last (N := 60) cx (sh_81) dX8_paste_140 hF (fun σ4 hF => ?_)
        refine ww_iinc (j := 6) (ks := [0, 1, 2, 3, 4, 5, 6]) (lv' := fun v5 => [(6, .int v5), (0, .ref (gad G 62)), (1, .int x1), (2, .int x2), (3, .int x3), (4, .int x4), (5, .int x5)]) cx dX8_paste_141 (by decide) rfl ic_1 hF (fun _ => rfl) (fun v5 hF => ?_)
        refine ww_goto cx dX8_paste_144 (tgt := 113) rfl ?_
        exact ww_sub [1, 2, 3, 4, 5, 6, 0] rfl (hk113 _ _ _ _ _ _ _ hF)
  unfold fX8_paste at hF
  show WW G X 7 σ [(0, .ref (gad G 62)), (1, .int a1), (2, .int a2), (3, .int a3), (4, .int a4), (5, .int a5)] 0 []
  refine ww_iload_n cx dX8_paste_0 rfl 1 rfl ?_
  refine ww_S1_pi kv_X8_316 cx ⟨Nat.le_of_ble_eq_true rfl, Nat.le_of_ble_eq_true rfl⟩ (Nat.le_of_ble_eq_true rfl) dX8_paste_1 (kX8_isSlot G) hF (fun r6 hF => ?_)
  refine ww_if_eq cx dX8_paste_4 (tgt := 14) rfl hF (fun hF => ?_) (fun hF => ?_)
  · refine ww_bipush cx dX8_paste_14 bc_m2 ?_
    exact ww_ris hE dX8_paste_16 hF
  · refine ww_iload_n cx dX8_paste_7 rfl 3 rfl ?_
    refine ww_S1_pi kv_X8_316 cx ⟨Nat.le_of_ble_eq_true rfl, Nat.le_of_ble_eq_true rfl⟩ (Nat.le_of_ble_eq_true rfl) dX8_paste_8 (kX8_isSlot G) hF (fun r7 hF => ?_)
    refine ww_if_ne cx dX8_paste_11 (tgt := 17) rfl hF (fun hF => ?_) (fun hF => ?_)
    · refine ww_aload_n cx dX8_paste_17 rfl 0 rfl ?_
      refine gf_X8_61 cx dX8_paste_18 ?_
      refine ww_iload_n cx dX8_paste_21 rfl 1 rfl ?_
      refine ww_iald (N := 4) cx (sh_78) dX8_paste_22 hF (fun hF => ?_)
      refine ww_iconst cx dX8_paste_23 ic_m1 ?_
      refine ww_icmp_eq cx dX8_paste_24 (tgt := 37) rfl hF (fun hF => ?_) (fun hF => ?_)
      · refine ww_bipush cx dX8_paste_37 bc_m6 ?_
        exact ww_ris hE dX8_paste_39 hF
      · refine ww_aload_n cx dX8_paste_27 rfl 0 rfl ?_
        refine gf_X8_61 cx dX8_paste_28 ?_
        refine ww_iload_n cx dX8_paste_31 rfl 3 rfl ?_
        refine ww_iald (N := 4) cx (sh_78) dX8_paste_32 hF (fun hF => ?_)
        refine ww_iconst cx dX8_paste_33 ic_m1 ?_
        refine ww_icmp_ne cx dX8_paste_34 (tgt := 40) rfl hF (fun hF => ?_) (fun hF => ?_)
        · refine ww_aload_n cx dX8_paste_40 rfl 0 rfl ?_
          refine gf_X8_64 cx dX8_paste_41 ?_
          refine ww_iload_n cx dX8_paste_44 rfl 1 rfl ?_
          refine ww_iald (N := 4) cx (sh_79) dX8_paste_45 hF (fun hF => ?_)
          refine ww_aload_n cx dX8_paste_46 rfl 0 rfl ?_
          refine gf_X8_64 cx dX8_paste_47 ?_
          refine ww_iload_n cx dX8_paste_50 rfl 3 rfl ?_
          refine ww_iald (N := 4) cx (sh_79) dX8_paste_51 hF (fun hF => ?_)
          refine ww_icmp_eq cx dX8_paste_52 (tgt := 58) rfl hF (fun hF => ?_) (fun hF => ?_)
          · refine ww_iload_n cx dX8_paste_58 rfl 2 rfl ?_
            refine ww_if_lt cx dX8_paste_59 (tgt := 107) rfl hF (fun hF => ?_) (fun hF => ?_)
            · refine ww_bipush cx dX8_paste_107 bc_m7 ?_
              exact ww_ris hE dX8_paste_109 hF
            · refine ww_iload cx dX8_paste_62 4 rfl ?_
              refine ww_if_lt cx dX8_paste_64 (tgt := 107) rfl hF (fun hF => ?_) (fun hF => ?_)
              · refine ww_bipush cx dX8_paste_107 bc_m7 ?_
                exact ww_ris hE dX8_paste_109 hF
              · refine ww_iload cx dX8_paste_67 5 rfl ?_
                refine ww_if_lt cx dX8_paste_69 (tgt := 107) rfl hF (fun hF => ?_) (fun hF => ?_)
                · refine ww_bipush cx dX8_paste_107 bc_m7 ?_
                  exact ww_ris hE dX8_paste_109 hF
                · refine ww_iload_n cx dX8_paste_72 rfl 2 rfl ?_
                  refine ww_i2l cx dX8_paste_73 ?_
                  refine ww_iload cx dX8_paste_74 5 rfl ?_
                  refine ww_i2l cx dX8_paste_76 ?_
                  refine ww_ladd cx dX8_paste_77 ?_
                  refine ww_aload_n cx dX8_paste_78 rfl 0 rfl ?_
                  refine gf_X8_61 cx dX8_paste_79 ?_
                  refine ww_iload_n cx dX8_paste_82 rfl 1 rfl ?_
                  refine ww_iald (N := 4) cx (sh_78) dX8_paste_83 hF (fun hF => ?_)
                  refine ww_i2l cx dX8_paste_84 ?_
                  refine ww_lcmp cx dX8_paste_85 ?_
                  refine ww_if_gt cx dX8_paste_86 (tgt := 107) rfl hF (fun hF => ?_) (fun hF => ?_)
                  · refine ww_bipush cx dX8_paste_107 bc_m7 ?_
                    exact ww_ris hE dX8_paste_109 hF
                  · refine ww_iload cx dX8_paste_89 4 rfl ?_
                    refine ww_i2l cx dX8_paste_91 ?_
                    refine ww_iload cx dX8_paste_92 5 rfl ?_
                    refine ww_i2l cx dX8_paste_94 ?_
                    refine ww_ladd cx dX8_paste_95 ?_
                    refine ww_aload_n cx dX8_paste_96 rfl 0 rfl ?_
                    refine gf_X8_61 cx dX8_paste_97 ?_
                    refine ww_iload_n cx dX8_paste_100 rfl 3 rfl ?_
                    refine ww_iald (N := 4) cx (sh_78) dX8_paste_101 hF (fun hF => ?_)
                    refine ww_i2l cx dX8_paste_102 ?_
                    refine ww_lcmp cx dX8_paste_103 ?_
                    refine ww_if_le cx dX8_paste_104 (tgt := 110) rfl hF (fun hF => ?_) (fun hF => ?_)
                    · refine ww_iconst cx dX8_paste_110 ic_0 ?_
                      refine ww_istore (ks := [0, 1, 2, 3, 4, 5, 6]) (lv' := fun v8 => [(6, .int v8), (0, .ref (gad G 62)), (1, .int a1), (2, .int a2), (3, .int a3), (4, .int a4), (5, .int a5)]) cx dX8_paste_111 (by decide) hF (fun _ => rfl) (fun v8 hF => ?_)
                      exact ww_sub [1, 2, 3, 4, 5, 6, 0] rfl (hl113 FU _ _ _ _ _ _ _ hF)
                    · refine ww_bipush cx dX8_paste_107 bc_m7 ?_
                      exact ww_ris hE dX8_paste_109 hF
          · refine ww_bipush cx dX8_paste_55 bc_m8 ?_
            exact ww_ris hE dX8_paste_57 hF
        · refine ww_bipush cx dX8_paste_37 bc_m6 ?_
          exact ww_ris hE dX8_paste_39 hF
    · refine ww_bipush cx dX8_paste_14 bc_m2 ?_
      exact ww_ris hE dX8_paste_16 hF
theorem dX8_provedBy_0 : decode cX8_provedBy 0 = .ok (.iload_n 1, 1) := by decide +kernel
theorem dX8_provedBy_1 : decode cX8_provedBy 1 = .ok (.istore_n 3, 1) := by decide +kernel
theorem dX8_provedBy_2 : decode cX8_provedBy 2 = .ok (.iconst 1, 1) := by decide +kernel
theorem dX8_provedBy_3 : decode cX8_provedBy 3 = .ok (.istore 4, 2) := by decide +kernel
theorem dX8_provedBy_5 : decode cX8_provedBy 5 = .ok (.iload 4, 2) := by decide +kernel
theorem dX8_provedBy_7 : decode cX8_provedBy 7 = .ok (.ifCond .eq 66, 3) := by decide +kernel
theorem dX8_provedBy_10 : decode cX8_provedBy 10 = .ok (.iconst 0, 1) := by decide +kernel
theorem dX8_provedBy_11 : decode cX8_provedBy 11 = .ok (.istore 4, 2) := by decide +kernel
theorem dX8_provedBy_13 : decode cX8_provedBy 13 = .ok (.iconst 0, 1) := by decide +kernel
theorem dX8_provedBy_14 : decode cX8_provedBy 14 = .ok (.istore 5, 2) := by decide +kernel
theorem dX8_provedBy_16 : decode cX8_provedBy 16 = .ok (.iload 5, 2) := by decide +kernel
theorem dX8_provedBy_18 : decode cX8_provedBy 18 = .ok (.aload_n 0, 1) := by decide +kernel
theorem dX8_provedBy_19 : decode cX8_provedBy 19 = .ok (.getfield 9, 3) := by decide +kernel
theorem dX8_provedBy_22 : decode cX8_provedBy 22 = .ok (.iconst 4, 1) := by decide +kernel
theorem dX8_provedBy_23 : decode cX8_provedBy 23 = .ok (.iaload, 1) := by decide +kernel
theorem dX8_provedBy_24 : decode cX8_provedBy 24 = .ok (.if_icmp .ge 46, 3) := by decide +kernel
theorem dX8_provedBy_27 : decode cX8_provedBy 27 = .ok (.iload_n 2, 1) := by decide +kernel
theorem dX8_provedBy_28 : decode cX8_provedBy 28 = .ok (.iload 5, 2) := by decide +kernel
theorem dX8_provedBy_30 : decode cX8_provedBy 30 = .ok (.invokestatic 168, 3) := by decide +kernel
theorem dX8_provedBy_33 : decode cX8_provedBy 33 = .ok (.ifCond .eq 31, 3) := by decide +kernel
theorem dX8_provedBy_36 : decode cX8_provedBy 36 = .ok (.aload_n 0, 1) := by decide +kernel
theorem dX8_provedBy_37 : decode cX8_provedBy 37 = .ok (.iload 5, 2) := by decide +kernel
theorem dX8_provedBy_39 : decode cX8_provedBy 39 = .ok (.iload_n 3, 1) := by decide +kernel
theorem dX8_provedBy_40 : decode cX8_provedBy 40 = .ok (.invokevirtual 300, 3) := by decide +kernel
theorem dX8_provedBy_43 : decode cX8_provedBy 43 = .ok (.ifCond .ne 6, 3) := by decide +kernel
theorem dX8_provedBy_46 : decode cX8_provedBy 46 = .ok (.goto 18, 3) := by decide +kernel
theorem dX8_provedBy_49 : decode cX8_provedBy 49 = .ok (.iload_n 3, 1) := by decide +kernel
theorem dX8_provedBy_50 : decode cX8_provedBy 50 = .ok (.iconst 1, 1) := by decide +kernel
theorem dX8_provedBy_51 : decode cX8_provedBy 51 = .ok (.aload_n 0, 1) := by decide +kernel
theorem dX8_provedBy_52 : decode cX8_provedBy 52 = .ok (.iload 5, 2) := by decide +kernel
theorem dX8_provedBy_54 : decode cX8_provedBy 54 = .ok (.iconst 0, 1) := by decide +kernel
theorem dX8_provedBy_55 : decode cX8_provedBy 55 = .ok (.invokevirtual 263, 3) := by decide +kernel
theorem dX8_provedBy_58 : decode cX8_provedBy 58 = .ok (.ishl, 1) := by decide +kernel
theorem dX8_provedBy_59 : decode cX8_provedBy 59 = .ok (.ior, 1) := by decide +kernel
theorem dX8_provedBy_60 : decode cX8_provedBy 60 = .ok (.istore_n 3, 1) := by decide +kernel
theorem dX8_provedBy_61 : decode cX8_provedBy 61 = .ok (.iconst 1, 1) := by decide +kernel
theorem dX8_provedBy_62 : decode cX8_provedBy 62 = .ok (.istore 4, 2) := by decide +kernel
theorem dX8_provedBy_64 : decode cX8_provedBy 64 = .ok (.iinc 5 1, 3) := by decide +kernel
theorem dX8_provedBy_67 : decode cX8_provedBy 67 = .ok (.goto (-51), 3) := by decide +kernel
theorem dX8_provedBy_70 : decode cX8_provedBy 70 = .ok (.goto (-65), 3) := by decide +kernel
theorem dX8_provedBy_73 : decode cX8_provedBy 73 = .ok (.iload_n 3, 1) := by decide +kernel
theorem dX8_provedBy_74 : decode cX8_provedBy 74 = .ok (.ireturn, 1) := by decide +kernel
set_option maxRecDepth 4000 in
theorem kX8_provedBy (G : GT) {σ : St} {a1 : Int32} {a2 : Int32} : ∀ (r : Int32) , fX8_provedBy σ a1 a2 = some r → MCt G 3 yX8_provedBy cX8_provedBy 6 (some .int) [.ref (gad G 62), .int a1, .int a2] σ (some (.int r)) σ := by
  intro r hF
  refine met_i (by decide) (Nat.le_of_ble_eq_true rfl) (fun X cx hE => ?_)
  have cx : Cx G X RX8 cX8_provedBy 6 3 := cx
  have hl16 : ∀ (kr5 : Int32 → Int32 → Int32 → Option (Int32)), (∀ (x2 : Int32) (x3 : Int32) (x4 : Int32) , kr5 x2 x3 x4 = some r → WW G X 6 σ [(0, .ref (gad G 62)), (2, .int x2), (3, .int x3), (4, .int x4)] 5 []) → ∀ n : Nat, ∀ (x2 : Int32) (x3 : Int32) (x4 : Int32) (x5 : Int32) , fX8_provedBy_l16 σ kr5 n x2 x3 x4 x5 = some r → WW G X 6 σ [(0, .ref (gad G 62)), (2, .int x2), (3, .int x3), (4, .int x4), (5, .int x5)] 16 [] := by
    intro kr5 hk5
    intro n
    induction n with
    | zero =>
      intro x2 x3 x4 x5 hF
      exact absurd hF (by intro z; cases z)
    | succ n ih =>
      intro x2 x3 x4 x5 hF
      have hk16 := ih
      have hF : fX8_provedBy_B16 σ kr5 (fX8_provedBy_l16 σ kr5 n) x2 x3 x4 x5 = some r := hF
      unfold fX8_provedBy_B16 at hF
      refine ww_iload cx dX8_provedBy_16 4 rfl ?_
      refine ww_aload_n cx dX8_provedBy_18 rfl 0 rfl ?_
      refine gf_X8_9 cx dX8_provedBy_19 ?_
      refine ww_iconst cx dX8_provedBy_22 ic_4 ?_
      refine ww_iald (N := 77) cx (sh_63) dX8_provedBy_23 hF (fun hF => ?_)
      refine ww_icmp_ge cx dX8_provedBy_24 (tgt := 70) rfl hF (fun hF => ?_) (fun hF => ?_)
      · refine ww_goto cx dX8_provedBy_70 (tgt := 5) rfl ?_
        exact ww_sub [0, 1, 2, 3] rfl (hk5 _ _ _ hF)
      · refine ww_iload_n cx dX8_provedBy_27 rfl 1 rfl ?_
        refine ww_iload cx dX8_provedBy_28 4 rfl ?_
        refine ww_S2_pi kv_X8_168 cx ⟨Nat.le_of_ble_eq_true rfl, Nat.le_of_ble_eq_true rfl⟩ (Nat.le_of_ble_eq_true rfl) dX8_provedBy_30 (kX8_bit G) hF (fun r1 hF => ?_)
        refine ww_if_eq cx dX8_provedBy_33 (tgt := 64) rfl hF (fun hF => ?_) (fun hF => ?_)
        · refine ww_iinc (j := 4) (ks := [0, 1, 2, 3, 4]) (lv' := fun v2 => [(5, .int v2), (0, .ref (gad G 62)), (2, .int x2), (3, .int x3), (4, .int x4)]) cx dX8_provedBy_64 (by decide) rfl ic_1 hF (fun _ => rfl) (fun v2 hF => ?_)
          refine ww_goto cx dX8_provedBy_67 (tgt := 16) rfl ?_
          exact ww_sub [1, 2, 3, 4, 0] rfl (hk16 _ _ _ _ hF)
        · refine ww_aload_n cx dX8_provedBy_36 rfl 0 rfl ?_
          refine ww_iload cx dX8_provedBy_37 4 rfl ?_
          refine ww_iload_n cx dX8_provedBy_39 rfl 2 rfl ?_
          refine ww_V2_pi kv_X8_300 rfl cx sh_62 ⟨Nat.le_of_ble_eq_true rfl, Nat.le_of_ble_eq_true rfl⟩ (Nat.le_of_ble_eq_true rfl) dX8_provedBy_40 (kX8_goes G) hF (fun r3 hF => ?_)
          refine ww_if_ne cx dX8_provedBy_43 (tgt := 49) rfl hF (fun hF => ?_) (fun hF => ?_)
          · refine ww_iload_n cx dX8_provedBy_49 rfl 2 rfl ?_
            refine ww_iconst cx dX8_provedBy_50 ic_1 ?_
            refine ww_aload_n cx dX8_provedBy_51 rfl 0 rfl ?_
            refine ww_iload cx dX8_provedBy_52 4 rfl ?_
            refine ww_iconst cx dX8_provedBy_54 ic_0 ?_
            refine ww_V2_pi kv_X8_263 rfl cx sh_62 ⟨Nat.le_of_ble_eq_true rfl, Nat.le_of_ble_eq_true rfl⟩ (Nat.le_of_ble_eq_true rfl) dX8_provedBy_55 (kX8_ofStep G) hF (fun r4 hF => ?_)
            refine ww_ishl cx dX8_provedBy_58 ?_
            refine ww_ior cx dX8_provedBy_59 ?_
            refine ww_istore_n (ks := [0, 1, 2, 4]) (lv' := fun v5 => [(3, .int v5), (0, .ref (gad G 62)), (2, .int x2), (5, .int x5)]) cx dX8_provedBy_60 rfl (by decide) hF (fun _ => rfl) (fun v5 hF => ?_)
            refine ww_iconst cx dX8_provedBy_61 ic_1 ?_
            refine ww_istore (ks := [0, 1, 2, 3, 4]) (lv' := fun v6 => [(4, .int v6), (3, .int v5), (0, .ref (gad G 62)), (2, .int x2), (5, .int x5)]) cx dX8_provedBy_62 (by decide) hF (fun _ => rfl) (fun v6 hF => ?_)
            refine ww_iinc (j := 4) (ks := [0, 1, 2, 3, 4]) (lv' := fun v7 => [(5, .int v7), (4, .int v6), (3, .int v5), (0, .ref (gad G 62)), (2, .int x2)]) cx dX8_provedBy_64 (by decide) rfl ic_1 hF (fun _ => rfl) (fun v7 hF => ?_)
            refine ww_goto cx dX8_provedBy_67 (tgt := 16) rfl ?_
            exact ww_sub [3, 4, 2, 1, 0] rfl (hk16 _ _ _ _ hF)
          · refine ww_goto cx dX8_provedBy_46 (tgt := 64) rfl ?_
            refine ww_iinc (j := 4) (ks := [0, 1, 2, 3, 4]) (lv' := fun v8 => [(5, .int v8), (0, .ref (gad G 62)), (2, .int x2), (3, .int x3), (4, .int x4)]) cx dX8_provedBy_64 (by decide) rfl ic_1 hF (fun _ => rfl) (fun v8 hF => ?_)
            refine ww_goto cx dX8_provedBy_67 (tgt := 16) rfl ?_
            exact ww_sub [1, 2, 3, 4, 0] rfl (hk16 _ _ _ _ hF)
  have hl5 : ∀ n : Nat, ∀ (x2 : Int32) (x3 : Int32) (x4 : Int32) , fX8_provedBy_l5 σ n x2 x3 x4 = some r → WW G X 6 σ [(0, .ref (gad G 62)), (2, .int x2), (3, .int x3), (4, .int x4)] 5 [] := by
    intro n
    induction n with
    | zero =>
      intro x2 x3 x4 hF
      exact absurd hF (by intro z; cases z)
    | succ n ih =>
      intro x2 x3 x4 hF
      have hk5 := ih
      have hF : fX8_provedBy_B5 σ (fX8_provedBy_l5 σ n) x2 x3 x4 = some r := hF
      unfold fX8_provedBy_B5 at hF
      refine ww_iload cx dX8_provedBy_5 3 rfl ?_
      refine ww_if_eq cx dX8_provedBy_7 (tgt := 73) rfl hF (fun hF => ?_) (fun hF => ?_)
      · refine ww_iload_n cx dX8_provedBy_73 rfl 2 rfl ?_
        exact ww_rip hE dX8_provedBy_74 hF
      · refine ww_iconst cx dX8_provedBy_10 ic_0 ?_
        refine ww_istore (ks := [0, 1, 2, 3]) (lv' := fun v9 => [(4, .int v9), (0, .ref (gad G 62)), (2, .int x2), (3, .int x3)]) cx dX8_provedBy_11 (by decide) hF (fun _ => rfl) (fun v9 hF => ?_)
        refine ww_iconst cx dX8_provedBy_13 ic_0 ?_
        refine ww_istore (ks := [0, 1, 2, 3, 4]) (lv' := fun v10 => [(5, .int v10), (4, .int v9), (0, .ref (gad G 62)), (2, .int x2), (3, .int x3)]) cx dX8_provedBy_14 (by decide) hF (fun _ => rfl) (fun v10 hF => ?_)
        exact ww_sub [2, 3, 4, 1, 0] rfl (hl16 _ hk5 FU _ _ _ _ hF)
  unfold fX8_provedBy at hF
  show WW G X 6 σ [(0, .ref (gad G 62)), (1, .int a1), (2, .int a2)] 0 []
  refine ww_iload_n cx dX8_provedBy_0 rfl 1 rfl ?_
  refine ww_istore_n (ks := [0, 1, 3]) (lv' := fun v11 => [(3, .int v11), (0, .ref (gad G 62)), (2, .int a2)]) cx dX8_provedBy_1 rfl (by decide) hF (fun _ => rfl) (fun v11 hF => ?_)
  refine ww_iconst cx dX8_provedBy_2 ic_1 ?_
  refine ww_istore (ks := [0, 1, 2, 3]) (lv' := fun v12 => [(4, .int v12), (3, .int v11), (0, .ref (gad G 62)), (2, .int a2)]) cx dX8_provedBy_3 (by decide) hF (fun _ => rfl) (fun v12 hF => ?_)
  exact ww_sub [2, 3, 1, 0] rfl (hl5 FU _ _ _ hF)
theorem dX8_readRow_0 : decode cX8_readRow 0 = .ok (.aload_n 0, 1) := by decide +kernel
theorem dX8_readRow_1 : decode cX8_readRow 1 = .ok (.aload_n 0, 1) := by decide +kernel
theorem dX8_readRow_2 : decode cX8_readRow 2 = .ok (.invokevirtual 257, 3) := by decide +kernel
theorem dX8_readRow_5 : decode cX8_readRow 5 = .ok (.putfield 323, 3) := by decide +kernel
theorem dX8_readRow_8 : decode cX8_readRow 8 = .ok (.aload_n 0, 1) := by decide +kernel
theorem dX8_readRow_9 : decode cX8_readRow 9 = .ok (.iconst 0, 1) := by decide +kernel
theorem dX8_readRow_10 : decode cX8_readRow 10 = .ok (.putfield 326, 3) := by decide +kernel
theorem dX8_readRow_13 : decode cX8_readRow 13 = .ok (.aload_n 0, 1) := by decide +kernel
theorem dX8_readRow_14 : decode cX8_readRow 14 = .ok (.getfield 326, 3) := by decide +kernel
theorem dX8_readRow_17 : decode cX8_readRow 17 = .ok (.aload_n 0, 1) := by decide +kernel
theorem dX8_readRow_18 : decode cX8_readRow 18 = .ok (.getfield 61, 3) := by decide +kernel
theorem dX8_readRow_21 : decode cX8_readRow 21 = .ok (.iload_n 1, 1) := by decide +kernel
theorem dX8_readRow_22 : decode cX8_readRow 22 = .ok (.iaload, 1) := by decide +kernel
theorem dX8_readRow_23 : decode cX8_readRow 23 = .ok (.if_icmp .ge 63, 3) := by decide +kernel
theorem dX8_readRow_26 : decode cX8_readRow 26 = .ok (.aload_n 0, 1) := by decide +kernel
theorem dX8_readRow_27 : decode cX8_readRow 27 = .ok (.aload_n 0, 1) := by decide +kernel
theorem dX8_readRow_28 : decode cX8_readRow 28 = .ok (.iload_n 1, 1) := by decide +kernel
theorem dX8_readRow_29 : decode cX8_readRow 29 = .ok (.aload_n 0, 1) := by decide +kernel
theorem dX8_readRow_30 : decode cX8_readRow 30 = .ok (.getfield 326, 3) := by decide +kernel
theorem dX8_readRow_33 : decode cX8_readRow 33 = .ok (.invokevirtual 319, 3) := by decide +kernel
theorem dX8_readRow_36 : decode cX8_readRow 36 = .ok (.l2i, 1) := by decide +kernel
theorem dX8_readRow_37 : decode cX8_readRow 37 = .ok (.aload_n 0, 1) := by decide +kernel
theorem dX8_readRow_38 : decode cX8_readRow 38 = .ok (.getfield 323, 3) := by decide +kernel
theorem dX8_readRow_41 : decode cX8_readRow 41 = .ok (.invokevirtual 300, 3) := by decide +kernel
theorem dX8_readRow_44 : decode cX8_readRow 44 = .ok (.ifCond .eq 42, 3) := by decide +kernel
theorem dX8_readRow_47 : decode cX8_readRow 47 = .ok (.aload_n 0, 1) := by decide +kernel
theorem dX8_readRow_48 : decode cX8_readRow 48 = .ok (.dup, 1) := by decide +kernel
theorem dX8_readRow_49 : decode cX8_readRow 49 = .ok (.getfield 323, 3) := by decide +kernel
theorem dX8_readRow_52 : decode cX8_readRow 52 = .ok (.iconst 1, 1) := by decide +kernel
theorem dX8_readRow_53 : decode cX8_readRow 53 = .ok (.aload_n 0, 1) := by decide +kernel
theorem dX8_readRow_54 : decode cX8_readRow 54 = .ok (.aload_n 0, 1) := by decide +kernel
theorem dX8_readRow_55 : decode cX8_readRow 55 = .ok (.iload_n 1, 1) := by decide +kernel
theorem dX8_readRow_56 : decode cX8_readRow 56 = .ok (.aload_n 0, 1) := by decide +kernel
theorem dX8_readRow_57 : decode cX8_readRow 57 = .ok (.getfield 326, 3) := by decide +kernel
theorem dX8_readRow_60 : decode cX8_readRow 60 = .ok (.invokevirtual 319, 3) := by decide +kernel
theorem dX8_readRow_63 : decode cX8_readRow 63 = .ok (.l2i, 1) := by decide +kernel
theorem dX8_readRow_64 : decode cX8_readRow 64 = .ok (.iconst 0, 1) := by decide +kernel
theorem dX8_readRow_65 : decode cX8_readRow 65 = .ok (.invokevirtual 263, 3) := by decide +kernel
theorem dX8_readRow_68 : decode cX8_readRow 68 = .ok (.ishl, 1) := by decide +kernel
theorem dX8_readRow_69 : decode cX8_readRow 69 = .ok (.ior, 1) := by decide +kernel
theorem dX8_readRow_70 : decode cX8_readRow 70 = .ok (.putfield 323, 3) := by decide +kernel
theorem dX8_readRow_73 : decode cX8_readRow 73 = .ok (.aload_n 0, 1) := by decide +kernel
theorem dX8_readRow_74 : decode cX8_readRow 74 = .ok (.dup, 1) := by decide +kernel
theorem dX8_readRow_75 : decode cX8_readRow 75 = .ok (.getfield 326, 3) := by decide +kernel
theorem dX8_readRow_78 : decode cX8_readRow 78 = .ok (.iconst 1, 1) := by decide +kernel
theorem dX8_readRow_79 : decode cX8_readRow 79 = .ok (.iadd, 1) := by decide +kernel
theorem dX8_readRow_80 : decode cX8_readRow 80 = .ok (.putfield 326, 3) := by decide +kernel
theorem dX8_readRow_83 : decode cX8_readRow 83 = .ok (.goto (-70), 3) := by decide +kernel
theorem dX8_readRow_86 : decode cX8_readRow 86 = .ok (.return_, 1) := by decide +kernel
set_option maxRecDepth 4000 in
theorem kX8_readRow (G : GT) {σ : St} {a1 : Int32} : ∀ (σo : St) , fX8_readRow σ a1 = some σo → MCt G 3 yX8_readRow cX8_readRow 2 (none) [.ref (gad G 62), .int a1] σ (none) σo := by
  intro σo hF
  refine met_v (by decide) (Nat.le_of_ble_eq_true rfl) (fun X cx hE => ?_)
  have cx : Cx G X RX8 cX8_readRow 2 3 := cx
  have hl13 : ∀ n : Nat, ∀ (σ : St) (x1 : Int32) , fX8_readRow_l13 n σ x1 = some σo → WW G X 2 σ [(0, .ref (gad G 62)), (1, .int x1)] 13 [] := by
    intro n
    induction n with
    | zero =>
      intro σ x1 hF
      exact absurd hF (by intro z; cases z)
    | succ n ih =>
      intro σ x1 hF
      have hk13 := ih
      have hF : fX8_readRow_B13 (fX8_readRow_l13 n) σ x1 = some σo := hF
      unfold fX8_readRow_B13 at hF
      refine ww_aload_n cx dX8_readRow_13 rfl 0 rfl ?_
      refine gf_X8_326 cx dX8_readRow_14 ?_
      refine ww_aload_n cx dX8_readRow_17 rfl 0 rfl ?_
      refine gf_X8_61 cx dX8_readRow_18 ?_
      refine ww_iload_n cx dX8_readRow_21 rfl 1 rfl ?_
      refine ww_iald (N := 4) cx (sh_78) dX8_readRow_22 hF (fun hF => ?_)
      refine ww_icmp_ge cx dX8_readRow_23 (tgt := 86) rfl hF (fun hF => ?_) (fun hF => ?_)
      · exact ww_rvs hE dX8_readRow_86 hF
      · refine ww_aload_n cx dX8_readRow_26 rfl 0 rfl ?_
        refine ww_aload_n cx dX8_readRow_27 rfl 0 rfl ?_
        refine ww_iload_n cx dX8_readRow_28 rfl 1 rfl ?_
        refine ww_aload_n cx dX8_readRow_29 rfl 0 rfl ?_
        refine gf_X8_326 cx dX8_readRow_30 ?_
        refine ww_V2_pl kv_X8_319 rfl cx sh_62 ⟨Nat.le_of_ble_eq_true rfl, Nat.le_of_ble_eq_true rfl⟩ (Nat.le_of_ble_eq_true rfl) dX8_readRow_33 (kX8_numberAt G) hF (fun r1 hF => ?_)
        refine ww_l2i cx dX8_readRow_36 ?_
        refine ww_aload_n cx dX8_readRow_37 rfl 0 rfl ?_
        refine gf_X8_323 cx dX8_readRow_38 ?_
        refine ww_V2_pi kv_X8_300 rfl cx sh_62 ⟨Nat.le_of_ble_eq_true rfl, Nat.le_of_ble_eq_true rfl⟩ (Nat.le_of_ble_eq_true rfl) dX8_readRow_41 (kX8_goes G) hF (fun r2 hF => ?_)
        refine ww_if_eq cx dX8_readRow_44 (tgt := 86) rfl hF (fun hF => ?_) (fun hF => ?_)
        · exact ww_rvs hE dX8_readRow_86 hF
        · refine ww_aload_n cx dX8_readRow_47 rfl 0 rfl ?_
          refine ww_dup cx dX8_readRow_48 rfl ?_
          refine gf_X8_323 cx dX8_readRow_49 ?_
          refine ww_iconst cx dX8_readRow_52 ic_1 ?_
          refine ww_aload_n cx dX8_readRow_53 rfl 0 rfl ?_
          refine ww_aload_n cx dX8_readRow_54 rfl 0 rfl ?_
          refine ww_iload_n cx dX8_readRow_55 rfl 1 rfl ?_
          refine ww_aload_n cx dX8_readRow_56 rfl 0 rfl ?_
          refine gf_X8_326 cx dX8_readRow_57 ?_
          refine ww_V2_pl kv_X8_319 rfl cx sh_62 ⟨Nat.le_of_ble_eq_true rfl, Nat.le_of_ble_eq_true rfl⟩ (Nat.le_of_ble_eq_true rfl) dX8_readRow_60 (kX8_numberAt G) hF (fun r3 hF => ?_)
          refine ww_l2i cx dX8_readRow_63 ?_
          refine ww_iconst cx dX8_readRow_64 ic_0 ?_
          refine ww_V2_pi kv_X8_263 rfl cx sh_62 ⟨Nat.le_of_ble_eq_true rfl, Nat.le_of_ble_eq_true rfl⟩ (Nat.le_of_ble_eq_true rfl) dX8_readRow_65 (kX8_ofStep G) hF (fun r4 hF => ?_)
          refine ww_ishl cx dX8_readRow_68 ?_
          refine ww_ior cx dX8_readRow_69 ?_
          refine pf_X8_323 cx dX8_readRow_70 hF (fun σ5 hF => ?_)
          refine ww_aload_n cx dX8_readRow_73 rfl 0 rfl ?_
          refine ww_dup cx dX8_readRow_74 rfl ?_
          refine gf_X8_326 cx dX8_readRow_75 ?_
          refine ww_iconst cx dX8_readRow_78 ic_1 ?_
          refine ww_iadd cx dX8_readRow_79 ?_
          refine pf_X8_326 cx dX8_readRow_80 hF (fun σ6 hF => ?_)
          refine ww_goto cx dX8_readRow_83 (tgt := 13) rfl ?_
          exact hk13 _ _ hF
  unfold fX8_readRow at hF
  show WW G X 2 σ [(0, .ref (gad G 62)), (1, .int a1)] 0 []
  refine ww_aload_n cx dX8_readRow_0 rfl 0 rfl ?_
  refine ww_aload_n cx dX8_readRow_1 rfl 0 rfl ?_
  refine ww_V0_pi kv_X8_257 rfl cx sh_62 ⟨Nat.le_of_ble_eq_true rfl, Nat.le_of_ble_eq_true rfl⟩ (Nat.le_of_ble_eq_true rfl) dX8_readRow_2 (kX8_saltNow G) hF (fun r7 hF => ?_)
  refine pf_X8_323 cx dX8_readRow_5 hF (fun σ8 hF => ?_)
  refine ww_aload_n cx dX8_readRow_8 rfl 0 rfl ?_
  refine ww_iconst cx dX8_readRow_9 ic_0 ?_
  refine pf_X8_326 cx dX8_readRow_10 hF (fun σ9 hF => ?_)
  exact hl13 FU _ _ hF
theorem dX8_row_0 : decode cX8_row 0 = .ok (.iload_n 1, 1) := by decide +kernel
theorem dX8_row_1 : decode cX8_row 1 = .ok (.invokestatic 316, 3) := by decide +kernel
theorem dX8_row_4 : decode cX8_row 4 = .ok (.ifCond .eq 21, 3) := by decide +kernel
theorem dX8_row_7 : decode cX8_row 7 = .ok (.iload_n 2, 1) := by decide +kernel
theorem dX8_row_8 : decode cX8_row 8 = .ok (.i2l, 1) := by decide +kernel
theorem dX8_row_9 : decode cX8_row 9 = .ok (.lconst 0, 1) := by decide +kernel
theorem dX8_row_10 : decode cX8_row 10 = .ok (.ldc2_w 445, 3) := by decide +kernel
theorem dX8_row_13 : decode cX8_row 13 = .ok (.invokestatic 83, 3) := by decide +kernel
theorem dX8_row_16 : decode cX8_row 16 = .ok (.ifCond .eq 9, 3) := by decide +kernel
theorem dX8_row_19 : decode cX8_row 19 = .ok (.iload_n 3, 1) := by decide +kernel
theorem dX8_row_20 : decode cX8_row 20 = .ok (.bipush 60, 2) := by decide +kernel
theorem dX8_row_22 : decode cX8_row 22 = .ok (.if_icmp .le 6, 3) := by decide +kernel
theorem dX8_row_25 : decode cX8_row 25 = .ok (.bipush (-2), 2) := by decide +kernel
theorem dX8_row_27 : decode cX8_row 27 = .ok (.ireturn, 1) := by decide +kernel
theorem dX8_row_28 : decode cX8_row 28 = .ok (.iload_n 3, 1) := by decide +kernel
theorem dX8_row_29 : decode cX8_row 29 = .ok (.ifCond .ge 6, 3) := by decide +kernel
theorem dX8_row_32 : decode cX8_row 32 = .ok (.bipush (-3), 2) := by decide +kernel
theorem dX8_row_34 : decode cX8_row 34 = .ok (.ireturn, 1) := by decide +kernel
theorem dX8_row_35 : decode cX8_row 35 = .ok (.aload_n 0, 1) := by decide +kernel
theorem dX8_row_36 : decode cX8_row 36 = .ok (.getfield 61, 3) := by decide +kernel
theorem dX8_row_39 : decode cX8_row 39 = .ok (.iload_n 1, 1) := by decide +kernel
theorem dX8_row_40 : decode cX8_row 40 = .ok (.iload_n 3, 1) := by decide +kernel
theorem dX8_row_41 : decode cX8_row 41 = .ok (.iastore, 1) := by decide +kernel
theorem dX8_row_42 : decode cX8_row 42 = .ok (.aload_n 0, 1) := by decide +kernel
theorem dX8_row_43 : decode cX8_row 43 = .ok (.getfield 64, 3) := by decide +kernel
theorem dX8_row_46 : decode cX8_row 46 = .ok (.iload_n 1, 1) := by decide +kernel
theorem dX8_row_47 : decode cX8_row 47 = .ok (.iload_n 2, 1) := by decide +kernel
theorem dX8_row_48 : decode cX8_row 48 = .ok (.iastore, 1) := by decide +kernel
theorem dX8_row_49 : decode cX8_row 49 = .ok (.iconst 0, 1) := by decide +kernel
theorem dX8_row_50 : decode cX8_row 50 = .ok (.istore 4, 2) := by decide +kernel
theorem dX8_row_52 : decode cX8_row 52 = .ok (.iload 4, 2) := by decide +kernel
theorem dX8_row_54 : decode cX8_row 54 = .ok (.bipush 60, 2) := by decide +kernel
theorem dX8_row_56 : decode cX8_row 56 = .ok (.if_icmp .ge 22, 3) := by decide +kernel
theorem dX8_row_59 : decode cX8_row 59 = .ok (.aload_n 0, 1) := by decide +kernel
theorem dX8_row_60 : decode cX8_row 60 = .ok (.getfield 67, 3) := by decide +kernel
theorem dX8_row_63 : decode cX8_row 63 = .ok (.bipush 60, 2) := by decide +kernel
theorem dX8_row_65 : decode cX8_row 65 = .ok (.iload_n 1, 1) := by decide +kernel
theorem dX8_row_66 : decode cX8_row 66 = .ok (.imul, 1) := by decide +kernel
theorem dX8_row_67 : decode cX8_row 67 = .ok (.iload 4, 2) := by decide +kernel
theorem dX8_row_69 : decode cX8_row 69 = .ok (.iadd, 1) := by decide +kernel
theorem dX8_row_70 : decode cX8_row 70 = .ok (.lconst 0, 1) := by decide +kernel
theorem dX8_row_71 : decode cX8_row 71 = .ok (.lastore, 1) := by decide +kernel
theorem dX8_row_72 : decode cX8_row 72 = .ok (.iinc 4 1, 3) := by decide +kernel
theorem dX8_row_75 : decode cX8_row 75 = .ok (.goto (-23), 3) := by decide +kernel
theorem dX8_row_78 : decode cX8_row 78 = .ok (.iconst 0, 1) := by decide +kernel
theorem dX8_row_79 : decode cX8_row 79 = .ok (.ireturn, 1) := by decide +kernel
set_option maxRecDepth 4000 in
theorem kX8_row (G : GT) {σ : St} {a1 : Int32} {a2 : Int32} {a3 : Int32} : ∀ (r : Int32) (σo : St) , fX8_row σ a1 a2 a3 = some (r, σo) → MCt G 3 yX8_row cX8_row 5 (some .int) [.ref (gad G 62), .int a1, .int a2, .int a3] σ (some (.int r)) σo := by
  intro r σo hF
  refine met_i (by decide) (Nat.le_of_ble_eq_true rfl) (fun X cx hE => ?_)
  have cx : Cx G X RX8 cX8_row 5 3 := cx
  have hl52 : ∀ n : Nat, ∀ (σ : St) (x1 : Int32) (x4 : Int32) , fX8_row_l52 n σ x1 x4 = some (r, σo) → WW G X 5 σ [(0, .ref (gad G 62)), (1, .int x1), (4, .int x4)] 52 [] := by
    intro n
    induction n with
    | zero =>
      intro σ x1 x4 hF
      exact absurd hF (by intro z; cases z)
    | succ n ih =>
      intro σ x1 x4 hF
      have hk52 := ih
      have hF : fX8_row_B52 (fX8_row_l52 n) σ x1 x4 = some (r, σo) := hF
      unfold fX8_row_B52 at hF
      refine ww_iload cx dX8_row_52 2 rfl ?_
      refine ww_bipush cx dX8_row_54 bc_60 ?_
      refine ww_icmp_ge cx dX8_row_56 (tgt := 78) rfl hF (fun hF => ?_) (fun hF => ?_)
      · refine ww_iconst cx dX8_row_78 ic_0 ?_
        exact ww_ris hE dX8_row_79 hF
      · refine ww_aload_n cx dX8_row_59 rfl 0 rfl ?_
        refine gf_X8_67 cx dX8_row_60 ?_
        refine ww_bipush cx dX8_row_63 bc_60 ?_
        refine ww_iload_n cx dX8_row_65 rfl 1 rfl ?_
        refine ww_imul cx dX8_row_66 ?_
        refine ww_iload cx dX8_row_67 2 rfl ?_
        refine ww_iadd cx dX8_row_69 ?_
        refine ww_lconst cx dX8_row_70 lc_0 ?_
        refine ww_last (N := 240) cx (sh_80) dX8_row_71 hF (fun σ1 hF => ?_)
        refine ww_iinc (j := 2) (ks := [0, 1, 2]) (lv' := fun v2 => [(4, .int v2), (0, .ref (gad G 62)), (1, .int x1)]) cx dX8_row_72 (by decide) rfl ic_1 hF (fun _ => rfl) (fun v2 hF => ?_)
        refine ww_goto cx dX8_row_75 (tgt := 52) rfl ?_
        exact ww_sub [1, 2, 0] rfl (hk52 _ _ _ hF)
  unfold fX8_row at hF
  show WW G X 5 σ [(0, .ref (gad G 62)), (1, .int a1), (2, .int a2), (3, .int a3)] 0 []
  refine ww_iload_n cx dX8_row_0 rfl 1 rfl ?_
  refine ww_S1_pi kv_X8_316 cx ⟨Nat.le_of_ble_eq_true rfl, Nat.le_of_ble_eq_true rfl⟩ (Nat.le_of_ble_eq_true rfl) dX8_row_1 (kX8_isSlot G) hF (fun r3 hF => ?_)
  refine ww_if_eq cx dX8_row_4 (tgt := 25) rfl hF (fun hF => ?_) (fun hF => ?_)
  · refine ww_bipush cx dX8_row_25 bc_m2 ?_
    exact ww_ris hE dX8_row_27 hF
  · refine ww_iload_n cx dX8_row_7 rfl 2 rfl ?_
    refine ww_i2l cx dX8_row_8 ?_
    refine ww_lconst cx dX8_row_9 lc_0 ?_
    refine ww_ldc2 (v := 3) cx dX8_row_10 cn_X8_445 ?_
    refine ww_S3_pi kv_X8_83 cx ⟨Nat.le_of_ble_eq_true rfl, Nat.le_of_ble_eq_true rfl⟩ (Nat.le_of_ble_eq_true rfl) dX8_row_13 (kX8_in G) hF (fun r4 hF => ?_)
    refine ww_if_eq cx dX8_row_16 (tgt := 25) rfl hF (fun hF => ?_) (fun hF => ?_)
    · refine ww_bipush cx dX8_row_25 bc_m2 ?_
      exact ww_ris hE dX8_row_27 hF
    · refine ww_iload_n cx dX8_row_19 rfl 3 rfl ?_
      refine ww_bipush cx dX8_row_20 bc_60 ?_
      refine ww_icmp_le cx dX8_row_22 (tgt := 28) rfl hF (fun hF => ?_) (fun hF => ?_)
      · refine ww_iload_n cx dX8_row_28 rfl 3 rfl ?_
        refine ww_if_ge cx dX8_row_29 (tgt := 35) rfl hF (fun hF => ?_) (fun hF => ?_)
        · refine ww_aload_n cx dX8_row_35 rfl 0 rfl ?_
          refine gf_X8_61 cx dX8_row_36 ?_
          refine ww_iload_n cx dX8_row_39 rfl 1 rfl ?_
          refine ww_iload_n cx dX8_row_40 rfl 3 rfl ?_
          refine ww_iast (N := 4) cx (sh_78) dX8_row_41 hF (fun σ5 hF => ?_)
          refine ww_aload_n cx dX8_row_42 rfl 0 rfl ?_
          refine gf_X8_64 cx dX8_row_43 ?_
          refine ww_iload_n cx dX8_row_46 rfl 1 rfl ?_
          refine ww_iload_n cx dX8_row_47 rfl 2 rfl ?_
          refine ww_iast (N := 4) cx (sh_79) dX8_row_48 hF (fun σ6 hF => ?_)
          refine ww_iconst cx dX8_row_49 ic_0 ?_
          refine ww_istore (ks := [0, 1, 2]) (lv' := fun v7 => [(4, .int v7), (0, .ref (gad G 62)), (1, .int a1)]) cx dX8_row_50 (by decide) hF (fun _ => rfl) (fun v7 hF => ?_)
          exact ww_sub [1, 2, 0] rfl (hl52 FU _ _ _ hF)
        · refine ww_bipush cx dX8_row_32 bc_m3 ?_
          exact ww_ris hE dX8_row_34 hF
      · refine ww_bipush cx dX8_row_25 bc_m2 ?_
        exact ww_ris hE dX8_row_27 hF
theorem dX8_salt_0 : decode cX8_salt 0 = .ok (.aload_n 0, 1) := by decide +kernel
theorem dX8_salt_1 : decode cX8_salt 1 = .ok (.iload_n 1, 1) := by decide +kernel
theorem dX8_salt_2 : decode cX8_salt 2 = .ok (.i2l, 1) := by decide +kernel
theorem dX8_salt_3 : decode cX8_salt 3 = .ok (.invokevirtual 269, 3) := by decide +kernel
theorem dX8_salt_6 : decode cX8_salt 6 = .ok (.ifCond .eq 13, 3) := by decide +kernel
theorem dX8_salt_9 : decode cX8_salt 9 = .ok (.iload_n 2, 1) := by decide +kernel
theorem dX8_salt_10 : decode cX8_salt 10 = .ok (.i2l, 1) := by decide +kernel
theorem dX8_salt_11 : decode cX8_salt 11 = .ok (.lconst 0, 1) := by decide +kernel
theorem dX8_salt_12 : decode cX8_salt 12 = .ok (.lconst 1, 1) := by decide +kernel
theorem dX8_salt_13 : decode cX8_salt 13 = .ok (.invokestatic 83, 3) := by decide +kernel
theorem dX8_salt_16 : decode cX8_salt 16 = .ok (.ifCond .ne 6, 3) := by decide +kernel
theorem dX8_salt_19 : decode cX8_salt 19 = .ok (.bipush (-2), 2) := by decide +kernel
theorem dX8_salt_21 : decode cX8_salt 21 = .ok (.ireturn, 1) := by decide +kernel
theorem dX8_salt_22 : decode cX8_salt 22 = .ok (.aload_n 0, 1) := by decide +kernel
theorem dX8_salt_23 : decode cX8_salt 23 = .ok (.iload_n 1, 1) := by decide +kernel
theorem dX8_salt_24 : decode cX8_salt 24 = .ok (.iconst 1, 1) := by decide +kernel
theorem dX8_salt_25 : decode cX8_salt 25 = .ok (.invokevirtual 91, 3) := by decide +kernel
theorem dX8_salt_28 : decode cX8_salt 28 = .ok (.istore_n 3, 1) := by decide +kernel
theorem dX8_salt_29 : decode cX8_salt 29 = .ok (.aload_n 0, 1) := by decide +kernel
theorem dX8_salt_30 : decode cX8_salt 30 = .ok (.getfield 9, 3) := by decide +kernel
theorem dX8_salt_33 : decode cX8_salt 33 = .ok (.bipush 7, 2) := by decide +kernel
theorem dX8_salt_35 : decode cX8_salt 35 = .ok (.iconst 3, 1) := by decide +kernel
theorem dX8_salt_36 : decode cX8_salt 36 = .ok (.iload_n 1, 1) := by decide +kernel
theorem dX8_salt_37 : decode cX8_salt 37 = .ok (.imul, 1) := by decide +kernel
theorem dX8_salt_38 : decode cX8_salt 38 = .ok (.iadd, 1) := by decide +kernel
theorem dX8_salt_39 : decode cX8_salt 39 = .ok (.iconst 1, 1) := by decide +kernel
theorem dX8_salt_40 : decode cX8_salt 40 = .ok (.iadd, 1) := by decide +kernel
theorem dX8_salt_41 : decode cX8_salt 41 = .ok (.iload_n 2, 1) := by decide +kernel
theorem dX8_salt_42 : decode cX8_salt 42 = .ok (.iastore, 1) := by decide +kernel
theorem dX8_salt_43 : decode cX8_salt 43 = .ok (.iload_n 3, 1) := by decide +kernel
theorem dX8_salt_44 : decode cX8_salt 44 = .ok (.ireturn, 1) := by decide +kernel
set_option maxRecDepth 4000 in
theorem kX8_salt (G : GT) {σ : St} {a1 : Int32} {a2 : Int32} : ∀ (r : Int32) (σo : St) , fX8_salt σ a1 a2 = some (r, σo) → MCt G 3 yX8_salt cX8_salt 4 (some .int) [.ref (gad G 62), .int a1, .int a2] σ (some (.int r)) σo := by
  intro r σo hF
  refine met_i (by decide) (Nat.le_of_ble_eq_true rfl) (fun X cx hE => ?_)
  have cx : Cx G X RX8 cX8_salt 4 3 := cx
  unfold fX8_salt at hF
  show WW G X 4 σ [(0, .ref (gad G 62)), (1, .int a1), (2, .int a2)] 0 []
  refine ww_aload_n cx dX8_salt_0 rfl 0 rfl ?_
  refine ww_iload_n cx dX8_salt_1 rfl 1 rfl ?_
  refine ww_i2l cx dX8_salt_2 ?_
  refine ww_V1_pi kv_X8_269 rfl cx sh_62 ⟨Nat.le_of_ble_eq_true rfl, Nat.le_of_ble_eq_true rfl⟩ (Nat.le_of_ble_eq_true rfl) dX8_salt_3 (kX8_isClaim G) hF (fun r1 hF => ?_)
  refine ww_if_eq cx dX8_salt_6 (tgt := 19) rfl hF (fun hF => ?_) (fun hF => ?_)
  · refine ww_bipush cx dX8_salt_19 bc_m2 ?_
    exact ww_ris hE dX8_salt_21 hF
  · refine ww_iload_n cx dX8_salt_9 rfl 2 rfl ?_
    refine ww_i2l cx dX8_salt_10 ?_
    refine ww_lconst cx dX8_salt_11 lc_0 ?_
    refine ww_lconst cx dX8_salt_12 lc_1 ?_
    refine ww_S3_pi kv_X8_83 cx ⟨Nat.le_of_ble_eq_true rfl, Nat.le_of_ble_eq_true rfl⟩ (Nat.le_of_ble_eq_true rfl) dX8_salt_13 (kX8_in G) hF (fun r2 hF => ?_)
    refine ww_if_ne cx dX8_salt_16 (tgt := 22) rfl hF (fun hF => ?_) (fun hF => ?_)
    · refine ww_aload_n cx dX8_salt_22 rfl 0 rfl ?_
      refine ww_iload_n cx dX8_salt_23 rfl 1 rfl ?_
      refine ww_iconst cx dX8_salt_24 ic_1 ?_
      refine ww_V2_pi kv_X8_91 rfl cx sh_62 ⟨Nat.le_of_ble_eq_true rfl, Nat.le_of_ble_eq_true rfl⟩ (Nat.le_of_ble_eq_true rfl) dX8_salt_25 (kX8_ofClaim G) hF (fun r3 hF => ?_)
      refine ww_istore_n (ks := [0, 1, 2, 3]) (lv' := fun v4 => [(3, .int v4), (0, .ref (gad G 62)), (1, .int a1), (2, .int a2)]) cx dX8_salt_28 rfl (by decide) hF (fun _ => rfl) (fun v4 hF => ?_)
      refine ww_aload_n cx dX8_salt_29 rfl 1 rfl ?_
      refine gf_X8_9 cx dX8_salt_30 ?_
      refine ww_bipush cx dX8_salt_33 bc_7 ?_
      refine ww_iconst cx dX8_salt_35 ic_3 ?_
      refine ww_iload_n cx dX8_salt_36 rfl 2 rfl ?_
      refine ww_imul cx dX8_salt_37 ?_
      refine ww_iadd cx dX8_salt_38 ?_
      refine ww_iconst cx dX8_salt_39 ic_1 ?_
      refine ww_iadd cx dX8_salt_40 ?_
      refine ww_iload_n cx dX8_salt_41 rfl 3 rfl ?_
      refine ww_iast (N := 77) cx (sh_63) dX8_salt_42 hF (fun σ5 hF => ?_)
      refine ww_iload_n cx dX8_salt_43 rfl 0 rfl ?_
      exact ww_ris hE dX8_salt_44 hF
    · refine ww_bipush cx dX8_salt_19 bc_m2 ?_
      exact ww_ris hE dX8_salt_21 hF
theorem dX8_saltedBy_0 : decode cX8_saltedBy 0 = .ok (.aload_n 0, 1) := by decide +kernel
theorem dX8_saltedBy_1 : decode cX8_saltedBy 1 = .ok (.invokevirtual 254, 3) := by decide +kernel
theorem dX8_saltedBy_4 : decode cX8_saltedBy 4 = .ok (.istore_n 2, 1) := by decide +kernel
theorem dX8_saltedBy_5 : decode cX8_saltedBy 5 = .ok (.iconst 0, 1) := by decide +kernel
theorem dX8_saltedBy_6 : decode cX8_saltedBy 6 = .ok (.istore_n 3, 1) := by decide +kernel
theorem dX8_saltedBy_7 : decode cX8_saltedBy 7 = .ok (.iload_n 3, 1) := by decide +kernel
theorem dX8_saltedBy_8 : decode cX8_saltedBy 8 = .ok (.aload_n 0, 1) := by decide +kernel
theorem dX8_saltedBy_9 : decode cX8_saltedBy 9 = .ok (.getfield 9, 3) := by decide +kernel
theorem dX8_saltedBy_12 : decode cX8_saltedBy 12 = .ok (.iconst 3, 1) := by decide +kernel
theorem dX8_saltedBy_13 : decode cX8_saltedBy 13 = .ok (.iaload, 1) := by decide +kernel
theorem dX8_saltedBy_14 : decode cX8_saltedBy 14 = .ok (.if_icmp .ge 34, 3) := by decide +kernel
theorem dX8_saltedBy_17 : decode cX8_saltedBy 17 = .ok (.iload_n 2, 1) := by decide +kernel
theorem dX8_saltedBy_18 : decode cX8_saltedBy 18 = .ok (.iload_n 1, 1) := by decide +kernel
theorem dX8_saltedBy_19 : decode cX8_saltedBy 19 = .ok (.iload_n 3, 1) := by decide +kernel
theorem dX8_saltedBy_20 : decode cX8_saltedBy 20 = .ok (.invokestatic 168, 3) := by decide +kernel
theorem dX8_saltedBy_23 : decode cX8_saltedBy 23 = .ok (.iconst 1, 1) := by decide +kernel
theorem dX8_saltedBy_24 : decode cX8_saltedBy 24 = .ok (.if_icmp .ne 12, 3) := by decide +kernel
theorem dX8_saltedBy_27 : decode cX8_saltedBy 27 = .ok (.aload_n 0, 1) := by decide +kernel
theorem dX8_saltedBy_28 : decode cX8_saltedBy 28 = .ok (.iload_n 3, 1) := by decide +kernel
theorem dX8_saltedBy_29 : decode cX8_saltedBy 29 = .ok (.iconst 2, 1) := by decide +kernel
theorem dX8_saltedBy_30 : decode cX8_saltedBy 30 = .ok (.invokevirtual 91, 3) := by decide +kernel
theorem dX8_saltedBy_33 : decode cX8_saltedBy 33 = .ok (.goto 7, 3) := by decide +kernel
theorem dX8_saltedBy_36 : decode cX8_saltedBy 36 = .ok (.aload_n 0, 1) := by decide +kernel
theorem dX8_saltedBy_37 : decode cX8_saltedBy 37 = .ok (.invokevirtual 254, 3) := by decide +kernel
theorem dX8_saltedBy_40 : decode cX8_saltedBy 40 = .ok (.iand, 1) := by decide +kernel
theorem dX8_saltedBy_41 : decode cX8_saltedBy 41 = .ok (.istore_n 2, 1) := by decide +kernel
theorem dX8_saltedBy_42 : decode cX8_saltedBy 42 = .ok (.iinc 3 1, 3) := by decide +kernel
theorem dX8_saltedBy_45 : decode cX8_saltedBy 45 = .ok (.goto (-38), 3) := by decide +kernel
theorem dX8_saltedBy_48 : decode cX8_saltedBy 48 = .ok (.iload_n 2, 1) := by decide +kernel
theorem dX8_saltedBy_49 : decode cX8_saltedBy 49 = .ok (.ireturn, 1) := by decide +kernel
set_option maxRecDepth 4000 in
theorem kX8_saltedBy (G : GT) {σ : St} {a1 : Int32} : ∀ (r : Int32) , fX8_saltedBy σ a1 = some r → MCt G 3 yX8_saltedBy cX8_saltedBy 4 (some .int) [.ref (gad G 62), .int a1] σ (some (.int r)) σ := by
  intro r hF
  refine met_i (by decide) (Nat.le_of_ble_eq_true rfl) (fun X cx hE => ?_)
  have cx : Cx G X RX8 cX8_saltedBy 4 3 := cx
  have hb40 : ∀ (kr7 : Int32 → Int32 → Int32 → Option (Int32)), (∀ (x1 : Int32) (x2 : Int32) (x3 : Int32) , kr7 x1 x2 x3 = some r → WW G X 4 σ [(0, .ref (gad G 62)), (1, .int x1), (2, .int x2), (3, .int x3)] 7 []) → ∀ (x1 : Int32) (x3 : Int32) (y0 : Int32) (y1 : Int32) , fX8_saltedBy_b40 σ kr7 x1 x3 y0 y1 = some r → WW G X 4 σ [(0, .ref (gad G 62)), (1, .int x1), (3, .int x3)] 40 [.int y1, .int y0] := by
    intro kr7 hk7
    intro x1 x3 y0 y1 hF
    unfold fX8_saltedBy_b40 at hF
    refine ww_iand cx dX8_saltedBy_40 ?_
    refine ww_istore_n (ks := [0, 1, 2, 3]) (lv' := fun v1 => [(2, .int v1), (0, .ref (gad G 62)), (1, .int x1), (3, .int x3)]) cx dX8_saltedBy_41 rfl (by decide) hF (fun _ => rfl) (fun v1 hF => ?_)
    refine ww_iinc (j := 3) (ks := [0, 1, 2, 3]) (lv' := fun v2 => [(3, .int v2), (2, .int v1), (0, .ref (gad G 62)), (1, .int x1)]) cx dX8_saltedBy_42 (by decide) rfl ic_1 hF (fun _ => rfl) (fun v2 hF => ?_)
    refine ww_goto cx dX8_saltedBy_45 (tgt := 7) rfl ?_
    exact ww_sub [2, 3, 1, 0] rfl (hk7 _ _ _ hF)
  have hl7 : ∀ n : Nat, ∀ (x1 : Int32) (x2 : Int32) (x3 : Int32) , fX8_saltedBy_l7 σ n x1 x2 x3 = some r → WW G X 4 σ [(0, .ref (gad G 62)), (1, .int x1), (2, .int x2), (3, .int x3)] 7 [] := by
    intro n
    induction n with
    | zero =>
      intro x1 x2 x3 hF
      exact absurd hF (by intro z; cases z)
    | succ n ih =>
      intro x1 x2 x3 hF
      have hk7 := ih
      have hF : fX8_saltedBy_B7 σ (fX8_saltedBy_l7 σ n) x1 x2 x3 = some r := hF
      unfold fX8_saltedBy_B7 at hF
      refine ww_iload_n cx dX8_saltedBy_7 rfl 3 rfl ?_
      refine ww_aload_n cx dX8_saltedBy_8 rfl 0 rfl ?_
      refine gf_X8_9 cx dX8_saltedBy_9 ?_
      refine ww_iconst cx dX8_saltedBy_12 ic_3 ?_
      refine ww_iald (N := 77) cx (sh_63) dX8_saltedBy_13 hF (fun hF => ?_)
      refine ww_icmp_ge cx dX8_saltedBy_14 (tgt := 48) rfl hF (fun hF => ?_) (fun hF => ?_)
      · refine ww_iload_n cx dX8_saltedBy_48 rfl 2 rfl ?_
        exact ww_rip hE dX8_saltedBy_49 hF
      · refine ww_iload_n cx dX8_saltedBy_17 rfl 2 rfl ?_
        refine ww_iload_n cx dX8_saltedBy_18 rfl 1 rfl ?_
        refine ww_iload_n cx dX8_saltedBy_19 rfl 3 rfl ?_
        refine ww_S2_pi kv_X8_168 cx ⟨Nat.le_of_ble_eq_true rfl, Nat.le_of_ble_eq_true rfl⟩ (Nat.le_of_ble_eq_true rfl) dX8_saltedBy_20 (kX8_bit G) hF (fun r3 hF => ?_)
        refine ww_iconst cx dX8_saltedBy_23 ic_1 ?_
        refine ww_icmp_ne cx dX8_saltedBy_24 (tgt := 36) rfl hF (fun hF => ?_) (fun hF => ?_)
        · refine ww_aload_n cx dX8_saltedBy_36 rfl 0 rfl ?_
          refine ww_V0_pi kv_X8_254 rfl cx sh_62 ⟨Nat.le_of_ble_eq_true rfl, Nat.le_of_ble_eq_true rfl⟩ (Nat.le_of_ble_eq_true rfl) dX8_saltedBy_37 (kX8_allWorlds G) hF (fun r4 hF => ?_)
          exact ww_sub [0, 1, 3] rfl (hb40 _ hk7 _ _ _ _ hF)
        · refine ww_aload_n cx dX8_saltedBy_27 rfl 0 rfl ?_
          refine ww_iload_n cx dX8_saltedBy_28 rfl 3 rfl ?_
          refine ww_iconst cx dX8_saltedBy_29 ic_2 ?_
          refine ww_V2_pi kv_X8_91 rfl cx sh_62 ⟨Nat.le_of_ble_eq_true rfl, Nat.le_of_ble_eq_true rfl⟩ (Nat.le_of_ble_eq_true rfl) dX8_saltedBy_30 (kX8_ofClaim G) hF (fun r5 hF => ?_)
          refine ww_goto cx dX8_saltedBy_33 (tgt := 40) rfl ?_
          exact ww_sub [0, 1, 3] rfl (hb40 _ hk7 _ _ _ _ hF)
  unfold fX8_saltedBy at hF
  show WW G X 4 σ [(0, .ref (gad G 62)), (1, .int a1)] 0 []
  refine ww_aload_n cx dX8_saltedBy_0 rfl 0 rfl ?_
  refine ww_V0_pi kv_X8_254 rfl cx sh_62 ⟨Nat.le_of_ble_eq_true rfl, Nat.le_of_ble_eq_true rfl⟩ (Nat.le_of_ble_eq_true rfl) dX8_saltedBy_1 (kX8_allWorlds G) hF (fun r6 hF => ?_)
  refine ww_istore_n (ks := [0, 1, 2]) (lv' := fun v7 => [(2, .int v7), (0, .ref (gad G 62)), (1, .int a1)]) cx dX8_saltedBy_4 rfl (by decide) hF (fun _ => rfl) (fun v7 hF => ?_)
  refine ww_iconst cx dX8_saltedBy_5 ic_0 ?_
  refine ww_istore_n (ks := [0, 1, 2, 3]) (lv' := fun v8 => [(3, .int v8), (2, .int v7), (0, .ref (gad G 62)), (1, .int a1)]) cx dX8_saltedBy_6 rfl (by decide) hF (fun _ => rfl) (fun v8 hF => ?_)
  exact ww_sub [2, 3, 1, 0] rfl (hl7 FU _ _ _ hF)
theorem dX8_strengthOf_0 : decode cX8_strengthOf 0 = .ok (.iconst 0, 1) := by decide +kernel
theorem dX8_strengthOf_1 : decode cX8_strengthOf 1 = .ok (.istore_n 2, 1) := by decide +kernel
theorem dX8_strengthOf_2 : decode cX8_strengthOf 2 = .ok (.iconst 0, 1) := by decide +kernel
theorem dX8_strengthOf_3 : decode cX8_strengthOf 3 = .ok (.istore_n 3, 1) := by decide +kernel
theorem dX8_strengthOf_4 : decode cX8_strengthOf 4 = .ok (.iload_n 3, 1) := by decide +kernel
theorem dX8_strengthOf_5 : decode cX8_strengthOf 5 = .ok (.aload_n 0, 1) := by decide +kernel
theorem dX8_strengthOf_6 : decode cX8_strengthOf 6 = .ok (.getfield 9, 3) := by decide +kernel
theorem dX8_strengthOf_9 : decode cX8_strengthOf 9 = .ok (.iconst 5, 1) := by decide +kernel
theorem dX8_strengthOf_10 : decode cX8_strengthOf 10 = .ok (.iaload, 1) := by decide +kernel
theorem dX8_strengthOf_11 : decode cX8_strengthOf 11 = .ok (.if_icmp .ge 30, 3) := by decide +kernel
theorem dX8_strengthOf_14 : decode cX8_strengthOf 14 = .ok (.iload_n 2, 1) := by decide +kernel
theorem dX8_strengthOf_15 : decode cX8_strengthOf 15 = .ok (.iload_n 1, 1) := by decide +kernel
theorem dX8_strengthOf_16 : decode cX8_strengthOf 16 = .ok (.iload_n 3, 1) := by decide +kernel
theorem dX8_strengthOf_17 : decode cX8_strengthOf 17 = .ok (.invokestatic 168, 3) := by decide +kernel
theorem dX8_strengthOf_20 : decode cX8_strengthOf 20 = .ok (.iconst 1, 1) := by decide +kernel
theorem dX8_strengthOf_21 : decode cX8_strengthOf 21 = .ok (.if_icmp .ne 11, 3) := by decide +kernel
theorem dX8_strengthOf_24 : decode cX8_strengthOf 24 = .ok (.aload_n 0, 1) := by decide +kernel
theorem dX8_strengthOf_25 : decode cX8_strengthOf 25 = .ok (.iload_n 3, 1) := by decide +kernel
theorem dX8_strengthOf_26 : decode cX8_strengthOf 26 = .ok (.invokevirtual 288, 3) := by decide +kernel
theorem dX8_strengthOf_29 : decode cX8_strengthOf 29 = .ok (.goto 4, 3) := by decide +kernel
theorem dX8_strengthOf_32 : decode cX8_strengthOf 32 = .ok (.iconst 0, 1) := by decide +kernel
theorem dX8_strengthOf_33 : decode cX8_strengthOf 33 = .ok (.iadd, 1) := by decide +kernel
theorem dX8_strengthOf_34 : decode cX8_strengthOf 34 = .ok (.istore_n 2, 1) := by decide +kernel
theorem dX8_strengthOf_35 : decode cX8_strengthOf 35 = .ok (.iinc 3 1, 3) := by decide +kernel
theorem dX8_strengthOf_38 : decode cX8_strengthOf 38 = .ok (.goto (-34), 3) := by decide +kernel
theorem dX8_strengthOf_41 : decode cX8_strengthOf 41 = .ok (.iload_n 2, 1) := by decide +kernel
theorem dX8_strengthOf_42 : decode cX8_strengthOf 42 = .ok (.ireturn, 1) := by decide +kernel
set_option maxRecDepth 4000 in
theorem kX8_strengthOf (G : GT) {σ : St} {a1 : Int32} : ∀ (r : Int32) , fX8_strengthOf σ a1 = some r → MCt G 3 yX8_strengthOf cX8_strengthOf 4 (some .int) [.ref (gad G 62), .int a1] σ (some (.int r)) σ := by
  intro r hF
  refine met_i (by decide) (Nat.le_of_ble_eq_true rfl) (fun X cx hE => ?_)
  have cx : Cx G X RX8 cX8_strengthOf 4 3 := cx
  have hb33 : ∀ (kr4 : Int32 → Int32 → Int32 → Option (Int32)), (∀ (x1 : Int32) (x2 : Int32) (x3 : Int32) , kr4 x1 x2 x3 = some r → WW G X 4 σ [(0, .ref (gad G 62)), (1, .int x1), (2, .int x2), (3, .int x3)] 4 []) → ∀ (x1 : Int32) (x3 : Int32) (y0 : Int32) (y1 : Int32) , fX8_strengthOf_b33 σ kr4 x1 x3 y0 y1 = some r → WW G X 4 σ [(0, .ref (gad G 62)), (1, .int x1), (3, .int x3)] 33 [.int y1, .int y0] := by
    intro kr4 hk4
    intro x1 x3 y0 y1 hF
    unfold fX8_strengthOf_b33 at hF
    refine ww_iadd cx dX8_strengthOf_33 ?_
    refine ww_istore_n (ks := [0, 1, 2, 3]) (lv' := fun v1 => [(2, .int v1), (0, .ref (gad G 62)), (1, .int x1), (3, .int x3)]) cx dX8_strengthOf_34 rfl (by decide) hF (fun _ => rfl) (fun v1 hF => ?_)
    refine ww_iinc (j := 3) (ks := [0, 1, 2, 3]) (lv' := fun v2 => [(3, .int v2), (2, .int v1), (0, .ref (gad G 62)), (1, .int x1)]) cx dX8_strengthOf_35 (by decide) rfl ic_1 hF (fun _ => rfl) (fun v2 hF => ?_)
    refine ww_goto cx dX8_strengthOf_38 (tgt := 4) rfl ?_
    exact ww_sub [2, 3, 1, 0] rfl (hk4 _ _ _ hF)
  have hl4 : ∀ n : Nat, ∀ (x1 : Int32) (x2 : Int32) (x3 : Int32) , fX8_strengthOf_l4 σ n x1 x2 x3 = some r → WW G X 4 σ [(0, .ref (gad G 62)), (1, .int x1), (2, .int x2), (3, .int x3)] 4 [] := by
    intro n
    induction n with
    | zero =>
      intro x1 x2 x3 hF
      exact absurd hF (by intro z; cases z)
    | succ n ih =>
      intro x1 x2 x3 hF
      have hk4 := ih
      have hF : fX8_strengthOf_B4 σ (fX8_strengthOf_l4 σ n) x1 x2 x3 = some r := hF
      unfold fX8_strengthOf_B4 at hF
      refine ww_iload_n cx dX8_strengthOf_4 rfl 3 rfl ?_
      refine ww_aload_n cx dX8_strengthOf_5 rfl 0 rfl ?_
      refine gf_X8_9 cx dX8_strengthOf_6 ?_
      refine ww_iconst cx dX8_strengthOf_9 ic_5 ?_
      refine ww_iald (N := 77) cx (sh_63) dX8_strengthOf_10 hF (fun hF => ?_)
      refine ww_icmp_ge cx dX8_strengthOf_11 (tgt := 41) rfl hF (fun hF => ?_) (fun hF => ?_)
      · refine ww_iload_n cx dX8_strengthOf_41 rfl 2 rfl ?_
        exact ww_rip hE dX8_strengthOf_42 hF
      · refine ww_iload_n cx dX8_strengthOf_14 rfl 2 rfl ?_
        refine ww_iload_n cx dX8_strengthOf_15 rfl 1 rfl ?_
        refine ww_iload_n cx dX8_strengthOf_16 rfl 3 rfl ?_
        refine ww_S2_pi kv_X8_168 cx ⟨Nat.le_of_ble_eq_true rfl, Nat.le_of_ble_eq_true rfl⟩ (Nat.le_of_ble_eq_true rfl) dX8_strengthOf_17 (kX8_bit G) hF (fun r3 hF => ?_)
        refine ww_iconst cx dX8_strengthOf_20 ic_1 ?_
        refine ww_icmp_ne cx dX8_strengthOf_21 (tgt := 32) rfl hF (fun hF => ?_) (fun hF => ?_)
        · refine ww_iconst cx dX8_strengthOf_32 ic_0 ?_
          exact ww_sub [0, 1, 3] rfl (hb33 _ hk4 _ _ _ _ hF)
        · refine ww_aload_n cx dX8_strengthOf_24 rfl 0 rfl ?_
          refine ww_iload_n cx dX8_strengthOf_25 rfl 3 rfl ?_
          refine ww_V1_pi kv_X8_288 rfl cx sh_62 ⟨Nat.le_of_ble_eq_true rfl, Nat.le_of_ble_eq_true rfl⟩ (Nat.le_of_ble_eq_true rfl) dX8_strengthOf_26 (kX8_canDo G) hF (fun r4 hF => ?_)
          refine ww_goto cx dX8_strengthOf_29 (tgt := 33) rfl ?_
          exact ww_sub [0, 1, 3] rfl (hb33 _ hk4 _ _ _ _ hF)
  unfold fX8_strengthOf at hF
  show WW G X 4 σ [(0, .ref (gad G 62)), (1, .int a1)] 0 []
  refine ww_iconst cx dX8_strengthOf_0 ic_0 ?_
  refine ww_istore_n (ks := [0, 1, 2]) (lv' := fun v5 => [(2, .int v5), (0, .ref (gad G 62)), (1, .int a1)]) cx dX8_strengthOf_1 rfl (by decide) hF (fun _ => rfl) (fun v5 hF => ?_)
  refine ww_iconst cx dX8_strengthOf_2 ic_0 ?_
  refine ww_istore_n (ks := [0, 1, 2, 3]) (lv' := fun v6 => [(3, .int v6), (2, .int v5), (0, .ref (gad G 62)), (1, .int a1)]) cx dX8_strengthOf_3 rfl (by decide) hF (fun _ => rfl) (fun v6 hF => ?_)
  exact ww_sub [2, 3, 1, 0] rfl (hl4 FU _ _ _ hF)
theorem dX8_teach_0 : decode cX8_teach 0 = .ok (.aload_n 0, 1) := by decide +kernel
theorem dX8_teach_1 : decode cX8_teach 1 = .ok (.iload_n 1, 1) := by decide +kernel
theorem dX8_teach_2 : decode cX8_teach 2 = .ok (.i2l, 1) := by decide +kernel
theorem dX8_teach_3 : decode cX8_teach 3 = .ok (.invokevirtual 285, 3) := by decide +kernel
theorem dX8_teach_6 : decode cX8_teach 6 = .ok (.ifCond .eq 22, 3) := by decide +kernel
theorem dX8_teach_9 : decode cX8_teach 9 = .ok (.aload_n 0, 1) := by decide +kernel
theorem dX8_teach_10 : decode cX8_teach 10 = .ok (.iload_n 2, 1) := by decide +kernel
theorem dX8_teach_11 : decode cX8_teach 11 = .ok (.i2l, 1) := by decide +kernel
theorem dX8_teach_12 : decode cX8_teach 12 = .ok (.invokevirtual 276, 3) := by decide +kernel
theorem dX8_teach_15 : decode cX8_teach 15 = .ok (.ifCond .eq 13, 3) := by decide +kernel
theorem dX8_teach_18 : decode cX8_teach 18 = .ok (.iload_n 3, 1) := by decide +kernel
theorem dX8_teach_19 : decode cX8_teach 19 = .ok (.i2l, 1) := by decide +kernel
theorem dX8_teach_20 : decode cX8_teach 20 = .ok (.lconst 0, 1) := by decide +kernel
theorem dX8_teach_21 : decode cX8_teach 21 = .ok (.lconst 1, 1) := by decide +kernel
theorem dX8_teach_22 : decode cX8_teach 22 = .ok (.invokestatic 83, 3) := by decide +kernel
theorem dX8_teach_25 : decode cX8_teach 25 = .ok (.ifCond .ne 6, 3) := by decide +kernel
theorem dX8_teach_28 : decode cX8_teach 28 = .ok (.bipush (-2), 2) := by decide +kernel
theorem dX8_teach_30 : decode cX8_teach 30 = .ok (.ireturn, 1) := by decide +kernel
theorem dX8_teach_31 : decode cX8_teach 31 = .ok (.bipush 67, 2) := by decide +kernel
theorem dX8_teach_33 : decode cX8_teach 33 = .ok (.iconst 2, 1) := by decide +kernel
theorem dX8_teach_34 : decode cX8_teach 34 = .ok (.iload_n 1, 1) := by decide +kernel
theorem dX8_teach_35 : decode cX8_teach 35 = .ok (.imul, 1) := by decide +kernel
theorem dX8_teach_36 : decode cX8_teach 36 = .ok (.iadd, 1) := by decide +kernel
theorem dX8_teach_37 : decode cX8_teach 37 = .ok (.iconst 1, 1) := by decide +kernel
theorem dX8_teach_38 : decode cX8_teach 38 = .ok (.iadd, 1) := by decide +kernel
theorem dX8_teach_39 : decode cX8_teach 39 = .ok (.istore 4, 2) := by decide +kernel
theorem dX8_teach_41 : decode cX8_teach 41 = .ok (.aload_n 0, 1) := by decide +kernel
theorem dX8_teach_42 : decode cX8_teach 42 = .ok (.getfield 9, 3) := by decide +kernel
theorem dX8_teach_45 : decode cX8_teach 45 = .ok (.iload 4, 2) := by decide +kernel
theorem dX8_teach_47 : decode cX8_teach 47 = .ok (.iaload, 1) := by decide +kernel
theorem dX8_teach_48 : decode cX8_teach 48 = .ok (.iload_n 2, 1) := by decide +kernel
theorem dX8_teach_49 : decode cX8_teach 49 = .ok (.invokestatic 168, 3) := by decide +kernel
theorem dX8_teach_52 : decode cX8_teach 52 = .ok (.istore 5, 2) := by decide +kernel
theorem dX8_teach_54 : decode cX8_teach 54 = .ok (.aload_n 0, 1) := by decide +kernel
theorem dX8_teach_55 : decode cX8_teach 55 = .ok (.getfield 9, 3) := by decide +kernel
theorem dX8_teach_58 : decode cX8_teach 58 = .ok (.iload 4, 2) := by decide +kernel
theorem dX8_teach_60 : decode cX8_teach 60 = .ok (.aload_n 0, 1) := by decide +kernel
theorem dX8_teach_61 : decode cX8_teach 61 = .ok (.getfield 9, 3) := by decide +kernel
theorem dX8_teach_64 : decode cX8_teach 64 = .ok (.iload 4, 2) := by decide +kernel
theorem dX8_teach_66 : decode cX8_teach 66 = .ok (.iaload, 1) := by decide +kernel
theorem dX8_teach_67 : decode cX8_teach 67 = .ok (.iconst 1, 1) := by decide +kernel
theorem dX8_teach_68 : decode cX8_teach 68 = .ok (.iload_n 2, 1) := by decide +kernel
theorem dX8_teach_69 : decode cX8_teach 69 = .ok (.ishl, 1) := by decide +kernel
theorem dX8_teach_70 : decode cX8_teach 70 = .ok (.iconst (-1), 1) := by decide +kernel
theorem dX8_teach_71 : decode cX8_teach 71 = .ok (.ixor, 1) := by decide +kernel
theorem dX8_teach_72 : decode cX8_teach 72 = .ok (.iand, 1) := by decide +kernel
theorem dX8_teach_73 : decode cX8_teach 73 = .ok (.iload_n 3, 1) := by decide +kernel
theorem dX8_teach_74 : decode cX8_teach 74 = .ok (.iload_n 2, 1) := by decide +kernel
theorem dX8_teach_75 : decode cX8_teach 75 = .ok (.ishl, 1) := by decide +kernel
theorem dX8_teach_76 : decode cX8_teach 76 = .ok (.ior, 1) := by decide +kernel
theorem dX8_teach_77 : decode cX8_teach 77 = .ok (.iastore, 1) := by decide +kernel
theorem dX8_teach_78 : decode cX8_teach 78 = .ok (.iload 5, 2) := by decide +kernel
theorem dX8_teach_80 : decode cX8_teach 80 = .ok (.ireturn, 1) := by decide +kernel
set_option maxRecDepth 4000 in
theorem kX8_teach (G : GT) {σ : St} {a1 : Int32} {a2 : Int32} {a3 : Int32} : ∀ (r : Int32) (σo : St) , fX8_teach σ a1 a2 a3 = some (r, σo) → MCt G 3 yX8_teach cX8_teach 6 (some .int) [.ref (gad G 62), .int a1, .int a2, .int a3] σ (some (.int r)) σo := by
  intro r σo hF
  refine met_i (by decide) (Nat.le_of_ble_eq_true rfl) (fun X cx hE => ?_)
  have cx : Cx G X RX8 cX8_teach 6 3 := cx
  unfold fX8_teach at hF
  show WW G X 6 σ [(0, .ref (gad G 62)), (1, .int a1), (2, .int a2), (3, .int a3)] 0 []
  refine ww_aload_n cx dX8_teach_0 rfl 0 rfl ?_
  refine ww_iload_n cx dX8_teach_1 rfl 1 rfl ?_
  refine ww_i2l cx dX8_teach_2 ?_
  refine ww_V1_pi kv_X8_285 rfl cx sh_62 ⟨Nat.le_of_ble_eq_true rfl, Nat.le_of_ble_eq_true rfl⟩ (Nat.le_of_ble_eq_true rfl) dX8_teach_3 (kX8_isGuest G) hF (fun r1 hF => ?_)
  refine ww_if_eq cx dX8_teach_6 (tgt := 28) rfl hF (fun hF => ?_) (fun hF => ?_)
  · refine ww_bipush cx dX8_teach_28 bc_m2 ?_
    exact ww_ris hE dX8_teach_30 hF
  · refine ww_aload_n cx dX8_teach_9 rfl 0 rfl ?_
    refine ww_iload_n cx dX8_teach_10 rfl 2 rfl ?_
    refine ww_i2l cx dX8_teach_11 ?_
    refine ww_V1_pi kv_X8_276 rfl cx sh_62 ⟨Nat.le_of_ble_eq_true rfl, Nat.le_of_ble_eq_true rfl⟩ (Nat.le_of_ble_eq_true rfl) dX8_teach_12 (kX8_isStep G) hF (fun r2 hF => ?_)
    refine ww_if_eq cx dX8_teach_15 (tgt := 28) rfl hF (fun hF => ?_) (fun hF => ?_)
    · refine ww_bipush cx dX8_teach_28 bc_m2 ?_
      exact ww_ris hE dX8_teach_30 hF
    · refine ww_iload_n cx dX8_teach_18 rfl 3 rfl ?_
      refine ww_i2l cx dX8_teach_19 ?_
      refine ww_lconst cx dX8_teach_20 lc_0 ?_
      refine ww_lconst cx dX8_teach_21 lc_1 ?_
      refine ww_S3_pi kv_X8_83 cx ⟨Nat.le_of_ble_eq_true rfl, Nat.le_of_ble_eq_true rfl⟩ (Nat.le_of_ble_eq_true rfl) dX8_teach_22 (kX8_in G) hF (fun r3 hF => ?_)
      refine ww_if_ne cx dX8_teach_25 (tgt := 31) rfl hF (fun hF => ?_) (fun hF => ?_)
      · refine ww_bipush cx dX8_teach_31 bc_67 ?_
        refine ww_iconst cx dX8_teach_33 ic_2 ?_
        refine ww_iload_n cx dX8_teach_34 rfl 1 rfl ?_
        refine ww_imul cx dX8_teach_35 ?_
        refine ww_iadd cx dX8_teach_36 ?_
        refine ww_iconst cx dX8_teach_37 ic_1 ?_
        refine ww_iadd cx dX8_teach_38 ?_
        refine ww_istore (ks := [0, 1, 3, 4]) (lv' := fun v4 => [(4, .int v4), (0, .ref (gad G 62)), (2, .int a2), (3, .int a3)]) cx dX8_teach_39 (by decide) hF (fun _ => rfl) (fun v4 hF => ?_)
        refine ww_aload_n cx dX8_teach_41 rfl 1 rfl ?_
        refine gf_X8_9 cx dX8_teach_42 ?_
        refine ww_iload cx dX8_teach_45 0 rfl ?_
        refine ww_iald (N := 77) cx (sh_63) dX8_teach_47 hF (fun hF => ?_)
        refine ww_iload_n cx dX8_teach_48 rfl 2 rfl ?_
        refine ww_S2_pi kv_X8_168 cx ⟨Nat.le_of_ble_eq_true rfl, Nat.le_of_ble_eq_true rfl⟩ (Nat.le_of_ble_eq_true rfl) dX8_teach_49 (kX8_bit G) hF (fun r5 hF => ?_)
        refine ww_istore (ks := [0, 1, 2, 3, 4]) (lv' := fun v6 => [(5, .int v6), (4, .int v4), (0, .ref (gad G 62)), (2, .int a2), (3, .int a3)]) cx dX8_teach_52 (by decide) hF (fun _ => rfl) (fun v6 hF => ?_)
        refine ww_aload_n cx dX8_teach_54 rfl 2 rfl ?_
        refine gf_X8_9 cx dX8_teach_55 ?_
        refine ww_iload cx dX8_teach_58 1 rfl ?_
        refine ww_aload_n cx dX8_teach_60 rfl 2 rfl ?_
        refine gf_X8_9 cx dX8_teach_61 ?_
        refine ww_iload cx dX8_teach_64 1 rfl ?_
        refine ww_iald (N := 77) cx (sh_63) dX8_teach_66 hF (fun hF => ?_)
        refine ww_iconst cx dX8_teach_67 ic_1 ?_
        refine ww_iload_n cx dX8_teach_68 rfl 3 rfl ?_
        refine ww_ishl cx dX8_teach_69 ?_
        refine ww_iconst cx dX8_teach_70 ic_m1 ?_
        refine ww_ixor cx dX8_teach_71 ?_
        refine ww_iand cx dX8_teach_72 ?_
        refine ww_iload_n cx dX8_teach_73 rfl 4 rfl ?_
        refine ww_iload_n cx dX8_teach_74 rfl 3 rfl ?_
        refine ww_ishl cx dX8_teach_75 ?_
        refine ww_ior cx dX8_teach_76 ?_
        refine ww_iast (N := 77) cx (sh_63) dX8_teach_77 hF (fun σ7 hF => ?_)
        refine ww_iload cx dX8_teach_78 0 rfl ?_
        exact ww_ris hE dX8_teach_80 hF
      · refine ww_bipush cx dX8_teach_28 bc_m2 ?_
        exact ww_ris hE dX8_teach_30 hF
theorem dX8_write_0 : decode cX8_write 0 = .ok (.iload_n 1, 1) := by decide +kernel
theorem dX8_write_1 : decode cX8_write 1 = .ok (.invokestatic 316, 3) := by decide +kernel
theorem dX8_write_4 : decode cX8_write 4 = .ok (.ifCond .ne 6, 3) := by decide +kernel
theorem dX8_write_7 : decode cX8_write 7 = .ok (.bipush (-2), 2) := by decide +kernel
theorem dX8_write_9 : decode cX8_write 9 = .ok (.ireturn, 1) := by decide +kernel
theorem dX8_write_10 : decode cX8_write 10 = .ok (.aload_n 0, 1) := by decide +kernel
theorem dX8_write_11 : decode cX8_write 11 = .ok (.getfield 61, 3) := by decide +kernel
theorem dX8_write_14 : decode cX8_write 14 = .ok (.iload_n 1, 1) := by decide +kernel
theorem dX8_write_15 : decode cX8_write 15 = .ok (.iaload, 1) := by decide +kernel
theorem dX8_write_16 : decode cX8_write 16 = .ok (.iconst (-1), 1) := by decide +kernel
theorem dX8_write_17 : decode cX8_write 17 = .ok (.if_icmp .ne 6, 3) := by decide +kernel
theorem dX8_write_20 : decode cX8_write 20 = .ok (.bipush (-6), 2) := by decide +kernel
theorem dX8_write_22 : decode cX8_write 22 = .ok (.ireturn, 1) := by decide +kernel
theorem dX8_write_23 : decode cX8_write 23 = .ok (.iload_n 2, 1) := by decide +kernel
theorem dX8_write_24 : decode cX8_write 24 = .ok (.i2l, 1) := by decide +kernel
theorem dX8_write_25 : decode cX8_write 25 = .ok (.lconst 0, 1) := by decide +kernel
theorem dX8_write_26 : decode cX8_write 26 = .ok (.aload_n 0, 1) := by decide +kernel
theorem dX8_write_27 : decode cX8_write 27 = .ok (.getfield 61, 3) := by decide +kernel
theorem dX8_write_30 : decode cX8_write 30 = .ok (.iload_n 1, 1) := by decide +kernel
theorem dX8_write_31 : decode cX8_write 31 = .ok (.iaload, 1) := by decide +kernel
theorem dX8_write_32 : decode cX8_write 32 = .ok (.iconst 1, 1) := by decide +kernel
theorem dX8_write_33 : decode cX8_write 33 = .ok (.isub, 1) := by decide +kernel
theorem dX8_write_34 : decode cX8_write 34 = .ok (.i2l, 1) := by decide +kernel
theorem dX8_write_35 : decode cX8_write 35 = .ok (.invokestatic 83, 3) := by decide +kernel
theorem dX8_write_38 : decode cX8_write 38 = .ok (.ifCond .ne 6, 3) := by decide +kernel
theorem dX8_write_41 : decode cX8_write 41 = .ok (.bipush (-7), 2) := by decide +kernel
theorem dX8_write_43 : decode cX8_write 43 = .ok (.ireturn, 1) := by decide +kernel
theorem dX8_write_44 : decode cX8_write 44 = .ok (.aload_n 0, 1) := by decide +kernel
theorem dX8_write_45 : decode cX8_write 45 = .ok (.getfield 67, 3) := by decide +kernel
theorem dX8_write_48 : decode cX8_write 48 = .ok (.bipush 60, 2) := by decide +kernel
theorem dX8_write_50 : decode cX8_write 50 = .ok (.iload_n 1, 1) := by decide +kernel
theorem dX8_write_51 : decode cX8_write 51 = .ok (.imul, 1) := by decide +kernel
theorem dX8_write_52 : decode cX8_write 52 = .ok (.iload_n 2, 1) := by decide +kernel
theorem dX8_write_53 : decode cX8_write 53 = .ok (.iadd, 1) := by decide +kernel
theorem dX8_write_54 : decode cX8_write 54 = .ok (.lload_n 3, 1) := by decide +kernel
theorem dX8_write_55 : decode cX8_write 55 = .ok (.aload_n 0, 1) := by decide +kernel
theorem dX8_write_56 : decode cX8_write 56 = .ok (.getfield 64, 3) := by decide +kernel
theorem dX8_write_59 : decode cX8_write 59 = .ok (.iload_n 1, 1) := by decide +kernel
theorem dX8_write_60 : decode cX8_write 60 = .ok (.iaload, 1) := by decide +kernel
theorem dX8_write_61 : decode cX8_write 61 = .ok (.invokestatic 472, 3) := by decide +kernel
theorem dX8_write_64 : decode cX8_write 64 = .ok (.lastore, 1) := by decide +kernel
theorem dX8_write_65 : decode cX8_write 65 = .ok (.iconst 0, 1) := by decide +kernel
theorem dX8_write_66 : decode cX8_write 66 = .ok (.ireturn, 1) := by decide +kernel
set_option maxRecDepth 4000 in
theorem kX8_write (G : GT) {σ : St} {a1 : Int32} {a2 : Int32} {a3 : Int64} : ∀ (r : Int32) (σo : St) , fX8_write σ a1 a2 a3 = some (r, σo) → MCt G 3 yX8_write cX8_write 5 (some .int) [.ref (gad G 62), .int a1, .int a2, .long a3] σ (some (.int r)) σo := by
  intro r σo hF
  refine met_i (by decide) (Nat.le_of_ble_eq_true rfl) (fun X cx hE => ?_)
  have cx : Cx G X RX8 cX8_write 5 3 := cx
  unfold fX8_write at hF
  show WW G X 5 σ [(0, .ref (gad G 62)), (1, .int a1), (2, .int a2), (3, .long a3)] 0 []
  refine ww_iload_n cx dX8_write_0 rfl 1 rfl ?_
  refine ww_S1_pi kv_X8_316 cx ⟨Nat.le_of_ble_eq_true rfl, Nat.le_of_ble_eq_true rfl⟩ (Nat.le_of_ble_eq_true rfl) dX8_write_1 (kX8_isSlot G) hF (fun r1 hF => ?_)
  refine ww_if_ne cx dX8_write_4 (tgt := 10) rfl hF (fun hF => ?_) (fun hF => ?_)
  · refine ww_aload_n cx dX8_write_10 rfl 0 rfl ?_
    refine gf_X8_61 cx dX8_write_11 ?_
    refine ww_iload_n cx dX8_write_14 rfl 1 rfl ?_
    refine ww_iald (N := 4) cx (sh_78) dX8_write_15 hF (fun hF => ?_)
    refine ww_iconst cx dX8_write_16 ic_m1 ?_
    refine ww_icmp_ne cx dX8_write_17 (tgt := 23) rfl hF (fun hF => ?_) (fun hF => ?_)
    · refine ww_iload_n cx dX8_write_23 rfl 2 rfl ?_
      refine ww_i2l cx dX8_write_24 ?_
      refine ww_lconst cx dX8_write_25 lc_0 ?_
      refine ww_aload_n cx dX8_write_26 rfl 0 rfl ?_
      refine gf_X8_61 cx dX8_write_27 ?_
      refine ww_iload_n cx dX8_write_30 rfl 1 rfl ?_
      refine ww_iald (N := 4) cx (sh_78) dX8_write_31 hF (fun hF => ?_)
      refine ww_iconst cx dX8_write_32 ic_1 ?_
      refine ww_isub cx dX8_write_33 ?_
      refine ww_i2l cx dX8_write_34 ?_
      refine ww_S3_pi kv_X8_83 cx ⟨Nat.le_of_ble_eq_true rfl, Nat.le_of_ble_eq_true rfl⟩ (Nat.le_of_ble_eq_true rfl) dX8_write_35 (kX8_in G) hF (fun r2 hF => ?_)
      refine ww_if_ne cx dX8_write_38 (tgt := 44) rfl hF (fun hF => ?_) (fun hF => ?_)
      · refine ww_aload_n cx dX8_write_44 rfl 0 rfl ?_
        refine gf_X8_67 cx dX8_write_45 ?_
        refine ww_bipush cx dX8_write_48 bc_60 ?_
        refine ww_iload_n cx dX8_write_50 rfl 1 rfl ?_
        refine ww_imul cx dX8_write_51 ?_
        refine ww_iload_n cx dX8_write_52 rfl 2 rfl ?_
        refine ww_iadd cx dX8_write_53 ?_
        refine ww_lload_n cx dX8_write_54 rfl 3 rfl ?_
        refine ww_aload_n cx dX8_write_55 rfl 0 rfl ?_
        refine gf_X8_64 cx dX8_write_56 ?_
        refine ww_iload_n cx dX8_write_59 rfl 1 rfl ?_
        refine ww_iald (N := 4) cx (sh_79) dX8_write_60 hF (fun hF => ?_)
        refine ww_S2_pl kv_X8_472 cx ⟨Nat.le_of_ble_eq_true rfl, Nat.le_of_ble_eq_true rfl⟩ (Nat.le_of_ble_eq_true rfl) dX8_write_61 (kX8_cut G) hF (fun r3 hF => ?_)
        refine ww_last (N := 240) cx (sh_80) dX8_write_64 hF (fun σ4 hF => ?_)
        refine ww_iconst cx dX8_write_65 ic_0 ?_
        exact ww_ris hE dX8_write_66 hF
      · refine ww_bipush cx dX8_write_41 bc_m7 ?_
        exact ww_ris hE dX8_write_43 hF
    · refine ww_bipush cx dX8_write_20 bc_m6 ?_
      exact ww_ris hE dX8_write_22 hF
  · refine ww_bipush cx dX8_write_7 bc_m2 ?_
    exact ww_ris hE dX8_write_9 hF
theorem dX7_ask_0 : decode cX7_ask 0 = .ok (.aload_n 0, 1) := by decide +kernel
theorem dX7_ask_1 : decode cX7_ask 1 = .ok (.getfield 19, 3) := by decide +kernel
theorem dX7_ask_4 : decode cX7_ask 4 = .ok (.invokevirtual 149, 3) := by decide +kernel
theorem dX7_ask_7 : decode cX7_ask 7 = .ok (.ifCond .ne 6, 3) := by decide +kernel
theorem dX7_ask_10 : decode cX7_ask 10 = .ok (.bipush (-2), 2) := by decide +kernel
theorem dX7_ask_12 : decode cX7_ask 12 = .ok (.ireturn, 1) := by decide +kernel
theorem dX7_ask_13 : decode cX7_ask 13 = .ok (.iconst (-1), 1) := by decide +kernel
theorem dX7_ask_14 : decode cX7_ask 14 = .ok (.istore_n 1, 1) := by decide +kernel
theorem dX7_ask_15 : decode cX7_ask 15 = .ok (.aload_n 0, 1) := by decide +kernel
theorem dX7_ask_16 : decode cX7_ask 16 = .ok (.getfield 19, 3) := by decide +kernel
theorem dX7_ask_19 : decode cX7_ask 19 = .ok (.aload_n 0, 1) := by decide +kernel
theorem dX7_ask_20 : decode cX7_ask 20 = .ok (.getfield 19, 3) := by decide +kernel
theorem dX7_ask_23 : decode cX7_ask 23 = .ok (.getfield 109, 3) := by decide +kernel
theorem dX7_ask_26 : decode cX7_ask 26 = .ok (.invokevirtual 153, 3) := by decide +kernel
theorem dX7_ask_29 : decode cX7_ask 29 = .ok (.invokestatic 115, 3) := by decide +kernel
theorem dX7_ask_32 : decode cX7_ask 32 = .ok (.istore_n 2, 1) := by decide +kernel
theorem dX7_ask_33 : decode cX7_ask 33 = .ok (.iconst 0, 1) := by decide +kernel
theorem dX7_ask_34 : decode cX7_ask 34 = .ok (.istore_n 3, 1) := by decide +kernel
theorem dX7_ask_35 : decode cX7_ask 35 = .ok (.iload_n 3, 1) := by decide +kernel
theorem dX7_ask_36 : decode cX7_ask 36 = .ok (.aload_n 0, 1) := by decide +kernel
theorem dX7_ask_37 : decode cX7_ask 37 = .ok (.getfield 19, 3) := by decide +kernel
theorem dX7_ask_40 : decode cX7_ask 40 = .ok (.getfield 252, 3) := by decide +kernel
theorem dX7_ask_43 : decode cX7_ask 43 = .ok (.if_icmp .ge 30, 3) := by decide +kernel
theorem dX7_ask_46 : decode cX7_ask 46 = .ok (.aload_n 0, 1) := by decide +kernel
theorem dX7_ask_47 : decode cX7_ask 47 = .ok (.getfield 19, 3) := by decide +kernel
theorem dX7_ask_50 : decode cX7_ask 50 = .ok (.iload_n 3, 1) := by decide +kernel
theorem dX7_ask_51 : decode cX7_ask 51 = .ok (.invokevirtual 317, 3) := by decide +kernel
theorem dX7_ask_54 : decode cX7_ask 54 = .ok (.istore 4, 2) := by decide +kernel
theorem dX7_ask_56 : decode cX7_ask 56 = .ok (.iload 4, 2) := by decide +kernel
theorem dX7_ask_58 : decode cX7_ask 58 = .ok (.iload_n 2, 1) := by decide +kernel
theorem dX7_ask_59 : decode cX7_ask 59 = .ok (.if_icmp .ge 8, 3) := by decide +kernel
theorem dX7_ask_62 : decode cX7_ask 62 = .ok (.iload_n 3, 1) := by decide +kernel
theorem dX7_ask_63 : decode cX7_ask 63 = .ok (.istore_n 1, 1) := by decide +kernel
theorem dX7_ask_64 : decode cX7_ask 64 = .ok (.iload 4, 2) := by decide +kernel
theorem dX7_ask_66 : decode cX7_ask 66 = .ok (.istore_n 2, 1) := by decide +kernel
theorem dX7_ask_67 : decode cX7_ask 67 = .ok (.iinc 3 1, 3) := by decide +kernel
theorem dX7_ask_70 : decode cX7_ask 70 = .ok (.goto (-35), 3) := by decide +kernel
theorem dX7_ask_73 : decode cX7_ask 73 = .ok (.iload_n 1, 1) := by decide +kernel
theorem dX7_ask_74 : decode cX7_ask 74 = .ok (.ireturn, 1) := by decide +kernel
set_option maxRecDepth 4000 in
theorem kX7_ask (G : GT) {σ : St} : ∀ (r : Int32) , fX7_ask σ = some r → MCt G 4 yX7_ask cX7_ask 5 (some .int) [.ref (gad G 0)] σ (some (.int r)) σ := by
  intro r hF
  refine met_i (by decide) (Nat.le_of_ble_eq_true rfl) (fun X cx hE => ?_)
  have cx : Cx G X RX7 cX7_ask 5 4 := cx
  have hl35 : ∀ n : Nat, ∀ (x1 : Int32) (x2 : Int32) (x3 : Int32) , fX7_ask_l35 σ n x1 x2 x3 = some r → WW G X 5 σ [(0, .ref (gad G 0)), (1, .int x1), (2, .int x2), (3, .int x3)] 35 [] := by
    intro n
    induction n with
    | zero =>
      intro x1 x2 x3 hF
      exact absurd hF (by intro z; cases z)
    | succ n ih =>
      intro x1 x2 x3 hF
      have hk35 := ih
      have hF : fX7_ask_B35 σ (fX7_ask_l35 σ n) x1 x2 x3 = some r := hF
      unfold fX7_ask_B35 at hF
      refine ww_iload_n cx dX7_ask_35 rfl 3 rfl ?_
      refine ww_aload_n cx dX7_ask_36 rfl 0 rfl ?_
      refine gf_X7_19 cx dX7_ask_37 ?_
      refine gf_X7_252 cx (isTab_3) dX7_ask_40 ?_
      refine ww_icmp_ge cx dX7_ask_43 (tgt := 73) rfl hF (fun hF => ?_) (fun hF => ?_)
      · refine ww_iload_n cx dX7_ask_73 rfl 1 rfl ?_
        exact ww_rip hE dX7_ask_74 hF
      · refine ww_aload_n cx dX7_ask_46 rfl 0 rfl ?_
        refine gf_X7_19 cx dX7_ask_47 ?_
        refine ww_iload_n cx dX7_ask_50 rfl 3 rfl ?_
        refine ww_V1_pi kv_X7_317 rfl cx ((isTab_3).1) ⟨Nat.le_of_ble_eq_true rfl, Nat.le_of_ble_eq_true rfl⟩ (Nat.le_of_ble_eq_true rfl) dX7_ask_51 (kX6_leftAtWorst G (isTab_3)) hF (fun r1 hF => ?_)
        refine ww_istore (ks := [0, 1, 2, 3, 4]) (lv' := fun v2 => [(4, .int v2), (0, .ref (gad G 0)), (1, .int x1), (2, .int x2), (3, .int x3)]) cx dX7_ask_54 (by decide) hF (fun _ => rfl) (fun v2 hF => ?_)
        refine ww_iload cx dX7_ask_56 0 rfl ?_
        refine ww_iload_n cx dX7_ask_58 rfl 3 rfl ?_
        refine ww_icmp_ge cx dX7_ask_59 (tgt := 67) rfl hF (fun hF => ?_) (fun hF => ?_)
        · refine ww_iinc (j := 4) (ks := [0, 2, 3, 4]) (lv' := fun v3 => [(3, .int v3), (0, .ref (gad G 0)), (1, .int x1), (2, .int x2)]) cx dX7_ask_67 (by decide) rfl ic_1 hF (fun _ => rfl) (fun v3 hF => ?_)
          refine ww_goto cx dX7_ask_70 (tgt := 35) rfl ?_
          exact ww_sub [1, 2, 3, 0] rfl (hk35 _ _ _ hF)
        · refine ww_iload_n cx dX7_ask_62 rfl 4 rfl ?_
          refine ww_istore_n (ks := [0, 1, 2, 4]) (lv' := fun v4 => [(1, .int v4), (4, .int v2), (0, .ref (gad G 0)), (3, .int x3)]) cx dX7_ask_63 rfl (by decide) hF (fun _ => rfl) (fun v4 hF => ?_)
          refine ww_iload cx dX7_ask_64 1 rfl ?_
          refine ww_istore_n (ks := [0, 1, 3, 4]) (lv' := fun v5 => [(2, .int v5), (1, .int v4), (0, .ref (gad G 0)), (3, .int x3)]) cx dX7_ask_66 rfl (by decide) hF (fun _ => rfl) (fun v5 hF => ?_)
          refine ww_iinc (j := 3) (ks := [0, 1, 2, 3]) (lv' := fun v6 => [(3, .int v6), (2, .int v5), (1, .int v4), (0, .ref (gad G 0))]) cx dX7_ask_67 (by decide) rfl ic_1 hF (fun _ => rfl) (fun v6 hF => ?_)
          refine ww_goto cx dX7_ask_70 (tgt := 35) rfl ?_
          exact ww_sub [3, 2, 1, 0] rfl (hk35 _ _ _ hF)
  unfold fX7_ask at hF
  show WW G X 5 σ [(0, .ref (gad G 0))] 0 []
  refine ww_aload_n cx dX7_ask_0 rfl 0 rfl ?_
  refine gf_X7_19 cx dX7_ask_1 ?_
  refine ww_V0_pi kv_X7_149 rfl cx ((isTab_3).1) ⟨Nat.le_of_ble_eq_true rfl, Nat.le_of_ble_eq_true rfl⟩ (Nat.le_of_ble_eq_true rfl) dX7_ask_4 (kX6_isTold G (isTab_3)) hF (fun r7 hF => ?_)
  refine ww_if_ne cx dX7_ask_7 (tgt := 13) rfl hF (fun hF => ?_) (fun hF => ?_)
  · refine ww_iconst cx dX7_ask_13 ic_m1 ?_
    refine ww_istore_n (ks := [0, 1]) (lv' := fun v8 => [(1, .int v8), (0, .ref (gad G 0))]) cx dX7_ask_14 rfl (by decide) hF (fun _ => rfl) (fun v8 hF => ?_)
    refine ww_aload_n cx dX7_ask_15 rfl 1 rfl ?_
    refine gf_X7_19 cx dX7_ask_16 ?_
    refine ww_aload_n cx dX7_ask_19 rfl 1 rfl ?_
    refine gf_X7_19 cx dX7_ask_20 ?_
    refine gf_X7_109 cx (isTab_3) dX7_ask_23 ?_
    refine ww_V1_pi kv_X7_153 rfl cx ((isTab_3).1) ⟨Nat.le_of_ble_eq_true rfl, Nat.le_of_ble_eq_true rfl⟩ (Nat.le_of_ble_eq_true rfl) dX7_ask_26 (kX6_worldsOf G (isTab_3)) hF (fun r9 hF => ?_)
    refine ww_S1_pi kv_X7_115 cx ⟨Nat.le_of_ble_eq_true rfl, Nat.le_of_ble_eq_true rfl⟩ (Nat.le_of_ble_eq_true rfl) dX7_ask_29 (kJ6_bitCount_0f7a4 G) hF (fun r10 hF => ?_)
    refine ww_istore_n (ks := [0, 1, 2]) (lv' := fun v11 => [(2, .int v11), (1, .int v8), (0, .ref (gad G 0))]) cx dX7_ask_32 rfl (by decide) hF (fun _ => rfl) (fun v11 hF => ?_)
    refine ww_iconst cx dX7_ask_33 ic_0 ?_
    refine ww_istore_n (ks := [0, 1, 2, 3]) (lv' := fun v12 => [(3, .int v12), (2, .int v11), (1, .int v8), (0, .ref (gad G 0))]) cx dX7_ask_34 rfl (by decide) hF (fun _ => rfl) (fun v12 hF => ?_)
    exact ww_sub [3, 2, 1, 0] rfl (hl35 FU _ _ _ hF)
  · refine ww_bipush cx dX7_ask_10 bc_m2 ?_
    exact ww_rip hE dX7_ask_12 hF
theorem dX7_coreSet_0 : decode cX7_coreSet 0 = .ok (.aload_n 0, 1) := by decide +kernel
theorem dX7_coreSet_1 : decode cX7_coreSet 1 = .ok (.getfield 52, 3) := by decide +kernel
theorem dX7_coreSet_4 : decode cX7_coreSet 4 = .ok (.aload_n 0, 1) := by decide +kernel
theorem dX7_coreSet_5 : decode cX7_coreSet 5 = .ok (.getfield 19, 3) := by decide +kernel
theorem dX7_coreSet_8 : decode cX7_coreSet 8 = .ok (.invokevirtual 408, 3) := by decide +kernel
theorem dX7_coreSet_11 : decode cX7_coreSet 11 = .ok (.aload_n 0, 1) := by decide +kernel
theorem dX7_coreSet_12 : decode cX7_coreSet 12 = .ok (.getfield 52, 3) := by decide +kernel
theorem dX7_coreSet_15 : decode cX7_coreSet 15 = .ok (.aload_n 0, 1) := by decide +kernel
theorem dX7_coreSet_16 : decode cX7_coreSet 16 = .ok (.getfield 19, 3) := by decide +kernel
theorem dX7_coreSet_19 : decode cX7_coreSet 19 = .ok (.getfield 109, 3) := by decide +kernel
theorem dX7_coreSet_22 : decode cX7_coreSet 22 = .ok (.aload_n 0, 1) := by decide +kernel
theorem dX7_coreSet_23 : decode cX7_coreSet 23 = .ok (.getfield 19, 3) := by decide +kernel
theorem dX7_coreSet_26 : decode cX7_coreSet 26 = .ok (.invokevirtual 411, 3) := by decide +kernel
theorem dX7_coreSet_29 : decode cX7_coreSet 29 = .ok (.invokevirtual 243, 3) := by decide +kernel
theorem dX7_coreSet_32 : decode cX7_coreSet 32 = .ok (.ireturn, 1) := by decide +kernel
set_option maxRecDepth 4000 in
theorem kX7_coreSet (G : GT) {σ : St} : ∀ (r : Int32) (σo : St) , fX7_coreSet σ = some (r, σo) → MCt G 4 yX7_coreSet cX7_coreSet 1 (some .int) [.ref (gad G 0)] σ (some (.int r)) σo := by
  intro r σo hF
  refine met_i (by decide) (Nat.le_of_ble_eq_true rfl) (fun X cx hE => ?_)
  have cx : Cx G X RX7 cX7_coreSet 1 4 := cx
  unfold fX7_coreSet at hF
  show WW G X 1 σ [(0, .ref (gad G 0))] 0 []
  refine ww_aload_n cx dX7_coreSet_0 rfl 0 rfl ?_
  refine gf_X7_52 cx dX7_coreSet_1 ?_
  refine ww_aload_n cx dX7_coreSet_4 rfl 0 rfl ?_
  refine gf_X7_19 cx dX7_coreSet_5 ?_
  refine ww_V1_sv kv_X7_408 rfl cx ((isShe_51).1) ⟨Nat.le_of_ble_eq_true rfl, Nat.le_of_ble_eq_true rfl⟩ (Nat.le_of_ble_eq_true rfl) dX7_coreSet_8 (kX5_fillWithRuledOut G (isShe_51) (isTab_3)) hF (fun σ1 hF => ?_)
  refine ww_aload_n cx dX7_coreSet_11 rfl 0 rfl ?_
  refine gf_X7_52 cx dX7_coreSet_12 ?_
  refine ww_aload_n cx dX7_coreSet_15 rfl 0 rfl ?_
  refine gf_X7_19 cx dX7_coreSet_16 ?_
  refine gf_X7_109 cx (isTab_3) dX7_coreSet_19 ?_
  refine ww_aload_n cx dX7_coreSet_22 rfl 0 rfl ?_
  refine gf_X7_19 cx dX7_coreSet_23 ?_
  refine ww_V0_pi kv_X7_411 rfl cx ((isTab_3).1) ⟨Nat.le_of_ble_eq_true rfl, Nat.le_of_ble_eq_true rfl⟩ (Nat.le_of_ble_eq_true rfl) dX7_coreSet_26 (kX6_allWorlds G (isTab_3)) hF (fun r2 hF => ?_)
  refine ww_V2_pi kv_X7_243 rfl cx ((isShe_51).1) ⟨Nat.le_of_ble_eq_true rfl, Nat.le_of_ble_eq_true rfl⟩ (Nat.le_of_ble_eq_true rfl) dX7_coreSet_29 (kX5_leastSet G (isShe_51)) hF (fun r3 hF => ?_)
  exact ww_ris hE dX7_coreSet_32 hF
theorem dX7_eats_0 : decode cX7_eats 0 = .ok (.aload_n 0, 1) := by decide +kernel
theorem dX7_eats_1 : decode cX7_eats 1 = .ok (.getfield 19, 3) := by decide +kernel
theorem dX7_eats_4 : decode cX7_eats 4 = .ok (.iload_n 2, 1) := by decide +kernel
theorem dX7_eats_5 : decode cX7_eats 5 = .ok (.invokevirtual 137, 3) := by decide +kernel
theorem dX7_eats_8 : decode cX7_eats 8 = .ok (.ifCond .eq 11, 3) := by decide +kernel
theorem dX7_eats_11 : decode cX7_eats 11 = .ok (.aload_n 0, 1) := by decide +kernel
theorem dX7_eats_12 : decode cX7_eats 12 = .ok (.iload_n 1, 1) := by decide +kernel
theorem dX7_eats_13 : decode cX7_eats 13 = .ok (.invokevirtual 173, 3) := by decide +kernel
theorem dX7_eats_16 : decode cX7_eats 16 = .ok (.goto 5, 3) := by decide +kernel
theorem dX7_eats_19 : decode cX7_eats 19 = .ok (.bipush (-2), 2) := by decide +kernel
theorem dX7_eats_21 : decode cX7_eats 21 = .ok (.istore_n 3, 1) := by decide +kernel
theorem dX7_eats_22 : decode cX7_eats 22 = .ok (.iload_n 3, 1) := by decide +kernel
theorem dX7_eats_23 : decode cX7_eats 23 = .ok (.ifCond .eq 18, 3) := by decide +kernel
theorem dX7_eats_26 : decode cX7_eats 26 = .ok (.iload_n 3, 1) := by decide +kernel
theorem dX7_eats_27 : decode cX7_eats 27 = .ok (.bipush (-6), 2) := by decide +kernel
theorem dX7_eats_29 : decode cX7_eats 29 = .ok (.if_icmp .ne 9, 3) := by decide +kernel
theorem dX7_eats_32 : decode cX7_eats 32 = .ok (.sipush (-600), 3) := by decide +kernel
theorem dX7_eats_35 : decode cX7_eats 35 = .ok (.goto 5, 3) := by decide +kernel
theorem dX7_eats_38 : decode cX7_eats 38 = .ok (.bipush (-100), 2) := by decide +kernel
theorem dX7_eats_40 : decode cX7_eats 40 = .ok (.ireturn, 1) := by decide +kernel
theorem dX7_eats_41 : decode cX7_eats 41 = .ok (.aload_n 0, 1) := by decide +kernel
theorem dX7_eats_42 : decode cX7_eats 42 = .ok (.getfield 58, 3) := by decide +kernel
theorem dX7_eats_45 : decode cX7_eats 45 = .ok (.aload_n 0, 1) := by decide +kernel
theorem dX7_eats_46 : decode cX7_eats 46 = .ok (.getfield 19, 3) := by decide +kernel
theorem dX7_eats_49 : decode cX7_eats 49 = .ok (.aload_n 0, 1) := by decide +kernel
theorem dX7_eats_50 : decode cX7_eats 50 = .ok (.getfield 36, 3) := by decide +kernel
theorem dX7_eats_53 : decode cX7_eats 53 = .ok (.iload_n 1, 1) := by decide +kernel
theorem dX7_eats_54 : decode cX7_eats 54 = .ok (.aaload, 1) := by decide +kernel
theorem dX7_eats_55 : decode cX7_eats 55 = .ok (.iload_n 2, 1) := by decide +kernel
theorem dX7_eats_56 : decode cX7_eats 56 = .ok (.invokevirtual 189, 3) := by decide +kernel
theorem dX7_eats_59 : decode cX7_eats 59 = .ok (.ireturn, 1) := by decide +kernel
set_option maxRecDepth 4000 in
theorem kX7_eats (G : GT) {σ : St} {a1 : Int32} {a2 : Int32} : ∀ (r : Int32) , fX7_eats σ a1 a2 = some r → MCt G 4 yX7_eats cX7_eats 4 (some .int) [.ref (gad G 0), .int a1, .int a2] σ (some (.int r)) σ := by
  intro r hF
  refine met_i (by decide) (Nat.le_of_ble_eq_true rfl) (fun X cx hE => ?_)
  have cx : Cx G X RX7 cX7_eats 4 4 := cx
  have hb21 : ∀ (x1 : Int32) (x2 : Int32) (y0 : Int32) , fX7_eats_b21 σ x1 x2 y0 = some r → WW G X 4 σ [(0, .ref (gad G 0)), (1, .int x1), (2, .int x2)] 21 [.int y0] := by
    intro x1 x2 y0 hF
    unfold fX7_eats_b21 at hF
    refine ww_istore_n (ks := [0, 1, 2, 3]) (lv' := fun v1 => [(3, .int v1), (0, .ref (gad G 0)), (1, .int x1), (2, .int x2)]) cx dX7_eats_21 rfl (by decide) hF (fun _ => rfl) (fun v1 hF => ?_)
    refine ww_iload_n cx dX7_eats_22 rfl 0 rfl ?_
    refine ww_if_eq cx dX7_eats_23 (tgt := 41) rfl hF (fun hF => ?_) (fun hF => ?_)
    · refine ww_aload_n cx dX7_eats_41 rfl 1 rfl ?_
      refine gf_X7_58 cx dX7_eats_42 ?_
      refine ww_aload_n cx dX7_eats_45 rfl 1 rfl ?_
      refine gf_X7_19 cx dX7_eats_46 ?_
      refine ww_aload_n cx dX7_eats_49 rfl 1 rfl ?_
      refine gf_X7_36 cx dX7_eats_50 ?_
      refine ww_iload_n cx dX7_eats_53 rfl 2 rfl ?_
      refine ww_aaldR cx dX7_eats_54 hF (fun k2 hk2 hF => ?_)
      refine ww_iload_n cx dX7_eats_55 rfl 3 rfl ?_
      refine ww_V3_pi kv_X7_189 rfl cx sh_53 ⟨Nat.le_of_ble_eq_true rfl, Nat.le_of_ble_eq_true rfl⟩ (Nat.le_of_ble_eq_true rfl) dX7_eats_56 (kX3_worthEaten G (isTab_3) (hk2)) hF (fun r3 hF => ?_)
      exact ww_rip hE dX7_eats_59 hF
    · refine ww_iload_n cx dX7_eats_26 rfl 0 rfl ?_
      refine ww_bipush cx dX7_eats_27 bc_m6 ?_
      refine ww_icmp_ne cx dX7_eats_29 (tgt := 38) rfl hF (fun hF => ?_) (fun hF => ?_)
      · refine ww_bipush cx dX7_eats_38 bc_m100 ?_
        exact ww_rip hE dX7_eats_40 hF
      · refine ww_sipush cx dX7_eats_32 sc_m600 ?_
        refine ww_goto cx dX7_eats_35 (tgt := 40) rfl ?_
        exact ww_rip hE dX7_eats_40 hF
  unfold fX7_eats at hF
  show WW G X 4 σ [(0, .ref (gad G 0)), (1, .int a1), (2, .int a2)] 0 []
  refine ww_aload_n cx dX7_eats_0 rfl 0 rfl ?_
  refine gf_X7_19 cx dX7_eats_1 ?_
  refine ww_iload_n cx dX7_eats_4 rfl 2 rfl ?_
  refine ww_V1_pi kv_X7_137 rfl cx ((isTab_3).1) ⟨Nat.le_of_ble_eq_true rfl, Nat.le_of_ble_eq_true rfl⟩ (Nat.le_of_ble_eq_true rfl) dX7_eats_5 (kX6_hasGuest G (isTab_3)) hF (fun r4 hF => ?_)
  refine ww_if_eq cx dX7_eats_8 (tgt := 19) rfl hF (fun hF => ?_) (fun hF => ?_)
  · refine ww_bipush cx dX7_eats_19 bc_m2 ?_
    exact hb21 _ _ _ hF
  · refine ww_aload_n cx dX7_eats_11 rfl 0 rfl ?_
    refine ww_iload_n cx dX7_eats_12 rfl 1 rfl ?_
    refine ww_V1_pi kv_X7_173 rfl cx sh_0 ⟨Nat.le_of_ble_eq_true rfl, Nat.le_of_ble_eq_true rfl⟩ (Nat.le_of_ble_eq_true rfl) dX7_eats_13 (kX7_refusalOfSteps G) hF (fun r5 hF => ?_)
    refine ww_goto cx dX7_eats_16 (tgt := 21) rfl ?_
    exact hb21 _ _ _ hF
theorem dX7_falsity_0 : decode cX7_falsity 0 = .ok (.aload_n 0, 1) := by decide +kernel
theorem dX7_falsity_1 : decode cX7_falsity 1 = .ok (.getfield 19, 3) := by decide +kernel
theorem dX7_falsity_4 : decode cX7_falsity 4 = .ok (.iload_n 1, 1) := by decide +kernel
theorem dX7_falsity_5 : decode cX7_falsity 5 = .ok (.invokevirtual 121, 3) := by decide +kernel
theorem dX7_falsity_8 : decode cX7_falsity 8 = .ok (.ifCond .eq 17, 3) := by decide +kernel
theorem dX7_falsity_11 : decode cX7_falsity 11 = .ok (.aload_n 0, 1) := by decide +kernel
theorem dX7_falsity_12 : decode cX7_falsity 12 = .ok (.getfield 19, 3) := by decide +kernel
theorem dX7_falsity_15 : decode cX7_falsity 15 = .ok (.iload_n 1, 1) := by decide +kernel
theorem dX7_falsity_16 : decode cX7_falsity 16 = .ok (.invokevirtual 130, 3) := by decide +kernel
theorem dX7_falsity_19 : decode cX7_falsity 19 = .ok (.invokestatic 160, 3) := by decide +kernel
theorem dX7_falsity_22 : decode cX7_falsity 22 = .ok (.goto 5, 3) := by decide +kernel
theorem dX7_falsity_25 : decode cX7_falsity 25 = .ok (.bipush (-2), 2) := by decide +kernel
theorem dX7_falsity_27 : decode cX7_falsity 27 = .ok (.ireturn, 1) := by decide +kernel
set_option maxRecDepth 4000 in
theorem kX7_falsity (G : GT) {σ : St} {a1 : Int32} : ∀ (r : Int32) , fX7_falsity σ a1 = some r → MCt G 4 yX7_falsity cX7_falsity 2 (some .int) [.ref (gad G 0), .int a1] σ (some (.int r)) σ := by
  intro r hF
  refine met_i (by decide) (Nat.le_of_ble_eq_true rfl) (fun X cx hE => ?_)
  have cx : Cx G X RX7 cX7_falsity 2 4 := cx
  unfold fX7_falsity at hF
  show WW G X 2 σ [(0, .ref (gad G 0)), (1, .int a1)] 0 []
  refine ww_aload_n cx dX7_falsity_0 rfl 0 rfl ?_
  refine gf_X7_19 cx dX7_falsity_1 ?_
  refine ww_iload_n cx dX7_falsity_4 rfl 1 rfl ?_
  refine ww_V1_pi kv_X7_121 rfl cx ((isTab_3).1) ⟨Nat.le_of_ble_eq_true rfl, Nat.le_of_ble_eq_true rfl⟩ (Nat.le_of_ble_eq_true rfl) dX7_falsity_5 (kX6_hasStep G (isTab_3)) hF (fun r1 hF => ?_)
  refine ww_if_eq cx dX7_falsity_8 (tgt := 25) rfl hF (fun hF => ?_) (fun hF => ?_)
  · refine ww_bipush cx dX7_falsity_25 bc_m2 ?_
    exact ww_rip hE dX7_falsity_27 hF
  · refine ww_aload_n cx dX7_falsity_11 rfl 0 rfl ?_
    refine gf_X7_19 cx dX7_falsity_12 ?_
    refine ww_iload_n cx dX7_falsity_15 rfl 1 rfl ?_
    refine ww_V1_pi kv_X7_130 rfl cx ((isTab_3).1) ⟨Nat.le_of_ble_eq_true rfl, Nat.le_of_ble_eq_true rfl⟩ (Nat.le_of_ble_eq_true rfl) dX7_falsity_16 (kX6_falseWorlds G (isTab_3)) hF (fun r2 hF => ?_)
    refine ww_S1_pi kv_X7_160 cx ⟨Nat.le_of_ble_eq_true rfl, Nat.le_of_ble_eq_true rfl⟩ (Nat.le_of_ble_eq_true rfl) dX7_falsity_19 (kX7_lowestBit G) hF (fun r3 hF => ?_)
    refine ww_goto cx dX7_falsity_22 (tgt := 27) rfl ?_
    exact ww_rip hE dX7_falsity_27 hF
theorem dX7_follows_0 : decode cX7_follows 0 = .ok (.aload_n 0, 1) := by decide +kernel
theorem dX7_follows_1 : decode cX7_follows 1 = .ok (.getfield 19, 3) := by decide +kernel
theorem dX7_follows_4 : decode cX7_follows 4 = .ok (.iload_n 1, 1) := by decide +kernel
theorem dX7_follows_5 : decode cX7_follows 5 = .ok (.invokevirtual 101, 3) := by decide +kernel
theorem dX7_follows_8 : decode cX7_follows 8 = .ok (.ifCond .ne 6, 3) := by decide +kernel
theorem dX7_follows_11 : decode cX7_follows 11 = .ok (.bipush (-2), 2) := by decide +kernel
theorem dX7_follows_13 : decode cX7_follows 13 = .ok (.ireturn, 1) := by decide +kernel
theorem dX7_follows_14 : decode cX7_follows 14 = .ok (.aload_n 0, 1) := by decide +kernel
theorem dX7_follows_15 : decode cX7_follows 15 = .ok (.getfield 19, 3) := by decide +kernel
theorem dX7_follows_18 : decode cX7_follows 18 = .ok (.aload_n 0, 1) := by decide +kernel
theorem dX7_follows_19 : decode cX7_follows 19 = .ok (.getfield 19, 3) := by decide +kernel
theorem dX7_follows_22 : decode cX7_follows 22 = .ok (.getfield 109, 3) := by decide +kernel
theorem dX7_follows_25 : decode cX7_follows 25 = .ok (.iload_n 1, 1) := by decide +kernel
theorem dX7_follows_26 : decode cX7_follows 26 = .ok (.invokevirtual 156, 3) := by decide +kernel
theorem dX7_follows_29 : decode cX7_follows 29 = .ok (.invokestatic 133, 3) := by decide +kernel
theorem dX7_follows_32 : decode cX7_follows 32 = .ok (.ireturn, 1) := by decide +kernel
set_option maxRecDepth 4000 in
theorem kX7_follows (G : GT) {σ : St} {a1 : Int32} : ∀ (r : Int32) , fX7_follows σ a1 = some r → MCt G 4 yX7_follows cX7_follows 2 (some .int) [.ref (gad G 0), .int a1] σ (some (.int r)) σ := by
  intro r hF
  refine met_i (by decide) (Nat.le_of_ble_eq_true rfl) (fun X cx hE => ?_)
  have cx : Cx G X RX7 cX7_follows 2 4 := cx
  unfold fX7_follows at hF
  show WW G X 2 σ [(0, .ref (gad G 0)), (1, .int a1)] 0 []
  refine ww_aload_n cx dX7_follows_0 rfl 0 rfl ?_
  refine gf_X7_19 cx dX7_follows_1 ?_
  refine ww_iload_n cx dX7_follows_4 rfl 1 rfl ?_
  refine ww_V1_pi kv_X7_101 rfl cx ((isTab_3).1) ⟨Nat.le_of_ble_eq_true rfl, Nat.le_of_ble_eq_true rfl⟩ (Nat.le_of_ble_eq_true rfl) dX7_follows_5 (kX6_hasClaim G (isTab_3)) hF (fun r1 hF => ?_)
  refine ww_if_ne cx dX7_follows_8 (tgt := 14) rfl hF (fun hF => ?_) (fun hF => ?_)
  · refine ww_aload_n cx dX7_follows_14 rfl 0 rfl ?_
    refine gf_X7_19 cx dX7_follows_15 ?_
    refine ww_aload_n cx dX7_follows_18 rfl 0 rfl ?_
    refine gf_X7_19 cx dX7_follows_19 ?_
    refine gf_X7_109 cx (isTab_3) dX7_follows_22 ?_
    refine ww_iload_n cx dX7_follows_25 rfl 1 rfl ?_
    refine ww_V2_pi kv_X7_156 rfl cx ((isTab_3).1) ⟨Nat.le_of_ble_eq_true rfl, Nat.le_of_ble_eq_true rfl⟩ (Nat.le_of_ble_eq_true rfl) dX7_follows_26 (kX6_followsFrom G (isTab_3)) hF (fun r2 hF => ?_)
    refine ww_S1_pi kv_X7_133 cx ⟨Nat.le_of_ble_eq_true rfl, Nat.le_of_ble_eq_true rfl⟩ (Nat.le_of_ble_eq_true rfl) dX7_follows_29 (kX7_bit G) hF (fun r3 hF => ?_)
    exact ww_rip hE dX7_follows_32 hF
  · refine ww_bipush cx dX7_follows_11 bc_m2 ?_
    exact ww_rip hE dX7_follows_13 hF
theorem dX7_freshProofs_0 : decode cX7_freshProofs 0 = .ok (.aload_n 0, 1) := by decide +kernel
theorem dX7_freshProofs_1 : decode cX7_freshProofs 1 = .ok (.getfield 48, 3) := by decide +kernel
theorem dX7_freshProofs_4 : decode cX7_freshProofs 4 = .ok (.ifCond .eq 33, 3) := by decide +kernel
theorem dX7_freshProofs_7 : decode cX7_freshProofs 7 = .ok (.aload_n 0, 1) := by decide +kernel
theorem dX7_freshProofs_8 : decode cX7_freshProofs 8 = .ok (.getfield 44, 3) := by decide +kernel
theorem dX7_freshProofs_11 : decode cX7_freshProofs 11 = .ok (.aload_n 0, 1) := by decide +kernel
theorem dX7_freshProofs_12 : decode cX7_freshProofs 12 = .ok (.getfield 19, 3) := by decide +kernel
theorem dX7_freshProofs_15 : decode cX7_freshProofs 15 = .ok (.aload_n 0, 1) := by decide +kernel
theorem dX7_freshProofs_16 : decode cX7_freshProofs 16 = .ok (.getfield 19, 3) := by decide +kernel
theorem dX7_freshProofs_19 : decode cX7_freshProofs 19 = .ok (.invokevirtual 222, 3) := by decide +kernel
theorem dX7_freshProofs_22 : decode cX7_freshProofs 22 = .ok (.aload_n 0, 1) := by decide +kernel
theorem dX7_freshProofs_23 : decode cX7_freshProofs 23 = .ok (.getfield 19, 3) := by decide +kernel
theorem dX7_freshProofs_26 : decode cX7_freshProofs 26 = .ok (.getfield 109, 3) := by decide +kernel
theorem dX7_freshProofs_29 : decode cX7_freshProofs 29 = .ok (.invokevirtual 399, 3) := by decide +kernel
theorem dX7_freshProofs_32 : decode cX7_freshProofs 32 = .ok (.aload_n 0, 1) := by decide +kernel
theorem dX7_freshProofs_33 : decode cX7_freshProofs 33 = .ok (.iconst 0, 1) := by decide +kernel
theorem dX7_freshProofs_34 : decode cX7_freshProofs 34 = .ok (.putfield 48, 3) := by decide +kernel
theorem dX7_freshProofs_37 : decode cX7_freshProofs 37 = .ok (.aload_n 0, 1) := by decide +kernel
theorem dX7_freshProofs_38 : decode cX7_freshProofs 38 = .ok (.getfield 44, 3) := by decide +kernel
theorem dX7_freshProofs_41 : decode cX7_freshProofs 41 = .ok (.areturn, 1) := by decide +kernel
set_option maxRecDepth 4000 in
theorem kX7_freshProofs (G : GT) {σ : St} : ∀ (σo : St) , fX7_freshProofs σ = some σo → MCt G 4 yX7_freshProofs cX7_freshProofs 1 (some (.object RX5)) [.ref (gad G 0)] σ (some (.ref (gad G 49))) σo := by
  intro σo hF
  refine met_a (by decide) (Nat.le_of_ble_eq_true rfl) (fun X cx hE => ?_)
  have cx : Cx G X RX7 cX7_freshProofs 1 4 := cx
  unfold fX7_freshProofs at hF
  show WW G X 1 σ [(0, .ref (gad G 0))] 0 []
  refine ww_aload_n cx dX7_freshProofs_0 rfl 0 rfl ?_
  refine gf_X7_48 cx dX7_freshProofs_1 ?_
  refine ww_if_eq cx dX7_freshProofs_4 (tgt := 37) rfl hF (fun hF => ?_) (fun hF => ?_)
  · refine ww_aload_n cx dX7_freshProofs_37 rfl 0 rfl ?_
    refine gf_X7_44 cx dX7_freshProofs_38 ?_
    exact ww_ras hE dX7_freshProofs_41 hF
  · refine ww_aload_n cx dX7_freshProofs_7 rfl 0 rfl ?_
    refine gf_X7_44 cx dX7_freshProofs_8 ?_
    refine ww_aload_n cx dX7_freshProofs_11 rfl 0 rfl ?_
    refine gf_X7_19 cx dX7_freshProofs_12 ?_
    refine ww_aload_n cx dX7_freshProofs_15 rfl 0 rfl ?_
    refine gf_X7_19 cx dX7_freshProofs_16 ?_
    refine ww_V0_pi kv_X7_222 rfl cx ((isTab_3).1) ⟨Nat.le_of_ble_eq_true rfl, Nat.le_of_ble_eq_true rfl⟩ (Nat.le_of_ble_eq_true rfl) dX7_freshProofs_19 (kX6_allSteps G (isTab_3)) hF (fun r1 hF => ?_)
    refine ww_aload_n cx dX7_freshProofs_22 rfl 0 rfl ?_
    refine gf_X7_19 cx dX7_freshProofs_23 ?_
    refine gf_X7_109 cx (isTab_3) dX7_freshProofs_26 ?_
    refine ww_V3_sv kv_X7_399 rfl cx ((isShe_49).1) ⟨Nat.le_of_ble_eq_true rfl, Nat.le_of_ble_eq_true rfl⟩ (Nat.le_of_ble_eq_true rfl) dX7_freshProofs_29 (kX5_fillWithProofs G (isShe_49) (isTab_3)) hF (fun σ2 hF => ?_)
    refine ww_aload_n cx dX7_freshProofs_32 rfl 0 rfl ?_
    refine ww_iconst cx dX7_freshProofs_33 ic_0 ?_
    refine pf_X7_48 cx dX7_freshProofs_34 hF (fun σ3 hF => ?_)
    refine ww_aload_n cx dX7_freshProofs_37 rfl 0 rfl ?_
    refine gf_X7_44 cx dX7_freshProofs_38 ?_
    exact ww_ras hE dX7_freshProofs_41 hF
theorem dX7_idle_0 : decode cX7_idle 0 = .ok (.aload_n 0, 1) := by decide +kernel
theorem dX7_idle_1 : decode cX7_idle 1 = .ok (.getfield 19, 3) := by decide +kernel
theorem dX7_idle_4 : decode cX7_idle 4 = .ok (.invokevirtual 149, 3) := by decide +kernel
theorem dX7_idle_7 : decode cX7_idle 7 = .ok (.ifCond .ne 6, 3) := by decide +kernel
theorem dX7_idle_10 : decode cX7_idle 10 = .ok (.bipush (-2), 2) := by decide +kernel
theorem dX7_idle_12 : decode cX7_idle 12 = .ok (.ireturn, 1) := by decide +kernel
theorem dX7_idle_13 : decode cX7_idle 13 = .ok (.iconst 0, 1) := by decide +kernel
theorem dX7_idle_14 : decode cX7_idle 14 = .ok (.istore_n 1, 1) := by decide +kernel
theorem dX7_idle_15 : decode cX7_idle 15 = .ok (.iconst 0, 1) := by decide +kernel
theorem dX7_idle_16 : decode cX7_idle 16 = .ok (.istore_n 2, 1) := by decide +kernel
theorem dX7_idle_17 : decode cX7_idle 17 = .ok (.iload_n 2, 1) := by decide +kernel
theorem dX7_idle_18 : decode cX7_idle 18 = .ok (.aload_n 0, 1) := by decide +kernel
theorem dX7_idle_19 : decode cX7_idle 19 = .ok (.getfield 19, 3) := by decide +kernel
theorem dX7_idle_22 : decode cX7_idle 22 = .ok (.getfield 252, 3) := by decide +kernel
theorem dX7_idle_25 : decode cX7_idle 25 = .ok (.if_icmp .ge 64, 3) := by decide +kernel
theorem dX7_idle_28 : decode cX7_idle 28 = .ok (.aload_n 0, 1) := by decide +kernel
theorem dX7_idle_29 : decode cX7_idle 29 = .ok (.getfield 19, 3) := by decide +kernel
theorem dX7_idle_32 : decode cX7_idle 32 = .ok (.getfield 109, 3) := by decide +kernel
theorem dX7_idle_35 : decode cX7_idle 35 = .ok (.iload_n 2, 1) := by decide +kernel
theorem dX7_idle_36 : decode cX7_idle 36 = .ok (.ishr, 1) := by decide +kernel
theorem dX7_idle_37 : decode cX7_idle 37 = .ok (.iconst 1, 1) := by decide +kernel
theorem dX7_idle_38 : decode cX7_idle 38 = .ok (.iand, 1) := by decide +kernel
theorem dX7_idle_39 : decode cX7_idle 39 = .ok (.iconst 1, 1) := by decide +kernel
theorem dX7_idle_40 : decode cX7_idle 40 = .ok (.if_icmp .ne 7, 3) := by decide +kernel
theorem dX7_idle_43 : decode cX7_idle 43 = .ok (.iconst 1, 1) := by decide +kernel
theorem dX7_idle_44 : decode cX7_idle 44 = .ok (.goto 4, 3) := by decide +kernel
theorem dX7_idle_47 : decode cX7_idle 47 = .ok (.iconst 0, 1) := by decide +kernel
theorem dX7_idle_48 : decode cX7_idle 48 = .ok (.istore_n 3, 1) := by decide +kernel
theorem dX7_idle_49 : decode cX7_idle 49 = .ok (.iload_n 3, 1) := by decide +kernel
theorem dX7_idle_50 : decode cX7_idle 50 = .ok (.ifCond .eq 33, 3) := by decide +kernel
theorem dX7_idle_53 : decode cX7_idle 53 = .ok (.aload_n 0, 1) := by decide +kernel
theorem dX7_idle_54 : decode cX7_idle 54 = .ok (.getfield 19, 3) := by decide +kernel
theorem dX7_idle_57 : decode cX7_idle 57 = .ok (.aload_n 0, 1) := by decide +kernel
theorem dX7_idle_58 : decode cX7_idle 58 = .ok (.getfield 19, 3) := by decide +kernel
theorem dX7_idle_61 : decode cX7_idle 61 = .ok (.getfield 109, 3) := by decide +kernel
theorem dX7_idle_64 : decode cX7_idle 64 = .ok (.iconst 1, 1) := by decide +kernel
theorem dX7_idle_65 : decode cX7_idle 65 = .ok (.iload_n 2, 1) := by decide +kernel
theorem dX7_idle_66 : decode cX7_idle 66 = .ok (.ishl, 1) := by decide +kernel
theorem dX7_idle_67 : decode cX7_idle 67 = .ok (.iconst (-1), 1) := by decide +kernel
theorem dX7_idle_68 : decode cX7_idle 68 = .ok (.ixor, 1) := by decide +kernel
theorem dX7_idle_69 : decode cX7_idle 69 = .ok (.iand, 1) := by decide +kernel
theorem dX7_idle_70 : decode cX7_idle 70 = .ok (.iload_n 2, 1) := by decide +kernel
theorem dX7_idle_71 : decode cX7_idle 71 = .ok (.invokevirtual 156, 3) := by decide +kernel
theorem dX7_idle_74 : decode cX7_idle 74 = .ok (.ifCond .eq 9, 3) := by decide +kernel
theorem dX7_idle_77 : decode cX7_idle 77 = .ok (.iload_n 1, 1) := by decide +kernel
theorem dX7_idle_78 : decode cX7_idle 78 = .ok (.iconst 1, 1) := by decide +kernel
theorem dX7_idle_79 : decode cX7_idle 79 = .ok (.iload_n 2, 1) := by decide +kernel
theorem dX7_idle_80 : decode cX7_idle 80 = .ok (.ishl, 1) := by decide +kernel
theorem dX7_idle_81 : decode cX7_idle 81 = .ok (.ior, 1) := by decide +kernel
theorem dX7_idle_82 : decode cX7_idle 82 = .ok (.istore_n 1, 1) := by decide +kernel
theorem dX7_idle_83 : decode cX7_idle 83 = .ok (.iinc 2 1, 3) := by decide +kernel
theorem dX7_idle_86 : decode cX7_idle 86 = .ok (.goto (-69), 3) := by decide +kernel
theorem dX7_idle_89 : decode cX7_idle 89 = .ok (.iload_n 1, 1) := by decide +kernel
theorem dX7_idle_90 : decode cX7_idle 90 = .ok (.ireturn, 1) := by decide +kernel
set_option maxRecDepth 4000 in
theorem kX7_idle (G : GT) {σ : St} : ∀ (r : Int32) , fX7_idle σ = some r → MCt G 4 yX7_idle cX7_idle 4 (some .int) [.ref (gad G 0)] σ (some (.int r)) σ := by
  intro r hF
  refine met_i (by decide) (Nat.le_of_ble_eq_true rfl) (fun X cx hE => ?_)
  have cx : Cx G X RX7 cX7_idle 4 4 := cx
  have hb48 : ∀ (kr17 : Int32 → Int32 → Option (Int32)), (∀ (x1 : Int32) (x2 : Int32) , kr17 x1 x2 = some r → WW G X 4 σ [(0, .ref (gad G 0)), (1, .int x1), (2, .int x2)] 17 []) → ∀ (x1 : Int32) (x2 : Int32) (y0 : Int32) , fX7_idle_b48 σ kr17 x1 x2 y0 = some r → WW G X 4 σ [(0, .ref (gad G 0)), (1, .int x1), (2, .int x2)] 48 [.int y0] := by
    intro kr17 hk17
    intro x1 x2 y0 hF
    unfold fX7_idle_b48 at hF
    refine ww_istore_n (ks := [0, 1, 2, 3]) (lv' := fun v1 => [(3, .int v1), (0, .ref (gad G 0)), (1, .int x1), (2, .int x2)]) cx dX7_idle_48 rfl (by decide) hF (fun _ => rfl) (fun v1 hF => ?_)
    refine ww_iload_n cx dX7_idle_49 rfl 0 rfl ?_
    refine ww_if_eq cx dX7_idle_50 (tgt := 83) rfl hF (fun hF => ?_) (fun hF => ?_)
    · refine ww_iinc (j := 3) (ks := [0, 2, 3]) (lv' := fun v2 => [(2, .int v2), (0, .ref (gad G 0)), (1, .int x1)]) cx dX7_idle_83 (by decide) rfl ic_1 hF (fun _ => rfl) (fun v2 hF => ?_)
      refine ww_goto cx dX7_idle_86 (tgt := 17) rfl ?_
      exact ww_sub [1, 2, 0] rfl (hk17 _ _ hF)
    · refine ww_aload_n cx dX7_idle_53 rfl 1 rfl ?_
      refine gf_X7_19 cx dX7_idle_54 ?_
      refine ww_aload_n cx dX7_idle_57 rfl 1 rfl ?_
      refine gf_X7_19 cx dX7_idle_58 ?_
      refine gf_X7_109 cx (isTab_3) dX7_idle_61 ?_
      refine ww_iconst cx dX7_idle_64 ic_1 ?_
      refine ww_iload_n cx dX7_idle_65 rfl 3 rfl ?_
      refine ww_ishl cx dX7_idle_66 ?_
      refine ww_iconst cx dX7_idle_67 ic_m1 ?_
      refine ww_ixor cx dX7_idle_68 ?_
      refine ww_iand cx dX7_idle_69 ?_
      refine ww_iload_n cx dX7_idle_70 rfl 3 rfl ?_
      refine ww_V2_pi kv_X7_156 rfl cx ((isTab_3).1) ⟨Nat.le_of_ble_eq_true rfl, Nat.le_of_ble_eq_true rfl⟩ (Nat.le_of_ble_eq_true rfl) dX7_idle_71 (kX6_followsFrom G (isTab_3)) hF (fun r3 hF => ?_)
      refine ww_if_eq cx dX7_idle_74 (tgt := 83) rfl hF (fun hF => ?_) (fun hF => ?_)
      · refine ww_iinc (j := 3) (ks := [0, 2, 3]) (lv' := fun v4 => [(2, .int v4), (0, .ref (gad G 0)), (1, .int x1)]) cx dX7_idle_83 (by decide) rfl ic_1 hF (fun _ => rfl) (fun v4 hF => ?_)
        refine ww_goto cx dX7_idle_86 (tgt := 17) rfl ?_
        exact ww_sub [1, 2, 0] rfl (hk17 _ _ hF)
      · refine ww_iload_n cx dX7_idle_77 rfl 2 rfl ?_
        refine ww_iconst cx dX7_idle_78 ic_1 ?_
        refine ww_iload_n cx dX7_idle_79 rfl 3 rfl ?_
        refine ww_ishl cx dX7_idle_80 ?_
        refine ww_ior cx dX7_idle_81 ?_
        refine ww_istore_n (ks := [0, 2, 3]) (lv' := fun v5 => [(1, .int v5), (0, .ref (gad G 0)), (2, .int x2)]) cx dX7_idle_82 rfl (by decide) hF (fun _ => rfl) (fun v5 hF => ?_)
        refine ww_iinc (j := 2) (ks := [0, 1, 2]) (lv' := fun v6 => [(2, .int v6), (1, .int v5), (0, .ref (gad G 0))]) cx dX7_idle_83 (by decide) rfl ic_1 hF (fun _ => rfl) (fun v6 hF => ?_)
        refine ww_goto cx dX7_idle_86 (tgt := 17) rfl ?_
        exact ww_sub [2, 1, 0] rfl (hk17 _ _ hF)
  have hl17 : ∀ n : Nat, ∀ (x1 : Int32) (x2 : Int32) , fX7_idle_l17 σ n x1 x2 = some r → WW G X 4 σ [(0, .ref (gad G 0)), (1, .int x1), (2, .int x2)] 17 [] := by
    intro n
    induction n with
    | zero =>
      intro x1 x2 hF
      exact absurd hF (by intro z; cases z)
    | succ n ih =>
      intro x1 x2 hF
      have hk17 := ih
      have hF : fX7_idle_B17 σ (fX7_idle_l17 σ n) x1 x2 = some r := hF
      unfold fX7_idle_B17 at hF
      refine ww_iload_n cx dX7_idle_17 rfl 2 rfl ?_
      refine ww_aload_n cx dX7_idle_18 rfl 0 rfl ?_
      refine gf_X7_19 cx dX7_idle_19 ?_
      refine gf_X7_252 cx (isTab_3) dX7_idle_22 ?_
      refine ww_icmp_ge cx dX7_idle_25 (tgt := 89) rfl hF (fun hF => ?_) (fun hF => ?_)
      · refine ww_iload_n cx dX7_idle_89 rfl 1 rfl ?_
        exact ww_rip hE dX7_idle_90 hF
      · refine ww_aload_n cx dX7_idle_28 rfl 0 rfl ?_
        refine gf_X7_19 cx dX7_idle_29 ?_
        refine gf_X7_109 cx (isTab_3) dX7_idle_32 ?_
        refine ww_iload_n cx dX7_idle_35 rfl 2 rfl ?_
        refine ww_ishr cx dX7_idle_36 ?_
        refine ww_iconst cx dX7_idle_37 ic_1 ?_
        refine ww_iand cx dX7_idle_38 ?_
        refine ww_iconst cx dX7_idle_39 ic_1 ?_
        refine ww_icmp_ne cx dX7_idle_40 (tgt := 47) rfl hF (fun hF => ?_) (fun hF => ?_)
        · refine ww_iconst cx dX7_idle_47 ic_0 ?_
          exact hb48 _ hk17 _ _ _ hF
        · refine ww_iconst cx dX7_idle_43 ic_1 ?_
          refine ww_goto cx dX7_idle_44 (tgt := 48) rfl ?_
          exact hb48 _ hk17 _ _ _ hF
  unfold fX7_idle at hF
  show WW G X 4 σ [(0, .ref (gad G 0))] 0 []
  refine ww_aload_n cx dX7_idle_0 rfl 0 rfl ?_
  refine gf_X7_19 cx dX7_idle_1 ?_
  refine ww_V0_pi kv_X7_149 rfl cx ((isTab_3).1) ⟨Nat.le_of_ble_eq_true rfl, Nat.le_of_ble_eq_true rfl⟩ (Nat.le_of_ble_eq_true rfl) dX7_idle_4 (kX6_isTold G (isTab_3)) hF (fun r7 hF => ?_)
  refine ww_if_ne cx dX7_idle_7 (tgt := 13) rfl hF (fun hF => ?_) (fun hF => ?_)
  · refine ww_iconst cx dX7_idle_13 ic_0 ?_
    refine ww_istore_n (ks := [0, 1]) (lv' := fun v8 => [(1, .int v8), (0, .ref (gad G 0))]) cx dX7_idle_14 rfl (by decide) hF (fun _ => rfl) (fun v8 hF => ?_)
    refine ww_iconst cx dX7_idle_15 ic_0 ?_
    refine ww_istore_n (ks := [0, 1, 2]) (lv' := fun v9 => [(2, .int v9), (1, .int v8), (0, .ref (gad G 0))]) cx dX7_idle_16 rfl (by decide) hF (fun _ => rfl) (fun v9 hF => ?_)
    exact ww_sub [2, 1, 0] rfl (hl17 FU _ _ hF)
  · refine ww_bipush cx dX7_idle_10 bc_m2 ?_
    exact ww_rip hE dX7_idle_12 hF
theorem dX7_leastSaltFor_0 : decode cX7_leastSaltFor 0 = .ok (.aload_n 0, 1) := by decide +kernel
theorem dX7_leastSaltFor_1 : decode cX7_leastSaltFor 1 = .ok (.getfield 52, 3) := by decide +kernel
theorem dX7_leastSaltFor_4 : decode cX7_leastSaltFor 4 = .ok (.aload_n 0, 1) := by decide +kernel
theorem dX7_leastSaltFor_5 : decode cX7_leastSaltFor 5 = .ok (.getfield 19, 3) := by decide +kernel
theorem dX7_leastSaltFor_8 : decode cX7_leastSaltFor 8 = .ok (.invokevirtual 414, 3) := by decide +kernel
theorem dX7_leastSaltFor_11 : decode cX7_leastSaltFor 11 = .ok (.aload_n 0, 1) := by decide +kernel
theorem dX7_leastSaltFor_12 : decode cX7_leastSaltFor 12 = .ok (.getfield 52, 3) := by decide +kernel
theorem dX7_leastSaltFor_15 : decode cX7_leastSaltFor 15 = .ok (.aload_n 0, 1) := by decide +kernel
theorem dX7_leastSaltFor_16 : decode cX7_leastSaltFor 16 = .ok (.getfield 19, 3) := by decide +kernel
theorem dX7_leastSaltFor_19 : decode cX7_leastSaltFor 19 = .ok (.getfield 109, 3) := by decide +kernel
theorem dX7_leastSaltFor_22 : decode cX7_leastSaltFor 22 = .ok (.iload_n 1, 1) := by decide +kernel
theorem dX7_leastSaltFor_23 : decode cX7_leastSaltFor 23 = .ok (.invokevirtual 243, 3) := by decide +kernel
theorem dX7_leastSaltFor_26 : decode cX7_leastSaltFor 26 = .ok (.ireturn, 1) := by decide +kernel
set_option maxRecDepth 4000 in
theorem kX7_leastSaltFor (G : GT) {σ : St} {a1 : Int32} : ∀ (r : Int32) (σo : St) , fX7_leastSaltFor σ a1 = some (r, σo) → MCt G 4 yX7_leastSaltFor cX7_leastSaltFor 2 (some .int) [.ref (gad G 0), .int a1] σ (some (.int r)) σo := by
  intro r σo hF
  refine met_i (by decide) (Nat.le_of_ble_eq_true rfl) (fun X cx hE => ?_)
  have cx : Cx G X RX7 cX7_leastSaltFor 2 4 := cx
  unfold fX7_leastSaltFor at hF
  show WW G X 2 σ [(0, .ref (gad G 0)), (1, .int a1)] 0 []
  refine ww_aload_n cx dX7_leastSaltFor_0 rfl 0 rfl ?_
  refine gf_X7_52 cx dX7_leastSaltFor_1 ?_
  refine ww_aload_n cx dX7_leastSaltFor_4 rfl 0 rfl ?_
  refine gf_X7_19 cx dX7_leastSaltFor_5 ?_
  refine ww_V1_sv kv_X7_414 rfl cx ((isShe_51).1) ⟨Nat.le_of_ble_eq_true rfl, Nat.le_of_ble_eq_true rfl⟩ (Nat.le_of_ble_eq_true rfl) dX7_leastSaltFor_8 (kX5_fillWithSaltProofs G (isShe_51) (isTab_3)) hF (fun σ1 hF => ?_)
  refine ww_aload_n cx dX7_leastSaltFor_11 rfl 0 rfl ?_
  refine gf_X7_52 cx dX7_leastSaltFor_12 ?_
  refine ww_aload_n cx dX7_leastSaltFor_15 rfl 0 rfl ?_
  refine gf_X7_19 cx dX7_leastSaltFor_16 ?_
  refine gf_X7_109 cx (isTab_3) dX7_leastSaltFor_19 ?_
  refine ww_iload_n cx dX7_leastSaltFor_22 rfl 1 rfl ?_
  refine ww_V2_pi kv_X7_243 rfl cx ((isShe_51).1) ⟨Nat.le_of_ble_eq_true rfl, Nat.le_of_ble_eq_true rfl⟩ (Nat.le_of_ble_eq_true rfl) dX7_leastSaltFor_23 (kX5_leastSet G (isShe_51)) hF (fun r2 hF => ?_)
  exact ww_ris hE dX7_leastSaltFor_26 hF
theorem dX7_reached_0 : decode cX7_reached 0 = .ok (.aload_n 0, 1) := by decide +kernel
theorem dX7_reached_1 : decode cX7_reached 1 = .ok (.iload_n 1, 1) := by decide +kernel
theorem dX7_reached_2 : decode cX7_reached 2 = .ok (.invokevirtual 173, 3) := by decide +kernel
theorem dX7_reached_5 : decode cX7_reached 5 = .ok (.istore_n 2, 1) := by decide +kernel
theorem dX7_reached_6 : decode cX7_reached 6 = .ok (.iload_n 2, 1) := by decide +kernel
theorem dX7_reached_7 : decode cX7_reached 7 = .ok (.ifCond .eq 5, 3) := by decide +kernel
theorem dX7_reached_10 : decode cX7_reached 10 = .ok (.iload_n 2, 1) := by decide +kernel
theorem dX7_reached_11 : decode cX7_reached 11 = .ok (.ireturn, 1) := by decide +kernel
theorem dX7_reached_12 : decode cX7_reached 12 = .ok (.aload_n 0, 1) := by decide +kernel
theorem dX7_reached_13 : decode cX7_reached 13 = .ok (.getfield 58, 3) := by decide +kernel
theorem dX7_reached_16 : decode cX7_reached 16 = .ok (.aload_n 0, 1) := by decide +kernel
theorem dX7_reached_17 : decode cX7_reached 17 = .ok (.getfield 19, 3) := by decide +kernel
theorem dX7_reached_20 : decode cX7_reached 20 = .ok (.aload_n 0, 1) := by decide +kernel
theorem dX7_reached_21 : decode cX7_reached 21 = .ok (.getfield 36, 3) := by decide +kernel
theorem dX7_reached_24 : decode cX7_reached 24 = .ok (.iload_n 1, 1) := by decide +kernel
theorem dX7_reached_25 : decode cX7_reached 25 = .ok (.aaload, 1) := by decide +kernel
theorem dX7_reached_26 : decode cX7_reached 26 = .ok (.invokevirtual 176, 3) := by decide +kernel
theorem dX7_reached_29 : decode cX7_reached 29 = .ok (.aload_n 0, 1) := by decide +kernel
theorem dX7_reached_30 : decode cX7_reached 30 = .ok (.getfield 58, 3) := by decide +kernel
theorem dX7_reached_33 : decode cX7_reached 33 = .ok (.getfield 186, 3) := by decide +kernel
theorem dX7_reached_36 : decode cX7_reached 36 = .ok (.ireturn, 1) := by decide +kernel
set_option maxRecDepth 4000 in
theorem kX7_reached (G : GT) {σ : St} {a1 : Int32} : ∀ (r : Int32) (σo : St) , fX7_reached σ a1 = some (r, σo) → MCt G 4 yX7_reached cX7_reached 3 (some .int) [.ref (gad G 0), .int a1] σ (some (.int r)) σo := by
  intro r σo hF
  refine met_i (by decide) (Nat.le_of_ble_eq_true rfl) (fun X cx hE => ?_)
  have cx : Cx G X RX7 cX7_reached 3 4 := cx
  unfold fX7_reached at hF
  show WW G X 3 σ [(0, .ref (gad G 0)), (1, .int a1)] 0 []
  refine ww_aload_n cx dX7_reached_0 rfl 0 rfl ?_
  refine ww_iload_n cx dX7_reached_1 rfl 1 rfl ?_
  refine ww_V1_pi kv_X7_173 rfl cx sh_0 ⟨Nat.le_of_ble_eq_true rfl, Nat.le_of_ble_eq_true rfl⟩ (Nat.le_of_ble_eq_true rfl) dX7_reached_2 (kX7_refusalOfSteps G) hF (fun r1 hF => ?_)
  refine ww_istore_n (ks := [0, 1, 2]) (lv' := fun v2 => [(2, .int v2), (0, .ref (gad G 0)), (1, .int a1)]) cx dX7_reached_5 rfl (by decide) hF (fun _ => rfl) (fun v2 hF => ?_)
  refine ww_iload_n cx dX7_reached_6 rfl 0 rfl ?_
  refine ww_if_eq cx dX7_reached_7 (tgt := 12) rfl hF (fun hF => ?_) (fun hF => ?_)
  · refine ww_aload_n cx dX7_reached_12 rfl 1 rfl ?_
    refine gf_X7_58 cx dX7_reached_13 ?_
    refine ww_aload_n cx dX7_reached_16 rfl 1 rfl ?_
    refine gf_X7_19 cx dX7_reached_17 ?_
    refine ww_aload_n cx dX7_reached_20 rfl 1 rfl ?_
    refine gf_X7_36 cx dX7_reached_21 ?_
    refine ww_iload_n cx dX7_reached_24 rfl 2 rfl ?_
    refine ww_aaldR cx dX7_reached_25 hF (fun k3 hk3 hF => ?_)
    refine ww_V2_sv kv_X7_176 rfl cx sh_53 ⟨Nat.le_of_ble_eq_true rfl, Nat.le_of_ble_eq_true rfl⟩ (Nat.le_of_ble_eq_true rfl) dX7_reached_26 (kX3_read G (isTab_3) (hk3)) hF (fun σ4 hF => ?_)
    refine ww_aload_n cx dX7_reached_29 rfl 1 rfl ?_
    refine gf_X7_58 cx dX7_reached_30 ?_
    refine gf_X7_186 cx dX7_reached_33 ?_
    exact ww_ris hE dX7_reached_36 hF
  · refine ww_iload_n cx dX7_reached_10 rfl 0 rfl ?_
    exact ww_ris hE dX7_reached_11 hF
theorem dX7_reads_0 : decode cX7_reads 0 = .ok (.aload_n 0, 1) := by decide +kernel
theorem dX7_reads_1 : decode cX7_reads 1 = .ok (.iload_n 1, 1) := by decide +kernel
theorem dX7_reads_2 : decode cX7_reads 2 = .ok (.invokevirtual 173, 3) := by decide +kernel
theorem dX7_reads_5 : decode cX7_reads 5 = .ok (.istore_n 2, 1) := by decide +kernel
theorem dX7_reads_6 : decode cX7_reads 6 = .ok (.iload_n 2, 1) := by decide +kernel
theorem dX7_reads_7 : decode cX7_reads 7 = .ok (.ifCond .eq 5, 3) := by decide +kernel
theorem dX7_reads_10 : decode cX7_reads 10 = .ok (.iload_n 2, 1) := by decide +kernel
theorem dX7_reads_11 : decode cX7_reads 11 = .ok (.ireturn, 1) := by decide +kernel
theorem dX7_reads_12 : decode cX7_reads 12 = .ok (.aload_n 0, 1) := by decide +kernel
theorem dX7_reads_13 : decode cX7_reads 13 = .ok (.getfield 58, 3) := by decide +kernel
theorem dX7_reads_16 : decode cX7_reads 16 = .ok (.aload_n 0, 1) := by decide +kernel
theorem dX7_reads_17 : decode cX7_reads 17 = .ok (.getfield 19, 3) := by decide +kernel
theorem dX7_reads_20 : decode cX7_reads 20 = .ok (.aload_n 0, 1) := by decide +kernel
theorem dX7_reads_21 : decode cX7_reads 21 = .ok (.getfield 36, 3) := by decide +kernel
theorem dX7_reads_24 : decode cX7_reads 24 = .ok (.iload_n 1, 1) := by decide +kernel
theorem dX7_reads_25 : decode cX7_reads 25 = .ok (.aaload, 1) := by decide +kernel
theorem dX7_reads_26 : decode cX7_reads 26 = .ok (.invokevirtual 176, 3) := by decide +kernel
theorem dX7_reads_29 : decode cX7_reads 29 = .ok (.aload_n 0, 1) := by decide +kernel
theorem dX7_reads_30 : decode cX7_reads 30 = .ok (.getfield 58, 3) := by decide +kernel
theorem dX7_reads_33 : decode cX7_reads 33 = .ok (.getfield 180, 3) := by decide +kernel
theorem dX7_reads_36 : decode cX7_reads 36 = .ok (.ireturn, 1) := by decide +kernel
set_option maxRecDepth 4000 in
theorem kX7_reads (G : GT) {σ : St} {a1 : Int32} : ∀ (r : Int32) (σo : St) , fX7_reads σ a1 = some (r, σo) → MCt G 4 yX7_reads cX7_reads 3 (some .int) [.ref (gad G 0), .int a1] σ (some (.int r)) σo := by
  intro r σo hF
  refine met_i (by decide) (Nat.le_of_ble_eq_true rfl) (fun X cx hE => ?_)
  have cx : Cx G X RX7 cX7_reads 3 4 := cx
  unfold fX7_reads at hF
  show WW G X 3 σ [(0, .ref (gad G 0)), (1, .int a1)] 0 []
  refine ww_aload_n cx dX7_reads_0 rfl 0 rfl ?_
  refine ww_iload_n cx dX7_reads_1 rfl 1 rfl ?_
  refine ww_V1_pi kv_X7_173 rfl cx sh_0 ⟨Nat.le_of_ble_eq_true rfl, Nat.le_of_ble_eq_true rfl⟩ (Nat.le_of_ble_eq_true rfl) dX7_reads_2 (kX7_refusalOfSteps G) hF (fun r1 hF => ?_)
  refine ww_istore_n (ks := [0, 1, 2]) (lv' := fun v2 => [(2, .int v2), (0, .ref (gad G 0)), (1, .int a1)]) cx dX7_reads_5 rfl (by decide) hF (fun _ => rfl) (fun v2 hF => ?_)
  refine ww_iload_n cx dX7_reads_6 rfl 0 rfl ?_
  refine ww_if_eq cx dX7_reads_7 (tgt := 12) rfl hF (fun hF => ?_) (fun hF => ?_)
  · refine ww_aload_n cx dX7_reads_12 rfl 1 rfl ?_
    refine gf_X7_58 cx dX7_reads_13 ?_
    refine ww_aload_n cx dX7_reads_16 rfl 1 rfl ?_
    refine gf_X7_19 cx dX7_reads_17 ?_
    refine ww_aload_n cx dX7_reads_20 rfl 1 rfl ?_
    refine gf_X7_36 cx dX7_reads_21 ?_
    refine ww_iload_n cx dX7_reads_24 rfl 2 rfl ?_
    refine ww_aaldR cx dX7_reads_25 hF (fun k3 hk3 hF => ?_)
    refine ww_V2_sv kv_X7_176 rfl cx sh_53 ⟨Nat.le_of_ble_eq_true rfl, Nat.le_of_ble_eq_true rfl⟩ (Nat.le_of_ble_eq_true rfl) dX7_reads_26 (kX3_read G (isTab_3) (hk3)) hF (fun σ4 hF => ?_)
    refine ww_aload_n cx dX7_reads_29 rfl 1 rfl ?_
    refine gf_X7_58 cx dX7_reads_30 ?_
    refine gf_X7_180 cx dX7_reads_33 ?_
    exact ww_ris hE dX7_reads_36 hF
  · refine ww_iload_n cx dX7_reads_10 rfl 0 rfl ?_
    exact ww_ris hE dX7_reads_11 hF
