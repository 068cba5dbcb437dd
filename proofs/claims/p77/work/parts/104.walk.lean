theorem dX8_cooks_0 : decode cX8_cooks 0 = .ok (.aload_n 0, 1) := by decide +kernel
theorem dX8_cooks_1 : decode cX8_cooks 1 = .ok (.iload_n 1, 1) := by decide +kernel
theorem dX8_cooks_2 : decode cX8_cooks 2 = .ok (.iconst 1, 1) := by decide +kernel
theorem dX8_cooks_3 : decode cX8_cooks 3 = .ok (.invokevirtual 282, 3) := by decide +kernel
theorem dX8_cooks_6 : decode cX8_cooks 6 = .ok (.iload_n 2, 1) := by decide +kernel
theorem dX8_cooks_7 : decode cX8_cooks 7 = .ok (.invokestatic 168, 3) := by decide +kernel
theorem dX8_cooks_10 : decode cX8_cooks 10 = .ok (.ifCond .ne 5, 3) := by decide +kernel
theorem dX8_cooks_13 : decode cX8_cooks 13 = .ok (.iconst 0, 1) := by decide +kernel
theorem dX8_cooks_14 : decode cX8_cooks 14 = .ok (.ireturn, 1) := by decide +kernel
theorem dX8_cooks_15 : decode cX8_cooks 15 = .ok (.aload_n 0, 1) := by decide +kernel
theorem dX8_cooks_16 : decode cX8_cooks 16 = .ok (.getfield 52, 3) := by decide +kernel
theorem dX8_cooks_19 : decode cX8_cooks 19 = .ok (.iload_n 1, 1) := by decide +kernel
theorem dX8_cooks_20 : decode cX8_cooks 20 = .ok (.iaload, 1) := by decide +kernel
theorem dX8_cooks_21 : decode cX8_cooks 21 = .ok (.istore_n 3, 1) := by decide +kernel
theorem dX8_cooks_22 : decode cX8_cooks 22 = .ok (.iconst 0, 1) := by decide +kernel
theorem dX8_cooks_23 : decode cX8_cooks 23 = .ok (.istore 4, 2) := by decide +kernel
theorem dX8_cooks_25 : decode cX8_cooks 25 = .ok (.iload 4, 2) := by decide +kernel
theorem dX8_cooks_27 : decode cX8_cooks 27 = .ok (.aload_n 0, 1) := by decide +kernel
theorem dX8_cooks_28 : decode cX8_cooks 28 = .ok (.getfield 9, 3) := by decide +kernel
theorem dX8_cooks_31 : decode cX8_cooks 31 = .ok (.iconst 3, 1) := by decide +kernel
theorem dX8_cooks_32 : decode cX8_cooks 32 = .ok (.iaload, 1) := by decide +kernel
theorem dX8_cooks_33 : decode cX8_cooks 33 = .ok (.if_icmp .ge 51, 3) := by decide +kernel
theorem dX8_cooks_36 : decode cX8_cooks 36 = .ok (.aload_n 0, 1) := by decide +kernel
theorem dX8_cooks_37 : decode cX8_cooks 37 = .ok (.iload_n 2, 1) := by decide +kernel
theorem dX8_cooks_38 : decode cX8_cooks 38 = .ok (.iconst 1, 1) := by decide +kernel
theorem dX8_cooks_39 : decode cX8_cooks 39 = .ok (.invokevirtual 263, 3) := by decide +kernel
theorem dX8_cooks_42 : decode cX8_cooks 42 = .ok (.iload 4, 2) := by decide +kernel
theorem dX8_cooks_44 : decode cX8_cooks 44 = .ok (.invokestatic 168, 3) := by decide +kernel
theorem dX8_cooks_47 : decode cX8_cooks 47 = .ok (.ifCond .ne 6, 3) := by decide +kernel
theorem dX8_cooks_50 : decode cX8_cooks 50 = .ok (.goto 28, 3) := by decide +kernel
theorem dX8_cooks_53 : decode cX8_cooks 53 = .ok (.aload_n 0, 1) := by decide +kernel
theorem dX8_cooks_54 : decode cX8_cooks 54 = .ok (.getfield 46, 3) := by decide +kernel
theorem dX8_cooks_57 : decode cX8_cooks 57 = .ok (.iload 4, 2) := by decide +kernel
theorem dX8_cooks_59 : decode cX8_cooks 59 = .ok (.iaload, 1) := by decide +kernel
theorem dX8_cooks_60 : decode cX8_cooks 60 = .ok (.iconst (-1), 1) := by decide +kernel
theorem dX8_cooks_61 : decode cX8_cooks 61 = .ok (.if_icmp .ne 5, 3) := by decide +kernel
theorem dX8_cooks_64 : decode cX8_cooks 64 = .ok (.iconst 0, 1) := by decide +kernel
theorem dX8_cooks_65 : decode cX8_cooks 65 = .ok (.ireturn, 1) := by decide +kernel
theorem dX8_cooks_66 : decode cX8_cooks 66 = .ok (.iload_n 3, 1) := by decide +kernel
theorem dX8_cooks_67 : decode cX8_cooks 67 = .ok (.aload_n 0, 1) := by decide +kernel
theorem dX8_cooks_68 : decode cX8_cooks 68 = .ok (.getfield 46, 3) := by decide +kernel
theorem dX8_cooks_71 : decode cX8_cooks 71 = .ok (.iload 4, 2) := by decide +kernel
theorem dX8_cooks_73 : decode cX8_cooks 73 = .ok (.iaload, 1) := by decide +kernel
theorem dX8_cooks_74 : decode cX8_cooks 74 = .ok (.invokestatic 397, 3) := by decide +kernel
theorem dX8_cooks_77 : decode cX8_cooks 77 = .ok (.istore_n 3, 1) := by decide +kernel
theorem dX8_cooks_78 : decode cX8_cooks 78 = .ok (.iinc 4 1, 3) := by decide +kernel
theorem dX8_cooks_81 : decode cX8_cooks 81 = .ok (.goto (-56), 3) := by decide +kernel
theorem dX8_cooks_84 : decode cX8_cooks 84 = .ok (.iload_n 3, 1) := by decide +kernel
theorem dX8_cooks_85 : decode cX8_cooks 85 = .ok (.aload_n 0, 1) := by decide +kernel
theorem dX8_cooks_86 : decode cX8_cooks 86 = .ok (.iload_n 1, 1) := by decide +kernel
theorem dX8_cooks_87 : decode cX8_cooks 87 = .ok (.iconst 0, 1) := by decide +kernel
theorem dX8_cooks_88 : decode cX8_cooks 88 = .ok (.invokevirtual 282, 3) := by decide +kernel
theorem dX8_cooks_91 : decode cX8_cooks 91 = .ok (.iadd, 1) := by decide +kernel
theorem dX8_cooks_92 : decode cX8_cooks 92 = .ok (.istore_n 3, 1) := by decide +kernel
theorem dX8_cooks_93 : decode cX8_cooks 93 = .ok (.iload_n 3, 1) := by decide +kernel
theorem dX8_cooks_94 : decode cX8_cooks 94 = .ok (.aload_n 0, 1) := by decide +kernel
theorem dX8_cooks_95 : decode cX8_cooks 95 = .ok (.getfield 9, 3) := by decide +kernel
theorem dX8_cooks_98 : decode cX8_cooks 98 = .ok (.iconst 1, 1) := by decide +kernel
theorem dX8_cooks_99 : decode cX8_cooks 99 = .ok (.iaload, 1) := by decide +kernel
theorem dX8_cooks_100 : decode cX8_cooks 100 = .ok (.if_icmp .le 5, 3) := by decide +kernel
theorem dX8_cooks_103 : decode cX8_cooks 103 = .ok (.iconst 0, 1) := by decide +kernel
theorem dX8_cooks_104 : decode cX8_cooks 104 = .ok (.ireturn, 1) := by decide +kernel
theorem dX8_cooks_105 : decode cX8_cooks 105 = .ok (.aload_n 0, 1) := by decide +kernel
theorem dX8_cooks_106 : decode cX8_cooks 106 = .ok (.getfield 52, 3) := by decide +kernel
theorem dX8_cooks_109 : decode cX8_cooks 109 = .ok (.iload_n 1, 1) := by decide +kernel
theorem dX8_cooks_110 : decode cX8_cooks 110 = .ok (.iload_n 3, 1) := by decide +kernel
theorem dX8_cooks_111 : decode cX8_cooks 111 = .ok (.iastore, 1) := by decide +kernel
theorem dX8_cooks_112 : decode cX8_cooks 112 = .ok (.aload_n 0, 1) := by decide +kernel
theorem dX8_cooks_113 : decode cX8_cooks 113 = .ok (.getfield 55, 3) := by decide +kernel
theorem dX8_cooks_116 : decode cX8_cooks 116 = .ok (.iload_n 1, 1) := by decide +kernel
theorem dX8_cooks_117 : decode cX8_cooks 117 = .ok (.dup2, 1) := by decide +kernel
theorem dX8_cooks_118 : decode cX8_cooks 118 = .ok (.iaload, 1) := by decide +kernel
theorem dX8_cooks_119 : decode cX8_cooks 119 = .ok (.aload_n 0, 1) := by decide +kernel
theorem dX8_cooks_120 : decode cX8_cooks 120 = .ok (.iload_n 1, 1) := by decide +kernel
theorem dX8_cooks_121 : decode cX8_cooks 121 = .ok (.iconst 0, 1) := by decide +kernel
theorem dX8_cooks_122 : decode cX8_cooks 122 = .ok (.invokevirtual 282, 3) := by decide +kernel
theorem dX8_cooks_125 : decode cX8_cooks 125 = .ok (.iadd, 1) := by decide +kernel
theorem dX8_cooks_126 : decode cX8_cooks 126 = .ok (.iastore, 1) := by decide +kernel
theorem dX8_cooks_127 : decode cX8_cooks 127 = .ok (.aload_n 0, 1) := by decide +kernel
theorem dX8_cooks_128 : decode cX8_cooks 128 = .ok (.aload_n 0, 1) := by decide +kernel
theorem dX8_cooks_129 : decode cX8_cooks 129 = .ok (.getfield 400, 3) := by decide +kernel
theorem dX8_cooks_132 : decode cX8_cooks 132 = .ok (.iload_n 3, 1) := by decide +kernel
theorem dX8_cooks_133 : decode cX8_cooks 133 = .ok (.invokestatic 397, 3) := by decide +kernel
theorem dX8_cooks_136 : decode cX8_cooks 136 = .ok (.putfield 400, 3) := by decide +kernel
theorem dX8_cooks_139 : decode cX8_cooks 139 = .ok (.aload_n 0, 1) := by decide +kernel
theorem dX8_cooks_140 : decode cX8_cooks 140 = .ok (.iload_n 2, 1) := by decide +kernel
theorem dX8_cooks_141 : decode cX8_cooks 141 = .ok (.iconst 0, 1) := by decide +kernel
theorem dX8_cooks_142 : decode cX8_cooks 142 = .ok (.invokevirtual 263, 3) := by decide +kernel
theorem dX8_cooks_145 : decode cX8_cooks 145 = .ok (.istore 4, 2) := by decide +kernel
theorem dX8_cooks_147 : decode cX8_cooks 147 = .ok (.aload_n 0, 1) := by decide +kernel
theorem dX8_cooks_148 : decode cX8_cooks 148 = .ok (.getfield 46, 3) := by decide +kernel
theorem dX8_cooks_151 : decode cX8_cooks 151 = .ok (.iload 4, 2) := by decide +kernel
theorem dX8_cooks_153 : decode cX8_cooks 153 = .ok (.aload_n 0, 1) := by decide +kernel
theorem dX8_cooks_154 : decode cX8_cooks 154 = .ok (.getfield 46, 3) := by decide +kernel
theorem dX8_cooks_157 : decode cX8_cooks 157 = .ok (.iload 4, 2) := by decide +kernel
theorem dX8_cooks_159 : decode cX8_cooks 159 = .ok (.iaload, 1) := by decide +kernel
theorem dX8_cooks_160 : decode cX8_cooks 160 = .ok (.iconst (-1), 1) := by decide +kernel
theorem dX8_cooks_161 : decode cX8_cooks 161 = .ok (.if_icmp .ne 7, 3) := by decide +kernel
theorem dX8_cooks_164 : decode cX8_cooks 164 = .ok (.iload_n 3, 1) := by decide +kernel
theorem dX8_cooks_165 : decode cX8_cooks 165 = .ok (.goto 14, 3) := by decide +kernel
theorem dX8_cooks_168 : decode cX8_cooks 168 = .ok (.aload_n 0, 1) := by decide +kernel
theorem dX8_cooks_169 : decode cX8_cooks 169 = .ok (.getfield 46, 3) := by decide +kernel
theorem dX8_cooks_172 : decode cX8_cooks 172 = .ok (.iload 4, 2) := by decide +kernel
theorem dX8_cooks_174 : decode cX8_cooks 174 = .ok (.iaload, 1) := by decide +kernel
theorem dX8_cooks_175 : decode cX8_cooks 175 = .ok (.iload_n 3, 1) := by decide +kernel
theorem dX8_cooks_176 : decode cX8_cooks 176 = .ok (.invokestatic 126, 3) := by decide +kernel
theorem dX8_cooks_179 : decode cX8_cooks 179 = .ok (.iastore, 1) := by decide +kernel
theorem dX8_cooks_180 : decode cX8_cooks 180 = .ok (.aload_n 0, 1) := by decide +kernel
theorem dX8_cooks_181 : decode cX8_cooks 181 = .ok (.getfield 49, 3) := by decide +kernel
theorem dX8_cooks_184 : decode cX8_cooks 184 = .ok (.iload 4, 2) := by decide +kernel
theorem dX8_cooks_186 : decode cX8_cooks 186 = .ok (.dup2, 1) := by decide +kernel
theorem dX8_cooks_187 : decode cX8_cooks 187 = .ok (.iaload, 1) := by decide +kernel
theorem dX8_cooks_188 : decode cX8_cooks 188 = .ok (.iconst 1, 1) := by decide +kernel
theorem dX8_cooks_189 : decode cX8_cooks 189 = .ok (.iload_n 1, 1) := by decide +kernel
theorem dX8_cooks_190 : decode cX8_cooks 190 = .ok (.ishl, 1) := by decide +kernel
theorem dX8_cooks_191 : decode cX8_cooks 191 = .ok (.ior, 1) := by decide +kernel
theorem dX8_cooks_192 : decode cX8_cooks 192 = .ok (.iastore, 1) := by decide +kernel
theorem dX8_cooks_193 : decode cX8_cooks 193 = .ok (.iconst 1, 1) := by decide +kernel
theorem dX8_cooks_194 : decode cX8_cooks 194 = .ok (.ireturn, 1) := by decide +kernel
set_option maxRecDepth 4000 in
theorem kX8_cooks (G : GT) {σ : St} {a1 : Int32} {a2 : Int32} : ∀ (r : Int32) (σo : St) , fX8_cooks σ a1 a2 = some (r, σo) → MCt G 2 yX8_cooks cX8_cooks 5 (some .boolean) [.ref (gad G 62), .int a1, .int a2] σ (some (.int r)) σo := by
  intro r σo hF
  refine met_zz (by decide) (Nat.le_of_ble_eq_true rfl) (fun X cx hE => ?_)
  have cx : Cx G X RX8 cX8_cooks 5 2 := cx
  have hb179 : ∀ (σ : St) (x1 : Int32) (x4 : Int32) (y1 : Int32) (y2 : Int32) , fX8_cooks_b179 σ x1 x4 y1 y2 = some (r, σo) → WW G X 5 σ [(0, .ref (gad G 62)), (1, .int x1), (4, .int x4)] 179 [.int y2, .int y1, .ref (gad G 73)] := by
    intro σ x1 x4 y1 y2 hF
    unfold fX8_cooks_b179 at hF
    refine ww_iast (N := 12) cx (sh_73) dX8_cooks_179 hF (fun σ1 hF => ?_)
    refine ww_aload_n cx dX8_cooks_180 rfl 0 rfl ?_
    refine gf_X8_49 cx dX8_cooks_181 ?_
    refine ww_iload cx dX8_cooks_184 2 rfl ?_
    refine ww_dup2 cx dX8_cooks_186 rfl rfl ?_
    refine ww_iald (N := 12) cx (sh_74) dX8_cooks_187 hF (fun hF => ?_)
    refine ww_iconst cx dX8_cooks_188 ic_1 ?_
    refine ww_iload_n cx dX8_cooks_189 rfl 1 rfl ?_
    refine ww_ishl cx dX8_cooks_190 ?_
    refine ww_ior cx dX8_cooks_191 ?_
    refine ww_iast (N := 12) cx (sh_74) dX8_cooks_192 hF (fun σ2 hF => ?_)
    refine ww_iconst cx dX8_cooks_193 ic_1 ?_
    exact ww_rzs hE dX8_cooks_194 hF
  have hl25 : ∀ n : Nat, ∀ (σ : St) (x1 : Int32) (x2 : Int32) (x3 : Int32) (x4 : Int32) , fX8_cooks_l25 n σ x1 x2 x3 x4 = some (r, σo) → WW G X 5 σ [(0, .ref (gad G 62)), (1, .int x1), (2, .int x2), (3, .int x3), (4, .int x4)] 25 [] := by
    intro n
    induction n with
    | zero =>
      intro σ x1 x2 x3 x4 hF
      exact absurd hF (by intro z; cases z)
    | succ n ih =>
      intro σ x1 x2 x3 x4 hF
      have hk25 := ih
      have hF : fX8_cooks_B25 (fX8_cooks_l25 n) σ x1 x2 x3 x4 = some (r, σo) := hF
      unfold fX8_cooks_B25 at hF
      refine ww_iload cx dX8_cooks_25 4 rfl ?_
      refine ww_aload_n cx dX8_cooks_27 rfl 0 rfl ?_
      refine gf_X8_9 cx dX8_cooks_28 ?_
      refine ww_iconst cx dX8_cooks_31 ic_3 ?_
      refine ww_iald (N := 77) cx (sh_63) dX8_cooks_32 hF (fun hF => ?_)
      refine ww_icmp_ge cx dX8_cooks_33 (tgt := 84) rfl hF (fun hF => ?_) (fun hF => ?_)
      · refine ww_iload_n cx dX8_cooks_84 rfl 3 rfl ?_
        refine ww_aload_n cx dX8_cooks_85 rfl 0 rfl ?_
        refine ww_iload_n cx dX8_cooks_86 rfl 1 rfl ?_
        refine ww_iconst cx dX8_cooks_87 ic_0 ?_
        refine ww_V2_pi kv_X8_282 rfl cx sh_62 ⟨Nat.le_of_ble_eq_true rfl, Nat.le_of_ble_eq_true rfl⟩ (Nat.le_of_ble_eq_true rfl) dX8_cooks_88 (kX8_ofGuest G) hF (fun r3 hF => ?_)
        refine ww_iadd cx dX8_cooks_91 ?_
        refine ww_istore_n (ks := [0, 1, 2, 3]) (lv' := fun v4 => [(3, .int v4), (0, .ref (gad G 62)), (1, .int x1), (2, .int x2)]) cx dX8_cooks_92 rfl (by decide) hF (fun _ => rfl) (fun v4 hF => ?_)
        refine ww_iload_n cx dX8_cooks_93 rfl 0 rfl ?_
        refine ww_aload_n cx dX8_cooks_94 rfl 1 rfl ?_
        refine gf_X8_9 cx dX8_cooks_95 ?_
        refine ww_iconst cx dX8_cooks_98 ic_1 ?_
        refine ww_iald (N := 77) cx (sh_63) dX8_cooks_99 hF (fun hF => ?_)
        refine ww_icmp_le cx dX8_cooks_100 (tgt := 105) rfl hF (fun hF => ?_) (fun hF => ?_)
        · refine ww_aload_n cx dX8_cooks_105 rfl 1 rfl ?_
          refine gf_X8_52 cx dX8_cooks_106 ?_
          refine ww_iload_n cx dX8_cooks_109 rfl 2 rfl ?_
          refine ww_iload_n cx dX8_cooks_110 rfl 0 rfl ?_
          refine ww_iast (N := 5) cx (sh_75) dX8_cooks_111 hF (fun σ5 hF => ?_)
          refine ww_aload_n cx dX8_cooks_112 rfl 1 rfl ?_
          refine gf_X8_55 cx dX8_cooks_113 ?_
          refine ww_iload_n cx dX8_cooks_116 rfl 2 rfl ?_
          refine ww_dup2 cx dX8_cooks_117 rfl rfl ?_
          refine ww_iald (N := 5) cx (sh_76) dX8_cooks_118 hF (fun hF => ?_)
          refine ww_aload_n cx dX8_cooks_119 rfl 1 rfl ?_
          refine ww_iload_n cx dX8_cooks_120 rfl 2 rfl ?_
          refine ww_iconst cx dX8_cooks_121 ic_0 ?_
          refine ww_V2_pi kv_X8_282 rfl cx sh_62 ⟨Nat.le_of_ble_eq_true rfl, Nat.le_of_ble_eq_true rfl⟩ (Nat.le_of_ble_eq_true rfl) dX8_cooks_122 (kX8_ofGuest G) hF (fun r6 hF => ?_)
          refine ww_iadd cx dX8_cooks_125 ?_
          refine ww_iast (N := 5) cx (sh_76) dX8_cooks_126 hF (fun σ7 hF => ?_)
          refine ww_aload_n cx dX8_cooks_127 rfl 1 rfl ?_
          refine ww_aload_n cx dX8_cooks_128 rfl 1 rfl ?_
          refine gf_X8_400 cx dX8_cooks_129 ?_
          refine ww_iload_n cx dX8_cooks_132 rfl 0 rfl ?_
          refine ww_mmax cx ml_X8_397 (by decide) (Nat.le_of_ble_eq_true rfl) dX8_cooks_133 ?_
          refine pf_X8_400 cx dX8_cooks_136 hF (fun σ8 hF => ?_)
          refine ww_aload_n cx dX8_cooks_139 rfl 1 rfl ?_
          refine ww_iload_n cx dX8_cooks_140 rfl 3 rfl ?_
          refine ww_iconst cx dX8_cooks_141 ic_0 ?_
          refine ww_V2_pi kv_X8_263 rfl cx sh_62 ⟨Nat.le_of_ble_eq_true rfl, Nat.le_of_ble_eq_true rfl⟩ (Nat.le_of_ble_eq_true rfl) dX8_cooks_142 (kX8_ofStep G) hF (fun r9 hF => ?_)
          refine ww_istore (ks := [0, 1, 2, 3]) (lv' := fun v10 => [(4, .int v10), (3, .int v4), (0, .ref (gad G 62)), (1, .int x1)]) cx dX8_cooks_145 (by decide) hF (fun _ => rfl) (fun v10 hF => ?_)
          refine ww_aload_n cx dX8_cooks_147 rfl 2 rfl ?_
          refine gf_X8_46 cx dX8_cooks_148 ?_
          refine ww_iload cx dX8_cooks_151 0 rfl ?_
          refine ww_aload_n cx dX8_cooks_153 rfl 2 rfl ?_
          refine gf_X8_46 cx dX8_cooks_154 ?_
          refine ww_iload cx dX8_cooks_157 0 rfl ?_
          refine ww_iald (N := 12) cx (sh_73) dX8_cooks_159 hF (fun hF => ?_)
          refine ww_iconst cx dX8_cooks_160 ic_m1 ?_
          refine ww_icmp_ne cx dX8_cooks_161 (tgt := 168) rfl hF (fun hF => ?_) (fun hF => ?_)
          · refine ww_aload_n cx dX8_cooks_168 rfl 2 rfl ?_
            refine gf_X8_46 cx dX8_cooks_169 ?_
            refine ww_iload cx dX8_cooks_172 0 rfl ?_
            refine ww_iald (N := 12) cx (sh_73) dX8_cooks_174 hF (fun hF => ?_)
            refine ww_iload_n cx dX8_cooks_175 rfl 1 rfl ?_
            refine ww_mmin cx ml_X8_126 (by decide) (Nat.le_of_ble_eq_true rfl) dX8_cooks_176 ?_
            exact ww_sub [2, 3, 0] rfl (hb179 _ _ _ _ _ hF)
          · refine ww_iload_n cx dX8_cooks_164 rfl 1 rfl ?_
            refine ww_goto cx dX8_cooks_165 (tgt := 179) rfl ?_
            exact ww_sub [2, 3, 0] rfl (hb179 _ _ _ _ _ hF)
        · refine ww_iconst cx dX8_cooks_103 ic_0 ?_
          exact ww_rzs hE dX8_cooks_104 hF
      · refine ww_aload_n cx dX8_cooks_36 rfl 0 rfl ?_
        refine ww_iload_n cx dX8_cooks_37 rfl 2 rfl ?_
        refine ww_iconst cx dX8_cooks_38 ic_1 ?_
        refine ww_V2_pi kv_X8_263 rfl cx sh_62 ⟨Nat.le_of_ble_eq_true rfl, Nat.le_of_ble_eq_true rfl⟩ (Nat.le_of_ble_eq_true rfl) dX8_cooks_39 (kX8_ofStep G) hF (fun r11 hF => ?_)
        refine ww_iload cx dX8_cooks_42 4 rfl ?_
        refine ww_S2_pi kv_X8_168 cx ⟨Nat.le_of_ble_eq_true rfl, Nat.le_of_ble_eq_true rfl⟩ (Nat.le_of_ble_eq_true rfl) dX8_cooks_44 (kX8_bit G) hF (fun r12 hF => ?_)
        refine ww_if_ne cx dX8_cooks_47 (tgt := 53) rfl hF (fun hF => ?_) (fun hF => ?_)
        · refine ww_aload_n cx dX8_cooks_53 rfl 0 rfl ?_
          refine gf_X8_46 cx dX8_cooks_54 ?_
          refine ww_iload cx dX8_cooks_57 4 rfl ?_
          refine ww_iald (N := 12) cx (sh_73) dX8_cooks_59 hF (fun hF => ?_)
          refine ww_iconst cx dX8_cooks_60 ic_m1 ?_
          refine ww_icmp_ne cx dX8_cooks_61 (tgt := 66) rfl hF (fun hF => ?_) (fun hF => ?_)
          · refine ww_iload_n cx dX8_cooks_66 rfl 3 rfl ?_
            refine ww_aload_n cx dX8_cooks_67 rfl 0 rfl ?_
            refine gf_X8_46 cx dX8_cooks_68 ?_
            refine ww_iload cx dX8_cooks_71 4 rfl ?_
            refine ww_iald (N := 12) cx (sh_73) dX8_cooks_73 hF (fun hF => ?_)
            refine ww_mmax cx ml_X8_397 (by decide) (Nat.le_of_ble_eq_true rfl) dX8_cooks_74 ?_
            refine ww_istore_n (ks := [0, 1, 2, 3, 4]) (lv' := fun v13 => [(3, .int v13), (0, .ref (gad G 62)), (1, .int x1), (2, .int x2), (4, .int x4)]) cx dX8_cooks_77 rfl (by decide) hF (fun _ => rfl) (fun v13 hF => ?_)
            refine ww_iinc (j := 4) (ks := [0, 1, 2, 3, 4]) (lv' := fun v14 => [(4, .int v14), (3, .int v13), (0, .ref (gad G 62)), (1, .int x1), (2, .int x2)]) cx dX8_cooks_78 (by decide) rfl ic_1 hF (fun _ => rfl) (fun v14 hF => ?_)
            refine ww_goto cx dX8_cooks_81 (tgt := 25) rfl ?_
            exact ww_sub [2, 3, 4, 1, 0] rfl (hk25 _ _ _ _ _ hF)
          · refine ww_iconst cx dX8_cooks_64 ic_0 ?_
            exact ww_rzs hE dX8_cooks_65 hF
        · refine ww_goto cx dX8_cooks_50 (tgt := 78) rfl ?_
          refine ww_iinc (j := 4) (ks := [0, 1, 2, 3, 4]) (lv' := fun v15 => [(4, .int v15), (0, .ref (gad G 62)), (1, .int x1), (2, .int x2), (3, .int x3)]) cx dX8_cooks_78 (by decide) rfl ic_1 hF (fun _ => rfl) (fun v15 hF => ?_)
          refine ww_goto cx dX8_cooks_81 (tgt := 25) rfl ?_
          exact ww_sub [1, 2, 3, 4, 0] rfl (hk25 _ _ _ _ _ hF)
  unfold fX8_cooks at hF
  show WW G X 5 σ [(0, .ref (gad G 62)), (1, .int a1), (2, .int a2)] 0 []
  refine ww_aload_n cx dX8_cooks_0 rfl 0 rfl ?_
  refine ww_iload_n cx dX8_cooks_1 rfl 1 rfl ?_
  refine ww_iconst cx dX8_cooks_2 ic_1 ?_
  refine ww_V2_pi kv_X8_282 rfl cx sh_62 ⟨Nat.le_of_ble_eq_true rfl, Nat.le_of_ble_eq_true rfl⟩ (Nat.le_of_ble_eq_true rfl) dX8_cooks_3 (kX8_ofGuest G) hF (fun r16 hF => ?_)
  refine ww_iload_n cx dX8_cooks_6 rfl 2 rfl ?_
  refine ww_S2_pi kv_X8_168 cx ⟨Nat.le_of_ble_eq_true rfl, Nat.le_of_ble_eq_true rfl⟩ (Nat.le_of_ble_eq_true rfl) dX8_cooks_7 (kX8_bit G) hF (fun r17 hF => ?_)
  refine ww_if_ne cx dX8_cooks_10 (tgt := 15) rfl hF (fun hF => ?_) (fun hF => ?_)
  · refine ww_aload_n cx dX8_cooks_15 rfl 0 rfl ?_
    refine gf_X8_52 cx dX8_cooks_16 ?_
    refine ww_iload_n cx dX8_cooks_19 rfl 1 rfl ?_
    refine ww_iald (N := 5) cx (sh_75) dX8_cooks_20 hF (fun hF => ?_)
    refine ww_istore_n (ks := [0, 1, 2, 3]) (lv' := fun v18 => [(3, .int v18), (0, .ref (gad G 62)), (1, .int a1), (2, .int a2)]) cx dX8_cooks_21 rfl (by decide) hF (fun _ => rfl) (fun v18 hF => ?_)
    refine ww_iconst cx dX8_cooks_22 ic_0 ?_
    refine ww_istore (ks := [0, 1, 2, 3, 4]) (lv' := fun v19 => [(4, .int v19), (3, .int v18), (0, .ref (gad G 62)), (1, .int a1), (2, .int a2)]) cx dX8_cooks_23 (by decide) hF (fun _ => rfl) (fun v19 hF => ?_)
    exact ww_sub [2, 3, 4, 1, 0] rfl (hl25 FU _ _ _ _ _ hF)
  · refine ww_iconst cx dX8_cooks_13 ic_0 ?_
    exact ww_rzs hE dX8_cooks_14 hF
theorem dX8_drops_0 : decode cX8_drops 0 = .ok (.aload_n 0, 1) := by decide +kernel
theorem dX8_drops_1 : decode cX8_drops 1 = .ok (.invokevirtual 291, 3) := by decide +kernel
theorem dX8_drops_4 : decode cX8_drops 4 = .ok (.ifCond .ne 6, 3) := by decide +kernel
theorem dX8_drops_7 : decode cX8_drops 7 = .ok (.bipush (-2), 2) := by decide +kernel
theorem dX8_drops_9 : decode cX8_drops 9 = .ok (.ireturn, 1) := by decide +kernel
theorem dX8_drops_10 : decode cX8_drops 10 = .ok (.aload_n 0, 1) := by decide +kernel
theorem dX8_drops_11 : decode cX8_drops 11 = .ok (.getfield 9, 3) := by decide +kernel
theorem dX8_drops_14 : decode cX8_drops 14 = .ok (.iconst 4, 1) := by decide +kernel
theorem dX8_drops_15 : decode cX8_drops 15 = .ok (.iaload, 1) := by decide +kernel
theorem dX8_drops_16 : decode cX8_drops 16 = .ok (.ifCond .ne 6, 3) := by decide +kernel
theorem dX8_drops_19 : decode cX8_drops 19 = .ok (.bipush (-5), 2) := by decide +kernel
theorem dX8_drops_21 : decode cX8_drops 21 = .ok (.ireturn, 1) := by decide +kernel
theorem dX8_drops_22 : decode cX8_drops 22 = .ok (.aload_n 0, 1) := by decide +kernel
theorem dX8_drops_23 : decode cX8_drops 23 = .ok (.getfield 9, 3) := by decide +kernel
theorem dX8_drops_26 : decode cX8_drops 26 = .ok (.iconst 4, 1) := by decide +kernel
theorem dX8_drops_27 : decode cX8_drops 27 = .ok (.dup2, 1) := by decide +kernel
theorem dX8_drops_28 : decode cX8_drops 28 = .ok (.iaload, 1) := by decide +kernel
theorem dX8_drops_29 : decode cX8_drops 29 = .ok (.iconst 1, 1) := by decide +kernel
theorem dX8_drops_30 : decode cX8_drops 30 = .ok (.isub, 1) := by decide +kernel
theorem dX8_drops_31 : decode cX8_drops 31 = .ok (.iastore, 1) := by decide +kernel
theorem dX8_drops_32 : decode cX8_drops 32 = .ok (.iconst 0, 1) := by decide +kernel
theorem dX8_drops_33 : decode cX8_drops 33 = .ok (.istore_n 1, 1) := by decide +kernel
theorem dX8_drops_34 : decode cX8_drops 34 = .ok (.iload_n 1, 1) := by decide +kernel
theorem dX8_drops_35 : decode cX8_drops 35 = .ok (.aload_n 0, 1) := by decide +kernel
theorem dX8_drops_36 : decode cX8_drops 36 = .ok (.getfield 9, 3) := by decide +kernel
theorem dX8_drops_39 : decode cX8_drops 39 = .ok (.iconst 5, 1) := by decide +kernel
theorem dX8_drops_40 : decode cX8_drops 40 = .ok (.iaload, 1) := by decide +kernel
theorem dX8_drops_41 : decode cX8_drops 41 = .ok (.if_icmp .ge 29, 3) := by decide +kernel
theorem dX8_drops_44 : decode cX8_drops 44 = .ok (.aload_n 0, 1) := by decide +kernel
theorem dX8_drops_45 : decode cX8_drops 45 = .ok (.getfield 9, 3) := by decide +kernel
theorem dX8_drops_48 : decode cX8_drops 48 = .ok (.bipush 67, 2) := by decide +kernel
theorem dX8_drops_50 : decode cX8_drops 50 = .ok (.iconst 2, 1) := by decide +kernel
theorem dX8_drops_51 : decode cX8_drops 51 = .ok (.iload_n 1, 1) := by decide +kernel
theorem dX8_drops_52 : decode cX8_drops 52 = .ok (.imul, 1) := by decide +kernel
theorem dX8_drops_53 : decode cX8_drops 53 = .ok (.iadd, 1) := by decide +kernel
theorem dX8_drops_54 : decode cX8_drops 54 = .ok (.iconst 1, 1) := by decide +kernel
theorem dX8_drops_55 : decode cX8_drops 55 = .ok (.iadd, 1) := by decide +kernel
theorem dX8_drops_56 : decode cX8_drops 56 = .ok (.dup2, 1) := by decide +kernel
theorem dX8_drops_57 : decode cX8_drops 57 = .ok (.iaload, 1) := by decide +kernel
theorem dX8_drops_58 : decode cX8_drops 58 = .ok (.aload_n 0, 1) := by decide +kernel
theorem dX8_drops_59 : decode cX8_drops 59 = .ok (.invokevirtual 304, 3) := by decide +kernel
theorem dX8_drops_62 : decode cX8_drops 62 = .ok (.iand, 1) := by decide +kernel
theorem dX8_drops_63 : decode cX8_drops 63 = .ok (.iastore, 1) := by decide +kernel
theorem dX8_drops_64 : decode cX8_drops 64 = .ok (.iinc 1 1, 3) := by decide +kernel
theorem dX8_drops_67 : decode cX8_drops 67 = .ok (.goto (-33), 3) := by decide +kernel
theorem dX8_drops_70 : decode cX8_drops 70 = .ok (.aload_n 0, 1) := by decide +kernel
theorem dX8_drops_71 : decode cX8_drops 71 = .ok (.getfield 9, 3) := by decide +kernel
theorem dX8_drops_74 : decode cX8_drops 74 = .ok (.iconst 4, 1) := by decide +kernel
theorem dX8_drops_75 : decode cX8_drops 75 = .ok (.iaload, 1) := by decide +kernel
theorem dX8_drops_76 : decode cX8_drops 76 = .ok (.ireturn, 1) := by decide +kernel
set_option maxRecDepth 4000 in
theorem kX8_drops (G : GT) {σ : St} : ∀ (r : Int32) (σo : St) , fX8_drops σ = some (r, σo) → MCt G 2 yX8_drops cX8_drops 2 (some .int) [.ref (gad G 62)] σ (some (.int r)) σo := by
  intro r σo hF
  refine met_i (by decide) (Nat.le_of_ble_eq_true rfl) (fun X cx hE => ?_)
  have cx : Cx G X RX8 cX8_drops 2 2 := cx
  have hl34 : ∀ n : Nat, ∀ (σ : St) (x1 : Int32) , fX8_drops_l34 n σ x1 = some (r, σo) → WW G X 2 σ [(0, .ref (gad G 62)), (1, .int x1)] 34 [] := by
    intro n
    induction n with
    | zero =>
      intro σ x1 hF
      exact absurd hF (by intro z; cases z)
    | succ n ih =>
      intro σ x1 hF
      have hk34 := ih
      have hF : fX8_drops_B34 (fX8_drops_l34 n) σ x1 = some (r, σo) := hF
      unfold fX8_drops_B34 at hF
      refine ww_iload_n cx dX8_drops_34 rfl 1 rfl ?_
      refine ww_aload_n cx dX8_drops_35 rfl 0 rfl ?_
      refine gf_X8_9 cx dX8_drops_36 ?_
      refine ww_iconst cx dX8_drops_39 ic_5 ?_
      refine ww_iald (N := 77) cx (sh_63) dX8_drops_40 hF (fun hF => ?_)
      refine ww_icmp_ge cx dX8_drops_41 (tgt := 70) rfl hF (fun hF => ?_) (fun hF => ?_)
      · refine ww_aload_n cx dX8_drops_70 rfl 0 rfl ?_
        refine gf_X8_9 cx dX8_drops_71 ?_
        refine ww_iconst cx dX8_drops_74 ic_4 ?_
        refine ww_iald (N := 77) cx (sh_63) dX8_drops_75 hF (fun hF => ?_)
        exact ww_ris hE dX8_drops_76 hF
      · refine ww_aload_n cx dX8_drops_44 rfl 0 rfl ?_
        refine gf_X8_9 cx dX8_drops_45 ?_
        refine ww_bipush cx dX8_drops_48 bc_67 ?_
        refine ww_iconst cx dX8_drops_50 ic_2 ?_
        refine ww_iload_n cx dX8_drops_51 rfl 1 rfl ?_
        refine ww_imul cx dX8_drops_52 ?_
        refine ww_iadd cx dX8_drops_53 ?_
        refine ww_iconst cx dX8_drops_54 ic_1 ?_
        refine ww_iadd cx dX8_drops_55 ?_
        refine ww_dup2 cx dX8_drops_56 rfl rfl ?_
        refine ww_iald (N := 77) cx (sh_63) dX8_drops_57 hF (fun hF => ?_)
        refine ww_aload_n cx dX8_drops_58 rfl 0 rfl ?_
        refine ww_V0_pi kv_X8_304 rfl cx sh_62 ⟨Nat.le_of_ble_eq_true rfl, Nat.le_of_ble_eq_true rfl⟩ (Nat.le_of_ble_eq_true rfl) dX8_drops_59 (kX8_allSteps G) hF (fun r1 hF => ?_)
        refine ww_iand cx dX8_drops_62 ?_
        refine ww_iast (N := 77) cx (sh_63) dX8_drops_63 hF (fun σ2 hF => ?_)
        refine ww_iinc (j := 1) (ks := [0, 1]) (lv' := fun v3 => [(1, .int v3), (0, .ref (gad G 62))]) cx dX8_drops_64 (by decide) rfl ic_1 hF (fun _ => rfl) (fun v3 hF => ?_)
        refine ww_goto cx dX8_drops_67 (tgt := 34) rfl ?_
        exact ww_sub [1, 0] rfl (hk34 _ _ hF)
  unfold fX8_drops at hF
  show WW G X 2 σ [(0, .ref (gad G 62))] 0 []
  refine ww_aload_n cx dX8_drops_0 rfl 0 rfl ?_
  refine ww_V0_pi kv_X8_291 rfl cx sh_62 ⟨Nat.le_of_ble_eq_true rfl, Nat.le_of_ble_eq_true rfl⟩ (Nat.le_of_ble_eq_true rfl) dX8_drops_1 (kX8_isTable G) hF (fun r4 hF => ?_)
  refine ww_if_ne cx dX8_drops_4 (tgt := 10) rfl hF (fun hF => ?_) (fun hF => ?_)
  · refine ww_aload_n cx dX8_drops_10 rfl 0 rfl ?_
    refine gf_X8_9 cx dX8_drops_11 ?_
    refine ww_iconst cx dX8_drops_14 ic_4 ?_
    refine ww_iald (N := 77) cx (sh_63) dX8_drops_15 hF (fun hF => ?_)
    refine ww_if_ne cx dX8_drops_16 (tgt := 22) rfl hF (fun hF => ?_) (fun hF => ?_)
    · refine ww_aload_n cx dX8_drops_22 rfl 0 rfl ?_
      refine gf_X8_9 cx dX8_drops_23 ?_
      refine ww_iconst cx dX8_drops_26 ic_4 ?_
      refine ww_dup2 cx dX8_drops_27 rfl rfl ?_
      refine ww_iald (N := 77) cx (sh_63) dX8_drops_28 hF (fun hF => ?_)
      refine ww_iconst cx dX8_drops_29 ic_1 ?_
      refine ww_isub cx dX8_drops_30 ?_
      refine ww_iast (N := 77) cx (sh_63) dX8_drops_31 hF (fun σ5 hF => ?_)
      refine ww_iconst cx dX8_drops_32 ic_0 ?_
      refine ww_istore_n (ks := [0, 1]) (lv' := fun v6 => [(1, .int v6), (0, .ref (gad G 62))]) cx dX8_drops_33 rfl (by decide) hF (fun _ => rfl) (fun v6 hF => ?_)
      exact ww_sub [1, 0] rfl (hl34 FU _ _ hF)
    · refine ww_bipush cx dX8_drops_19 bc_m5 ?_
      exact ww_ris hE dX8_drops_21 hF
  · refine ww_bipush cx dX8_drops_7 bc_m2 ?_
    exact ww_ris hE dX8_drops_9 hF
theorem dX8_eatenBy_0 : decode cX8_eatenBy 0 = .ok (.iconst 0, 1) := by decide +kernel
theorem dX8_eatenBy_1 : decode cX8_eatenBy 1 = .ok (.istore_n 2, 1) := by decide +kernel
theorem dX8_eatenBy_2 : decode cX8_eatenBy 2 = .ok (.iconst 0, 1) := by decide +kernel
theorem dX8_eatenBy_3 : decode cX8_eatenBy 3 = .ok (.istore_n 3, 1) := by decide +kernel
theorem dX8_eatenBy_4 : decode cX8_eatenBy 4 = .ok (.iload_n 3, 1) := by decide +kernel
theorem dX8_eatenBy_5 : decode cX8_eatenBy 5 = .ok (.aload_n 0, 1) := by decide +kernel
theorem dX8_eatenBy_6 : decode cX8_eatenBy 6 = .ok (.getfield 61, 3) := by decide +kernel
theorem dX8_eatenBy_9 : decode cX8_eatenBy 9 = .ok (.iload_n 1, 1) := by decide +kernel
theorem dX8_eatenBy_10 : decode cX8_eatenBy 10 = .ok (.iaload, 1) := by decide +kernel
theorem dX8_eatenBy_11 : decode cX8_eatenBy 11 = .ok (.if_icmp .ge 21, 3) := by decide +kernel
theorem dX8_eatenBy_14 : decode cX8_eatenBy 14 = .ok (.iload_n 2, 1) := by decide +kernel
theorem dX8_eatenBy_15 : decode cX8_eatenBy 15 = .ok (.iconst 1, 1) := by decide +kernel
theorem dX8_eatenBy_16 : decode cX8_eatenBy 16 = .ok (.aload_n 0, 1) := by decide +kernel
theorem dX8_eatenBy_17 : decode cX8_eatenBy 17 = .ok (.iload_n 1, 1) := by decide +kernel
theorem dX8_eatenBy_18 : decode cX8_eatenBy 18 = .ok (.iload_n 3, 1) := by decide +kernel
theorem dX8_eatenBy_19 : decode cX8_eatenBy 19 = .ok (.invokevirtual 319, 3) := by decide +kernel
theorem dX8_eatenBy_22 : decode cX8_eatenBy 22 = .ok (.l2i, 1) := by decide +kernel
theorem dX8_eatenBy_23 : decode cX8_eatenBy 23 = .ok (.ishl, 1) := by decide +kernel
theorem dX8_eatenBy_24 : decode cX8_eatenBy 24 = .ok (.ior, 1) := by decide +kernel
theorem dX8_eatenBy_25 : decode cX8_eatenBy 25 = .ok (.istore_n 2, 1) := by decide +kernel
theorem dX8_eatenBy_26 : decode cX8_eatenBy 26 = .ok (.iinc 3 1, 3) := by decide +kernel
theorem dX8_eatenBy_29 : decode cX8_eatenBy 29 = .ok (.goto (-25), 3) := by decide +kernel
theorem dX8_eatenBy_32 : decode cX8_eatenBy 32 = .ok (.iload_n 2, 1) := by decide +kernel
theorem dX8_eatenBy_33 : decode cX8_eatenBy 33 = .ok (.ireturn, 1) := by decide +kernel
set_option maxRecDepth 4000 in
theorem kX8_eatenBy (G : GT) {σ : St} {a1 : Int32} : ∀ (r : Int32) , fX8_eatenBy σ a1 = some r → MCt G 2 yX8_eatenBy cX8_eatenBy 4 (some .int) [.ref (gad G 62), .int a1] σ (some (.int r)) σ := by
  intro r hF
  refine met_i (by decide) (Nat.le_of_ble_eq_true rfl) (fun X cx hE => ?_)
  have cx : Cx G X RX8 cX8_eatenBy 4 2 := cx
  have hl4 : ∀ n : Nat, ∀ (x1 : Int32) (x2 : Int32) (x3 : Int32) , fX8_eatenBy_l4 σ n x1 x2 x3 = some r → WW G X 4 σ [(0, .ref (gad G 62)), (1, .int x1), (2, .int x2), (3, .int x3)] 4 [] := by
    intro n
    induction n with
    | zero =>
      intro x1 x2 x3 hF
      exact absurd hF (by intro z; cases z)
    | succ n ih =>
      intro x1 x2 x3 hF
      have hk4 := ih
      have hF : fX8_eatenBy_B4 σ (fX8_eatenBy_l4 σ n) x1 x2 x3 = some r := hF
      unfold fX8_eatenBy_B4 at hF
      refine ww_iload_n cx dX8_eatenBy_4 rfl 3 rfl ?_
      refine ww_aload_n cx dX8_eatenBy_5 rfl 0 rfl ?_
      refine gf_X8_61 cx dX8_eatenBy_6 ?_
      refine ww_iload_n cx dX8_eatenBy_9 rfl 1 rfl ?_
      refine ww_iald (N := 4) cx (sh_78) dX8_eatenBy_10 hF (fun hF => ?_)
      refine ww_icmp_ge cx dX8_eatenBy_11 (tgt := 32) rfl hF (fun hF => ?_) (fun hF => ?_)
      · refine ww_iload_n cx dX8_eatenBy_32 rfl 2 rfl ?_
        exact ww_rip hE dX8_eatenBy_33 hF
      · refine ww_iload_n cx dX8_eatenBy_14 rfl 2 rfl ?_
        refine ww_iconst cx dX8_eatenBy_15 ic_1 ?_
        refine ww_aload_n cx dX8_eatenBy_16 rfl 0 rfl ?_
        refine ww_iload_n cx dX8_eatenBy_17 rfl 1 rfl ?_
        refine ww_iload_n cx dX8_eatenBy_18 rfl 3 rfl ?_
        refine ww_V2_pl kv_X8_319 rfl cx sh_62 ⟨Nat.le_of_ble_eq_true rfl, Nat.le_of_ble_eq_true rfl⟩ (Nat.le_of_ble_eq_true rfl) dX8_eatenBy_19 (kX8_numberAt G) hF (fun r1 hF => ?_)
        refine ww_l2i cx dX8_eatenBy_22 ?_
        refine ww_ishl cx dX8_eatenBy_23 ?_
        refine ww_ior cx dX8_eatenBy_24 ?_
        refine ww_istore_n (ks := [0, 1, 2, 3]) (lv' := fun v2 => [(2, .int v2), (0, .ref (gad G 62)), (1, .int x1), (3, .int x3)]) cx dX8_eatenBy_25 rfl (by decide) hF (fun _ => rfl) (fun v2 hF => ?_)
        refine ww_iinc (j := 3) (ks := [0, 1, 2, 3]) (lv' := fun v3 => [(3, .int v3), (2, .int v2), (0, .ref (gad G 62)), (1, .int x1)]) cx dX8_eatenBy_26 (by decide) rfl ic_1 hF (fun _ => rfl) (fun v3 hF => ?_)
        refine ww_goto cx dX8_eatenBy_29 (tgt := 4) rfl ?_
        exact ww_sub [2, 3, 1, 0] rfl (hk4 _ _ _ hF)
  unfold fX8_eatenBy at hF
  show WW G X 4 σ [(0, .ref (gad G 62)), (1, .int a1)] 0 []
  refine ww_iconst cx dX8_eatenBy_0 ic_0 ?_
  refine ww_istore_n (ks := [0, 1, 2]) (lv' := fun v4 => [(2, .int v4), (0, .ref (gad G 62)), (1, .int a1)]) cx dX8_eatenBy_1 rfl (by decide) hF (fun _ => rfl) (fun v4 hF => ?_)
  refine ww_iconst cx dX8_eatenBy_2 ic_0 ?_
  refine ww_istore_n (ks := [0, 1, 2, 3]) (lv' := fun v5 => [(3, .int v5), (2, .int v4), (0, .ref (gad G 62)), (1, .int a1)]) cx dX8_eatenBy_3 rfl (by decide) hF (fun _ => rfl) (fun v5 hF => ?_)
  exact ww_sub [2, 3, 1, 0] rfl (hl4 FU _ _ _ hF)
theorem dX8_end_0 : decode cX8_end 0 = .ok (.iload_n 1, 1) := by decide +kernel
theorem dX8_end_1 : decode cX8_end 1 = .ok (.i2l, 1) := by decide +kernel
theorem dX8_end_2 : decode cX8_end 2 = .ok (.lconst 0, 1) := by decide +kernel
theorem dX8_end_3 : decode cX8_end 3 = .ok (.aload_n 0, 1) := by decide +kernel
theorem dX8_end_4 : decode cX8_end 4 = .ok (.getfield 95, 3) := by decide +kernel
theorem dX8_end_7 : decode cX8_end 7 = .ok (.i2l, 1) := by decide +kernel
theorem dX8_end_8 : decode cX8_end 8 = .ok (.invokestatic 83, 3) := by decide +kernel
theorem dX8_end_11 : decode cX8_end 11 = .ok (.ifCond .ne 5, 3) := by decide +kernel
theorem dX8_end_14 : decode cX8_end 14 = .ok (.iconst (-1), 1) := by decide +kernel
theorem dX8_end_15 : decode cX8_end 15 = .ok (.ireturn, 1) := by decide +kernel
theorem dX8_end_16 : decode cX8_end 16 = .ok (.aload_n 0, 1) := by decide +kernel
theorem dX8_end_17 : decode cX8_end 17 = .ok (.iload_n 1, 1) := by decide +kernel
theorem dX8_end_18 : decode cX8_end 18 = .ok (.putfield 95, 3) := by decide +kernel
theorem dX8_end_21 : decode cX8_end 21 = .ok (.iload_n 1, 1) := by decide +kernel
theorem dX8_end_22 : decode cX8_end 22 = .ok (.ireturn, 1) := by decide +kernel
set_option maxRecDepth 4000 in
theorem kX8_end (G : GT) {σ : St} {a1 : Int32} : ∀ (r : Int32) (σo : St) , fX8_end σ a1 = some (r, σo) → MCt G 2 yX8_end cX8_end 2 (some .int) [.ref (gad G 62), .int a1] σ (some (.int r)) σo := by
  intro r σo hF
  refine met_i (by decide) (Nat.le_of_ble_eq_true rfl) (fun X cx hE => ?_)
  have cx : Cx G X RX8 cX8_end 2 2 := cx
  unfold fX8_end at hF
  show WW G X 2 σ [(0, .ref (gad G 62)), (1, .int a1)] 0 []
  refine ww_iload_n cx dX8_end_0 rfl 1 rfl ?_
  refine ww_i2l cx dX8_end_1 ?_
  refine ww_lconst cx dX8_end_2 lc_0 ?_
  refine ww_aload_n cx dX8_end_3 rfl 0 rfl ?_
  refine gf_X8_95 cx dX8_end_4 ?_
  refine ww_i2l cx dX8_end_7 ?_
  refine ww_S3_pi kv_X8_83 cx ⟨Nat.le_of_ble_eq_true rfl, Nat.le_of_ble_eq_true rfl⟩ (Nat.le_of_ble_eq_true rfl) dX8_end_8 (kX8_in G) hF (fun r1 hF => ?_)
  refine ww_if_ne cx dX8_end_11 (tgt := 16) rfl hF (fun hF => ?_) (fun hF => ?_)
  · refine ww_aload_n cx dX8_end_16 rfl 0 rfl ?_
    refine ww_iload_n cx dX8_end_17 rfl 1 rfl ?_
    refine pf_X8_95 cx dX8_end_18 hF (fun σ2 hF => ?_)
    refine ww_iload_n cx dX8_end_21 rfl 1 rfl ?_
    exact ww_ris hE dX8_end_22 hF
  · refine ww_iconst cx dX8_end_14 ic_m1 ?_
    exact ww_ris hE dX8_end_15 hF
theorem dX8_errs_0 : decode cX8_errs 0 = .ok (.aload_n 0, 1) := by decide +kernel
theorem dX8_errs_1 : decode cX8_errs 1 = .ok (.invokevirtual 134, 3) := by decide +kernel
theorem dX8_errs_4 : decode cX8_errs 4 = .ok (.ifCond .ne 4, 3) := by decide +kernel
theorem dX8_errs_7 : decode cX8_errs 7 = .ok (.return_, 1) := by decide +kernel
theorem dX8_errs_8 : decode cX8_errs 8 = .ok (.aload_n 0, 1) := by decide +kernel
theorem dX8_errs_9 : decode cX8_errs 9 = .ok (.iload_n 1, 1) := by decide +kernel
theorem dX8_errs_10 : decode cX8_errs 10 = .ok (.putfield 131, 3) := by decide +kernel
theorem dX8_errs_13 : decode cX8_errs 13 = .ok (.aload_n 0, 1) := by decide +kernel
theorem dX8_errs_14 : decode cX8_errs 14 = .ok (.aload_n 0, 1) := by decide +kernel
theorem dX8_errs_15 : decode cX8_errs 15 = .ok (.getfield 108, 3) := by decide +kernel
theorem dX8_errs_18 : decode cX8_errs 18 = .ok (.putfield 27, 3) := by decide +kernel
theorem dX8_errs_21 : decode cX8_errs 21 = .ok (.return_, 1) := by decide +kernel
set_option maxRecDepth 4000 in
theorem kX8_errs (G : GT) {σ : St} {a1 : Int32} : ∀ (σo : St) , fX8_errs σ a1 = some σo → MCt G 2 yX8_errs cX8_errs 2 (none) [.ref (gad G 62), .int a1] σ (none) σo := by
  intro σo hF
  refine met_v (by decide) (Nat.le_of_ble_eq_true rfl) (fun X cx hE => ?_)
  have cx : Cx G X RX8 cX8_errs 2 2 := cx
  unfold fX8_errs at hF
  show WW G X 2 σ [(0, .ref (gad G 62)), (1, .int a1)] 0 []
  refine ww_aload_n cx dX8_errs_0 rfl 0 rfl ?_
  refine ww_V0_pi kv_X8_134 rfl cx sh_62 ⟨Nat.le_of_ble_eq_true rfl, Nat.le_of_ble_eq_true rfl⟩ (Nat.le_of_ble_eq_true rfl) dX8_errs_1 (kX8_good G) hF (fun r1 hF => ?_)
  refine ww_if_ne cx dX8_errs_4 (tgt := 8) rfl hF (fun hF => ?_) (fun hF => ?_)
  · refine ww_aload_n cx dX8_errs_8 rfl 0 rfl ?_
    refine ww_iload_n cx dX8_errs_9 rfl 1 rfl ?_
    refine pf_X8_131 cx dX8_errs_10 hF (fun σ2 hF => ?_)
    refine ww_aload_n cx dX8_errs_13 rfl 0 rfl ?_
    refine ww_aload_n cx dX8_errs_14 rfl 0 rfl ?_
    refine gf_X8_108 cx dX8_errs_15 ?_
    refine pf_X8_27 cx dX8_errs_18 hF (fun σ3 hF => ?_)
    exact ww_rvs hE dX8_errs_21 hF
  · exact ww_rvs hE dX8_errs_7 hF
theorem dX8_fillDoubt_0 : decode cX8_fillDoubt 0 = .ok (.aload_n 0, 1) := by decide +kernel
theorem dX8_fillDoubt_1 : decode cX8_fillDoubt 1 = .ok (.getfield 9, 3) := by decide +kernel
theorem dX8_fillDoubt_4 : decode cX8_fillDoubt 4 = .ok (.iconst 0, 1) := by decide +kernel
theorem dX8_fillDoubt_5 : decode cX8_fillDoubt 5 = .ok (.iaload, 1) := by decide +kernel
theorem dX8_fillDoubt_6 : decode cX8_fillDoubt 6 = .ok (.istore_n 3, 1) := by decide +kernel
theorem dX8_fillDoubt_7 : decode cX8_fillDoubt 7 = .ok (.iconst 0, 1) := by decide +kernel
theorem dX8_fillDoubt_8 : decode cX8_fillDoubt 8 = .ok (.istore 4, 2) := by decide +kernel
theorem dX8_fillDoubt_10 : decode cX8_fillDoubt 10 = .ok (.iload 4, 2) := by decide +kernel
theorem dX8_fillDoubt_12 : decode cX8_fillDoubt 12 = .ok (.aload_n 0, 1) := by decide +kernel
theorem dX8_fillDoubt_13 : decode cX8_fillDoubt 13 = .ok (.invokevirtual 87, 3) := by decide +kernel
theorem dX8_fillDoubt_16 : decode cX8_fillDoubt 16 = .ok (.if_icmp .ge 41, 3) := by decide +kernel
theorem dX8_fillDoubt_19 : decode cX8_fillDoubt 19 = .ok (.aload_n 0, 1) := by decide +kernel
theorem dX8_fillDoubt_20 : decode cX8_fillDoubt 20 = .ok (.getfield 43, 3) := by decide +kernel
theorem dX8_fillDoubt_23 : decode cX8_fillDoubt 23 = .ok (.aload_n 0, 1) := by decide +kernel
theorem dX8_fillDoubt_24 : decode cX8_fillDoubt 24 = .ok (.invokevirtual 87, 3) := by decide +kernel
theorem dX8_fillDoubt_27 : decode cX8_fillDoubt 27 = .ok (.iload 4, 2) := by decide +kernel
theorem dX8_fillDoubt_29 : decode cX8_fillDoubt 29 = .ok (.iadd, 1) := by decide +kernel
theorem dX8_fillDoubt_30 : decode cX8_fillDoubt 30 = .ok (.aload_n 0, 1) := by decide +kernel
theorem dX8_fillDoubt_31 : decode cX8_fillDoubt 31 = .ok (.iload_n 1, 1) := by decide +kernel
theorem dX8_fillDoubt_32 : decode cX8_fillDoubt 32 = .ok (.iconst 2, 1) := by decide +kernel
theorem dX8_fillDoubt_33 : decode cX8_fillDoubt 33 = .ok (.invokevirtual 91, 3) := by decide +kernel
theorem dX8_fillDoubt_36 : decode cX8_fillDoubt 36 = .ok (.iload 4, 2) := by decide +kernel
theorem dX8_fillDoubt_38 : decode cX8_fillDoubt 38 = .ok (.invokestatic 168, 3) := by decide +kernel
theorem dX8_fillDoubt_41 : decode cX8_fillDoubt 41 = .ok (.iconst 1, 1) := by decide +kernel
theorem dX8_fillDoubt_42 : decode cX8_fillDoubt 42 = .ok (.if_icmp .ne 7, 3) := by decide +kernel
theorem dX8_fillDoubt_45 : decode cX8_fillDoubt 45 = .ok (.iconst 1, 1) := by decide +kernel
theorem dX8_fillDoubt_46 : decode cX8_fillDoubt 46 = .ok (.goto 4, 3) := by decide +kernel
theorem dX8_fillDoubt_49 : decode cX8_fillDoubt 49 = .ok (.iconst 0, 1) := by decide +kernel
theorem dX8_fillDoubt_50 : decode cX8_fillDoubt 50 = .ok (.bastore, 1) := by decide +kernel
theorem dX8_fillDoubt_51 : decode cX8_fillDoubt 51 = .ok (.iinc 4 1, 3) := by decide +kernel
theorem dX8_fillDoubt_54 : decode cX8_fillDoubt 54 = .ok (.goto (-44), 3) := by decide +kernel
theorem dX8_fillDoubt_57 : decode cX8_fillDoubt 57 = .ok (.iload_n 3, 1) := by decide +kernel
theorem dX8_fillDoubt_58 : decode cX8_fillDoubt 58 = .ok (.iconst 1, 1) := by decide +kernel
theorem dX8_fillDoubt_59 : decode cX8_fillDoubt 59 = .ok (.isub, 1) := by decide +kernel
theorem dX8_fillDoubt_60 : decode cX8_fillDoubt 60 = .ok (.istore 4, 2) := by decide +kernel
theorem dX8_fillDoubt_62 : decode cX8_fillDoubt 62 = .ok (.iload 4, 2) := by decide +kernel
theorem dX8_fillDoubt_64 : decode cX8_fillDoubt 64 = .ok (.ifCond .lt 125, 3) := by decide +kernel
theorem dX8_fillDoubt_67 : decode cX8_fillDoubt 67 = .ok (.iload 4, 2) := by decide +kernel
theorem dX8_fillDoubt_69 : decode cX8_fillDoubt 69 = .ok (.iconst 2, 1) := by decide +kernel
theorem dX8_fillDoubt_70 : decode cX8_fillDoubt 70 = .ok (.irem, 1) := by decide +kernel
theorem dX8_fillDoubt_71 : decode cX8_fillDoubt 71 = .ok (.iload_n 2, 1) := by decide +kernel
theorem dX8_fillDoubt_72 : decode cX8_fillDoubt 72 = .ok (.if_icmp .ne 7, 3) := by decide +kernel
theorem dX8_fillDoubt_75 : decode cX8_fillDoubt 75 = .ok (.iconst 1, 1) := by decide +kernel
theorem dX8_fillDoubt_76 : decode cX8_fillDoubt 76 = .ok (.goto 4, 3) := by decide +kernel
theorem dX8_fillDoubt_79 : decode cX8_fillDoubt 79 = .ok (.iconst 0, 1) := by decide +kernel
theorem dX8_fillDoubt_80 : decode cX8_fillDoubt 80 = .ok (.istore 5, 2) := by decide +kernel
theorem dX8_fillDoubt_82 : decode cX8_fillDoubt 82 = .ok (.iconst 0, 1) := by decide +kernel
theorem dX8_fillDoubt_83 : decode cX8_fillDoubt 83 = .ok (.istore 6, 2) := by decide +kernel
theorem dX8_fillDoubt_85 : decode cX8_fillDoubt 85 = .ok (.iload 6, 2) := by decide +kernel
theorem dX8_fillDoubt_87 : decode cX8_fillDoubt 87 = .ok (.iconst 1, 1) := by decide +kernel
theorem dX8_fillDoubt_88 : decode cX8_fillDoubt 88 = .ok (.iload 4, 2) := by decide +kernel
theorem dX8_fillDoubt_90 : decode cX8_fillDoubt 90 = .ok (.ishl, 1) := by decide +kernel
theorem dX8_fillDoubt_91 : decode cX8_fillDoubt 91 = .ok (.if_icmp .ge 92, 3) := by decide +kernel
theorem dX8_fillDoubt_94 : decode cX8_fillDoubt 94 = .ok (.aload_n 0, 1) := by decide +kernel
theorem dX8_fillDoubt_95 : decode cX8_fillDoubt 95 = .ok (.getfield 43, 3) := by decide +kernel
theorem dX8_fillDoubt_98 : decode cX8_fillDoubt 98 = .ok (.iconst 2, 1) := by decide +kernel
theorem dX8_fillDoubt_99 : decode cX8_fillDoubt 99 = .ok (.iload 4, 2) := by decide +kernel
theorem dX8_fillDoubt_101 : decode cX8_fillDoubt 101 = .ok (.ishl, 1) := by decide +kernel
theorem dX8_fillDoubt_102 : decode cX8_fillDoubt 102 = .ok (.iload 6, 2) := by decide +kernel
theorem dX8_fillDoubt_104 : decode cX8_fillDoubt 104 = .ok (.iadd, 1) := by decide +kernel
theorem dX8_fillDoubt_105 : decode cX8_fillDoubt 105 = .ok (.baload, 1) := by decide +kernel
theorem dX8_fillDoubt_106 : decode cX8_fillDoubt 106 = .ok (.istore 7, 2) := by decide +kernel
theorem dX8_fillDoubt_108 : decode cX8_fillDoubt 108 = .ok (.aload_n 0, 1) := by decide +kernel
theorem dX8_fillDoubt_109 : decode cX8_fillDoubt 109 = .ok (.getfield 43, 3) := by decide +kernel
theorem dX8_fillDoubt_112 : decode cX8_fillDoubt 112 = .ok (.iconst 2, 1) := by decide +kernel
theorem dX8_fillDoubt_113 : decode cX8_fillDoubt 113 = .ok (.iload 4, 2) := by decide +kernel
theorem dX8_fillDoubt_115 : decode cX8_fillDoubt 115 = .ok (.ishl, 1) := by decide +kernel
theorem dX8_fillDoubt_116 : decode cX8_fillDoubt 116 = .ok (.iload 6, 2) := by decide +kernel
theorem dX8_fillDoubt_118 : decode cX8_fillDoubt 118 = .ok (.iconst 1, 1) := by decide +kernel
theorem dX8_fillDoubt_119 : decode cX8_fillDoubt 119 = .ok (.iload 4, 2) := by decide +kernel
theorem dX8_fillDoubt_121 : decode cX8_fillDoubt 121 = .ok (.ishl, 1) := by decide +kernel
theorem dX8_fillDoubt_122 : decode cX8_fillDoubt 122 = .ok (.ior, 1) := by decide +kernel
theorem dX8_fillDoubt_123 : decode cX8_fillDoubt 123 = .ok (.iadd, 1) := by decide +kernel
theorem dX8_fillDoubt_124 : decode cX8_fillDoubt 124 = .ok (.baload, 1) := by decide +kernel
theorem dX8_fillDoubt_125 : decode cX8_fillDoubt 125 = .ok (.istore 8, 2) := by decide +kernel
theorem dX8_fillDoubt_127 : decode cX8_fillDoubt 127 = .ok (.aload_n 0, 1) := by decide +kernel
theorem dX8_fillDoubt_128 : decode cX8_fillDoubt 128 = .ok (.getfield 43, 3) := by decide +kernel
theorem dX8_fillDoubt_131 : decode cX8_fillDoubt 131 = .ok (.iconst 1, 1) := by decide +kernel
theorem dX8_fillDoubt_132 : decode cX8_fillDoubt 132 = .ok (.iload 4, 2) := by decide +kernel
theorem dX8_fillDoubt_134 : decode cX8_fillDoubt 134 = .ok (.ishl, 1) := by decide +kernel
theorem dX8_fillDoubt_135 : decode cX8_fillDoubt 135 = .ok (.iload 6, 2) := by decide +kernel
theorem dX8_fillDoubt_137 : decode cX8_fillDoubt 137 = .ok (.iadd, 1) := by decide +kernel
theorem dX8_fillDoubt_138 : decode cX8_fillDoubt 138 = .ok (.iload 5, 2) := by decide +kernel
theorem dX8_fillDoubt_140 : decode cX8_fillDoubt 140 = .ok (.ifCond .eq 21, 3) := by decide +kernel
theorem dX8_fillDoubt_143 : decode cX8_fillDoubt 143 = .ok (.iload 7, 2) := by decide +kernel
theorem dX8_fillDoubt_145 : decode cX8_fillDoubt 145 = .ok (.ifCond .ne 8, 3) := by decide +kernel
theorem dX8_fillDoubt_148 : decode cX8_fillDoubt 148 = .ok (.iload 8, 2) := by decide +kernel
theorem dX8_fillDoubt_150 : decode cX8_fillDoubt 150 = .ok (.ifCond .eq 7, 3) := by decide +kernel
theorem dX8_fillDoubt_153 : decode cX8_fillDoubt 153 = .ok (.iconst 1, 1) := by decide +kernel
theorem dX8_fillDoubt_154 : decode cX8_fillDoubt 154 = .ok (.goto 22, 3) := by decide +kernel
theorem dX8_fillDoubt_157 : decode cX8_fillDoubt 157 = .ok (.iconst 0, 1) := by decide +kernel
theorem dX8_fillDoubt_158 : decode cX8_fillDoubt 158 = .ok (.goto 18, 3) := by decide +kernel
theorem dX8_fillDoubt_161 : decode cX8_fillDoubt 161 = .ok (.iload 7, 2) := by decide +kernel
theorem dX8_fillDoubt_163 : decode cX8_fillDoubt 163 = .ok (.ifCond .eq 12, 3) := by decide +kernel
theorem dX8_fillDoubt_166 : decode cX8_fillDoubt 166 = .ok (.iload 8, 2) := by decide +kernel
theorem dX8_fillDoubt_168 : decode cX8_fillDoubt 168 = .ok (.ifCond .eq 7, 3) := by decide +kernel
theorem dX8_fillDoubt_171 : decode cX8_fillDoubt 171 = .ok (.iconst 1, 1) := by decide +kernel
theorem dX8_fillDoubt_172 : decode cX8_fillDoubt 172 = .ok (.goto 4, 3) := by decide +kernel
theorem dX8_fillDoubt_175 : decode cX8_fillDoubt 175 = .ok (.iconst 0, 1) := by decide +kernel
theorem dX8_fillDoubt_176 : decode cX8_fillDoubt 176 = .ok (.bastore, 1) := by decide +kernel
theorem dX8_fillDoubt_177 : decode cX8_fillDoubt 177 = .ok (.iinc 6 1, 3) := by decide +kernel
theorem dX8_fillDoubt_180 : decode cX8_fillDoubt 180 = .ok (.goto (-95), 3) := by decide +kernel
theorem dX8_fillDoubt_183 : decode cX8_fillDoubt 183 = .ok (.iinc 4 (-1), 3) := by decide +kernel
theorem dX8_fillDoubt_186 : decode cX8_fillDoubt 186 = .ok (.goto (-124), 3) := by decide +kernel
theorem dX8_fillDoubt_189 : decode cX8_fillDoubt 189 = .ok (.return_, 1) := by decide +kernel
set_option maxRecDepth 4000 in
theorem kX8_fillDoubt (G : GT) {σ : St} {a1 : Int32} {a2 : Int32} : ∀ (σo : St) , fX8_fillDoubt σ a1 a2 = some σo → MCt G 2 yX8_fillDoubt cX8_fillDoubt 9 (none) [.ref (gad G 62), .int a1, .int a2] σ (none) σo := by
  intro σo hF
  refine met_v (by decide) (Nat.le_of_ble_eq_true rfl) (fun X cx hE => ?_)
  have cx : Cx G X RX8 cX8_fillDoubt 9 2 := cx
  have hb175 : ∀ (kr62 : St → Int32 → Int32 → Option (St)), (∀ (σ : St) (x2 : Int32) (x4 : Int32) , kr62 σ x2 x4 = some σo → WW G X 9 σ [(0, .ref (gad G 62)), (2, .int x2), (4, .int x4)] 62 []) → ∀ (kr85 : St → Int32 → Int32 → Int32 → Int32 → Option (St)), (∀ (σ : St) (x2 : Int32) (x4 : Int32) (x5 : Int32) (x6 : Int32) , kr85 σ x2 x4 x5 x6 = some σo → WW G X 9 σ [(0, .ref (gad G 62)), (2, .int x2), (4, .int x4), (5, .int x5), (6, .int x6)] 85 []) → ∀ (σ : St) (x2 : Int32) (x4 : Int32) (x5 : Int32) (x6 : Int32) (y1 : Int32) , fX8_fillDoubt_b175 kr62 kr85 σ x2 x4 x5 x6 y1 = some σo → WW G X 9 σ [(0, .ref (gad G 62)), (2, .int x2), (4, .int x4), (5, .int x5), (6, .int x6)] 175 [.int y1, .ref (gad G 72)] := by
    intro kr62 hk62 kr85 hk85
    intro σ x2 x4 x5 x6 y1 hF
    unfold fX8_fillDoubt_b175 at hF
    refine ww_iconst cx dX8_fillDoubt_175 ic_0 ?_
    refine ww_zast (N := 32) cx (sh_72) dX8_fillDoubt_176 hF (fun σ1 hF => ?_)
    refine ww_iinc (j := 4) (ks := [0, 1, 2, 3, 4]) (lv' := fun v2 => [(6, .int v2), (0, .ref (gad G 62)), (2, .int x2), (4, .int x4), (5, .int x5)]) cx dX8_fillDoubt_177 (by decide) rfl ic_1 hF (fun _ => rfl) (fun v2 hF => ?_)
    refine ww_goto cx dX8_fillDoubt_180 (tgt := 85) rfl ?_
    exact ww_sub [1, 2, 3, 4, 0] rfl (hk85 _ _ _ _ _ hF)
  have hb153 : ∀ (kr62 : St → Int32 → Int32 → Option (St)), (∀ (σ : St) (x2 : Int32) (x4 : Int32) , kr62 σ x2 x4 = some σo → WW G X 9 σ [(0, .ref (gad G 62)), (2, .int x2), (4, .int x4)] 62 []) → ∀ (kr85 : St → Int32 → Int32 → Int32 → Int32 → Option (St)), (∀ (σ : St) (x2 : Int32) (x4 : Int32) (x5 : Int32) (x6 : Int32) , kr85 σ x2 x4 x5 x6 = some σo → WW G X 9 σ [(0, .ref (gad G 62)), (2, .int x2), (4, .int x4), (5, .int x5), (6, .int x6)] 85 []) → ∀ (σ : St) (x2 : Int32) (x4 : Int32) (x5 : Int32) (x6 : Int32) (y1 : Int32) , fX8_fillDoubt_b153 kr62 kr85 σ x2 x4 x5 x6 y1 = some σo → WW G X 9 σ [(0, .ref (gad G 62)), (2, .int x2), (4, .int x4), (5, .int x5), (6, .int x6)] 153 [.int y1, .ref (gad G 72)] := by
    intro kr62 hk62 kr85 hk85
    intro σ x2 x4 x5 x6 y1 hF
    unfold fX8_fillDoubt_b153 at hF
    refine ww_iconst cx dX8_fillDoubt_153 ic_1 ?_
    refine ww_goto cx dX8_fillDoubt_154 (tgt := 176) rfl ?_
    refine ww_zast (N := 32) cx (sh_72) dX8_fillDoubt_176 hF (fun σ3 hF => ?_)
    refine ww_iinc (j := 4) (ks := [0, 1, 2, 3, 4]) (lv' := fun v4 => [(6, .int v4), (0, .ref (gad G 62)), (2, .int x2), (4, .int x4), (5, .int x5)]) cx dX8_fillDoubt_177 (by decide) rfl ic_1 hF (fun _ => rfl) (fun v4 hF => ?_)
    refine ww_goto cx dX8_fillDoubt_180 (tgt := 85) rfl ?_
    exact ww_sub [1, 2, 3, 4, 0] rfl (hk85 _ _ _ _ _ hF)
  have hl85 : ∀ (kr62 : St → Int32 → Int32 → Option (St)), (∀ (σ : St) (x2 : Int32) (x4 : Int32) , kr62 σ x2 x4 = some σo → WW G X 9 σ [(0, .ref (gad G 62)), (2, .int x2), (4, .int x4)] 62 []) → ∀ n : Nat, ∀ (σ : St) (x2 : Int32) (x4 : Int32) (x5 : Int32) (x6 : Int32) , fX8_fillDoubt_l85 kr62 n σ x2 x4 x5 x6 = some σo → WW G X 9 σ [(0, .ref (gad G 62)), (2, .int x2), (4, .int x4), (5, .int x5), (6, .int x6)] 85 [] := by
    intro kr62 hk62
    intro n
    induction n with
    | zero =>
      intro σ x2 x4 x5 x6 hF
      exact absurd hF (by intro z; cases z)
    | succ n ih =>
      intro σ x2 x4 x5 x6 hF
      have hk85 := ih
      have hF : fX8_fillDoubt_B85 kr62 (fX8_fillDoubt_l85 kr62 n) σ x2 x4 x5 x6 = some σo := hF
      unfold fX8_fillDoubt_B85 at hF
      refine ww_iload cx dX8_fillDoubt_85 4 rfl ?_
      refine ww_iconst cx dX8_fillDoubt_87 ic_1 ?_
      refine ww_iload cx dX8_fillDoubt_88 2 rfl ?_
      refine ww_ishl cx dX8_fillDoubt_90 ?_
      refine ww_icmp_ge cx dX8_fillDoubt_91 (tgt := 183) rfl hF (fun hF => ?_) (fun hF => ?_)
      · refine ww_iinc (j := 2) (ks := [0, 1, 2]) (lv' := fun v5 => [(4, .int v5), (0, .ref (gad G 62)), (2, .int x2)]) cx dX8_fillDoubt_183 (by decide) rfl ic_m1 hF (fun _ => rfl) (fun v5 hF => ?_)
        refine ww_goto cx dX8_fillDoubt_186 (tgt := 62) rfl ?_
        exact ww_sub [1, 2, 0] rfl (hk62 _ _ _ hF)
      · refine ww_aload_n cx dX8_fillDoubt_94 rfl 0 rfl ?_
        refine gf_X8_43 cx dX8_fillDoubt_95 ?_
        refine ww_iconst cx dX8_fillDoubt_98 ic_2 ?_
        refine ww_iload cx dX8_fillDoubt_99 2 rfl ?_
        refine ww_ishl cx dX8_fillDoubt_101 ?_
        refine ww_iload cx dX8_fillDoubt_102 4 rfl ?_
        refine ww_iadd cx dX8_fillDoubt_104 ?_
        refine ww_zald (N := 32) cx (sh_72) dX8_fillDoubt_105 hF (fun hF => ?_)
        refine ww_istore (ks := [0, 1, 2, 3, 4, 5]) (lv' := fun v6 => [(7, .int v6), (0, .ref (gad G 62)), (2, .int x2), (4, .int x4), (5, .int x5), (6, .int x6)]) cx dX8_fillDoubt_106 (by decide) hF (fun _ => rfl) (fun v6 hF => ?_)
        refine ww_aload_n cx dX8_fillDoubt_108 rfl 1 rfl ?_
        refine gf_X8_43 cx dX8_fillDoubt_109 ?_
        refine ww_iconst cx dX8_fillDoubt_112 ic_2 ?_
        refine ww_iload cx dX8_fillDoubt_113 3 rfl ?_
        refine ww_ishl cx dX8_fillDoubt_115 ?_
        refine ww_iload cx dX8_fillDoubt_116 5 rfl ?_
        refine ww_iconst cx dX8_fillDoubt_118 ic_1 ?_
        refine ww_iload cx dX8_fillDoubt_119 3 rfl ?_
        refine ww_ishl cx dX8_fillDoubt_121 ?_
        refine ww_ior cx dX8_fillDoubt_122 ?_
        refine ww_iadd cx dX8_fillDoubt_123 ?_
        refine ww_zald (N := 32) cx (sh_72) dX8_fillDoubt_124 hF (fun hF => ?_)
        refine ww_istore (ks := [0, 1, 2, 3, 4, 5, 6]) (lv' := fun v7 => [(8, .int v7), (7, .int v6), (0, .ref (gad G 62)), (2, .int x2), (4, .int x4), (5, .int x5), (6, .int x6)]) cx dX8_fillDoubt_125 (by decide) hF (fun _ => rfl) (fun v7 hF => ?_)
        refine ww_aload_n cx dX8_fillDoubt_127 rfl 2 rfl ?_
        refine gf_X8_43 cx dX8_fillDoubt_128 ?_
        refine ww_iconst cx dX8_fillDoubt_131 ic_1 ?_
        refine ww_iload cx dX8_fillDoubt_132 4 rfl ?_
        refine ww_ishl cx dX8_fillDoubt_134 ?_
        refine ww_iload cx dX8_fillDoubt_135 6 rfl ?_
        refine ww_iadd cx dX8_fillDoubt_137 ?_
        refine ww_iload cx dX8_fillDoubt_138 5 rfl ?_
        refine ww_if_eq cx dX8_fillDoubt_140 (tgt := 161) rfl hF (fun hF => ?_) (fun hF => ?_)
        · refine ww_iload cx dX8_fillDoubt_161 1 rfl ?_
          refine ww_if_eq cx dX8_fillDoubt_163 (tgt := 175) rfl hF (fun hF => ?_) (fun hF => ?_)
          · exact ww_sub [2, 3, 4, 5, 6] rfl (hb175 _ hk62 _ hk85 _ _ _ _ _ _ hF)
          · refine ww_iload cx dX8_fillDoubt_166 0 rfl ?_
            refine ww_if_eq cx dX8_fillDoubt_168 (tgt := 175) rfl hF (fun hF => ?_) (fun hF => ?_)
            · exact ww_sub [2, 3, 4, 5, 6] rfl (hb175 _ hk62 _ hk85 _ _ _ _ _ _ hF)
            · refine ww_iconst cx dX8_fillDoubt_171 ic_1 ?_
              refine ww_goto cx dX8_fillDoubt_172 (tgt := 176) rfl ?_
              refine ww_zast (N := 32) cx (sh_72) dX8_fillDoubt_176 hF (fun σ8 hF => ?_)
              refine ww_iinc (j := 6) (ks := [0, 3, 4, 5, 6]) (lv' := fun v9 => [(6, .int v9), (0, .ref (gad G 62)), (2, .int x2), (4, .int x4), (5, .int x5)]) cx dX8_fillDoubt_177 (by decide) rfl ic_1 hF (fun _ => rfl) (fun v9 hF => ?_)
              refine ww_goto cx dX8_fillDoubt_180 (tgt := 85) rfl ?_
              exact ww_sub [1, 2, 3, 4, 0] rfl (hk85 _ _ _ _ _ hF)
        · refine ww_iload cx dX8_fillDoubt_143 1 rfl ?_
          refine ww_if_ne cx dX8_fillDoubt_145 (tgt := 153) rfl hF (fun hF => ?_) (fun hF => ?_)
          · exact ww_sub [2, 3, 4, 5, 6] rfl (hb153 _ hk62 _ hk85 _ _ _ _ _ _ hF)
          · refine ww_iload cx dX8_fillDoubt_148 0 rfl ?_
            refine ww_if_eq cx dX8_fillDoubt_150 (tgt := 157) rfl hF (fun hF => ?_) (fun hF => ?_)
            · refine ww_iconst cx dX8_fillDoubt_157 ic_0 ?_
              refine ww_goto cx dX8_fillDoubt_158 (tgt := 176) rfl ?_
              refine ww_zast (N := 32) cx (sh_72) dX8_fillDoubt_176 hF (fun σ10 hF => ?_)
              refine ww_iinc (j := 6) (ks := [0, 3, 4, 5, 6]) (lv' := fun v11 => [(6, .int v11), (0, .ref (gad G 62)), (2, .int x2), (4, .int x4), (5, .int x5)]) cx dX8_fillDoubt_177 (by decide) rfl ic_1 hF (fun _ => rfl) (fun v11 hF => ?_)
              refine ww_goto cx dX8_fillDoubt_180 (tgt := 85) rfl ?_
              exact ww_sub [1, 2, 3, 4, 0] rfl (hk85 _ _ _ _ _ hF)
            · exact ww_sub [2, 3, 4, 5, 6] rfl (hb153 _ hk62 _ hk85 _ _ _ _ _ _ hF)
  have hb80 : ∀ (kr62 : St → Int32 → Int32 → Option (St)), (∀ (σ : St) (x2 : Int32) (x4 : Int32) , kr62 σ x2 x4 = some σo → WW G X 9 σ [(0, .ref (gad G 62)), (2, .int x2), (4, .int x4)] 62 []) → ∀ (σ : St) (x2 : Int32) (x4 : Int32) (y0 : Int32) , fX8_fillDoubt_b80 kr62 σ x2 x4 y0 = some σo → WW G X 9 σ [(0, .ref (gad G 62)), (2, .int x2), (4, .int x4)] 80 [.int y0] := by
    intro kr62 hk62
    intro σ x2 x4 y0 hF
    unfold fX8_fillDoubt_b80 at hF
    refine ww_istore (ks := [0, 1, 2, 3]) (lv' := fun v12 => [(5, .int v12), (0, .ref (gad G 62)), (2, .int x2), (4, .int x4)]) cx dX8_fillDoubt_80 (by decide) hF (fun _ => rfl) (fun v12 hF => ?_)
    refine ww_iconst cx dX8_fillDoubt_82 ic_0 ?_
    refine ww_istore (ks := [0, 1, 2, 3, 4]) (lv' := fun v13 => [(6, .int v13), (5, .int v12), (0, .ref (gad G 62)), (2, .int x2), (4, .int x4)]) cx dX8_fillDoubt_83 (by decide) hF (fun _ => rfl) (fun v13 hF => ?_)
    exact ww_sub [2, 3, 4, 1, 0] rfl (hl85 _ hk62 FU _ _ _ _ _ hF)
  have hl62 : ∀ n : Nat, ∀ (σ : St) (x2 : Int32) (x4 : Int32) , fX8_fillDoubt_l62 n σ x2 x4 = some σo → WW G X 9 σ [(0, .ref (gad G 62)), (2, .int x2), (4, .int x4)] 62 [] := by
    intro n
    induction n with
    | zero =>
      intro σ x2 x4 hF
      exact absurd hF (by intro z; cases z)
    | succ n ih =>
      intro σ x2 x4 hF
      have hk62 := ih
      have hF : fX8_fillDoubt_B62 (fX8_fillDoubt_l62 n) σ x2 x4 = some σo := hF
      unfold fX8_fillDoubt_B62 at hF
      refine ww_iload cx dX8_fillDoubt_62 2 rfl ?_
      refine ww_if_lt cx dX8_fillDoubt_64 (tgt := 189) rfl hF (fun hF => ?_) (fun hF => ?_)
      · exact ww_rvs hE dX8_fillDoubt_189 hF
      · refine ww_iload cx dX8_fillDoubt_67 2 rfl ?_
        refine ww_iconst cx dX8_fillDoubt_69 ic_2 ?_
        refine ww_irem cx dX8_fillDoubt_70 hF (fun hF => ?_)
        refine ww_iload_n cx dX8_fillDoubt_71 rfl 1 rfl ?_
        refine ww_icmp_ne cx dX8_fillDoubt_72 (tgt := 79) rfl hF (fun hF => ?_) (fun hF => ?_)
        · refine ww_iconst cx dX8_fillDoubt_79 ic_0 ?_
          exact hb80 _ hk62 _ _ _ _ hF
        · refine ww_iconst cx dX8_fillDoubt_75 ic_1 ?_
          refine ww_goto cx dX8_fillDoubt_76 (tgt := 80) rfl ?_
          exact hb80 _ hk62 _ _ _ _ hF
  have hl10 : ∀ n : Nat, ∀ (σ : St) (x1 : Int32) (x2 : Int32) (x3 : Int32) (x4 : Int32) , fX8_fillDoubt_l10 n σ x1 x2 x3 x4 = some σo → WW G X 9 σ [(0, .ref (gad G 62)), (1, .int x1), (2, .int x2), (3, .int x3), (4, .int x4)] 10 [] := by
    intro n
    induction n with
    | zero =>
      intro σ x1 x2 x3 x4 hF
      exact absurd hF (by intro z; cases z)
    | succ n ih =>
      intro σ x1 x2 x3 x4 hF
      have hk10 := ih
      have hF : fX8_fillDoubt_B10 (fX8_fillDoubt_l10 n) σ x1 x2 x3 x4 = some σo := hF
      unfold fX8_fillDoubt_B10 at hF
      refine ww_iload cx dX8_fillDoubt_10 4 rfl ?_
      refine ww_aload_n cx dX8_fillDoubt_12 rfl 0 rfl ?_
      refine ww_V0_pi kv_X8_87 rfl cx sh_62 ⟨Nat.le_of_ble_eq_true rfl, Nat.le_of_ble_eq_true rfl⟩ (Nat.le_of_ble_eq_true rfl) dX8_fillDoubt_13 (kX8_worlds G) hF (fun r14 hF => ?_)
      refine ww_icmp_ge cx dX8_fillDoubt_16 (tgt := 57) rfl hF (fun hF => ?_) (fun hF => ?_)
      · refine ww_iload_n cx dX8_fillDoubt_57 rfl 3 rfl ?_
        refine ww_iconst cx dX8_fillDoubt_58 ic_1 ?_
        refine ww_isub cx dX8_fillDoubt_59 ?_
        refine ww_istore (ks := [0, 1, 3]) (lv' := fun v15 => [(4, .int v15), (0, .ref (gad G 62)), (2, .int x2)]) cx dX8_fillDoubt_60 (by decide) hF (fun _ => rfl) (fun v15 hF => ?_)
        exact ww_sub [1, 2, 0] rfl (hl62 FU _ _ _ hF)
      · refine ww_aload_n cx dX8_fillDoubt_19 rfl 0 rfl ?_
        refine gf_X8_43 cx dX8_fillDoubt_20 ?_
        refine ww_aload_n cx dX8_fillDoubt_23 rfl 0 rfl ?_
        refine ww_V0_pi kv_X8_87 rfl cx sh_62 ⟨Nat.le_of_ble_eq_true rfl, Nat.le_of_ble_eq_true rfl⟩ (Nat.le_of_ble_eq_true rfl) dX8_fillDoubt_24 (kX8_worlds G) hF (fun r16 hF => ?_)
        refine ww_iload cx dX8_fillDoubt_27 4 rfl ?_
        refine ww_iadd cx dX8_fillDoubt_29 ?_
        refine ww_aload_n cx dX8_fillDoubt_30 rfl 0 rfl ?_
        refine ww_iload_n cx dX8_fillDoubt_31 rfl 1 rfl ?_
        refine ww_iconst cx dX8_fillDoubt_32 ic_2 ?_
        refine ww_V2_pi kv_X8_91 rfl cx sh_62 ⟨Nat.le_of_ble_eq_true rfl, Nat.le_of_ble_eq_true rfl⟩ (Nat.le_of_ble_eq_true rfl) dX8_fillDoubt_33 (kX8_ofClaim G) hF (fun r17 hF => ?_)
        refine ww_iload cx dX8_fillDoubt_36 4 rfl ?_
        refine ww_S2_pi kv_X8_168 cx ⟨Nat.le_of_ble_eq_true rfl, Nat.le_of_ble_eq_true rfl⟩ (Nat.le_of_ble_eq_true rfl) dX8_fillDoubt_38 (kX8_bit G) hF (fun r18 hF => ?_)
        refine ww_iconst cx dX8_fillDoubt_41 ic_1 ?_
        refine ww_icmp_ne cx dX8_fillDoubt_42 (tgt := 49) rfl hF (fun hF => ?_) (fun hF => ?_)
        · refine ww_iconst cx dX8_fillDoubt_49 ic_0 ?_
          refine ww_zast (N := 32) cx (sh_72) dX8_fillDoubt_50 hF (fun σ19 hF => ?_)
          refine ww_iinc (j := 4) (ks := [0, 1, 2, 3, 4]) (lv' := fun v20 => [(4, .int v20), (0, .ref (gad G 62)), (1, .int x1), (2, .int x2), (3, .int x3)]) cx dX8_fillDoubt_51 (by decide) rfl ic_1 hF (fun _ => rfl) (fun v20 hF => ?_)
          refine ww_goto cx dX8_fillDoubt_54 (tgt := 10) rfl ?_
          exact ww_sub [1, 2, 3, 4, 0] rfl (hk10 _ _ _ _ _ hF)
        · refine ww_iconst cx dX8_fillDoubt_45 ic_1 ?_
          refine ww_goto cx dX8_fillDoubt_46 (tgt := 50) rfl ?_
          refine ww_zast (N := 32) cx (sh_72) dX8_fillDoubt_50 hF (fun σ21 hF => ?_)
          refine ww_iinc (j := 4) (ks := [0, 1, 2, 3, 4]) (lv' := fun v22 => [(4, .int v22), (0, .ref (gad G 62)), (1, .int x1), (2, .int x2), (3, .int x3)]) cx dX8_fillDoubt_51 (by decide) rfl ic_1 hF (fun _ => rfl) (fun v22 hF => ?_)
          refine ww_goto cx dX8_fillDoubt_54 (tgt := 10) rfl ?_
          exact ww_sub [1, 2, 3, 4, 0] rfl (hk10 _ _ _ _ _ hF)
  unfold fX8_fillDoubt at hF
  show WW G X 9 σ [(0, .ref (gad G 62)), (1, .int a1), (2, .int a2)] 0 []
  refine ww_aload_n cx dX8_fillDoubt_0 rfl 0 rfl ?_
  refine gf_X8_9 cx dX8_fillDoubt_1 ?_
  refine ww_iconst cx dX8_fillDoubt_4 ic_0 ?_
  refine ww_iald (N := 77) cx (sh_63) dX8_fillDoubt_5 hF (fun hF => ?_)
  refine ww_istore_n (ks := [0, 1, 2, 3]) (lv' := fun v23 => [(3, .int v23), (0, .ref (gad G 62)), (1, .int a1), (2, .int a2)]) cx dX8_fillDoubt_6 rfl (by decide) hF (fun _ => rfl) (fun v23 hF => ?_)
  refine ww_iconst cx dX8_fillDoubt_7 ic_0 ?_
  refine ww_istore (ks := [0, 1, 2, 3, 4]) (lv' := fun v24 => [(4, .int v24), (3, .int v23), (0, .ref (gad G 62)), (1, .int a1), (2, .int a2)]) cx dX8_fillDoubt_8 (by decide) hF (fun _ => rfl) (fun v24 hF => ?_)
  exact ww_sub [2, 3, 4, 1, 0] rfl (hl10 FU _ _ _ _ _ hF)
theorem dX8_goes_0 : decode cX8_goes 0 = .ok (.aload_n 0, 1) := by decide +kernel
theorem dX8_goes_1 : decode cX8_goes 1 = .ok (.iload_n 1, 1) := by decide +kernel
theorem dX8_goes_2 : decode cX8_goes 2 = .ok (.iconst 1, 1) := by decide +kernel
theorem dX8_goes_3 : decode cX8_goes 3 = .ok (.invokevirtual 263, 3) := by decide +kernel
theorem dX8_goes_6 : decode cX8_goes 6 = .ok (.iload_n 2, 1) := by decide +kernel
theorem dX8_goes_7 : decode cX8_goes 7 = .ok (.iconst (-1), 1) := by decide +kernel
theorem dX8_goes_8 : decode cX8_goes 8 = .ok (.ixor, 1) := by decide +kernel
theorem dX8_goes_9 : decode cX8_goes 9 = .ok (.iand, 1) := by decide +kernel
theorem dX8_goes_10 : decode cX8_goes 10 = .ok (.ifCond .ne 20, 3) := by decide +kernel
theorem dX8_goes_13 : decode cX8_goes 13 = .ok (.iload_n 2, 1) := by decide +kernel
theorem dX8_goes_14 : decode cX8_goes 14 = .ok (.aload_n 0, 1) := by decide +kernel
theorem dX8_goes_15 : decode cX8_goes 15 = .ok (.iload_n 1, 1) := by decide +kernel
theorem dX8_goes_16 : decode cX8_goes 16 = .ok (.iconst 0, 1) := by decide +kernel
theorem dX8_goes_17 : decode cX8_goes 17 = .ok (.invokevirtual 263, 3) := by decide +kernel
theorem dX8_goes_20 : decode cX8_goes 20 = .ok (.invokestatic 168, 3) := by decide +kernel
theorem dX8_goes_23 : decode cX8_goes 23 = .ok (.ifCond .ne 7, 3) := by decide +kernel
theorem dX8_goes_26 : decode cX8_goes 26 = .ok (.iconst 1, 1) := by decide +kernel
theorem dX8_goes_27 : decode cX8_goes 27 = .ok (.goto 4, 3) := by decide +kernel
theorem dX8_goes_30 : decode cX8_goes 30 = .ok (.iconst 0, 1) := by decide +kernel
theorem dX8_goes_31 : decode cX8_goes 31 = .ok (.ireturn, 1) := by decide +kernel
set_option maxRecDepth 4000 in
theorem kX8_goes (G : GT) {σ : St} {a1 : Int32} {a2 : Int32} : ∀ (r : Int32) , fX8_goes σ a1 a2 = some r → MCt G 2 yX8_goes cX8_goes 3 (some .boolean) [.ref (gad G 62), .int a1, .int a2] σ (some (.int r)) σ := by
  intro r hF
  refine met_zz (by decide) (Nat.le_of_ble_eq_true rfl) (fun X cx hE => ?_)
  have cx : Cx G X RX8 cX8_goes 3 2 := cx
  unfold fX8_goes at hF
  show WW G X 3 σ [(0, .ref (gad G 62)), (1, .int a1), (2, .int a2)] 0 []
  refine ww_aload_n cx dX8_goes_0 rfl 0 rfl ?_
  refine ww_iload_n cx dX8_goes_1 rfl 1 rfl ?_
  refine ww_iconst cx dX8_goes_2 ic_1 ?_
  refine ww_V2_pi kv_X8_263 rfl cx sh_62 ⟨Nat.le_of_ble_eq_true rfl, Nat.le_of_ble_eq_true rfl⟩ (Nat.le_of_ble_eq_true rfl) dX8_goes_3 (kX8_ofStep G) hF (fun r1 hF => ?_)
  refine ww_iload_n cx dX8_goes_6 rfl 2 rfl ?_
  refine ww_iconst cx dX8_goes_7 ic_m1 ?_
  refine ww_ixor cx dX8_goes_8 ?_
  refine ww_iand cx dX8_goes_9 ?_
  refine ww_if_ne cx dX8_goes_10 (tgt := 30) rfl hF (fun hF => ?_) (fun hF => ?_)
  · refine ww_iconst cx dX8_goes_30 ic_0 ?_
    exact ww_rzp hE dX8_goes_31 hF
  · refine ww_iload_n cx dX8_goes_13 rfl 2 rfl ?_
    refine ww_aload_n cx dX8_goes_14 rfl 0 rfl ?_
    refine ww_iload_n cx dX8_goes_15 rfl 1 rfl ?_
    refine ww_iconst cx dX8_goes_16 ic_0 ?_
    refine ww_V2_pi kv_X8_263 rfl cx sh_62 ⟨Nat.le_of_ble_eq_true rfl, Nat.le_of_ble_eq_true rfl⟩ (Nat.le_of_ble_eq_true rfl) dX8_goes_17 (kX8_ofStep G) hF (fun r2 hF => ?_)
    refine ww_S2_pi kv_X8_168 cx ⟨Nat.le_of_ble_eq_true rfl, Nat.le_of_ble_eq_true rfl⟩ (Nat.le_of_ble_eq_true rfl) dX8_goes_20 (kX8_bit G) hF (fun r3 hF => ?_)
    refine ww_if_ne cx dX8_goes_23 (tgt := 30) rfl hF (fun hF => ?_) (fun hF => ?_)
    · refine ww_iconst cx dX8_goes_30 ic_0 ?_
      exact ww_rzp hE dX8_goes_31 hF
    · refine ww_iconst cx dX8_goes_26 ic_1 ?_
      refine ww_goto cx dX8_goes_27 (tgt := 31) rfl ?_
      exact ww_rzp hE dX8_goes_31 hF
theorem dX8_image_0 : decode cX8_image 0 = .ok (.iload_n 1, 1) := by decide +kernel
theorem dX8_image_1 : decode cX8_image 1 = .ok (.i2l, 1) := by decide +kernel
theorem dX8_image_2 : decode cX8_image 2 = .ok (.lconst 0, 1) := by decide +kernel
theorem dX8_image_3 : decode cX8_image 3 = .ok (.ldc2_w 81, 3) := by decide +kernel
theorem dX8_image_6 : decode cX8_image 6 = .ok (.invokestatic 83, 3) := by decide +kernel
theorem dX8_image_9 : decode cX8_image 9 = .ok (.ifCond .ne 6, 3) := by decide +kernel
theorem dX8_image_12 : decode cX8_image 12 = .ok (.bipush (-2), 2) := by decide +kernel
theorem dX8_image_14 : decode cX8_image 14 = .ok (.ireturn, 1) := by decide +kernel
theorem dX8_image_15 : decode cX8_image 15 = .ok (.iconst 0, 1) := by decide +kernel
theorem dX8_image_16 : decode cX8_image 16 = .ok (.istore_n 2, 1) := by decide +kernel
theorem dX8_image_17 : decode cX8_image 17 = .ok (.iload_n 2, 1) := by decide +kernel
theorem dX8_image_18 : decode cX8_image 18 = .ok (.bipush 77, 2) := by decide +kernel
theorem dX8_image_20 : decode cX8_image 20 = .ok (.if_icmp .ge 26, 3) := by decide +kernel
theorem dX8_image_23 : decode cX8_image 23 = .ok (.aload_n 0, 1) := by decide +kernel
theorem dX8_image_24 : decode cX8_image 24 = .ok (.getfield 13, 3) := by decide +kernel
theorem dX8_image_27 : decode cX8_image 27 = .ok (.bipush 77, 2) := by decide +kernel
theorem dX8_image_29 : decode cX8_image 29 = .ok (.iload_n 1, 1) := by decide +kernel
theorem dX8_image_30 : decode cX8_image 30 = .ok (.imul, 1) := by decide +kernel
theorem dX8_image_31 : decode cX8_image 31 = .ok (.iload_n 2, 1) := by decide +kernel
theorem dX8_image_32 : decode cX8_image 32 = .ok (.iadd, 1) := by decide +kernel
theorem dX8_image_33 : decode cX8_image 33 = .ok (.aload_n 0, 1) := by decide +kernel
theorem dX8_image_34 : decode cX8_image 34 = .ok (.getfield 9, 3) := by decide +kernel
theorem dX8_image_37 : decode cX8_image 37 = .ok (.iload_n 2, 1) := by decide +kernel
theorem dX8_image_38 : decode cX8_image 38 = .ok (.iaload, 1) := by decide +kernel
theorem dX8_image_39 : decode cX8_image 39 = .ok (.iastore, 1) := by decide +kernel
theorem dX8_image_40 : decode cX8_image 40 = .ok (.iinc 2 1, 3) := by decide +kernel
theorem dX8_image_43 : decode cX8_image 43 = .ok (.goto (-26), 3) := by decide +kernel
theorem dX8_image_46 : decode cX8_image 46 = .ok (.aload_n 0, 1) := by decide +kernel
theorem dX8_image_47 : decode cX8_image 47 = .ok (.getfield 16, 3) := by decide +kernel
theorem dX8_image_50 : decode cX8_image 50 = .ok (.iload_n 1, 1) := by decide +kernel
theorem dX8_image_51 : decode cX8_image 51 = .ok (.iconst 1, 1) := by decide +kernel
theorem dX8_image_52 : decode cX8_image 52 = .ok (.bastore, 1) := by decide +kernel
theorem dX8_image_53 : decode cX8_image 53 = .ok (.iconst 0, 1) := by decide +kernel
theorem dX8_image_54 : decode cX8_image 54 = .ok (.ireturn, 1) := by decide +kernel
set_option maxRecDepth 4000 in
theorem kX8_image (G : GT) {σ : St} {a1 : Int32} : ∀ (r : Int32) (σo : St) , fX8_image σ a1 = some (r, σo) → MCt G 2 yX8_image cX8_image 3 (some .int) [.ref (gad G 62), .int a1] σ (some (.int r)) σo := by
  intro r σo hF
  refine met_i (by decide) (Nat.le_of_ble_eq_true rfl) (fun X cx hE => ?_)
  have cx : Cx G X RX8 cX8_image 3 2 := cx
  have hl17 : ∀ n : Nat, ∀ (σ : St) (x1 : Int32) (x2 : Int32) , fX8_image_l17 n σ x1 x2 = some (r, σo) → WW G X 3 σ [(0, .ref (gad G 62)), (1, .int x1), (2, .int x2)] 17 [] := by
    intro n
    induction n with
    | zero =>
      intro σ x1 x2 hF
      exact absurd hF (by intro z; cases z)
    | succ n ih =>
      intro σ x1 x2 hF
      have hk17 := ih
      have hF : fX8_image_B17 (fX8_image_l17 n) σ x1 x2 = some (r, σo) := hF
      unfold fX8_image_B17 at hF
      refine ww_iload_n cx dX8_image_17 rfl 2 rfl ?_
      refine ww_bipush cx dX8_image_18 bc_77 ?_
      refine ww_icmp_ge cx dX8_image_20 (tgt := 46) rfl hF (fun hF => ?_) (fun hF => ?_)
      · refine ww_aload_n cx dX8_image_46 rfl 0 rfl ?_
        refine gf_X8_16 cx dX8_image_47 ?_
        refine ww_iload_n cx dX8_image_50 rfl 1 rfl ?_
        refine ww_iconst cx dX8_image_51 ic_1 ?_
        refine ww_zast (N := 3) cx (sh_65) dX8_image_52 hF (fun σ1 hF => ?_)
        refine ww_iconst cx dX8_image_53 ic_0 ?_
        exact ww_ris hE dX8_image_54 hF
      · refine ww_aload_n cx dX8_image_23 rfl 0 rfl ?_
        refine gf_X8_13 cx dX8_image_24 ?_
        refine ww_bipush cx dX8_image_27 bc_77 ?_
        refine ww_iload_n cx dX8_image_29 rfl 1 rfl ?_
        refine ww_imul cx dX8_image_30 ?_
        refine ww_iload_n cx dX8_image_31 rfl 2 rfl ?_
        refine ww_iadd cx dX8_image_32 ?_
        refine ww_aload_n cx dX8_image_33 rfl 0 rfl ?_
        refine gf_X8_9 cx dX8_image_34 ?_
        refine ww_iload_n cx dX8_image_37 rfl 2 rfl ?_
        refine ww_iald (N := 77) cx (sh_63) dX8_image_38 hF (fun hF => ?_)
        refine ww_iast (N := 231) cx (sh_64) dX8_image_39 hF (fun σ2 hF => ?_)
        refine ww_iinc (j := 2) (ks := [0, 1, 2]) (lv' := fun v3 => [(2, .int v3), (0, .ref (gad G 62)), (1, .int x1)]) cx dX8_image_40 (by decide) rfl ic_1 hF (fun _ => rfl) (fun v3 hF => ?_)
        refine ww_goto cx dX8_image_43 (tgt := 17) rfl ?_
        exact ww_sub [1, 2, 0] rfl (hk17 _ _ _ hF)
  unfold fX8_image at hF
  show WW G X 3 σ [(0, .ref (gad G 62)), (1, .int a1)] 0 []
  refine ww_iload_n cx dX8_image_0 rfl 1 rfl ?_
  refine ww_i2l cx dX8_image_1 ?_
  refine ww_lconst cx dX8_image_2 lc_0 ?_
  refine ww_ldc2 (v := 2) cx dX8_image_3 cn_X8_81 ?_
  refine ww_S3_pi kv_X8_83 cx ⟨Nat.le_of_ble_eq_true rfl, Nat.le_of_ble_eq_true rfl⟩ (Nat.le_of_ble_eq_true rfl) dX8_image_6 (kX8_in G) hF (fun r4 hF => ?_)
  refine ww_if_ne cx dX8_image_9 (tgt := 15) rfl hF (fun hF => ?_) (fun hF => ?_)
  · refine ww_iconst cx dX8_image_15 ic_0 ?_
    refine ww_istore_n (ks := [0, 1, 2]) (lv' := fun v5 => [(2, .int v5), (0, .ref (gad G 62)), (1, .int a1)]) cx dX8_image_16 rfl (by decide) hF (fun _ => rfl) (fun v5 hF => ?_)
    exact ww_sub [1, 2, 0] rfl (hl17 FU _ _ _ hF)
  · refine ww_bipush cx dX8_image_12 bc_m2 ?_
    exact ww_ris hE dX8_image_14 hF
theorem dX8_isClaim_0 : decode cX8_isClaim 0 = .ok (.lload_n 1, 1) := by decide +kernel
theorem dX8_isClaim_1 : decode cX8_isClaim 1 = .ok (.lconst 0, 1) := by decide +kernel
theorem dX8_isClaim_2 : decode cX8_isClaim 2 = .ok (.aload_n 0, 1) := by decide +kernel
theorem dX8_isClaim_3 : decode cX8_isClaim 3 = .ok (.getfield 9, 3) := by decide +kernel
theorem dX8_isClaim_6 : decode cX8_isClaim 6 = .ok (.iconst 3, 1) := by decide +kernel
theorem dX8_isClaim_7 : decode cX8_isClaim 7 = .ok (.iaload, 1) := by decide +kernel
theorem dX8_isClaim_8 : decode cX8_isClaim 8 = .ok (.iconst 1, 1) := by decide +kernel
theorem dX8_isClaim_9 : decode cX8_isClaim 9 = .ok (.isub, 1) := by decide +kernel
theorem dX8_isClaim_10 : decode cX8_isClaim 10 = .ok (.i2l, 1) := by decide +kernel
theorem dX8_isClaim_11 : decode cX8_isClaim 11 = .ok (.invokestatic 83, 3) := by decide +kernel
theorem dX8_isClaim_14 : decode cX8_isClaim 14 = .ok (.ireturn, 1) := by decide +kernel
set_option maxRecDepth 4000 in
theorem kX8_isClaim (G : GT) {σ : St} {a1 : Int64} : ∀ (r : Int32) , fX8_isClaim σ a1 = some r → MCt G 2 yX8_isClaim cX8_isClaim 3 (some .boolean) [.ref (gad G 62), .long a1] σ (some (.int r)) σ := by
  intro r hF
  refine met_zz (by decide) (Nat.le_of_ble_eq_true rfl) (fun X cx hE => ?_)
  have cx : Cx G X RX8 cX8_isClaim 3 2 := cx
  unfold fX8_isClaim at hF
  show WW G X 3 σ [(0, .ref (gad G 62)), (1, .long a1)] 0 []
  refine ww_lload_n cx dX8_isClaim_0 rfl 1 rfl ?_
  refine ww_lconst cx dX8_isClaim_1 lc_0 ?_
  refine ww_aload_n cx dX8_isClaim_2 rfl 0 rfl ?_
  refine gf_X8_9 cx dX8_isClaim_3 ?_
  refine ww_iconst cx dX8_isClaim_6 ic_3 ?_
  refine ww_iald (N := 77) cx (sh_63) dX8_isClaim_7 hF (fun hF => ?_)
  refine ww_iconst cx dX8_isClaim_8 ic_1 ?_
  refine ww_isub cx dX8_isClaim_9 ?_
  refine ww_i2l cx dX8_isClaim_10 ?_
  refine ww_S3_pi kv_X8_83 cx ⟨Nat.le_of_ble_eq_true rfl, Nat.le_of_ble_eq_true rfl⟩ (Nat.le_of_ble_eq_true rfl) dX8_isClaim_11 (kX8_in G) hF (fun r1 hF => ?_)
  exact ww_rzp hE dX8_isClaim_14 hF
theorem dX8_isGuest_0 : decode cX8_isGuest 0 = .ok (.lload_n 1, 1) := by decide +kernel
theorem dX8_isGuest_1 : decode cX8_isGuest 1 = .ok (.lconst 0, 1) := by decide +kernel
theorem dX8_isGuest_2 : decode cX8_isGuest 2 = .ok (.aload_n 0, 1) := by decide +kernel
theorem dX8_isGuest_3 : decode cX8_isGuest 3 = .ok (.getfield 9, 3) := by decide +kernel
theorem dX8_isGuest_6 : decode cX8_isGuest 6 = .ok (.iconst 5, 1) := by decide +kernel
theorem dX8_isGuest_7 : decode cX8_isGuest 7 = .ok (.iaload, 1) := by decide +kernel
theorem dX8_isGuest_8 : decode cX8_isGuest 8 = .ok (.iconst 1, 1) := by decide +kernel
theorem dX8_isGuest_9 : decode cX8_isGuest 9 = .ok (.isub, 1) := by decide +kernel
theorem dX8_isGuest_10 : decode cX8_isGuest 10 = .ok (.i2l, 1) := by decide +kernel
theorem dX8_isGuest_11 : decode cX8_isGuest 11 = .ok (.invokestatic 83, 3) := by decide +kernel
theorem dX8_isGuest_14 : decode cX8_isGuest 14 = .ok (.ireturn, 1) := by decide +kernel
set_option maxRecDepth 4000 in
theorem kX8_isGuest (G : GT) {σ : St} {a1 : Int64} : ∀ (r : Int32) , fX8_isGuest σ a1 = some r → MCt G 2 yX8_isGuest cX8_isGuest 3 (some .boolean) [.ref (gad G 62), .long a1] σ (some (.int r)) σ := by
  intro r hF
  refine met_zz (by decide) (Nat.le_of_ble_eq_true rfl) (fun X cx hE => ?_)
  have cx : Cx G X RX8 cX8_isGuest 3 2 := cx
  unfold fX8_isGuest at hF
  show WW G X 3 σ [(0, .ref (gad G 62)), (1, .long a1)] 0 []
  refine ww_lload_n cx dX8_isGuest_0 rfl 1 rfl ?_
  refine ww_lconst cx dX8_isGuest_1 lc_0 ?_
  refine ww_aload_n cx dX8_isGuest_2 rfl 0 rfl ?_
  refine gf_X8_9 cx dX8_isGuest_3 ?_
  refine ww_iconst cx dX8_isGuest_6 ic_5 ?_
  refine ww_iald (N := 77) cx (sh_63) dX8_isGuest_7 hF (fun hF => ?_)
  refine ww_iconst cx dX8_isGuest_8 ic_1 ?_
  refine ww_isub cx dX8_isGuest_9 ?_
  refine ww_i2l cx dX8_isGuest_10 ?_
  refine ww_S3_pi kv_X8_83 cx ⟨Nat.le_of_ble_eq_true rfl, Nat.le_of_ble_eq_true rfl⟩ (Nat.le_of_ble_eq_true rfl) dX8_isGuest_11 (kX8_in G) hF (fun r1 hF => ?_)
  exact ww_rzp hE dX8_isGuest_14 hF
theorem dX8_isNextIn_0 : decode cX8_isNextIn 0 = .ok (.aload_n 0, 1) := by decide +kernel
theorem dX8_isNextIn_1 : decode cX8_isNextIn 1 = .ok (.invokevirtual 134, 3) := by decide +kernel
theorem dX8_isNextIn_4 : decode cX8_isNextIn 4 = .ok (.ifCond .eq 23, 3) := by decide +kernel
theorem dX8_isNextIn_7 : decode cX8_isNextIn 7 = .ok (.aload_n 0, 1) := by decide +kernel
theorem dX8_isNextIn_8 : decode cX8_isNextIn 8 = .ok (.getfield 111, 3) := by decide +kernel
theorem dX8_isNextIn_11 : decode cX8_isNextIn 11 = .ok (.iconst 2, 1) := by decide +kernel
theorem dX8_isNextIn_12 : decode cX8_isNextIn 12 = .ok (.if_icmp .ne 15, 3) := by decide +kernel
theorem dX8_isNextIn_15 : decode cX8_isNextIn 15 = .ok (.aload_n 0, 1) := by decide +kernel
theorem dX8_isNextIn_16 : decode cX8_isNextIn 16 = .ok (.getfield 122, 3) := by decide +kernel
theorem dX8_isNextIn_19 : decode cX8_isNextIn 19 = .ok (.iload_n 1, 1) := by decide +kernel
theorem dX8_isNextIn_20 : decode cX8_isNextIn 20 = .ok (.if_icmp .ge 7, 3) := by decide +kernel
theorem dX8_isNextIn_23 : decode cX8_isNextIn 23 = .ok (.iconst 1, 1) := by decide +kernel
theorem dX8_isNextIn_24 : decode cX8_isNextIn 24 = .ok (.goto 4, 3) := by decide +kernel
theorem dX8_isNextIn_27 : decode cX8_isNextIn 27 = .ok (.iconst 0, 1) := by decide +kernel
theorem dX8_isNextIn_28 : decode cX8_isNextIn 28 = .ok (.ireturn, 1) := by decide +kernel
set_option maxRecDepth 4000 in
theorem kX8_isNextIn (G : GT) {σ : St} {a1 : Int32} : ∀ (r : Int32) , fX8_isNextIn σ a1 = some r → MCt G 2 yX8_isNextIn cX8_isNextIn 2 (some .boolean) [.ref (gad G 62), .int a1] σ (some (.int r)) σ := by
  intro r hF
  refine met_zz (by decide) (Nat.le_of_ble_eq_true rfl) (fun X cx hE => ?_)
  have cx : Cx G X RX8 cX8_isNextIn 2 2 := cx
  unfold fX8_isNextIn at hF
  show WW G X 2 σ [(0, .ref (gad G 62)), (1, .int a1)] 0 []
  refine ww_aload_n cx dX8_isNextIn_0 rfl 0 rfl ?_
  refine ww_V0_pi kv_X8_134 rfl cx sh_62 ⟨Nat.le_of_ble_eq_true rfl, Nat.le_of_ble_eq_true rfl⟩ (Nat.le_of_ble_eq_true rfl) dX8_isNextIn_1 (kX8_good G) hF (fun r1 hF => ?_)
  refine ww_if_eq cx dX8_isNextIn_4 (tgt := 27) rfl hF (fun hF => ?_) (fun hF => ?_)
  · refine ww_iconst cx dX8_isNextIn_27 ic_0 ?_
    exact ww_rzp hE dX8_isNextIn_28 hF
  · refine ww_aload_n cx dX8_isNextIn_7 rfl 0 rfl ?_
    refine gf_X8_111 cx dX8_isNextIn_8 ?_
    refine ww_iconst cx dX8_isNextIn_11 ic_2 ?_
    refine ww_icmp_ne cx dX8_isNextIn_12 (tgt := 27) rfl hF (fun hF => ?_) (fun hF => ?_)
    · refine ww_iconst cx dX8_isNextIn_27 ic_0 ?_
      exact ww_rzp hE dX8_isNextIn_28 hF
    · refine ww_aload_n cx dX8_isNextIn_15 rfl 0 rfl ?_
      refine gf_X8_122 cx dX8_isNextIn_16 ?_
      refine ww_iload_n cx dX8_isNextIn_19 rfl 1 rfl ?_
      refine ww_icmp_ge cx dX8_isNextIn_20 (tgt := 27) rfl hF (fun hF => ?_) (fun hF => ?_)
      · refine ww_iconst cx dX8_isNextIn_27 ic_0 ?_
        exact ww_rzp hE dX8_isNextIn_28 hF
      · refine ww_iconst cx dX8_isNextIn_23 ic_1 ?_
        refine ww_goto cx dX8_isNextIn_24 (tgt := 28) rfl ?_
        exact ww_rzp hE dX8_isNextIn_28 hF
theorem dX8_isSeed_0 : decode cX8_isSeed 0 = .ok (.iload_n 0, 1) := by decide +kernel
theorem dX8_isSeed_1 : decode cX8_isSeed 1 = .ok (.i2l, 1) := by decide +kernel
theorem dX8_isSeed_2 : decode cX8_isSeed 2 = .ok (.lconst 0, 1) := by decide +kernel
theorem dX8_isSeed_3 : decode cX8_isSeed 3 = .ok (.ldc2_w 457, 3) := by decide +kernel
theorem dX8_isSeed_6 : decode cX8_isSeed 6 = .ok (.invokestatic 83, 3) := by decide +kernel
theorem dX8_isSeed_9 : decode cX8_isSeed 9 = .ok (.ireturn, 1) := by decide +kernel
set_option maxRecDepth 4000 in
theorem kX8_isSeed (G : GT) {σ : St} {a0 : Int32} : ∀ (r : Int32) , fX8_isSeed a0 = some r → MCt G 2 yX8_isSeed cX8_isSeed 1 (some .boolean) [.int a0] σ (some (.int r)) σ := by
  intro r hF
  refine met_zz (by decide) (Nat.le_of_ble_eq_true rfl) (fun X cx hE => ?_)
  have cx : Cx G X RX8 cX8_isSeed 1 2 := cx
  unfold fX8_isSeed at hF
  show WW G X 1 σ [(0, .int a0)] 0 []
  refine ww_iload_n cx dX8_isSeed_0 rfl 0 rfl ?_
  refine ww_i2l cx dX8_isSeed_1 ?_
  refine ww_lconst cx dX8_isSeed_2 lc_0 ?_
  refine ww_ldc2 (v := 2000000000) cx dX8_isSeed_3 cn_X8_457 ?_
  refine ww_S3_pi kv_X8_83 cx ⟨Nat.le_of_ble_eq_true rfl, Nat.le_of_ble_eq_true rfl⟩ (Nat.le_of_ble_eq_true rfl) dX8_isSeed_6 (kX8_in G) hF (fun r1 hF => ?_)
  exact ww_rzp hE dX8_isSeed_9 hF
theorem dX8_isSlot_0 : decode cX8_isSlot 0 = .ok (.iload_n 0, 1) := by decide +kernel
theorem dX8_isSlot_1 : decode cX8_isSlot 1 = .ok (.i2l, 1) := by decide +kernel
theorem dX8_isSlot_2 : decode cX8_isSlot 2 = .ok (.lconst 0, 1) := by decide +kernel
theorem dX8_isSlot_3 : decode cX8_isSlot 3 = .ok (.ldc2_w 445, 3) := by decide +kernel
theorem dX8_isSlot_6 : decode cX8_isSlot 6 = .ok (.invokestatic 83, 3) := by decide +kernel
theorem dX8_isSlot_9 : decode cX8_isSlot 9 = .ok (.ireturn, 1) := by decide +kernel
set_option maxRecDepth 4000 in
theorem kX8_isSlot (G : GT) {σ : St} {a0 : Int32} : ∀ (r : Int32) , fX8_isSlot a0 = some r → MCt G 2 yX8_isSlot cX8_isSlot 1 (some .boolean) [.int a0] σ (some (.int r)) σ := by
  intro r hF
  refine met_zz (by decide) (Nat.le_of_ble_eq_true rfl) (fun X cx hE => ?_)
  have cx : Cx G X RX8 cX8_isSlot 1 2 := cx
  unfold fX8_isSlot at hF
  show WW G X 1 σ [(0, .int a0)] 0 []
  refine ww_iload_n cx dX8_isSlot_0 rfl 0 rfl ?_
  refine ww_i2l cx dX8_isSlot_1 ?_
  refine ww_lconst cx dX8_isSlot_2 lc_0 ?_
  refine ww_ldc2 (v := 3) cx dX8_isSlot_3 cn_X8_445 ?_
  refine ww_S3_pi kv_X8_83 cx ⟨Nat.le_of_ble_eq_true rfl, Nat.le_of_ble_eq_true rfl⟩ (Nat.le_of_ble_eq_true rfl) dX8_isSlot_6 (kX8_in G) hF (fun r1 hF => ?_)
  exact ww_rzp hE dX8_isSlot_9 hF
theorem dX8_isStep_0 : decode cX8_isStep 0 = .ok (.lload_n 1, 1) := by decide +kernel
theorem dX8_isStep_1 : decode cX8_isStep 1 = .ok (.lconst 0, 1) := by decide +kernel
theorem dX8_isStep_2 : decode cX8_isStep 2 = .ok (.aload_n 0, 1) := by decide +kernel
theorem dX8_isStep_3 : decode cX8_isStep 3 = .ok (.getfield 9, 3) := by decide +kernel
theorem dX8_isStep_6 : decode cX8_isStep 6 = .ok (.iconst 4, 1) := by decide +kernel
theorem dX8_isStep_7 : decode cX8_isStep 7 = .ok (.iaload, 1) := by decide +kernel
theorem dX8_isStep_8 : decode cX8_isStep 8 = .ok (.iconst 1, 1) := by decide +kernel
theorem dX8_isStep_9 : decode cX8_isStep 9 = .ok (.isub, 1) := by decide +kernel
theorem dX8_isStep_10 : decode cX8_isStep 10 = .ok (.i2l, 1) := by decide +kernel
theorem dX8_isStep_11 : decode cX8_isStep 11 = .ok (.invokestatic 83, 3) := by decide +kernel
theorem dX8_isStep_14 : decode cX8_isStep 14 = .ok (.ireturn, 1) := by decide +kernel
set_option maxRecDepth 4000 in
theorem kX8_isStep (G : GT) {σ : St} {a1 : Int64} : ∀ (r : Int32) , fX8_isStep σ a1 = some r → MCt G 2 yX8_isStep cX8_isStep 3 (some .boolean) [.ref (gad G 62), .long a1] σ (some (.int r)) σ := by
  intro r hF
  refine met_zz (by decide) (Nat.le_of_ble_eq_true rfl) (fun X cx hE => ?_)
  have cx : Cx G X RX8 cX8_isStep 3 2 := cx
  unfold fX8_isStep at hF
  show WW G X 3 σ [(0, .ref (gad G 62)), (1, .long a1)] 0 []
  refine ww_lload_n cx dX8_isStep_0 rfl 1 rfl ?_
  refine ww_lconst cx dX8_isStep_1 lc_0 ?_
  refine ww_aload_n cx dX8_isStep_2 rfl 0 rfl ?_
  refine gf_X8_9 cx dX8_isStep_3 ?_
  refine ww_iconst cx dX8_isStep_6 ic_4 ?_
  refine ww_iald (N := 77) cx (sh_63) dX8_isStep_7 hF (fun hF => ?_)
  refine ww_iconst cx dX8_isStep_8 ic_1 ?_
  refine ww_isub cx dX8_isStep_9 ?_
  refine ww_i2l cx dX8_isStep_10 ?_
  refine ww_S3_pi kv_X8_83 cx ⟨Nat.le_of_ble_eq_true rfl, Nat.le_of_ble_eq_true rfl⟩ (Nat.le_of_ble_eq_true rfl) dX8_isStep_11 (kX8_in G) hF (fun r1 hF => ?_)
  exact ww_rzp hE dX8_isStep_14 hF
theorem dX8_joined_0 : decode cX8_joined 0 = .ok (.iload_n 1, 1) := by decide +kernel
theorem dX8_joined_1 : decode cX8_joined 1 = .ok (.ifCond .ne 9, 3) := by decide +kernel
theorem dX8_joined_4 : decode cX8_joined 4 = .ok (.iload_n 2, 1) := by decide +kernel
theorem dX8_joined_5 : decode cX8_joined 5 = .ok (.iload_n 3, 1) := by decide +kernel
theorem dX8_joined_6 : decode cX8_joined 6 = .ok (.iand, 1) := by decide +kernel
theorem dX8_joined_7 : decode cX8_joined 7 = .ok (.goto 24, 3) := by decide +kernel
theorem dX8_joined_10 : decode cX8_joined 10 = .ok (.iload_n 1, 1) := by decide +kernel
theorem dX8_joined_11 : decode cX8_joined 11 = .ok (.iconst 1, 1) := by decide +kernel
theorem dX8_joined_12 : decode cX8_joined 12 = .ok (.if_icmp .ne 9, 3) := by decide +kernel
theorem dX8_joined_15 : decode cX8_joined 15 = .ok (.iload_n 2, 1) := by decide +kernel
theorem dX8_joined_16 : decode cX8_joined 16 = .ok (.iload_n 3, 1) := by decide +kernel
theorem dX8_joined_17 : decode cX8_joined 17 = .ok (.ior, 1) := by decide +kernel
theorem dX8_joined_18 : decode cX8_joined 18 = .ok (.goto 13, 3) := by decide +kernel
theorem dX8_joined_21 : decode cX8_joined 21 = .ok (.iload_n 2, 1) := by decide +kernel
theorem dX8_joined_22 : decode cX8_joined 22 = .ok (.iconst (-1), 1) := by decide +kernel
theorem dX8_joined_23 : decode cX8_joined 23 = .ok (.ixor, 1) := by decide +kernel
theorem dX8_joined_24 : decode cX8_joined 24 = .ok (.aload_n 0, 1) := by decide +kernel
theorem dX8_joined_25 : decode cX8_joined 25 = .ok (.invokevirtual 181, 3) := by decide +kernel
theorem dX8_joined_28 : decode cX8_joined 28 = .ok (.iand, 1) := by decide +kernel
theorem dX8_joined_29 : decode cX8_joined 29 = .ok (.iload_n 3, 1) := by decide +kernel
theorem dX8_joined_30 : decode cX8_joined 30 = .ok (.ior, 1) := by decide +kernel
theorem dX8_joined_31 : decode cX8_joined 31 = .ok (.ireturn, 1) := by decide +kernel
set_option maxRecDepth 4000 in
theorem kX8_joined (G : GT) {σ : St} {a1 : Int32} {a2 : Int32} {a3 : Int32} : ∀ (r : Int32) , fX8_joined σ a1 a2 a3 = some r → MCt G 2 yX8_joined cX8_joined 4 (some .int) [.ref (gad G 62), .int a1, .int a2, .int a3] σ (some (.int r)) σ := by
  intro r hF
  refine met_i (by decide) (Nat.le_of_ble_eq_true rfl) (fun X cx hE => ?_)
  have cx : Cx G X RX8 cX8_joined 4 2 := cx
  unfold fX8_joined at hF
  show WW G X 4 σ [(0, .ref (gad G 62)), (1, .int a1), (2, .int a2), (3, .int a3)] 0 []
  refine ww_iload_n cx dX8_joined_0 rfl 1 rfl ?_
  refine ww_if_ne cx dX8_joined_1 (tgt := 10) rfl hF (fun hF => ?_) (fun hF => ?_)
  · refine ww_iload_n cx dX8_joined_10 rfl 1 rfl ?_
    refine ww_iconst cx dX8_joined_11 ic_1 ?_
    refine ww_icmp_ne cx dX8_joined_12 (tgt := 21) rfl hF (fun hF => ?_) (fun hF => ?_)
    · refine ww_iload_n cx dX8_joined_21 rfl 2 rfl ?_
      refine ww_iconst cx dX8_joined_22 ic_m1 ?_
      refine ww_ixor cx dX8_joined_23 ?_
      refine ww_aload_n cx dX8_joined_24 rfl 0 rfl ?_
      refine ww_V0_pi kv_X8_181 rfl cx sh_62 ⟨Nat.le_of_ble_eq_true rfl, Nat.le_of_ble_eq_true rfl⟩ (Nat.le_of_ble_eq_true rfl) dX8_joined_25 (kX8_freshAll G) hF (fun r1 hF => ?_)
      refine ww_iand cx dX8_joined_28 ?_
      refine ww_iload_n cx dX8_joined_29 rfl 3 rfl ?_
      refine ww_ior cx dX8_joined_30 ?_
      exact ww_rip hE dX8_joined_31 hF
    · refine ww_iload_n cx dX8_joined_15 rfl 2 rfl ?_
      refine ww_iload_n cx dX8_joined_16 rfl 3 rfl ?_
      refine ww_ior cx dX8_joined_17 ?_
      refine ww_goto cx dX8_joined_18 (tgt := 31) rfl ?_
      exact ww_rip hE dX8_joined_31 hF
  · refine ww_iload_n cx dX8_joined_4 rfl 2 rfl ?_
    refine ww_iload_n cx dX8_joined_5 rfl 3 rfl ?_
    refine ww_iand cx dX8_joined_6 ?_
    refine ww_goto cx dX8_joined_7 (tgt := 31) rfl ?_
    exact ww_rip hE dX8_joined_31 hF
theorem dX8_lowest_0 : decode cX8_lowest 0 = .ok (.iload_n 0, 1) := by decide +kernel
theorem dX8_lowest_1 : decode cX8_lowest 1 = .ok (.ifCond .ne 5, 3) := by decide +kernel
theorem dX8_lowest_4 : decode cX8_lowest 4 = .ok (.iconst (-1), 1) := by decide +kernel
theorem dX8_lowest_5 : decode cX8_lowest 5 = .ok (.ireturn, 1) := by decide +kernel
theorem dX8_lowest_6 : decode cX8_lowest 6 = .ok (.iconst 0, 1) := by decide +kernel
theorem dX8_lowest_7 : decode cX8_lowest 7 = .ok (.istore_n 1, 1) := by decide +kernel
theorem dX8_lowest_8 : decode cX8_lowest 8 = .ok (.iload_n 0, 1) := by decide +kernel
theorem dX8_lowest_9 : decode cX8_lowest 9 = .ok (.iload_n 1, 1) := by decide +kernel
theorem dX8_lowest_10 : decode cX8_lowest 10 = .ok (.invokestatic 168, 3) := by decide +kernel
theorem dX8_lowest_13 : decode cX8_lowest 13 = .ok (.ifCond .ne 9, 3) := by decide +kernel
theorem dX8_lowest_16 : decode cX8_lowest 16 = .ok (.iinc 1 1, 3) := by decide +kernel
theorem dX8_lowest_19 : decode cX8_lowest 19 = .ok (.goto (-11), 3) := by decide +kernel
theorem dX8_lowest_22 : decode cX8_lowest 22 = .ok (.iload_n 1, 1) := by decide +kernel
theorem dX8_lowest_23 : decode cX8_lowest 23 = .ok (.ireturn, 1) := by decide +kernel
set_option maxRecDepth 4000 in
theorem kX8_lowest (G : GT) {σ : St} {a0 : Int32} : ∀ (r : Int32) , fX8_lowest a0 = some r → MCt G 2 yX8_lowest cX8_lowest 2 (some .int) [.int a0] σ (some (.int r)) σ := by
  intro r hF
  refine met_i (by decide) (Nat.le_of_ble_eq_true rfl) (fun X cx hE => ?_)
  have cx : Cx G X RX8 cX8_lowest 2 2 := cx
  have hl8 : ∀ n : Nat, ∀ (x0 : Int32) (x1 : Int32) , fX8_lowest_l8 n x0 x1 = some r → WW G X 2 σ [(0, .int x0), (1, .int x1)] 8 [] := by
    intro n
    induction n with
    | zero =>
      intro x0 x1 hF
      exact absurd hF (by intro z; cases z)
    | succ n ih =>
      intro x0 x1 hF
      have hk8 := ih
      have hF : fX8_lowest_B8 (fX8_lowest_l8 n) x0 x1 = some r := hF
      unfold fX8_lowest_B8 at hF
      refine ww_iload_n cx dX8_lowest_8 rfl 0 rfl ?_
      refine ww_iload_n cx dX8_lowest_9 rfl 1 rfl ?_
      refine ww_S2_pi kv_X8_168 cx ⟨Nat.le_of_ble_eq_true rfl, Nat.le_of_ble_eq_true rfl⟩ (Nat.le_of_ble_eq_true rfl) dX8_lowest_10 (kX8_bit G) hF (fun r1 hF => ?_)
      refine ww_if_ne cx dX8_lowest_13 (tgt := 22) rfl hF (fun hF => ?_) (fun hF => ?_)
      · refine ww_iload_n cx dX8_lowest_22 rfl 1 rfl ?_
        exact ww_rip hE dX8_lowest_23 hF
      · refine ww_iinc (j := 1) (ks := [0, 1]) (lv' := fun v2 => [(1, .int v2), (0, .int x0)]) cx dX8_lowest_16 (by decide) rfl ic_1 hF (fun _ => rfl) (fun v2 hF => ?_)
        refine ww_goto cx dX8_lowest_19 (tgt := 8) rfl ?_
        exact ww_sub [1, 0] rfl (hk8 _ _ hF)
  unfold fX8_lowest at hF
  show WW G X 2 σ [(0, .int a0)] 0 []
  refine ww_iload_n cx dX8_lowest_0 rfl 0 rfl ?_
  refine ww_if_ne cx dX8_lowest_1 (tgt := 6) rfl hF (fun hF => ?_) (fun hF => ?_)
  · refine ww_iconst cx dX8_lowest_6 ic_0 ?_
    refine ww_istore_n (ks := [0, 1]) (lv' := fun v3 => [(1, .int v3), (0, .int a0)]) cx dX8_lowest_7 rfl (by decide) hF (fun _ => rfl) (fun v3 hF => ?_)
    exact ww_sub [1, 0] rfl (hl8 FU _ _ hF)
  · refine ww_iconst cx dX8_lowest_4 ic_m1 ?_
    exact ww_rip hE dX8_lowest_5 hF
theorem dX8_part_0 : decode cX8_part 0 = .ok (.iload_n 2, 1) := by decide +kernel
theorem dX8_part_1 : decode cX8_part 1 = .ok (.ifCond .ne 7, 3) := by decide +kernel
theorem dX8_part_4 : decode cX8_part 4 = .ok (.iload_n 0, 1) := by decide +kernel
theorem dX8_part_5 : decode cX8_part 5 = .ok (.goto 4, 3) := by decide +kernel
theorem dX8_part_8 : decode cX8_part 8 = .ok (.iload_n 1, 1) := by decide +kernel
theorem dX8_part_9 : decode cX8_part 9 = .ok (.iload_n 0, 1) := by decide +kernel
theorem dX8_part_10 : decode cX8_part 10 = .ok (.iload_n 1, 1) := by decide +kernel
theorem dX8_part_11 : decode cX8_part 11 = .ok (.invokestatic 424, 3) := by decide +kernel
theorem dX8_part_14 : decode cX8_part 14 = .ok (.idiv, 1) := by decide +kernel
theorem dX8_part_15 : decode cX8_part 15 = .ok (.ireturn, 1) := by decide +kernel
set_option maxRecDepth 4000 in
theorem kX8_part (G : GT) {σ : St} {a0 : Int32} {a1 : Int32} {a2 : Int32} : ∀ (r : Int32) , fX8_part a0 a1 a2 = some r → MCt G 2 yX8_part cX8_part 3 (some .int) [.int a0, .int a1, .int a2] σ (some (.int r)) σ := by
  intro r hF
  refine met_i (by decide) (Nat.le_of_ble_eq_true rfl) (fun X cx hE => ?_)
  have cx : Cx G X RX8 cX8_part 3 2 := cx
  have hb9 : ∀ (x0 : Int32) (x1 : Int32) (y0 : Int32) , fX8_part_b9 x0 x1 y0 = some r → WW G X 3 σ [(0, .int x0), (1, .int x1)] 9 [.int y0] := by
    intro x0 x1 y0 hF
    unfold fX8_part_b9 at hF
    refine ww_iload_n cx dX8_part_9 rfl 0 rfl ?_
    refine ww_iload_n cx dX8_part_10 rfl 1 rfl ?_
    refine ww_S2_pi kv_X8_424 cx ⟨Nat.le_of_ble_eq_true rfl, Nat.le_of_ble_eq_true rfl⟩ (Nat.le_of_ble_eq_true rfl) dX8_part_11 (kX8_divisor G) hF (fun r1 hF => ?_)
    refine ww_idiv cx dX8_part_14 hF (fun hF => ?_)
    exact ww_rip hE dX8_part_15 hF
  unfold fX8_part at hF
  show WW G X 3 σ [(0, .int a0), (1, .int a1), (2, .int a2)] 0 []
  refine ww_iload_n cx dX8_part_0 rfl 2 rfl ?_
  refine ww_if_ne cx dX8_part_1 (tgt := 8) rfl hF (fun hF => ?_) (fun hF => ?_)
  · refine ww_iload_n cx dX8_part_8 rfl 1 rfl ?_
    exact ww_sub [0, 1] rfl (hb9 _ _ _ hF)
  · refine ww_iload_n cx dX8_part_4 rfl 0 rfl ?_
    refine ww_goto cx dX8_part_5 (tgt := 9) rfl ?_
    exact ww_sub [0, 1] rfl (hb9 _ _ _ hF)
theorem dX8_saltNow_0 : decode cX8_saltNow 0 = .ok (.iconst 0, 1) := by decide +kernel
theorem dX8_saltNow_1 : decode cX8_saltNow 1 = .ok (.istore_n 1, 1) := by decide +kernel
theorem dX8_saltNow_2 : decode cX8_saltNow 2 = .ok (.iconst 0, 1) := by decide +kernel
theorem dX8_saltNow_3 : decode cX8_saltNow 3 = .ok (.istore_n 2, 1) := by decide +kernel
theorem dX8_saltNow_4 : decode cX8_saltNow 4 = .ok (.iload_n 2, 1) := by decide +kernel
theorem dX8_saltNow_5 : decode cX8_saltNow 5 = .ok (.aload_n 0, 1) := by decide +kernel
theorem dX8_saltNow_6 : decode cX8_saltNow 6 = .ok (.getfield 9, 3) := by decide +kernel
theorem dX8_saltNow_9 : decode cX8_saltNow 9 = .ok (.iconst 3, 1) := by decide +kernel
theorem dX8_saltNow_10 : decode cX8_saltNow 10 = .ok (.iaload, 1) := by decide +kernel
theorem dX8_saltNow_11 : decode cX8_saltNow 11 = .ok (.if_icmp .ge 20, 3) := by decide +kernel
theorem dX8_saltNow_14 : decode cX8_saltNow 14 = .ok (.iload_n 1, 1) := by decide +kernel
theorem dX8_saltNow_15 : decode cX8_saltNow 15 = .ok (.aload_n 0, 1) := by decide +kernel
theorem dX8_saltNow_16 : decode cX8_saltNow 16 = .ok (.iload_n 2, 1) := by decide +kernel
theorem dX8_saltNow_17 : decode cX8_saltNow 17 = .ok (.iconst 1, 1) := by decide +kernel
theorem dX8_saltNow_18 : decode cX8_saltNow 18 = .ok (.invokevirtual 91, 3) := by decide +kernel
theorem dX8_saltNow_21 : decode cX8_saltNow 21 = .ok (.iload_n 2, 1) := by decide +kernel
theorem dX8_saltNow_22 : decode cX8_saltNow 22 = .ok (.ishl, 1) := by decide +kernel
theorem dX8_saltNow_23 : decode cX8_saltNow 23 = .ok (.ior, 1) := by decide +kernel
theorem dX8_saltNow_24 : decode cX8_saltNow 24 = .ok (.istore_n 1, 1) := by decide +kernel
theorem dX8_saltNow_25 : decode cX8_saltNow 25 = .ok (.iinc 2 1, 3) := by decide +kernel
theorem dX8_saltNow_28 : decode cX8_saltNow 28 = .ok (.goto (-24), 3) := by decide +kernel
theorem dX8_saltNow_31 : decode cX8_saltNow 31 = .ok (.iload_n 1, 1) := by decide +kernel
theorem dX8_saltNow_32 : decode cX8_saltNow 32 = .ok (.ireturn, 1) := by decide +kernel
set_option maxRecDepth 4000 in
theorem kX8_saltNow (G : GT) {σ : St} : ∀ (r : Int32) , fX8_saltNow σ = some r → MCt G 2 yX8_saltNow cX8_saltNow 3 (some .int) [.ref (gad G 62)] σ (some (.int r)) σ := by
  intro r hF
  refine met_i (by decide) (Nat.le_of_ble_eq_true rfl) (fun X cx hE => ?_)
  have cx : Cx G X RX8 cX8_saltNow 3 2 := cx
  have hl4 : ∀ n : Nat, ∀ (x1 : Int32) (x2 : Int32) , fX8_saltNow_l4 σ n x1 x2 = some r → WW G X 3 σ [(0, .ref (gad G 62)), (1, .int x1), (2, .int x2)] 4 [] := by
    intro n
    induction n with
    | zero =>
      intro x1 x2 hF
      exact absurd hF (by intro z; cases z)
    | succ n ih =>
      intro x1 x2 hF
      have hk4 := ih
      have hF : fX8_saltNow_B4 σ (fX8_saltNow_l4 σ n) x1 x2 = some r := hF
      unfold fX8_saltNow_B4 at hF
      refine ww_iload_n cx dX8_saltNow_4 rfl 2 rfl ?_
      refine ww_aload_n cx dX8_saltNow_5 rfl 0 rfl ?_
      refine gf_X8_9 cx dX8_saltNow_6 ?_
      refine ww_iconst cx dX8_saltNow_9 ic_3 ?_
      refine ww_iald (N := 77) cx (sh_63) dX8_saltNow_10 hF (fun hF => ?_)
      refine ww_icmp_ge cx dX8_saltNow_11 (tgt := 31) rfl hF (fun hF => ?_) (fun hF => ?_)
      · refine ww_iload_n cx dX8_saltNow_31 rfl 1 rfl ?_
        exact ww_rip hE dX8_saltNow_32 hF
      · refine ww_iload_n cx dX8_saltNow_14 rfl 1 rfl ?_
        refine ww_aload_n cx dX8_saltNow_15 rfl 0 rfl ?_
        refine ww_iload_n cx dX8_saltNow_16 rfl 2 rfl ?_
        refine ww_iconst cx dX8_saltNow_17 ic_1 ?_
        refine ww_V2_pi kv_X8_91 rfl cx sh_62 ⟨Nat.le_of_ble_eq_true rfl, Nat.le_of_ble_eq_true rfl⟩ (Nat.le_of_ble_eq_true rfl) dX8_saltNow_18 (kX8_ofClaim G) hF (fun r1 hF => ?_)
        refine ww_iload_n cx dX8_saltNow_21 rfl 2 rfl ?_
        refine ww_ishl cx dX8_saltNow_22 ?_
        refine ww_ior cx dX8_saltNow_23 ?_
        refine ww_istore_n (ks := [0, 1, 2]) (lv' := fun v2 => [(1, .int v2), (0, .ref (gad G 62)), (2, .int x2)]) cx dX8_saltNow_24 rfl (by decide) hF (fun _ => rfl) (fun v2 hF => ?_)
        refine ww_iinc (j := 2) (ks := [0, 1, 2]) (lv' := fun v3 => [(2, .int v3), (1, .int v2), (0, .ref (gad G 62))]) cx dX8_saltNow_25 (by decide) rfl ic_1 hF (fun _ => rfl) (fun v3 hF => ?_)
        refine ww_goto cx dX8_saltNow_28 (tgt := 4) rfl ?_
        exact ww_sub [2, 1, 0] rfl (hk4 _ _ hF)
  unfold fX8_saltNow at hF
  show WW G X 3 σ [(0, .ref (gad G 62))] 0 []
  refine ww_iconst cx dX8_saltNow_0 ic_0 ?_
  refine ww_istore_n (ks := [0, 1]) (lv' := fun v4 => [(1, .int v4), (0, .ref (gad G 62))]) cx dX8_saltNow_1 rfl (by decide) hF (fun _ => rfl) (fun v4 hF => ?_)
  refine ww_iconst cx dX8_saltNow_2 ic_0 ?_
  refine ww_istore_n (ks := [0, 1, 2]) (lv' := fun v5 => [(2, .int v5), (1, .int v4), (0, .ref (gad G 62))]) cx dX8_saltNow_3 rfl (by decide) hF (fun _ => rfl) (fun v5 hF => ?_)
  exact ww_sub [2, 1, 0] rfl (hl4 FU _ _ hF)
theorem dX8_unlike_0 : decode cX8_unlike 0 = .ok (.aload_n 0, 1) := by decide +kernel
theorem dX8_unlike_1 : decode cX8_unlike 1 = .ok (.invokevirtual 291, 3) := by decide +kernel
theorem dX8_unlike_4 : decode cX8_unlike 4 = .ok (.ifCond .ne 6, 3) := by decide +kernel
theorem dX8_unlike_7 : decode cX8_unlike 7 = .ok (.bipush (-2), 2) := by decide +kernel
theorem dX8_unlike_9 : decode cX8_unlike 9 = .ok (.ireturn, 1) := by decide +kernel
theorem dX8_unlike_10 : decode cX8_unlike 10 = .ok (.iconst 0, 1) := by decide +kernel
theorem dX8_unlike_11 : decode cX8_unlike 11 = .ok (.istore_n 1, 1) := by decide +kernel
theorem dX8_unlike_12 : decode cX8_unlike 12 = .ok (.iconst 0, 1) := by decide +kernel
theorem dX8_unlike_13 : decode cX8_unlike 13 = .ok (.istore_n 2, 1) := by decide +kernel
theorem dX8_unlike_14 : decode cX8_unlike 14 = .ok (.iload_n 2, 1) := by decide +kernel
theorem dX8_unlike_15 : decode cX8_unlike 15 = .ok (.aload_n 0, 1) := by decide +kernel
theorem dX8_unlike_16 : decode cX8_unlike 16 = .ok (.getfield 9, 3) := by decide +kernel
theorem dX8_unlike_19 : decode cX8_unlike 19 = .ok (.iconst 3, 1) := by decide +kernel
theorem dX8_unlike_20 : decode cX8_unlike 20 = .ok (.iaload, 1) := by decide +kernel
theorem dX8_unlike_21 : decode cX8_unlike 21 = .ok (.if_icmp .ge 64, 3) := by decide +kernel
theorem dX8_unlike_24 : decode cX8_unlike 24 = .ok (.iconst 0, 1) := by decide +kernel
theorem dX8_unlike_25 : decode cX8_unlike 25 = .ok (.istore_n 3, 1) := by decide +kernel
theorem dX8_unlike_26 : decode cX8_unlike 26 = .ok (.iconst 0, 1) := by decide +kernel
theorem dX8_unlike_27 : decode cX8_unlike 27 = .ok (.istore 4, 2) := by decide +kernel
theorem dX8_unlike_29 : decode cX8_unlike 29 = .ok (.iload 4, 2) := by decide +kernel
theorem dX8_unlike_31 : decode cX8_unlike 31 = .ok (.iload_n 2, 1) := by decide +kernel
theorem dX8_unlike_32 : decode cX8_unlike 32 = .ok (.if_icmp .ge 35, 3) := by decide +kernel
theorem dX8_unlike_35 : decode cX8_unlike 35 = .ok (.iload_n 3, 1) := by decide +kernel
theorem dX8_unlike_36 : decode cX8_unlike 36 = .ok (.ifCond .ne 19, 3) := by decide +kernel
theorem dX8_unlike_39 : decode cX8_unlike 39 = .ok (.aload_n 0, 1) := by decide +kernel
theorem dX8_unlike_40 : decode cX8_unlike 40 = .ok (.iload 4, 2) := by decide +kernel
theorem dX8_unlike_42 : decode cX8_unlike 42 = .ok (.iconst 2, 1) := by decide +kernel
theorem dX8_unlike_43 : decode cX8_unlike 43 = .ok (.invokevirtual 91, 3) := by decide +kernel
theorem dX8_unlike_46 : decode cX8_unlike 46 = .ok (.aload_n 0, 1) := by decide +kernel
theorem dX8_unlike_47 : decode cX8_unlike 47 = .ok (.iload_n 2, 1) := by decide +kernel
theorem dX8_unlike_48 : decode cX8_unlike 48 = .ok (.iconst 2, 1) := by decide +kernel
theorem dX8_unlike_49 : decode cX8_unlike 49 = .ok (.invokevirtual 91, 3) := by decide +kernel
theorem dX8_unlike_52 : decode cX8_unlike 52 = .ok (.if_icmp .ne 7, 3) := by decide +kernel
theorem dX8_unlike_55 : decode cX8_unlike 55 = .ok (.iconst 1, 1) := by decide +kernel
theorem dX8_unlike_56 : decode cX8_unlike 56 = .ok (.goto 4, 3) := by decide +kernel
theorem dX8_unlike_59 : decode cX8_unlike 59 = .ok (.iconst 0, 1) := by decide +kernel
theorem dX8_unlike_60 : decode cX8_unlike 60 = .ok (.istore_n 3, 1) := by decide +kernel
theorem dX8_unlike_61 : decode cX8_unlike 61 = .ok (.iinc 4 1, 3) := by decide +kernel
theorem dX8_unlike_64 : decode cX8_unlike 64 = .ok (.goto (-35), 3) := by decide +kernel
theorem dX8_unlike_67 : decode cX8_unlike 67 = .ok (.iload_n 1, 1) := by decide +kernel
theorem dX8_unlike_68 : decode cX8_unlike 68 = .ok (.iload_n 3, 1) := by decide +kernel
theorem dX8_unlike_69 : decode cX8_unlike 69 = .ok (.ifCond .eq 7, 3) := by decide +kernel
theorem dX8_unlike_72 : decode cX8_unlike 72 = .ok (.iconst 0, 1) := by decide +kernel
theorem dX8_unlike_73 : decode cX8_unlike 73 = .ok (.goto 4, 3) := by decide +kernel
theorem dX8_unlike_76 : decode cX8_unlike 76 = .ok (.iconst 1, 1) := by decide +kernel
theorem dX8_unlike_77 : decode cX8_unlike 77 = .ok (.iadd, 1) := by decide +kernel
theorem dX8_unlike_78 : decode cX8_unlike 78 = .ok (.istore_n 1, 1) := by decide +kernel
theorem dX8_unlike_79 : decode cX8_unlike 79 = .ok (.iinc 2 1, 3) := by decide +kernel
theorem dX8_unlike_82 : decode cX8_unlike 82 = .ok (.goto (-68), 3) := by decide +kernel
theorem dX8_unlike_85 : decode cX8_unlike 85 = .ok (.iload_n 1, 1) := by decide +kernel
theorem dX8_unlike_86 : decode cX8_unlike 86 = .ok (.ireturn, 1) := by decide +kernel
set_option maxRecDepth 4000 in
theorem kX8_unlike (G : GT) {σ : St} : ∀ (r : Int32) , fX8_unlike σ = some r → MCt G 2 yX8_unlike cX8_unlike 5 (some .int) [.ref (gad G 62)] σ (some (.int r)) σ := by
  intro r hF
  refine met_i (by decide) (Nat.le_of_ble_eq_true rfl) (fun X cx hE => ?_)
  have cx : Cx G X RX8 cX8_unlike 5 2 := cx
  have hb77 : ∀ (kr14 : Int32 → Int32 → Option (Int32)), (∀ (x1 : Int32) (x2 : Int32) , kr14 x1 x2 = some r → WW G X 5 σ [(0, .ref (gad G 62)), (1, .int x1), (2, .int x2)] 14 []) → ∀ (x2 : Int32) (y0 : Int32) (y1 : Int32) , fX8_unlike_b77 σ kr14 x2 y0 y1 = some r → WW G X 5 σ [(0, .ref (gad G 62)), (2, .int x2)] 77 [.int y1, .int y0] := by
    intro kr14 hk14
    intro x2 y0 y1 hF
    unfold fX8_unlike_b77 at hF
    refine ww_iadd cx dX8_unlike_77 ?_
    refine ww_istore_n (ks := [0, 1, 2]) (lv' := fun v1 => [(1, .int v1), (0, .ref (gad G 62)), (2, .int x2)]) cx dX8_unlike_78 rfl (by decide) hF (fun _ => rfl) (fun v1 hF => ?_)
    refine ww_iinc (j := 2) (ks := [0, 1, 2]) (lv' := fun v2 => [(2, .int v2), (1, .int v1), (0, .ref (gad G 62))]) cx dX8_unlike_79 (by decide) rfl ic_1 hF (fun _ => rfl) (fun v2 hF => ?_)
    refine ww_goto cx dX8_unlike_82 (tgt := 14) rfl ?_
    exact ww_sub [2, 1, 0] rfl (hk14 _ _ hF)
  have hb55 : ∀ (kr14 : Int32 → Int32 → Option (Int32)), (∀ (x1 : Int32) (x2 : Int32) , kr14 x1 x2 = some r → WW G X 5 σ [(0, .ref (gad G 62)), (1, .int x1), (2, .int x2)] 14 []) → ∀ (kr29 : Int32 → Int32 → Int32 → Int32 → Option (Int32)), (∀ (x1 : Int32) (x2 : Int32) (x3 : Int32) (x4 : Int32) , kr29 x1 x2 x3 x4 = some r → WW G X 5 σ [(0, .ref (gad G 62)), (1, .int x1), (2, .int x2), (3, .int x3), (4, .int x4)] 29 []) → ∀ (x1 : Int32) (x2 : Int32) (x4 : Int32) , fX8_unlike_b55 σ kr14 kr29 x1 x2 x4 = some r → WW G X 5 σ [(0, .ref (gad G 62)), (1, .int x1), (2, .int x2), (4, .int x4)] 55 [] := by
    intro kr14 hk14 kr29 hk29
    intro x1 x2 x4 hF
    unfold fX8_unlike_b55 at hF
    refine ww_iconst cx dX8_unlike_55 ic_1 ?_
    refine ww_goto cx dX8_unlike_56 (tgt := 60) rfl ?_
    refine ww_istore_n (ks := [0, 1, 2, 3, 4]) (lv' := fun v3 => [(3, .int v3), (0, .ref (gad G 62)), (1, .int x1), (2, .int x2), (4, .int x4)]) cx dX8_unlike_60 rfl (by decide) hF (fun _ => rfl) (fun v3 hF => ?_)
    refine ww_iinc (j := 4) (ks := [0, 1, 2, 3, 4]) (lv' := fun v4 => [(4, .int v4), (3, .int v3), (0, .ref (gad G 62)), (1, .int x1), (2, .int x2)]) cx dX8_unlike_61 (by decide) rfl ic_1 hF (fun _ => rfl) (fun v4 hF => ?_)
    refine ww_goto cx dX8_unlike_64 (tgt := 29) rfl ?_
    exact ww_sub [2, 3, 4, 1, 0] rfl (hk29 _ _ _ _ hF)
  have hl29 : ∀ (kr14 : Int32 → Int32 → Option (Int32)), (∀ (x1 : Int32) (x2 : Int32) , kr14 x1 x2 = some r → WW G X 5 σ [(0, .ref (gad G 62)), (1, .int x1), (2, .int x2)] 14 []) → ∀ n : Nat, ∀ (x1 : Int32) (x2 : Int32) (x3 : Int32) (x4 : Int32) , fX8_unlike_l29 σ kr14 n x1 x2 x3 x4 = some r → WW G X 5 σ [(0, .ref (gad G 62)), (1, .int x1), (2, .int x2), (3, .int x3), (4, .int x4)] 29 [] := by
    intro kr14 hk14
    intro n
    induction n with
    | zero =>
      intro x1 x2 x3 x4 hF
      exact absurd hF (by intro z; cases z)
    | succ n ih =>
      intro x1 x2 x3 x4 hF
      have hk29 := ih
      have hF : fX8_unlike_B29 σ kr14 (fX8_unlike_l29 σ kr14 n) x1 x2 x3 x4 = some r := hF
      unfold fX8_unlike_B29 at hF
      refine ww_iload cx dX8_unlike_29 4 rfl ?_
      refine ww_iload_n cx dX8_unlike_31 rfl 2 rfl ?_
      refine ww_icmp_ge cx dX8_unlike_32 (tgt := 67) rfl hF (fun hF => ?_) (fun hF => ?_)
      · refine ww_iload_n cx dX8_unlike_67 rfl 1 rfl ?_
        refine ww_iload_n cx dX8_unlike_68 rfl 3 rfl ?_
        refine ww_if_eq cx dX8_unlike_69 (tgt := 76) rfl hF (fun hF => ?_) (fun hF => ?_)
        · refine ww_iconst cx dX8_unlike_76 ic_1 ?_
          exact ww_sub [0, 2] rfl (hb77 _ hk14 _ _ _ hF)
        · refine ww_iconst cx dX8_unlike_72 ic_0 ?_
          refine ww_goto cx dX8_unlike_73 (tgt := 77) rfl ?_
          exact ww_sub [0, 2] rfl (hb77 _ hk14 _ _ _ hF)
      · refine ww_iload_n cx dX8_unlike_35 rfl 3 rfl ?_
        refine ww_if_ne cx dX8_unlike_36 (tgt := 55) rfl hF (fun hF => ?_) (fun hF => ?_)
        · exact ww_sub [0, 1, 2, 4] rfl (hb55 _ hk14 _ hk29 _ _ _ hF)
        · refine ww_aload_n cx dX8_unlike_39 rfl 0 rfl ?_
          refine ww_iload cx dX8_unlike_40 4 rfl ?_
          refine ww_iconst cx dX8_unlike_42 ic_2 ?_
          refine ww_V2_pi kv_X8_91 rfl cx sh_62 ⟨Nat.le_of_ble_eq_true rfl, Nat.le_of_ble_eq_true rfl⟩ (Nat.le_of_ble_eq_true rfl) dX8_unlike_43 (kX8_ofClaim G) hF (fun r5 hF => ?_)
          refine ww_aload_n cx dX8_unlike_46 rfl 0 rfl ?_
          refine ww_iload_n cx dX8_unlike_47 rfl 2 rfl ?_
          refine ww_iconst cx dX8_unlike_48 ic_2 ?_
          refine ww_V2_pi kv_X8_91 rfl cx sh_62 ⟨Nat.le_of_ble_eq_true rfl, Nat.le_of_ble_eq_true rfl⟩ (Nat.le_of_ble_eq_true rfl) dX8_unlike_49 (kX8_ofClaim G) hF (fun r6 hF => ?_)
          refine ww_icmp_ne cx dX8_unlike_52 (tgt := 59) rfl hF (fun hF => ?_) (fun hF => ?_)
          · refine ww_iconst cx dX8_unlike_59 ic_0 ?_
            refine ww_istore_n (ks := [0, 1, 2, 3, 4]) (lv' := fun v7 => [(3, .int v7), (0, .ref (gad G 62)), (1, .int x1), (2, .int x2), (4, .int x4)]) cx dX8_unlike_60 rfl (by decide) hF (fun _ => rfl) (fun v7 hF => ?_)
            refine ww_iinc (j := 4) (ks := [0, 1, 2, 3, 4]) (lv' := fun v8 => [(4, .int v8), (3, .int v7), (0, .ref (gad G 62)), (1, .int x1), (2, .int x2)]) cx dX8_unlike_61 (by decide) rfl ic_1 hF (fun _ => rfl) (fun v8 hF => ?_)
            refine ww_goto cx dX8_unlike_64 (tgt := 29) rfl ?_
            exact ww_sub [2, 3, 4, 1, 0] rfl (hk29 _ _ _ _ hF)
          · exact ww_sub [0, 1, 2, 4] rfl (hb55 _ hk14 _ hk29 _ _ _ hF)
  have hl14 : ∀ n : Nat, ∀ (x1 : Int32) (x2 : Int32) , fX8_unlike_l14 σ n x1 x2 = some r → WW G X 5 σ [(0, .ref (gad G 62)), (1, .int x1), (2, .int x2)] 14 [] := by
    intro n
    induction n with
    | zero =>
      intro x1 x2 hF
      exact absurd hF (by intro z; cases z)
    | succ n ih =>
      intro x1 x2 hF
      have hk14 := ih
      have hF : fX8_unlike_B14 σ (fX8_unlike_l14 σ n) x1 x2 = some r := hF
      unfold fX8_unlike_B14 at hF
      refine ww_iload_n cx dX8_unlike_14 rfl 2 rfl ?_
      refine ww_aload_n cx dX8_unlike_15 rfl 0 rfl ?_
      refine gf_X8_9 cx dX8_unlike_16 ?_
      refine ww_iconst cx dX8_unlike_19 ic_3 ?_
      refine ww_iald (N := 77) cx (sh_63) dX8_unlike_20 hF (fun hF => ?_)
      refine ww_icmp_ge cx dX8_unlike_21 (tgt := 85) rfl hF (fun hF => ?_) (fun hF => ?_)
      · refine ww_iload_n cx dX8_unlike_85 rfl 1 rfl ?_
        exact ww_rip hE dX8_unlike_86 hF
      · refine ww_iconst cx dX8_unlike_24 ic_0 ?_
        refine ww_istore_n (ks := [0, 1, 2, 3]) (lv' := fun v9 => [(3, .int v9), (0, .ref (gad G 62)), (1, .int x1), (2, .int x2)]) cx dX8_unlike_25 rfl (by decide) hF (fun _ => rfl) (fun v9 hF => ?_)
        refine ww_iconst cx dX8_unlike_26 ic_0 ?_
        refine ww_istore (ks := [0, 1, 2, 3, 4]) (lv' := fun v10 => [(4, .int v10), (3, .int v9), (0, .ref (gad G 62)), (1, .int x1), (2, .int x2)]) cx dX8_unlike_27 (by decide) hF (fun _ => rfl) (fun v10 hF => ?_)
        exact ww_sub [2, 3, 4, 1, 0] rfl (hl29 _ hk14 FU _ _ _ _ hF)
  unfold fX8_unlike at hF
  show WW G X 5 σ [(0, .ref (gad G 62))] 0 []
  refine ww_aload_n cx dX8_unlike_0 rfl 0 rfl ?_
  refine ww_V0_pi kv_X8_291 rfl cx sh_62 ⟨Nat.le_of_ble_eq_true rfl, Nat.le_of_ble_eq_true rfl⟩ (Nat.le_of_ble_eq_true rfl) dX8_unlike_1 (kX8_isTable G) hF (fun r11 hF => ?_)
  refine ww_if_ne cx dX8_unlike_4 (tgt := 10) rfl hF (fun hF => ?_) (fun hF => ?_)
  · refine ww_iconst cx dX8_unlike_10 ic_0 ?_
    refine ww_istore_n (ks := [0, 1]) (lv' := fun v12 => [(1, .int v12), (0, .ref (gad G 62))]) cx dX8_unlike_11 rfl (by decide) hF (fun _ => rfl) (fun v12 hF => ?_)
    refine ww_iconst cx dX8_unlike_12 ic_0 ?_
    refine ww_istore_n (ks := [0, 1, 2]) (lv' := fun v13 => [(2, .int v13), (1, .int v12), (0, .ref (gad G 62))]) cx dX8_unlike_13 rfl (by decide) hF (fun _ => rfl) (fun v13 hF => ?_)
    exact ww_sub [2, 1, 0] rfl (hl14 FU _ _ hF)
  · refine ww_bipush cx dX8_unlike_7 bc_m2 ?_
    exact ww_rip hE dX8_unlike_9 hF
theorem dX8_worthsOf_0 : decode cX8_worthsOf 0 = .ok (.iconst 0, 1) := by decide +kernel
theorem dX8_worthsOf_1 : decode cX8_worthsOf 1 = .ok (.istore_n 2, 1) := by decide +kernel
theorem dX8_worthsOf_2 : decode cX8_worthsOf 2 = .ok (.iconst 0, 1) := by decide +kernel
theorem dX8_worthsOf_3 : decode cX8_worthsOf 3 = .ok (.istore_n 3, 1) := by decide +kernel
theorem dX8_worthsOf_4 : decode cX8_worthsOf 4 = .ok (.iload_n 3, 1) := by decide +kernel
theorem dX8_worthsOf_5 : decode cX8_worthsOf 5 = .ok (.aload_n 0, 1) := by decide +kernel
theorem dX8_worthsOf_6 : decode cX8_worthsOf 6 = .ok (.getfield 9, 3) := by decide +kernel
theorem dX8_worthsOf_9 : decode cX8_worthsOf 9 = .ok (.iconst 3, 1) := by decide +kernel
theorem dX8_worthsOf_10 : decode cX8_worthsOf 10 = .ok (.iaload, 1) := by decide +kernel
theorem dX8_worthsOf_11 : decode cX8_worthsOf 11 = .ok (.if_icmp .ge 31, 3) := by decide +kernel
theorem dX8_worthsOf_14 : decode cX8_worthsOf 14 = .ok (.iload_n 2, 1) := by decide +kernel
theorem dX8_worthsOf_15 : decode cX8_worthsOf 15 = .ok (.iload_n 1, 1) := by decide +kernel
theorem dX8_worthsOf_16 : decode cX8_worthsOf 16 = .ok (.iload_n 3, 1) := by decide +kernel
theorem dX8_worthsOf_17 : decode cX8_worthsOf 17 = .ok (.invokestatic 168, 3) := by decide +kernel
theorem dX8_worthsOf_20 : decode cX8_worthsOf 20 = .ok (.iconst 1, 1) := by decide +kernel
theorem dX8_worthsOf_21 : decode cX8_worthsOf 21 = .ok (.if_icmp .ne 12, 3) := by decide +kernel
theorem dX8_worthsOf_24 : decode cX8_worthsOf 24 = .ok (.aload_n 0, 1) := by decide +kernel
theorem dX8_worthsOf_25 : decode cX8_worthsOf 25 = .ok (.iload_n 3, 1) := by decide +kernel
theorem dX8_worthsOf_26 : decode cX8_worthsOf 26 = .ok (.iconst 0, 1) := by decide +kernel
theorem dX8_worthsOf_27 : decode cX8_worthsOf 27 = .ok (.invokevirtual 91, 3) := by decide +kernel
theorem dX8_worthsOf_30 : decode cX8_worthsOf 30 = .ok (.goto 4, 3) := by decide +kernel
theorem dX8_worthsOf_33 : decode cX8_worthsOf 33 = .ok (.iconst 0, 1) := by decide +kernel
theorem dX8_worthsOf_34 : decode cX8_worthsOf 34 = .ok (.iadd, 1) := by decide +kernel
theorem dX8_worthsOf_35 : decode cX8_worthsOf 35 = .ok (.istore_n 2, 1) := by decide +kernel
theorem dX8_worthsOf_36 : decode cX8_worthsOf 36 = .ok (.iinc 3 1, 3) := by decide +kernel
theorem dX8_worthsOf_39 : decode cX8_worthsOf 39 = .ok (.goto (-35), 3) := by decide +kernel
theorem dX8_worthsOf_42 : decode cX8_worthsOf 42 = .ok (.iload_n 2, 1) := by decide +kernel
theorem dX8_worthsOf_43 : decode cX8_worthsOf 43 = .ok (.ireturn, 1) := by decide +kernel
set_option maxRecDepth 4000 in
theorem kX8_worthsOf (G : GT) {σ : St} {a1 : Int32} : ∀ (r : Int32) , fX8_worthsOf σ a1 = some r → MCt G 2 yX8_worthsOf cX8_worthsOf 4 (some .int) [.ref (gad G 62), .int a1] σ (some (.int r)) σ := by
  intro r hF
  refine met_i (by decide) (Nat.le_of_ble_eq_true rfl) (fun X cx hE => ?_)
  have cx : Cx G X RX8 cX8_worthsOf 4 2 := cx
  have hb34 : ∀ (kr4 : Int32 → Int32 → Int32 → Option (Int32)), (∀ (x1 : Int32) (x2 : Int32) (x3 : Int32) , kr4 x1 x2 x3 = some r → WW G X 4 σ [(0, .ref (gad G 62)), (1, .int x1), (2, .int x2), (3, .int x3)] 4 []) → ∀ (x1 : Int32) (x3 : Int32) (y0 : Int32) (y1 : Int32) , fX8_worthsOf_b34 σ kr4 x1 x3 y0 y1 = some r → WW G X 4 σ [(0, .ref (gad G 62)), (1, .int x1), (3, .int x3)] 34 [.int y1, .int y0] := by
    intro kr4 hk4
    intro x1 x3 y0 y1 hF
    unfold fX8_worthsOf_b34 at hF
    refine ww_iadd cx dX8_worthsOf_34 ?_
    refine ww_istore_n (ks := [0, 1, 2, 3]) (lv' := fun v1 => [(2, .int v1), (0, .ref (gad G 62)), (1, .int x1), (3, .int x3)]) cx dX8_worthsOf_35 rfl (by decide) hF (fun _ => rfl) (fun v1 hF => ?_)
    refine ww_iinc (j := 3) (ks := [0, 1, 2, 3]) (lv' := fun v2 => [(3, .int v2), (2, .int v1), (0, .ref (gad G 62)), (1, .int x1)]) cx dX8_worthsOf_36 (by decide) rfl ic_1 hF (fun _ => rfl) (fun v2 hF => ?_)
    refine ww_goto cx dX8_worthsOf_39 (tgt := 4) rfl ?_
    exact ww_sub [2, 3, 1, 0] rfl (hk4 _ _ _ hF)
  have hl4 : ∀ n : Nat, ∀ (x1 : Int32) (x2 : Int32) (x3 : Int32) , fX8_worthsOf_l4 σ n x1 x2 x3 = some r → WW G X 4 σ [(0, .ref (gad G 62)), (1, .int x1), (2, .int x2), (3, .int x3)] 4 [] := by
    intro n
    induction n with
    | zero =>
      intro x1 x2 x3 hF
      exact absurd hF (by intro z; cases z)
    | succ n ih =>
      intro x1 x2 x3 hF
      have hk4 := ih
      have hF : fX8_worthsOf_B4 σ (fX8_worthsOf_l4 σ n) x1 x2 x3 = some r := hF
      unfold fX8_worthsOf_B4 at hF
      refine ww_iload_n cx dX8_worthsOf_4 rfl 3 rfl ?_
      refine ww_aload_n cx dX8_worthsOf_5 rfl 0 rfl ?_
      refine gf_X8_9 cx dX8_worthsOf_6 ?_
      refine ww_iconst cx dX8_worthsOf_9 ic_3 ?_
      refine ww_iald (N := 77) cx (sh_63) dX8_worthsOf_10 hF (fun hF => ?_)
      refine ww_icmp_ge cx dX8_worthsOf_11 (tgt := 42) rfl hF (fun hF => ?_) (fun hF => ?_)
      · refine ww_iload_n cx dX8_worthsOf_42 rfl 2 rfl ?_
        exact ww_rip hE dX8_worthsOf_43 hF
      · refine ww_iload_n cx dX8_worthsOf_14 rfl 2 rfl ?_
        refine ww_iload_n cx dX8_worthsOf_15 rfl 1 rfl ?_
        refine ww_iload_n cx dX8_worthsOf_16 rfl 3 rfl ?_
        refine ww_S2_pi kv_X8_168 cx ⟨Nat.le_of_ble_eq_true rfl, Nat.le_of_ble_eq_true rfl⟩ (Nat.le_of_ble_eq_true rfl) dX8_worthsOf_17 (kX8_bit G) hF (fun r3 hF => ?_)
        refine ww_iconst cx dX8_worthsOf_20 ic_1 ?_
        refine ww_icmp_ne cx dX8_worthsOf_21 (tgt := 33) rfl hF (fun hF => ?_) (fun hF => ?_)
        · refine ww_iconst cx dX8_worthsOf_33 ic_0 ?_
          exact ww_sub [0, 1, 3] rfl (hb34 _ hk4 _ _ _ _ hF)
        · refine ww_aload_n cx dX8_worthsOf_24 rfl 0 rfl ?_
          refine ww_iload_n cx dX8_worthsOf_25 rfl 3 rfl ?_
          refine ww_iconst cx dX8_worthsOf_26 ic_0 ?_
          refine ww_V2_pi kv_X8_91 rfl cx sh_62 ⟨Nat.le_of_ble_eq_true rfl, Nat.le_of_ble_eq_true rfl⟩ (Nat.le_of_ble_eq_true rfl) dX8_worthsOf_27 (kX8_ofClaim G) hF (fun r4 hF => ?_)
          refine ww_goto cx dX8_worthsOf_30 (tgt := 34) rfl ?_
          exact ww_sub [0, 1, 3] rfl (hb34 _ hk4 _ _ _ _ hF)
  unfold fX8_worthsOf at hF
  show WW G X 4 σ [(0, .ref (gad G 62)), (1, .int a1)] 0 []
  refine ww_iconst cx dX8_worthsOf_0 ic_0 ?_
  refine ww_istore_n (ks := [0, 1, 2]) (lv' := fun v5 => [(2, .int v5), (0, .ref (gad G 62)), (1, .int a1)]) cx dX8_worthsOf_1 rfl (by decide) hF (fun _ => rfl) (fun v5 hF => ?_)
  refine ww_iconst cx dX8_worthsOf_2 ic_0 ?_
  refine ww_istore_n (ks := [0, 1, 2, 3]) (lv' := fun v6 => [(3, .int v6), (2, .int v5), (0, .ref (gad G 62)), (1, .int a1)]) cx dX8_worthsOf_3 rfl (by decide) hF (fun _ => rfl) (fun v6 hF => ?_)
  exact ww_sub [2, 3, 1, 0] rfl (hl4 FU _ _ _ hF)
theorem dX7_adds_0 : decode cX7_adds 0 = .ok (.iload_n 2, 1) := by decide +kernel
theorem dX7_adds_1 : decode cX7_adds 1 = .ok (.invokestatic 115, 3) := by decide +kernel
theorem dX7_adds_4 : decode cX7_adds 4 = .ok (.istore_n 3, 1) := by decide +kernel
theorem dX7_adds_5 : decode cX7_adds 5 = .ok (.aload_n 0, 1) := by decide +kernel
theorem dX7_adds_6 : decode cX7_adds 6 = .ok (.getfield 19, 3) := by decide +kernel
theorem dX7_adds_9 : decode cX7_adds 9 = .ok (.iload_n 1, 1) := by decide +kernel
theorem dX7_adds_10 : decode cX7_adds 10 = .ok (.invokevirtual 101, 3) := by decide +kernel
theorem dX7_adds_13 : decode cX7_adds 13 = .ok (.ifCond .eq 14, 3) := by decide +kernel
theorem dX7_adds_16 : decode cX7_adds 16 = .ok (.aload_n 0, 1) := by decide +kernel
theorem dX7_adds_17 : decode cX7_adds 17 = .ok (.getfield 19, 3) := by decide +kernel
theorem dX7_adds_20 : decode cX7_adds 20 = .ok (.iload_n 2, 1) := by decide +kernel
theorem dX7_adds_21 : decode cX7_adds 21 = .ok (.invokevirtual 240, 3) := by decide +kernel
theorem dX7_adds_24 : decode cX7_adds 24 = .ok (.ifCond .ne 6, 3) := by decide +kernel
theorem dX7_adds_27 : decode cX7_adds 27 = .ok (.bipush (-2), 2) := by decide +kernel
theorem dX7_adds_29 : decode cX7_adds 29 = .ok (.ireturn, 1) := by decide +kernel
theorem dX7_adds_30 : decode cX7_adds 30 = .ok (.iload_n 3, 1) := by decide +kernel
theorem dX7_adds_31 : decode cX7_adds 31 = .ok (.iconst 1, 1) := by decide +kernel
theorem dX7_adds_32 : decode cX7_adds 32 = .ok (.if_icmp .lt 8, 3) := by decide +kernel
theorem dX7_adds_35 : decode cX7_adds 35 = .ok (.iload_n 3, 1) := by decide +kernel
theorem dX7_adds_36 : decode cX7_adds 36 = .ok (.iconst 3, 1) := by decide +kernel
theorem dX7_adds_37 : decode cX7_adds 37 = .ok (.if_icmp .le 6, 3) := by decide +kernel
theorem dX7_adds_40 : decode cX7_adds 40 = .ok (.bipush (-2), 2) := by decide +kernel
theorem dX7_adds_42 : decode cX7_adds 42 = .ok (.ireturn, 1) := by decide +kernel
theorem dX7_adds_43 : decode cX7_adds 43 = .ok (.aload_n 0, 1) := by decide +kernel
theorem dX7_adds_44 : decode cX7_adds 44 = .ok (.getfield 19, 3) := by decide +kernel
theorem dX7_adds_47 : decode cX7_adds 47 = .ok (.getfield 202, 3) := by decide +kernel
theorem dX7_adds_50 : decode cX7_adds 50 = .ok (.bipush 12, 2) := by decide +kernel
theorem dX7_adds_52 : decode cX7_adds 52 = .ok (.if_icmp .lt 6, 3) := by decide +kernel
theorem dX7_adds_55 : decode cX7_adds 55 = .ok (.bipush (-3), 2) := by decide +kernel
theorem dX7_adds_57 : decode cX7_adds 57 = .ok (.ireturn, 1) := by decide +kernel
theorem dX7_adds_58 : decode cX7_adds 58 = .ok (.aload_n 0, 1) := by decide +kernel
theorem dX7_adds_59 : decode cX7_adds 59 = .ok (.getfield 19, 3) := by decide +kernel
theorem dX7_adds_62 : decode cX7_adds 62 = .ok (.iload_n 1, 1) := by decide +kernel
theorem dX7_adds_63 : decode cX7_adds 63 = .ok (.iload_n 2, 1) := by decide +kernel
theorem dX7_adds_64 : decode cX7_adds 64 = .ok (.invokevirtual 348, 3) := by decide +kernel
theorem dX7_adds_67 : decode cX7_adds 67 = .ok (.aload_n 0, 1) := by decide +kernel
theorem dX7_adds_68 : decode cX7_adds 68 = .ok (.iconst 1, 1) := by decide +kernel
theorem dX7_adds_69 : decode cX7_adds 69 = .ok (.putfield 48, 3) := by decide +kernel
theorem dX7_adds_72 : decode cX7_adds 72 = .ok (.aload_n 0, 1) := by decide +kernel
theorem dX7_adds_73 : decode cX7_adds 73 = .ok (.getfield 19, 3) := by decide +kernel
theorem dX7_adds_76 : decode cX7_adds 76 = .ok (.getfield 202, 3) := by decide +kernel
theorem dX7_adds_79 : decode cX7_adds 79 = .ok (.iconst 1, 1) := by decide +kernel
theorem dX7_adds_80 : decode cX7_adds 80 = .ok (.isub, 1) := by decide +kernel
theorem dX7_adds_81 : decode cX7_adds 81 = .ok (.ireturn, 1) := by decide +kernel
set_option maxRecDepth 4000 in
theorem kX7_adds (G : GT) {σ : St} {a1 : Int32} {a2 : Int32} : ∀ (r : Int32) (σo : St) , fX7_adds σ a1 a2 = some (r, σo) → MCt G 3 yX7_adds cX7_adds 4 (some .int) [.ref (gad G 0), .int a1, .int a2] σ (some (.int r)) σo := by
  intro r σo hF
  refine met_i (by decide) (Nat.le_of_ble_eq_true rfl) (fun X cx hE => ?_)
  have cx : Cx G X RX7 cX7_adds 4 3 := cx
  unfold fX7_adds at hF
  show WW G X 4 σ [(0, .ref (gad G 0)), (1, .int a1), (2, .int a2)] 0 []
  refine ww_iload_n cx dX7_adds_0 rfl 2 rfl ?_
  refine ww_S1_pi kv_X7_115 cx ⟨Nat.le_of_ble_eq_true rfl, Nat.le_of_ble_eq_true rfl⟩ (Nat.le_of_ble_eq_true rfl) dX7_adds_1 (kJ6_bitCount_0f7a4 G) hF (fun r1 hF => ?_)
  refine ww_istore_n (ks := [0, 1, 2, 3]) (lv' := fun v2 => [(3, .int v2), (0, .ref (gad G 0)), (1, .int a1), (2, .int a2)]) cx dX7_adds_4 rfl (by decide) hF (fun _ => rfl) (fun v2 hF => ?_)
  refine ww_aload_n cx dX7_adds_5 rfl 1 rfl ?_
  refine gf_X7_19 cx dX7_adds_6 ?_
  refine ww_iload_n cx dX7_adds_9 rfl 2 rfl ?_
  refine ww_V1_pi kv_X7_101 rfl cx ((isTab_3).1) ⟨Nat.le_of_ble_eq_true rfl, Nat.le_of_ble_eq_true rfl⟩ (Nat.le_of_ble_eq_true rfl) dX7_adds_10 (kX6_hasClaim G (isTab_3)) hF (fun r3 hF => ?_)
  refine ww_if_eq cx dX7_adds_13 (tgt := 27) rfl hF (fun hF => ?_) (fun hF => ?_)
  · refine ww_bipush cx dX7_adds_27 bc_m2 ?_
    exact ww_ris hE dX7_adds_29 hF
  · refine ww_aload_n cx dX7_adds_16 rfl 1 rfl ?_
    refine gf_X7_19 cx dX7_adds_17 ?_
    refine ww_iload_n cx dX7_adds_20 rfl 3 rfl ?_
    refine ww_V1_pi kv_X7_240 rfl cx ((isTab_3).1) ⟨Nat.le_of_ble_eq_true rfl, Nat.le_of_ble_eq_true rfl⟩ (Nat.le_of_ble_eq_true rfl) dX7_adds_21 (kX6_isClaimSet G (isTab_3)) hF (fun r4 hF => ?_)
    refine ww_if_ne cx dX7_adds_24 (tgt := 30) rfl hF (fun hF => ?_) (fun hF => ?_)
    · refine ww_iload_n cx dX7_adds_30 rfl 0 rfl ?_
      refine ww_iconst cx dX7_adds_31 ic_1 ?_
      refine ww_icmp_lt cx dX7_adds_32 (tgt := 40) rfl hF (fun hF => ?_) (fun hF => ?_)
      · refine ww_bipush cx dX7_adds_40 bc_m2 ?_
        exact ww_ris hE dX7_adds_42 hF
      · refine ww_iload_n cx dX7_adds_35 rfl 0 rfl ?_
        refine ww_iconst cx dX7_adds_36 ic_3 ?_
        refine ww_icmp_le cx dX7_adds_37 (tgt := 43) rfl hF (fun hF => ?_) (fun hF => ?_)
        · refine ww_aload_n cx dX7_adds_43 rfl 1 rfl ?_
          refine gf_X7_19 cx dX7_adds_44 ?_
          refine gf_X7_202 cx (isTab_3) dX7_adds_47 ?_
          refine ww_bipush cx dX7_adds_50 bc_12 ?_
          refine ww_icmp_lt cx dX7_adds_52 (tgt := 58) rfl hF (fun hF => ?_) (fun hF => ?_)
          · refine ww_aload_n cx dX7_adds_58 rfl 1 rfl ?_
            refine gf_X7_19 cx dX7_adds_59 ?_
            refine ww_iload_n cx dX7_adds_62 rfl 2 rfl ?_
            refine ww_iload_n cx dX7_adds_63 rfl 3 rfl ?_
            refine ww_V2_sv kv_X7_348 rfl cx ((isTab_3).1) ⟨Nat.le_of_ble_eq_true rfl, Nat.le_of_ble_eq_true rfl⟩ (Nat.le_of_ble_eq_true rfl) dX7_adds_64 (kX6_addStep G (isTab_3)) hF (fun σ5 hF => ?_)
            refine ww_aload_n cx dX7_adds_67 rfl 1 rfl ?_
            refine ww_iconst cx dX7_adds_68 ic_1 ?_
            refine pf_X7_48 cx dX7_adds_69 hF (fun σ6 hF => ?_)
            refine ww_aload_n cx dX7_adds_72 rfl 1 rfl ?_
            refine gf_X7_19 cx dX7_adds_73 ?_
            refine gf_X7_202 cx (isTab_3) dX7_adds_76 ?_
            refine ww_iconst cx dX7_adds_79 ic_1 ?_
            refine ww_isub cx dX7_adds_80 ?_
            exact ww_ris hE dX7_adds_81 hF
          · refine ww_bipush cx dX7_adds_55 bc_m3 ?_
            exact ww_ris hE dX7_adds_57 hF
        · refine ww_bipush cx dX7_adds_40 bc_m2 ?_
          exact ww_ris hE dX7_adds_42 hF
    · refine ww_bipush cx dX7_adds_27 bc_m2 ?_
      exact ww_ris hE dX7_adds_29 hF
theorem dX7_back_0 : decode cX7_back 0 = .ok (.iload_n 1, 1) := by decide +kernel
theorem dX7_back_1 : decode cX7_back 1 = .ok (.ifCond .lt 8, 3) := by decide +kernel
theorem dX7_back_4 : decode cX7_back 4 = .ok (.iload_n 1, 1) := by decide +kernel
theorem dX7_back_5 : decode cX7_back 5 = .ok (.iconst 3, 1) := by decide +kernel
theorem dX7_back_6 : decode cX7_back 6 = .ok (.if_icmp .lt 6, 3) := by decide +kernel
theorem dX7_back_9 : decode cX7_back 9 = .ok (.bipush (-2), 2) := by decide +kernel
theorem dX7_back_11 : decode cX7_back 11 = .ok (.ireturn, 1) := by decide +kernel
theorem dX7_back_12 : decode cX7_back 12 = .ok (.aload_n 0, 1) := by decide +kernel
theorem dX7_back_13 : decode cX7_back 13 = .ok (.getfield 30, 3) := by decide +kernel
theorem dX7_back_16 : decode cX7_back 16 = .ok (.iload_n 1, 1) := by decide +kernel
theorem dX7_back_17 : decode cX7_back 17 = .ok (.baload, 1) := by decide +kernel
theorem dX7_back_18 : decode cX7_back 18 = .ok (.ifCond .ne 6, 3) := by decide +kernel
theorem dX7_back_21 : decode cX7_back 21 = .ok (.bipush (-6), 2) := by decide +kernel
theorem dX7_back_23 : decode cX7_back 23 = .ok (.ireturn, 1) := by decide +kernel
theorem dX7_back_24 : decode cX7_back 24 = .ok (.aload_n 0, 1) := by decide +kernel
theorem dX7_back_25 : decode cX7_back 25 = .ok (.getfield 19, 3) := by decide +kernel
theorem dX7_back_28 : decode cX7_back 28 = .ok (.aload_n 0, 1) := by decide +kernel
theorem dX7_back_29 : decode cX7_back 29 = .ok (.getfield 26, 3) := by decide +kernel
theorem dX7_back_32 : decode cX7_back 32 = .ok (.iload_n 1, 1) := by decide +kernel
theorem dX7_back_33 : decode cX7_back 33 = .ok (.aaload, 1) := by decide +kernel
theorem dX7_back_34 : decode cX7_back 34 = .ok (.invokevirtual 88, 3) := by decide +kernel
theorem dX7_back_37 : decode cX7_back 37 = .ok (.aload_n 0, 1) := by decide +kernel
theorem dX7_back_38 : decode cX7_back 38 = .ok (.iconst 1, 1) := by decide +kernel
theorem dX7_back_39 : decode cX7_back 39 = .ok (.putfield 48, 3) := by decide +kernel
theorem dX7_back_42 : decode cX7_back 42 = .ok (.iconst 0, 1) := by decide +kernel
theorem dX7_back_43 : decode cX7_back 43 = .ok (.ireturn, 1) := by decide +kernel
set_option maxRecDepth 4000 in
theorem kX7_back (G : GT) {σ : St} {a1 : Int32} : ∀ (r : Int32) (σo : St) , fX7_back σ a1 = some (r, σo) → MCt G 3 yX7_back cX7_back 2 (some .int) [.ref (gad G 0), .int a1] σ (some (.int r)) σo := by
  intro r σo hF
  refine met_i (by decide) (Nat.le_of_ble_eq_true rfl) (fun X cx hE => ?_)
  have cx : Cx G X RX7 cX7_back 2 3 := cx
  unfold fX7_back at hF
  show WW G X 2 σ [(0, .ref (gad G 0)), (1, .int a1)] 0 []
  refine ww_iload_n cx dX7_back_0 rfl 1 rfl ?_
  refine ww_if_lt cx dX7_back_1 (tgt := 9) rfl hF (fun hF => ?_) (fun hF => ?_)
  · refine ww_bipush cx dX7_back_9 bc_m2 ?_
    exact ww_ris hE dX7_back_11 hF
  · refine ww_iload_n cx dX7_back_4 rfl 1 rfl ?_
    refine ww_iconst cx dX7_back_5 ic_3 ?_
    refine ww_icmp_lt cx dX7_back_6 (tgt := 12) rfl hF (fun hF => ?_) (fun hF => ?_)
    · refine ww_aload_n cx dX7_back_12 rfl 0 rfl ?_
      refine gf_X7_30 cx dX7_back_13 ?_
      refine ww_iload_n cx dX7_back_16 rfl 1 rfl ?_
      refine ww_zald (N := 3) cx (sh_18) dX7_back_17 hF (fun hF => ?_)
      refine ww_if_ne cx dX7_back_18 (tgt := 24) rfl hF (fun hF => ?_) (fun hF => ?_)
      · refine ww_aload_n cx dX7_back_24 rfl 0 rfl ?_
        refine gf_X7_19 cx dX7_back_25 ?_
        refine ww_aload_n cx dX7_back_28 rfl 0 rfl ?_
        refine gf_X7_26 cx dX7_back_29 ?_
        refine ww_iload_n cx dX7_back_32 rfl 1 rfl ?_
        refine ww_aaldT cx dX7_back_33 hF (fun k1 hk1 hF => ?_)
        refine ww_V1_sv kv_X7_88 rfl cx ((isTab_3).1) ⟨Nat.le_of_ble_eq_true rfl, Nat.le_of_ble_eq_true rfl⟩ (Nat.le_of_ble_eq_true rfl) dX7_back_34 (kX6_copyFrom G (isTab_3) (hk1)) hF (fun σ2 hF => ?_)
        refine ww_aload_n cx dX7_back_37 rfl 0 rfl ?_
        refine ww_iconst cx dX7_back_38 ic_1 ?_
        refine pf_X7_48 cx dX7_back_39 hF (fun σ3 hF => ?_)
        refine ww_iconst cx dX7_back_42 ic_0 ?_
        exact ww_ris hE dX7_back_43 hF
      · refine ww_bipush cx dX7_back_21 bc_m6 ?_
        exact ww_ris hE dX7_back_23 hF
    · refine ww_bipush cx dX7_back_9 bc_m2 ?_
      exact ww_ris hE dX7_back_11 hF
theorem dX7_counter_0 : decode cX7_counter 0 = .ok (.aload_n 0, 1) := by decide +kernel
theorem dX7_counter_1 : decode cX7_counter 1 = .ok (.getfield 19, 3) := by decide +kernel
theorem dX7_counter_4 : decode cX7_counter 4 = .ok (.iload_n 1, 1) := by decide +kernel
theorem dX7_counter_5 : decode cX7_counter 5 = .ok (.invokevirtual 101, 3) := by decide +kernel
theorem dX7_counter_8 : decode cX7_counter 8 = .ok (.ifCond .ne 6, 3) := by decide +kernel
theorem dX7_counter_11 : decode cX7_counter 11 = .ok (.bipush (-2), 2) := by decide +kernel
theorem dX7_counter_13 : decode cX7_counter 13 = .ok (.ireturn, 1) := by decide +kernel
theorem dX7_counter_14 : decode cX7_counter 14 = .ok (.aload_n 0, 1) := by decide +kernel
theorem dX7_counter_15 : decode cX7_counter 15 = .ok (.getfield 19, 3) := by decide +kernel
theorem dX7_counter_18 : decode cX7_counter 18 = .ok (.aload_n 0, 1) := by decide +kernel
theorem dX7_counter_19 : decode cX7_counter 19 = .ok (.getfield 19, 3) := by decide +kernel
theorem dX7_counter_22 : decode cX7_counter 22 = .ok (.getfield 109, 3) := by decide +kernel
theorem dX7_counter_25 : decode cX7_counter 25 = .ok (.invokevirtual 153, 3) := by decide +kernel
theorem dX7_counter_28 : decode cX7_counter 28 = .ok (.aload_n 0, 1) := by decide +kernel
theorem dX7_counter_29 : decode cX7_counter 29 = .ok (.getfield 19, 3) := by decide +kernel
theorem dX7_counter_32 : decode cX7_counter 32 = .ok (.getfield 112, 3) := by decide +kernel
theorem dX7_counter_35 : decode cX7_counter 35 = .ok (.iload_n 1, 1) := by decide +kernel
theorem dX7_counter_36 : decode cX7_counter 36 = .ok (.iaload, 1) := by decide +kernel
theorem dX7_counter_37 : decode cX7_counter 37 = .ok (.iconst (-1), 1) := by decide +kernel
theorem dX7_counter_38 : decode cX7_counter 38 = .ok (.ixor, 1) := by decide +kernel
theorem dX7_counter_39 : decode cX7_counter 39 = .ok (.iand, 1) := by decide +kernel
theorem dX7_counter_40 : decode cX7_counter 40 = .ok (.invokestatic 160, 3) := by decide +kernel
theorem dX7_counter_43 : decode cX7_counter 43 = .ok (.ireturn, 1) := by decide +kernel
set_option maxRecDepth 4000 in
theorem kX7_counter (G : GT) {σ : St} {a1 : Int32} : ∀ (r : Int32) , fX7_counter σ a1 = some r → MCt G 3 yX7_counter cX7_counter 2 (some .int) [.ref (gad G 0), .int a1] σ (some (.int r)) σ := by
  intro r hF
  refine met_i (by decide) (Nat.le_of_ble_eq_true rfl) (fun X cx hE => ?_)
  have cx : Cx G X RX7 cX7_counter 2 3 := cx
  unfold fX7_counter at hF
  show WW G X 2 σ [(0, .ref (gad G 0)), (1, .int a1)] 0 []
  refine ww_aload_n cx dX7_counter_0 rfl 0 rfl ?_
  refine gf_X7_19 cx dX7_counter_1 ?_
  refine ww_iload_n cx dX7_counter_4 rfl 1 rfl ?_
  refine ww_V1_pi kv_X7_101 rfl cx ((isTab_3).1) ⟨Nat.le_of_ble_eq_true rfl, Nat.le_of_ble_eq_true rfl⟩ (Nat.le_of_ble_eq_true rfl) dX7_counter_5 (kX6_hasClaim G (isTab_3)) hF (fun r1 hF => ?_)
  refine ww_if_ne cx dX7_counter_8 (tgt := 14) rfl hF (fun hF => ?_) (fun hF => ?_)
  · refine ww_aload_n cx dX7_counter_14 rfl 0 rfl ?_
    refine gf_X7_19 cx dX7_counter_15 ?_
    refine ww_aload_n cx dX7_counter_18 rfl 0 rfl ?_
    refine gf_X7_19 cx dX7_counter_19 ?_
    refine gf_X7_109 cx (isTab_3) dX7_counter_22 ?_
    refine ww_V1_pi kv_X7_153 rfl cx ((isTab_3).1) ⟨Nat.le_of_ble_eq_true rfl, Nat.le_of_ble_eq_true rfl⟩ (Nat.le_of_ble_eq_true rfl) dX7_counter_25 (kX6_worldsOf G (isTab_3)) hF (fun r2 hF => ?_)
    refine ww_aload_n cx dX7_counter_28 rfl 0 rfl ?_
    refine gf_X7_19 cx dX7_counter_29 ?_
    refine gf_X7_112 cx (isTab_3) dX7_counter_32 ?_
    refine ww_iload_n cx dX7_counter_35 rfl 1 rfl ?_
    refine ww_iald (N := 12) cx (ar_X6_9 isTab_3) dX7_counter_36 hF (fun hF => ?_)
    refine ww_iconst cx dX7_counter_37 ic_m1 ?_
    refine ww_ixor cx dX7_counter_38 ?_
    refine ww_iand cx dX7_counter_39 ?_
    refine ww_S1_pi kv_X7_160 cx ⟨Nat.le_of_ble_eq_true rfl, Nat.le_of_ble_eq_true rfl⟩ (Nat.le_of_ble_eq_true rfl) dX7_counter_40 (kX7_lowestBit G) hF (fun r3 hF => ?_)
    exact ww_rip hE dX7_counter_43 hF
  · refine ww_bipush cx dX7_counter_11 bc_m2 ?_
    exact ww_rip hE dX7_counter_13 hF
