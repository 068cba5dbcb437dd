theorem dX7_bit_0 : decode cX7_bit 0 = .ok (.iload_n 0, 1) := by decide +kernel
theorem dX7_bit_1 : decode cX7_bit 1 = .ok (.ifCond .eq 7, 3) := by decide +kernel
theorem dX7_bit_4 : decode cX7_bit 4 = .ok (.iconst 1, 1) := by decide +kernel
theorem dX7_bit_5 : decode cX7_bit 5 = .ok (.goto 4, 3) := by decide +kernel
theorem dX7_bit_8 : decode cX7_bit 8 = .ok (.iconst 0, 1) := by decide +kernel
theorem dX7_bit_9 : decode cX7_bit 9 = .ok (.ireturn, 1) := by decide +kernel
set_option maxRecDepth 4000 in
theorem kX7_bit (G : GT) {σ : St} {a0 : Int32} : ∀ (r : Int32) , fX7_bit a0 = some r → MCt G 1 yX7_bit cX7_bit 1 (some .int) [.int a0] σ (some (.int r)) σ := by
  intro r hF
  refine met_i (by decide) (Nat.le_of_ble_eq_true rfl) (fun X cx hE => ?_)
  have cx : Cx G X RX7 cX7_bit 1 1 := cx
  unfold fX7_bit at hF
  show WW G X 1 σ [(0, .int a0)] 0 []
  refine ww_iload_n cx dX7_bit_0 rfl 0 rfl ?_
  refine ww_if_eq cx dX7_bit_1 (tgt := 8) rfl hF (fun hF => ?_) (fun hF => ?_)
  · refine ww_iconst cx dX7_bit_8 ic_0 ?_
    exact ww_rip hE dX7_bit_9 hF
  · refine ww_iconst cx dX7_bit_4 ic_1 ?_
    refine ww_goto cx dX7_bit_5 (tgt := 9) rfl ?_
    exact ww_rip hE dX7_bit_9 hF
theorem dX7_end_0 : decode cX7_end 0 = .ok (.iload_n 1, 1) := by decide +kernel
theorem dX7_end_1 : decode cX7_end 1 = .ok (.ifCond .lt 14, 3) := by decide +kernel
theorem dX7_end_4 : decode cX7_end 4 = .ok (.iload_n 1, 1) := by decide +kernel
theorem dX7_end_5 : decode cX7_end 5 = .ok (.aload_n 0, 1) := by decide +kernel
theorem dX7_end_6 : decode cX7_end 6 = .ok (.getfield 10, 3) := by decide +kernel
theorem dX7_end_9 : decode cX7_end 9 = .ok (.getfield 76, 3) := by decide +kernel
theorem dX7_end_12 : decode cX7_end 12 = .ok (.if_icmp .le 5, 3) := by decide +kernel
theorem dX7_end_15 : decode cX7_end 15 = .ok (.iconst (-1), 1) := by decide +kernel
theorem dX7_end_16 : decode cX7_end 16 = .ok (.ireturn, 1) := by decide +kernel
theorem dX7_end_17 : decode cX7_end 17 = .ok (.aload_n 0, 1) := by decide +kernel
theorem dX7_end_18 : decode cX7_end 18 = .ok (.getfield 10, 3) := by decide +kernel
theorem dX7_end_21 : decode cX7_end 21 = .ok (.iload_n 1, 1) := by decide +kernel
theorem dX7_end_22 : decode cX7_end 22 = .ok (.putfield 76, 3) := by decide +kernel
theorem dX7_end_25 : decode cX7_end 25 = .ok (.iload_n 1, 1) := by decide +kernel
theorem dX7_end_26 : decode cX7_end 26 = .ok (.ireturn, 1) := by decide +kernel
set_option maxRecDepth 4000 in
theorem kX7_end (G : GT) {σ : St} {a1 : Int32} : ∀ (r : Int32) (σo : St) , fX7_end σ a1 = some (r, σo) → MCt G 1 yX7_end cX7_end 2 (some .int) [.ref (gad G 0), .int a1] σ (some (.int r)) σo := by
  intro r σo hF
  refine met_i (by decide) (Nat.le_of_ble_eq_true rfl) (fun X cx hE => ?_)
  have cx : Cx G X RX7 cX7_end 2 1 := cx
  unfold fX7_end at hF
  show WW G X 2 σ [(0, .ref (gad G 0)), (1, .int a1)] 0 []
  refine ww_iload_n cx dX7_end_0 rfl 1 rfl ?_
  refine ww_if_lt cx dX7_end_1 (tgt := 15) rfl hF (fun hF => ?_) (fun hF => ?_)
  · refine ww_iconst cx dX7_end_15 ic_m1 ?_
    exact ww_ris hE dX7_end_16 hF
  · refine ww_iload_n cx dX7_end_4 rfl 1 rfl ?_
    refine ww_aload_n cx dX7_end_5 rfl 0 rfl ?_
    refine gf_X7_10 cx dX7_end_6 ?_
    refine gf_X7_76 cx dX7_end_9 ?_
    refine ww_icmp_le cx dX7_end_12 (tgt := 17) rfl hF (fun hF => ?_) (fun hF => ?_)
    · refine ww_aload_n cx dX7_end_17 rfl 0 rfl ?_
      refine gf_X7_10 cx dX7_end_18 ?_
      refine ww_iload_n cx dX7_end_21 rfl 1 rfl ?_
      refine pf_X7_76 cx dX7_end_22 hF (fun σ1 hF => ?_)
      refine ww_iload_n cx dX7_end_25 rfl 1 rfl ?_
      exact ww_ris hE dX7_end_26 hF
    · refine ww_iconst cx dX7_end_15 ic_m1 ?_
      exact ww_ris hE dX7_end_16 hF
theorem dX7_fault_0 : decode cX7_fault 0 = .ok (.iload_n 1, 1) := by decide +kernel
theorem dX7_fault_1 : decode cX7_fault 1 = .ok (.lookupswitch 43 #[(0, 27), (1, 35)], 27) := by decide +kernel
theorem dX7_fault_28 : decode cX7_fault 28 = .ok (.aload_n 0, 1) := by decide +kernel
theorem dX7_fault_29 : decode cX7_fault 29 = .ok (.getfield 10, 3) := by decide +kernel
theorem dX7_fault_32 : decode cX7_fault 32 = .ok (.getfield 95, 3) := by decide +kernel
theorem dX7_fault_35 : decode cX7_fault 35 = .ok (.ireturn, 1) := by decide +kernel
theorem dX7_fault_36 : decode cX7_fault 36 = .ok (.aload_n 0, 1) := by decide +kernel
theorem dX7_fault_37 : decode cX7_fault 37 = .ok (.getfield 10, 3) := by decide +kernel
theorem dX7_fault_40 : decode cX7_fault 40 = .ok (.getfield 98, 3) := by decide +kernel
theorem dX7_fault_43 : decode cX7_fault 43 = .ok (.ireturn, 1) := by decide +kernel
theorem dX7_fault_44 : decode cX7_fault 44 = .ok (.iconst (-1), 1) := by decide +kernel
theorem dX7_fault_45 : decode cX7_fault 45 = .ok (.ireturn, 1) := by decide +kernel
set_option maxRecDepth 4000 in
theorem kX7_fault (G : GT) {σ : St} {a1 : Int32} : ∀ (r : Int32) , fX7_fault σ a1 = some r → MCt G 1 yX7_fault cX7_fault 2 (some .int) [.ref (gad G 0), .int a1] σ (some (.int r)) σ := by
  intro r hF
  refine met_i (by decide) (Nat.le_of_ble_eq_true rfl) (fun X cx hE => ?_)
  have cx : Cx G X RX7 cX7_fault 2 1 := cx
  unfold fX7_fault at hF
  show WW G X 2 σ [(0, .ref (gad G 0)), (1, .int a1)] 0 []
  refine ww_iload_n cx dX7_fault_0 rfl 1 rfl ?_
  by_cases e0 : a1 = 0
  · replace hF := it_t e0 hF
    refine ww_lsIn (v := 0) (tgt := 28) cx dX7_fault_1 e0 (by decide +kernel) rfl rfl ?_
    refine ww_aload_n cx dX7_fault_28 rfl 0 rfl ?_
    refine gf_X7_10 cx dX7_fault_29 ?_
    refine gf_X7_95 cx dX7_fault_32 ?_
    exact ww_rip hE dX7_fault_35 hF
  replace hF := it_f e0 hF
  by_cases e1 : a1 = 1
  · replace hF := it_t e1 hF
    refine ww_lsIn (v := 1) (tgt := 36) cx dX7_fault_1 e1 (by decide +kernel) rfl rfl ?_
    refine ww_aload_n cx dX7_fault_36 rfl 0 rfl ?_
    refine gf_X7_10 cx dX7_fault_37 ?_
    refine gf_X7_98 cx dX7_fault_40 ?_
    exact ww_rip hE dX7_fault_43 hF
  replace hF := it_f e1 hF
  refine ww_lsOut (tgt := 44) cx dX7_fault_1 (by decide +kernel) (ls_out2 e0 e1) rfl ?_
  refine ww_iconst cx dX7_fault_44 ic_m1 ?_
  exact ww_rip hE dX7_fault_45 hF
theorem dX7_greatestDivisor_0 : decode cX7_greatestDivisor 0 = .ok (.iload_n 0, 1) := by decide +kernel
theorem dX7_greatestDivisor_1 : decode cX7_greatestDivisor 1 = .ok (.istore_n 2, 1) := by decide +kernel
theorem dX7_greatestDivisor_2 : decode cX7_greatestDivisor 2 = .ok (.iload_n 1, 1) := by decide +kernel
theorem dX7_greatestDivisor_3 : decode cX7_greatestDivisor 3 = .ok (.istore_n 3, 1) := by decide +kernel
theorem dX7_greatestDivisor_4 : decode cX7_greatestDivisor 4 = .ok (.iconst 0, 1) := by decide +kernel
theorem dX7_greatestDivisor_5 : decode cX7_greatestDivisor 5 = .ok (.istore 4, 2) := by decide +kernel
theorem dX7_greatestDivisor_7 : decode cX7_greatestDivisor 7 = .ok (.iload 4, 2) := by decide +kernel
theorem dX7_greatestDivisor_9 : decode cX7_greatestDivisor 9 = .ok (.bipush 64, 2) := by decide +kernel
theorem dX7_greatestDivisor_11 : decode cX7_greatestDivisor 11 = .ok (.if_icmp .ge 23, 3) := by decide +kernel
theorem dX7_greatestDivisor_14 : decode cX7_greatestDivisor 14 = .ok (.iload_n 3, 1) := by decide +kernel
theorem dX7_greatestDivisor_15 : decode cX7_greatestDivisor 15 = .ok (.ifCond .eq 19, 3) := by decide +kernel
theorem dX7_greatestDivisor_18 : decode cX7_greatestDivisor 18 = .ok (.iload_n 2, 1) := by decide +kernel
theorem dX7_greatestDivisor_19 : decode cX7_greatestDivisor 19 = .ok (.iload_n 3, 1) := by decide +kernel
theorem dX7_greatestDivisor_20 : decode cX7_greatestDivisor 20 = .ok (.irem, 1) := by decide +kernel
theorem dX7_greatestDivisor_21 : decode cX7_greatestDivisor 21 = .ok (.istore 5, 2) := by decide +kernel
theorem dX7_greatestDivisor_23 : decode cX7_greatestDivisor 23 = .ok (.iload_n 3, 1) := by decide +kernel
theorem dX7_greatestDivisor_24 : decode cX7_greatestDivisor 24 = .ok (.istore_n 2, 1) := by decide +kernel
theorem dX7_greatestDivisor_25 : decode cX7_greatestDivisor 25 = .ok (.iload 5, 2) := by decide +kernel
theorem dX7_greatestDivisor_27 : decode cX7_greatestDivisor 27 = .ok (.istore_n 3, 1) := by decide +kernel
theorem dX7_greatestDivisor_28 : decode cX7_greatestDivisor 28 = .ok (.iinc 4 1, 3) := by decide +kernel
theorem dX7_greatestDivisor_31 : decode cX7_greatestDivisor 31 = .ok (.goto (-24), 3) := by decide +kernel
theorem dX7_greatestDivisor_34 : decode cX7_greatestDivisor 34 = .ok (.iload_n 2, 1) := by decide +kernel
theorem dX7_greatestDivisor_35 : decode cX7_greatestDivisor 35 = .ok (.ireturn, 1) := by decide +kernel
set_option maxRecDepth 4000 in
theorem kX7_greatestDivisor (G : GT) {σ : St} {a0 : Int32} {a1 : Int32} : ∀ (r : Int32) , fX7_greatestDivisor a0 a1 = some r → MCt G 1 yX7_greatestDivisor cX7_greatestDivisor 6 (some .int) [.int a0, .int a1] σ (some (.int r)) σ := by
  intro r hF
  refine met_i (by decide) (Nat.le_of_ble_eq_true rfl) (fun X cx hE => ?_)
  have cx : Cx G X RX7 cX7_greatestDivisor 6 1 := cx
  have hl7 : ∀ n : Nat, ∀ (x2 : Int32) (x3 : Int32) (x4 : Int32) , fX7_greatestDivisor_l7 n x2 x3 x4 = some r → WW G X 6 σ [(2, .int x2), (3, .int x3), (4, .int x4)] 7 [] := by
    intro n
    induction n with
    | zero =>
      intro x2 x3 x4 hF
      exact absurd hF (by intro z; cases z)
    | succ n ih =>
      intro x2 x3 x4 hF
      have hk7 := ih
      have hF : fX7_greatestDivisor_B7 (fX7_greatestDivisor_l7 n) x2 x3 x4 = some r := hF
      unfold fX7_greatestDivisor_B7 at hF
      refine ww_iload cx dX7_greatestDivisor_7 2 rfl ?_
      refine ww_bipush cx dX7_greatestDivisor_9 bc_64 ?_
      refine ww_icmp_ge cx dX7_greatestDivisor_11 (tgt := 34) rfl hF (fun hF => ?_) (fun hF => ?_)
      · refine ww_iload_n cx dX7_greatestDivisor_34 rfl 0 rfl ?_
        exact ww_rip hE dX7_greatestDivisor_35 hF
      · refine ww_iload_n cx dX7_greatestDivisor_14 rfl 1 rfl ?_
        refine ww_if_eq cx dX7_greatestDivisor_15 (tgt := 34) rfl hF (fun hF => ?_) (fun hF => ?_)
        · refine ww_iload_n cx dX7_greatestDivisor_34 rfl 0 rfl ?_
          exact ww_rip hE dX7_greatestDivisor_35 hF
        · refine ww_iload_n cx dX7_greatestDivisor_18 rfl 0 rfl ?_
          refine ww_iload_n cx dX7_greatestDivisor_19 rfl 1 rfl ?_
          refine ww_irem cx dX7_greatestDivisor_20 hF (fun hF => ?_)
          refine ww_istore (ks := [0, 2, 3]) (lv' := fun v1 => [(5, .int v1), (3, .int x3), (4, .int x4)]) cx dX7_greatestDivisor_21 (by decide) hF (fun _ => rfl) (fun v1 hF => ?_)
          refine ww_iload_n cx dX7_greatestDivisor_23 rfl 1 rfl ?_
          refine ww_istore_n (ks := [0, 1, 3]) (lv' := fun v2 => [(2, .int v2), (5, .int v1), (4, .int x4)]) cx dX7_greatestDivisor_24 rfl (by decide) hF (fun _ => rfl) (fun v2 hF => ?_)
          refine ww_iload cx dX7_greatestDivisor_25 1 rfl ?_
          refine ww_istore_n (ks := [0, 1, 3]) (lv' := fun v3 => [(3, .int v3), (2, .int v2), (4, .int x4)]) cx dX7_greatestDivisor_27 rfl (by decide) hF (fun _ => rfl) (fun v3 hF => ?_)
          refine ww_iinc (j := 2) (ks := [0, 1, 2]) (lv' := fun v4 => [(4, .int v4), (3, .int v3), (2, .int v2)]) cx dX7_greatestDivisor_28 (by decide) rfl ic_1 hF (fun _ => rfl) (fun v4 hF => ?_)
          refine ww_goto cx dX7_greatestDivisor_31 (tgt := 7) rfl ?_
          exact ww_sub [2, 1, 0] rfl (hk7 _ _ _ hF)
  unfold fX7_greatestDivisor at hF
  show WW G X 6 σ [(0, .int a0), (1, .int a1)] 0 []
  refine ww_iload_n cx dX7_greatestDivisor_0 rfl 0 rfl ?_
  refine ww_istore_n (ks := [0, 2]) (lv' := fun v5 => [(2, .int v5), (1, .int a1)]) cx dX7_greatestDivisor_1 rfl (by decide) hF (fun _ => rfl) (fun v5 hF => ?_)
  refine ww_iload_n cx dX7_greatestDivisor_2 rfl 1 rfl ?_
  refine ww_istore_n (ks := [0, 1]) (lv' := fun v6 => [(3, .int v6), (2, .int v5)]) cx dX7_greatestDivisor_3 rfl (by decide) hF (fun _ => rfl) (fun v6 hF => ?_)
  refine ww_iconst cx dX7_greatestDivisor_4 ic_0 ?_
  refine ww_istore (ks := [0, 1, 2]) (lv' := fun v7 => [(4, .int v7), (3, .int v6), (2, .int v5)]) cx dX7_greatestDivisor_5 (by decide) hF (fun _ => rfl) (fun v7 hF => ?_)
  exact ww_sub [2, 1, 0] rfl (hl7 FU _ _ _ hF)
theorem dX7_isBit_0 : decode cX7_isBit 0 = .ok (.iload_n 0, 1) := by decide +kernel
theorem dX7_isBit_1 : decode cX7_isBit 1 = .ok (.ifCond .eq 8, 3) := by decide +kernel
theorem dX7_isBit_4 : decode cX7_isBit 4 = .ok (.iload_n 0, 1) := by decide +kernel
theorem dX7_isBit_5 : decode cX7_isBit 5 = .ok (.iconst 1, 1) := by decide +kernel
theorem dX7_isBit_6 : decode cX7_isBit 6 = .ok (.if_icmp .ne 7, 3) := by decide +kernel
theorem dX7_isBit_9 : decode cX7_isBit 9 = .ok (.iconst 1, 1) := by decide +kernel
theorem dX7_isBit_10 : decode cX7_isBit 10 = .ok (.goto 4, 3) := by decide +kernel
theorem dX7_isBit_13 : decode cX7_isBit 13 = .ok (.iconst 0, 1) := by decide +kernel
theorem dX7_isBit_14 : decode cX7_isBit 14 = .ok (.ireturn, 1) := by decide +kernel
set_option maxRecDepth 4000 in
theorem kX7_isBit (G : GT) {σ : St} {a0 : Int32} : ∀ (r : Int32) , fX7_isBit a0 = some r → MCt G 1 yX7_isBit cX7_isBit 1 (some .boolean) [.int a0] σ (some (.int r)) σ := by
  intro r hF
  refine met_zz (by decide) (Nat.le_of_ble_eq_true rfl) (fun X cx hE => ?_)
  have cx : Cx G X RX7 cX7_isBit 1 1 := cx
  have hb9 : fX7_isBit_b9 = some r → WW G X 1 σ [] 9 [] := by
    intro hF
    unfold fX7_isBit_b9 at hF
    refine ww_iconst cx dX7_isBit_9 ic_1 ?_
    refine ww_goto cx dX7_isBit_10 (tgt := 14) rfl ?_
    exact ww_rzp hE dX7_isBit_14 hF
  unfold fX7_isBit at hF
  show WW G X 1 σ [(0, .int a0)] 0 []
  refine ww_iload_n cx dX7_isBit_0 rfl 0 rfl ?_
  refine ww_if_eq cx dX7_isBit_1 (tgt := 9) rfl hF (fun hF => ?_) (fun hF => ?_)
  · exact ww_sub [] rfl (hb9 hF)
  · refine ww_iload_n cx dX7_isBit_4 rfl 0 rfl ?_
    refine ww_iconst cx dX7_isBit_5 ic_1 ?_
    refine ww_icmp_ne cx dX7_isBit_6 (tgt := 13) rfl hF (fun hF => ?_) (fun hF => ?_)
    · refine ww_iconst cx dX7_isBit_13 ic_0 ?_
      exact ww_rzp hE dX7_isBit_14 hF
    · exact ww_sub [] rfl (hb9 hF)
theorem dX7_isSeed_0 : decode cX7_isSeed 0 = .ok (.iload_n 0, 1) := by decide +kernel
theorem dX7_isSeed_1 : decode cX7_isSeed 1 = .ok (.ifCond .lt 14, 3) := by decide +kernel
theorem dX7_isSeed_4 : decode cX7_isSeed 4 = .ok (.iload_n 0, 1) := by decide +kernel
theorem dX7_isSeed_5 : decode cX7_isSeed 5 = .ok (.ldc_w 389, 3) := by decide +kernel
theorem dX7_isSeed_8 : decode cX7_isSeed 8 = .ok (.if_icmp .gt 7, 3) := by decide +kernel
theorem dX7_isSeed_11 : decode cX7_isSeed 11 = .ok (.iconst 1, 1) := by decide +kernel
theorem dX7_isSeed_12 : decode cX7_isSeed 12 = .ok (.goto 4, 3) := by decide +kernel
theorem dX7_isSeed_15 : decode cX7_isSeed 15 = .ok (.iconst 0, 1) := by decide +kernel
theorem dX7_isSeed_16 : decode cX7_isSeed 16 = .ok (.ireturn, 1) := by decide +kernel
set_option maxRecDepth 4000 in
theorem kX7_isSeed (G : GT) {σ : St} {a0 : Int32} : ∀ (r : Int32) , fX7_isSeed a0 = some r → MCt G 1 yX7_isSeed cX7_isSeed 1 (some .boolean) [.int a0] σ (some (.int r)) σ := by
  intro r hF
  refine met_zz (by decide) (Nat.le_of_ble_eq_true rfl) (fun X cx hE => ?_)
  have cx : Cx G X RX7 cX7_isSeed 1 1 := cx
  unfold fX7_isSeed at hF
  show WW G X 1 σ [(0, .int a0)] 0 []
  refine ww_iload_n cx dX7_isSeed_0 rfl 0 rfl ?_
  refine ww_if_lt cx dX7_isSeed_1 (tgt := 15) rfl hF (fun hF => ?_) (fun hF => ?_)
  · refine ww_iconst cx dX7_isSeed_15 ic_0 ?_
    exact ww_rzp hE dX7_isSeed_16 hF
  · refine ww_iload_n cx dX7_isSeed_4 rfl 0 rfl ?_
    refine ww_ldcw (v := 2000000000) cx dX7_isSeed_5 cn_X7_389 ?_
    refine ww_icmp_gt cx dX7_isSeed_8 (tgt := 15) rfl hF (fun hF => ?_) (fun hF => ?_)
    · refine ww_iconst cx dX7_isSeed_15 ic_0 ?_
      exact ww_rzp hE dX7_isSeed_16 hF
    · refine ww_iconst cx dX7_isSeed_11 ic_1 ?_
      refine ww_goto cx dX7_isSeed_12 (tgt := 16) rfl ?_
      exact ww_rzp hE dX7_isSeed_16 hF
theorem dX7_isSlot_0 : decode cX7_isSlot 0 = .ok (.iload_n 0, 1) := by decide +kernel
theorem dX7_isSlot_1 : decode cX7_isSlot 1 = .ok (.ifCond .lt 12, 3) := by decide +kernel
theorem dX7_isSlot_4 : decode cX7_isSlot 4 = .ok (.iload_n 0, 1) := by decide +kernel
theorem dX7_isSlot_5 : decode cX7_isSlot 5 = .ok (.iconst 4, 1) := by decide +kernel
theorem dX7_isSlot_6 : decode cX7_isSlot 6 = .ok (.if_icmp .ge 7, 3) := by decide +kernel
theorem dX7_isSlot_9 : decode cX7_isSlot 9 = .ok (.iconst 1, 1) := by decide +kernel
theorem dX7_isSlot_10 : decode cX7_isSlot 10 = .ok (.goto 4, 3) := by decide +kernel
theorem dX7_isSlot_13 : decode cX7_isSlot 13 = .ok (.iconst 0, 1) := by decide +kernel
theorem dX7_isSlot_14 : decode cX7_isSlot 14 = .ok (.ireturn, 1) := by decide +kernel
set_option maxRecDepth 4000 in
theorem kX7_isSlot (G : GT) {σ : St} {a0 : Int32} : ∀ (r : Int32) , fX7_isSlot a0 = some r → MCt G 1 yX7_isSlot cX7_isSlot 1 (some .boolean) [.int a0] σ (some (.int r)) σ := by
  intro r hF
  refine met_zz (by decide) (Nat.le_of_ble_eq_true rfl) (fun X cx hE => ?_)
  have cx : Cx G X RX7 cX7_isSlot 1 1 := cx
  unfold fX7_isSlot at hF
  show WW G X 1 σ [(0, .int a0)] 0 []
  refine ww_iload_n cx dX7_isSlot_0 rfl 0 rfl ?_
  refine ww_if_lt cx dX7_isSlot_1 (tgt := 13) rfl hF (fun hF => ?_) (fun hF => ?_)
  · refine ww_iconst cx dX7_isSlot_13 ic_0 ?_
    exact ww_rzp hE dX7_isSlot_14 hF
  · refine ww_iload_n cx dX7_isSlot_4 rfl 0 rfl ?_
    refine ww_iconst cx dX7_isSlot_5 ic_4 ?_
    refine ww_icmp_ge cx dX7_isSlot_6 (tgt := 13) rfl hF (fun hF => ?_) (fun hF => ?_)
    · refine ww_iconst cx dX7_isSlot_13 ic_0 ?_
      exact ww_rzp hE dX7_isSlot_14 hF
    · refine ww_iconst cx dX7_isSlot_9 ic_1 ?_
      refine ww_goto cx dX7_isSlot_10 (tgt := 14) rfl ?_
      exact ww_rzp hE dX7_isSlot_14 hF
theorem dX7_rowsThere_0 : decode cX7_rowsThere 0 = .ok (.iconst 0, 1) := by decide +kernel
theorem dX7_rowsThere_1 : decode cX7_rowsThere 1 = .ok (.istore_n 1, 1) := by decide +kernel
theorem dX7_rowsThere_2 : decode cX7_rowsThere 2 = .ok (.iconst 0, 1) := by decide +kernel
theorem dX7_rowsThere_3 : decode cX7_rowsThere 3 = .ok (.istore_n 2, 1) := by decide +kernel
theorem dX7_rowsThere_4 : decode cX7_rowsThere 4 = .ok (.iload_n 2, 1) := by decide +kernel
theorem dX7_rowsThere_5 : decode cX7_rowsThere 5 = .ok (.iconst 4, 1) := by decide +kernel
theorem dX7_rowsThere_6 : decode cX7_rowsThere 6 = .ok (.if_icmp .ge 24, 3) := by decide +kernel
theorem dX7_rowsThere_9 : decode cX7_rowsThere 9 = .ok (.aload_n 0, 1) := by decide +kernel
theorem dX7_rowsThere_10 : decode cX7_rowsThere 10 = .ok (.getfield 36, 3) := by decide +kernel
theorem dX7_rowsThere_13 : decode cX7_rowsThere 13 = .ok (.iload_n 2, 1) := by decide +kernel
theorem dX7_rowsThere_14 : decode cX7_rowsThere 14 = .ok (.aaload, 1) := by decide +kernel
theorem dX7_rowsThere_15 : decode cX7_rowsThere 15 = .ok (.getfield 199, 3) := by decide +kernel
theorem dX7_rowsThere_18 : decode cX7_rowsThere 18 = .ok (.ifCond .eq 6, 3) := by decide +kernel
theorem dX7_rowsThere_21 : decode cX7_rowsThere 21 = .ok (.iinc 1 1, 3) := by decide +kernel
theorem dX7_rowsThere_24 : decode cX7_rowsThere 24 = .ok (.iinc 2 1, 3) := by decide +kernel
theorem dX7_rowsThere_27 : decode cX7_rowsThere 27 = .ok (.goto (-23), 3) := by decide +kernel
theorem dX7_rowsThere_30 : decode cX7_rowsThere 30 = .ok (.iload_n 1, 1) := by decide +kernel
theorem dX7_rowsThere_31 : decode cX7_rowsThere 31 = .ok (.ireturn, 1) := by decide +kernel
set_option maxRecDepth 4000 in
theorem kX7_rowsThere (G : GT) {σ : St} : ∀ (r : Int32) , fX7_rowsThere σ = some r → MCt G 1 yX7_rowsThere cX7_rowsThere 3 (some .int) [.ref (gad G 0)] σ (some (.int r)) σ := by
  intro r hF
  refine met_i (by decide) (Nat.le_of_ble_eq_true rfl) (fun X cx hE => ?_)
  have cx : Cx G X RX7 cX7_rowsThere 3 1 := cx
  have hl4 : ∀ n : Nat, ∀ (x1 : Int32) (x2 : Int32) , fX7_rowsThere_l4 σ n x1 x2 = some r → WW G X 3 σ [(0, .ref (gad G 0)), (1, .int x1), (2, .int x2)] 4 [] := by
    intro n
    induction n with
    | zero =>
      intro x1 x2 hF
      exact absurd hF (by intro z; cases z)
    | succ n ih =>
      intro x1 x2 hF
      have hk4 := ih
      have hF : fX7_rowsThere_B4 σ (fX7_rowsThere_l4 σ n) x1 x2 = some r := hF
      unfold fX7_rowsThere_B4 at hF
      refine ww_iload_n cx dX7_rowsThere_4 rfl 2 rfl ?_
      refine ww_iconst cx dX7_rowsThere_5 ic_4 ?_
      refine ww_icmp_ge cx dX7_rowsThere_6 (tgt := 30) rfl hF (fun hF => ?_) (fun hF => ?_)
      · refine ww_iload_n cx dX7_rowsThere_30 rfl 1 rfl ?_
        exact ww_rip hE dX7_rowsThere_31 hF
      · refine ww_aload_n cx dX7_rowsThere_9 rfl 0 rfl ?_
        refine gf_X7_36 cx dX7_rowsThere_10 ?_
        refine ww_iload_n cx dX7_rowsThere_13 rfl 2 rfl ?_
        refine ww_aaldR cx dX7_rowsThere_14 hF (fun k1 hk1 hF => ?_)
        refine gf_X7_199 cx (hk1) dX7_rowsThere_15 ?_
        refine ww_if_eq cx dX7_rowsThere_18 (tgt := 24) rfl hF (fun hF => ?_) (fun hF => ?_)
        · refine ww_iinc (j := 2) (ks := [0, 1, 2]) (lv' := fun v2 => [(2, .int v2), (0, .ref (gad G 0)), (1, .int x1)]) cx dX7_rowsThere_24 (by decide) rfl ic_1 hF (fun _ => rfl) (fun v2 hF => ?_)
          refine ww_goto cx dX7_rowsThere_27 (tgt := 4) rfl ?_
          exact ww_sub [1, 2, 0] rfl (hk4 _ _ hF)
        · refine ww_iinc (j := 1) (ks := [0, 1, 2]) (lv' := fun v3 => [(1, .int v3), (0, .ref (gad G 0)), (2, .int x2)]) cx dX7_rowsThere_21 (by decide) rfl ic_1 hF (fun _ => rfl) (fun v3 hF => ?_)
          refine ww_iinc (j := 2) (ks := [0, 1, 2]) (lv' := fun v4 => [(2, .int v4), (1, .int v3), (0, .ref (gad G 0))]) cx dX7_rowsThere_24 (by decide) rfl ic_1 hF (fun _ => rfl) (fun v4 hF => ?_)
          refine ww_goto cx dX7_rowsThere_27 (tgt := 4) rfl ?_
          exact ww_sub [2, 1, 0] rfl (hk4 _ _ hF)
  unfold fX7_rowsThere at hF
  show WW G X 3 σ [(0, .ref (gad G 0))] 0 []
  refine ww_iconst cx dX7_rowsThere_0 ic_0 ?_
  refine ww_istore_n (ks := [0, 1]) (lv' := fun v5 => [(1, .int v5), (0, .ref (gad G 0))]) cx dX7_rowsThere_1 rfl (by decide) hF (fun _ => rfl) (fun v5 hF => ?_)
  refine ww_iconst cx dX7_rowsThere_2 ic_0 ?_
  refine ww_istore_n (ks := [0, 1, 2]) (lv' := fun v6 => [(2, .int v6), (1, .int v5), (0, .ref (gad G 0))]) cx dX7_rowsThere_3 rfl (by decide) hF (fun _ => rfl) (fun v6 hF => ?_)
  exact ww_sub [2, 1, 0] rfl (hl4 FU _ _ hF)
theorem dX7_withBit_0 : decode cX7_withBit 0 = .ok (.iload_n 2, 1) := by decide +kernel
theorem dX7_withBit_1 : decode cX7_withBit 1 = .ok (.iconst 1, 1) := by decide +kernel
theorem dX7_withBit_2 : decode cX7_withBit 2 = .ok (.if_icmp .ne 11, 3) := by decide +kernel
theorem dX7_withBit_5 : decode cX7_withBit 5 = .ok (.iload_n 0, 1) := by decide +kernel
theorem dX7_withBit_6 : decode cX7_withBit 6 = .ok (.iconst 1, 1) := by decide +kernel
theorem dX7_withBit_7 : decode cX7_withBit 7 = .ok (.iload_n 1, 1) := by decide +kernel
theorem dX7_withBit_8 : decode cX7_withBit 8 = .ok (.ishl, 1) := by decide +kernel
theorem dX7_withBit_9 : decode cX7_withBit 9 = .ok (.ior, 1) := by decide +kernel
theorem dX7_withBit_10 : decode cX7_withBit 10 = .ok (.goto 10, 3) := by decide +kernel
theorem dX7_withBit_13 : decode cX7_withBit 13 = .ok (.iload_n 0, 1) := by decide +kernel
theorem dX7_withBit_14 : decode cX7_withBit 14 = .ok (.iconst 1, 1) := by decide +kernel
theorem dX7_withBit_15 : decode cX7_withBit 15 = .ok (.iload_n 1, 1) := by decide +kernel
theorem dX7_withBit_16 : decode cX7_withBit 16 = .ok (.ishl, 1) := by decide +kernel
theorem dX7_withBit_17 : decode cX7_withBit 17 = .ok (.iconst (-1), 1) := by decide +kernel
theorem dX7_withBit_18 : decode cX7_withBit 18 = .ok (.ixor, 1) := by decide +kernel
theorem dX7_withBit_19 : decode cX7_withBit 19 = .ok (.iand, 1) := by decide +kernel
theorem dX7_withBit_20 : decode cX7_withBit 20 = .ok (.ireturn, 1) := by decide +kernel
set_option maxRecDepth 4000 in
theorem kX7_withBit (G : GT) {σ : St} {a0 : Int32} {a1 : Int32} {a2 : Int32} : ∀ (r : Int32) , fX7_withBit a0 a1 a2 = some r → MCt G 1 yX7_withBit cX7_withBit 3 (some .int) [.int a0, .int a1, .int a2] σ (some (.int r)) σ := by
  intro r hF
  refine met_i (by decide) (Nat.le_of_ble_eq_true rfl) (fun X cx hE => ?_)
  have cx : Cx G X RX7 cX7_withBit 3 1 := cx
  unfold fX7_withBit at hF
  show WW G X 3 σ [(0, .int a0), (1, .int a1), (2, .int a2)] 0 []
  refine ww_iload_n cx dX7_withBit_0 rfl 2 rfl ?_
  refine ww_iconst cx dX7_withBit_1 ic_1 ?_
  refine ww_icmp_ne cx dX7_withBit_2 (tgt := 13) rfl hF (fun hF => ?_) (fun hF => ?_)
  · refine ww_iload_n cx dX7_withBit_13 rfl 0 rfl ?_
    refine ww_iconst cx dX7_withBit_14 ic_1 ?_
    refine ww_iload_n cx dX7_withBit_15 rfl 1 rfl ?_
    refine ww_ishl cx dX7_withBit_16 ?_
    refine ww_iconst cx dX7_withBit_17 ic_m1 ?_
    refine ww_ixor cx dX7_withBit_18 ?_
    refine ww_iand cx dX7_withBit_19 ?_
    exact ww_rip hE dX7_withBit_20 hF
  · refine ww_iload_n cx dX7_withBit_5 rfl 0 rfl ?_
    refine ww_iconst cx dX7_withBit_6 ic_1 ?_
    refine ww_iload_n cx dX7_withBit_7 rfl 1 rfl ?_
    refine ww_ishl cx dX7_withBit_8 ?_
    refine ww_ior cx dX7_withBit_9 ?_
    refine ww_goto cx dX7_withBit_10 (tgt := 20) rfl ?_
    exact ww_rip hE dX7_withBit_20 hF
theorem dX0_worldThatComes_0 : decode cX0_worldThatComes 0 = .ok (.iconst 0, 1) := by decide +kernel
theorem dX0_worldThatComes_1 : decode cX0_worldThatComes 1 = .ok (.istore 4, 2) := by decide +kernel
theorem dX0_worldThatComes_3 : decode cX0_worldThatComes 3 = .ok (.iload 4, 2) := by decide +kernel
theorem dX0_worldThatComes_5 : decode cX0_worldThatComes 5 = .ok (.bipush 16, 2) := by decide +kernel
theorem dX0_worldThatComes_7 : decode cX0_worldThatComes 7 = .ok (.if_icmp .ge 18, 3) := by decide +kernel
theorem dX0_worldThatComes_10 : decode cX0_worldThatComes 10 = .ok (.aload_n 0, 1) := by decide +kernel
theorem dX0_worldThatComes_11 : decode cX0_worldThatComes 11 = .ok (.getfield 9, 3) := by decide +kernel
theorem dX0_worldThatComes_14 : decode cX0_worldThatComes 14 = .ok (.iload 4, 2) := by decide +kernel
theorem dX0_worldThatComes_16 : decode cX0_worldThatComes 16 = .ok (.iload 4, 2) := by decide +kernel
theorem dX0_worldThatComes_18 : decode cX0_worldThatComes 18 = .ok (.iastore, 1) := by decide +kernel
theorem dX0_worldThatComes_19 : decode cX0_worldThatComes 19 = .ok (.iinc 4 1, 3) := by decide +kernel
theorem dX0_worldThatComes_22 : decode cX0_worldThatComes 22 = .ok (.goto (-19), 3) := by decide +kernel
theorem dX0_worldThatComes_25 : decode cX0_worldThatComes 25 = .ok (.aload_n 1, 1) := by decide +kernel
theorem dX0_worldThatComes_26 : decode cX0_worldThatComes 26 = .ok (.getfield 15, 3) := by decide +kernel
theorem dX0_worldThatComes_29 : decode cX0_worldThatComes 29 = .ok (.iconst 1, 1) := by decide +kernel
theorem dX0_worldThatComes_30 : decode cX0_worldThatComes 30 = .ok (.isub, 1) := by decide +kernel
theorem dX0_worldThatComes_31 : decode cX0_worldThatComes 31 = .ok (.istore 4, 2) := by decide +kernel
theorem dX0_worldThatComes_33 : decode cX0_worldThatComes 33 = .ok (.iload 4, 2) := by decide +kernel
theorem dX0_worldThatComes_35 : decode cX0_worldThatComes 35 = .ok (.ifCond .lt 135, 3) := by decide +kernel
theorem dX0_worldThatComes_38 : decode cX0_worldThatComes 38 = .ok (.iload 4, 2) := by decide +kernel
theorem dX0_worldThatComes_40 : decode cX0_worldThatComes 40 = .ok (.iconst 1, 1) := by decide +kernel
theorem dX0_worldThatComes_41 : decode cX0_worldThatComes 41 = .ok (.iand, 1) := by decide +kernel
theorem dX0_worldThatComes_42 : decode cX0_worldThatComes 42 = .ok (.iload_n 3, 1) := by decide +kernel
theorem dX0_worldThatComes_43 : decode cX0_worldThatComes 43 = .ok (.if_icmp .ne 7, 3) := by decide +kernel
theorem dX0_worldThatComes_46 : decode cX0_worldThatComes 46 = .ok (.iconst 1, 1) := by decide +kernel
theorem dX0_worldThatComes_47 : decode cX0_worldThatComes 47 = .ok (.goto 4, 3) := by decide +kernel
theorem dX0_worldThatComes_50 : decode cX0_worldThatComes 50 = .ok (.iconst 0, 1) := by decide +kernel
theorem dX0_worldThatComes_51 : decode cX0_worldThatComes 51 = .ok (.istore 5, 2) := by decide +kernel
theorem dX0_worldThatComes_53 : decode cX0_worldThatComes 53 = .ok (.iconst 0, 1) := by decide +kernel
theorem dX0_worldThatComes_54 : decode cX0_worldThatComes 54 = .ok (.istore 6, 2) := by decide +kernel
theorem dX0_worldThatComes_56 : decode cX0_worldThatComes 56 = .ok (.iload 6, 2) := by decide +kernel
theorem dX0_worldThatComes_58 : decode cX0_worldThatComes 58 = .ok (.iconst 1, 1) := by decide +kernel
theorem dX0_worldThatComes_59 : decode cX0_worldThatComes 59 = .ok (.iload 4, 2) := by decide +kernel
theorem dX0_worldThatComes_61 : decode cX0_worldThatComes 61 = .ok (.ishl, 1) := by decide +kernel
theorem dX0_worldThatComes_62 : decode cX0_worldThatComes 62 = .ok (.if_icmp .ge 102, 3) := by decide +kernel
theorem dX0_worldThatComes_65 : decode cX0_worldThatComes 65 = .ok (.aload_n 0, 1) := by decide +kernel
theorem dX0_worldThatComes_66 : decode cX0_worldThatComes 66 = .ok (.getfield 9, 3) := by decide +kernel
theorem dX0_worldThatComes_69 : decode cX0_worldThatComes 69 = .ok (.iload 6, 2) := by decide +kernel
theorem dX0_worldThatComes_71 : decode cX0_worldThatComes 71 = .ok (.iaload, 1) := by decide +kernel
theorem dX0_worldThatComes_72 : decode cX0_worldThatComes 72 = .ok (.istore 7, 2) := by decide +kernel
theorem dX0_worldThatComes_74 : decode cX0_worldThatComes 74 = .ok (.aload_n 0, 1) := by decide +kernel
theorem dX0_worldThatComes_75 : decode cX0_worldThatComes 75 = .ok (.getfield 9, 3) := by decide +kernel
theorem dX0_worldThatComes_78 : decode cX0_worldThatComes 78 = .ok (.iload 6, 2) := by decide +kernel
theorem dX0_worldThatComes_80 : decode cX0_worldThatComes 80 = .ok (.iconst 1, 1) := by decide +kernel
theorem dX0_worldThatComes_81 : decode cX0_worldThatComes 81 = .ok (.iload 4, 2) := by decide +kernel
theorem dX0_worldThatComes_83 : decode cX0_worldThatComes 83 = .ok (.ishl, 1) := by decide +kernel
theorem dX0_worldThatComes_84 : decode cX0_worldThatComes 84 = .ok (.ior, 1) := by decide +kernel
theorem dX0_worldThatComes_85 : decode cX0_worldThatComes 85 = .ok (.iaload, 1) := by decide +kernel
theorem dX0_worldThatComes_86 : decode cX0_worldThatComes 86 = .ok (.istore 8, 2) := by decide +kernel
theorem dX0_worldThatComes_88 : decode cX0_worldThatComes 88 = .ok (.aload_n 1, 1) := by decide +kernel
theorem dX0_worldThatComes_89 : decode cX0_worldThatComes 89 = .ok (.getfield 21, 3) := by decide +kernel
theorem dX0_worldThatComes_92 : decode cX0_worldThatComes 92 = .ok (.iload_n 2, 1) := by decide +kernel
theorem dX0_worldThatComes_93 : decode cX0_worldThatComes 93 = .ok (.iaload, 1) := by decide +kernel
theorem dX0_worldThatComes_94 : decode cX0_worldThatComes 94 = .ok (.iload 7, 2) := by decide +kernel
theorem dX0_worldThatComes_96 : decode cX0_worldThatComes 96 = .ok (.ishr, 1) := by decide +kernel
theorem dX0_worldThatComes_97 : decode cX0_worldThatComes 97 = .ok (.iconst 1, 1) := by decide +kernel
theorem dX0_worldThatComes_98 : decode cX0_worldThatComes 98 = .ok (.iand, 1) := by decide +kernel
theorem dX0_worldThatComes_99 : decode cX0_worldThatComes 99 = .ok (.iload 5, 2) := by decide +kernel
theorem dX0_worldThatComes_101 : decode cX0_worldThatComes 101 = .ok (.if_icmp .ne 7, 3) := by decide +kernel
theorem dX0_worldThatComes_104 : decode cX0_worldThatComes 104 = .ok (.iconst 1, 1) := by decide +kernel
theorem dX0_worldThatComes_105 : decode cX0_worldThatComes 105 = .ok (.goto 4, 3) := by decide +kernel
theorem dX0_worldThatComes_108 : decode cX0_worldThatComes 108 = .ok (.iconst 0, 1) := by decide +kernel
theorem dX0_worldThatComes_109 : decode cX0_worldThatComes 109 = .ok (.istore 9, 2) := by decide +kernel
theorem dX0_worldThatComes_111 : decode cX0_worldThatComes 111 = .ok (.aload_n 1, 1) := by decide +kernel
theorem dX0_worldThatComes_112 : decode cX0_worldThatComes 112 = .ok (.getfield 21, 3) := by decide +kernel
theorem dX0_worldThatComes_115 : decode cX0_worldThatComes 115 = .ok (.iload_n 2, 1) := by decide +kernel
theorem dX0_worldThatComes_116 : decode cX0_worldThatComes 116 = .ok (.iaload, 1) := by decide +kernel
theorem dX0_worldThatComes_117 : decode cX0_worldThatComes 117 = .ok (.iload 8, 2) := by decide +kernel
theorem dX0_worldThatComes_119 : decode cX0_worldThatComes 119 = .ok (.ishr, 1) := by decide +kernel
theorem dX0_worldThatComes_120 : decode cX0_worldThatComes 120 = .ok (.iconst 1, 1) := by decide +kernel
theorem dX0_worldThatComes_121 : decode cX0_worldThatComes 121 = .ok (.iand, 1) := by decide +kernel
theorem dX0_worldThatComes_122 : decode cX0_worldThatComes 122 = .ok (.iload 5, 2) := by decide +kernel
theorem dX0_worldThatComes_124 : decode cX0_worldThatComes 124 = .ok (.if_icmp .ne 7, 3) := by decide +kernel
theorem dX0_worldThatComes_127 : decode cX0_worldThatComes 127 = .ok (.iconst 1, 1) := by decide +kernel
theorem dX0_worldThatComes_128 : decode cX0_worldThatComes 128 = .ok (.goto 4, 3) := by decide +kernel
theorem dX0_worldThatComes_131 : decode cX0_worldThatComes 131 = .ok (.iconst 0, 1) := by decide +kernel
theorem dX0_worldThatComes_132 : decode cX0_worldThatComes 132 = .ok (.istore 10, 2) := by decide +kernel
theorem dX0_worldThatComes_134 : decode cX0_worldThatComes 134 = .ok (.aload_n 0, 1) := by decide +kernel
theorem dX0_worldThatComes_135 : decode cX0_worldThatComes 135 = .ok (.getfield 9, 3) := by decide +kernel
theorem dX0_worldThatComes_138 : decode cX0_worldThatComes 138 = .ok (.iload 6, 2) := by decide +kernel
theorem dX0_worldThatComes_140 : decode cX0_worldThatComes 140 = .ok (.iload 9, 2) := by decide +kernel
theorem dX0_worldThatComes_142 : decode cX0_worldThatComes 142 = .ok (.ifCond .ne 13, 3) := by decide +kernel
theorem dX0_worldThatComes_145 : decode cX0_worldThatComes 145 = .ok (.iload 10, 2) := by decide +kernel
theorem dX0_worldThatComes_147 : decode cX0_worldThatComes 147 = .ok (.ifCond .eq 8, 3) := by decide +kernel
theorem dX0_worldThatComes_150 : decode cX0_worldThatComes 150 = .ok (.iload 8, 2) := by decide +kernel
theorem dX0_worldThatComes_152 : decode cX0_worldThatComes 152 = .ok (.goto 5, 3) := by decide +kernel
theorem dX0_worldThatComes_155 : decode cX0_worldThatComes 155 = .ok (.iload 7, 2) := by decide +kernel
theorem dX0_worldThatComes_157 : decode cX0_worldThatComes 157 = .ok (.iastore, 1) := by decide +kernel
theorem dX0_worldThatComes_158 : decode cX0_worldThatComes 158 = .ok (.iinc 6 1, 3) := by decide +kernel
theorem dX0_worldThatComes_161 : decode cX0_worldThatComes 161 = .ok (.goto (-105), 3) := by decide +kernel
theorem dX0_worldThatComes_164 : decode cX0_worldThatComes 164 = .ok (.iinc 4 (-1), 3) := by decide +kernel
theorem dX0_worldThatComes_167 : decode cX0_worldThatComes 167 = .ok (.goto (-134), 3) := by decide +kernel
theorem dX0_worldThatComes_170 : decode cX0_worldThatComes 170 = .ok (.aload_n 0, 1) := by decide +kernel
theorem dX0_worldThatComes_171 : decode cX0_worldThatComes 171 = .ok (.getfield 9, 3) := by decide +kernel
theorem dX0_worldThatComes_174 : decode cX0_worldThatComes 174 = .ok (.iconst 0, 1) := by decide +kernel
theorem dX0_worldThatComes_175 : decode cX0_worldThatComes 175 = .ok (.iaload, 1) := by decide +kernel
theorem dX0_worldThatComes_176 : decode cX0_worldThatComes 176 = .ok (.ireturn, 1) := by decide +kernel
set_option maxRecDepth 4000 in
theorem kX0_worldThatComes (G : GT) {σ : St} {t : Nat} {a2 : Int32} {a3 : Int32} (ht : isTab t) : ∀ (r : Int32) (σo : St) , fX0_worldThatComes σ t a2 a3 = some (r, σo) → MCt G 1 yX0_worldThatComes cX0_worldThatComes 11 (some .int) [.ref (gad G 60), .ref (gad G t), .int a2, .int a3] σ (some (.int r)) σo := by
  intro r σo hF
  refine met_i (by decide) (Nat.le_of_ble_eq_true rfl) (fun X cx hE => ?_)
  have cx : Cx G X RX0 cX0_worldThatComes 11 1 := cx
  have hb155 : ∀ (kr33 : St → Int32 → Int32 → Int32 → Option (Int32 × St)), (∀ (σ : St) (x2 : Int32) (x3 : Int32) (x4 : Int32) , kr33 σ x2 x3 x4 = some (r, σo) → WW G X 11 σ [(0, .ref (gad G 60)), (1, .ref (gad G t)), (2, .int x2), (3, .int x3), (4, .int x4)] 33 []) → ∀ (kr56 : St → Int32 → Int32 → Int32 → Int32 → Int32 → Option (Int32 × St)), (∀ (σ : St) (x2 : Int32) (x3 : Int32) (x4 : Int32) (x5 : Int32) (x6 : Int32) , kr56 σ x2 x3 x4 x5 x6 = some (r, σo) → WW G X 11 σ [(0, .ref (gad G 60)), (1, .ref (gad G t)), (2, .int x2), (3, .int x3), (4, .int x4), (5, .int x5), (6, .int x6)] 56 []) → ∀ (σ : St) (x2 : Int32) (x3 : Int32) (x4 : Int32) (x5 : Int32) (x6 : Int32) (x7 : Int32) (y1 : Int32) , fX0_worldThatComes_b155 t kr33 kr56 σ x2 x3 x4 x5 x6 x7 y1 = some (r, σo) → WW G X 11 σ [(0, .ref (gad G 60)), (1, .ref (gad G t)), (2, .int x2), (3, .int x3), (4, .int x4), (5, .int x5), (6, .int x6), (7, .int x7)] 155 [.int y1, .ref (gad G 61)] := by
    intro kr33 hk33 kr56 hk56
    intro σ x2 x3 x4 x5 x6 x7 y1 hF
    unfold fX0_worldThatComes_b155 at hF
    refine ww_iload cx dX0_worldThatComes_155 7 rfl ?_
    refine ww_iast (N := 16) cx (sh_61) dX0_worldThatComes_157 hF (fun σ1 hF => ?_)
    refine ww_iinc (j := 6) (ks := [0, 1, 2, 3, 4, 5, 6]) (lv' := fun v2 => [(6, .int v2), (0, .ref (gad G 60)), (1, .ref (gad G t)), (2, .int x2), (3, .int x3), (4, .int x4), (5, .int x5)]) cx dX0_worldThatComes_158 (by decide) rfl ic_1 hF (fun _ => rfl) (fun v2 hF => ?_)
    refine ww_goto cx dX0_worldThatComes_161 (tgt := 56) rfl ?_
    exact ww_sub [1, 2, 3, 4, 5, 6, 0] rfl (hk56 _ _ _ _ _ _ hF)
  have hb132 : ∀ (kr33 : St → Int32 → Int32 → Int32 → Option (Int32 × St)), (∀ (σ : St) (x2 : Int32) (x3 : Int32) (x4 : Int32) , kr33 σ x2 x3 x4 = some (r, σo) → WW G X 11 σ [(0, .ref (gad G 60)), (1, .ref (gad G t)), (2, .int x2), (3, .int x3), (4, .int x4)] 33 []) → ∀ (kr56 : St → Int32 → Int32 → Int32 → Int32 → Int32 → Option (Int32 × St)), (∀ (σ : St) (x2 : Int32) (x3 : Int32) (x4 : Int32) (x5 : Int32) (x6 : Int32) , kr56 σ x2 x3 x4 x5 x6 = some (r, σo) → WW G X 11 σ [(0, .ref (gad G 60)), (1, .ref (gad G t)), (2, .int x2), (3, .int x3), (4, .int x4), (5, .int x5), (6, .int x6)] 56 []) → ∀ (σ : St) (x2 : Int32) (x3 : Int32) (x4 : Int32) (x5 : Int32) (x6 : Int32) (x7 : Int32) (x8 : Int32) (x9 : Int32) (y0 : Int32) , fX0_worldThatComes_b132 t kr33 kr56 σ x2 x3 x4 x5 x6 x7 x8 x9 y0 = some (r, σo) → WW G X 11 σ [(0, .ref (gad G 60)), (1, .ref (gad G t)), (2, .int x2), (3, .int x3), (4, .int x4), (5, .int x5), (6, .int x6), (7, .int x7), (8, .int x8), (9, .int x9)] 132 [.int y0] := by
    intro kr33 hk33 kr56 hk56
    intro σ x2 x3 x4 x5 x6 x7 x8 x9 y0 hF
    unfold fX0_worldThatComes_b132 at hF
    refine ww_istore (ks := [0, 1, 2, 3, 4, 5, 6, 7, 8, 9, 10]) (lv' := fun v3 => [(10, .int v3), (0, .ref (gad G 60)), (1, .ref (gad G t)), (2, .int x2), (3, .int x3), (4, .int x4), (5, .int x5), (6, .int x6), (7, .int x7), (8, .int x8), (9, .int x9)]) cx dX0_worldThatComes_132 (by decide) hF (fun _ => rfl) (fun v3 hF => ?_)
    refine ww_aload_n cx dX0_worldThatComes_134 rfl 1 rfl ?_
    refine gf_X0_9 cx dX0_worldThatComes_135 ?_
    refine ww_iload cx dX0_worldThatComes_138 7 rfl ?_
    refine ww_iload cx dX0_worldThatComes_140 10 rfl ?_
    refine ww_if_ne cx dX0_worldThatComes_142 (tgt := 155) rfl hF (fun hF => ?_) (fun hF => ?_)
    · exact ww_sub [1, 2, 3, 4, 5, 6, 7, 8] rfl (hb155 _ hk33 _ hk56 _ _ _ _ _ _ _ _ hF)
    · refine ww_iload cx dX0_worldThatComes_145 0 rfl ?_
      refine ww_if_eq cx dX0_worldThatComes_147 (tgt := 155) rfl hF (fun hF => ?_) (fun hF => ?_)
      · exact ww_sub [1, 2, 3, 4, 5, 6, 7, 8] rfl (hb155 _ hk33 _ hk56 _ _ _ _ _ _ _ _ hF)
      · refine ww_iload cx dX0_worldThatComes_150 9 rfl ?_
        refine ww_goto cx dX0_worldThatComes_152 (tgt := 157) rfl ?_
        refine ww_iast (N := 16) cx (sh_61) dX0_worldThatComes_157 hF (fun σ4 hF => ?_)
        refine ww_iinc (j := 7) (ks := [0, 2, 3, 4, 5, 6, 7]) (lv' := fun v5 => [(6, .int v5), (0, .ref (gad G 60)), (1, .ref (gad G t)), (2, .int x2), (3, .int x3), (4, .int x4), (5, .int x5)]) cx dX0_worldThatComes_158 (by decide) rfl ic_1 hF (fun _ => rfl) (fun v5 hF => ?_)
        refine ww_goto cx dX0_worldThatComes_161 (tgt := 56) rfl ?_
        exact ww_sub [1, 2, 3, 4, 5, 6, 0] rfl (hk56 _ _ _ _ _ _ hF)
  have hb109 : ∀ (kr33 : St → Int32 → Int32 → Int32 → Option (Int32 × St)), (∀ (σ : St) (x2 : Int32) (x3 : Int32) (x4 : Int32) , kr33 σ x2 x3 x4 = some (r, σo) → WW G X 11 σ [(0, .ref (gad G 60)), (1, .ref (gad G t)), (2, .int x2), (3, .int x3), (4, .int x4)] 33 []) → ∀ (kr56 : St → Int32 → Int32 → Int32 → Int32 → Int32 → Option (Int32 × St)), (∀ (σ : St) (x2 : Int32) (x3 : Int32) (x4 : Int32) (x5 : Int32) (x6 : Int32) , kr56 σ x2 x3 x4 x5 x6 = some (r, σo) → WW G X 11 σ [(0, .ref (gad G 60)), (1, .ref (gad G t)), (2, .int x2), (3, .int x3), (4, .int x4), (5, .int x5), (6, .int x6)] 56 []) → ∀ (σ : St) (x2 : Int32) (x3 : Int32) (x4 : Int32) (x5 : Int32) (x6 : Int32) (x7 : Int32) (x8 : Int32) (y0 : Int32) , fX0_worldThatComes_b109 t kr33 kr56 σ x2 x3 x4 x5 x6 x7 x8 y0 = some (r, σo) → WW G X 11 σ [(0, .ref (gad G 60)), (1, .ref (gad G t)), (2, .int x2), (3, .int x3), (4, .int x4), (5, .int x5), (6, .int x6), (7, .int x7), (8, .int x8)] 109 [.int y0] := by
    intro kr33 hk33 kr56 hk56
    intro σ x2 x3 x4 x5 x6 x7 x8 y0 hF
    unfold fX0_worldThatComes_b109 at hF
    refine ww_istore (ks := [0, 1, 2, 3, 4, 5, 6, 7, 8, 9]) (lv' := fun v6 => [(9, .int v6), (0, .ref (gad G 60)), (1, .ref (gad G t)), (2, .int x2), (3, .int x3), (4, .int x4), (5, .int x5), (6, .int x6), (7, .int x7), (8, .int x8)]) cx dX0_worldThatComes_109 (by decide) hF (fun _ => rfl) (fun v6 hF => ?_)
    refine ww_aload_n cx dX0_worldThatComes_111 rfl 2 rfl ?_
    refine gf_X0_21 cx (ht) dX0_worldThatComes_112 ?_
    refine ww_iload_n cx dX0_worldThatComes_115 rfl 3 rfl ?_
    refine ww_iald (N := 12) cx (ar_X6_9 ht) dX0_worldThatComes_116 hF (fun hF => ?_)
    refine ww_iload cx dX0_worldThatComes_117 9 rfl ?_
    refine ww_ishr cx dX0_worldThatComes_119 ?_
    refine ww_iconst cx dX0_worldThatComes_120 ic_1 ?_
    refine ww_iand cx dX0_worldThatComes_121 ?_
    refine ww_iload cx dX0_worldThatComes_122 6 rfl ?_
    refine ww_icmp_ne cx dX0_worldThatComes_124 (tgt := 131) rfl hF (fun hF => ?_) (fun hF => ?_)
    · refine ww_iconst cx dX0_worldThatComes_131 ic_0 ?_
      exact ww_sub [1, 2, 3, 4, 5, 6, 7, 8, 9, 0] rfl (hb132 _ hk33 _ hk56 _ _ _ _ _ _ _ _ _ _ hF)
    · refine ww_iconst cx dX0_worldThatComes_127 ic_1 ?_
      refine ww_goto cx dX0_worldThatComes_128 (tgt := 132) rfl ?_
      exact ww_sub [1, 2, 3, 4, 5, 6, 7, 8, 9, 0] rfl (hb132 _ hk33 _ hk56 _ _ _ _ _ _ _ _ _ _ hF)
  have hl56 : ∀ (kr33 : St → Int32 → Int32 → Int32 → Option (Int32 × St)), (∀ (σ : St) (x2 : Int32) (x3 : Int32) (x4 : Int32) , kr33 σ x2 x3 x4 = some (r, σo) → WW G X 11 σ [(0, .ref (gad G 60)), (1, .ref (gad G t)), (2, .int x2), (3, .int x3), (4, .int x4)] 33 []) → ∀ n : Nat, ∀ (σ : St) (x2 : Int32) (x3 : Int32) (x4 : Int32) (x5 : Int32) (x6 : Int32) , fX0_worldThatComes_l56 t kr33 n σ x2 x3 x4 x5 x6 = some (r, σo) → WW G X 11 σ [(0, .ref (gad G 60)), (1, .ref (gad G t)), (2, .int x2), (3, .int x3), (4, .int x4), (5, .int x5), (6, .int x6)] 56 [] := by
    intro kr33 hk33
    intro n
    induction n with
    | zero =>
      intro σ x2 x3 x4 x5 x6 hF
      exact absurd hF (by intro z; cases z)
    | succ n ih =>
      intro σ x2 x3 x4 x5 x6 hF
      have hk56 := ih
      have hF : fX0_worldThatComes_B56 t kr33 (fX0_worldThatComes_l56 t kr33 n) σ x2 x3 x4 x5 x6 = some (r, σo) := hF
      unfold fX0_worldThatComes_B56 at hF
      refine ww_iload cx dX0_worldThatComes_56 6 rfl ?_
      refine ww_iconst cx dX0_worldThatComes_58 ic_1 ?_
      refine ww_iload cx dX0_worldThatComes_59 4 rfl ?_
      refine ww_ishl cx dX0_worldThatComes_61 ?_
      refine ww_icmp_ge cx dX0_worldThatComes_62 (tgt := 164) rfl hF (fun hF => ?_) (fun hF => ?_)
      · refine ww_iinc (j := 4) (ks := [0, 1, 2, 3, 4]) (lv' := fun v7 => [(4, .int v7), (0, .ref (gad G 60)), (1, .ref (gad G t)), (2, .int x2), (3, .int x3)]) cx dX0_worldThatComes_164 (by decide) rfl ic_m1 hF (fun _ => rfl) (fun v7 hF => ?_)
        refine ww_goto cx dX0_worldThatComes_167 (tgt := 33) rfl ?_
        exact ww_sub [1, 2, 3, 4, 0] rfl (hk33 _ _ _ _ hF)
      · refine ww_aload_n cx dX0_worldThatComes_65 rfl 0 rfl ?_
        refine gf_X0_9 cx dX0_worldThatComes_66 ?_
        refine ww_iload cx dX0_worldThatComes_69 6 rfl ?_
        refine ww_iald (N := 16) cx (sh_61) dX0_worldThatComes_71 hF (fun hF => ?_)
        refine ww_istore (ks := [0, 1, 2, 3, 4, 5, 6, 7]) (lv' := fun v8 => [(7, .int v8), (0, .ref (gad G 60)), (1, .ref (gad G t)), (2, .int x2), (3, .int x3), (4, .int x4), (5, .int x5), (6, .int x6)]) cx dX0_worldThatComes_72 (by decide) hF (fun _ => rfl) (fun v8 hF => ?_)
        refine ww_aload_n cx dX0_worldThatComes_74 rfl 1 rfl ?_
        refine gf_X0_9 cx dX0_worldThatComes_75 ?_
        refine ww_iload cx dX0_worldThatComes_78 7 rfl ?_
        refine ww_iconst cx dX0_worldThatComes_80 ic_1 ?_
        refine ww_iload cx dX0_worldThatComes_81 5 rfl ?_
        refine ww_ishl cx dX0_worldThatComes_83 ?_
        refine ww_ior cx dX0_worldThatComes_84 ?_
        refine ww_iald (N := 16) cx (sh_61) dX0_worldThatComes_85 hF (fun hF => ?_)
        refine ww_istore (ks := [0, 1, 2, 3, 4, 5, 6, 7, 8]) (lv' := fun v9 => [(8, .int v9), (7, .int v8), (0, .ref (gad G 60)), (1, .ref (gad G t)), (2, .int x2), (3, .int x3), (4, .int x4), (5, .int x5), (6, .int x6)]) cx dX0_worldThatComes_86 (by decide) hF (fun _ => rfl) (fun v9 hF => ?_)
        refine ww_aload_n cx dX0_worldThatComes_88 rfl 3 rfl ?_
        refine gf_X0_21 cx (ht) dX0_worldThatComes_89 ?_
        refine ww_iload_n cx dX0_worldThatComes_92 rfl 4 rfl ?_
        refine ww_iald (N := 12) cx (ar_X6_9 ht) dX0_worldThatComes_93 hF (fun hF => ?_)
        refine ww_iload cx dX0_worldThatComes_94 1 rfl ?_
        refine ww_ishr cx dX0_worldThatComes_96 ?_
        refine ww_iconst cx dX0_worldThatComes_97 ic_1 ?_
        refine ww_iand cx dX0_worldThatComes_98 ?_
        refine ww_iload cx dX0_worldThatComes_99 7 rfl ?_
        refine ww_icmp_ne cx dX0_worldThatComes_101 (tgt := 108) rfl hF (fun hF => ?_) (fun hF => ?_)
        · refine ww_iconst cx dX0_worldThatComes_108 ic_0 ?_
          exact ww_sub [2, 3, 4, 5, 6, 7, 8, 1, 0] rfl (hb109 _ hk33 _ hk56 _ _ _ _ _ _ _ _ _ hF)
        · refine ww_iconst cx dX0_worldThatComes_104 ic_1 ?_
          refine ww_goto cx dX0_worldThatComes_105 (tgt := 109) rfl ?_
          exact ww_sub [2, 3, 4, 5, 6, 7, 8, 1, 0] rfl (hb109 _ hk33 _ hk56 _ _ _ _ _ _ _ _ _ hF)
  have hb51 : ∀ (kr33 : St → Int32 → Int32 → Int32 → Option (Int32 × St)), (∀ (σ : St) (x2 : Int32) (x3 : Int32) (x4 : Int32) , kr33 σ x2 x3 x4 = some (r, σo) → WW G X 11 σ [(0, .ref (gad G 60)), (1, .ref (gad G t)), (2, .int x2), (3, .int x3), (4, .int x4)] 33 []) → ∀ (σ : St) (x2 : Int32) (x3 : Int32) (x4 : Int32) (y0 : Int32) , fX0_worldThatComes_b51 t kr33 σ x2 x3 x4 y0 = some (r, σo) → WW G X 11 σ [(0, .ref (gad G 60)), (1, .ref (gad G t)), (2, .int x2), (3, .int x3), (4, .int x4)] 51 [.int y0] := by
    intro kr33 hk33
    intro σ x2 x3 x4 y0 hF
    unfold fX0_worldThatComes_b51 at hF
    refine ww_istore (ks := [0, 1, 2, 3, 4, 5]) (lv' := fun v10 => [(5, .int v10), (0, .ref (gad G 60)), (1, .ref (gad G t)), (2, .int x2), (3, .int x3), (4, .int x4)]) cx dX0_worldThatComes_51 (by decide) hF (fun _ => rfl) (fun v10 hF => ?_)
    refine ww_iconst cx dX0_worldThatComes_53 ic_0 ?_
    refine ww_istore (ks := [0, 1, 2, 3, 4, 5, 6]) (lv' := fun v11 => [(6, .int v11), (5, .int v10), (0, .ref (gad G 60)), (1, .ref (gad G t)), (2, .int x2), (3, .int x3), (4, .int x4)]) cx dX0_worldThatComes_54 (by decide) hF (fun _ => rfl) (fun v11 hF => ?_)
    exact ww_sub [2, 3, 4, 5, 6, 1, 0] rfl (hl56 _ hk33 FU _ _ _ _ _ _ hF)
  have hl33 : ∀ n : Nat, ∀ (σ : St) (x2 : Int32) (x3 : Int32) (x4 : Int32) , fX0_worldThatComes_l33 t n σ x2 x3 x4 = some (r, σo) → WW G X 11 σ [(0, .ref (gad G 60)), (1, .ref (gad G t)), (2, .int x2), (3, .int x3), (4, .int x4)] 33 [] := by
    intro n
    induction n with
    | zero =>
      intro σ x2 x3 x4 hF
      exact absurd hF (by intro z; cases z)
    | succ n ih =>
      intro σ x2 x3 x4 hF
      have hk33 := ih
      have hF : fX0_worldThatComes_B33 t (fX0_worldThatComes_l33 t n) σ x2 x3 x4 = some (r, σo) := hF
      unfold fX0_worldThatComes_B33 at hF
      refine ww_iload cx dX0_worldThatComes_33 4 rfl ?_
      refine ww_if_lt cx dX0_worldThatComes_35 (tgt := 170) rfl hF (fun hF => ?_) (fun hF => ?_)
      · refine ww_aload_n cx dX0_worldThatComes_170 rfl 0 rfl ?_
        refine gf_X0_9 cx dX0_worldThatComes_171 ?_
        refine ww_iconst cx dX0_worldThatComes_174 ic_0 ?_
        refine ww_iald (N := 16) cx (sh_61) dX0_worldThatComes_175 hF (fun hF => ?_)
        exact ww_ris hE dX0_worldThatComes_176 hF
      · refine ww_iload cx dX0_worldThatComes_38 4 rfl ?_
        refine ww_iconst cx dX0_worldThatComes_40 ic_1 ?_
        refine ww_iand cx dX0_worldThatComes_41 ?_
        refine ww_iload_n cx dX0_worldThatComes_42 rfl 3 rfl ?_
        refine ww_icmp_ne cx dX0_worldThatComes_43 (tgt := 50) rfl hF (fun hF => ?_) (fun hF => ?_)
        · refine ww_iconst cx dX0_worldThatComes_50 ic_0 ?_
          exact hb51 _ hk33 _ _ _ _ _ hF
        · refine ww_iconst cx dX0_worldThatComes_46 ic_1 ?_
          refine ww_goto cx dX0_worldThatComes_47 (tgt := 51) rfl ?_
          exact hb51 _ hk33 _ _ _ _ _ hF
  have hl3 : ∀ n : Nat, ∀ (σ : St) (x2 : Int32) (x3 : Int32) (x4 : Int32) , fX0_worldThatComes_l3 t n σ x2 x3 x4 = some (r, σo) → WW G X 11 σ [(0, .ref (gad G 60)), (1, .ref (gad G t)), (2, .int x2), (3, .int x3), (4, .int x4)] 3 [] := by
    intro n
    induction n with
    | zero =>
      intro σ x2 x3 x4 hF
      exact absurd hF (by intro z; cases z)
    | succ n ih =>
      intro σ x2 x3 x4 hF
      have hk3 := ih
      have hF : fX0_worldThatComes_B3 t (fX0_worldThatComes_l3 t n) σ x2 x3 x4 = some (r, σo) := hF
      unfold fX0_worldThatComes_B3 at hF
      refine ww_iload cx dX0_worldThatComes_3 4 rfl ?_
      refine ww_bipush cx dX0_worldThatComes_5 bc_16 ?_
      refine ww_icmp_ge cx dX0_worldThatComes_7 (tgt := 25) rfl hF (fun hF => ?_) (fun hF => ?_)
      · refine ww_aload_n cx dX0_worldThatComes_25 rfl 1 rfl ?_
        refine gf_X0_15 cx (ht) dX0_worldThatComes_26 ?_
        refine ww_iconst cx dX0_worldThatComes_29 ic_1 ?_
        refine ww_isub cx dX0_worldThatComes_30 ?_
        refine ww_istore (ks := [0, 1, 2, 3, 4]) (lv' := fun v12 => [(4, .int v12), (0, .ref (gad G 60)), (1, .ref (gad G t)), (2, .int x2), (3, .int x3)]) cx dX0_worldThatComes_31 (by decide) hF (fun _ => rfl) (fun v12 hF => ?_)
        exact ww_sub [1, 2, 3, 4, 0] rfl (hl33 FU _ _ _ _ hF)
      · refine ww_aload_n cx dX0_worldThatComes_10 rfl 0 rfl ?_
        refine gf_X0_9 cx dX0_worldThatComes_11 ?_
        refine ww_iload cx dX0_worldThatComes_14 4 rfl ?_
        refine ww_iload cx dX0_worldThatComes_16 4 rfl ?_
        refine ww_iast (N := 16) cx (sh_61) dX0_worldThatComes_18 hF (fun σ13 hF => ?_)
        refine ww_iinc (j := 4) (ks := [0, 1, 2, 3, 4]) (lv' := fun v14 => [(4, .int v14), (0, .ref (gad G 60)), (1, .ref (gad G t)), (2, .int x2), (3, .int x3)]) cx dX0_worldThatComes_19 (by decide) rfl ic_1 hF (fun _ => rfl) (fun v14 hF => ?_)
        refine ww_goto cx dX0_worldThatComes_22 (tgt := 3) rfl ?_
        exact ww_sub [1, 2, 3, 4, 0] rfl (hk3 _ _ _ _ hF)
  unfold fX0_worldThatComes at hF
  show WW G X 11 σ [(0, .ref (gad G 60)), (1, .ref (gad G t)), (2, .int a2), (3, .int a3)] 0 []
  refine ww_iconst cx dX0_worldThatComes_0 ic_0 ?_
  refine ww_istore (ks := [0, 1, 2, 3, 4]) (lv' := fun v15 => [(4, .int v15), (0, .ref (gad G 60)), (1, .ref (gad G t)), (2, .int a2), (3, .int a3)]) cx dX0_worldThatComes_1 (by decide) hF (fun _ => rfl) (fun v15 hF => ?_)
  exact ww_sub [1, 2, 3, 4, 0] rfl (hl3 FU _ _ _ _ hF)
theorem dX1_give_0 : decode cX1_give 0 = .ok (.aload_n 0, 1) := by decide +kernel
theorem dX1_give_1 : decode cX1_give 1 = .ok (.dup, 1) := by decide +kernel
theorem dX1_give_2 : decode cX1_give 2 = .ok (.getfield 48, 3) := by decide +kernel
theorem dX1_give_5 : decode cX1_give 5 = .ok (.iconst 1, 1) := by decide +kernel
theorem dX1_give_6 : decode cX1_give 6 = .ok (.iload_n 1, 1) := by decide +kernel
theorem dX1_give_7 : decode cX1_give 7 = .ok (.ishl, 1) := by decide +kernel
theorem dX1_give_8 : decode cX1_give 8 = .ok (.ior, 1) := by decide +kernel
theorem dX1_give_9 : decode cX1_give 9 = .ok (.putfield 48, 3) := by decide +kernel
theorem dX1_give_12 : decode cX1_give 12 = .ok (.aload_n 0, 1) := by decide +kernel
theorem dX1_give_13 : decode cX1_give 13 = .ok (.getfield 15, 3) := by decide +kernel
theorem dX1_give_16 : decode cX1_give 16 = .ok (.iload_n 1, 1) := by decide +kernel
theorem dX1_give_17 : decode cX1_give 17 = .ok (.dup2, 1) := by decide +kernel
theorem dX1_give_18 : decode cX1_give 18 = .ok (.iaload, 1) := by decide +kernel
theorem dX1_give_19 : decode cX1_give 19 = .ok (.iconst 1, 1) := by decide +kernel
theorem dX1_give_20 : decode cX1_give 20 = .ok (.iload_n 2, 1) := by decide +kernel
theorem dX1_give_21 : decode cX1_give 21 = .ok (.ishl, 1) := by decide +kernel
theorem dX1_give_22 : decode cX1_give 22 = .ok (.ior, 1) := by decide +kernel
theorem dX1_give_23 : decode cX1_give 23 = .ok (.iastore, 1) := by decide +kernel
theorem dX1_give_24 : decode cX1_give 24 = .ok (.aload_n 0, 1) := by decide +kernel
theorem dX1_give_25 : decode cX1_give 25 = .ok (.getfield 9, 3) := by decide +kernel
theorem dX1_give_28 : decode cX1_give 28 = .ok (.iload_n 1, 1) := by decide +kernel
theorem dX1_give_29 : decode cX1_give 29 = .ok (.iaload, 1) := by decide +kernel
theorem dX1_give_30 : decode cX1_give 30 = .ok (.iconst (-1), 1) := by decide +kernel
theorem dX1_give_31 : decode cX1_give 31 = .ok (.if_icmp .eq 13, 3) := by decide +kernel
theorem dX1_give_34 : decode cX1_give 34 = .ok (.iload_n 3, 1) := by decide +kernel
theorem dX1_give_35 : decode cX1_give 35 = .ok (.aload_n 0, 1) := by decide +kernel
theorem dX1_give_36 : decode cX1_give 36 = .ok (.getfield 9, 3) := by decide +kernel
theorem dX1_give_39 : decode cX1_give 39 = .ok (.iload_n 1, 1) := by decide +kernel
theorem dX1_give_40 : decode cX1_give 40 = .ok (.iaload, 1) := by decide +kernel
theorem dX1_give_41 : decode cX1_give 41 = .ok (.if_icmp .ge 10, 3) := by decide +kernel
theorem dX1_give_44 : decode cX1_give 44 = .ok (.aload_n 0, 1) := by decide +kernel
theorem dX1_give_45 : decode cX1_give 45 = .ok (.getfield 9, 3) := by decide +kernel
theorem dX1_give_48 : decode cX1_give 48 = .ok (.iload_n 1, 1) := by decide +kernel
theorem dX1_give_49 : decode cX1_give 49 = .ok (.iload_n 3, 1) := by decide +kernel
theorem dX1_give_50 : decode cX1_give 50 = .ok (.iastore, 1) := by decide +kernel
theorem dX1_give_51 : decode cX1_give 51 = .ok (.return_, 1) := by decide +kernel
set_option maxRecDepth 4000 in
theorem kX1_give (G : GT) {σ : St} {a1 : Int32} {a2 : Int32} {a3 : Int32} : ∀ (σo : St) , fX1_give σ a1 a2 a3 = some σo → MCt G 1 yX1_give cX1_give 4 (none) [.ref (gad G 55), .int a1, .int a2, .int a3] σ (none) σo := by
  intro σo hF
  refine met_v (by decide) (Nat.le_of_ble_eq_true rfl) (fun X cx hE => ?_)
  have cx : Cx G X RX1 cX1_give 4 1 := cx
  have hb44 : ∀ (σ : St) (x1 : Int32) (x3 : Int32) , fX1_give_b44 σ x1 x3 = some σo → WW G X 4 σ [(0, .ref (gad G 55)), (1, .int x1), (3, .int x3)] 44 [] := by
    intro σ x1 x3 hF
    unfold fX1_give_b44 at hF
    refine ww_aload_n cx dX1_give_44 rfl 0 rfl ?_
    refine gf_X1_9 cx dX1_give_45 ?_
    refine ww_iload_n cx dX1_give_48 rfl 1 rfl ?_
    refine ww_iload_n cx dX1_give_49 rfl 2 rfl ?_
    refine ww_iast (N := 12) cx (sh_56) dX1_give_50 hF (fun σ1 hF => ?_)
    exact ww_rvs hE dX1_give_51 hF
  unfold fX1_give at hF
  show WW G X 4 σ [(0, .ref (gad G 55)), (1, .int a1), (2, .int a2), (3, .int a3)] 0 []
  refine ww_aload_n cx dX1_give_0 rfl 0 rfl ?_
  refine ww_dup cx dX1_give_1 rfl ?_
  refine gf_X1_48 cx dX1_give_2 ?_
  refine ww_iconst cx dX1_give_5 ic_1 ?_
  refine ww_iload_n cx dX1_give_6 rfl 1 rfl ?_
  refine ww_ishl cx dX1_give_7 ?_
  refine ww_ior cx dX1_give_8 ?_
  refine pf_X1_48 cx dX1_give_9 hF (fun σ2 hF => ?_)
  refine ww_aload_n cx dX1_give_12 rfl 0 rfl ?_
  refine gf_X1_15 cx dX1_give_13 ?_
  refine ww_iload_n cx dX1_give_16 rfl 1 rfl ?_
  refine ww_dup2 cx dX1_give_17 rfl rfl ?_
  refine ww_iald (N := 12) cx (sh_57) dX1_give_18 hF (fun hF => ?_)
  refine ww_iconst cx dX1_give_19 ic_1 ?_
  refine ww_iload_n cx dX1_give_20 rfl 2 rfl ?_
  refine ww_ishl cx dX1_give_21 ?_
  refine ww_ior cx dX1_give_22 ?_
  refine ww_iast (N := 12) cx (sh_57) dX1_give_23 hF (fun σ3 hF => ?_)
  refine ww_aload_n cx dX1_give_24 rfl 0 rfl ?_
  refine gf_X1_9 cx dX1_give_25 ?_
  refine ww_iload_n cx dX1_give_28 rfl 1 rfl ?_
  refine ww_iald (N := 12) cx (sh_56) dX1_give_29 hF (fun hF => ?_)
  refine ww_iconst cx dX1_give_30 ic_m1 ?_
  refine ww_icmp_eq cx dX1_give_31 (tgt := 44) rfl hF (fun hF => ?_) (fun hF => ?_)
  · exact ww_sub [0, 1, 3] rfl (hb44 _ _ _ hF)
  · refine ww_iload_n cx dX1_give_34 rfl 3 rfl ?_
    refine ww_aload_n cx dX1_give_35 rfl 0 rfl ?_
    refine gf_X1_9 cx dX1_give_36 ?_
    refine ww_iload_n cx dX1_give_39 rfl 1 rfl ?_
    refine ww_iald (N := 12) cx (sh_56) dX1_give_40 hF (fun hF => ?_)
    refine ww_icmp_ge cx dX1_give_41 (tgt := 51) rfl hF (fun hF => ?_) (fun hF => ?_)
    · exact ww_rvs hE dX1_give_51 hF
    · exact ww_sub [0, 1, 3] rfl (hb44 _ _ _ hF)
theorem dX1_open_0 : decode cX1_open 0 = .ok (.aload_n 0, 1) := by decide +kernel
theorem dX1_open_1 : decode cX1_open 1 = .ok (.iconst 0, 1) := by decide +kernel
theorem dX1_open_2 : decode cX1_open 2 = .ok (.putfield 42, 3) := by decide +kernel
theorem dX1_open_5 : decode cX1_open 5 = .ok (.aload_n 0, 1) := by decide +kernel
theorem dX1_open_6 : decode cX1_open 6 = .ok (.iconst 0, 1) := by decide +kernel
theorem dX1_open_7 : decode cX1_open 7 = .ok (.putfield 45, 3) := by decide +kernel
theorem dX1_open_10 : decode cX1_open 10 = .ok (.aload_n 0, 1) := by decide +kernel
theorem dX1_open_11 : decode cX1_open 11 = .ok (.iconst 0, 1) := by decide +kernel
theorem dX1_open_12 : decode cX1_open 12 = .ok (.putfield 48, 3) := by decide +kernel
theorem dX1_open_15 : decode cX1_open 15 = .ok (.iconst 0, 1) := by decide +kernel
theorem dX1_open_16 : decode cX1_open 16 = .ok (.istore_n 2, 1) := by decide +kernel
theorem dX1_open_17 : decode cX1_open 17 = .ok (.iload_n 2, 1) := by decide +kernel
theorem dX1_open_18 : decode cX1_open 18 = .ok (.bipush 12, 2) := by decide +kernel
theorem dX1_open_20 : decode cX1_open 20 = .ok (.if_icmp .ge 39, 3) := by decide +kernel
theorem dX1_open_23 : decode cX1_open 23 = .ok (.aload_n 0, 1) := by decide +kernel
theorem dX1_open_24 : decode cX1_open 24 = .ok (.getfield 9, 3) := by decide +kernel
theorem dX1_open_27 : decode cX1_open 27 = .ok (.iload_n 2, 1) := by decide +kernel
theorem dX1_open_28 : decode cX1_open 28 = .ok (.aload_n 1, 1) := by decide +kernel
theorem dX1_open_29 : decode cX1_open 29 = .ok (.getfield 51, 3) := by decide +kernel
theorem dX1_open_32 : decode cX1_open 32 = .ok (.iload_n 2, 1) := by decide +kernel
theorem dX1_open_33 : decode cX1_open 33 = .ok (.ishr, 1) := by decide +kernel
theorem dX1_open_34 : decode cX1_open 34 = .ok (.iconst 1, 1) := by decide +kernel
theorem dX1_open_35 : decode cX1_open 35 = .ok (.iand, 1) := by decide +kernel
theorem dX1_open_36 : decode cX1_open 36 = .ok (.iconst 1, 1) := by decide +kernel
theorem dX1_open_37 : decode cX1_open 37 = .ok (.if_icmp .ne 7, 3) := by decide +kernel
theorem dX1_open_40 : decode cX1_open 40 = .ok (.iconst 0, 1) := by decide +kernel
theorem dX1_open_41 : decode cX1_open 41 = .ok (.goto 4, 3) := by decide +kernel
theorem dX1_open_44 : decode cX1_open 44 = .ok (.iconst (-1), 1) := by decide +kernel
theorem dX1_open_45 : decode cX1_open 45 = .ok (.iastore, 1) := by decide +kernel
theorem dX1_open_46 : decode cX1_open 46 = .ok (.aload_n 0, 1) := by decide +kernel
theorem dX1_open_47 : decode cX1_open 47 = .ok (.getfield 15, 3) := by decide +kernel
theorem dX1_open_50 : decode cX1_open 50 = .ok (.iload_n 2, 1) := by decide +kernel
theorem dX1_open_51 : decode cX1_open 51 = .ok (.iconst 0, 1) := by decide +kernel
theorem dX1_open_52 : decode cX1_open 52 = .ok (.iastore, 1) := by decide +kernel
theorem dX1_open_53 : decode cX1_open 53 = .ok (.iinc 2 1, 3) := by decide +kernel
theorem dX1_open_56 : decode cX1_open 56 = .ok (.goto (-39), 3) := by decide +kernel
theorem dX1_open_59 : decode cX1_open 59 = .ok (.iconst 0, 1) := by decide +kernel
theorem dX1_open_60 : decode cX1_open 60 = .ok (.istore_n 2, 1) := by decide +kernel
theorem dX1_open_61 : decode cX1_open 61 = .ok (.iload_n 2, 1) := by decide +kernel
theorem dX1_open_62 : decode cX1_open 62 = .ok (.iconst 5, 1) := by decide +kernel
theorem dX1_open_63 : decode cX1_open 63 = .ok (.if_icmp .ge 23, 3) := by decide +kernel
theorem dX1_open_66 : decode cX1_open 66 = .ok (.aload_n 0, 1) := by decide +kernel
theorem dX1_open_67 : decode cX1_open 67 = .ok (.getfield 18, 3) := by decide +kernel
theorem dX1_open_70 : decode cX1_open 70 = .ok (.iload_n 2, 1) := by decide +kernel
theorem dX1_open_71 : decode cX1_open 71 = .ok (.iconst 0, 1) := by decide +kernel
theorem dX1_open_72 : decode cX1_open 72 = .ok (.iastore, 1) := by decide +kernel
theorem dX1_open_73 : decode cX1_open 73 = .ok (.aload_n 0, 1) := by decide +kernel
theorem dX1_open_74 : decode cX1_open 74 = .ok (.getfield 21, 3) := by decide +kernel
theorem dX1_open_77 : decode cX1_open 77 = .ok (.iload_n 2, 1) := by decide +kernel
theorem dX1_open_78 : decode cX1_open 78 = .ok (.iconst 0, 1) := by decide +kernel
theorem dX1_open_79 : decode cX1_open 79 = .ok (.iastore, 1) := by decide +kernel
theorem dX1_open_80 : decode cX1_open 80 = .ok (.iinc 2 1, 3) := by decide +kernel
theorem dX1_open_83 : decode cX1_open 83 = .ok (.goto (-22), 3) := by decide +kernel
theorem dX1_open_86 : decode cX1_open 86 = .ok (.return_, 1) := by decide +kernel
set_option maxRecDepth 4000 in
theorem kX1_open (G : GT) {σ : St} {t : Nat} (ht : isTab t) : ∀ (σo : St) , fX1_open σ t = some σo → MCt G 1 yX1_open cX1_open 3 (none) [.ref (gad G 55), .ref (gad G t)] σ (none) σo := by
  intro σo hF
  refine met_v (by decide) (Nat.le_of_ble_eq_true rfl) (fun X cx hE => ?_)
  have cx : Cx G X RX1 cX1_open 3 1 := cx
  have hl61 : ∀ n : Nat, ∀ (σ : St) (x2 : Int32) , fX1_open_l61 t n σ x2 = some σo → WW G X 3 σ [(0, .ref (gad G 55)), (2, .int x2)] 61 [] := by
    intro n
    induction n with
    | zero =>
      intro σ x2 hF
      exact absurd hF (by intro z; cases z)
    | succ n ih =>
      intro σ x2 hF
      have hk61 := ih
      have hF : fX1_open_B61 t (fX1_open_l61 t n) σ x2 = some σo := hF
      unfold fX1_open_B61 at hF
      refine ww_iload_n cx dX1_open_61 rfl 1 rfl ?_
      refine ww_iconst cx dX1_open_62 ic_5 ?_
      refine ww_icmp_ge cx dX1_open_63 (tgt := 86) rfl hF (fun hF => ?_) (fun hF => ?_)
      · exact ww_rvs hE dX1_open_86 hF
      · refine ww_aload_n cx dX1_open_66 rfl 0 rfl ?_
        refine gf_X1_18 cx dX1_open_67 ?_
        refine ww_iload_n cx dX1_open_70 rfl 1 rfl ?_
        refine ww_iconst cx dX1_open_71 ic_0 ?_
        refine ww_iast (N := 5) cx (sh_58) dX1_open_72 hF (fun σ1 hF => ?_)
        refine ww_aload_n cx dX1_open_73 rfl 0 rfl ?_
        refine gf_X1_21 cx dX1_open_74 ?_
        refine ww_iload_n cx dX1_open_77 rfl 1 rfl ?_
        refine ww_iconst cx dX1_open_78 ic_0 ?_
        refine ww_iast (N := 5) cx (sh_59) dX1_open_79 hF (fun σ2 hF => ?_)
        refine ww_iinc (j := 1) (ks := [0, 1]) (lv' := fun v3 => [(2, .int v3), (0, .ref (gad G 55))]) cx dX1_open_80 (by decide) rfl ic_1 hF (fun _ => rfl) (fun v3 hF => ?_)
        refine ww_goto cx dX1_open_83 (tgt := 61) rfl ?_
        exact ww_sub [1, 0] rfl (hk61 _ _ hF)
  have hb45 : ∀ (kr17 : St → Int32 → Option (St)), (∀ (σ : St) (x2 : Int32) , kr17 σ x2 = some σo → WW G X 3 σ [(0, .ref (gad G 55)), (1, .ref (gad G t)), (2, .int x2)] 17 []) → ∀ (σ : St) (x2 : Int32) (y1 : Int32) (y2 : Int32) , fX1_open_b45 t kr17 σ x2 y1 y2 = some σo → WW G X 3 σ [(0, .ref (gad G 55)), (1, .ref (gad G t)), (2, .int x2)] 45 [.int y2, .int y1, .ref (gad G 56)] := by
    intro kr17 hk17
    intro σ x2 y1 y2 hF
    unfold fX1_open_b45 at hF
    refine ww_iast (N := 12) cx (sh_56) dX1_open_45 hF (fun σ4 hF => ?_)
    refine ww_aload_n cx dX1_open_46 rfl 0 rfl ?_
    refine gf_X1_15 cx dX1_open_47 ?_
    refine ww_iload_n cx dX1_open_50 rfl 2 rfl ?_
    refine ww_iconst cx dX1_open_51 ic_0 ?_
    refine ww_iast (N := 12) cx (sh_57) dX1_open_52 hF (fun σ5 hF => ?_)
    refine ww_iinc (j := 2) (ks := [0, 1, 2]) (lv' := fun v6 => [(2, .int v6), (0, .ref (gad G 55)), (1, .ref (gad G t))]) cx dX1_open_53 (by decide) rfl ic_1 hF (fun _ => rfl) (fun v6 hF => ?_)
    refine ww_goto cx dX1_open_56 (tgt := 17) rfl ?_
    exact ww_sub [1, 2, 0] rfl (hk17 _ _ hF)
  have hl17 : ∀ n : Nat, ∀ (σ : St) (x2 : Int32) , fX1_open_l17 t n σ x2 = some σo → WW G X 3 σ [(0, .ref (gad G 55)), (1, .ref (gad G t)), (2, .int x2)] 17 [] := by
    intro n
    induction n with
    | zero =>
      intro σ x2 hF
      exact absurd hF (by intro z; cases z)
    | succ n ih =>
      intro σ x2 hF
      have hk17 := ih
      have hF : fX1_open_B17 t (fX1_open_l17 t n) σ x2 = some σo := hF
      unfold fX1_open_B17 at hF
      refine ww_iload_n cx dX1_open_17 rfl 2 rfl ?_
      refine ww_bipush cx dX1_open_18 bc_12 ?_
      refine ww_icmp_ge cx dX1_open_20 (tgt := 59) rfl hF (fun hF => ?_) (fun hF => ?_)
      · refine ww_iconst cx dX1_open_59 ic_0 ?_
        refine ww_istore_n (ks := [0, 1]) (lv' := fun v7 => [(2, .int v7), (0, .ref (gad G 55))]) cx dX1_open_60 rfl (by decide) hF (fun _ => rfl) (fun v7 hF => ?_)
        exact ww_sub [1, 0] rfl (hl61 FU _ _ hF)
      · refine ww_aload_n cx dX1_open_23 rfl 0 rfl ?_
        refine gf_X1_9 cx dX1_open_24 ?_
        refine ww_iload_n cx dX1_open_27 rfl 2 rfl ?_
        refine ww_aload_n cx dX1_open_28 rfl 1 rfl ?_
        refine gf_X1_51 cx (ht) dX1_open_29 ?_
        refine ww_iload_n cx dX1_open_32 rfl 2 rfl ?_
        refine ww_ishr cx dX1_open_33 ?_
        refine ww_iconst cx dX1_open_34 ic_1 ?_
        refine ww_iand cx dX1_open_35 ?_
        refine ww_iconst cx dX1_open_36 ic_1 ?_
        refine ww_icmp_ne cx dX1_open_37 (tgt := 44) rfl hF (fun hF => ?_) (fun hF => ?_)
        · refine ww_iconst cx dX1_open_44 ic_m1 ?_
          exact hb45 _ hk17 _ _ _ _ hF
        · refine ww_iconst cx dX1_open_40 ic_0 ?_
          refine ww_goto cx dX1_open_41 (tgt := 45) rfl ?_
          exact hb45 _ hk17 _ _ _ _ hF
  unfold fX1_open at hF
  show WW G X 3 σ [(0, .ref (gad G 55)), (1, .ref (gad G t))] 0 []
  refine ww_aload_n cx dX1_open_0 rfl 0 rfl ?_
  refine ww_iconst cx dX1_open_1 ic_0 ?_
  refine pf_X1_42 cx dX1_open_2 hF (fun σ8 hF => ?_)
  refine ww_aload_n cx dX1_open_5 rfl 0 rfl ?_
  refine ww_iconst cx dX1_open_6 ic_0 ?_
  refine pf_X1_45 cx dX1_open_7 hF (fun σ9 hF => ?_)
  refine ww_aload_n cx dX1_open_10 rfl 0 rfl ?_
  refine ww_iconst cx dX1_open_11 ic_0 ?_
  refine pf_X1_48 cx dX1_open_12 hF (fun σ10 hF => ?_)
  refine ww_iconst cx dX1_open_15 ic_0 ?_
  refine ww_istore_n (ks := [0, 1, 2]) (lv' := fun v11 => [(2, .int v11), (0, .ref (gad G 55)), (1, .ref (gad G t))]) cx dX1_open_16 rfl (by decide) hF (fun _ => rfl) (fun v11 hF => ?_)
  exact ww_sub [1, 2, 0] rfl (hl17 FU _ _ hF)
theorem dX2_append_0 : decode cX2_append 0 = .ok (.bipush 24, 2) := by decide +kernel
theorem dX2_append_2 : decode cX2_append 2 = .ok (.istore_n 2, 1) := by decide +kernel
theorem dX2_append_3 : decode cX2_append 3 = .ok (.iload_n 2, 1) := by decide +kernel
theorem dX2_append_4 : decode cX2_append 4 = .ok (.ifCond .lt 42, 3) := by decide +kernel
theorem dX2_append_7 : decode cX2_append 7 = .ok (.aload_n 0, 1) := by decide +kernel
theorem dX2_append_8 : decode cX2_append 8 = .ok (.getfield 19, 3) := by decide +kernel
theorem dX2_append_11 : decode cX2_append 11 = .ok (.sipush 1600, 3) := by decide +kernel
theorem dX2_append_14 : decode cX2_append 14 = .ok (.if_icmp .ge 32, 3) := by decide +kernel
theorem dX2_append_17 : decode cX2_append 17 = .ok (.aload_n 0, 1) := by decide +kernel
theorem dX2_append_18 : decode cX2_append 18 = .ok (.getfield 9, 3) := by decide +kernel
theorem dX2_append_21 : decode cX2_append 21 = .ok (.aload_n 0, 1) := by decide +kernel
theorem dX2_append_22 : decode cX2_append 22 = .ok (.getfield 19, 3) := by decide +kernel
theorem dX2_append_25 : decode cX2_append 25 = .ok (.iload_n 1, 1) := by decide +kernel
theorem dX2_append_26 : decode cX2_append 26 = .ok (.iload_n 2, 1) := by decide +kernel
theorem dX2_append_27 : decode cX2_append 27 = .ok (.ishr, 1) := by decide +kernel
theorem dX2_append_28 : decode cX2_append 28 = .ok (.i2b, 1) := by decide +kernel
theorem dX2_append_29 : decode cX2_append 29 = .ok (.bastore, 1) := by decide +kernel
theorem dX2_append_30 : decode cX2_append 30 = .ok (.aload_n 0, 1) := by decide +kernel
theorem dX2_append_31 : decode cX2_append 31 = .ok (.dup, 1) := by decide +kernel
theorem dX2_append_32 : decode cX2_append 32 = .ok (.getfield 19, 3) := by decide +kernel
theorem dX2_append_35 : decode cX2_append 35 = .ok (.iconst 1, 1) := by decide +kernel
theorem dX2_append_36 : decode cX2_append 36 = .ok (.iadd, 1) := by decide +kernel
theorem dX2_append_37 : decode cX2_append 37 = .ok (.putfield 19, 3) := by decide +kernel
theorem dX2_append_40 : decode cX2_append 40 = .ok (.iinc 2 (-8), 3) := by decide +kernel
theorem dX2_append_43 : decode cX2_append 43 = .ok (.goto (-40), 3) := by decide +kernel
theorem dX2_append_46 : decode cX2_append 46 = .ok (.return_, 1) := by decide +kernel
set_option maxRecDepth 4000 in
theorem kX2_append (G : GT) {σ : St} {a1 : Int32} : ∀ (σo : St) , fX2_append σ a1 = some σo → MCt G 1 yX2_append cX2_append 3 (none) [.ref (gad G 1), .int a1] σ (none) σo := by
  intro σo hF
  refine met_v (by decide) (Nat.le_of_ble_eq_true rfl) (fun X cx hE => ?_)
  have cx : Cx G X RX2 cX2_append 3 1 := cx
  have hl3 : ∀ n : Nat, ∀ (σ : St) (x1 : Int32) (x2 : Int32) , fX2_append_l3 n σ x1 x2 = some σo → WW G X 3 σ [(0, .ref (gad G 1)), (1, .int x1), (2, .int x2)] 3 [] := by
    intro n
    induction n with
    | zero =>
      intro σ x1 x2 hF
      exact absurd hF (by intro z; cases z)
    | succ n ih =>
      intro σ x1 x2 hF
      have hk3 := ih
      have hF : fX2_append_B3 (fX2_append_l3 n) σ x1 x2 = some σo := hF
      unfold fX2_append_B3 at hF
      refine ww_iload_n cx dX2_append_3 rfl 2 rfl ?_
      refine ww_if_lt cx dX2_append_4 (tgt := 46) rfl hF (fun hF => ?_) (fun hF => ?_)
      · exact ww_rvs hE dX2_append_46 hF
      · refine ww_aload_n cx dX2_append_7 rfl 0 rfl ?_
        refine gf_X2_19 cx dX2_append_8 ?_
        refine ww_sipush cx dX2_append_11 sc_1600 ?_
        refine ww_icmp_ge cx dX2_append_14 (tgt := 46) rfl hF (fun hF => ?_) (fun hF => ?_)
        · exact ww_rvs hE dX2_append_46 hF
        · refine ww_aload_n cx dX2_append_17 rfl 0 rfl ?_
          refine gf_X2_9 cx dX2_append_18 ?_
          refine ww_aload_n cx dX2_append_21 rfl 0 rfl ?_
          refine gf_X2_19 cx dX2_append_22 ?_
          refine ww_iload_n cx dX2_append_25 rfl 1 rfl ?_
          refine ww_iload_n cx dX2_append_26 rfl 2 rfl ?_
          refine ww_ishr cx dX2_append_27 ?_
          refine ww_i2b cx dX2_append_28 ?_
          refine ww_bast (N := 1600) cx (sh_2) dX2_append_29 hF (fun σ1 hF => ?_)
          refine ww_aload_n cx dX2_append_30 rfl 0 rfl ?_
          refine ww_dup cx dX2_append_31 rfl ?_
          refine gf_X2_19 cx dX2_append_32 ?_
          refine ww_iconst cx dX2_append_35 ic_1 ?_
          refine ww_iadd cx dX2_append_36 ?_
          refine pf_X2_19 cx dX2_append_37 hF (fun σ2 hF => ?_)
          refine ww_iinc (j := 2) (ks := [0, 1, 2]) (lv' := fun v3 => [(2, .int v3), (0, .ref (gad G 1)), (1, .int x1)]) cx dX2_append_40 (by decide) rfl ic_m8 hF (fun _ => rfl) (fun v3 hF => ?_)
          refine ww_goto cx dX2_append_43 (tgt := 3) rfl ?_
          exact ww_sub [1, 2, 0] rfl (hk3 _ _ _ hF)
  unfold fX2_append at hF
  show WW G X 3 σ [(0, .ref (gad G 1)), (1, .int a1)] 0 []
  refine ww_bipush cx dX2_append_0 bc_24 ?_
  refine ww_istore_n (ks := [0, 1, 2]) (lv' := fun v4 => [(2, .int v4), (0, .ref (gad G 1)), (1, .int a1)]) cx dX2_append_2 rfl (by decide) hF (fun _ => rfl) (fun v4 hF => ?_)
  exact ww_sub [1, 2, 0] rfl (hl3 FU _ _ _ hF)
theorem dX2_fail_0 : decode cX2_fail 0 = .ok (.aload_n 0, 1) := by decide +kernel
theorem dX2_fail_1 : decode cX2_fail 1 = .ok (.iload_n 1, 1) := by decide +kernel
theorem dX2_fail_2 : decode cX2_fail 2 = .ok (.putfield 27, 3) := by decide +kernel
theorem dX2_fail_5 : decode cX2_fail 5 = .ok (.aload_n 0, 1) := by decide +kernel
theorem dX2_fail_6 : decode cX2_fail 6 = .ok (.aload_n 0, 1) := by decide +kernel
theorem dX2_fail_7 : decode cX2_fail 7 = .ok (.getfield 177, 3) := by decide +kernel
theorem dX2_fail_10 : decode cX2_fail 10 = .ok (.putfield 15, 3) := by decide +kernel
theorem dX2_fail_13 : decode cX2_fail 13 = .ok (.iconst 0, 1) := by decide +kernel
theorem dX2_fail_14 : decode cX2_fail 14 = .ok (.ireturn, 1) := by decide +kernel
set_option maxRecDepth 4000 in
theorem kX2_fail (G : GT) {σ : St} {a1 : Int32} : ∀ (r : Int32) (σo : St) , fX2_fail σ a1 = some (r, σo) → MCt G 1 yX2_fail cX2_fail 2 (some .boolean) [.ref (gad G 1), .int a1] σ (some (.int r)) σo := by
  intro r σo hF
  refine met_zz (by decide) (Nat.le_of_ble_eq_true rfl) (fun X cx hE => ?_)
  have cx : Cx G X RX2 cX2_fail 2 1 := cx
  unfold fX2_fail at hF
  show WW G X 2 σ [(0, .ref (gad G 1)), (1, .int a1)] 0 []
  refine ww_aload_n cx dX2_fail_0 rfl 0 rfl ?_
  refine ww_iload_n cx dX2_fail_1 rfl 1 rfl ?_
  refine pf_X2_27 cx dX2_fail_2 hF (fun σ1 hF => ?_)
  refine ww_aload_n cx dX2_fail_5 rfl 0 rfl ?_
  refine ww_aload_n cx dX2_fail_6 rfl 0 rfl ?_
  refine gf_X2_177 cx dX2_fail_7 ?_
  refine pf_X2_15 cx dX2_fail_10 hF (fun σ2 hF => ?_)
  refine ww_iconst cx dX2_fail_13 ic_0 ?_
  exact ww_rzs hE dX2_fail_14 hF
theorem dX2_isNumberOf_0 : decode cX2_isNumberOf 0 = .ok (.aload_n 0, 1) := by decide +kernel
theorem dX2_isNumberOf_1 : decode cX2_isNumberOf 1 = .ok (.getfield 36, 3) := by decide +kernel
theorem dX2_isNumberOf_4 : decode cX2_isNumberOf 4 = .ok (.iconst 2, 1) := by decide +kernel
theorem dX2_isNumberOf_5 : decode cX2_isNumberOf 5 = .ok (.if_icmp .ne 15, 3) := by decide +kernel
theorem dX2_isNumberOf_8 : decode cX2_isNumberOf 8 = .ok (.aload_n 0, 1) := by decide +kernel
theorem dX2_isNumberOf_9 : decode cX2_isNumberOf 9 = .ok (.getfield 122, 3) := by decide +kernel
theorem dX2_isNumberOf_12 : decode cX2_isNumberOf 12 = .ok (.iload_n 1, 1) := by decide +kernel
theorem dX2_isNumberOf_13 : decode cX2_isNumberOf 13 = .ok (.if_icmp .ge 7, 3) := by decide +kernel
theorem dX2_isNumberOf_16 : decode cX2_isNumberOf 16 = .ok (.iconst 1, 1) := by decide +kernel
theorem dX2_isNumberOf_17 : decode cX2_isNumberOf 17 = .ok (.goto 4, 3) := by decide +kernel
theorem dX2_isNumberOf_20 : decode cX2_isNumberOf 20 = .ok (.iconst 0, 1) := by decide +kernel
theorem dX2_isNumberOf_21 : decode cX2_isNumberOf 21 = .ok (.ireturn, 1) := by decide +kernel
set_option maxRecDepth 4000 in
theorem kX2_isNumberOf (G : GT) {σ : St} {a1 : Int32} : ∀ (r : Int32) , fX2_isNumberOf σ a1 = some r → MCt G 1 yX2_isNumberOf cX2_isNumberOf 2 (some .boolean) [.ref (gad G 1), .int a1] σ (some (.int r)) σ := by
  intro r hF
  refine met_zz (by decide) (Nat.le_of_ble_eq_true rfl) (fun X cx hE => ?_)
  have cx : Cx G X RX2 cX2_isNumberOf 2 1 := cx
  unfold fX2_isNumberOf at hF
  show WW G X 2 σ [(0, .ref (gad G 1)), (1, .int a1)] 0 []
  refine ww_aload_n cx dX2_isNumberOf_0 rfl 0 rfl ?_
  refine gf_X2_36 cx dX2_isNumberOf_1 ?_
  refine ww_iconst cx dX2_isNumberOf_4 ic_2 ?_
  refine ww_icmp_ne cx dX2_isNumberOf_5 (tgt := 20) rfl hF (fun hF => ?_) (fun hF => ?_)
  · refine ww_iconst cx dX2_isNumberOf_20 ic_0 ?_
    exact ww_rzp hE dX2_isNumberOf_21 hF
  · refine ww_aload_n cx dX2_isNumberOf_8 rfl 0 rfl ?_
    refine gf_X2_122 cx dX2_isNumberOf_9 ?_
    refine ww_iload_n cx dX2_isNumberOf_12 rfl 1 rfl ?_
    refine ww_icmp_ge cx dX2_isNumberOf_13 (tgt := 20) rfl hF (fun hF => ?_) (fun hF => ?_)
    · refine ww_iconst cx dX2_isNumberOf_20 ic_0 ?_
      exact ww_rzp hE dX2_isNumberOf_21 hF
    · refine ww_iconst cx dX2_isNumberOf_16 ic_1 ?_
      refine ww_goto cx dX2_isNumberOf_17 (tgt := 21) rfl ?_
      exact ww_rzp hE dX2_isNumberOf_21 hF
theorem dX2_kindAt_0 : decode cX2_kindAt 0 = .ok (.iload_n 1, 1) := by decide +kernel
theorem dX2_kindAt_1 : decode cX2_kindAt 1 = .ok (.aload_n 0, 1) := by decide +kernel
theorem dX2_kindAt_2 : decode cX2_kindAt 2 = .ok (.getfield 19, 3) := by decide +kernel
theorem dX2_kindAt_5 : decode cX2_kindAt 5 = .ok (.if_icmp .lt 5, 3) := by decide +kernel
theorem dX2_kindAt_8 : decode cX2_kindAt 8 = .ok (.iconst 0, 1) := by decide +kernel
theorem dX2_kindAt_9 : decode cX2_kindAt 9 = .ok (.ireturn, 1) := by decide +kernel
theorem dX2_kindAt_10 : decode cX2_kindAt 10 = .ok (.aload_n 0, 1) := by decide +kernel
theorem dX2_kindAt_11 : decode cX2_kindAt 11 = .ok (.getfield 9, 3) := by decide +kernel
theorem dX2_kindAt_14 : decode cX2_kindAt 14 = .ok (.iload_n 1, 1) := by decide +kernel
theorem dX2_kindAt_15 : decode cX2_kindAt 15 = .ok (.baload, 1) := by decide +kernel
theorem dX2_kindAt_16 : decode cX2_kindAt 16 = .ok (.istore_n 2, 1) := by decide +kernel
theorem dX2_kindAt_17 : decode cX2_kindAt 17 = .ok (.iload_n 2, 1) := by decide +kernel
theorem dX2_kindAt_18 : decode cX2_kindAt 18 = .ok (.bipush 97, 2) := by decide +kernel
theorem dX2_kindAt_20 : decode cX2_kindAt 20 = .ok (.if_icmp .lt 11, 3) := by decide +kernel
theorem dX2_kindAt_23 : decode cX2_kindAt 23 = .ok (.iload_n 2, 1) := by decide +kernel
theorem dX2_kindAt_24 : decode cX2_kindAt 24 = .ok (.bipush 122, 2) := by decide +kernel
theorem dX2_kindAt_26 : decode cX2_kindAt 26 = .ok (.if_icmp .gt 5, 3) := by decide +kernel
theorem dX2_kindAt_29 : decode cX2_kindAt 29 = .ok (.iconst 1, 1) := by decide +kernel
theorem dX2_kindAt_30 : decode cX2_kindAt 30 = .ok (.ireturn, 1) := by decide +kernel
theorem dX2_kindAt_31 : decode cX2_kindAt 31 = .ok (.iload_n 2, 1) := by decide +kernel
theorem dX2_kindAt_32 : decode cX2_kindAt 32 = .ok (.bipush 48, 2) := by decide +kernel
theorem dX2_kindAt_34 : decode cX2_kindAt 34 = .ok (.if_icmp .lt 11, 3) := by decide +kernel
theorem dX2_kindAt_37 : decode cX2_kindAt 37 = .ok (.iload_n 2, 1) := by decide +kernel
theorem dX2_kindAt_38 : decode cX2_kindAt 38 = .ok (.bipush 57, 2) := by decide +kernel
theorem dX2_kindAt_40 : decode cX2_kindAt 40 = .ok (.if_icmp .gt 5, 3) := by decide +kernel
theorem dX2_kindAt_43 : decode cX2_kindAt 43 = .ok (.iconst 2, 1) := by decide +kernel
theorem dX2_kindAt_44 : decode cX2_kindAt 44 = .ok (.ireturn, 1) := by decide +kernel
theorem dX2_kindAt_45 : decode cX2_kindAt 45 = .ok (.iload_n 2, 1) := by decide +kernel
theorem dX2_kindAt_46 : decode cX2_kindAt 46 = .ok (.bipush 59, 2) := by decide +kernel
theorem dX2_kindAt_48 : decode cX2_kindAt 48 = .ok (.if_icmp .ne 7, 3) := by decide +kernel
theorem dX2_kindAt_51 : decode cX2_kindAt 51 = .ok (.iconst 3, 1) := by decide +kernel
theorem dX2_kindAt_52 : decode cX2_kindAt 52 = .ok (.goto 4, 3) := by decide +kernel
theorem dX2_kindAt_55 : decode cX2_kindAt 55 = .ok (.iconst 4, 1) := by decide +kernel
theorem dX2_kindAt_56 : decode cX2_kindAt 56 = .ok (.ireturn, 1) := by decide +kernel
set_option maxRecDepth 4000 in
theorem kX2_kindAt (G : GT) {σ : St} {a1 : Int32} : ∀ (r : Int32) , fX2_kindAt σ a1 = some r → MCt G 1 yX2_kindAt cX2_kindAt 3 (some .int) [.ref (gad G 1), .int a1] σ (some (.int r)) σ := by
  intro r hF
  refine met_i (by decide) (Nat.le_of_ble_eq_true rfl) (fun X cx hE => ?_)
  have cx : Cx G X RX2 cX2_kindAt 3 1 := cx
  have hb45 : ∀ (x2 : Int32) , fX2_kindAt_b45 σ x2 = some r → WW G X 3 σ [(2, .int x2)] 45 [] := by
    intro x2 hF
    unfold fX2_kindAt_b45 at hF
    refine ww_iload_n cx dX2_kindAt_45 rfl 0 rfl ?_
    refine ww_bipush cx dX2_kindAt_46 bc_59 ?_
    refine ww_icmp_ne cx dX2_kindAt_48 (tgt := 55) rfl hF (fun hF => ?_) (fun hF => ?_)
    · refine ww_iconst cx dX2_kindAt_55 ic_4 ?_
      exact ww_rip hE dX2_kindAt_56 hF
    · refine ww_iconst cx dX2_kindAt_51 ic_3 ?_
      refine ww_goto cx dX2_kindAt_52 (tgt := 56) rfl ?_
      exact ww_rip hE dX2_kindAt_56 hF
  have hb31 : ∀ (x2 : Int32) , fX2_kindAt_b31 σ x2 = some r → WW G X 3 σ [(2, .int x2)] 31 [] := by
    intro x2 hF
    unfold fX2_kindAt_b31 at hF
    refine ww_iload_n cx dX2_kindAt_31 rfl 0 rfl ?_
    refine ww_bipush cx dX2_kindAt_32 bc_48 ?_
    refine ww_icmp_lt cx dX2_kindAt_34 (tgt := 45) rfl hF (fun hF => ?_) (fun hF => ?_)
    · exact hb45 _ hF
    · refine ww_iload_n cx dX2_kindAt_37 rfl 0 rfl ?_
      refine ww_bipush cx dX2_kindAt_38 bc_57 ?_
      refine ww_icmp_gt cx dX2_kindAt_40 (tgt := 45) rfl hF (fun hF => ?_) (fun hF => ?_)
      · exact hb45 _ hF
      · refine ww_iconst cx dX2_kindAt_43 ic_2 ?_
        exact ww_rip hE dX2_kindAt_44 hF
  unfold fX2_kindAt at hF
  show WW G X 3 σ [(0, .ref (gad G 1)), (1, .int a1)] 0 []
  refine ww_iload_n cx dX2_kindAt_0 rfl 1 rfl ?_
  refine ww_aload_n cx dX2_kindAt_1 rfl 0 rfl ?_
  refine gf_X2_19 cx dX2_kindAt_2 ?_
  refine ww_icmp_lt cx dX2_kindAt_5 (tgt := 10) rfl hF (fun hF => ?_) (fun hF => ?_)
  · refine ww_aload_n cx dX2_kindAt_10 rfl 0 rfl ?_
    refine gf_X2_9 cx dX2_kindAt_11 ?_
    refine ww_iload_n cx dX2_kindAt_14 rfl 1 rfl ?_
    refine ww_bald (N := 1600) cx (sh_2) dX2_kindAt_15 hF (fun hF => ?_)
    refine ww_istore_n (ks := [0]) (lv' := fun v1 => [(2, .int v1)]) cx dX2_kindAt_16 rfl (by decide) hF (fun _ => rfl) (fun v1 hF => ?_)
    refine ww_iload_n cx dX2_kindAt_17 rfl 0 rfl ?_
    refine ww_bipush cx dX2_kindAt_18 bc_97 ?_
    refine ww_icmp_lt cx dX2_kindAt_20 (tgt := 31) rfl hF (fun hF => ?_) (fun hF => ?_)
    · exact hb31 _ hF
    · refine ww_iload_n cx dX2_kindAt_23 rfl 0 rfl ?_
      refine ww_bipush cx dX2_kindAt_24 bc_122 ?_
      refine ww_icmp_gt cx dX2_kindAt_26 (tgt := 31) rfl hF (fun hF => ?_) (fun hF => ?_)
      · exact hb31 _ hF
      · refine ww_iconst cx dX2_kindAt_29 ic_1 ?_
        exact ww_rip hE dX2_kindAt_30 hF
  · refine ww_iconst cx dX2_kindAt_8 ic_0 ?_
    exact ww_rip hE dX2_kindAt_9 hF
theorem dX3_reasonAgainst_0 : decode cX3_reasonAgainst 0 = .ok (.aload_n 1, 1) := by decide +kernel
theorem dX3_reasonAgainst_1 : decode cX3_reasonAgainst 1 = .ok (.getfield 46, 3) := by decide +kernel
theorem dX3_reasonAgainst_4 : decode cX3_reasonAgainst 4 = .ok (.iload_n 2, 1) := by decide +kernel
theorem dX3_reasonAgainst_5 : decode cX3_reasonAgainst 5 = .ok (.iaload, 1) := by decide +kernel
theorem dX3_reasonAgainst_6 : decode cX3_reasonAgainst 6 = .ok (.aload_n 0, 1) := by decide +kernel
theorem dX3_reasonAgainst_7 : decode cX3_reasonAgainst 7 = .ok (.getfield 27, 3) := by decide +kernel
theorem dX3_reasonAgainst_10 : decode cX3_reasonAgainst 10 = .ok (.iconst (-1), 1) := by decide +kernel
theorem dX3_reasonAgainst_11 : decode cX3_reasonAgainst 11 = .ok (.ixor, 1) := by decide +kernel
theorem dX3_reasonAgainst_12 : decode cX3_reasonAgainst 12 = .ok (.iand, 1) := by decide +kernel
theorem dX3_reasonAgainst_13 : decode cX3_reasonAgainst 13 = .ok (.ifCond .eq 5, 3) := by decide +kernel
theorem dX3_reasonAgainst_16 : decode cX3_reasonAgainst 16 = .ok (.iconst 1, 1) := by decide +kernel
theorem dX3_reasonAgainst_17 : decode cX3_reasonAgainst 17 = .ok (.ireturn, 1) := by decide +kernel
theorem dX3_reasonAgainst_18 : decode cX3_reasonAgainst 18 = .ok (.aload_n 0, 1) := by decide +kernel
theorem dX3_reasonAgainst_19 : decode cX3_reasonAgainst 19 = .ok (.getfield 27, 3) := by decide +kernel
theorem dX3_reasonAgainst_22 : decode cX3_reasonAgainst 22 = .ok (.aload_n 1, 1) := by decide +kernel
theorem dX3_reasonAgainst_23 : decode cX3_reasonAgainst 23 = .ok (.getfield 43, 3) := by decide +kernel
theorem dX3_reasonAgainst_26 : decode cX3_reasonAgainst 26 = .ok (.iload_n 2, 1) := by decide +kernel
theorem dX3_reasonAgainst_27 : decode cX3_reasonAgainst 27 = .ok (.iaload, 1) := by decide +kernel
theorem dX3_reasonAgainst_28 : decode cX3_reasonAgainst 28 = .ok (.ishr, 1) := by decide +kernel
theorem dX3_reasonAgainst_29 : decode cX3_reasonAgainst 29 = .ok (.iconst 1, 1) := by decide +kernel
theorem dX3_reasonAgainst_30 : decode cX3_reasonAgainst 30 = .ok (.iand, 1) := by decide +kernel
theorem dX3_reasonAgainst_31 : decode cX3_reasonAgainst 31 = .ok (.iconst 1, 1) := by decide +kernel
theorem dX3_reasonAgainst_32 : decode cX3_reasonAgainst 32 = .ok (.if_icmp .ne 7, 3) := by decide +kernel
theorem dX3_reasonAgainst_35 : decode cX3_reasonAgainst 35 = .ok (.iconst 2, 1) := by decide +kernel
theorem dX3_reasonAgainst_36 : decode cX3_reasonAgainst 36 = .ok (.goto 4, 3) := by decide +kernel
theorem dX3_reasonAgainst_39 : decode cX3_reasonAgainst 39 = .ok (.iconst 0, 1) := by decide +kernel
theorem dX3_reasonAgainst_40 : decode cX3_reasonAgainst 40 = .ok (.ireturn, 1) := by decide +kernel
set_option maxRecDepth 4000 in
theorem kX3_reasonAgainst (G : GT) {σ : St} {t : Nat} {a2 : Int32} (ht : isTab t) : ∀ (r : Int32) , fX3_reasonAgainst σ t a2 = some r → MCt G 1 yX3_reasonAgainst cX3_reasonAgainst 3 (some .int) [.ref (gad G 53), .ref (gad G t), .int a2] σ (some (.int r)) σ := by
  intro r hF
  refine met_i (by decide) (Nat.le_of_ble_eq_true rfl) (fun X cx hE => ?_)
  have cx : Cx G X RX3 cX3_reasonAgainst 3 1 := cx
  unfold fX3_reasonAgainst at hF
  show WW G X 3 σ [(0, .ref (gad G 53)), (1, .ref (gad G t)), (2, .int a2)] 0 []
  refine ww_aload_n cx dX3_reasonAgainst_0 rfl 1 rfl ?_
  refine gf_X3_46 cx (ht) dX3_reasonAgainst_1 ?_
  refine ww_iload_n cx dX3_reasonAgainst_4 rfl 2 rfl ?_
  refine ww_iald (N := 12) cx (ar_X6_11 ht) dX3_reasonAgainst_5 hF (fun hF => ?_)
  refine ww_aload_n cx dX3_reasonAgainst_6 rfl 0 rfl ?_
  refine gf_X3_27 cx dX3_reasonAgainst_7 ?_
  refine ww_iconst cx dX3_reasonAgainst_10 ic_m1 ?_
  refine ww_ixor cx dX3_reasonAgainst_11 ?_
  refine ww_iand cx dX3_reasonAgainst_12 ?_
  refine ww_if_eq cx dX3_reasonAgainst_13 (tgt := 18) rfl hF (fun hF => ?_) (fun hF => ?_)
  · refine ww_aload_n cx dX3_reasonAgainst_18 rfl 0 rfl ?_
    refine gf_X3_27 cx dX3_reasonAgainst_19 ?_
    refine ww_aload_n cx dX3_reasonAgainst_22 rfl 1 rfl ?_
    refine gf_X3_43 cx (ht) dX3_reasonAgainst_23 ?_
    refine ww_iload_n cx dX3_reasonAgainst_26 rfl 2 rfl ?_
    refine ww_iald (N := 12) cx (ar_X6_10 ht) dX3_reasonAgainst_27 hF (fun hF => ?_)
    refine ww_ishr cx dX3_reasonAgainst_28 ?_
    refine ww_iconst cx dX3_reasonAgainst_29 ic_1 ?_
    refine ww_iand cx dX3_reasonAgainst_30 ?_
    refine ww_iconst cx dX3_reasonAgainst_31 ic_1 ?_
    refine ww_icmp_ne cx dX3_reasonAgainst_32 (tgt := 39) rfl hF (fun hF => ?_) (fun hF => ?_)
    · refine ww_iconst cx dX3_reasonAgainst_39 ic_0 ?_
      exact ww_rip hE dX3_reasonAgainst_40 hF
    · refine ww_iconst cx dX3_reasonAgainst_35 ic_2 ?_
      refine ww_goto cx dX3_reasonAgainst_36 (tgt := 40) rfl ?_
      exact ww_rip hE dX3_reasonAgainst_40 hF
  · refine ww_iconst cx dX3_reasonAgainst_16 ic_1 ?_
    exact ww_rip hE dX3_reasonAgainst_17 hF
theorem dX3_usedForAll_0 : decode cX3_usedForAll 0 = .ok (.iconst 0, 1) := by decide +kernel
theorem dX3_usedForAll_1 : decode cX3_usedForAll 1 = .ok (.istore_n 3, 1) := by decide +kernel
theorem dX3_usedForAll_2 : decode cX3_usedForAll 2 = .ok (.iconst 0, 1) := by decide +kernel
theorem dX3_usedForAll_3 : decode cX3_usedForAll 3 = .ok (.istore 4, 2) := by decide +kernel
theorem dX3_usedForAll_5 : decode cX3_usedForAll 5 = .ok (.iload 4, 2) := by decide +kernel
theorem dX3_usedForAll_7 : decode cX3_usedForAll 7 = .ok (.aload_n 1, 1) := by decide +kernel
theorem dX3_usedForAll_8 : decode cX3_usedForAll 8 = .ok (.getfield 52, 3) := by decide +kernel
theorem dX3_usedForAll_11 : decode cX3_usedForAll 11 = .ok (.if_icmp .ge 29, 3) := by decide +kernel
theorem dX3_usedForAll_14 : decode cX3_usedForAll 14 = .ok (.iload_n 2, 1) := by decide +kernel
theorem dX3_usedForAll_15 : decode cX3_usedForAll 15 = .ok (.iload 4, 2) := by decide +kernel
theorem dX3_usedForAll_17 : decode cX3_usedForAll 17 = .ok (.ishr, 1) := by decide +kernel
theorem dX3_usedForAll_18 : decode cX3_usedForAll 18 = .ok (.iconst 1, 1) := by decide +kernel
theorem dX3_usedForAll_19 : decode cX3_usedForAll 19 = .ok (.iand, 1) := by decide +kernel
theorem dX3_usedForAll_20 : decode cX3_usedForAll 20 = .ok (.iconst 1, 1) := by decide +kernel
theorem dX3_usedForAll_21 : decode cX3_usedForAll 21 = .ok (.if_icmp .ne 13, 3) := by decide +kernel
theorem dX3_usedForAll_24 : decode cX3_usedForAll 24 = .ok (.iload_n 3, 1) := by decide +kernel
theorem dX3_usedForAll_25 : decode cX3_usedForAll 25 = .ok (.aload_n 0, 1) := by decide +kernel
theorem dX3_usedForAll_26 : decode cX3_usedForAll 26 = .ok (.getfield 9, 3) := by decide +kernel
theorem dX3_usedForAll_29 : decode cX3_usedForAll 29 = .ok (.iload 4, 2) := by decide +kernel
theorem dX3_usedForAll_31 : decode cX3_usedForAll 31 = .ok (.iaload, 1) := by decide +kernel
theorem dX3_usedForAll_32 : decode cX3_usedForAll 32 = .ok (.ior, 1) := by decide +kernel
theorem dX3_usedForAll_33 : decode cX3_usedForAll 33 = .ok (.istore_n 3, 1) := by decide +kernel
theorem dX3_usedForAll_34 : decode cX3_usedForAll 34 = .ok (.iinc 4 1, 3) := by decide +kernel
theorem dX3_usedForAll_37 : decode cX3_usedForAll 37 = .ok (.goto (-32), 3) := by decide +kernel
theorem dX3_usedForAll_40 : decode cX3_usedForAll 40 = .ok (.iload_n 3, 1) := by decide +kernel
theorem dX3_usedForAll_41 : decode cX3_usedForAll 41 = .ok (.ireturn, 1) := by decide +kernel
set_option maxRecDepth 4000 in
theorem kX3_usedForAll (G : GT) {σ : St} {t : Nat} {a2 : Int32} (ht : isTab t) : ∀ (r : Int32) , fX3_usedForAll σ t a2 = some r → MCt G 1 yX3_usedForAll cX3_usedForAll 5 (some .int) [.ref (gad G 53), .ref (gad G t), .int a2] σ (some (.int r)) σ := by
  intro r hF
  refine met_i (by decide) (Nat.le_of_ble_eq_true rfl) (fun X cx hE => ?_)
  have cx : Cx G X RX3 cX3_usedForAll 5 1 := cx
  have hl5 : ∀ n : Nat, ∀ (x2 : Int32) (x3 : Int32) (x4 : Int32) , fX3_usedForAll_l5 σ t n x2 x3 x4 = some r → WW G X 5 σ [(0, .ref (gad G 53)), (1, .ref (gad G t)), (2, .int x2), (3, .int x3), (4, .int x4)] 5 [] := by
    intro n
    induction n with
    | zero =>
      intro x2 x3 x4 hF
      exact absurd hF (by intro z; cases z)
    | succ n ih =>
      intro x2 x3 x4 hF
      have hk5 := ih
      have hF : fX3_usedForAll_B5 σ t (fX3_usedForAll_l5 σ t n) x2 x3 x4 = some r := hF
      unfold fX3_usedForAll_B5 at hF
      refine ww_iload cx dX3_usedForAll_5 4 rfl ?_
      refine ww_aload_n cx dX3_usedForAll_7 rfl 1 rfl ?_
      refine gf_X3_52 cx (ht) dX3_usedForAll_8 ?_
      refine ww_icmp_ge cx dX3_usedForAll_11 (tgt := 40) rfl hF (fun hF => ?_) (fun hF => ?_)
      · refine ww_iload_n cx dX3_usedForAll_40 rfl 3 rfl ?_
        exact ww_rip hE dX3_usedForAll_41 hF
      · refine ww_iload_n cx dX3_usedForAll_14 rfl 2 rfl ?_
        refine ww_iload cx dX3_usedForAll_15 4 rfl ?_
        refine ww_ishr cx dX3_usedForAll_17 ?_
        refine ww_iconst cx dX3_usedForAll_18 ic_1 ?_
        refine ww_iand cx dX3_usedForAll_19 ?_
        refine ww_iconst cx dX3_usedForAll_20 ic_1 ?_
        refine ww_icmp_ne cx dX3_usedForAll_21 (tgt := 34) rfl hF (fun hF => ?_) (fun hF => ?_)
        · refine ww_iinc (j := 4) (ks := [0, 1, 2, 3, 4]) (lv' := fun v1 => [(4, .int v1), (0, .ref (gad G 53)), (1, .ref (gad G t)), (2, .int x2), (3, .int x3)]) cx dX3_usedForAll_34 (by decide) rfl ic_1 hF (fun _ => rfl) (fun v1 hF => ?_)
          refine ww_goto cx dX3_usedForAll_37 (tgt := 5) rfl ?_
          exact ww_sub [1, 2, 3, 4, 0] rfl (hk5 _ _ _ hF)
        · refine ww_iload_n cx dX3_usedForAll_24 rfl 3 rfl ?_
          refine ww_aload_n cx dX3_usedForAll_25 rfl 0 rfl ?_
          refine gf_X3_9 cx dX3_usedForAll_26 ?_
          refine ww_iload cx dX3_usedForAll_29 4 rfl ?_
          refine ww_iald (N := 12) cx (sh_54) dX3_usedForAll_31 hF (fun hF => ?_)
          refine ww_ior cx dX3_usedForAll_32 ?_
          refine ww_istore_n (ks := [0, 1, 2, 3, 4]) (lv' := fun v2 => [(3, .int v2), (0, .ref (gad G 53)), (1, .ref (gad G t)), (2, .int x2), (4, .int x4)]) cx dX3_usedForAll_33 rfl (by decide) hF (fun _ => rfl) (fun v2 hF => ?_)
          refine ww_iinc (j := 4) (ks := [0, 1, 2, 3, 4]) (lv' := fun v3 => [(4, .int v3), (3, .int v2), (0, .ref (gad G 53)), (1, .ref (gad G t)), (2, .int x2)]) cx dX3_usedForAll_34 (by decide) rfl ic_1 hF (fun _ => rfl) (fun v3 hF => ?_)
          refine ww_goto cx dX3_usedForAll_37 (tgt := 5) rfl ?_
          exact ww_sub [2, 3, 4, 1, 0] rfl (hk5 _ _ _ hF)
  unfold fX3_usedForAll at hF
  show WW G X 5 σ [(0, .ref (gad G 53)), (1, .ref (gad G t)), (2, .int a2)] 0 []
  refine ww_iconst cx dX3_usedForAll_0 ic_0 ?_
  refine ww_istore_n (ks := [0, 1, 2, 3]) (lv' := fun v4 => [(3, .int v4), (0, .ref (gad G 53)), (1, .ref (gad G t)), (2, .int a2)]) cx dX3_usedForAll_1 rfl (by decide) hF (fun _ => rfl) (fun v4 hF => ?_)
  refine ww_iconst cx dX3_usedForAll_2 ic_0 ?_
  refine ww_istore (ks := [0, 1, 2, 3, 4]) (lv' := fun v5 => [(4, .int v5), (3, .int v4), (0, .ref (gad G 53)), (1, .ref (gad G t)), (2, .int a2)]) cx dX3_usedForAll_3 (by decide) hF (fun _ => rfl) (fun v5 hF => ?_)
  exact ww_sub [2, 3, 4, 1, 0] rfl (hl5 FU _ _ _ hF)
theorem dX4_areAllBelow_0 : decode cX4_areAllBelow 0 = .ok (.iconst 0, 1) := by decide +kernel
theorem dX4_areAllBelow_1 : decode cX4_areAllBelow 1 = .ok (.istore_n 2, 1) := by decide +kernel
theorem dX4_areAllBelow_2 : decode cX4_areAllBelow 2 = .ok (.iload_n 2, 1) := by decide +kernel
theorem dX4_areAllBelow_3 : decode cX4_areAllBelow 3 = .ok (.aload_n 0, 1) := by decide +kernel
theorem dX4_areAllBelow_4 : decode cX4_areAllBelow 4 = .ok (.getfield 23, 3) := by decide +kernel
theorem dX4_areAllBelow_7 : decode cX4_areAllBelow 7 = .ok (.if_icmp .ge 34, 3) := by decide +kernel
theorem dX4_areAllBelow_10 : decode cX4_areAllBelow 10 = .ok (.aload_n 0, 1) := by decide +kernel
theorem dX4_areAllBelow_11 : decode cX4_areAllBelow 11 = .ok (.getfield 9, 3) := by decide +kernel
theorem dX4_areAllBelow_14 : decode cX4_areAllBelow 14 = .ok (.iload_n 2, 1) := by decide +kernel
theorem dX4_areAllBelow_15 : decode cX4_areAllBelow 15 = .ok (.laload, 1) := by decide +kernel
theorem dX4_areAllBelow_16 : decode cX4_areAllBelow 16 = .ok (.lconst 0, 1) := by decide +kernel
theorem dX4_areAllBelow_17 : decode cX4_areAllBelow 17 = .ok (.lcmp, 1) := by decide +kernel
theorem dX4_areAllBelow_18 : decode cX4_areAllBelow 18 = .ok (.ifCond .lt 15, 3) := by decide +kernel
theorem dX4_areAllBelow_21 : decode cX4_areAllBelow 21 = .ok (.aload_n 0, 1) := by decide +kernel
theorem dX4_areAllBelow_22 : decode cX4_areAllBelow 22 = .ok (.getfield 9, 3) := by decide +kernel
theorem dX4_areAllBelow_25 : decode cX4_areAllBelow 25 = .ok (.iload_n 2, 1) := by decide +kernel
theorem dX4_areAllBelow_26 : decode cX4_areAllBelow 26 = .ok (.laload, 1) := by decide +kernel
theorem dX4_areAllBelow_27 : decode cX4_areAllBelow 27 = .ok (.iload_n 1, 1) := by decide +kernel
theorem dX4_areAllBelow_28 : decode cX4_areAllBelow 28 = .ok (.i2l, 1) := by decide +kernel
theorem dX4_areAllBelow_29 : decode cX4_areAllBelow 29 = .ok (.lcmp, 1) := by decide +kernel
theorem dX4_areAllBelow_30 : decode cX4_areAllBelow 30 = .ok (.ifCond .lt 5, 3) := by decide +kernel
theorem dX4_areAllBelow_33 : decode cX4_areAllBelow 33 = .ok (.iconst 0, 1) := by decide +kernel
theorem dX4_areAllBelow_34 : decode cX4_areAllBelow 34 = .ok (.ireturn, 1) := by decide +kernel
theorem dX4_areAllBelow_35 : decode cX4_areAllBelow 35 = .ok (.iinc 2 1, 3) := by decide +kernel
theorem dX4_areAllBelow_38 : decode cX4_areAllBelow 38 = .ok (.goto (-36), 3) := by decide +kernel
theorem dX4_areAllBelow_41 : decode cX4_areAllBelow 41 = .ok (.iconst 1, 1) := by decide +kernel
theorem dX4_areAllBelow_42 : decode cX4_areAllBelow 42 = .ok (.ireturn, 1) := by decide +kernel
set_option maxRecDepth 4000 in
theorem kX4_areAllBelow (G : GT) {σ : St} {w : Nat} {a1 : Int32} (hw : isRow w) : ∀ (r : Int32) , fX4_areAllBelow σ w a1 = some r → MCt G 1 yX4_areAllBelow cX4_areAllBelow 3 (some .boolean) [.ref (gad G w), .int a1] σ (some (.int r)) σ := by
  intro r hF
  refine met_zz (by decide) (Nat.le_of_ble_eq_true rfl) (fun X cx hE => ?_)
  have cx : Cx G X RX4 cX4_areAllBelow 3 1 := cx
  have hl2 : ∀ n : Nat, ∀ (x1 : Int32) (x2 : Int32) , fX4_areAllBelow_l2 σ w n x1 x2 = some r → WW G X 3 σ [(0, .ref (gad G w)), (1, .int x1), (2, .int x2)] 2 [] := by
    intro n
    induction n with
    | zero =>
      intro x1 x2 hF
      exact absurd hF (by intro z; cases z)
    | succ n ih =>
      intro x1 x2 hF
      have hk2 := ih
      have hF : fX4_areAllBelow_B2 σ w (fX4_areAllBelow_l2 σ w n) x1 x2 = some r := hF
      unfold fX4_areAllBelow_B2 at hF
      refine ww_iload_n cx dX4_areAllBelow_2 rfl 2 rfl ?_
      refine ww_aload_n cx dX4_areAllBelow_3 rfl 0 rfl ?_
      refine gf_X4_23 cx (hw) dX4_areAllBelow_4 ?_
      refine ww_icmp_ge cx dX4_areAllBelow_7 (tgt := 41) rfl hF (fun hF => ?_) (fun hF => ?_)
      · refine ww_iconst cx dX4_areAllBelow_41 ic_1 ?_
        exact ww_rzp hE dX4_areAllBelow_42 hF
      · refine ww_aload_n cx dX4_areAllBelow_10 rfl 0 rfl ?_
        refine gf_X4_9 cx (hw) dX4_areAllBelow_11 ?_
        refine ww_iload_n cx dX4_areAllBelow_14 rfl 2 rfl ?_
        refine ww_lald (N := 60) cx (ar_X4_3 hw) dX4_areAllBelow_15 hF (fun hF => ?_)
        refine ww_lconst cx dX4_areAllBelow_16 lc_0 ?_
        refine ww_lcmp cx dX4_areAllBelow_17 ?_
        refine ww_if_lt cx dX4_areAllBelow_18 (tgt := 33) rfl hF (fun hF => ?_) (fun hF => ?_)
        · refine ww_iconst cx dX4_areAllBelow_33 ic_0 ?_
          exact ww_rzp hE dX4_areAllBelow_34 hF
        · refine ww_aload_n cx dX4_areAllBelow_21 rfl 0 rfl ?_
          refine gf_X4_9 cx (hw) dX4_areAllBelow_22 ?_
          refine ww_iload_n cx dX4_areAllBelow_25 rfl 2 rfl ?_
          refine ww_lald (N := 60) cx (ar_X4_3 hw) dX4_areAllBelow_26 hF (fun hF => ?_)
          refine ww_iload_n cx dX4_areAllBelow_27 rfl 1 rfl ?_
          refine ww_i2l cx dX4_areAllBelow_28 ?_
          refine ww_lcmp cx dX4_areAllBelow_29 ?_
          refine ww_if_lt cx dX4_areAllBelow_30 (tgt := 35) rfl hF (fun hF => ?_) (fun hF => ?_)
          · refine ww_iinc (j := 2) (ks := [0, 1, 2]) (lv' := fun v1 => [(2, .int v1), (0, .ref (gad G w)), (1, .int x1)]) cx dX4_areAllBelow_35 (by decide) rfl ic_1 hF (fun _ => rfl) (fun v1 hF => ?_)
            refine ww_goto cx dX4_areAllBelow_38 (tgt := 2) rfl ?_
            exact ww_sub [1, 2, 0] rfl (hk2 _ _ hF)
          · refine ww_iconst cx dX4_areAllBelow_33 ic_0 ?_
            exact ww_rzp hE dX4_areAllBelow_34 hF
  unfold fX4_areAllBelow at hF
  show WW G X 3 σ [(0, .ref (gad G w)), (1, .int a1)] 0 []
  refine ww_iconst cx dX4_areAllBelow_0 ic_0 ?_
  refine ww_istore_n (ks := [0, 1, 2]) (lv' := fun v2 => [(2, .int v2), (0, .ref (gad G w)), (1, .int a1)]) cx dX4_areAllBelow_1 rfl (by decide) hF (fun _ => rfl) (fun v2 hF => ?_)
  exact ww_sub [1, 2, 0] rfl (hl2 FU _ _ hF)
theorem dX4_arePairsBelow_0 : decode cX4_arePairsBelow 0 = .ok (.iconst 0, 1) := by decide +kernel
theorem dX4_arePairsBelow_1 : decode cX4_arePairsBelow 1 = .ok (.istore_n 3, 1) := by decide +kernel
theorem dX4_arePairsBelow_2 : decode cX4_arePairsBelow 2 = .ok (.iload_n 3, 1) := by decide +kernel
theorem dX4_arePairsBelow_3 : decode cX4_arePairsBelow 3 = .ok (.aload_n 0, 1) := by decide +kernel
theorem dX4_arePairsBelow_4 : decode cX4_arePairsBelow 4 = .ok (.getfield 23, 3) := by decide +kernel
theorem dX4_arePairsBelow_7 : decode cX4_arePairsBelow 7 = .ok (.if_icmp .ge 48, 3) := by decide +kernel
theorem dX4_arePairsBelow_10 : decode cX4_arePairsBelow 10 = .ok (.iload_n 3, 1) := by decide +kernel
theorem dX4_arePairsBelow_11 : decode cX4_arePairsBelow 11 = .ok (.iconst 1, 1) := by decide +kernel
theorem dX4_arePairsBelow_12 : decode cX4_arePairsBelow 12 = .ok (.iand, 1) := by decide +kernel
theorem dX4_arePairsBelow_13 : decode cX4_arePairsBelow 13 = .ok (.ifCond .ne 7, 3) := by decide +kernel
theorem dX4_arePairsBelow_16 : decode cX4_arePairsBelow 16 = .ok (.iload_n 1, 1) := by decide +kernel
theorem dX4_arePairsBelow_17 : decode cX4_arePairsBelow 17 = .ok (.goto 4, 3) := by decide +kernel
theorem dX4_arePairsBelow_20 : decode cX4_arePairsBelow 20 = .ok (.iload_n 2, 1) := by decide +kernel
theorem dX4_arePairsBelow_21 : decode cX4_arePairsBelow 21 = .ok (.istore 4, 2) := by decide +kernel
theorem dX4_arePairsBelow_23 : decode cX4_arePairsBelow 23 = .ok (.aload_n 0, 1) := by decide +kernel
theorem dX4_arePairsBelow_24 : decode cX4_arePairsBelow 24 = .ok (.getfield 9, 3) := by decide +kernel
theorem dX4_arePairsBelow_27 : decode cX4_arePairsBelow 27 = .ok (.iload_n 3, 1) := by decide +kernel
theorem dX4_arePairsBelow_28 : decode cX4_arePairsBelow 28 = .ok (.laload, 1) := by decide +kernel
theorem dX4_arePairsBelow_29 : decode cX4_arePairsBelow 29 = .ok (.lconst 0, 1) := by decide +kernel
theorem dX4_arePairsBelow_30 : decode cX4_arePairsBelow 30 = .ok (.lcmp, 1) := by decide +kernel
theorem dX4_arePairsBelow_31 : decode cX4_arePairsBelow 31 = .ok (.ifCond .lt 16, 3) := by decide +kernel
theorem dX4_arePairsBelow_34 : decode cX4_arePairsBelow 34 = .ok (.aload_n 0, 1) := by decide +kernel
theorem dX4_arePairsBelow_35 : decode cX4_arePairsBelow 35 = .ok (.getfield 9, 3) := by decide +kernel
theorem dX4_arePairsBelow_38 : decode cX4_arePairsBelow 38 = .ok (.iload_n 3, 1) := by decide +kernel
theorem dX4_arePairsBelow_39 : decode cX4_arePairsBelow 39 = .ok (.laload, 1) := by decide +kernel
theorem dX4_arePairsBelow_40 : decode cX4_arePairsBelow 40 = .ok (.iload 4, 2) := by decide +kernel
theorem dX4_arePairsBelow_42 : decode cX4_arePairsBelow 42 = .ok (.i2l, 1) := by decide +kernel
theorem dX4_arePairsBelow_43 : decode cX4_arePairsBelow 43 = .ok (.lcmp, 1) := by decide +kernel
theorem dX4_arePairsBelow_44 : decode cX4_arePairsBelow 44 = .ok (.ifCond .lt 5, 3) := by decide +kernel
theorem dX4_arePairsBelow_47 : decode cX4_arePairsBelow 47 = .ok (.iconst 0, 1) := by decide +kernel
theorem dX4_arePairsBelow_48 : decode cX4_arePairsBelow 48 = .ok (.ireturn, 1) := by decide +kernel
theorem dX4_arePairsBelow_49 : decode cX4_arePairsBelow 49 = .ok (.iinc 3 1, 3) := by decide +kernel
theorem dX4_arePairsBelow_52 : decode cX4_arePairsBelow 52 = .ok (.goto (-50), 3) := by decide +kernel
theorem dX4_arePairsBelow_55 : decode cX4_arePairsBelow 55 = .ok (.aload_n 0, 1) := by decide +kernel
theorem dX4_arePairsBelow_56 : decode cX4_arePairsBelow 56 = .ok (.getfield 23, 3) := by decide +kernel
theorem dX4_arePairsBelow_59 : decode cX4_arePairsBelow 59 = .ok (.iconst 1, 1) := by decide +kernel
theorem dX4_arePairsBelow_60 : decode cX4_arePairsBelow 60 = .ok (.iand, 1) := by decide +kernel
theorem dX4_arePairsBelow_61 : decode cX4_arePairsBelow 61 = .ok (.ifCond .ne 7, 3) := by decide +kernel
theorem dX4_arePairsBelow_64 : decode cX4_arePairsBelow 64 = .ok (.iconst 1, 1) := by decide +kernel
theorem dX4_arePairsBelow_65 : decode cX4_arePairsBelow 65 = .ok (.goto 4, 3) := by decide +kernel
theorem dX4_arePairsBelow_68 : decode cX4_arePairsBelow 68 = .ok (.iconst 0, 1) := by decide +kernel
theorem dX4_arePairsBelow_69 : decode cX4_arePairsBelow 69 = .ok (.ireturn, 1) := by decide +kernel
set_option maxRecDepth 4000 in
theorem kX4_arePairsBelow (G : GT) {σ : St} {w : Nat} {a1 : Int32} {a2 : Int32} (hw : isRow w) : ∀ (r : Int32) , fX4_arePairsBelow σ w a1 a2 = some r → MCt G 1 yX4_arePairsBelow cX4_arePairsBelow 5 (some .boolean) [.ref (gad G w), .int a1, .int a2] σ (some (.int r)) σ := by
  intro r hF
  refine met_zz (by decide) (Nat.le_of_ble_eq_true rfl) (fun X cx hE => ?_)
  have cx : Cx G X RX4 cX4_arePairsBelow 5 1 := cx
  have hb21 : ∀ (kr2 : Int32 → Int32 → Int32 → Option (Int32)), (∀ (x1 : Int32) (x2 : Int32) (x3 : Int32) , kr2 x1 x2 x3 = some r → WW G X 5 σ [(0, .ref (gad G w)), (1, .int x1), (2, .int x2), (3, .int x3)] 2 []) → ∀ (x1 : Int32) (x2 : Int32) (x3 : Int32) (y0 : Int32) , fX4_arePairsBelow_b21 σ w kr2 x1 x2 x3 y0 = some r → WW G X 5 σ [(0, .ref (gad G w)), (1, .int x1), (2, .int x2), (3, .int x3)] 21 [.int y0] := by
    intro kr2 hk2
    intro x1 x2 x3 y0 hF
    unfold fX4_arePairsBelow_b21 at hF
    refine ww_istore (ks := [0, 1, 2, 3, 4]) (lv' := fun v1 => [(4, .int v1), (0, .ref (gad G w)), (1, .int x1), (2, .int x2), (3, .int x3)]) cx dX4_arePairsBelow_21 (by decide) hF (fun _ => rfl) (fun v1 hF => ?_)
    refine ww_aload_n cx dX4_arePairsBelow_23 rfl 1 rfl ?_
    refine gf_X4_9 cx (hw) dX4_arePairsBelow_24 ?_
    refine ww_iload_n cx dX4_arePairsBelow_27 rfl 4 rfl ?_
    refine ww_lald (N := 60) cx (ar_X4_3 hw) dX4_arePairsBelow_28 hF (fun hF => ?_)
    refine ww_lconst cx dX4_arePairsBelow_29 lc_0 ?_
    refine ww_lcmp cx dX4_arePairsBelow_30 ?_
    refine ww_if_lt cx dX4_arePairsBelow_31 (tgt := 47) rfl hF (fun hF => ?_) (fun hF => ?_)
    · refine ww_iconst cx dX4_arePairsBelow_47 ic_0 ?_
      exact ww_rzp hE dX4_arePairsBelow_48 hF
    · refine ww_aload_n cx dX4_arePairsBelow_34 rfl 1 rfl ?_
      refine gf_X4_9 cx (hw) dX4_arePairsBelow_35 ?_
      refine ww_iload_n cx dX4_arePairsBelow_38 rfl 4 rfl ?_
      refine ww_lald (N := 60) cx (ar_X4_3 hw) dX4_arePairsBelow_39 hF (fun hF => ?_)
      refine ww_iload cx dX4_arePairsBelow_40 0 rfl ?_
      refine ww_i2l cx dX4_arePairsBelow_42 ?_
      refine ww_lcmp cx dX4_arePairsBelow_43 ?_
      refine ww_if_lt cx dX4_arePairsBelow_44 (tgt := 49) rfl hF (fun hF => ?_) (fun hF => ?_)
      · refine ww_iinc (j := 4) (ks := [0, 2, 3, 4]) (lv' := fun v2 => [(3, .int v2), (0, .ref (gad G w)), (1, .int x1), (2, .int x2)]) cx dX4_arePairsBelow_49 (by decide) rfl ic_1 hF (fun _ => rfl) (fun v2 hF => ?_)
        refine ww_goto cx dX4_arePairsBelow_52 (tgt := 2) rfl ?_
        exact ww_sub [1, 2, 3, 0] rfl (hk2 _ _ _ hF)
      · refine ww_iconst cx dX4_arePairsBelow_47 ic_0 ?_
        exact ww_rzp hE dX4_arePairsBelow_48 hF
  have hl2 : ∀ n : Nat, ∀ (x1 : Int32) (x2 : Int32) (x3 : Int32) , fX4_arePairsBelow_l2 σ w n x1 x2 x3 = some r → WW G X 5 σ [(0, .ref (gad G w)), (1, .int x1), (2, .int x2), (3, .int x3)] 2 [] := by
    intro n
    induction n with
    | zero =>
      intro x1 x2 x3 hF
      exact absurd hF (by intro z; cases z)
    | succ n ih =>
      intro x1 x2 x3 hF
      have hk2 := ih
      have hF : fX4_arePairsBelow_B2 σ w (fX4_arePairsBelow_l2 σ w n) x1 x2 x3 = some r := hF
      unfold fX4_arePairsBelow_B2 at hF
      refine ww_iload_n cx dX4_arePairsBelow_2 rfl 3 rfl ?_
      refine ww_aload_n cx dX4_arePairsBelow_3 rfl 0 rfl ?_
      refine gf_X4_23 cx (hw) dX4_arePairsBelow_4 ?_
      refine ww_icmp_ge cx dX4_arePairsBelow_7 (tgt := 55) rfl hF (fun hF => ?_) (fun hF => ?_)
      · refine ww_aload_n cx dX4_arePairsBelow_55 rfl 0 rfl ?_
        refine gf_X4_23 cx (hw) dX4_arePairsBelow_56 ?_
        refine ww_iconst cx dX4_arePairsBelow_59 ic_1 ?_
        refine ww_iand cx dX4_arePairsBelow_60 ?_
        refine ww_if_ne cx dX4_arePairsBelow_61 (tgt := 68) rfl hF (fun hF => ?_) (fun hF => ?_)
        · refine ww_iconst cx dX4_arePairsBelow_68 ic_0 ?_
          exact ww_rzp hE dX4_arePairsBelow_69 hF
        · refine ww_iconst cx dX4_arePairsBelow_64 ic_1 ?_
          refine ww_goto cx dX4_arePairsBelow_65 (tgt := 69) rfl ?_
          exact ww_rzp hE dX4_arePairsBelow_69 hF
      · refine ww_iload_n cx dX4_arePairsBelow_10 rfl 3 rfl ?_
        refine ww_iconst cx dX4_arePairsBelow_11 ic_1 ?_
        refine ww_iand cx dX4_arePairsBelow_12 ?_
        refine ww_if_ne cx dX4_arePairsBelow_13 (tgt := 20) rfl hF (fun hF => ?_) (fun hF => ?_)
        · refine ww_iload_n cx dX4_arePairsBelow_20 rfl 2 rfl ?_
          exact hb21 _ hk2 _ _ _ _ hF
        · refine ww_iload_n cx dX4_arePairsBelow_16 rfl 1 rfl ?_
          refine ww_goto cx dX4_arePairsBelow_17 (tgt := 21) rfl ?_
          exact hb21 _ hk2 _ _ _ _ hF
  unfold fX4_arePairsBelow at hF
  show WW G X 5 σ [(0, .ref (gad G w)), (1, .int a1), (2, .int a2)] 0 []
  refine ww_iconst cx dX4_arePairsBelow_0 ic_0 ?_
  refine ww_istore_n (ks := [0, 1, 2, 3]) (lv' := fun v3 => [(3, .int v3), (0, .ref (gad G w)), (1, .int a1), (2, .int a2)]) cx dX4_arePairsBelow_1 rfl (by decide) hF (fun _ => rfl) (fun v3 hF => ?_)
  exact ww_sub [1, 2, 3, 0] rfl (hl2 FU _ _ _ hF)
theorem dX4_asSet_0 : decode cX4_asSet 0 = .ok (.iconst 0, 1) := by decide +kernel
theorem dX4_asSet_1 : decode cX4_asSet 1 = .ok (.istore_n 1, 1) := by decide +kernel
theorem dX4_asSet_2 : decode cX4_asSet 2 = .ok (.iconst 0, 1) := by decide +kernel
theorem dX4_asSet_3 : decode cX4_asSet 3 = .ok (.istore_n 2, 1) := by decide +kernel
theorem dX4_asSet_4 : decode cX4_asSet 4 = .ok (.iload_n 2, 1) := by decide +kernel
theorem dX4_asSet_5 : decode cX4_asSet 5 = .ok (.aload_n 0, 1) := by decide +kernel
theorem dX4_asSet_6 : decode cX4_asSet 6 = .ok (.getfield 23, 3) := by decide +kernel
theorem dX4_asSet_9 : decode cX4_asSet 9 = .ok (.if_icmp .ge 21, 3) := by decide +kernel
theorem dX4_asSet_12 : decode cX4_asSet 12 = .ok (.iload_n 1, 1) := by decide +kernel
theorem dX4_asSet_13 : decode cX4_asSet 13 = .ok (.iconst 1, 1) := by decide +kernel
theorem dX4_asSet_14 : decode cX4_asSet 14 = .ok (.aload_n 0, 1) := by decide +kernel
theorem dX4_asSet_15 : decode cX4_asSet 15 = .ok (.getfield 9, 3) := by decide +kernel
theorem dX4_asSet_18 : decode cX4_asSet 18 = .ok (.iload_n 2, 1) := by decide +kernel
theorem dX4_asSet_19 : decode cX4_asSet 19 = .ok (.laload, 1) := by decide +kernel
theorem dX4_asSet_20 : decode cX4_asSet 20 = .ok (.l2i, 1) := by decide +kernel
theorem dX4_asSet_21 : decode cX4_asSet 21 = .ok (.ishl, 1) := by decide +kernel
theorem dX4_asSet_22 : decode cX4_asSet 22 = .ok (.ior, 1) := by decide +kernel
theorem dX4_asSet_23 : decode cX4_asSet 23 = .ok (.istore_n 1, 1) := by decide +kernel
theorem dX4_asSet_24 : decode cX4_asSet 24 = .ok (.iinc 2 1, 3) := by decide +kernel
theorem dX4_asSet_27 : decode cX4_asSet 27 = .ok (.goto (-23), 3) := by decide +kernel
theorem dX4_asSet_30 : decode cX4_asSet 30 = .ok (.iload_n 1, 1) := by decide +kernel
theorem dX4_asSet_31 : decode cX4_asSet 31 = .ok (.ireturn, 1) := by decide +kernel
set_option maxRecDepth 4000 in
theorem kX4_asSet (G : GT) {σ : St} {w : Nat} (hw : isRow w) : ∀ (r : Int32) , fX4_asSet σ w = some r → MCt G 1 yX4_asSet cX4_asSet 3 (some .int) [.ref (gad G w)] σ (some (.int r)) σ := by
  intro r hF
  refine met_i (by decide) (Nat.le_of_ble_eq_true rfl) (fun X cx hE => ?_)
  have cx : Cx G X RX4 cX4_asSet 3 1 := cx
  have hl4 : ∀ n : Nat, ∀ (x1 : Int32) (x2 : Int32) , fX4_asSet_l4 σ w n x1 x2 = some r → WW G X 3 σ [(0, .ref (gad G w)), (1, .int x1), (2, .int x2)] 4 [] := by
    intro n
    induction n with
    | zero =>
      intro x1 x2 hF
      exact absurd hF (by intro z; cases z)
    | succ n ih =>
      intro x1 x2 hF
      have hk4 := ih
      have hF : fX4_asSet_B4 σ w (fX4_asSet_l4 σ w n) x1 x2 = some r := hF
      unfold fX4_asSet_B4 at hF
      refine ww_iload_n cx dX4_asSet_4 rfl 2 rfl ?_
      refine ww_aload_n cx dX4_asSet_5 rfl 0 rfl ?_
      refine gf_X4_23 cx (hw) dX4_asSet_6 ?_
      refine ww_icmp_ge cx dX4_asSet_9 (tgt := 30) rfl hF (fun hF => ?_) (fun hF => ?_)
      · refine ww_iload_n cx dX4_asSet_30 rfl 1 rfl ?_
        exact ww_rip hE dX4_asSet_31 hF
      · refine ww_iload_n cx dX4_asSet_12 rfl 1 rfl ?_
        refine ww_iconst cx dX4_asSet_13 ic_1 ?_
        refine ww_aload_n cx dX4_asSet_14 rfl 0 rfl ?_
        refine gf_X4_9 cx (hw) dX4_asSet_15 ?_
        refine ww_iload_n cx dX4_asSet_18 rfl 2 rfl ?_
        refine ww_lald (N := 60) cx (ar_X4_3 hw) dX4_asSet_19 hF (fun hF => ?_)
        refine ww_l2i cx dX4_asSet_20 ?_
        refine ww_ishl cx dX4_asSet_21 ?_
        refine ww_ior cx dX4_asSet_22 ?_
        refine ww_istore_n (ks := [0, 1, 2]) (lv' := fun v1 => [(1, .int v1), (0, .ref (gad G w)), (2, .int x2)]) cx dX4_asSet_23 rfl (by decide) hF (fun _ => rfl) (fun v1 hF => ?_)
        refine ww_iinc (j := 2) (ks := [0, 1, 2]) (lv' := fun v2 => [(2, .int v2), (1, .int v1), (0, .ref (gad G w))]) cx dX4_asSet_24 (by decide) rfl ic_1 hF (fun _ => rfl) (fun v2 hF => ?_)
        refine ww_goto cx dX4_asSet_27 (tgt := 4) rfl ?_
        exact ww_sub [2, 1, 0] rfl (hk4 _ _ hF)
  unfold fX4_asSet at hF
  show WW G X 3 σ [(0, .ref (gad G w))] 0 []
  refine ww_iconst cx dX4_asSet_0 ic_0 ?_
  refine ww_istore_n (ks := [0, 1]) (lv' := fun v3 => [(1, .int v3), (0, .ref (gad G w))]) cx dX4_asSet_1 rfl (by decide) hF (fun _ => rfl) (fun v3 hF => ?_)
  refine ww_iconst cx dX4_asSet_2 ic_0 ?_
  refine ww_istore_n (ks := [0, 1, 2]) (lv' := fun v4 => [(2, .int v4), (1, .int v3), (0, .ref (gad G w))]) cx dX4_asSet_3 rfl (by decide) hF (fun _ => rfl) (fun v4 hF => ?_)
  exact ww_sub [2, 1, 0] rfl (hl4 FU _ _ hF)
theorem dX4_begin_0 : decode cX4_begin 0 = .ok (.aload_n 0, 1) := by decide +kernel
theorem dX4_begin_1 : decode cX4_begin 1 = .ok (.iconst 1, 1) := by decide +kernel
theorem dX4_begin_2 : decode cX4_begin 2 = .ok (.putfield 15, 3) := by decide +kernel
theorem dX4_begin_5 : decode cX4_begin 5 = .ok (.aload_n 0, 1) := by decide +kernel
theorem dX4_begin_6 : decode cX4_begin 6 = .ok (.iload_n 1, 1) := by decide +kernel
theorem dX4_begin_7 : decode cX4_begin 7 = .ok (.putfield 19, 3) := by decide +kernel
theorem dX4_begin_10 : decode cX4_begin 10 = .ok (.aload_n 0, 1) := by decide +kernel
theorem dX4_begin_11 : decode cX4_begin 11 = .ok (.iload_n 2, 1) := by decide +kernel
theorem dX4_begin_12 : decode cX4_begin 12 = .ok (.putfield 23, 3) := by decide +kernel
theorem dX4_begin_15 : decode cX4_begin 15 = .ok (.iconst 0, 1) := by decide +kernel
theorem dX4_begin_16 : decode cX4_begin 16 = .ok (.istore_n 3, 1) := by decide +kernel
theorem dX4_begin_17 : decode cX4_begin 17 = .ok (.iload_n 3, 1) := by decide +kernel
theorem dX4_begin_18 : decode cX4_begin 18 = .ok (.bipush 60, 2) := by decide +kernel
theorem dX4_begin_20 : decode cX4_begin 20 = .ok (.if_icmp .ge 16, 3) := by decide +kernel
theorem dX4_begin_23 : decode cX4_begin 23 = .ok (.aload_n 0, 1) := by decide +kernel
theorem dX4_begin_24 : decode cX4_begin 24 = .ok (.getfield 9, 3) := by decide +kernel
theorem dX4_begin_27 : decode cX4_begin 27 = .ok (.iload_n 3, 1) := by decide +kernel
theorem dX4_begin_28 : decode cX4_begin 28 = .ok (.lconst 0, 1) := by decide +kernel
theorem dX4_begin_29 : decode cX4_begin 29 = .ok (.lastore, 1) := by decide +kernel
theorem dX4_begin_30 : decode cX4_begin 30 = .ok (.iinc 3 1, 3) := by decide +kernel
theorem dX4_begin_33 : decode cX4_begin 33 = .ok (.goto (-16), 3) := by decide +kernel
theorem dX4_begin_36 : decode cX4_begin 36 = .ok (.return_, 1) := by decide +kernel
set_option maxRecDepth 4000 in
theorem kX4_begin (G : GT) {σ : St} {w : Nat} {a1 : Int32} {a2 : Int32} (hw : isRow w) : ∀ (σo : St) , fX4_begin σ w a1 a2 = some σo → MCt G 1 yX4_begin cX4_begin 4 (none) [.ref (gad G w), .int a1, .int a2] σ (none) σo := by
  intro σo hF
  refine met_v (by decide) (Nat.le_of_ble_eq_true rfl) (fun X cx hE => ?_)
  have cx : Cx G X RX4 cX4_begin 4 1 := cx
  have hl17 : ∀ n : Nat, ∀ (σ : St) (x3 : Int32) , fX4_begin_l17 w n σ x3 = some σo → WW G X 4 σ [(0, .ref (gad G w)), (3, .int x3)] 17 [] := by
    intro n
    induction n with
    | zero =>
      intro σ x3 hF
      exact absurd hF (by intro z; cases z)
    | succ n ih =>
      intro σ x3 hF
      have hk17 := ih
      have hF : fX4_begin_B17 w (fX4_begin_l17 w n) σ x3 = some σo := hF
      unfold fX4_begin_B17 at hF
      refine ww_iload_n cx dX4_begin_17 rfl 1 rfl ?_
      refine ww_bipush cx dX4_begin_18 bc_60 ?_
      refine ww_icmp_ge cx dX4_begin_20 (tgt := 36) rfl hF (fun hF => ?_) (fun hF => ?_)
      · exact ww_rvs hE dX4_begin_36 hF
      · refine ww_aload_n cx dX4_begin_23 rfl 0 rfl ?_
        refine gf_X4_9 cx (hw) dX4_begin_24 ?_
        refine ww_iload_n cx dX4_begin_27 rfl 1 rfl ?_
        refine ww_lconst cx dX4_begin_28 lc_0 ?_
        refine ww_last (N := 60) cx (ar_X4_3 hw) dX4_begin_29 hF (fun σ1 hF => ?_)
        refine ww_iinc (j := 1) (ks := [0, 1]) (lv' := fun v2 => [(3, .int v2), (0, .ref (gad G w))]) cx dX4_begin_30 (by decide) rfl ic_1 hF (fun _ => rfl) (fun v2 hF => ?_)
        refine ww_goto cx dX4_begin_33 (tgt := 17) rfl ?_
        exact ww_sub [1, 0] rfl (hk17 _ _ hF)
  unfold fX4_begin at hF
  show WW G X 4 σ [(0, .ref (gad G w)), (1, .int a1), (2, .int a2)] 0 []
  refine ww_aload_n cx dX4_begin_0 rfl 0 rfl ?_
  refine ww_iconst cx dX4_begin_1 ic_1 ?_
  refine pf_X4_15 cx (hw) dX4_begin_2 hF (fun σ3 hF => ?_)
  refine ww_aload_n cx dX4_begin_5 rfl 0 rfl ?_
  refine ww_iload_n cx dX4_begin_6 rfl 1 rfl ?_
  refine pf_X4_19 cx (hw) dX4_begin_7 hF (fun σ4 hF => ?_)
  refine ww_aload_n cx dX4_begin_10 rfl 0 rfl ?_
  refine ww_iload_n cx dX4_begin_11 rfl 2 rfl ?_
  refine pf_X4_23 cx (hw) dX4_begin_12 hF (fun σ5 hF => ?_)
  refine ww_iconst cx dX4_begin_15 ic_0 ?_
  refine ww_istore_n (ks := [0, 1]) (lv' := fun v6 => [(3, .int v6), (0, .ref (gad G w))]) cx dX4_begin_16 rfl (by decide) hF (fun _ => rfl) (fun v6 hF => ?_)
  exact ww_sub [1, 0] rfl (hl17 FU _ _ hF)
theorem dX4_cut_0 : decode cX4_cut 0 = .ok (.aload_n 0, 1) := by decide +kernel
theorem dX4_cut_1 : decode cX4_cut 1 = .ok (.getfield 19, 3) := by decide +kernel
theorem dX4_cut_4 : decode cX4_cut 4 = .ok (.tableswitch 42 0 2 #[28, 33, 38], 28) := by decide +kernel
theorem dX4_cut_32 : decode cX4_cut 32 = .ok (.lload_n 1, 1) := by decide +kernel
theorem dX4_cut_33 : decode cX4_cut 33 = .ok (.l2i, 1) := by decide +kernel
theorem dX4_cut_34 : decode cX4_cut 34 = .ok (.i2b, 1) := by decide +kernel
theorem dX4_cut_35 : decode cX4_cut 35 = .ok (.i2l, 1) := by decide +kernel
theorem dX4_cut_36 : decode cX4_cut 36 = .ok (.lreturn, 1) := by decide +kernel
theorem dX4_cut_37 : decode cX4_cut 37 = .ok (.lload_n 1, 1) := by decide +kernel
theorem dX4_cut_38 : decode cX4_cut 38 = .ok (.l2i, 1) := by decide +kernel
theorem dX4_cut_39 : decode cX4_cut 39 = .ok (.i2s, 1) := by decide +kernel
theorem dX4_cut_40 : decode cX4_cut 40 = .ok (.i2l, 1) := by decide +kernel
theorem dX4_cut_41 : decode cX4_cut 41 = .ok (.lreturn, 1) := by decide +kernel
theorem dX4_cut_42 : decode cX4_cut 42 = .ok (.lload_n 1, 1) := by decide +kernel
theorem dX4_cut_43 : decode cX4_cut 43 = .ok (.l2i, 1) := by decide +kernel
theorem dX4_cut_44 : decode cX4_cut 44 = .ok (.i2l, 1) := by decide +kernel
theorem dX4_cut_45 : decode cX4_cut 45 = .ok (.lreturn, 1) := by decide +kernel
theorem dX4_cut_46 : decode cX4_cut 46 = .ok (.lload_n 1, 1) := by decide +kernel
theorem dX4_cut_47 : decode cX4_cut 47 = .ok (.lreturn, 1) := by decide +kernel
set_option maxRecDepth 4000 in
theorem kX4_cut (G : GT) {σ : St} {w : Nat} {a1 : Int64} (hw : isRow w) : ∀ (r : Int64) , fX4_cut σ w a1 = some r → MCt G 1 yX4_cut cX4_cut 3 (some .long) [.ref (gad G w), .long a1] σ (some (.long r)) σ := by
  intro r hF
  refine met_l (by decide) (Nat.le_of_ble_eq_true rfl) (fun X cx hE => ?_)
  have cx : Cx G X RX4 cX4_cut 3 1 := cx
  unfold fX4_cut at hF
  show WW G X 3 σ [(0, .ref (gad G w)), (1, .long a1)] 0 []
  refine ww_aload_n cx dX4_cut_0 rfl 0 rfl ?_
  refine gf_X4_19 cx (hw) dX4_cut_1 ?_
  by_cases e0 : (σ.1 w 1) = 0
  · replace hF := it_t e0 hF
    refine ww_tsIn (v := 0) (tgt := 32) cx dX4_cut_4 e0 (by decide) (by decide) rfl rfl ?_
    refine ww_lload_n cx dX4_cut_32 rfl 1 rfl ?_
    refine ww_l2i cx dX4_cut_33 ?_
    refine ww_i2b cx dX4_cut_34 ?_
    refine ww_i2l cx dX4_cut_35 ?_
    exact ww_rlp hE dX4_cut_36 hF
  replace hF := it_f e0 hF
  by_cases e1 : (σ.1 w 1) = 1
  · replace hF := it_t e1 hF
    refine ww_tsIn (v := 1) (tgt := 37) cx dX4_cut_4 e1 (by decide) (by decide) rfl rfl ?_
    refine ww_lload_n cx dX4_cut_37 rfl 1 rfl ?_
    refine ww_l2i cx dX4_cut_38 ?_
    refine ww_i2s cx dX4_cut_39 ?_
    refine ww_i2l cx dX4_cut_40 ?_
    exact ww_rlp hE dX4_cut_41 hF
  replace hF := it_f e1 hF
  by_cases e2 : (σ.1 w 1) = 2
  · replace hF := it_t e2 hF
    refine ww_tsIn (v := 2) (tgt := 42) cx dX4_cut_4 e2 (by decide) (by decide) rfl rfl ?_
    refine ww_lload_n cx dX4_cut_42 rfl 1 rfl ?_
    refine ww_l2i cx dX4_cut_43 ?_
    refine ww_i2l cx dX4_cut_44 ?_
    exact ww_rlp hE dX4_cut_45 hF
  replace hF := it_f e2 hF
  refine ww_tsOut (tgt := 46) cx dX4_cut_4 (ts_out3 e0 e1 e2) rfl ?_
  refine ww_lload_n cx dX4_cut_46 rfl 1 rfl ?_
  exact ww_rlp hE dX4_cut_47 hF
theorem dX5_isLeast_0 : decode cX5_isLeast 0 = .ok (.iconst 0, 1) := by decide +kernel
theorem dX5_isLeast_1 : decode cX5_isLeast 1 = .ok (.istore_n 3, 1) := by decide +kernel
theorem dX5_isLeast_2 : decode cX5_isLeast 2 = .ok (.iload_n 3, 1) := by decide +kernel
theorem dX5_isLeast_3 : decode cX5_isLeast 3 = .ok (.bipush 12, 2) := by decide +kernel
theorem dX5_isLeast_5 : decode cX5_isLeast 5 = .ok (.if_icmp .ge 52, 3) := by decide +kernel
theorem dX5_isLeast_8 : decode cX5_isLeast 8 = .ok (.iload_n 1, 1) := by decide +kernel
theorem dX5_isLeast_9 : decode cX5_isLeast 9 = .ok (.iload_n 3, 1) := by decide +kernel
theorem dX5_isLeast_10 : decode cX5_isLeast 10 = .ok (.ishr, 1) := by decide +kernel
theorem dX5_isLeast_11 : decode cX5_isLeast 11 = .ok (.iconst 1, 1) := by decide +kernel
theorem dX5_isLeast_12 : decode cX5_isLeast 12 = .ok (.iand, 1) := by decide +kernel
theorem dX5_isLeast_13 : decode cX5_isLeast 13 = .ok (.iconst 1, 1) := by decide +kernel
theorem dX5_isLeast_14 : decode cX5_isLeast 14 = .ok (.if_icmp .ne 7, 3) := by decide +kernel
theorem dX5_isLeast_17 : decode cX5_isLeast 17 = .ok (.iconst 1, 1) := by decide +kernel
theorem dX5_isLeast_18 : decode cX5_isLeast 18 = .ok (.goto 4, 3) := by decide +kernel
theorem dX5_isLeast_21 : decode cX5_isLeast 21 = .ok (.iconst 0, 1) := by decide +kernel
theorem dX5_isLeast_22 : decode cX5_isLeast 22 = .ok (.istore 4, 2) := by decide +kernel
theorem dX5_isLeast_24 : decode cX5_isLeast 24 = .ok (.iload 4, 2) := by decide +kernel
theorem dX5_isLeast_26 : decode cX5_isLeast 26 = .ok (.ifCond .eq 25, 3) := by decide +kernel
theorem dX5_isLeast_29 : decode cX5_isLeast 29 = .ok (.aload_n 0, 1) := by decide +kernel
theorem dX5_isLeast_30 : decode cX5_isLeast 30 = .ok (.getfield 9, 3) := by decide +kernel
theorem dX5_isLeast_33 : decode cX5_isLeast 33 = .ok (.iload_n 1, 1) := by decide +kernel
theorem dX5_isLeast_34 : decode cX5_isLeast 34 = .ok (.iconst 1, 1) := by decide +kernel
theorem dX5_isLeast_35 : decode cX5_isLeast 35 = .ok (.iload_n 3, 1) := by decide +kernel
theorem dX5_isLeast_36 : decode cX5_isLeast 36 = .ok (.ishl, 1) := by decide +kernel
theorem dX5_isLeast_37 : decode cX5_isLeast 37 = .ok (.iconst (-1), 1) := by decide +kernel
theorem dX5_isLeast_38 : decode cX5_isLeast 38 = .ok (.ixor, 1) := by decide +kernel
theorem dX5_isLeast_39 : decode cX5_isLeast 39 = .ok (.iand, 1) := by decide +kernel
theorem dX5_isLeast_40 : decode cX5_isLeast 40 = .ok (.iaload, 1) := by decide +kernel
theorem dX5_isLeast_41 : decode cX5_isLeast 41 = .ok (.iload_n 2, 1) := by decide +kernel
theorem dX5_isLeast_42 : decode cX5_isLeast 42 = .ok (.ishr, 1) := by decide +kernel
theorem dX5_isLeast_43 : decode cX5_isLeast 43 = .ok (.iconst 1, 1) := by decide +kernel
theorem dX5_isLeast_44 : decode cX5_isLeast 44 = .ok (.iand, 1) := by decide +kernel
theorem dX5_isLeast_45 : decode cX5_isLeast 45 = .ok (.iconst 1, 1) := by decide +kernel
theorem dX5_isLeast_46 : decode cX5_isLeast 46 = .ok (.if_icmp .ne 5, 3) := by decide +kernel
theorem dX5_isLeast_49 : decode cX5_isLeast 49 = .ok (.iconst 0, 1) := by decide +kernel
theorem dX5_isLeast_50 : decode cX5_isLeast 50 = .ok (.ireturn, 1) := by decide +kernel
theorem dX5_isLeast_51 : decode cX5_isLeast 51 = .ok (.iinc 3 1, 3) := by decide +kernel
theorem dX5_isLeast_54 : decode cX5_isLeast 54 = .ok (.goto (-52), 3) := by decide +kernel
theorem dX5_isLeast_57 : decode cX5_isLeast 57 = .ok (.iconst 1, 1) := by decide +kernel
theorem dX5_isLeast_58 : decode cX5_isLeast 58 = .ok (.ireturn, 1) := by decide +kernel
set_option maxRecDepth 4000 in
theorem kX5_isLeast (G : GT) {σ : St} {h : Nat} {a1 : Int32} {a2 : Int32} (hh : isShe h) : ∀ (r : Int32) , fX5_isLeast σ h a1 a2 = some r → MCt G 1 yX5_isLeast cX5_isLeast 5 (some .boolean) [.ref (gad G h), .int a1, .int a2] σ (some (.int r)) σ := by
  intro r hF
  refine met_zz (by decide) (Nat.le_of_ble_eq_true rfl) (fun X cx hE => ?_)
  have cx : Cx G X RX5 cX5_isLeast 5 1 := cx
  have hb22 : ∀ (kr2 : Int32 → Int32 → Int32 → Option (Int32)), (∀ (x1 : Int32) (x2 : Int32) (x3 : Int32) , kr2 x1 x2 x3 = some r → WW G X 5 σ [(0, .ref (gad G h)), (1, .int x1), (2, .int x2), (3, .int x3)] 2 []) → ∀ (x1 : Int32) (x2 : Int32) (x3 : Int32) (y0 : Int32) , fX5_isLeast_b22 σ h kr2 x1 x2 x3 y0 = some r → WW G X 5 σ [(0, .ref (gad G h)), (1, .int x1), (2, .int x2), (3, .int x3)] 22 [.int y0] := by
    intro kr2 hk2
    intro x1 x2 x3 y0 hF
    unfold fX5_isLeast_b22 at hF
    refine ww_istore (ks := [0, 1, 2, 3, 4]) (lv' := fun v1 => [(4, .int v1), (0, .ref (gad G h)), (1, .int x1), (2, .int x2), (3, .int x3)]) cx dX5_isLeast_22 (by decide) hF (fun _ => rfl) (fun v1 hF => ?_)
    refine ww_iload cx dX5_isLeast_24 0 rfl ?_
    refine ww_if_eq cx dX5_isLeast_26 (tgt := 51) rfl hF (fun hF => ?_) (fun hF => ?_)
    · refine ww_iinc (j := 4) (ks := [0, 2, 3, 4]) (lv' := fun v2 => [(3, .int v2), (0, .ref (gad G h)), (1, .int x1), (2, .int x2)]) cx dX5_isLeast_51 (by decide) rfl ic_1 hF (fun _ => rfl) (fun v2 hF => ?_)
      refine ww_goto cx dX5_isLeast_54 (tgt := 2) rfl ?_
      exact ww_sub [1, 2, 3, 0] rfl (hk2 _ _ _ hF)
    · refine ww_aload_n cx dX5_isLeast_29 rfl 1 rfl ?_
      refine gf_X5_9 cx (hh) dX5_isLeast_30 ?_
      refine ww_iload_n cx dX5_isLeast_33 rfl 2 rfl ?_
      refine ww_iconst cx dX5_isLeast_34 ic_1 ?_
      refine ww_iload_n cx dX5_isLeast_35 rfl 4 rfl ?_
      refine ww_ishl cx dX5_isLeast_36 ?_
      refine ww_iconst cx dX5_isLeast_37 ic_m1 ?_
      refine ww_ixor cx dX5_isLeast_38 ?_
      refine ww_iand cx dX5_isLeast_39 ?_
      refine ww_iald (N := 4096) cx (ar_X5_0 hh) dX5_isLeast_40 hF (fun hF => ?_)
      refine ww_iload_n cx dX5_isLeast_41 rfl 3 rfl ?_
      refine ww_ishr cx dX5_isLeast_42 ?_
      refine ww_iconst cx dX5_isLeast_43 ic_1 ?_
      refine ww_iand cx dX5_isLeast_44 ?_
      refine ww_iconst cx dX5_isLeast_45 ic_1 ?_
      refine ww_icmp_ne cx dX5_isLeast_46 (tgt := 51) rfl hF (fun hF => ?_) (fun hF => ?_)
      · refine ww_iinc (j := 4) (ks := [0, 2, 3, 4]) (lv' := fun v3 => [(3, .int v3), (0, .ref (gad G h)), (1, .int x1), (2, .int x2)]) cx dX5_isLeast_51 (by decide) rfl ic_1 hF (fun _ => rfl) (fun v3 hF => ?_)
        refine ww_goto cx dX5_isLeast_54 (tgt := 2) rfl ?_
        exact ww_sub [1, 2, 3, 0] rfl (hk2 _ _ _ hF)
      · refine ww_iconst cx dX5_isLeast_49 ic_0 ?_
        exact ww_rzp hE dX5_isLeast_50 hF
  have hl2 : ∀ n : Nat, ∀ (x1 : Int32) (x2 : Int32) (x3 : Int32) , fX5_isLeast_l2 σ h n x1 x2 x3 = some r → WW G X 5 σ [(0, .ref (gad G h)), (1, .int x1), (2, .int x2), (3, .int x3)] 2 [] := by
    intro n
    induction n with
    | zero =>
      intro x1 x2 x3 hF
      exact absurd hF (by intro z; cases z)
    | succ n ih =>
      intro x1 x2 x3 hF
      have hk2 := ih
      have hF : fX5_isLeast_B2 σ h (fX5_isLeast_l2 σ h n) x1 x2 x3 = some r := hF
      unfold fX5_isLeast_B2 at hF
      refine ww_iload_n cx dX5_isLeast_2 rfl 3 rfl ?_
      refine ww_bipush cx dX5_isLeast_3 bc_12 ?_
      refine ww_icmp_ge cx dX5_isLeast_5 (tgt := 57) rfl hF (fun hF => ?_) (fun hF => ?_)
      · refine ww_iconst cx dX5_isLeast_57 ic_1 ?_
        exact ww_rzp hE dX5_isLeast_58 hF
      · refine ww_iload_n cx dX5_isLeast_8 rfl 1 rfl ?_
        refine ww_iload_n cx dX5_isLeast_9 rfl 3 rfl ?_
        refine ww_ishr cx dX5_isLeast_10 ?_
        refine ww_iconst cx dX5_isLeast_11 ic_1 ?_
        refine ww_iand cx dX5_isLeast_12 ?_
        refine ww_iconst cx dX5_isLeast_13 ic_1 ?_
        refine ww_icmp_ne cx dX5_isLeast_14 (tgt := 21) rfl hF (fun hF => ?_) (fun hF => ?_)
        · refine ww_iconst cx dX5_isLeast_21 ic_0 ?_
          exact hb22 _ hk2 _ _ _ _ hF
        · refine ww_iconst cx dX5_isLeast_17 ic_1 ?_
          refine ww_goto cx dX5_isLeast_18 (tgt := 22) rfl ?_
          exact hb22 _ hk2 _ _ _ _ hF
  unfold fX5_isLeast at hF
  show WW G X 5 σ [(0, .ref (gad G h)), (1, .int a1), (2, .int a2)] 0 []
  refine ww_iconst cx dX5_isLeast_0 ic_0 ?_
  refine ww_istore_n (ks := [0, 1, 2, 3]) (lv' := fun v4 => [(3, .int v4), (0, .ref (gad G h)), (1, .int a1), (2, .int a2)]) cx dX5_isLeast_1 rfl (by decide) hF (fun _ => rfl) (fun v4 hF => ?_)
  exact ww_sub [1, 2, 3, 0] rfl (hl2 FU _ _ _ hF)
theorem dX5_subsetBehind_0 : decode cX5_subsetBehind 0 = .ok (.iload_n 0, 1) := by decide +kernel
theorem dX5_subsetBehind_1 : decode cX5_subsetBehind 1 = .ok (.iload_n 1, 1) := by decide +kernel
theorem dX5_subsetBehind_2 : decode cX5_subsetBehind 2 = .ok (.isub, 1) := by decide +kernel
theorem dX5_subsetBehind_3 : decode cX5_subsetBehind 3 = .ok (.iload_n 1, 1) := by decide +kernel
theorem dX5_subsetBehind_4 : decode cX5_subsetBehind 4 = .ok (.iand, 1) := by decide +kernel
theorem dX5_subsetBehind_5 : decode cX5_subsetBehind 5 = .ok (.ireturn, 1) := by decide +kernel
set_option maxRecDepth 4000 in
theorem kX5_subsetBehind (G : GT) {σ : St} {a0 : Int32} {a1 : Int32} : ∀ (r : Int32) , fX5_subsetBehind a0 a1 = some r → MCt G 1 yX5_subsetBehind cX5_subsetBehind 2 (some .int) [.int a0, .int a1] σ (some (.int r)) σ := by
  intro r hF
  refine met_i (by decide) (Nat.le_of_ble_eq_true rfl) (fun X cx hE => ?_)
  have cx : Cx G X RX5 cX5_subsetBehind 2 1 := cx
  unfold fX5_subsetBehind at hF
  show WW G X 2 σ [(0, .int a0), (1, .int a1)] 0 []
  refine ww_iload_n cx dX5_subsetBehind_0 rfl 0 rfl ?_
  refine ww_iload_n cx dX5_subsetBehind_1 rfl 1 rfl ?_
  refine ww_isub cx dX5_subsetBehind_2 ?_
  refine ww_iload_n cx dX5_subsetBehind_3 rfl 1 rfl ?_
  refine ww_iand cx dX5_subsetBehind_4 ?_
  exact ww_rip hE dX5_subsetBehind_5 hF
theorem dX5_withoutLowest_0 : decode cX5_withoutLowest 0 = .ok (.iload_n 0, 1) := by decide +kernel
theorem dX5_withoutLowest_1 : decode cX5_withoutLowest 1 = .ok (.iload_n 0, 1) := by decide +kernel
theorem dX5_withoutLowest_2 : decode cX5_withoutLowest 2 = .ok (.iconst 1, 1) := by decide +kernel
theorem dX5_withoutLowest_3 : decode cX5_withoutLowest 3 = .ok (.isub, 1) := by decide +kernel
theorem dX5_withoutLowest_4 : decode cX5_withoutLowest 4 = .ok (.iand, 1) := by decide +kernel
theorem dX5_withoutLowest_5 : decode cX5_withoutLowest 5 = .ok (.ireturn, 1) := by decide +kernel
set_option maxRecDepth 4000 in
theorem kX5_withoutLowest (G : GT) {σ : St} {a0 : Int32} : ∀ (r : Int32) , fX5_withoutLowest a0 = some r → MCt G 1 yX5_withoutLowest cX5_withoutLowest 1 (some .int) [.int a0] σ (some (.int r)) σ := by
  intro r hF
  refine met_i (by decide) (Nat.le_of_ble_eq_true rfl) (fun X cx hE => ?_)
  have cx : Cx G X RX5 cX5_withoutLowest 1 1 := cx
  unfold fX5_withoutLowest at hF
  show WW G X 1 σ [(0, .int a0)] 0 []
  refine ww_iload_n cx dX5_withoutLowest_0 rfl 0 rfl ?_
  refine ww_iload_n cx dX5_withoutLowest_1 rfl 0 rfl ?_
  refine ww_iconst cx dX5_withoutLowest_2 ic_1 ?_
  refine ww_isub cx dX5_withoutLowest_3 ?_
  refine ww_iand cx dX5_withoutLowest_4 ?_
  exact ww_rip hE dX5_withoutLowest_5 hF
theorem dX6_addStep_0 : decode cX6_addStep 0 = .ok (.aload_n 0, 1) := by decide +kernel
theorem dX6_addStep_1 : decode cX6_addStep 1 = .ok (.getfield 46, 3) := by decide +kernel
theorem dX6_addStep_4 : decode cX6_addStep 4 = .ok (.bipush 12, 2) := by decide +kernel
theorem dX6_addStep_6 : decode cX6_addStep 6 = .ok (.if_icmp .ge 33, 3) := by decide +kernel
theorem dX6_addStep_9 : decode cX6_addStep 9 = .ok (.aload_n 0, 1) := by decide +kernel
theorem dX6_addStep_10 : decode cX6_addStep 10 = .ok (.getfield 18, 3) := by decide +kernel
theorem dX6_addStep_13 : decode cX6_addStep 13 = .ok (.aload_n 0, 1) := by decide +kernel
theorem dX6_addStep_14 : decode cX6_addStep 14 = .ok (.getfield 46, 3) := by decide +kernel
theorem dX6_addStep_17 : decode cX6_addStep 17 = .ok (.iload_n 1, 1) := by decide +kernel
theorem dX6_addStep_18 : decode cX6_addStep 18 = .ok (.iastore, 1) := by decide +kernel
theorem dX6_addStep_19 : decode cX6_addStep 19 = .ok (.aload_n 0, 1) := by decide +kernel
theorem dX6_addStep_20 : decode cX6_addStep 20 = .ok (.getfield 21, 3) := by decide +kernel
theorem dX6_addStep_23 : decode cX6_addStep 23 = .ok (.aload_n 0, 1) := by decide +kernel
theorem dX6_addStep_24 : decode cX6_addStep 24 = .ok (.getfield 46, 3) := by decide +kernel
theorem dX6_addStep_27 : decode cX6_addStep 27 = .ok (.iload_n 2, 1) := by decide +kernel
theorem dX6_addStep_28 : decode cX6_addStep 28 = .ok (.iastore, 1) := by decide +kernel
theorem dX6_addStep_29 : decode cX6_addStep 29 = .ok (.aload_n 0, 1) := by decide +kernel
theorem dX6_addStep_30 : decode cX6_addStep 30 = .ok (.dup, 1) := by decide +kernel
theorem dX6_addStep_31 : decode cX6_addStep 31 = .ok (.getfield 46, 3) := by decide +kernel
theorem dX6_addStep_34 : decode cX6_addStep 34 = .ok (.iconst 1, 1) := by decide +kernel
theorem dX6_addStep_35 : decode cX6_addStep 35 = .ok (.iadd, 1) := by decide +kernel
theorem dX6_addStep_36 : decode cX6_addStep 36 = .ok (.putfield 46, 3) := by decide +kernel
theorem dX6_addStep_39 : decode cX6_addStep 39 = .ok (.return_, 1) := by decide +kernel
set_option maxRecDepth 4000 in
theorem kX6_addStep (G : GT) {σ : St} {t : Nat} {a1 : Int32} {a2 : Int32} (ht : isTab t) : ∀ (σo : St) , fX6_addStep σ t a1 a2 = some σo → MCt G 1 yX6_addStep cX6_addStep 3 (none) [.ref (gad G t), .int a1, .int a2] σ (none) σo := by
  intro σo hF
  refine met_v (by decide) (Nat.le_of_ble_eq_true rfl) (fun X cx hE => ?_)
  have cx : Cx G X RX6 cX6_addStep 3 1 := cx
  unfold fX6_addStep at hF
  show WW G X 3 σ [(0, .ref (gad G t)), (1, .int a1), (2, .int a2)] 0 []
  refine ww_aload_n cx dX6_addStep_0 rfl 0 rfl ?_
  refine gf_X6_46 cx (ht) dX6_addStep_1 ?_
  refine ww_bipush cx dX6_addStep_4 bc_12 ?_
  refine ww_icmp_ge cx dX6_addStep_6 (tgt := 39) rfl hF (fun hF => ?_) (fun hF => ?_)
  · exact ww_rvs hE dX6_addStep_39 hF
  · refine ww_aload_n cx dX6_addStep_9 rfl 0 rfl ?_
    refine gf_X6_18 cx (ht) dX6_addStep_10 ?_
    refine ww_aload_n cx dX6_addStep_13 rfl 0 rfl ?_
    refine gf_X6_46 cx (ht) dX6_addStep_14 ?_
    refine ww_iload_n cx dX6_addStep_17 rfl 1 rfl ?_
    refine ww_iast (N := 12) cx (ar_X6_10 ht) dX6_addStep_18 hF (fun σ1 hF => ?_)
    refine ww_aload_n cx dX6_addStep_19 rfl 0 rfl ?_
    refine gf_X6_21 cx (ht) dX6_addStep_20 ?_
    refine ww_aload_n cx dX6_addStep_23 rfl 0 rfl ?_
    refine gf_X6_46 cx (ht) dX6_addStep_24 ?_
    refine ww_iload_n cx dX6_addStep_27 rfl 2 rfl ?_
    refine ww_iast (N := 12) cx (ar_X6_11 ht) dX6_addStep_28 hF (fun σ2 hF => ?_)
    refine ww_aload_n cx dX6_addStep_29 rfl 0 rfl ?_
    refine ww_dup cx dX6_addStep_30 rfl ?_
    refine gf_X6_46 cx (ht) dX6_addStep_31 ?_
    refine ww_iconst cx dX6_addStep_34 ic_1 ?_
    refine ww_iadd cx dX6_addStep_35 ?_
    refine pf_X6_46 cx (ht) dX6_addStep_36 hF (fun σ3 hF => ?_)
    exact ww_rvs hE dX6_addStep_39 hF
theorem dX6_allSteps_0 : decode cX6_allSteps 0 = .ok (.iconst 1, 1) := by decide +kernel
theorem dX6_allSteps_1 : decode cX6_allSteps 1 = .ok (.aload_n 0, 1) := by decide +kernel
theorem dX6_allSteps_2 : decode cX6_allSteps 2 = .ok (.getfield 46, 3) := by decide +kernel
theorem dX6_allSteps_5 : decode cX6_allSteps 5 = .ok (.ishl, 1) := by decide +kernel
theorem dX6_allSteps_6 : decode cX6_allSteps 6 = .ok (.iconst 1, 1) := by decide +kernel
theorem dX6_allSteps_7 : decode cX6_allSteps 7 = .ok (.isub, 1) := by decide +kernel
theorem dX6_allSteps_8 : decode cX6_allSteps 8 = .ok (.ireturn, 1) := by decide +kernel
set_option maxRecDepth 4000 in
theorem kX6_allSteps (G : GT) {σ : St} {t : Nat} (ht : isTab t) : ∀ (r : Int32) , fX6_allSteps σ t = some r → MCt G 1 yX6_allSteps cX6_allSteps 1 (some .int) [.ref (gad G t)] σ (some (.int r)) σ := by
  intro r hF
  refine met_i (by decide) (Nat.le_of_ble_eq_true rfl) (fun X cx hE => ?_)
  have cx : Cx G X RX6 cX6_allSteps 1 1 := cx
  unfold fX6_allSteps at hF
  show WW G X 1 σ [(0, .ref (gad G t))] 0 []
  refine ww_iconst cx dX6_allSteps_0 ic_1 ?_
  refine ww_aload_n cx dX6_allSteps_1 rfl 0 rfl ?_
  refine gf_X6_46 cx (ht) dX6_allSteps_2 ?_
  refine ww_ishl cx dX6_allSteps_5 ?_
  refine ww_iconst cx dX6_allSteps_6 ic_1 ?_
  refine ww_isub cx dX6_allSteps_7 ?_
  exact ww_rip hE dX6_allSteps_8 hF
theorem dX6_allWorlds_0 : decode cX6_allWorlds 0 = .ok (.iconst 1, 1) := by decide +kernel
theorem dX6_allWorlds_1 : decode cX6_allWorlds 1 = .ok (.iconst 1, 1) := by decide +kernel
theorem dX6_allWorlds_2 : decode cX6_allWorlds 2 = .ok (.aload_n 0, 1) := by decide +kernel
theorem dX6_allWorlds_3 : decode cX6_allWorlds 3 = .ok (.getfield 34, 3) := by decide +kernel
theorem dX6_allWorlds_6 : decode cX6_allWorlds 6 = .ok (.ishl, 1) := by decide +kernel
theorem dX6_allWorlds_7 : decode cX6_allWorlds 7 = .ok (.ishl, 1) := by decide +kernel
theorem dX6_allWorlds_8 : decode cX6_allWorlds 8 = .ok (.iconst 1, 1) := by decide +kernel
theorem dX6_allWorlds_9 : decode cX6_allWorlds 9 = .ok (.isub, 1) := by decide +kernel
theorem dX6_allWorlds_10 : decode cX6_allWorlds 10 = .ok (.ireturn, 1) := by decide +kernel
set_option maxRecDepth 4000 in
theorem kX6_allWorlds (G : GT) {σ : St} {t : Nat} (ht : isTab t) : ∀ (r : Int32) , fX6_allWorlds σ t = some r → MCt G 1 yX6_allWorlds cX6_allWorlds 1 (some .int) [.ref (gad G t)] σ (some (.int r)) σ := by
  intro r hF
  refine met_i (by decide) (Nat.le_of_ble_eq_true rfl) (fun X cx hE => ?_)
  have cx : Cx G X RX6 cX6_allWorlds 1 1 := cx
  unfold fX6_allWorlds at hF
  show WW G X 1 σ [(0, .ref (gad G t))] 0 []
  refine ww_iconst cx dX6_allWorlds_0 ic_1 ?_
  refine ww_iconst cx dX6_allWorlds_1 ic_1 ?_
  refine ww_aload_n cx dX6_allWorlds_2 rfl 0 rfl ?_
  refine gf_X6_34 cx (ht) dX6_allWorlds_3 ?_
  refine ww_ishl cx dX6_allWorlds_6 ?_
  refine ww_ishl cx dX6_allWorlds_7 ?_
  refine ww_iconst cx dX6_allWorlds_8 ic_1 ?_
  refine ww_isub cx dX6_allWorlds_9 ?_
  exact ww_rip hE dX6_allWorlds_10 hF
theorem dX6_canDo_0 : decode cX6_canDo 0 = .ok (.aload_n 0, 1) := by decide +kernel
theorem dX6_canDo_1 : decode cX6_canDo 1 = .ok (.getfield 24, 3) := by decide +kernel
theorem dX6_canDo_4 : decode cX6_canDo 4 = .ok (.iload_n 1, 1) := by decide +kernel
theorem dX6_canDo_5 : decode cX6_canDo 5 = .ok (.iaload, 1) := by decide +kernel
theorem dX6_canDo_6 : decode cX6_canDo 6 = .ok (.ifCond .le 17, 3) := by decide +kernel
theorem dX6_canDo_9 : decode cX6_canDo 9 = .ok (.aload_n 0, 1) := by decide +kernel
theorem dX6_canDo_10 : decode cX6_canDo 10 = .ok (.getfield 37, 3) := by decide +kernel
theorem dX6_canDo_13 : decode cX6_canDo 13 = .ok (.aload_n 0, 1) := by decide +kernel
theorem dX6_canDo_14 : decode cX6_canDo 14 = .ok (.getfield 24, 3) := by decide +kernel
theorem dX6_canDo_17 : decode cX6_canDo 17 = .ok (.iload_n 1, 1) := by decide +kernel
theorem dX6_canDo_18 : decode cX6_canDo 18 = .ok (.iaload, 1) := by decide +kernel
theorem dX6_canDo_19 : decode cX6_canDo 19 = .ok (.idiv, 1) := by decide +kernel
theorem dX6_canDo_20 : decode cX6_canDo 20 = .ok (.goto 4, 3) := by decide +kernel
theorem dX6_canDo_23 : decode cX6_canDo 23 = .ok (.iconst 0, 1) := by decide +kernel
theorem dX6_canDo_24 : decode cX6_canDo 24 = .ok (.ireturn, 1) := by decide +kernel
set_option maxRecDepth 4000 in
theorem kX6_canDo (G : GT) {σ : St} {t : Nat} {a1 : Int32} (ht : isTab t) : ∀ (r : Int32) , fX6_canDo σ t a1 = some r → MCt G 1 yX6_canDo cX6_canDo 2 (some .int) [.ref (gad G t), .int a1] σ (some (.int r)) σ := by
  intro r hF
  refine met_i (by decide) (Nat.le_of_ble_eq_true rfl) (fun X cx hE => ?_)
  have cx : Cx G X RX6 cX6_canDo 2 1 := cx
  unfold fX6_canDo at hF
  show WW G X 2 σ [(0, .ref (gad G t)), (1, .int a1)] 0 []
  refine ww_aload_n cx dX6_canDo_0 rfl 0 rfl ?_
  refine gf_X6_24 cx (ht) dX6_canDo_1 ?_
  refine ww_iload_n cx dX6_canDo_4 rfl 1 rfl ?_
  refine ww_iald (N := 5) cx (ar_X6_12 ht) dX6_canDo_5 hF (fun hF => ?_)
  refine ww_if_le cx dX6_canDo_6 (tgt := 23) rfl hF (fun hF => ?_) (fun hF => ?_)
  · refine ww_iconst cx dX6_canDo_23 ic_0 ?_
    exact ww_rip hE dX6_canDo_24 hF
  · refine ww_aload_n cx dX6_canDo_9 rfl 0 rfl ?_
    refine gf_X6_37 cx (ht) dX6_canDo_10 ?_
    refine ww_aload_n cx dX6_canDo_13 rfl 0 rfl ?_
    refine gf_X6_24 cx (ht) dX6_canDo_14 ?_
    refine ww_iload_n cx dX6_canDo_17 rfl 1 rfl ?_
    refine ww_iald (N := 5) cx (ar_X6_12 ht) dX6_canDo_18 hF (fun hF => ?_)
    refine ww_idiv cx dX6_canDo_19 hF (fun hF => ?_)
    refine ww_goto cx dX6_canDo_20 (tgt := 24) rfl ?_
    exact ww_rip hE dX6_canDo_24 hF
