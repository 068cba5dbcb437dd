theorem dX6_claimsHoldingIn_0 : decode cX6_claimsHoldingIn 0 = .ok (.iconst 0, 1) := by decide +kernel
theorem dX6_claimsHoldingIn_1 : decode cX6_claimsHoldingIn 1 = .ok (.istore_n 2, 1) := by decide +kernel
theorem dX6_claimsHoldingIn_2 : decode cX6_claimsHoldingIn 2 = .ok (.iconst 0, 1) := by decide +kernel
theorem dX6_claimsHoldingIn_3 : decode cX6_claimsHoldingIn 3 = .ok (.istore_n 3, 1) := by decide +kernel
theorem dX6_claimsHoldingIn_4 : decode cX6_claimsHoldingIn 4 = .ok (.iload_n 3, 1) := by decide +kernel
theorem dX6_claimsHoldingIn_5 : decode cX6_claimsHoldingIn 5 = .ok (.aload_n 0, 1) := by decide +kernel
theorem dX6_claimsHoldingIn_6 : decode cX6_claimsHoldingIn 6 = .ok (.getfield 43, 3) := by decide +kernel
theorem dX6_claimsHoldingIn_9 : decode cX6_claimsHoldingIn 9 = .ok (.if_icmp .ge 25, 3) := by decide +kernel
theorem dX6_claimsHoldingIn_12 : decode cX6_claimsHoldingIn 12 = .ok (.aload_n 0, 1) := by decide +kernel
theorem dX6_claimsHoldingIn_13 : decode cX6_claimsHoldingIn 13 = .ok (.getfield 15, 3) := by decide +kernel
theorem dX6_claimsHoldingIn_16 : decode cX6_claimsHoldingIn 16 = .ok (.iload_n 3, 1) := by decide +kernel
theorem dX6_claimsHoldingIn_17 : decode cX6_claimsHoldingIn 17 = .ok (.iaload, 1) := by decide +kernel
theorem dX6_claimsHoldingIn_18 : decode cX6_claimsHoldingIn 18 = .ok (.iload_n 1, 1) := by decide +kernel
theorem dX6_claimsHoldingIn_19 : decode cX6_claimsHoldingIn 19 = .ok (.if_icmp .ne 9, 3) := by decide +kernel
theorem dX6_claimsHoldingIn_22 : decode cX6_claimsHoldingIn 22 = .ok (.iload_n 2, 1) := by decide +kernel
theorem dX6_claimsHoldingIn_23 : decode cX6_claimsHoldingIn 23 = .ok (.iconst 1, 1) := by decide +kernel
theorem dX6_claimsHoldingIn_24 : decode cX6_claimsHoldingIn 24 = .ok (.iload_n 3, 1) := by decide +kernel
theorem dX6_claimsHoldingIn_25 : decode cX6_claimsHoldingIn 25 = .ok (.ishl, 1) := by decide +kernel
theorem dX6_claimsHoldingIn_26 : decode cX6_claimsHoldingIn 26 = .ok (.ior, 1) := by decide +kernel
theorem dX6_claimsHoldingIn_27 : decode cX6_claimsHoldingIn 27 = .ok (.istore_n 2, 1) := by decide +kernel
theorem dX6_claimsHoldingIn_28 : decode cX6_claimsHoldingIn 28 = .ok (.iinc 3 1, 3) := by decide +kernel
theorem dX6_claimsHoldingIn_31 : decode cX6_claimsHoldingIn 31 = .ok (.goto (-27), 3) := by decide +kernel
theorem dX6_claimsHoldingIn_34 : decode cX6_claimsHoldingIn 34 = .ok (.iload_n 2, 1) := by decide +kernel
theorem dX6_claimsHoldingIn_35 : decode cX6_claimsHoldingIn 35 = .ok (.ireturn, 1) := by decide +kernel
set_option maxRecDepth 4000 in
theorem kX6_claimsHoldingIn (G : GT) {σ : St} {t : Nat} {a1 : Int32} (ht : isTab t) : ∀ (r : Int32) , fX6_claimsHoldingIn σ t a1 = some r → MCt G 1 yX6_claimsHoldingIn cX6_claimsHoldingIn 4 (some .int) [.ref (gad G t), .int a1] σ (some (.int r)) σ := by
  intro r hF
  refine met_i (by decide) (Nat.le_of_ble_eq_true rfl) (fun X cx hE => ?_)
  have cx : Cx G X RX6 cX6_claimsHoldingIn 4 1 := cx
  have hl4 : ∀ n : Nat, ∀ (x1 : Int32) (x2 : Int32) (x3 : Int32) , fX6_claimsHoldingIn_l4 σ t n x1 x2 x3 = some r → WW G X 4 σ [(0, .ref (gad G t)), (1, .int x1), (2, .int x2), (3, .int x3)] 4 [] := by
    intro n
    induction n with
    | zero =>
      intro x1 x2 x3 hF
      exact absurd hF (by intro z; cases z)
    | succ n ih =>
      intro x1 x2 x3 hF
      have hk4 := ih
      have hF : fX6_claimsHoldingIn_B4 σ t (fX6_claimsHoldingIn_l4 σ t n) x1 x2 x3 = some r := hF
      unfold fX6_claimsHoldingIn_B4 at hF
      refine ww_iload_n cx dX6_claimsHoldingIn_4 rfl 3 rfl ?_
      refine ww_aload_n cx dX6_claimsHoldingIn_5 rfl 0 rfl ?_
      refine gf_X6_43 cx (ht) dX6_claimsHoldingIn_6 ?_
      refine ww_icmp_ge cx dX6_claimsHoldingIn_9 (tgt := 34) rfl hF (fun hF => ?_) (fun hF => ?_)
      · refine ww_iload_n cx dX6_claimsHoldingIn_34 rfl 2 rfl ?_
        exact ww_rip hE dX6_claimsHoldingIn_35 hF
      · refine ww_aload_n cx dX6_claimsHoldingIn_12 rfl 0 rfl ?_
        refine gf_X6_15 cx (ht) dX6_claimsHoldingIn_13 ?_
        refine ww_iload_n cx dX6_claimsHoldingIn_16 rfl 3 rfl ?_
        refine ww_iald (N := 12) cx (ar_X6_9 ht) dX6_claimsHoldingIn_17 hF (fun hF => ?_)
        refine ww_iload_n cx dX6_claimsHoldingIn_18 rfl 1 rfl ?_
        refine ww_icmp_ne cx dX6_claimsHoldingIn_19 (tgt := 28) rfl hF (fun hF => ?_) (fun hF => ?_)
        · refine ww_iinc (j := 3) (ks := [0, 1, 2, 3]) (lv' := fun v1 => [(3, .int v1), (0, .ref (gad G t)), (1, .int x1), (2, .int x2)]) cx dX6_claimsHoldingIn_28 (by decide) rfl ic_1 hF (fun _ => rfl) (fun v1 hF => ?_)
          refine ww_goto cx dX6_claimsHoldingIn_31 (tgt := 4) rfl ?_
          exact ww_sub [1, 2, 3, 0] rfl (hk4 _ _ _ hF)
        · refine ww_iload_n cx dX6_claimsHoldingIn_22 rfl 2 rfl ?_
          refine ww_iconst cx dX6_claimsHoldingIn_23 ic_1 ?_
          refine ww_iload_n cx dX6_claimsHoldingIn_24 rfl 3 rfl ?_
          refine ww_ishl cx dX6_claimsHoldingIn_25 ?_
          refine ww_ior cx dX6_claimsHoldingIn_26 ?_
          refine ww_istore_n (ks := [0, 1, 2, 3]) (lv' := fun v2 => [(2, .int v2), (0, .ref (gad G t)), (1, .int x1), (3, .int x3)]) cx dX6_claimsHoldingIn_27 rfl (by decide) hF (fun _ => rfl) (fun v2 hF => ?_)
          refine ww_iinc (j := 3) (ks := [0, 1, 2, 3]) (lv' := fun v3 => [(3, .int v3), (2, .int v2), (0, .ref (gad G t)), (1, .int x1)]) cx dX6_claimsHoldingIn_28 (by decide) rfl ic_1 hF (fun _ => rfl) (fun v3 hF => ?_)
          refine ww_goto cx dX6_claimsHoldingIn_31 (tgt := 4) rfl ?_
          exact ww_sub [2, 3, 1, 0] rfl (hk4 _ _ _ hF)
  unfold fX6_claimsHoldingIn at hF
  show WW G X 4 σ [(0, .ref (gad G t)), (1, .int a1)] 0 []
  refine ww_iconst cx dX6_claimsHoldingIn_0 ic_0 ?_
  refine ww_istore_n (ks := [0, 1, 2]) (lv' := fun v4 => [(2, .int v4), (0, .ref (gad G t)), (1, .int a1)]) cx dX6_claimsHoldingIn_1 rfl (by decide) hF (fun _ => rfl) (fun v4 hF => ?_)
  refine ww_iconst cx dX6_claimsHoldingIn_2 ic_0 ?_
  refine ww_istore_n (ks := [0, 1, 2, 3]) (lv' := fun v5 => [(3, .int v5), (2, .int v4), (0, .ref (gad G t)), (1, .int a1)]) cx dX6_claimsHoldingIn_3 rfl (by decide) hF (fun _ => rfl) (fun v5 hF => ?_)
  exact ww_sub [2, 3, 1, 0] rfl (hl4 FU _ _ _ hF)
theorem dX6_clear_0 : decode cX6_clear 0 = .ok (.aload_n 0, 1) := by decide +kernel
theorem dX6_clear_1 : decode cX6_clear 1 = .ok (.iconst 0, 1) := by decide +kernel
theorem dX6_clear_2 : decode cX6_clear 2 = .ok (.putfield 30, 3) := by decide +kernel
theorem dX6_clear_5 : decode cX6_clear 5 = .ok (.aload_n 0, 1) := by decide +kernel
theorem dX6_clear_6 : decode cX6_clear 6 = .ok (.iconst 0, 1) := by decide +kernel
theorem dX6_clear_7 : decode cX6_clear 7 = .ok (.putfield 34, 3) := by decide +kernel
theorem dX6_clear_10 : decode cX6_clear 10 = .ok (.aload_n 0, 1) := by decide +kernel
theorem dX6_clear_11 : decode cX6_clear 11 = .ok (.iconst 0, 1) := by decide +kernel
theorem dX6_clear_12 : decode cX6_clear 12 = .ok (.putfield 37, 3) := by decide +kernel
theorem dX6_clear_15 : decode cX6_clear 15 = .ok (.aload_n 0, 1) := by decide +kernel
theorem dX6_clear_16 : decode cX6_clear 16 = .ok (.iconst 0, 1) := by decide +kernel
theorem dX6_clear_17 : decode cX6_clear 17 = .ok (.putfield 40, 3) := by decide +kernel
theorem dX6_clear_20 : decode cX6_clear 20 = .ok (.aload_n 0, 1) := by decide +kernel
theorem dX6_clear_21 : decode cX6_clear 21 = .ok (.iconst 0, 1) := by decide +kernel
theorem dX6_clear_22 : decode cX6_clear 22 = .ok (.putfield 43, 3) := by decide +kernel
theorem dX6_clear_25 : decode cX6_clear 25 = .ok (.aload_n 0, 1) := by decide +kernel
theorem dX6_clear_26 : decode cX6_clear 26 = .ok (.iconst 0, 1) := by decide +kernel
theorem dX6_clear_27 : decode cX6_clear 27 = .ok (.putfield 46, 3) := by decide +kernel
theorem dX6_clear_30 : decode cX6_clear 30 = .ok (.aload_n 0, 1) := by decide +kernel
theorem dX6_clear_31 : decode cX6_clear 31 = .ok (.iconst 0, 1) := by decide +kernel
theorem dX6_clear_32 : decode cX6_clear 32 = .ok (.putfield 49, 3) := by decide +kernel
theorem dX6_clear_35 : decode cX6_clear 35 = .ok (.aload_n 0, 1) := by decide +kernel
theorem dX6_clear_36 : decode cX6_clear 36 = .ok (.iconst 0, 1) := by decide +kernel
theorem dX6_clear_37 : decode cX6_clear 37 = .ok (.putfield 52, 3) := by decide +kernel
theorem dX6_clear_40 : decode cX6_clear 40 = .ok (.return_, 1) := by decide +kernel
set_option maxRecDepth 4000 in
theorem kX6_clear (G : GT) {σ : St} {t : Nat} (ht : isTab t) : ∀ (σo : St) , fX6_clear σ t = some σo → MCt G 1 yX6_clear cX6_clear 1 (none) [.ref (gad G t)] σ (none) σo := by
  intro σo hF
  refine met_v (by decide) (Nat.le_of_ble_eq_true rfl) (fun X cx hE => ?_)
  have cx : Cx G X RX6 cX6_clear 1 1 := cx
  unfold fX6_clear at hF
  show WW G X 1 σ [(0, .ref (gad G t))] 0 []
  refine ww_aload_n cx dX6_clear_0 rfl 0 rfl ?_
  refine ww_iconst cx dX6_clear_1 ic_0 ?_
  refine pf_X6_30 cx (ht) dX6_clear_2 hF (fun σ1 hF => ?_)
  refine ww_aload_n cx dX6_clear_5 rfl 0 rfl ?_
  refine ww_iconst cx dX6_clear_6 ic_0 ?_
  refine pf_X6_34 cx (ht) dX6_clear_7 hF (fun σ2 hF => ?_)
  refine ww_aload_n cx dX6_clear_10 rfl 0 rfl ?_
  refine ww_iconst cx dX6_clear_11 ic_0 ?_
  refine pf_X6_37 cx (ht) dX6_clear_12 hF (fun σ3 hF => ?_)
  refine ww_aload_n cx dX6_clear_15 rfl 0 rfl ?_
  refine ww_iconst cx dX6_clear_16 ic_0 ?_
  refine pf_X6_40 cx (ht) dX6_clear_17 hF (fun σ4 hF => ?_)
  refine ww_aload_n cx dX6_clear_20 rfl 0 rfl ?_
  refine ww_iconst cx dX6_clear_21 ic_0 ?_
  refine pf_X6_43 cx (ht) dX6_clear_22 hF (fun σ5 hF => ?_)
  refine ww_aload_n cx dX6_clear_25 rfl 0 rfl ?_
  refine ww_iconst cx dX6_clear_26 ic_0 ?_
  refine pf_X6_46 cx (ht) dX6_clear_27 hF (fun σ6 hF => ?_)
  refine ww_aload_n cx dX6_clear_30 rfl 0 rfl ?_
  refine ww_iconst cx dX6_clear_31 ic_0 ?_
  refine pf_X6_49 cx (ht) dX6_clear_32 hF (fun σ7 hF => ?_)
  refine ww_aload_n cx dX6_clear_35 rfl 0 rfl ?_
  refine ww_iconst cx dX6_clear_36 ic_0 ?_
  refine pf_X6_52 cx (ht) dX6_clear_37 hF (fun σ8 hF => ?_)
  exact ww_rvs hE dX6_clear_40 hF
theorem dX6_dropStep_0 : decode cX6_dropStep 0 = .ok (.aload_n 0, 1) := by decide +kernel
theorem dX6_dropStep_1 : decode cX6_dropStep 1 = .ok (.getfield 46, 3) := by decide +kernel
theorem dX6_dropStep_4 : decode cX6_dropStep 4 = .ok (.ifCond .le 46, 3) := by decide +kernel
theorem dX6_dropStep_7 : decode cX6_dropStep 7 = .ok (.aload_n 0, 1) := by decide +kernel
theorem dX6_dropStep_8 : decode cX6_dropStep 8 = .ok (.dup, 1) := by decide +kernel
theorem dX6_dropStep_9 : decode cX6_dropStep 9 = .ok (.getfield 46, 3) := by decide +kernel
theorem dX6_dropStep_12 : decode cX6_dropStep 12 = .ok (.iconst 1, 1) := by decide +kernel
theorem dX6_dropStep_13 : decode cX6_dropStep 13 = .ok (.isub, 1) := by decide +kernel
theorem dX6_dropStep_14 : decode cX6_dropStep 14 = .ok (.putfield 46, 3) := by decide +kernel
theorem dX6_dropStep_17 : decode cX6_dropStep 17 = .ok (.iconst 0, 1) := by decide +kernel
theorem dX6_dropStep_18 : decode cX6_dropStep 18 = .ok (.istore_n 1, 1) := by decide +kernel
theorem dX6_dropStep_19 : decode cX6_dropStep 19 = .ok (.iload_n 1, 1) := by decide +kernel
theorem dX6_dropStep_20 : decode cX6_dropStep 20 = .ok (.aload_n 0, 1) := by decide +kernel
theorem dX6_dropStep_21 : decode cX6_dropStep 21 = .ok (.getfield 49, 3) := by decide +kernel
theorem dX6_dropStep_24 : decode cX6_dropStep 24 = .ok (.if_icmp .ge 26, 3) := by decide +kernel
theorem dX6_dropStep_27 : decode cX6_dropStep 27 = .ok (.aload_n 0, 1) := by decide +kernel
theorem dX6_dropStep_28 : decode cX6_dropStep 28 = .ok (.getfield 27, 3) := by decide +kernel
theorem dX6_dropStep_31 : decode cX6_dropStep 31 = .ok (.iload_n 1, 1) := by decide +kernel
theorem dX6_dropStep_32 : decode cX6_dropStep 32 = .ok (.dup2, 1) := by decide +kernel
theorem dX6_dropStep_33 : decode cX6_dropStep 33 = .ok (.iaload, 1) := by decide +kernel
theorem dX6_dropStep_34 : decode cX6_dropStep 34 = .ok (.iconst 1, 1) := by decide +kernel
theorem dX6_dropStep_35 : decode cX6_dropStep 35 = .ok (.aload_n 0, 1) := by decide +kernel
theorem dX6_dropStep_36 : decode cX6_dropStep 36 = .ok (.getfield 46, 3) := by decide +kernel
theorem dX6_dropStep_39 : decode cX6_dropStep 39 = .ok (.ishl, 1) := by decide +kernel
theorem dX6_dropStep_40 : decode cX6_dropStep 40 = .ok (.iconst (-1), 1) := by decide +kernel
theorem dX6_dropStep_41 : decode cX6_dropStep 41 = .ok (.ixor, 1) := by decide +kernel
theorem dX6_dropStep_42 : decode cX6_dropStep 42 = .ok (.iand, 1) := by decide +kernel
theorem dX6_dropStep_43 : decode cX6_dropStep 43 = .ok (.iastore, 1) := by decide +kernel
theorem dX6_dropStep_44 : decode cX6_dropStep 44 = .ok (.iinc 1 1, 3) := by decide +kernel
theorem dX6_dropStep_47 : decode cX6_dropStep 47 = .ok (.goto (-28), 3) := by decide +kernel
theorem dX6_dropStep_50 : decode cX6_dropStep 50 = .ok (.return_, 1) := by decide +kernel
set_option maxRecDepth 4000 in
theorem kX6_dropStep (G : GT) {σ : St} {t : Nat} (ht : isTab t) : ∀ (σo : St) , fX6_dropStep σ t = some σo → MCt G 1 yX6_dropStep cX6_dropStep 2 (none) [.ref (gad G t)] σ (none) σo := by
  intro σo hF
  refine met_v (by decide) (Nat.le_of_ble_eq_true rfl) (fun X cx hE => ?_)
  have cx : Cx G X RX6 cX6_dropStep 2 1 := cx
  have hl19 : ∀ n : Nat, ∀ (σ : St) (x1 : Int32) , fX6_dropStep_l19 t n σ x1 = some σo → WW G X 2 σ [(0, .ref (gad G t)), (1, .int x1)] 19 [] := by
    intro n
    induction n with
    | zero =>
      intro σ x1 hF
      exact absurd hF (by intro z; cases z)
    | succ n ih =>
      intro σ x1 hF
      have hk19 := ih
      have hF : fX6_dropStep_B19 t (fX6_dropStep_l19 t n) σ x1 = some σo := hF
      unfold fX6_dropStep_B19 at hF
      refine ww_iload_n cx dX6_dropStep_19 rfl 1 rfl ?_
      refine ww_aload_n cx dX6_dropStep_20 rfl 0 rfl ?_
      refine gf_X6_49 cx (ht) dX6_dropStep_21 ?_
      refine ww_icmp_ge cx dX6_dropStep_24 (tgt := 50) rfl hF (fun hF => ?_) (fun hF => ?_)
      · exact ww_rvs hE dX6_dropStep_50 hF
      · refine ww_aload_n cx dX6_dropStep_27 rfl 0 rfl ?_
        refine gf_X6_27 cx (ht) dX6_dropStep_28 ?_
        refine ww_iload_n cx dX6_dropStep_31 rfl 1 rfl ?_
        refine ww_dup2 cx dX6_dropStep_32 rfl rfl ?_
        refine ww_iald (N := 5) cx (ar_X6_13 ht) dX6_dropStep_33 hF (fun hF => ?_)
        refine ww_iconst cx dX6_dropStep_34 ic_1 ?_
        refine ww_aload_n cx dX6_dropStep_35 rfl 0 rfl ?_
        refine gf_X6_46 cx (ht) dX6_dropStep_36 ?_
        refine ww_ishl cx dX6_dropStep_39 ?_
        refine ww_iconst cx dX6_dropStep_40 ic_m1 ?_
        refine ww_ixor cx dX6_dropStep_41 ?_
        refine ww_iand cx dX6_dropStep_42 ?_
        refine ww_iast (N := 5) cx (ar_X6_13 ht) dX6_dropStep_43 hF (fun σ1 hF => ?_)
        refine ww_iinc (j := 1) (ks := [0, 1]) (lv' := fun v2 => [(1, .int v2), (0, .ref (gad G t))]) cx dX6_dropStep_44 (by decide) rfl ic_1 hF (fun _ => rfl) (fun v2 hF => ?_)
        refine ww_goto cx dX6_dropStep_47 (tgt := 19) rfl ?_
        exact ww_sub [1, 0] rfl (hk19 _ _ hF)
  unfold fX6_dropStep at hF
  show WW G X 2 σ [(0, .ref (gad G t))] 0 []
  refine ww_aload_n cx dX6_dropStep_0 rfl 0 rfl ?_
  refine gf_X6_46 cx (ht) dX6_dropStep_1 ?_
  refine ww_if_le cx dX6_dropStep_4 (tgt := 50) rfl hF (fun hF => ?_) (fun hF => ?_)
  · exact ww_rvs hE dX6_dropStep_50 hF
  · refine ww_aload_n cx dX6_dropStep_7 rfl 0 rfl ?_
    refine ww_dup cx dX6_dropStep_8 rfl ?_
    refine gf_X6_46 cx (ht) dX6_dropStep_9 ?_
    refine ww_iconst cx dX6_dropStep_12 ic_1 ?_
    refine ww_isub cx dX6_dropStep_13 ?_
    refine pf_X6_46 cx (ht) dX6_dropStep_14 hF (fun σ3 hF => ?_)
    refine ww_iconst cx dX6_dropStep_17 ic_0 ?_
    refine ww_istore_n (ks := [0, 1]) (lv' := fun v4 => [(1, .int v4), (0, .ref (gad G t))]) cx dX6_dropStep_18 rfl (by decide) hF (fun _ => rfl) (fun v4 hF => ?_)
    exact ww_sub [1, 0] rfl (hl19 FU _ _ hF)
theorem dX6_goes_0 : decode cX6_goes 0 = .ok (.aload_n 0, 1) := by decide +kernel
theorem dX6_goes_1 : decode cX6_goes 1 = .ok (.getfield 21, 3) := by decide +kernel
theorem dX6_goes_4 : decode cX6_goes 4 = .ok (.iload_n 1, 1) := by decide +kernel
theorem dX6_goes_5 : decode cX6_goes 5 = .ok (.iaload, 1) := by decide +kernel
theorem dX6_goes_6 : decode cX6_goes 6 = .ok (.iload_n 2, 1) := by decide +kernel
theorem dX6_goes_7 : decode cX6_goes 7 = .ok (.iconst (-1), 1) := by decide +kernel
theorem dX6_goes_8 : decode cX6_goes 8 = .ok (.ixor, 1) := by decide +kernel
theorem dX6_goes_9 : decode cX6_goes 9 = .ok (.iand, 1) := by decide +kernel
theorem dX6_goes_10 : decode cX6_goes 10 = .ok (.ifCond .ne 20, 3) := by decide +kernel
theorem dX6_goes_13 : decode cX6_goes 13 = .ok (.iload_n 2, 1) := by decide +kernel
theorem dX6_goes_14 : decode cX6_goes 14 = .ok (.aload_n 0, 1) := by decide +kernel
theorem dX6_goes_15 : decode cX6_goes 15 = .ok (.getfield 18, 3) := by decide +kernel
theorem dX6_goes_18 : decode cX6_goes 18 = .ok (.iload_n 1, 1) := by decide +kernel
theorem dX6_goes_19 : decode cX6_goes 19 = .ok (.iaload, 1) := by decide +kernel
theorem dX6_goes_20 : decode cX6_goes 20 = .ok (.ishr, 1) := by decide +kernel
theorem dX6_goes_21 : decode cX6_goes 21 = .ok (.iconst 1, 1) := by decide +kernel
theorem dX6_goes_22 : decode cX6_goes 22 = .ok (.iand, 1) := by decide +kernel
theorem dX6_goes_23 : decode cX6_goes 23 = .ok (.ifCond .ne 7, 3) := by decide +kernel
theorem dX6_goes_26 : decode cX6_goes 26 = .ok (.iconst 1, 1) := by decide +kernel
theorem dX6_goes_27 : decode cX6_goes 27 = .ok (.goto 4, 3) := by decide +kernel
theorem dX6_goes_30 : decode cX6_goes 30 = .ok (.iconst 0, 1) := by decide +kernel
theorem dX6_goes_31 : decode cX6_goes 31 = .ok (.ireturn, 1) := by decide +kernel
set_option maxRecDepth 4000 in
theorem kX6_goes (G : GT) {σ : St} {t : Nat} {a1 : Int32} {a2 : Int32} (ht : isTab t) : ∀ (r : Int32) , fX6_goes σ t a1 a2 = some r → MCt G 1 yX6_goes cX6_goes 3 (some .boolean) [.ref (gad G t), .int a1, .int a2] σ (some (.int r)) σ := by
  intro r hF
  refine met_zz (by decide) (Nat.le_of_ble_eq_true rfl) (fun X cx hE => ?_)
  have cx : Cx G X RX6 cX6_goes 3 1 := cx
  unfold fX6_goes at hF
  show WW G X 3 σ [(0, .ref (gad G t)), (1, .int a1), (2, .int a2)] 0 []
  refine ww_aload_n cx dX6_goes_0 rfl 0 rfl ?_
  refine gf_X6_21 cx (ht) dX6_goes_1 ?_
  refine ww_iload_n cx dX6_goes_4 rfl 1 rfl ?_
  refine ww_iald (N := 12) cx (ar_X6_11 ht) dX6_goes_5 hF (fun hF => ?_)
  refine ww_iload_n cx dX6_goes_6 rfl 2 rfl ?_
  refine ww_iconst cx dX6_goes_7 ic_m1 ?_
  refine ww_ixor cx dX6_goes_8 ?_
  refine ww_iand cx dX6_goes_9 ?_
  refine ww_if_ne cx dX6_goes_10 (tgt := 30) rfl hF (fun hF => ?_) (fun hF => ?_)
  · refine ww_iconst cx dX6_goes_30 ic_0 ?_
    exact ww_rzp hE dX6_goes_31 hF
  · refine ww_iload_n cx dX6_goes_13 rfl 2 rfl ?_
    refine ww_aload_n cx dX6_goes_14 rfl 0 rfl ?_
    refine gf_X6_18 cx (ht) dX6_goes_15 ?_
    refine ww_iload_n cx dX6_goes_18 rfl 1 rfl ?_
    refine ww_iald (N := 12) cx (ar_X6_10 ht) dX6_goes_19 hF (fun hF => ?_)
    refine ww_ishr cx dX6_goes_20 ?_
    refine ww_iconst cx dX6_goes_21 ic_1 ?_
    refine ww_iand cx dX6_goes_22 ?_
    refine ww_if_ne cx dX6_goes_23 (tgt := 30) rfl hF (fun hF => ?_) (fun hF => ?_)
    · refine ww_iconst cx dX6_goes_30 ic_0 ?_
      exact ww_rzp hE dX6_goes_31 hF
    · refine ww_iconst cx dX6_goes_26 ic_1 ?_
      refine ww_goto cx dX6_goes_27 (tgt := 31) rfl ?_
      exact ww_rzp hE dX6_goes_31 hF
theorem dX6_hasClaim_0 : decode cX6_hasClaim 0 = .ok (.iload_n 1, 1) := by decide +kernel
theorem dX6_hasClaim_1 : decode cX6_hasClaim 1 = .ok (.ifCond .lt 15, 3) := by decide +kernel
theorem dX6_hasClaim_4 : decode cX6_hasClaim 4 = .ok (.iload_n 1, 1) := by decide +kernel
theorem dX6_hasClaim_5 : decode cX6_hasClaim 5 = .ok (.aload_n 0, 1) := by decide +kernel
theorem dX6_hasClaim_6 : decode cX6_hasClaim 6 = .ok (.getfield 43, 3) := by decide +kernel
theorem dX6_hasClaim_9 : decode cX6_hasClaim 9 = .ok (.if_icmp .ge 7, 3) := by decide +kernel
theorem dX6_hasClaim_12 : decode cX6_hasClaim 12 = .ok (.iconst 1, 1) := by decide +kernel
theorem dX6_hasClaim_13 : decode cX6_hasClaim 13 = .ok (.goto 4, 3) := by decide +kernel
theorem dX6_hasClaim_16 : decode cX6_hasClaim 16 = .ok (.iconst 0, 1) := by decide +kernel
theorem dX6_hasClaim_17 : decode cX6_hasClaim 17 = .ok (.ireturn, 1) := by decide +kernel
set_option maxRecDepth 4000 in
theorem kX6_hasClaim (G : GT) {σ : St} {t : Nat} {a1 : Int32} (ht : isTab t) : ∀ (r : Int32) , fX6_hasClaim σ t a1 = some r → MCt G 1 yX6_hasClaim cX6_hasClaim 2 (some .boolean) [.ref (gad G t), .int a1] σ (some (.int r)) σ := by
  intro r hF
  refine met_zz (by decide) (Nat.le_of_ble_eq_true rfl) (fun X cx hE => ?_)
  have cx : Cx G X RX6 cX6_hasClaim 2 1 := cx
  unfold fX6_hasClaim at hF
  show WW G X 2 σ [(0, .ref (gad G t)), (1, .int a1)] 0 []
  refine ww_iload_n cx dX6_hasClaim_0 rfl 1 rfl ?_
  refine ww_if_lt cx dX6_hasClaim_1 (tgt := 16) rfl hF (fun hF => ?_) (fun hF => ?_)
  · refine ww_iconst cx dX6_hasClaim_16 ic_0 ?_
    exact ww_rzp hE dX6_hasClaim_17 hF
  · refine ww_iload_n cx dX6_hasClaim_4 rfl 1 rfl ?_
    refine ww_aload_n cx dX6_hasClaim_5 rfl 0 rfl ?_
    refine gf_X6_43 cx (ht) dX6_hasClaim_6 ?_
    refine ww_icmp_ge cx dX6_hasClaim_9 (tgt := 16) rfl hF (fun hF => ?_) (fun hF => ?_)
    · refine ww_iconst cx dX6_hasClaim_16 ic_0 ?_
      exact ww_rzp hE dX6_hasClaim_17 hF
    · refine ww_iconst cx dX6_hasClaim_12 ic_1 ?_
      refine ww_goto cx dX6_hasClaim_13 (tgt := 17) rfl ?_
      exact ww_rzp hE dX6_hasClaim_17 hF
theorem dX6_hasGuest_0 : decode cX6_hasGuest 0 = .ok (.iload_n 1, 1) := by decide +kernel
theorem dX6_hasGuest_1 : decode cX6_hasGuest 1 = .ok (.ifCond .lt 15, 3) := by decide +kernel
theorem dX6_hasGuest_4 : decode cX6_hasGuest 4 = .ok (.iload_n 1, 1) := by decide +kernel
theorem dX6_hasGuest_5 : decode cX6_hasGuest 5 = .ok (.aload_n 0, 1) := by decide +kernel
theorem dX6_hasGuest_6 : decode cX6_hasGuest 6 = .ok (.getfield 49, 3) := by decide +kernel
theorem dX6_hasGuest_9 : decode cX6_hasGuest 9 = .ok (.if_icmp .ge 7, 3) := by decide +kernel
theorem dX6_hasGuest_12 : decode cX6_hasGuest 12 = .ok (.iconst 1, 1) := by decide +kernel
theorem dX6_hasGuest_13 : decode cX6_hasGuest 13 = .ok (.goto 4, 3) := by decide +kernel
theorem dX6_hasGuest_16 : decode cX6_hasGuest 16 = .ok (.iconst 0, 1) := by decide +kernel
theorem dX6_hasGuest_17 : decode cX6_hasGuest 17 = .ok (.ireturn, 1) := by decide +kernel
set_option maxRecDepth 4000 in
theorem kX6_hasGuest (G : GT) {σ : St} {t : Nat} {a1 : Int32} (ht : isTab t) : ∀ (r : Int32) , fX6_hasGuest σ t a1 = some r → MCt G 1 yX6_hasGuest cX6_hasGuest 2 (some .boolean) [.ref (gad G t), .int a1] σ (some (.int r)) σ := by
  intro r hF
  refine met_zz (by decide) (Nat.le_of_ble_eq_true rfl) (fun X cx hE => ?_)
  have cx : Cx G X RX6 cX6_hasGuest 2 1 := cx
  unfold fX6_hasGuest at hF
  show WW G X 2 σ [(0, .ref (gad G t)), (1, .int a1)] 0 []
  refine ww_iload_n cx dX6_hasGuest_0 rfl 1 rfl ?_
  refine ww_if_lt cx dX6_hasGuest_1 (tgt := 16) rfl hF (fun hF => ?_) (fun hF => ?_)
  · refine ww_iconst cx dX6_hasGuest_16 ic_0 ?_
    exact ww_rzp hE dX6_hasGuest_17 hF
  · refine ww_iload_n cx dX6_hasGuest_4 rfl 1 rfl ?_
    refine ww_aload_n cx dX6_hasGuest_5 rfl 0 rfl ?_
    refine gf_X6_49 cx (ht) dX6_hasGuest_6 ?_
    refine ww_icmp_ge cx dX6_hasGuest_9 (tgt := 16) rfl hF (fun hF => ?_) (fun hF => ?_)
    · refine ww_iconst cx dX6_hasGuest_16 ic_0 ?_
      exact ww_rzp hE dX6_hasGuest_17 hF
    · refine ww_iconst cx dX6_hasGuest_12 ic_1 ?_
      refine ww_goto cx dX6_hasGuest_13 (tgt := 17) rfl ?_
      exact ww_rzp hE dX6_hasGuest_17 hF
theorem dX6_hasStep_0 : decode cX6_hasStep 0 = .ok (.iload_n 1, 1) := by decide +kernel
theorem dX6_hasStep_1 : decode cX6_hasStep 1 = .ok (.ifCond .lt 15, 3) := by decide +kernel
theorem dX6_hasStep_4 : decode cX6_hasStep 4 = .ok (.iload_n 1, 1) := by decide +kernel
theorem dX6_hasStep_5 : decode cX6_hasStep 5 = .ok (.aload_n 0, 1) := by decide +kernel
theorem dX6_hasStep_6 : decode cX6_hasStep 6 = .ok (.getfield 46, 3) := by decide +kernel
theorem dX6_hasStep_9 : decode cX6_hasStep 9 = .ok (.if_icmp .ge 7, 3) := by decide +kernel
theorem dX6_hasStep_12 : decode cX6_hasStep 12 = .ok (.iconst 1, 1) := by decide +kernel
theorem dX6_hasStep_13 : decode cX6_hasStep 13 = .ok (.goto 4, 3) := by decide +kernel
theorem dX6_hasStep_16 : decode cX6_hasStep 16 = .ok (.iconst 0, 1) := by decide +kernel
theorem dX6_hasStep_17 : decode cX6_hasStep 17 = .ok (.ireturn, 1) := by decide +kernel
set_option maxRecDepth 4000 in
theorem kX6_hasStep (G : GT) {σ : St} {t : Nat} {a1 : Int32} (ht : isTab t) : ∀ (r : Int32) , fX6_hasStep σ t a1 = some r → MCt G 1 yX6_hasStep cX6_hasStep 2 (some .boolean) [.ref (gad G t), .int a1] σ (some (.int r)) σ := by
  intro r hF
  refine met_zz (by decide) (Nat.le_of_ble_eq_true rfl) (fun X cx hE => ?_)
  have cx : Cx G X RX6 cX6_hasStep 2 1 := cx
  unfold fX6_hasStep at hF
  show WW G X 2 σ [(0, .ref (gad G t)), (1, .int a1)] 0 []
  refine ww_iload_n cx dX6_hasStep_0 rfl 1 rfl ?_
  refine ww_if_lt cx dX6_hasStep_1 (tgt := 16) rfl hF (fun hF => ?_) (fun hF => ?_)
  · refine ww_iconst cx dX6_hasStep_16 ic_0 ?_
    exact ww_rzp hE dX6_hasStep_17 hF
  · refine ww_iload_n cx dX6_hasStep_4 rfl 1 rfl ?_
    refine ww_aload_n cx dX6_hasStep_5 rfl 0 rfl ?_
    refine gf_X6_46 cx (ht) dX6_hasStep_6 ?_
    refine ww_icmp_ge cx dX6_hasStep_9 (tgt := 16) rfl hF (fun hF => ?_) (fun hF => ?_)
    · refine ww_iconst cx dX6_hasStep_16 ic_0 ?_
      exact ww_rzp hE dX6_hasStep_17 hF
    · refine ww_iconst cx dX6_hasStep_12 ic_1 ?_
      refine ww_goto cx dX6_hasStep_13 (tgt := 17) rfl ?_
      exact ww_rzp hE dX6_hasStep_17 hF
theorem dX6_holedSteps_0 : decode cX6_holedSteps 0 = .ok (.iload_n 1, 1) := by decide +kernel
theorem dX6_holedSteps_1 : decode cX6_holedSteps 1 = .ok (.i2l, 1) := by decide +kernel
theorem dX6_holedSteps_2 : decode cX6_holedSteps 2 = .ok (.lstore_n 2, 1) := by decide +kernel
theorem dX6_holedSteps_3 : decode cX6_holedSteps 3 = .ok (.iconst 0, 1) := by decide +kernel
theorem dX6_holedSteps_4 : decode cX6_holedSteps 4 = .ok (.istore 4, 2) := by decide +kernel
theorem dX6_holedSteps_6 : decode cX6_holedSteps 6 = .ok (.iconst 0, 1) := by decide +kernel
theorem dX6_holedSteps_7 : decode cX6_holedSteps 7 = .ok (.istore 5, 2) := by decide +kernel
theorem dX6_holedSteps_9 : decode cX6_holedSteps 9 = .ok (.iload 5, 2) := by decide +kernel
theorem dX6_holedSteps_11 : decode cX6_holedSteps 11 = .ok (.aload_n 0, 1) := by decide +kernel
theorem dX6_holedSteps_12 : decode cX6_holedSteps 12 = .ok (.getfield 46, 3) := by decide +kernel
theorem dX6_holedSteps_15 : decode cX6_holedSteps 15 = .ok (.if_icmp .ge 50, 3) := by decide +kernel
theorem dX6_holedSteps_18 : decode cX6_holedSteps 18 = .ok (.ldc2_w 91, 3) := by decide +kernel
theorem dX6_holedSteps_21 : decode cX6_holedSteps 21 = .ok (.lload_n 2, 1) := by decide +kernel
theorem dX6_holedSteps_22 : decode cX6_holedSteps 22 = .ok (.lmul, 1) := by decide +kernel
theorem dX6_holedSteps_23 : decode cX6_holedSteps 23 = .ok (.ldc2_w 93, 3) := by decide +kernel
theorem dX6_holedSteps_26 : decode cX6_holedSteps 26 = .ok (.ladd, 1) := by decide +kernel
theorem dX6_holedSteps_27 : decode cX6_holedSteps 27 = .ok (.ldc2_w 95, 3) := by decide +kernel
theorem dX6_holedSteps_30 : decode cX6_holedSteps 30 = .ok (.lrem, 1) := by decide +kernel
theorem dX6_holedSteps_31 : decode cX6_holedSteps 31 = .ok (.lstore_n 2, 1) := by decide +kernel
theorem dX6_holedSteps_32 : decode cX6_holedSteps 32 = .ok (.lload_n 2, 1) := by decide +kernel
theorem dX6_holedSteps_33 : decode cX6_holedSteps 33 = .ok (.ldc2_w 97, 3) := by decide +kernel
theorem dX6_holedSteps_36 : decode cX6_holedSteps 36 = .ok (.ldiv, 1) := by decide +kernel
theorem dX6_holedSteps_37 : decode cX6_holedSteps 37 = .ok (.ldc2_w 99, 3) := by decide +kernel
theorem dX6_holedSteps_40 : decode cX6_holedSteps 40 = .ok (.lrem, 1) := by decide +kernel
theorem dX6_holedSteps_41 : decode cX6_holedSteps 41 = .ok (.aload_n 0, 1) := by decide +kernel
theorem dX6_holedSteps_42 : decode cX6_holedSteps 42 = .ok (.getfield 40, 3) := by decide +kernel
theorem dX6_holedSteps_45 : decode cX6_holedSteps 45 = .ok (.i2l, 1) := by decide +kernel
theorem dX6_holedSteps_46 : decode cX6_holedSteps 46 = .ok (.lcmp, 1) := by decide +kernel
theorem dX6_holedSteps_47 : decode cX6_holedSteps 47 = .ok (.ifCond .ge 12, 3) := by decide +kernel
theorem dX6_holedSteps_50 : decode cX6_holedSteps 50 = .ok (.iload 4, 2) := by decide +kernel
theorem dX6_holedSteps_52 : decode cX6_holedSteps 52 = .ok (.iconst 1, 1) := by decide +kernel
theorem dX6_holedSteps_53 : decode cX6_holedSteps 53 = .ok (.iload 5, 2) := by decide +kernel
theorem dX6_holedSteps_55 : decode cX6_holedSteps 55 = .ok (.ishl, 1) := by decide +kernel
theorem dX6_holedSteps_56 : decode cX6_holedSteps 56 = .ok (.ior, 1) := by decide +kernel
theorem dX6_holedSteps_57 : decode cX6_holedSteps 57 = .ok (.istore 4, 2) := by decide +kernel
theorem dX6_holedSteps_59 : decode cX6_holedSteps 59 = .ok (.iinc 5 1, 3) := by decide +kernel
theorem dX6_holedSteps_62 : decode cX6_holedSteps 62 = .ok (.goto (-53), 3) := by decide +kernel
theorem dX6_holedSteps_65 : decode cX6_holedSteps 65 = .ok (.iload 4, 2) := by decide +kernel
theorem dX6_holedSteps_67 : decode cX6_holedSteps 67 = .ok (.ireturn, 1) := by decide +kernel
set_option maxRecDepth 4000 in
theorem kX6_holedSteps (G : GT) {σ : St} {t : Nat} {a1 : Int32} (ht : isTab t) : ∀ (r : Int32) , fX6_holedSteps σ t a1 = some r → MCt G 1 yX6_holedSteps cX6_holedSteps 6 (some .int) [.ref (gad G t), .int a1] σ (some (.int r)) σ := by
  intro r hF
  refine met_i (by decide) (Nat.le_of_ble_eq_true rfl) (fun X cx hE => ?_)
  have cx : Cx G X RX6 cX6_holedSteps 6 1 := cx
  have hl9 : ∀ n : Nat, ∀ (x2 : Int64) (x4 : Int32) (x5 : Int32) , fX6_holedSteps_l9 σ t n x2 x4 x5 = some r → WW G X 6 σ [(0, .ref (gad G t)), (2, .long x2), (4, .int x4), (5, .int x5)] 9 [] := by
    intro n
    induction n with
    | zero =>
      intro x2 x4 x5 hF
      exact absurd hF (by intro z; cases z)
    | succ n ih =>
      intro x2 x4 x5 hF
      have hk9 := ih
      have hF : fX6_holedSteps_B9 σ t (fX6_holedSteps_l9 σ t n) x2 x4 x5 = some r := hF
      unfold fX6_holedSteps_B9 at hF
      refine ww_iload cx dX6_holedSteps_9 3 rfl ?_
      refine ww_aload_n cx dX6_holedSteps_11 rfl 0 rfl ?_
      refine gf_X6_46 cx (ht) dX6_holedSteps_12 ?_
      refine ww_icmp_ge cx dX6_holedSteps_15 (tgt := 65) rfl hF (fun hF => ?_) (fun hF => ?_)
      · refine ww_iload cx dX6_holedSteps_65 2 rfl ?_
        exact ww_rip hE dX6_holedSteps_67 hF
      · refine ww_ldc2 (v := 1103515245) cx dX6_holedSteps_18 cn_X6_91 ?_
        refine ww_lload_n cx dX6_holedSteps_21 rfl 1 rfl ?_
        refine ww_lmul cx dX6_holedSteps_22 ?_
        refine ww_ldc2 (v := 12345) cx dX6_holedSteps_23 cn_X6_93 ?_
        refine ww_ladd cx dX6_holedSteps_26 ?_
        refine ww_ldc2 (v := 2147483648) cx dX6_holedSteps_27 cn_X6_95 ?_
        refine ww_lrem cx dX6_holedSteps_30 hF (fun hF => ?_)
        refine ww_lstore_n (ks := [0, 1, 2, 3]) (lv' := fun v1 => [(2, .long v1), (0, .ref (gad G t)), (4, .int x4), (5, .int x5)]) cx dX6_holedSteps_31 rfl (by decide) hF (fun _ => rfl) (fun v1 hF => ?_)
        refine ww_lload_n cx dX6_holedSteps_32 rfl 0 rfl ?_
        refine ww_ldc2 (v := 65536) cx dX6_holedSteps_33 cn_X6_97 ?_
        refine ww_ldiv cx dX6_holedSteps_36 hF (fun hF => ?_)
        refine ww_ldc2 (v := 100) cx dX6_holedSteps_37 cn_X6_99 ?_
        refine ww_lrem cx dX6_holedSteps_40 hF (fun hF => ?_)
        refine ww_aload_n cx dX6_holedSteps_41 rfl 1 rfl ?_
        refine gf_X6_40 cx (ht) dX6_holedSteps_42 ?_
        refine ww_i2l cx dX6_holedSteps_45 ?_
        refine ww_lcmp cx dX6_holedSteps_46 ?_
        refine ww_if_ge cx dX6_holedSteps_47 (tgt := 59) rfl hF (fun hF => ?_) (fun hF => ?_)
        · refine ww_iinc (j := 3) (ks := [0, 1, 2, 3]) (lv' := fun v2 => [(5, .int v2), (2, .long v1), (0, .ref (gad G t)), (4, .int x4)]) cx dX6_holedSteps_59 (by decide) rfl ic_1 hF (fun _ => rfl) (fun v2 hF => ?_)
          refine ww_goto cx dX6_holedSteps_62 (tgt := 9) rfl ?_
          exact ww_sub [2, 1, 3, 0] rfl (hk9 _ _ _ hF)
        · refine ww_iload cx dX6_holedSteps_50 2 rfl ?_
          refine ww_iconst cx dX6_holedSteps_52 ic_1 ?_
          refine ww_iload cx dX6_holedSteps_53 3 rfl ?_
          refine ww_ishl cx dX6_holedSteps_55 ?_
          refine ww_ior cx dX6_holedSteps_56 ?_
          refine ww_istore (ks := [0, 1, 2, 3]) (lv' := fun v3 => [(4, .int v3), (2, .long v1), (0, .ref (gad G t)), (5, .int x5)]) cx dX6_holedSteps_57 (by decide) hF (fun _ => rfl) (fun v3 hF => ?_)
          refine ww_iinc (j := 3) (ks := [0, 1, 2, 3]) (lv' := fun v4 => [(5, .int v4), (4, .int v3), (2, .long v1), (0, .ref (gad G t))]) cx dX6_holedSteps_59 (by decide) rfl ic_1 hF (fun _ => rfl) (fun v4 hF => ?_)
          refine ww_goto cx dX6_holedSteps_62 (tgt := 9) rfl ?_
          exact ww_sub [3, 2, 1, 0] rfl (hk9 _ _ _ hF)
  unfold fX6_holedSteps at hF
  show WW G X 6 σ [(0, .ref (gad G t)), (1, .int a1)] 0 []
  refine ww_iload_n cx dX6_holedSteps_0 rfl 1 rfl ?_
  refine ww_i2l cx dX6_holedSteps_1 ?_
  refine ww_lstore_n (ks := [0, 1]) (lv' := fun v5 => [(2, .long v5), (0, .ref (gad G t))]) cx dX6_holedSteps_2 rfl (by decide) hF (fun _ => rfl) (fun v5 hF => ?_)
  refine ww_iconst cx dX6_holedSteps_3 ic_0 ?_
  refine ww_istore (ks := [0, 1, 2]) (lv' := fun v6 => [(4, .int v6), (2, .long v5), (0, .ref (gad G t))]) cx dX6_holedSteps_4 (by decide) hF (fun _ => rfl) (fun v6 hF => ?_)
  refine ww_iconst cx dX6_holedSteps_6 ic_0 ?_
  refine ww_istore (ks := [0, 1, 2, 3]) (lv' := fun v7 => [(5, .int v7), (4, .int v6), (2, .long v5), (0, .ref (gad G t))]) cx dX6_holedSteps_7 (by decide) hF (fun _ => rfl) (fun v7 hF => ?_)
  exact ww_sub [3, 2, 1, 0] rfl (hl9 FU _ _ _ hF)
theorem dX6_isTold_0 : decode cX6_isTold 0 = .ok (.aload_n 0, 1) := by decide +kernel
theorem dX6_isTold_1 : decode cX6_isTold 1 = .ok (.getfield 30, 3) := by decide +kernel
theorem dX6_isTold_4 : decode cX6_isTold 4 = .ok (.ifCond .le 7, 3) := by decide +kernel
theorem dX6_isTold_7 : decode cX6_isTold 7 = .ok (.iconst 1, 1) := by decide +kernel
theorem dX6_isTold_8 : decode cX6_isTold 8 = .ok (.goto 4, 3) := by decide +kernel
theorem dX6_isTold_11 : decode cX6_isTold 11 = .ok (.iconst 0, 1) := by decide +kernel
theorem dX6_isTold_12 : decode cX6_isTold 12 = .ok (.ireturn, 1) := by decide +kernel
set_option maxRecDepth 4000 in
theorem kX6_isTold (G : GT) {σ : St} {t : Nat} (ht : isTab t) : ∀ (r : Int32) , fX6_isTold σ t = some r → MCt G 1 yX6_isTold cX6_isTold 1 (some .boolean) [.ref (gad G t)] σ (some (.int r)) σ := by
  intro r hF
  refine met_zz (by decide) (Nat.le_of_ble_eq_true rfl) (fun X cx hE => ?_)
  have cx : Cx G X RX6 cX6_isTold 1 1 := cx
  unfold fX6_isTold at hF
  show WW G X 1 σ [(0, .ref (gad G t))] 0 []
  refine ww_aload_n cx dX6_isTold_0 rfl 0 rfl ?_
  refine gf_X6_30 cx (ht) dX6_isTold_1 ?_
  refine ww_if_le cx dX6_isTold_4 (tgt := 11) rfl hF (fun hF => ?_) (fun hF => ?_)
  · refine ww_iconst cx dX6_isTold_11 ic_0 ?_
    exact ww_rzp hE dX6_isTold_12 hF
  · refine ww_iconst cx dX6_isTold_7 ic_1 ?_
    refine ww_goto cx dX6_isTold_8 (tgt := 12) rfl ?_
    exact ww_rzp hE dX6_isTold_12 hF
theorem dX6_teamKnows_0 : decode cX6_teamKnows 0 = .ok (.iconst 0, 1) := by decide +kernel
theorem dX6_teamKnows_1 : decode cX6_teamKnows 1 = .ok (.istore_n 2, 1) := by decide +kernel
theorem dX6_teamKnows_2 : decode cX6_teamKnows 2 = .ok (.iconst 0, 1) := by decide +kernel
theorem dX6_teamKnows_3 : decode cX6_teamKnows 3 = .ok (.istore_n 3, 1) := by decide +kernel
theorem dX6_teamKnows_4 : decode cX6_teamKnows 4 = .ok (.iload_n 3, 1) := by decide +kernel
theorem dX6_teamKnows_5 : decode cX6_teamKnows 5 = .ok (.aload_n 0, 1) := by decide +kernel
theorem dX6_teamKnows_6 : decode cX6_teamKnows 6 = .ok (.getfield 49, 3) := by decide +kernel
theorem dX6_teamKnows_9 : decode cX6_teamKnows 9 = .ok (.if_icmp .ge 27, 3) := by decide +kernel
theorem dX6_teamKnows_12 : decode cX6_teamKnows 12 = .ok (.iload_n 1, 1) := by decide +kernel
theorem dX6_teamKnows_13 : decode cX6_teamKnows 13 = .ok (.iload_n 3, 1) := by decide +kernel
theorem dX6_teamKnows_14 : decode cX6_teamKnows 14 = .ok (.ishr, 1) := by decide +kernel
theorem dX6_teamKnows_15 : decode cX6_teamKnows 15 = .ok (.iconst 1, 1) := by decide +kernel
theorem dX6_teamKnows_16 : decode cX6_teamKnows 16 = .ok (.iand, 1) := by decide +kernel
theorem dX6_teamKnows_17 : decode cX6_teamKnows 17 = .ok (.iconst 1, 1) := by decide +kernel
theorem dX6_teamKnows_18 : decode cX6_teamKnows 18 = .ok (.if_icmp .ne 12, 3) := by decide +kernel
theorem dX6_teamKnows_21 : decode cX6_teamKnows 21 = .ok (.iload_n 2, 1) := by decide +kernel
theorem dX6_teamKnows_22 : decode cX6_teamKnows 22 = .ok (.aload_n 0, 1) := by decide +kernel
theorem dX6_teamKnows_23 : decode cX6_teamKnows 23 = .ok (.getfield 27, 3) := by decide +kernel
theorem dX6_teamKnows_26 : decode cX6_teamKnows 26 = .ok (.iload_n 3, 1) := by decide +kernel
theorem dX6_teamKnows_27 : decode cX6_teamKnows 27 = .ok (.iaload, 1) := by decide +kernel
theorem dX6_teamKnows_28 : decode cX6_teamKnows 28 = .ok (.ior, 1) := by decide +kernel
theorem dX6_teamKnows_29 : decode cX6_teamKnows 29 = .ok (.istore_n 2, 1) := by decide +kernel
theorem dX6_teamKnows_30 : decode cX6_teamKnows 30 = .ok (.iinc 3 1, 3) := by decide +kernel
theorem dX6_teamKnows_33 : decode cX6_teamKnows 33 = .ok (.goto (-29), 3) := by decide +kernel
theorem dX6_teamKnows_36 : decode cX6_teamKnows 36 = .ok (.iload_n 2, 1) := by decide +kernel
theorem dX6_teamKnows_37 : decode cX6_teamKnows 37 = .ok (.ireturn, 1) := by decide +kernel
set_option maxRecDepth 4000 in
theorem kX6_teamKnows (G : GT) {σ : St} {t : Nat} {a1 : Int32} (ht : isTab t) : ∀ (r : Int32) , fX6_teamKnows σ t a1 = some r → MCt G 1 yX6_teamKnows cX6_teamKnows 4 (some .int) [.ref (gad G t), .int a1] σ (some (.int r)) σ := by
  intro r hF
  refine met_i (by decide) (Nat.le_of_ble_eq_true rfl) (fun X cx hE => ?_)
  have cx : Cx G X RX6 cX6_teamKnows 4 1 := cx
  have hl4 : ∀ n : Nat, ∀ (x1 : Int32) (x2 : Int32) (x3 : Int32) , fX6_teamKnows_l4 σ t n x1 x2 x3 = some r → WW G X 4 σ [(0, .ref (gad G t)), (1, .int x1), (2, .int x2), (3, .int x3)] 4 [] := by
    intro n
    induction n with
    | zero =>
      intro x1 x2 x3 hF
      exact absurd hF (by intro z; cases z)
    | succ n ih =>
      intro x1 x2 x3 hF
      have hk4 := ih
      have hF : fX6_teamKnows_B4 σ t (fX6_teamKnows_l4 σ t n) x1 x2 x3 = some r := hF
      unfold fX6_teamKnows_B4 at hF
      refine ww_iload_n cx dX6_teamKnows_4 rfl 3 rfl ?_
      refine ww_aload_n cx dX6_teamKnows_5 rfl 0 rfl ?_
      refine gf_X6_49 cx (ht) dX6_teamKnows_6 ?_
      refine ww_icmp_ge cx dX6_teamKnows_9 (tgt := 36) rfl hF (fun hF => ?_) (fun hF => ?_)
      · refine ww_iload_n cx dX6_teamKnows_36 rfl 2 rfl ?_
        exact ww_rip hE dX6_teamKnows_37 hF
      · refine ww_iload_n cx dX6_teamKnows_12 rfl 1 rfl ?_
        refine ww_iload_n cx dX6_teamKnows_13 rfl 3 rfl ?_
        refine ww_ishr cx dX6_teamKnows_14 ?_
        refine ww_iconst cx dX6_teamKnows_15 ic_1 ?_
        refine ww_iand cx dX6_teamKnows_16 ?_
        refine ww_iconst cx dX6_teamKnows_17 ic_1 ?_
        refine ww_icmp_ne cx dX6_teamKnows_18 (tgt := 30) rfl hF (fun hF => ?_) (fun hF => ?_)
        · refine ww_iinc (j := 3) (ks := [0, 1, 2, 3]) (lv' := fun v1 => [(3, .int v1), (0, .ref (gad G t)), (1, .int x1), (2, .int x2)]) cx dX6_teamKnows_30 (by decide) rfl ic_1 hF (fun _ => rfl) (fun v1 hF => ?_)
          refine ww_goto cx dX6_teamKnows_33 (tgt := 4) rfl ?_
          exact ww_sub [1, 2, 3, 0] rfl (hk4 _ _ _ hF)
        · refine ww_iload_n cx dX6_teamKnows_21 rfl 2 rfl ?_
          refine ww_aload_n cx dX6_teamKnows_22 rfl 0 rfl ?_
          refine gf_X6_27 cx (ht) dX6_teamKnows_23 ?_
          refine ww_iload_n cx dX6_teamKnows_26 rfl 3 rfl ?_
          refine ww_iald (N := 5) cx (ar_X6_13 ht) dX6_teamKnows_27 hF (fun hF => ?_)
          refine ww_ior cx dX6_teamKnows_28 ?_
          refine ww_istore_n (ks := [0, 1, 2, 3]) (lv' := fun v2 => [(2, .int v2), (0, .ref (gad G t)), (1, .int x1), (3, .int x3)]) cx dX6_teamKnows_29 rfl (by decide) hF (fun _ => rfl) (fun v2 hF => ?_)
          refine ww_iinc (j := 3) (ks := [0, 1, 2, 3]) (lv' := fun v3 => [(3, .int v3), (2, .int v2), (0, .ref (gad G t)), (1, .int x1)]) cx dX6_teamKnows_30 (by decide) rfl ic_1 hF (fun _ => rfl) (fun v3 hF => ?_)
          refine ww_goto cx dX6_teamKnows_33 (tgt := 4) rfl ?_
          exact ww_sub [2, 3, 1, 0] rfl (hk4 _ _ _ hF)
  unfold fX6_teamKnows at hF
  show WW G X 4 σ [(0, .ref (gad G t)), (1, .int a1)] 0 []
  refine ww_iconst cx dX6_teamKnows_0 ic_0 ?_
  refine ww_istore_n (ks := [0, 1, 2]) (lv' := fun v4 => [(2, .int v4), (0, .ref (gad G t)), (1, .int a1)]) cx dX6_teamKnows_1 rfl (by decide) hF (fun _ => rfl) (fun v4 hF => ?_)
  refine ww_iconst cx dX6_teamKnows_2 ic_0 ?_
  refine ww_istore_n (ks := [0, 1, 2, 3]) (lv' := fun v5 => [(3, .int v5), (2, .int v4), (0, .ref (gad G t)), (1, .int a1)]) cx dX6_teamKnows_3 rfl (by decide) hF (fun _ => rfl) (fun v5 hF => ?_)
  exact ww_sub [2, 3, 1, 0] rfl (hl4 FU _ _ _ hF)
theorem dX6_worldsOfAtom_0 : decode cX6_worldsOfAtom 0 = .ok (.iconst 0, 1) := by decide +kernel
theorem dX6_worldsOfAtom_1 : decode cX6_worldsOfAtom 1 = .ok (.istore_n 2, 1) := by decide +kernel
theorem dX6_worldsOfAtom_2 : decode cX6_worldsOfAtom 2 = .ok (.iconst 0, 1) := by decide +kernel
theorem dX6_worldsOfAtom_3 : decode cX6_worldsOfAtom 3 = .ok (.istore_n 3, 1) := by decide +kernel
theorem dX6_worldsOfAtom_4 : decode cX6_worldsOfAtom 4 = .ok (.iload_n 3, 1) := by decide +kernel
theorem dX6_worldsOfAtom_5 : decode cX6_worldsOfAtom 5 = .ok (.iconst 1, 1) := by decide +kernel
theorem dX6_worldsOfAtom_6 : decode cX6_worldsOfAtom 6 = .ok (.aload_n 0, 1) := by decide +kernel
theorem dX6_worldsOfAtom_7 : decode cX6_worldsOfAtom 7 = .ok (.getfield 34, 3) := by decide +kernel
theorem dX6_worldsOfAtom_10 : decode cX6_worldsOfAtom 10 = .ok (.ishl, 1) := by decide +kernel
theorem dX6_worldsOfAtom_11 : decode cX6_worldsOfAtom 11 = .ok (.if_icmp .ge 24, 3) := by decide +kernel
theorem dX6_worldsOfAtom_14 : decode cX6_worldsOfAtom 14 = .ok (.iload_n 3, 1) := by decide +kernel
theorem dX6_worldsOfAtom_15 : decode cX6_worldsOfAtom 15 = .ok (.iload_n 1, 1) := by decide +kernel
theorem dX6_worldsOfAtom_16 : decode cX6_worldsOfAtom 16 = .ok (.ishr, 1) := by decide +kernel
theorem dX6_worldsOfAtom_17 : decode cX6_worldsOfAtom 17 = .ok (.iconst 1, 1) := by decide +kernel
theorem dX6_worldsOfAtom_18 : decode cX6_worldsOfAtom 18 = .ok (.iand, 1) := by decide +kernel
theorem dX6_worldsOfAtom_19 : decode cX6_worldsOfAtom 19 = .ok (.iconst 1, 1) := by decide +kernel
theorem dX6_worldsOfAtom_20 : decode cX6_worldsOfAtom 20 = .ok (.if_icmp .ne 9, 3) := by decide +kernel
theorem dX6_worldsOfAtom_23 : decode cX6_worldsOfAtom 23 = .ok (.iload_n 2, 1) := by decide +kernel
theorem dX6_worldsOfAtom_24 : decode cX6_worldsOfAtom 24 = .ok (.iconst 1, 1) := by decide +kernel
theorem dX6_worldsOfAtom_25 : decode cX6_worldsOfAtom 25 = .ok (.iload_n 3, 1) := by decide +kernel
theorem dX6_worldsOfAtom_26 : decode cX6_worldsOfAtom 26 = .ok (.ishl, 1) := by decide +kernel
theorem dX6_worldsOfAtom_27 : decode cX6_worldsOfAtom 27 = .ok (.ior, 1) := by decide +kernel
theorem dX6_worldsOfAtom_28 : decode cX6_worldsOfAtom 28 = .ok (.istore_n 2, 1) := by decide +kernel
theorem dX6_worldsOfAtom_29 : decode cX6_worldsOfAtom 29 = .ok (.iinc 3 1, 3) := by decide +kernel
theorem dX6_worldsOfAtom_32 : decode cX6_worldsOfAtom 32 = .ok (.goto (-28), 3) := by decide +kernel
theorem dX6_worldsOfAtom_35 : decode cX6_worldsOfAtom 35 = .ok (.iload_n 2, 1) := by decide +kernel
theorem dX6_worldsOfAtom_36 : decode cX6_worldsOfAtom 36 = .ok (.ireturn, 1) := by decide +kernel
set_option maxRecDepth 4000 in
theorem kX6_worldsOfAtom (G : GT) {σ : St} {t : Nat} {a1 : Int32} (ht : isTab t) : ∀ (r : Int32) , fX6_worldsOfAtom σ t a1 = some r → MCt G 1 yX6_worldsOfAtom cX6_worldsOfAtom 4 (some .int) [.ref (gad G t), .int a1] σ (some (.int r)) σ := by
  intro r hF
  refine met_i (by decide) (Nat.le_of_ble_eq_true rfl) (fun X cx hE => ?_)
  have cx : Cx G X RX6 cX6_worldsOfAtom 4 1 := cx
  have hl4 : ∀ n : Nat, ∀ (x1 : Int32) (x2 : Int32) (x3 : Int32) , fX6_worldsOfAtom_l4 σ t n x1 x2 x3 = some r → WW G X 4 σ [(0, .ref (gad G t)), (1, .int x1), (2, .int x2), (3, .int x3)] 4 [] := by
    intro n
    induction n with
    | zero =>
      intro x1 x2 x3 hF
      exact absurd hF (by intro z; cases z)
    | succ n ih =>
      intro x1 x2 x3 hF
      have hk4 := ih
      have hF : fX6_worldsOfAtom_B4 σ t (fX6_worldsOfAtom_l4 σ t n) x1 x2 x3 = some r := hF
      unfold fX6_worldsOfAtom_B4 at hF
      refine ww_iload_n cx dX6_worldsOfAtom_4 rfl 3 rfl ?_
      refine ww_iconst cx dX6_worldsOfAtom_5 ic_1 ?_
      refine ww_aload_n cx dX6_worldsOfAtom_6 rfl 0 rfl ?_
      refine gf_X6_34 cx (ht) dX6_worldsOfAtom_7 ?_
      refine ww_ishl cx dX6_worldsOfAtom_10 ?_
      refine ww_icmp_ge cx dX6_worldsOfAtom_11 (tgt := 35) rfl hF (fun hF => ?_) (fun hF => ?_)
      · refine ww_iload_n cx dX6_worldsOfAtom_35 rfl 2 rfl ?_
        exact ww_rip hE dX6_worldsOfAtom_36 hF
      · refine ww_iload_n cx dX6_worldsOfAtom_14 rfl 3 rfl ?_
        refine ww_iload_n cx dX6_worldsOfAtom_15 rfl 1 rfl ?_
        refine ww_ishr cx dX6_worldsOfAtom_16 ?_
        refine ww_iconst cx dX6_worldsOfAtom_17 ic_1 ?_
        refine ww_iand cx dX6_worldsOfAtom_18 ?_
        refine ww_iconst cx dX6_worldsOfAtom_19 ic_1 ?_
        refine ww_icmp_ne cx dX6_worldsOfAtom_20 (tgt := 29) rfl hF (fun hF => ?_) (fun hF => ?_)
        · refine ww_iinc (j := 3) (ks := [0, 1, 2, 3]) (lv' := fun v1 => [(3, .int v1), (0, .ref (gad G t)), (1, .int x1), (2, .int x2)]) cx dX6_worldsOfAtom_29 (by decide) rfl ic_1 hF (fun _ => rfl) (fun v1 hF => ?_)
          refine ww_goto cx dX6_worldsOfAtom_32 (tgt := 4) rfl ?_
          exact ww_sub [1, 2, 3, 0] rfl (hk4 _ _ _ hF)
        · refine ww_iload_n cx dX6_worldsOfAtom_23 rfl 2 rfl ?_
          refine ww_iconst cx dX6_worldsOfAtom_24 ic_1 ?_
          refine ww_iload_n cx dX6_worldsOfAtom_25 rfl 3 rfl ?_
          refine ww_ishl cx dX6_worldsOfAtom_26 ?_
          refine ww_ior cx dX6_worldsOfAtom_27 ?_
          refine ww_istore_n (ks := [0, 1, 2, 3]) (lv' := fun v2 => [(2, .int v2), (0, .ref (gad G t)), (1, .int x1), (3, .int x3)]) cx dX6_worldsOfAtom_28 rfl (by decide) hF (fun _ => rfl) (fun v2 hF => ?_)
          refine ww_iinc (j := 3) (ks := [0, 1, 2, 3]) (lv' := fun v3 => [(3, .int v3), (2, .int v2), (0, .ref (gad G t)), (1, .int x1)]) cx dX6_worldsOfAtom_29 (by decide) rfl ic_1 hF (fun _ => rfl) (fun v3 hF => ?_)
          refine ww_goto cx dX6_worldsOfAtom_32 (tgt := 4) rfl ?_
          exact ww_sub [2, 3, 1, 0] rfl (hk4 _ _ _ hF)
  unfold fX6_worldsOfAtom at hF
  show WW G X 4 σ [(0, .ref (gad G t)), (1, .int a1)] 0 []
  refine ww_iconst cx dX6_worldsOfAtom_0 ic_0 ?_
  refine ww_istore_n (ks := [0, 1, 2]) (lv' := fun v4 => [(2, .int v4), (0, .ref (gad G t)), (1, .int a1)]) cx dX6_worldsOfAtom_1 rfl (by decide) hF (fun _ => rfl) (fun v4 hF => ?_)
  refine ww_iconst cx dX6_worldsOfAtom_2 ic_0 ?_
  refine ww_istore_n (ks := [0, 1, 2, 3]) (lv' := fun v5 => [(3, .int v5), (2, .int v4), (0, .ref (gad G t)), (1, .int a1)]) cx dX6_worldsOfAtom_3 rfl (by decide) hF (fun _ => rfl) (fun v5 hF => ?_)
  exact ww_sub [2, 3, 1, 0] rfl (hl4 FU _ _ _ hF)
theorem dX6_worthOf_0 : decode cX6_worthOf 0 = .ok (.iconst 0, 1) := by decide +kernel
theorem dX6_worthOf_1 : decode cX6_worthOf 1 = .ok (.istore_n 2, 1) := by decide +kernel
theorem dX6_worthOf_2 : decode cX6_worthOf 2 = .ok (.iconst 0, 1) := by decide +kernel
theorem dX6_worthOf_3 : decode cX6_worthOf 3 = .ok (.istore_n 3, 1) := by decide +kernel
theorem dX6_worthOf_4 : decode cX6_worthOf 4 = .ok (.iload_n 3, 1) := by decide +kernel
theorem dX6_worthOf_5 : decode cX6_worthOf 5 = .ok (.aload_n 0, 1) := by decide +kernel
theorem dX6_worthOf_6 : decode cX6_worthOf 6 = .ok (.getfield 43, 3) := by decide +kernel
theorem dX6_worthOf_9 : decode cX6_worthOf 9 = .ok (.if_icmp .ge 27, 3) := by decide +kernel
theorem dX6_worthOf_12 : decode cX6_worthOf 12 = .ok (.iload_n 1, 1) := by decide +kernel
theorem dX6_worthOf_13 : decode cX6_worthOf 13 = .ok (.iload_n 3, 1) := by decide +kernel
theorem dX6_worthOf_14 : decode cX6_worthOf 14 = .ok (.ishr, 1) := by decide +kernel
theorem dX6_worthOf_15 : decode cX6_worthOf 15 = .ok (.iconst 1, 1) := by decide +kernel
theorem dX6_worthOf_16 : decode cX6_worthOf 16 = .ok (.iand, 1) := by decide +kernel
theorem dX6_worthOf_17 : decode cX6_worthOf 17 = .ok (.iconst 1, 1) := by decide +kernel
theorem dX6_worthOf_18 : decode cX6_worthOf 18 = .ok (.if_icmp .ne 12, 3) := by decide +kernel
theorem dX6_worthOf_21 : decode cX6_worthOf 21 = .ok (.iload_n 2, 1) := by decide +kernel
theorem dX6_worthOf_22 : decode cX6_worthOf 22 = .ok (.aload_n 0, 1) := by decide +kernel
theorem dX6_worthOf_23 : decode cX6_worthOf 23 = .ok (.getfield 9, 3) := by decide +kernel
theorem dX6_worthOf_26 : decode cX6_worthOf 26 = .ok (.iload_n 3, 1) := by decide +kernel
theorem dX6_worthOf_27 : decode cX6_worthOf 27 = .ok (.iaload, 1) := by decide +kernel
theorem dX6_worthOf_28 : decode cX6_worthOf 28 = .ok (.iadd, 1) := by decide +kernel
theorem dX6_worthOf_29 : decode cX6_worthOf 29 = .ok (.istore_n 2, 1) := by decide +kernel
theorem dX6_worthOf_30 : decode cX6_worthOf 30 = .ok (.iinc 3 1, 3) := by decide +kernel
theorem dX6_worthOf_33 : decode cX6_worthOf 33 = .ok (.goto (-29), 3) := by decide +kernel
theorem dX6_worthOf_36 : decode cX6_worthOf 36 = .ok (.iload_n 2, 1) := by decide +kernel
theorem dX6_worthOf_37 : decode cX6_worthOf 37 = .ok (.ireturn, 1) := by decide +kernel
set_option maxRecDepth 4000 in
theorem kX6_worthOf (G : GT) {σ : St} {t : Nat} {a1 : Int32} (ht : isTab t) : ∀ (r : Int32) , fX6_worthOf σ t a1 = some r → MCt G 1 yX6_worthOf cX6_worthOf 4 (some .int) [.ref (gad G t), .int a1] σ (some (.int r)) σ := by
  intro r hF
  refine met_i (by decide) (Nat.le_of_ble_eq_true rfl) (fun X cx hE => ?_)
  have cx : Cx G X RX6 cX6_worthOf 4 1 := cx
  have hl4 : ∀ n : Nat, ∀ (x1 : Int32) (x2 : Int32) (x3 : Int32) , fX6_worthOf_l4 σ t n x1 x2 x3 = some r → WW G X 4 σ [(0, .ref (gad G t)), (1, .int x1), (2, .int x2), (3, .int x3)] 4 [] := by
    intro n
    induction n with
    | zero =>
      intro x1 x2 x3 hF
      exact absurd hF (by intro z; cases z)
    | succ n ih =>
      intro x1 x2 x3 hF
      have hk4 := ih
      have hF : fX6_worthOf_B4 σ t (fX6_worthOf_l4 σ t n) x1 x2 x3 = some r := hF
      unfold fX6_worthOf_B4 at hF
      refine ww_iload_n cx dX6_worthOf_4 rfl 3 rfl ?_
      refine ww_aload_n cx dX6_worthOf_5 rfl 0 rfl ?_
      refine gf_X6_43 cx (ht) dX6_worthOf_6 ?_
      refine ww_icmp_ge cx dX6_worthOf_9 (tgt := 36) rfl hF (fun hF => ?_) (fun hF => ?_)
      · refine ww_iload_n cx dX6_worthOf_36 rfl 2 rfl ?_
        exact ww_rip hE dX6_worthOf_37 hF
      · refine ww_iload_n cx dX6_worthOf_12 rfl 1 rfl ?_
        refine ww_iload_n cx dX6_worthOf_13 rfl 3 rfl ?_
        refine ww_ishr cx dX6_worthOf_14 ?_
        refine ww_iconst cx dX6_worthOf_15 ic_1 ?_
        refine ww_iand cx dX6_worthOf_16 ?_
        refine ww_iconst cx dX6_worthOf_17 ic_1 ?_
        refine ww_icmp_ne cx dX6_worthOf_18 (tgt := 30) rfl hF (fun hF => ?_) (fun hF => ?_)
        · refine ww_iinc (j := 3) (ks := [0, 1, 2, 3]) (lv' := fun v1 => [(3, .int v1), (0, .ref (gad G t)), (1, .int x1), (2, .int x2)]) cx dX6_worthOf_30 (by decide) rfl ic_1 hF (fun _ => rfl) (fun v1 hF => ?_)
          refine ww_goto cx dX6_worthOf_33 (tgt := 4) rfl ?_
          exact ww_sub [1, 2, 3, 0] rfl (hk4 _ _ _ hF)
        · refine ww_iload_n cx dX6_worthOf_21 rfl 2 rfl ?_
          refine ww_aload_n cx dX6_worthOf_22 rfl 0 rfl ?_
          refine gf_X6_9 cx (ht) dX6_worthOf_23 ?_
          refine ww_iload_n cx dX6_worthOf_26 rfl 3 rfl ?_
          refine ww_iald (N := 12) cx (ar_X6_8 ht) dX6_worthOf_27 hF (fun hF => ?_)
          refine ww_iadd cx dX6_worthOf_28 ?_
          refine ww_istore_n (ks := [0, 1, 2, 3]) (lv' := fun v2 => [(2, .int v2), (0, .ref (gad G t)), (1, .int x1), (3, .int x3)]) cx dX6_worthOf_29 rfl (by decide) hF (fun _ => rfl) (fun v2 hF => ?_)
          refine ww_iinc (j := 3) (ks := [0, 1, 2, 3]) (lv' := fun v3 => [(3, .int v3), (2, .int v2), (0, .ref (gad G t)), (1, .int x1)]) cx dX6_worthOf_30 (by decide) rfl ic_1 hF (fun _ => rfl) (fun v3 hF => ?_)
          refine ww_goto cx dX6_worthOf_33 (tgt := 4) rfl ?_
          exact ww_sub [2, 3, 1, 0] rfl (hk4 _ _ _ hF)
  unfold fX6_worthOf at hF
  show WW G X 4 σ [(0, .ref (gad G t)), (1, .int a1)] 0 []
  refine ww_iconst cx dX6_worthOf_0 ic_0 ?_
  refine ww_istore_n (ks := [0, 1, 2]) (lv' := fun v4 => [(2, .int v4), (0, .ref (gad G t)), (1, .int a1)]) cx dX6_worthOf_1 rfl (by decide) hF (fun _ => rfl) (fun v4 hF => ?_)
  refine ww_iconst cx dX6_worthOf_2 ic_0 ?_
  refine ww_istore_n (ks := [0, 1, 2, 3]) (lv' := fun v5 => [(3, .int v5), (2, .int v4), (0, .ref (gad G t)), (1, .int a1)]) cx dX6_worthOf_3 rfl (by decide) hF (fun _ => rfl) (fun v5 hF => ?_)
  exact ww_sub [2, 3, 1, 0] rfl (hl4 FU _ _ _ hF)
theorem dX8_allClaims_0 : decode cX8_allClaims 0 = .ok (.iconst 1, 1) := by decide +kernel
theorem dX8_allClaims_1 : decode cX8_allClaims 1 = .ok (.aload_n 0, 1) := by decide +kernel
theorem dX8_allClaims_2 : decode cX8_allClaims 2 = .ok (.getfield 9, 3) := by decide +kernel
theorem dX8_allClaims_5 : decode cX8_allClaims 5 = .ok (.iconst 3, 1) := by decide +kernel
theorem dX8_allClaims_6 : decode cX8_allClaims 6 = .ok (.iaload, 1) := by decide +kernel
theorem dX8_allClaims_7 : decode cX8_allClaims 7 = .ok (.ishl, 1) := by decide +kernel
theorem dX8_allClaims_8 : decode cX8_allClaims 8 = .ok (.iconst 1, 1) := by decide +kernel
theorem dX8_allClaims_9 : decode cX8_allClaims 9 = .ok (.isub, 1) := by decide +kernel
theorem dX8_allClaims_10 : decode cX8_allClaims 10 = .ok (.ireturn, 1) := by decide +kernel
set_option maxRecDepth 4000 in
theorem kX8_allClaims (G : GT) {σ : St} : ∀ (r : Int32) , fX8_allClaims σ = some r → MCt G 1 yX8_allClaims cX8_allClaims 1 (some .int) [.ref (gad G 62)] σ (some (.int r)) σ := by
  intro r hF
  refine met_i (by decide) (Nat.le_of_ble_eq_true rfl) (fun X cx hE => ?_)
  have cx : Cx G X RX8 cX8_allClaims 1 1 := cx
  unfold fX8_allClaims at hF
  show WW G X 1 σ [(0, .ref (gad G 62))] 0 []
  refine ww_iconst cx dX8_allClaims_0 ic_1 ?_
  refine ww_aload_n cx dX8_allClaims_1 rfl 0 rfl ?_
  refine gf_X8_9 cx dX8_allClaims_2 ?_
  refine ww_iconst cx dX8_allClaims_5 ic_3 ?_
  refine ww_iald (N := 77) cx (sh_63) dX8_allClaims_6 hF (fun hF => ?_)
  refine ww_ishl cx dX8_allClaims_7 ?_
  refine ww_iconst cx dX8_allClaims_8 ic_1 ?_
  refine ww_isub cx dX8_allClaims_9 ?_
  exact ww_rip hE dX8_allClaims_10 hF
theorem dX8_allGuests_0 : decode cX8_allGuests 0 = .ok (.iconst 1, 1) := by decide +kernel
theorem dX8_allGuests_1 : decode cX8_allGuests 1 = .ok (.aload_n 0, 1) := by decide +kernel
theorem dX8_allGuests_2 : decode cX8_allGuests 2 = .ok (.getfield 9, 3) := by decide +kernel
theorem dX8_allGuests_5 : decode cX8_allGuests 5 = .ok (.iconst 5, 1) := by decide +kernel
theorem dX8_allGuests_6 : decode cX8_allGuests 6 = .ok (.iaload, 1) := by decide +kernel
theorem dX8_allGuests_7 : decode cX8_allGuests 7 = .ok (.ishl, 1) := by decide +kernel
theorem dX8_allGuests_8 : decode cX8_allGuests 8 = .ok (.iconst 1, 1) := by decide +kernel
theorem dX8_allGuests_9 : decode cX8_allGuests 9 = .ok (.isub, 1) := by decide +kernel
theorem dX8_allGuests_10 : decode cX8_allGuests 10 = .ok (.ireturn, 1) := by decide +kernel
set_option maxRecDepth 4000 in
theorem kX8_allGuests (G : GT) {σ : St} : ∀ (r : Int32) , fX8_allGuests σ = some r → MCt G 1 yX8_allGuests cX8_allGuests 1 (some .int) [.ref (gad G 62)] σ (some (.int r)) σ := by
  intro r hF
  refine met_i (by decide) (Nat.le_of_ble_eq_true rfl) (fun X cx hE => ?_)
  have cx : Cx G X RX8 cX8_allGuests 1 1 := cx
  unfold fX8_allGuests at hF
  show WW G X 1 σ [(0, .ref (gad G 62))] 0 []
  refine ww_iconst cx dX8_allGuests_0 ic_1 ?_
  refine ww_aload_n cx dX8_allGuests_1 rfl 0 rfl ?_
  refine gf_X8_9 cx dX8_allGuests_2 ?_
  refine ww_iconst cx dX8_allGuests_5 ic_5 ?_
  refine ww_iald (N := 77) cx (sh_63) dX8_allGuests_6 hF (fun hF => ?_)
  refine ww_ishl cx dX8_allGuests_7 ?_
  refine ww_iconst cx dX8_allGuests_8 ic_1 ?_
  refine ww_isub cx dX8_allGuests_9 ?_
  exact ww_rip hE dX8_allGuests_10 hF
theorem dX8_allSteps_0 : decode cX8_allSteps 0 = .ok (.iconst 1, 1) := by decide +kernel
theorem dX8_allSteps_1 : decode cX8_allSteps 1 = .ok (.aload_n 0, 1) := by decide +kernel
theorem dX8_allSteps_2 : decode cX8_allSteps 2 = .ok (.getfield 9, 3) := by decide +kernel
theorem dX8_allSteps_5 : decode cX8_allSteps 5 = .ok (.iconst 4, 1) := by decide +kernel
theorem dX8_allSteps_6 : decode cX8_allSteps 6 = .ok (.iaload, 1) := by decide +kernel
theorem dX8_allSteps_7 : decode cX8_allSteps 7 = .ok (.ishl, 1) := by decide +kernel
theorem dX8_allSteps_8 : decode cX8_allSteps 8 = .ok (.iconst 1, 1) := by decide +kernel
theorem dX8_allSteps_9 : decode cX8_allSteps 9 = .ok (.isub, 1) := by decide +kernel
theorem dX8_allSteps_10 : decode cX8_allSteps 10 = .ok (.ireturn, 1) := by decide +kernel
set_option maxRecDepth 4000 in
theorem kX8_allSteps (G : GT) {σ : St} : ∀ (r : Int32) , fX8_allSteps σ = some r → MCt G 1 yX8_allSteps cX8_allSteps 1 (some .int) [.ref (gad G 62)] σ (some (.int r)) σ := by
  intro r hF
  refine met_i (by decide) (Nat.le_of_ble_eq_true rfl) (fun X cx hE => ?_)
  have cx : Cx G X RX8 cX8_allSteps 1 1 := cx
  unfold fX8_allSteps at hF
  show WW G X 1 σ [(0, .ref (gad G 62))] 0 []
  refine ww_iconst cx dX8_allSteps_0 ic_1 ?_
  refine ww_aload_n cx dX8_allSteps_1 rfl 0 rfl ?_
  refine gf_X8_9 cx dX8_allSteps_2 ?_
  refine ww_iconst cx dX8_allSteps_5 ic_4 ?_
  refine ww_iald (N := 77) cx (sh_63) dX8_allSteps_6 hF (fun hF => ?_)
  refine ww_ishl cx dX8_allSteps_7 ?_
  refine ww_iconst cx dX8_allSteps_8 ic_1 ?_
  refine ww_isub cx dX8_allSteps_9 ?_
  exact ww_rip hE dX8_allSteps_10 hF
theorem dX8_bit_0 : decode cX8_bit 0 = .ok (.iload_n 0, 1) := by decide +kernel
theorem dX8_bit_1 : decode cX8_bit 1 = .ok (.iload_n 1, 1) := by decide +kernel
theorem dX8_bit_2 : decode cX8_bit 2 = .ok (.ishr, 1) := by decide +kernel
theorem dX8_bit_3 : decode cX8_bit 3 = .ok (.iconst 1, 1) := by decide +kernel
theorem dX8_bit_4 : decode cX8_bit 4 = .ok (.iand, 1) := by decide +kernel
theorem dX8_bit_5 : decode cX8_bit 5 = .ok (.ireturn, 1) := by decide +kernel
set_option maxRecDepth 4000 in
theorem kX8_bit (G : GT) {σ : St} {a0 : Int32} {a1 : Int32} : ∀ (r : Int32) , fX8_bit a0 a1 = some r → MCt G 1 yX8_bit cX8_bit 2 (some .int) [.int a0, .int a1] σ (some (.int r)) σ := by
  intro r hF
  refine met_i (by decide) (Nat.le_of_ble_eq_true rfl) (fun X cx hE => ?_)
  have cx : Cx G X RX8 cX8_bit 2 1 := cx
  unfold fX8_bit at hF
  show WW G X 2 σ [(0, .int a0), (1, .int a1)] 0 []
  refine ww_iload_n cx dX8_bit_0 rfl 0 rfl ?_
  refine ww_iload_n cx dX8_bit_1 rfl 1 rfl ?_
  refine ww_ishr cx dX8_bit_2 ?_
  refine ww_iconst cx dX8_bit_3 ic_1 ?_
  refine ww_iand cx dX8_bit_4 ?_
  exact ww_rip hE dX8_bit_5 hF
theorem dX8_bits_0 : decode cX8_bits 0 = .ok (.iload_n 0, 1) := by decide +kernel
theorem dX8_bits_1 : decode cX8_bits 1 = .ok (.iload_n 0, 1) := by decide +kernel
theorem dX8_bits_2 : decode cX8_bits 2 = .ok (.iconst 1, 1) := by decide +kernel
theorem dX8_bits_3 : decode cX8_bits 3 = .ok (.iushr, 1) := by decide +kernel
theorem dX8_bits_4 : decode cX8_bits 4 = .ok (.ldc 77, 2) := by decide +kernel
theorem dX8_bits_6 : decode cX8_bits 6 = .ok (.iand, 1) := by decide +kernel
theorem dX8_bits_7 : decode cX8_bits 7 = .ok (.isub, 1) := by decide +kernel
theorem dX8_bits_8 : decode cX8_bits 8 = .ok (.istore_n 1, 1) := by decide +kernel
theorem dX8_bits_9 : decode cX8_bits 9 = .ok (.iload_n 1, 1) := by decide +kernel
theorem dX8_bits_10 : decode cX8_bits 10 = .ok (.ldc 78, 2) := by decide +kernel
theorem dX8_bits_12 : decode cX8_bits 12 = .ok (.iand, 1) := by decide +kernel
theorem dX8_bits_13 : decode cX8_bits 13 = .ok (.iload_n 1, 1) := by decide +kernel
theorem dX8_bits_14 : decode cX8_bits 14 = .ok (.iconst 2, 1) := by decide +kernel
theorem dX8_bits_15 : decode cX8_bits 15 = .ok (.iushr, 1) := by decide +kernel
theorem dX8_bits_16 : decode cX8_bits 16 = .ok (.ldc 78, 2) := by decide +kernel
theorem dX8_bits_18 : decode cX8_bits 18 = .ok (.iand, 1) := by decide +kernel
theorem dX8_bits_19 : decode cX8_bits 19 = .ok (.iadd, 1) := by decide +kernel
theorem dX8_bits_20 : decode cX8_bits 20 = .ok (.istore_n 2, 1) := by decide +kernel
theorem dX8_bits_21 : decode cX8_bits 21 = .ok (.iload_n 2, 1) := by decide +kernel
theorem dX8_bits_22 : decode cX8_bits 22 = .ok (.iload_n 2, 1) := by decide +kernel
theorem dX8_bits_23 : decode cX8_bits 23 = .ok (.iconst 4, 1) := by decide +kernel
theorem dX8_bits_24 : decode cX8_bits 24 = .ok (.iushr, 1) := by decide +kernel
theorem dX8_bits_25 : decode cX8_bits 25 = .ok (.iadd, 1) := by decide +kernel
theorem dX8_bits_26 : decode cX8_bits 26 = .ok (.ldc 79, 2) := by decide +kernel
theorem dX8_bits_28 : decode cX8_bits 28 = .ok (.iand, 1) := by decide +kernel
theorem dX8_bits_29 : decode cX8_bits 29 = .ok (.ldc 80, 2) := by decide +kernel
theorem dX8_bits_31 : decode cX8_bits 31 = .ok (.imul, 1) := by decide +kernel
theorem dX8_bits_32 : decode cX8_bits 32 = .ok (.bipush 24, 2) := by decide +kernel
theorem dX8_bits_34 : decode cX8_bits 34 = .ok (.iushr, 1) := by decide +kernel
theorem dX8_bits_35 : decode cX8_bits 35 = .ok (.ireturn, 1) := by decide +kernel
set_option maxRecDepth 4000 in
theorem kX8_bits (G : GT) {σ : St} {a0 : Int32} : ∀ (r : Int32) , fX8_bits a0 = some r → MCt G 1 yX8_bits cX8_bits 3 (some .int) [.int a0] σ (some (.int r)) σ := by
  intro r hF
  refine met_i (by decide) (Nat.le_of_ble_eq_true rfl) (fun X cx hE => ?_)
  have cx : Cx G X RX8 cX8_bits 3 1 := cx
  unfold fX8_bits at hF
  show WW G X 3 σ [(0, .int a0)] 0 []
  refine ww_iload_n cx dX8_bits_0 rfl 0 rfl ?_
  refine ww_iload_n cx dX8_bits_1 rfl 0 rfl ?_
  refine ww_iconst cx dX8_bits_2 ic_1 ?_
  refine ww_iushr cx dX8_bits_3 ?_
  refine ww_ldc (v := 1431655765) cx dX8_bits_4 cn_X8_77 ?_
  refine ww_iand cx dX8_bits_6 ?_
  refine ww_isub cx dX8_bits_7 ?_
  refine ww_istore_n (ks := [0]) (lv' := fun v1 => [(1, .int v1)]) cx dX8_bits_8 rfl (by decide) hF (fun _ => rfl) (fun v1 hF => ?_)
  refine ww_iload_n cx dX8_bits_9 rfl 0 rfl ?_
  refine ww_ldc (v := 858993459) cx dX8_bits_10 cn_X8_78 ?_
  refine ww_iand cx dX8_bits_12 ?_
  refine ww_iload_n cx dX8_bits_13 rfl 0 rfl ?_
  refine ww_iconst cx dX8_bits_14 ic_2 ?_
  refine ww_iushr cx dX8_bits_15 ?_
  refine ww_ldc (v := 858993459) cx dX8_bits_16 cn_X8_78 ?_
  refine ww_iand cx dX8_bits_18 ?_
  refine ww_iadd cx dX8_bits_19 ?_
  refine ww_istore_n (ks := [0]) (lv' := fun v2 => [(2, .int v2)]) cx dX8_bits_20 rfl (by decide) hF (fun _ => rfl) (fun v2 hF => ?_)
  refine ww_iload_n cx dX8_bits_21 rfl 0 rfl ?_
  refine ww_iload_n cx dX8_bits_22 rfl 0 rfl ?_
  refine ww_iconst cx dX8_bits_23 ic_4 ?_
  refine ww_iushr cx dX8_bits_24 ?_
  refine ww_iadd cx dX8_bits_25 ?_
  refine ww_ldc (v := 252645135) cx dX8_bits_26 cn_X8_79 ?_
  refine ww_iand cx dX8_bits_28 ?_
  refine ww_ldc (v := 16843009) cx dX8_bits_29 cn_X8_80 ?_
  refine ww_imul cx dX8_bits_31 ?_
  refine ww_bipush cx dX8_bits_32 bc_24 ?_
  refine ww_iushr cx dX8_bits_34 ?_
  exact ww_rip hE dX8_bits_35 hF
theorem dX8_count_0 : decode cX8_count 0 = .ok (.iconst 0, 1) := by decide +kernel
theorem dX8_count_1 : decode cX8_count 1 = .ok (.istore_n 2, 1) := by decide +kernel
theorem dX8_count_2 : decode cX8_count 2 = .ok (.iload_n 1, 1) := by decide +kernel
theorem dX8_count_3 : decode cX8_count 3 = .ok (.tableswitch 137 0 8 #[49, 56, 63, 70, 77, 84, 91, 99, 104], 49) := by decide +kernel
theorem dX8_count_52 : decode cX8_count 52 = .ok (.aload_n 0, 1) := by decide +kernel
theorem dX8_count_53 : decode cX8_count 53 = .ok (.getfield 9, 3) := by decide +kernel
theorem dX8_count_56 : decode cX8_count 56 = .ok (.iconst 0, 1) := by decide +kernel
theorem dX8_count_57 : decode cX8_count 57 = .ok (.iaload, 1) := by decide +kernel
theorem dX8_count_58 : decode cX8_count 58 = .ok (.ireturn, 1) := by decide +kernel
theorem dX8_count_59 : decode cX8_count 59 = .ok (.aload_n 0, 1) := by decide +kernel
theorem dX8_count_60 : decode cX8_count 60 = .ok (.getfield 9, 3) := by decide +kernel
theorem dX8_count_63 : decode cX8_count 63 = .ok (.iconst 1, 1) := by decide +kernel
theorem dX8_count_64 : decode cX8_count 64 = .ok (.iaload, 1) := by decide +kernel
theorem dX8_count_65 : decode cX8_count 65 = .ok (.ireturn, 1) := by decide +kernel
theorem dX8_count_66 : decode cX8_count 66 = .ok (.aload_n 0, 1) := by decide +kernel
theorem dX8_count_67 : decode cX8_count 67 = .ok (.getfield 9, 3) := by decide +kernel
theorem dX8_count_70 : decode cX8_count 70 = .ok (.iconst 2, 1) := by decide +kernel
theorem dX8_count_71 : decode cX8_count 71 = .ok (.iaload, 1) := by decide +kernel
theorem dX8_count_72 : decode cX8_count 72 = .ok (.ireturn, 1) := by decide +kernel
theorem dX8_count_73 : decode cX8_count 73 = .ok (.aload_n 0, 1) := by decide +kernel
theorem dX8_count_74 : decode cX8_count 74 = .ok (.getfield 9, 3) := by decide +kernel
theorem dX8_count_77 : decode cX8_count 77 = .ok (.iconst 3, 1) := by decide +kernel
theorem dX8_count_78 : decode cX8_count 78 = .ok (.iaload, 1) := by decide +kernel
theorem dX8_count_79 : decode cX8_count 79 = .ok (.ireturn, 1) := by decide +kernel
theorem dX8_count_80 : decode cX8_count 80 = .ok (.aload_n 0, 1) := by decide +kernel
theorem dX8_count_81 : decode cX8_count 81 = .ok (.getfield 9, 3) := by decide +kernel
theorem dX8_count_84 : decode cX8_count 84 = .ok (.iconst 4, 1) := by decide +kernel
theorem dX8_count_85 : decode cX8_count 85 = .ok (.iaload, 1) := by decide +kernel
theorem dX8_count_86 : decode cX8_count 86 = .ok (.ireturn, 1) := by decide +kernel
theorem dX8_count_87 : decode cX8_count 87 = .ok (.aload_n 0, 1) := by decide +kernel
theorem dX8_count_88 : decode cX8_count 88 = .ok (.getfield 9, 3) := by decide +kernel
theorem dX8_count_91 : decode cX8_count 91 = .ok (.iconst 5, 1) := by decide +kernel
theorem dX8_count_92 : decode cX8_count 92 = .ok (.iaload, 1) := by decide +kernel
theorem dX8_count_93 : decode cX8_count 93 = .ok (.ireturn, 1) := by decide +kernel
theorem dX8_count_94 : decode cX8_count 94 = .ok (.aload_n 0, 1) := by decide +kernel
theorem dX8_count_95 : decode cX8_count 95 = .ok (.getfield 9, 3) := by decide +kernel
theorem dX8_count_98 : decode cX8_count 98 = .ok (.bipush 6, 2) := by decide +kernel
theorem dX8_count_100 : decode cX8_count 100 = .ok (.iaload, 1) := by decide +kernel
theorem dX8_count_101 : decode cX8_count 101 = .ok (.ireturn, 1) := by decide +kernel
theorem dX8_count_102 : decode cX8_count 102 = .ok (.aload_n 0, 1) := by decide +kernel
theorem dX8_count_103 : decode cX8_count 103 = .ok (.getfield 95, 3) := by decide +kernel
theorem dX8_count_106 : decode cX8_count 106 = .ok (.ireturn, 1) := by decide +kernel
theorem dX8_count_107 : decode cX8_count 107 = .ok (.iconst 0, 1) := by decide +kernel
theorem dX8_count_108 : decode cX8_count 108 = .ok (.istore_n 3, 1) := by decide +kernel
theorem dX8_count_109 : decode cX8_count 109 = .ok (.iload_n 3, 1) := by decide +kernel
theorem dX8_count_110 : decode cX8_count 110 = .ok (.iconst 4, 1) := by decide +kernel
theorem dX8_count_111 : decode cX8_count 111 = .ok (.if_icmp .ge 27, 3) := by decide +kernel
theorem dX8_count_114 : decode cX8_count 114 = .ok (.iload_n 2, 1) := by decide +kernel
theorem dX8_count_115 : decode cX8_count 115 = .ok (.aload_n 0, 1) := by decide +kernel
theorem dX8_count_116 : decode cX8_count 116 = .ok (.getfield 61, 3) := by decide +kernel
theorem dX8_count_119 : decode cX8_count 119 = .ok (.iload_n 3, 1) := by decide +kernel
theorem dX8_count_120 : decode cX8_count 120 = .ok (.iaload, 1) := by decide +kernel
theorem dX8_count_121 : decode cX8_count 121 = .ok (.iconst (-1), 1) := by decide +kernel
theorem dX8_count_122 : decode cX8_count 122 = .ok (.if_icmp .ne 7, 3) := by decide +kernel
theorem dX8_count_125 : decode cX8_count 125 = .ok (.iconst 0, 1) := by decide +kernel
theorem dX8_count_126 : decode cX8_count 126 = .ok (.goto 4, 3) := by decide +kernel
theorem dX8_count_129 : decode cX8_count 129 = .ok (.iconst 1, 1) := by decide +kernel
theorem dX8_count_130 : decode cX8_count 130 = .ok (.iadd, 1) := by decide +kernel
theorem dX8_count_131 : decode cX8_count 131 = .ok (.istore_n 2, 1) := by decide +kernel
theorem dX8_count_132 : decode cX8_count 132 = .ok (.iinc 3 1, 3) := by decide +kernel
theorem dX8_count_135 : decode cX8_count 135 = .ok (.goto (-26), 3) := by decide +kernel
theorem dX8_count_138 : decode cX8_count 138 = .ok (.iload_n 2, 1) := by decide +kernel
theorem dX8_count_139 : decode cX8_count 139 = .ok (.ireturn, 1) := by decide +kernel
theorem dX8_count_140 : decode cX8_count 140 = .ok (.iconst (-1), 1) := by decide +kernel
theorem dX8_count_141 : decode cX8_count 141 = .ok (.ireturn, 1) := by decide +kernel
set_option maxRecDepth 4000 in
theorem kX8_count (G : GT) {σ : St} {a1 : Int32} : ∀ (r : Int32) , fX8_count σ a1 = some r → MCt G 1 yX8_count cX8_count 4 (some .int) [.ref (gad G 62), .int a1] σ (some (.int r)) σ := by
  intro r hF
  refine met_i (by decide) (Nat.le_of_ble_eq_true rfl) (fun X cx hE => ?_)
  have cx : Cx G X RX8 cX8_count 4 1 := cx
  have hb130 : ∀ (kr109 : Int32 → Int32 → Option (Int32)), (∀ (x2 : Int32) (x3 : Int32) , kr109 x2 x3 = some r → WW G X 4 σ [(0, .ref (gad G 62)), (2, .int x2), (3, .int x3)] 109 []) → ∀ (x3 : Int32) (y0 : Int32) (y1 : Int32) , fX8_count_b130 σ kr109 x3 y0 y1 = some r → WW G X 4 σ [(0, .ref (gad G 62)), (3, .int x3)] 130 [.int y1, .int y0] := by
    intro kr109 hk109
    intro x3 y0 y1 hF
    unfold fX8_count_b130 at hF
    refine ww_iadd cx dX8_count_130 ?_
    refine ww_istore_n (ks := [0, 1, 2]) (lv' := fun v1 => [(2, .int v1), (0, .ref (gad G 62)), (3, .int x3)]) cx dX8_count_131 rfl (by decide) hF (fun _ => rfl) (fun v1 hF => ?_)
    refine ww_iinc (j := 2) (ks := [0, 1, 2]) (lv' := fun v2 => [(3, .int v2), (2, .int v1), (0, .ref (gad G 62))]) cx dX8_count_132 (by decide) rfl ic_1 hF (fun _ => rfl) (fun v2 hF => ?_)
    refine ww_goto cx dX8_count_135 (tgt := 109) rfl ?_
    exact ww_sub [2, 1, 0] rfl (hk109 _ _ hF)
  have hl109 : ∀ n : Nat, ∀ (x2 : Int32) (x3 : Int32) , fX8_count_l109 σ n x2 x3 = some r → WW G X 4 σ [(0, .ref (gad G 62)), (2, .int x2), (3, .int x3)] 109 [] := by
    intro n
    induction n with
    | zero =>
      intro x2 x3 hF
      exact absurd hF (by intro z; cases z)
    | succ n ih =>
      intro x2 x3 hF
      have hk109 := ih
      have hF : fX8_count_B109 σ (fX8_count_l109 σ n) x2 x3 = some r := hF
      unfold fX8_count_B109 at hF
      refine ww_iload_n cx dX8_count_109 rfl 2 rfl ?_
      refine ww_iconst cx dX8_count_110 ic_4 ?_
      refine ww_icmp_ge cx dX8_count_111 (tgt := 138) rfl hF (fun hF => ?_) (fun hF => ?_)
      · refine ww_iload_n cx dX8_count_138 rfl 1 rfl ?_
        exact ww_rip hE dX8_count_139 hF
      · refine ww_iload_n cx dX8_count_114 rfl 1 rfl ?_
        refine ww_aload_n cx dX8_count_115 rfl 0 rfl ?_
        refine gf_X8_61 cx dX8_count_116 ?_
        refine ww_iload_n cx dX8_count_119 rfl 2 rfl ?_
        refine ww_iald (N := 4) cx (sh_78) dX8_count_120 hF (fun hF => ?_)
        refine ww_iconst cx dX8_count_121 ic_m1 ?_
        refine ww_icmp_ne cx dX8_count_122 (tgt := 129) rfl hF (fun hF => ?_) (fun hF => ?_)
        · refine ww_iconst cx dX8_count_129 ic_1 ?_
          exact ww_sub [0, 2] rfl (hb130 _ hk109 _ _ _ hF)
        · refine ww_iconst cx dX8_count_125 ic_0 ?_
          refine ww_goto cx dX8_count_126 (tgt := 130) rfl ?_
          exact ww_sub [0, 2] rfl (hb130 _ hk109 _ _ _ hF)
  unfold fX8_count at hF
  show WW G X 4 σ [(0, .ref (gad G 62)), (1, .int a1)] 0 []
  refine ww_iconst cx dX8_count_0 ic_0 ?_
  refine ww_istore_n (ks := [0, 1, 2]) (lv' := fun v3 => [(2, .int v3), (0, .ref (gad G 62)), (1, .int a1)]) cx dX8_count_1 rfl (by decide) hF (fun _ => rfl) (fun v3 hF => ?_)
  refine ww_iload_n cx dX8_count_2 rfl 2 rfl ?_
  by_cases e0 : a1 = 0
  · replace hF := it_t e0 hF
    refine ww_tsIn (v := 0) (tgt := 52) cx dX8_count_3 e0 (by decide) (by decide) rfl rfl ?_
    refine ww_aload_n cx dX8_count_52 rfl 1 rfl ?_
    refine gf_X8_9 cx dX8_count_53 ?_
    refine ww_iconst cx dX8_count_56 ic_0 ?_
    refine ww_iald (N := 77) cx (sh_63) dX8_count_57 hF (fun hF => ?_)
    exact ww_rip hE dX8_count_58 hF
  replace hF := it_f e0 hF
  by_cases e1 : a1 = 1
  · replace hF := it_t e1 hF
    refine ww_tsIn (v := 1) (tgt := 59) cx dX8_count_3 e1 (by decide) (by decide) rfl rfl ?_
    refine ww_aload_n cx dX8_count_59 rfl 1 rfl ?_
    refine gf_X8_9 cx dX8_count_60 ?_
    refine ww_iconst cx dX8_count_63 ic_1 ?_
    refine ww_iald (N := 77) cx (sh_63) dX8_count_64 hF (fun hF => ?_)
    exact ww_rip hE dX8_count_65 hF
  replace hF := it_f e1 hF
  by_cases e2 : a1 = 2
  · replace hF := it_t e2 hF
    refine ww_tsIn (v := 2) (tgt := 66) cx dX8_count_3 e2 (by decide) (by decide) rfl rfl ?_
    refine ww_aload_n cx dX8_count_66 rfl 1 rfl ?_
    refine gf_X8_9 cx dX8_count_67 ?_
    refine ww_iconst cx dX8_count_70 ic_2 ?_
    refine ww_iald (N := 77) cx (sh_63) dX8_count_71 hF (fun hF => ?_)
    exact ww_rip hE dX8_count_72 hF
  replace hF := it_f e2 hF
  by_cases e3 : a1 = 3
  · replace hF := it_t e3 hF
    refine ww_tsIn (v := 3) (tgt := 73) cx dX8_count_3 e3 (by decide) (by decide) rfl rfl ?_
    refine ww_aload_n cx dX8_count_73 rfl 1 rfl ?_
    refine gf_X8_9 cx dX8_count_74 ?_
    refine ww_iconst cx dX8_count_77 ic_3 ?_
    refine ww_iald (N := 77) cx (sh_63) dX8_count_78 hF (fun hF => ?_)
    exact ww_rip hE dX8_count_79 hF
  replace hF := it_f e3 hF
  by_cases e4 : a1 = 4
  · replace hF := it_t e4 hF
    refine ww_tsIn (v := 4) (tgt := 80) cx dX8_count_3 e4 (by decide) (by decide) rfl rfl ?_
    refine ww_aload_n cx dX8_count_80 rfl 1 rfl ?_
    refine gf_X8_9 cx dX8_count_81 ?_
    refine ww_iconst cx dX8_count_84 ic_4 ?_
    refine ww_iald (N := 77) cx (sh_63) dX8_count_85 hF (fun hF => ?_)
    exact ww_rip hE dX8_count_86 hF
  replace hF := it_f e4 hF
  by_cases e5 : a1 = 5
  · replace hF := it_t e5 hF
    refine ww_tsIn (v := 5) (tgt := 87) cx dX8_count_3 e5 (by decide) (by decide) rfl rfl ?_
    refine ww_aload_n cx dX8_count_87 rfl 1 rfl ?_
    refine gf_X8_9 cx dX8_count_88 ?_
    refine ww_iconst cx dX8_count_91 ic_5 ?_
    refine ww_iald (N := 77) cx (sh_63) dX8_count_92 hF (fun hF => ?_)
    exact ww_rip hE dX8_count_93 hF
  replace hF := it_f e5 hF
  by_cases e6 : a1 = 6
  · replace hF := it_t e6 hF
    refine ww_tsIn (v := 6) (tgt := 94) cx dX8_count_3 e6 (by decide) (by decide) rfl rfl ?_
    refine ww_aload_n cx dX8_count_94 rfl 1 rfl ?_
    refine gf_X8_9 cx dX8_count_95 ?_
    refine ww_bipush cx dX8_count_98 bc_6 ?_
    refine ww_iald (N := 77) cx (sh_63) dX8_count_100 hF (fun hF => ?_)
    exact ww_rip hE dX8_count_101 hF
  replace hF := it_f e6 hF
  by_cases e7 : a1 = 7
  · replace hF := it_t e7 hF
    refine ww_tsIn (v := 7) (tgt := 102) cx dX8_count_3 e7 (by decide) (by decide) rfl rfl ?_
    refine ww_aload_n cx dX8_count_102 rfl 1 rfl ?_
    refine gf_X8_95 cx dX8_count_103 ?_
    exact ww_rip hE dX8_count_106 hF
  replace hF := it_f e7 hF
  by_cases e8 : a1 = 8
  · replace hF := it_t e8 hF
    refine ww_tsIn (v := 8) (tgt := 107) cx dX8_count_3 e8 (by decide) (by decide) rfl rfl ?_
    refine ww_iconst cx dX8_count_107 ic_0 ?_
    refine ww_istore_n (ks := [0, 1, 2]) (lv' := fun v4 => [(3, .int v4), (2, .int v3), (0, .ref (gad G 62))]) cx dX8_count_108 rfl (by decide) hF (fun _ => rfl) (fun v4 hF => ?_)
    exact ww_sub [2, 1, 0] rfl (hl109 FU _ _ hF)
  replace hF := it_f e8 hF
  refine ww_tsOut (tgt := 140) cx dX8_count_3 (ts_out9 e0 e1 e2 e3 e4 e5 e6 e7 e8) rfl ?_
  refine ww_iconst cx dX8_count_140 ic_m1 ?_
  exact ww_rip hE dX8_count_141 hF
theorem dX8_cut_0 : decode cX8_cut 0 = .ok (.bipush 64, 2) := by decide +kernel
theorem dX8_cut_2 : decode cX8_cut 2 = .ok (.bipush 8, 2) := by decide +kernel
theorem dX8_cut_4 : decode cX8_cut 4 = .ok (.iload_n 2, 1) := by decide +kernel
theorem dX8_cut_5 : decode cX8_cut 5 = .ok (.ishl, 1) := by decide +kernel
theorem dX8_cut_6 : decode cX8_cut 6 = .ok (.isub, 1) := by decide +kernel
theorem dX8_cut_7 : decode cX8_cut 7 = .ok (.istore_n 3, 1) := by decide +kernel
theorem dX8_cut_8 : decode cX8_cut 8 = .ok (.lload_n 0, 1) := by decide +kernel
theorem dX8_cut_9 : decode cX8_cut 9 = .ok (.iload_n 3, 1) := by decide +kernel
theorem dX8_cut_10 : decode cX8_cut 10 = .ok (.lshl, 1) := by decide +kernel
theorem dX8_cut_11 : decode cX8_cut 11 = .ok (.iload_n 3, 1) := by decide +kernel
theorem dX8_cut_12 : decode cX8_cut 12 = .ok (.lshr, 1) := by decide +kernel
theorem dX8_cut_13 : decode cX8_cut 13 = .ok (.lreturn, 1) := by decide +kernel
set_option maxRecDepth 4000 in
theorem kX8_cut (G : GT) {σ : St} {a0 : Int64} {a2 : Int32} : ∀ (r : Int64) , fX8_cut a0 a2 = some r → MCt G 1 yX8_cut cX8_cut 4 (some .long) [.long a0, .int a2] σ (some (.long r)) σ := by
  intro r hF
  refine met_l (by decide) (Nat.le_of_ble_eq_true rfl) (fun X cx hE => ?_)
  have cx : Cx G X RX8 cX8_cut 4 1 := cx
  unfold fX8_cut at hF
  show WW G X 4 σ [(0, .long a0), (2, .int a2)] 0 []
  refine ww_bipush cx dX8_cut_0 bc_64 ?_
  refine ww_bipush cx dX8_cut_2 bc_8 ?_
  refine ww_iload_n cx dX8_cut_4 rfl 1 rfl ?_
  refine ww_ishl cx dX8_cut_5 ?_
  refine ww_isub cx dX8_cut_6 ?_
  refine ww_istore_n (ks := [0, 1]) (lv' := fun v1 => [(3, .int v1), (0, .long a0)]) cx dX8_cut_7 rfl (by decide) hF (fun _ => rfl) (fun v1 hF => ?_)
  refine ww_lload_n cx dX8_cut_8 rfl 1 rfl ?_
  refine ww_iload_n cx dX8_cut_9 rfl 0 rfl ?_
  refine ww_lshl cx dX8_cut_10 ?_
  refine ww_iload_n cx dX8_cut_11 rfl 0 rfl ?_
  refine ww_lshr cx dX8_cut_12 ?_
  exact ww_rlp hE dX8_cut_13 hF
theorem dX8_divisor_0 : decode cX8_divisor 0 = .ok (.iload_n 0, 1) := by decide +kernel
theorem dX8_divisor_1 : decode cX8_divisor 1 = .ok (.istore_n 2, 1) := by decide +kernel
theorem dX8_divisor_2 : decode cX8_divisor 2 = .ok (.iload_n 1, 1) := by decide +kernel
theorem dX8_divisor_3 : decode cX8_divisor 3 = .ok (.istore_n 3, 1) := by decide +kernel
theorem dX8_divisor_4 : decode cX8_divisor 4 = .ok (.iload_n 3, 1) := by decide +kernel
theorem dX8_divisor_5 : decode cX8_divisor 5 = .ok (.ifCond .eq 16, 3) := by decide +kernel
theorem dX8_divisor_8 : decode cX8_divisor 8 = .ok (.iload_n 2, 1) := by decide +kernel
theorem dX8_divisor_9 : decode cX8_divisor 9 = .ok (.iload_n 3, 1) := by decide +kernel
theorem dX8_divisor_10 : decode cX8_divisor 10 = .ok (.irem, 1) := by decide +kernel
theorem dX8_divisor_11 : decode cX8_divisor 11 = .ok (.istore 4, 2) := by decide +kernel
theorem dX8_divisor_13 : decode cX8_divisor 13 = .ok (.iload_n 3, 1) := by decide +kernel
theorem dX8_divisor_14 : decode cX8_divisor 14 = .ok (.istore_n 2, 1) := by decide +kernel
theorem dX8_divisor_15 : decode cX8_divisor 15 = .ok (.iload 4, 2) := by decide +kernel
theorem dX8_divisor_17 : decode cX8_divisor 17 = .ok (.istore_n 3, 1) := by decide +kernel
theorem dX8_divisor_18 : decode cX8_divisor 18 = .ok (.goto (-14), 3) := by decide +kernel
theorem dX8_divisor_21 : decode cX8_divisor 21 = .ok (.iload_n 2, 1) := by decide +kernel
theorem dX8_divisor_22 : decode cX8_divisor 22 = .ok (.ireturn, 1) := by decide +kernel
set_option maxRecDepth 4000 in
theorem kX8_divisor (G : GT) {σ : St} {a0 : Int32} {a1 : Int32} : ∀ (r : Int32) , fX8_divisor a0 a1 = some r → MCt G 1 yX8_divisor cX8_divisor 5 (some .int) [.int a0, .int a1] σ (some (.int r)) σ := by
  intro r hF
  refine met_i (by decide) (Nat.le_of_ble_eq_true rfl) (fun X cx hE => ?_)
  have cx : Cx G X RX8 cX8_divisor 5 1 := cx
  have hl4 : ∀ n : Nat, ∀ (x2 : Int32) (x3 : Int32) , fX8_divisor_l4 n x2 x3 = some r → WW G X 5 σ [(2, .int x2), (3, .int x3)] 4 [] := by
    intro n
    induction n with
    | zero =>
      intro x2 x3 hF
      exact absurd hF (by intro z; cases z)
    | succ n ih =>
      intro x2 x3 hF
      have hk4 := ih
      have hF : fX8_divisor_B4 (fX8_divisor_l4 n) x2 x3 = some r := hF
      unfold fX8_divisor_B4 at hF
      refine ww_iload_n cx dX8_divisor_4 rfl 1 rfl ?_
      refine ww_if_eq cx dX8_divisor_5 (tgt := 21) rfl hF (fun hF => ?_) (fun hF => ?_)
      · refine ww_iload_n cx dX8_divisor_21 rfl 0 rfl ?_
        exact ww_rip hE dX8_divisor_22 hF
      · refine ww_iload_n cx dX8_divisor_8 rfl 0 rfl ?_
        refine ww_iload_n cx dX8_divisor_9 rfl 1 rfl ?_
        refine ww_irem cx dX8_divisor_10 hF (fun hF => ?_)
        refine ww_istore (ks := [0, 2]) (lv' := fun v1 => [(4, .int v1), (3, .int x3)]) cx dX8_divisor_11 (by decide) hF (fun _ => rfl) (fun v1 hF => ?_)
        refine ww_iload_n cx dX8_divisor_13 rfl 1 rfl ?_
        refine ww_istore_n (ks := [0, 1]) (lv' := fun v2 => [(2, .int v2), (4, .int v1)]) cx dX8_divisor_14 rfl (by decide) hF (fun _ => rfl) (fun v2 hF => ?_)
        refine ww_iload cx dX8_divisor_15 1 rfl ?_
        refine ww_istore_n (ks := [0, 1]) (lv' := fun v3 => [(3, .int v3), (2, .int v2)]) cx dX8_divisor_17 rfl (by decide) hF (fun _ => rfl) (fun v3 hF => ?_)
        refine ww_goto cx dX8_divisor_18 (tgt := 4) rfl ?_
        exact ww_sub [1, 0] rfl (hk4 _ _ hF)
  unfold fX8_divisor at hF
  show WW G X 5 σ [(0, .int a0), (1, .int a1)] 0 []
  refine ww_iload_n cx dX8_divisor_0 rfl 0 rfl ?_
  refine ww_istore_n (ks := [0, 2]) (lv' := fun v4 => [(2, .int v4), (1, .int a1)]) cx dX8_divisor_1 rfl (by decide) hF (fun _ => rfl) (fun v4 hF => ?_)
  refine ww_iload_n cx dX8_divisor_2 rfl 1 rfl ?_
  refine ww_istore_n (ks := [0, 1]) (lv' := fun v5 => [(3, .int v5), (2, .int v4)]) cx dX8_divisor_3 rfl (by decide) hF (fun _ => rfl) (fun v5 hF => ?_)
  exact ww_sub [1, 0] rfl (hl4 FU _ _ hF)
theorem dX8_fault_0 : decode cX8_fault 0 = .ok (.iload_n 1, 1) := by decide +kernel
theorem dX8_fault_1 : decode cX8_fault 1 = .ok (.ifCond .ne 10, 3) := by decide +kernel
theorem dX8_fault_4 : decode cX8_fault 4 = .ok (.aload_n 0, 1) := by decide +kernel
theorem dX8_fault_5 : decode cX8_fault 5 = .ok (.getfield 131, 3) := by decide +kernel
theorem dX8_fault_8 : decode cX8_fault 8 = .ok (.goto 16, 3) := by decide +kernel
theorem dX8_fault_11 : decode cX8_fault 11 = .ok (.iload_n 1, 1) := by decide +kernel
theorem dX8_fault_12 : decode cX8_fault 12 = .ok (.iconst 1, 1) := by decide +kernel
theorem dX8_fault_13 : decode cX8_fault 13 = .ok (.if_icmp .ne 10, 3) := by decide +kernel
theorem dX8_fault_16 : decode cX8_fault 16 = .ok (.aload_n 0, 1) := by decide +kernel
theorem dX8_fault_17 : decode cX8_fault 17 = .ok (.getfield 27, 3) := by decide +kernel
theorem dX8_fault_20 : decode cX8_fault 20 = .ok (.goto 4, 3) := by decide +kernel
theorem dX8_fault_23 : decode cX8_fault 23 = .ok (.iconst (-1), 1) := by decide +kernel
theorem dX8_fault_24 : decode cX8_fault 24 = .ok (.ireturn, 1) := by decide +kernel
set_option maxRecDepth 4000 in
theorem kX8_fault (G : GT) {σ : St} {a1 : Int32} : ∀ (r : Int32) , fX8_fault σ a1 = some r → MCt G 1 yX8_fault cX8_fault 2 (some .int) [.ref (gad G 62), .int a1] σ (some (.int r)) σ := by
  intro r hF
  refine met_i (by decide) (Nat.le_of_ble_eq_true rfl) (fun X cx hE => ?_)
  have cx : Cx G X RX8 cX8_fault 2 1 := cx
  unfold fX8_fault at hF
  show WW G X 2 σ [(0, .ref (gad G 62)), (1, .int a1)] 0 []
  refine ww_iload_n cx dX8_fault_0 rfl 1 rfl ?_
  refine ww_if_ne cx dX8_fault_1 (tgt := 11) rfl hF (fun hF => ?_) (fun hF => ?_)
  · refine ww_iload_n cx dX8_fault_11 rfl 1 rfl ?_
    refine ww_iconst cx dX8_fault_12 ic_1 ?_
    refine ww_icmp_ne cx dX8_fault_13 (tgt := 23) rfl hF (fun hF => ?_) (fun hF => ?_)
    · refine ww_iconst cx dX8_fault_23 ic_m1 ?_
      exact ww_rip hE dX8_fault_24 hF
    · refine ww_aload_n cx dX8_fault_16 rfl 0 rfl ?_
      refine gf_X8_27 cx dX8_fault_17 ?_
      refine ww_goto cx dX8_fault_20 (tgt := 24) rfl ?_
      exact ww_rip hE dX8_fault_24 hF
  · refine ww_aload_n cx dX8_fault_4 rfl 0 rfl ?_
    refine gf_X8_131 cx dX8_fault_5 ?_
    refine ww_goto cx dX8_fault_8 (tgt := 24) rfl ?_
    exact ww_rip hE dX8_fault_24 hF
theorem dX8_feed_0 : decode cX8_feed 0 = .ok (.aload_n 0, 1) := by decide +kernel
theorem dX8_feed_1 : decode cX8_feed 1 = .ok (.getfield 95, 3) := by decide +kernel
theorem dX8_feed_4 : decode cX8_feed 4 = .ok (.bipush 20, 2) := by decide +kernel
theorem dX8_feed_6 : decode cX8_feed 6 = .ok (.iadd, 1) := by decide +kernel
theorem dX8_feed_7 : decode cX8_feed 7 = .ok (.sipush 1600, 3) := by decide +kernel
theorem dX8_feed_10 : decode cX8_feed 10 = .ok (.if_icmp .le 5, 3) := by decide +kernel
theorem dX8_feed_13 : decode cX8_feed 13 = .ok (.iconst (-1), 1) := by decide +kernel
theorem dX8_feed_14 : decode cX8_feed 14 = .ok (.ireturn, 1) := by decide +kernel
theorem dX8_feed_15 : decode cX8_feed 15 = .ok (.aload_n 0, 1) := by decide +kernel
theorem dX8_feed_16 : decode cX8_feed 16 = .ok (.getfield 24, 3) := by decide +kernel
theorem dX8_feed_19 : decode cX8_feed 19 = .ok (.iconst 0, 1) := by decide +kernel
theorem dX8_feed_20 : decode cX8_feed 20 = .ok (.iload_n 1, 1) := by decide +kernel
theorem dX8_feed_21 : decode cX8_feed 21 = .ok (.iastore, 1) := by decide +kernel
theorem dX8_feed_22 : decode cX8_feed 22 = .ok (.aload_n 0, 1) := by decide +kernel
theorem dX8_feed_23 : decode cX8_feed 23 = .ok (.getfield 24, 3) := by decide +kernel
theorem dX8_feed_26 : decode cX8_feed 26 = .ok (.iconst 1, 1) := by decide +kernel
theorem dX8_feed_27 : decode cX8_feed 27 = .ok (.iload_n 2, 1) := by decide +kernel
theorem dX8_feed_28 : decode cX8_feed 28 = .ok (.iastore, 1) := by decide +kernel
theorem dX8_feed_29 : decode cX8_feed 29 = .ok (.aload_n 0, 1) := by decide +kernel
theorem dX8_feed_30 : decode cX8_feed 30 = .ok (.getfield 24, 3) := by decide +kernel
theorem dX8_feed_33 : decode cX8_feed 33 = .ok (.iconst 2, 1) := by decide +kernel
theorem dX8_feed_34 : decode cX8_feed 34 = .ok (.iload_n 3, 1) := by decide +kernel
theorem dX8_feed_35 : decode cX8_feed 35 = .ok (.iastore, 1) := by decide +kernel
theorem dX8_feed_36 : decode cX8_feed 36 = .ok (.aload_n 0, 1) := by decide +kernel
theorem dX8_feed_37 : decode cX8_feed 37 = .ok (.getfield 24, 3) := by decide +kernel
theorem dX8_feed_40 : decode cX8_feed 40 = .ok (.iconst 3, 1) := by decide +kernel
theorem dX8_feed_41 : decode cX8_feed 41 = .ok (.iload 4, 2) := by decide +kernel
theorem dX8_feed_43 : decode cX8_feed 43 = .ok (.iastore, 1) := by decide +kernel
theorem dX8_feed_44 : decode cX8_feed 44 = .ok (.aload_n 0, 1) := by decide +kernel
theorem dX8_feed_45 : decode cX8_feed 45 = .ok (.getfield 24, 3) := by decide +kernel
theorem dX8_feed_48 : decode cX8_feed 48 = .ok (.iconst 4, 1) := by decide +kernel
theorem dX8_feed_49 : decode cX8_feed 49 = .ok (.iload 5, 2) := by decide +kernel
theorem dX8_feed_51 : decode cX8_feed 51 = .ok (.iastore, 1) := by decide +kernel
theorem dX8_feed_52 : decode cX8_feed 52 = .ok (.iconst 0, 1) := by decide +kernel
theorem dX8_feed_53 : decode cX8_feed 53 = .ok (.istore 6, 2) := by decide +kernel
theorem dX8_feed_55 : decode cX8_feed 55 = .ok (.iload 6, 2) := by decide +kernel
theorem dX8_feed_57 : decode cX8_feed 57 = .ok (.bipush 20, 2) := by decide +kernel
theorem dX8_feed_59 : decode cX8_feed 59 = .ok (.if_icmp .ge 42, 3) := by decide +kernel
theorem dX8_feed_62 : decode cX8_feed 62 = .ok (.aload_n 0, 1) := by decide +kernel
theorem dX8_feed_63 : decode cX8_feed 63 = .ok (.getfield 20, 3) := by decide +kernel
theorem dX8_feed_66 : decode cX8_feed 66 = .ok (.aload_n 0, 1) := by decide +kernel
theorem dX8_feed_67 : decode cX8_feed 67 = .ok (.getfield 95, 3) := by decide +kernel
theorem dX8_feed_70 : decode cX8_feed 70 = .ok (.iload 6, 2) := by decide +kernel
theorem dX8_feed_72 : decode cX8_feed 72 = .ok (.iadd, 1) := by decide +kernel
theorem dX8_feed_73 : decode cX8_feed 73 = .ok (.aload_n 0, 1) := by decide +kernel
theorem dX8_feed_74 : decode cX8_feed 74 = .ok (.getfield 24, 3) := by decide +kernel
theorem dX8_feed_77 : decode cX8_feed 77 = .ok (.iload 6, 2) := by decide +kernel
theorem dX8_feed_79 : decode cX8_feed 79 = .ok (.iconst 4, 1) := by decide +kernel
theorem dX8_feed_80 : decode cX8_feed 80 = .ok (.idiv, 1) := by decide +kernel
theorem dX8_feed_81 : decode cX8_feed 81 = .ok (.iaload, 1) := by decide +kernel
theorem dX8_feed_82 : decode cX8_feed 82 = .ok (.bipush 24, 2) := by decide +kernel
theorem dX8_feed_84 : decode cX8_feed 84 = .ok (.bipush 8, 2) := by decide +kernel
theorem dX8_feed_86 : decode cX8_feed 86 = .ok (.iload 6, 2) := by decide +kernel
theorem dX8_feed_88 : decode cX8_feed 88 = .ok (.iconst 4, 1) := by decide +kernel
theorem dX8_feed_89 : decode cX8_feed 89 = .ok (.irem, 1) := by decide +kernel
theorem dX8_feed_90 : decode cX8_feed 90 = .ok (.imul, 1) := by decide +kernel
theorem dX8_feed_91 : decode cX8_feed 91 = .ok (.isub, 1) := by decide +kernel
theorem dX8_feed_92 : decode cX8_feed 92 = .ok (.ishr, 1) := by decide +kernel
theorem dX8_feed_93 : decode cX8_feed 93 = .ok (.i2b, 1) := by decide +kernel
theorem dX8_feed_94 : decode cX8_feed 94 = .ok (.bastore, 1) := by decide +kernel
theorem dX8_feed_95 : decode cX8_feed 95 = .ok (.iinc 6 1, 3) := by decide +kernel
theorem dX8_feed_98 : decode cX8_feed 98 = .ok (.goto (-43), 3) := by decide +kernel
theorem dX8_feed_101 : decode cX8_feed 101 = .ok (.aload_n 0, 1) := by decide +kernel
theorem dX8_feed_102 : decode cX8_feed 102 = .ok (.dup, 1) := by decide +kernel
theorem dX8_feed_103 : decode cX8_feed 103 = .ok (.getfield 95, 3) := by decide +kernel
theorem dX8_feed_106 : decode cX8_feed 106 = .ok (.bipush 20, 2) := by decide +kernel
theorem dX8_feed_108 : decode cX8_feed 108 = .ok (.iadd, 1) := by decide +kernel
theorem dX8_feed_109 : decode cX8_feed 109 = .ok (.putfield 95, 3) := by decide +kernel
theorem dX8_feed_112 : decode cX8_feed 112 = .ok (.aload_n 0, 1) := by decide +kernel
theorem dX8_feed_113 : decode cX8_feed 113 = .ok (.getfield 95, 3) := by decide +kernel
theorem dX8_feed_116 : decode cX8_feed 116 = .ok (.ireturn, 1) := by decide +kernel
set_option maxRecDepth 4000 in
theorem kX8_feed (G : GT) {σ : St} {a1 : Int32} {a2 : Int32} {a3 : Int32} {a4 : Int32} {a5 : Int32} : ∀ (r : Int32) (σo : St) , fX8_feed σ a1 a2 a3 a4 a5 = some (r, σo) → MCt G 1 yX8_feed cX8_feed 7 (some .int) [.ref (gad G 62), .int a1, .int a2, .int a3, .int a4, .int a5] σ (some (.int r)) σo := by
  intro r σo hF
  refine met_i (by decide) (Nat.le_of_ble_eq_true rfl) (fun X cx hE => ?_)
  have cx : Cx G X RX8 cX8_feed 7 1 := cx
  have hl55 : ∀ n : Nat, ∀ (σ : St) (x6 : Int32) , fX8_feed_l55 n σ x6 = some (r, σo) → WW G X 7 σ [(0, .ref (gad G 62)), (6, .int x6)] 55 [] := by
    intro n
    induction n with
    | zero =>
      intro σ x6 hF
      exact absurd hF (by intro z; cases z)
    | succ n ih =>
      intro σ x6 hF
      have hk55 := ih
      have hF : fX8_feed_B55 (fX8_feed_l55 n) σ x6 = some (r, σo) := hF
      unfold fX8_feed_B55 at hF
      refine ww_iload cx dX8_feed_55 1 rfl ?_
      refine ww_bipush cx dX8_feed_57 bc_20 ?_
      refine ww_icmp_ge cx dX8_feed_59 (tgt := 101) rfl hF (fun hF => ?_) (fun hF => ?_)
      · refine ww_aload_n cx dX8_feed_101 rfl 0 rfl ?_
        refine ww_dup cx dX8_feed_102 rfl ?_
        refine gf_X8_95 cx dX8_feed_103 ?_
        refine ww_bipush cx dX8_feed_106 bc_20 ?_
        refine ww_iadd cx dX8_feed_108 ?_
        refine pf_X8_95 cx dX8_feed_109 hF (fun σ1 hF => ?_)
        refine ww_aload_n cx dX8_feed_112 rfl 0 rfl ?_
        refine gf_X8_95 cx dX8_feed_113 ?_
        exact ww_ris hE dX8_feed_116 hF
      · refine ww_aload_n cx dX8_feed_62 rfl 0 rfl ?_
        refine gf_X8_20 cx dX8_feed_63 ?_
        refine ww_aload_n cx dX8_feed_66 rfl 0 rfl ?_
        refine gf_X8_95 cx dX8_feed_67 ?_
        refine ww_iload cx dX8_feed_70 1 rfl ?_
        refine ww_iadd cx dX8_feed_72 ?_
        refine ww_aload_n cx dX8_feed_73 rfl 0 rfl ?_
        refine gf_X8_24 cx dX8_feed_74 ?_
        refine ww_iload cx dX8_feed_77 1 rfl ?_
        refine ww_iconst cx dX8_feed_79 ic_4 ?_
        refine ww_idiv cx dX8_feed_80 hF (fun hF => ?_)
        refine ww_iald (N := 5) cx (sh_67) dX8_feed_81 hF (fun hF => ?_)
        refine ww_bipush cx dX8_feed_82 bc_24 ?_
        refine ww_bipush cx dX8_feed_84 bc_8 ?_
        refine ww_iload cx dX8_feed_86 1 rfl ?_
        refine ww_iconst cx dX8_feed_88 ic_4 ?_
        refine ww_irem cx dX8_feed_89 hF (fun hF => ?_)
        refine ww_imul cx dX8_feed_90 ?_
        refine ww_isub cx dX8_feed_91 ?_
        refine ww_ishr cx dX8_feed_92 ?_
        refine ww_i2b cx dX8_feed_93 ?_
        refine ww_bast (N := 1600) cx (sh_66) dX8_feed_94 hF (fun σ2 hF => ?_)
        refine ww_iinc (j := 1) (ks := [0, 1]) (lv' := fun v3 => [(6, .int v3), (0, .ref (gad G 62))]) cx dX8_feed_95 (by decide) rfl ic_1 hF (fun _ => rfl) (fun v3 hF => ?_)
        refine ww_goto cx dX8_feed_98 (tgt := 55) rfl ?_
        exact ww_sub [1, 0] rfl (hk55 _ _ hF)
  unfold fX8_feed at hF
  show WW G X 7 σ [(0, .ref (gad G 62)), (1, .int a1), (2, .int a2), (3, .int a3), (4, .int a4), (5, .int a5)] 0 []
  refine ww_aload_n cx dX8_feed_0 rfl 0 rfl ?_
  refine gf_X8_95 cx dX8_feed_1 ?_
  refine ww_bipush cx dX8_feed_4 bc_20 ?_
  refine ww_iadd cx dX8_feed_6 ?_
  refine ww_sipush cx dX8_feed_7 sc_1600 ?_
  refine ww_icmp_le cx dX8_feed_10 (tgt := 15) rfl hF (fun hF => ?_) (fun hF => ?_)
  · refine ww_aload_n cx dX8_feed_15 rfl 0 rfl ?_
    refine gf_X8_24 cx dX8_feed_16 ?_
    refine ww_iconst cx dX8_feed_19 ic_0 ?_
    refine ww_iload_n cx dX8_feed_20 rfl 1 rfl ?_
    refine ww_iast (N := 5) cx (sh_67) dX8_feed_21 hF (fun σ4 hF => ?_)
    refine ww_aload_n cx dX8_feed_22 rfl 0 rfl ?_
    refine gf_X8_24 cx dX8_feed_23 ?_
    refine ww_iconst cx dX8_feed_26 ic_1 ?_
    refine ww_iload_n cx dX8_feed_27 rfl 2 rfl ?_
    refine ww_iast (N := 5) cx (sh_67) dX8_feed_28 hF (fun σ5 hF => ?_)
    refine ww_aload_n cx dX8_feed_29 rfl 0 rfl ?_
    refine gf_X8_24 cx dX8_feed_30 ?_
    refine ww_iconst cx dX8_feed_33 ic_2 ?_
    refine ww_iload_n cx dX8_feed_34 rfl 3 rfl ?_
    refine ww_iast (N := 5) cx (sh_67) dX8_feed_35 hF (fun σ6 hF => ?_)
    refine ww_aload_n cx dX8_feed_36 rfl 0 rfl ?_
    refine gf_X8_24 cx dX8_feed_37 ?_
    refine ww_iconst cx dX8_feed_40 ic_3 ?_
    refine ww_iload cx dX8_feed_41 4 rfl ?_
    refine ww_iast (N := 5) cx (sh_67) dX8_feed_43 hF (fun σ7 hF => ?_)
    refine ww_aload_n cx dX8_feed_44 rfl 0 rfl ?_
    refine gf_X8_24 cx dX8_feed_45 ?_
    refine ww_iconst cx dX8_feed_48 ic_4 ?_
    refine ww_iload cx dX8_feed_49 5 rfl ?_
    refine ww_iast (N := 5) cx (sh_67) dX8_feed_51 hF (fun σ8 hF => ?_)
    refine ww_iconst cx dX8_feed_52 ic_0 ?_
    refine ww_istore (ks := [0, 1]) (lv' := fun v9 => [(6, .int v9), (0, .ref (gad G 62))]) cx dX8_feed_53 (by decide) hF (fun _ => rfl) (fun v9 hF => ?_)
    exact ww_sub [1, 0] rfl (hl55 FU _ _ hF)
  · refine ww_iconst cx dX8_feed_13 ic_m1 ?_
    exact ww_ris hE dX8_feed_14 hF
theorem dX8_freshAll_0 : decode cX8_freshAll 0 = .ok (.iconst 1, 1) := by decide +kernel
theorem dX8_freshAll_1 : decode cX8_freshAll 1 = .ok (.iconst 1, 1) := by decide +kernel
theorem dX8_freshAll_2 : decode cX8_freshAll 2 = .ok (.aload_n 0, 1) := by decide +kernel
theorem dX8_freshAll_3 : decode cX8_freshAll 3 = .ok (.getfield 31, 3) := by decide +kernel
theorem dX8_freshAll_6 : decode cX8_freshAll 6 = .ok (.iconst 0, 1) := by decide +kernel
theorem dX8_freshAll_7 : decode cX8_freshAll 7 = .ok (.iaload, 1) := by decide +kernel
theorem dX8_freshAll_8 : decode cX8_freshAll 8 = .ok (.ishl, 1) := by decide +kernel
theorem dX8_freshAll_9 : decode cX8_freshAll 9 = .ok (.ishl, 1) := by decide +kernel
theorem dX8_freshAll_10 : decode cX8_freshAll 10 = .ok (.iconst 1, 1) := by decide +kernel
theorem dX8_freshAll_11 : decode cX8_freshAll 11 = .ok (.isub, 1) := by decide +kernel
theorem dX8_freshAll_12 : decode cX8_freshAll 12 = .ok (.ireturn, 1) := by decide +kernel
set_option maxRecDepth 4000 in
theorem kX8_freshAll (G : GT) {σ : St} : ∀ (r : Int32) , fX8_freshAll σ = some r → MCt G 1 yX8_freshAll cX8_freshAll 1 (some .int) [.ref (gad G 62)] σ (some (.int r)) σ := by
  intro r hF
  refine met_i (by decide) (Nat.le_of_ble_eq_true rfl) (fun X cx hE => ?_)
  have cx : Cx G X RX8 cX8_freshAll 1 1 := cx
  unfold fX8_freshAll at hF
  show WW G X 1 σ [(0, .ref (gad G 62))] 0 []
  refine ww_iconst cx dX8_freshAll_0 ic_1 ?_
  refine ww_iconst cx dX8_freshAll_1 ic_1 ?_
  refine ww_aload_n cx dX8_freshAll_2 rfl 0 rfl ?_
  refine gf_X8_31 cx dX8_freshAll_3 ?_
  refine ww_iconst cx dX8_freshAll_6 ic_0 ?_
  refine ww_iald (N := 77) cx (sh_68) dX8_freshAll_7 hF (fun hF => ?_)
  refine ww_ishl cx dX8_freshAll_8 ?_
  refine ww_ishl cx dX8_freshAll_9 ?_
  refine ww_iconst cx dX8_freshAll_10 ic_1 ?_
  refine ww_isub cx dX8_freshAll_11 ?_
  exact ww_rip hE dX8_freshAll_12 hF
theorem dX8_good_0 : decode cX8_good 0 = .ok (.aload_n 0, 1) := by decide +kernel
theorem dX8_good_1 : decode cX8_good 1 = .ok (.getfield 131, 3) := by decide +kernel
theorem dX8_good_4 : decode cX8_good 4 = .ok (.ifCond .ne 7, 3) := by decide +kernel
theorem dX8_good_7 : decode cX8_good 7 = .ok (.iconst 1, 1) := by decide +kernel
theorem dX8_good_8 : decode cX8_good 8 = .ok (.goto 4, 3) := by decide +kernel
theorem dX8_good_11 : decode cX8_good 11 = .ok (.iconst 0, 1) := by decide +kernel
theorem dX8_good_12 : decode cX8_good 12 = .ok (.ireturn, 1) := by decide +kernel
set_option maxRecDepth 4000 in
theorem kX8_good (G : GT) {σ : St} : ∀ (r : Int32) , fX8_good σ = some r → MCt G 1 yX8_good cX8_good 1 (some .boolean) [.ref (gad G 62)] σ (some (.int r)) σ := by
  intro r hF
  refine met_zz (by decide) (Nat.le_of_ble_eq_true rfl) (fun X cx hE => ?_)
  have cx : Cx G X RX8 cX8_good 1 1 := cx
  unfold fX8_good at hF
  show WW G X 1 σ [(0, .ref (gad G 62))] 0 []
  refine ww_aload_n cx dX8_good_0 rfl 0 rfl ?_
  refine gf_X8_131 cx dX8_good_1 ?_
  refine ww_if_ne cx dX8_good_4 (tgt := 11) rfl hF (fun hF => ?_) (fun hF => ?_)
  · refine ww_iconst cx dX8_good_11 ic_0 ?_
    exact ww_rzp hE dX8_good_12 hF
  · refine ww_iconst cx dX8_good_7 ic_1 ?_
    refine ww_goto cx dX8_good_8 (tgt := 12) rfl ?_
    exact ww_rzp hE dX8_good_12 hF
theorem dX8_holesBy_0 : decode cX8_holesBy 0 = .ok (.lload_n 1, 1) := by decide +kernel
theorem dX8_holesBy_1 : decode cX8_holesBy 1 = .ok (.lstore_n 3, 1) := by decide +kernel
theorem dX8_holesBy_2 : decode cX8_holesBy 2 = .ok (.iconst 0, 1) := by decide +kernel
theorem dX8_holesBy_3 : decode cX8_holesBy 3 = .ok (.istore 5, 2) := by decide +kernel
theorem dX8_holesBy_5 : decode cX8_holesBy 5 = .ok (.iconst 0, 1) := by decide +kernel
theorem dX8_holesBy_6 : decode cX8_holesBy 6 = .ok (.istore 6, 2) := by decide +kernel
theorem dX8_holesBy_8 : decode cX8_holesBy 8 = .ok (.iload 6, 2) := by decide +kernel
theorem dX8_holesBy_10 : decode cX8_holesBy 10 = .ok (.aload_n 0, 1) := by decide +kernel
theorem dX8_holesBy_11 : decode cX8_holesBy 11 = .ok (.getfield 9, 3) := by decide +kernel
theorem dX8_holesBy_14 : decode cX8_holesBy 14 = .ok (.iconst 4, 1) := by decide +kernel
theorem dX8_holesBy_15 : decode cX8_holesBy 15 = .ok (.iaload, 1) := by decide +kernel
theorem dX8_holesBy_16 : decode cX8_holesBy 16 = .ok (.if_icmp .ge 56, 3) := by decide +kernel
theorem dX8_holesBy_19 : decode cX8_holesBy 19 = .ok (.ldc2_w 447, 3) := by decide +kernel
theorem dX8_holesBy_22 : decode cX8_holesBy 22 = .ok (.lload_n 3, 1) := by decide +kernel
theorem dX8_holesBy_23 : decode cX8_holesBy 23 = .ok (.lmul, 1) := by decide +kernel
theorem dX8_holesBy_24 : decode cX8_holesBy 24 = .ok (.ldc2_w 449, 3) := by decide +kernel
theorem dX8_holesBy_27 : decode cX8_holesBy 27 = .ok (.ladd, 1) := by decide +kernel
theorem dX8_holesBy_28 : decode cX8_holesBy 28 = .ok (.ldc2_w 451, 3) := by decide +kernel
theorem dX8_holesBy_31 : decode cX8_holesBy 31 = .ok (.lrem, 1) := by decide +kernel
theorem dX8_holesBy_32 : decode cX8_holesBy 32 = .ok (.lstore_n 3, 1) := by decide +kernel
theorem dX8_holesBy_33 : decode cX8_holesBy 33 = .ok (.iload 5, 2) := by decide +kernel
theorem dX8_holesBy_35 : decode cX8_holesBy 35 = .ok (.lload_n 3, 1) := by decide +kernel
theorem dX8_holesBy_36 : decode cX8_holesBy 36 = .ok (.ldc2_w 453, 3) := by decide +kernel
theorem dX8_holesBy_39 : decode cX8_holesBy 39 = .ok (.ldiv, 1) := by decide +kernel
theorem dX8_holesBy_40 : decode cX8_holesBy 40 = .ok (.ldc2_w 455, 3) := by decide +kernel
theorem dX8_holesBy_43 : decode cX8_holesBy 43 = .ok (.lrem, 1) := by decide +kernel
theorem dX8_holesBy_44 : decode cX8_holesBy 44 = .ok (.aload_n 0, 1) := by decide +kernel
theorem dX8_holesBy_45 : decode cX8_holesBy 45 = .ok (.getfield 9, 3) := by decide +kernel
theorem dX8_holesBy_48 : decode cX8_holesBy 48 = .ok (.iconst 2, 1) := by decide +kernel
theorem dX8_holesBy_49 : decode cX8_holesBy 49 = .ok (.iaload, 1) := by decide +kernel
theorem dX8_holesBy_50 : decode cX8_holesBy 50 = .ok (.i2l, 1) := by decide +kernel
theorem dX8_holesBy_51 : decode cX8_holesBy 51 = .ok (.lcmp, 1) := by decide +kernel
theorem dX8_holesBy_52 : decode cX8_holesBy 52 = .ok (.ifCond .ge 10, 3) := by decide +kernel
theorem dX8_holesBy_55 : decode cX8_holesBy 55 = .ok (.iconst 1, 1) := by decide +kernel
theorem dX8_holesBy_56 : decode cX8_holesBy 56 = .ok (.iload 6, 2) := by decide +kernel
theorem dX8_holesBy_58 : decode cX8_holesBy 58 = .ok (.ishl, 1) := by decide +kernel
theorem dX8_holesBy_59 : decode cX8_holesBy 59 = .ok (.goto 4, 3) := by decide +kernel
theorem dX8_holesBy_62 : decode cX8_holesBy 62 = .ok (.iconst 0, 1) := by decide +kernel
theorem dX8_holesBy_63 : decode cX8_holesBy 63 = .ok (.ior, 1) := by decide +kernel
theorem dX8_holesBy_64 : decode cX8_holesBy 64 = .ok (.istore 5, 2) := by decide +kernel
theorem dX8_holesBy_66 : decode cX8_holesBy 66 = .ok (.iinc 6 1, 3) := by decide +kernel
theorem dX8_holesBy_69 : decode cX8_holesBy 69 = .ok (.goto (-61), 3) := by decide +kernel
theorem dX8_holesBy_72 : decode cX8_holesBy 72 = .ok (.iload 5, 2) := by decide +kernel
theorem dX8_holesBy_74 : decode cX8_holesBy 74 = .ok (.ireturn, 1) := by decide +kernel
set_option maxRecDepth 4000 in
theorem kX8_holesBy (G : GT) {σ : St} {a1 : Int64} : ∀ (r : Int32) , fX8_holesBy σ a1 = some r → MCt G 1 yX8_holesBy cX8_holesBy 7 (some .int) [.ref (gad G 62), .long a1] σ (some (.int r)) σ := by
  intro r hF
  refine met_i (by decide) (Nat.le_of_ble_eq_true rfl) (fun X cx hE => ?_)
  have cx : Cx G X RX8 cX8_holesBy 7 1 := cx
  have hb63 : ∀ (kr8 : Int64 → Int32 → Int32 → Option (Int32)), (∀ (x3 : Int64) (x5 : Int32) (x6 : Int32) , kr8 x3 x5 x6 = some r → WW G X 7 σ [(0, .ref (gad G 62)), (3, .long x3), (5, .int x5), (6, .int x6)] 8 []) → ∀ (x3 : Int64) (x6 : Int32) (y0 : Int32) (y1 : Int32) , fX8_holesBy_b63 σ kr8 x3 x6 y0 y1 = some r → WW G X 7 σ [(0, .ref (gad G 62)), (3, .long x3), (6, .int x6)] 63 [.int y1, .int y0] := by
    intro kr8 hk8
    intro x3 x6 y0 y1 hF
    unfold fX8_holesBy_b63 at hF
    refine ww_ior cx dX8_holesBy_63 ?_
    refine ww_istore (ks := [0, 1, 2, 3]) (lv' := fun v1 => [(5, .int v1), (0, .ref (gad G 62)), (3, .long x3), (6, .int x6)]) cx dX8_holesBy_64 (by decide) hF (fun _ => rfl) (fun v1 hF => ?_)
    refine ww_iinc (j := 3) (ks := [0, 1, 2, 3]) (lv' := fun v2 => [(6, .int v2), (5, .int v1), (0, .ref (gad G 62)), (3, .long x3)]) cx dX8_holesBy_66 (by decide) rfl ic_1 hF (fun _ => rfl) (fun v2 hF => ?_)
    refine ww_goto cx dX8_holesBy_69 (tgt := 8) rfl ?_
    exact ww_sub [2, 3, 1, 0] rfl (hk8 _ _ _ hF)
  have hl8 : ∀ n : Nat, ∀ (x3 : Int64) (x5 : Int32) (x6 : Int32) , fX8_holesBy_l8 σ n x3 x5 x6 = some r → WW G X 7 σ [(0, .ref (gad G 62)), (3, .long x3), (5, .int x5), (6, .int x6)] 8 [] := by
    intro n
    induction n with
    | zero =>
      intro x3 x5 x6 hF
      exact absurd hF (by intro z; cases z)
    | succ n ih =>
      intro x3 x5 x6 hF
      have hk8 := ih
      have hF : fX8_holesBy_B8 σ (fX8_holesBy_l8 σ n) x3 x5 x6 = some r := hF
      unfold fX8_holesBy_B8 at hF
      refine ww_iload cx dX8_holesBy_8 3 rfl ?_
      refine ww_aload_n cx dX8_holesBy_10 rfl 0 rfl ?_
      refine gf_X8_9 cx dX8_holesBy_11 ?_
      refine ww_iconst cx dX8_holesBy_14 ic_4 ?_
      refine ww_iald (N := 77) cx (sh_63) dX8_holesBy_15 hF (fun hF => ?_)
      refine ww_icmp_ge cx dX8_holesBy_16 (tgt := 72) rfl hF (fun hF => ?_) (fun hF => ?_)
      · refine ww_iload cx dX8_holesBy_72 2 rfl ?_
        exact ww_rip hE dX8_holesBy_74 hF
      · refine ww_ldc2 (v := 1103515245) cx dX8_holesBy_19 cn_X8_447 ?_
        refine ww_lload_n cx dX8_holesBy_22 rfl 1 rfl ?_
        refine ww_lmul cx dX8_holesBy_23 ?_
        refine ww_ldc2 (v := 12345) cx dX8_holesBy_24 cn_X8_449 ?_
        refine ww_ladd cx dX8_holesBy_27 ?_
        refine ww_ldc2 (v := 2147483648) cx dX8_holesBy_28 cn_X8_451 ?_
        refine ww_lrem cx dX8_holesBy_31 hF (fun hF => ?_)
        refine ww_lstore_n (ks := [0, 1, 2, 3]) (lv' := fun v3 => [(3, .long v3), (0, .ref (gad G 62)), (5, .int x5), (6, .int x6)]) cx dX8_holesBy_32 rfl (by decide) hF (fun _ => rfl) (fun v3 hF => ?_)
        refine ww_iload cx dX8_holesBy_33 2 rfl ?_
        refine ww_lload_n cx dX8_holesBy_35 rfl 0 rfl ?_
        refine ww_ldc2 (v := 65536) cx dX8_holesBy_36 cn_X8_453 ?_
        refine ww_ldiv cx dX8_holesBy_39 hF (fun hF => ?_)
        refine ww_ldc2 (v := 100) cx dX8_holesBy_40 cn_X8_455 ?_
        refine ww_lrem cx dX8_holesBy_43 hF (fun hF => ?_)
        refine ww_aload_n cx dX8_holesBy_44 rfl 1 rfl ?_
        refine gf_X8_9 cx dX8_holesBy_45 ?_
        refine ww_iconst cx dX8_holesBy_48 ic_2 ?_
        refine ww_iald (N := 77) cx (sh_63) dX8_holesBy_49 hF (fun hF => ?_)
        refine ww_i2l cx dX8_holesBy_50 ?_
        refine ww_lcmp cx dX8_holesBy_51 ?_
        refine ww_if_ge cx dX8_holesBy_52 (tgt := 62) rfl hF (fun hF => ?_) (fun hF => ?_)
        · refine ww_iconst cx dX8_holesBy_62 ic_0 ?_
          exact ww_sub [1, 0, 3] rfl (hb63 _ hk8 _ _ _ _ hF)
        · refine ww_iconst cx dX8_holesBy_55 ic_1 ?_
          refine ww_iload cx dX8_holesBy_56 3 rfl ?_
          refine ww_ishl cx dX8_holesBy_58 ?_
          refine ww_goto cx dX8_holesBy_59 (tgt := 63) rfl ?_
          exact ww_sub [1, 0, 3] rfl (hb63 _ hk8 _ _ _ _ hF)
  unfold fX8_holesBy at hF
  show WW G X 7 σ [(0, .ref (gad G 62)), (1, .long a1)] 0 []
  refine ww_lload_n cx dX8_holesBy_0 rfl 1 rfl ?_
  refine ww_lstore_n (ks := [0, 1]) (lv' := fun v4 => [(3, .long v4), (0, .ref (gad G 62))]) cx dX8_holesBy_1 rfl (by decide) hF (fun _ => rfl) (fun v4 hF => ?_)
  refine ww_iconst cx dX8_holesBy_2 ic_0 ?_
  refine ww_istore (ks := [0, 1, 2]) (lv' := fun v5 => [(5, .int v5), (3, .long v4), (0, .ref (gad G 62))]) cx dX8_holesBy_3 (by decide) hF (fun _ => rfl) (fun v5 hF => ?_)
  refine ww_iconst cx dX8_holesBy_5 ic_0 ?_
  refine ww_istore (ks := [0, 1, 2, 3]) (lv' := fun v6 => [(6, .int v6), (5, .int v5), (3, .long v4), (0, .ref (gad G 62))]) cx dX8_holesBy_6 (by decide) hF (fun _ => rfl) (fun v6 hF => ?_)
  exact ww_sub [3, 2, 1, 0] rfl (hl8 FU _ _ _ hF)
theorem dX8_in_0 : decode cX8_in 0 = .ok (.lload_n 0, 1) := by decide +kernel
theorem dX8_in_1 : decode cX8_in 1 = .ok (.lload_n 2, 1) := by decide +kernel
theorem dX8_in_2 : decode cX8_in 2 = .ok (.lcmp, 1) := by decide +kernel
theorem dX8_in_3 : decode cX8_in 3 = .ok (.ifCond .lt 14, 3) := by decide +kernel
theorem dX8_in_6 : decode cX8_in 6 = .ok (.lload_n 0, 1) := by decide +kernel
theorem dX8_in_7 : decode cX8_in 7 = .ok (.lload 4, 2) := by decide +kernel
theorem dX8_in_9 : decode cX8_in 9 = .ok (.lcmp, 1) := by decide +kernel
theorem dX8_in_10 : decode cX8_in 10 = .ok (.ifCond .gt 7, 3) := by decide +kernel
theorem dX8_in_13 : decode cX8_in 13 = .ok (.iconst 1, 1) := by decide +kernel
theorem dX8_in_14 : decode cX8_in 14 = .ok (.goto 4, 3) := by decide +kernel
theorem dX8_in_17 : decode cX8_in 17 = .ok (.iconst 0, 1) := by decide +kernel
theorem dX8_in_18 : decode cX8_in 18 = .ok (.ireturn, 1) := by decide +kernel
set_option maxRecDepth 4000 in
theorem kX8_in (G : GT) {σ : St} {a0 : Int64} {a2 : Int64} {a4 : Int64} : ∀ (r : Int32) , fX8_in a0 a2 a4 = some r → MCt G 1 yX8_in cX8_in 6 (some .boolean) [.long a0, .long a2, .long a4] σ (some (.int r)) σ := by
  intro r hF
  refine met_zz (by decide) (Nat.le_of_ble_eq_true rfl) (fun X cx hE => ?_)
  have cx : Cx G X RX8 cX8_in 6 1 := cx
  unfold fX8_in at hF
  show WW G X 6 σ [(0, .long a0), (2, .long a2), (4, .long a4)] 0 []
  refine ww_lload_n cx dX8_in_0 rfl 0 rfl ?_
  refine ww_lload_n cx dX8_in_1 rfl 1 rfl ?_
  refine ww_lcmp cx dX8_in_2 ?_
  refine ww_if_lt cx dX8_in_3 (tgt := 17) rfl hF (fun hF => ?_) (fun hF => ?_)
  · refine ww_iconst cx dX8_in_17 ic_0 ?_
    exact ww_rzp hE dX8_in_18 hF
  · refine ww_lload_n cx dX8_in_6 rfl 0 rfl ?_
    refine ww_lload cx dX8_in_7 2 rfl ?_
    refine ww_lcmp cx dX8_in_9 ?_
    refine ww_if_gt cx dX8_in_10 (tgt := 17) rfl hF (fun hF => ?_) (fun hF => ?_)
    · refine ww_iconst cx dX8_in_17 ic_0 ?_
      exact ww_rzp hE dX8_in_18 hF
    · refine ww_iconst cx dX8_in_13 ic_1 ?_
      refine ww_goto cx dX8_in_14 (tgt := 18) rfl ?_
      exact ww_rzp hE dX8_in_18 hF
theorem dX8_isTable_0 : decode cX8_isTable 0 = .ok (.aload_n 0, 1) := by decide +kernel
theorem dX8_isTable_1 : decode cX8_isTable 1 = .ok (.getfield 9, 3) := by decide +kernel
theorem dX8_isTable_4 : decode cX8_isTable 4 = .ok (.bipush 6, 2) := by decide +kernel
theorem dX8_isTable_6 : decode cX8_isTable 6 = .ok (.iaload, 1) := by decide +kernel
theorem dX8_isTable_7 : decode cX8_isTable 7 = .ok (.ifCond .le 7, 3) := by decide +kernel
theorem dX8_isTable_10 : decode cX8_isTable 10 = .ok (.iconst 1, 1) := by decide +kernel
theorem dX8_isTable_11 : decode cX8_isTable 11 = .ok (.goto 4, 3) := by decide +kernel
theorem dX8_isTable_14 : decode cX8_isTable 14 = .ok (.iconst 0, 1) := by decide +kernel
theorem dX8_isTable_15 : decode cX8_isTable 15 = .ok (.ireturn, 1) := by decide +kernel
set_option maxRecDepth 4000 in
theorem kX8_isTable (G : GT) {σ : St} : ∀ (r : Int32) , fX8_isTable σ = some r → MCt G 1 yX8_isTable cX8_isTable 1 (some .boolean) [.ref (gad G 62)] σ (some (.int r)) σ := by
  intro r hF
  refine met_zz (by decide) (Nat.le_of_ble_eq_true rfl) (fun X cx hE => ?_)
  have cx : Cx G X RX8 cX8_isTable 1 1 := cx
  unfold fX8_isTable at hF
  show WW G X 1 σ [(0, .ref (gad G 62))] 0 []
  refine ww_aload_n cx dX8_isTable_0 rfl 0 rfl ?_
  refine gf_X8_9 cx dX8_isTable_1 ?_
  refine ww_bipush cx dX8_isTable_4 bc_6 ?_
  refine ww_iald (N := 77) cx (sh_63) dX8_isTable_6 hF (fun hF => ?_)
  refine ww_if_le cx dX8_isTable_7 (tgt := 14) rfl hF (fun hF => ?_) (fun hF => ?_)
  · refine ww_iconst cx dX8_isTable_14 ic_0 ?_
    exact ww_rzp hE dX8_isTable_15 hF
  · refine ww_iconst cx dX8_isTable_10 ic_1 ?_
    refine ww_goto cx dX8_isTable_11 (tgt := 15) rfl ?_
    exact ww_rzp hE dX8_isTable_15 hF
theorem dX8_mine_0 : decode cX8_mine 0 = .ok (.iload_n 0, 1) := by decide +kernel
theorem dX8_mine_1 : decode cX8_mine 1 = .ok (.ifCond .ge 10, 3) := by decide +kernel
theorem dX8_mine_4 : decode cX8_mine 4 = .ok (.iload_n 0, 1) := by decide +kernel
theorem dX8_mine_5 : decode cX8_mine 5 = .ok (.ineg, 1) := by decide +kernel
theorem dX8_mine_6 : decode cX8_mine 6 = .ok (.iconst 1, 1) := by decide +kernel
theorem dX8_mine_7 : decode cX8_mine 7 = .ok (.isub, 1) := by decide +kernel
theorem dX8_mine_8 : decode cX8_mine 8 = .ok (.goto 7, 3) := by decide +kernel
theorem dX8_mine_11 : decode cX8_mine 11 = .ok (.iload_n 0, 1) := by decide +kernel
theorem dX8_mine_12 : decode cX8_mine 12 = .ok (.ineg, 1) := by decide +kernel
theorem dX8_mine_13 : decode cX8_mine 13 = .ok (.iconst 1, 1) := by decide +kernel
theorem dX8_mine_14 : decode cX8_mine 14 = .ok (.iadd, 1) := by decide +kernel
theorem dX8_mine_15 : decode cX8_mine 15 = .ok (.ireturn, 1) := by decide +kernel
set_option maxRecDepth 4000 in
theorem kX8_mine (G : GT) {σ : St} {a0 : Int32} : ∀ (r : Int32) , fX8_mine a0 = some r → MCt G 1 yX8_mine cX8_mine 1 (some .int) [.int a0] σ (some (.int r)) σ := by
  intro r hF
  refine met_i (by decide) (Nat.le_of_ble_eq_true rfl) (fun X cx hE => ?_)
  have cx : Cx G X RX8 cX8_mine 1 1 := cx
  unfold fX8_mine at hF
  show WW G X 1 σ [(0, .int a0)] 0 []
  refine ww_iload_n cx dX8_mine_0 rfl 0 rfl ?_
  refine ww_if_ge cx dX8_mine_1 (tgt := 11) rfl hF (fun hF => ?_) (fun hF => ?_)
  · refine ww_iload_n cx dX8_mine_11 rfl 0 rfl ?_
    refine ww_ineg cx dX8_mine_12 ?_
    refine ww_iconst cx dX8_mine_13 ic_1 ?_
    refine ww_iadd cx dX8_mine_14 ?_
    exact ww_rip hE dX8_mine_15 hF
  · refine ww_iload_n cx dX8_mine_4 rfl 0 rfl ?_
    refine ww_ineg cx dX8_mine_5 ?_
    refine ww_iconst cx dX8_mine_6 ic_1 ?_
    refine ww_isub cx dX8_mine_7 ?_
    refine ww_goto cx dX8_mine_8 (tgt := 15) rfl ?_
    exact ww_rip hE dX8_mine_15 hF
theorem dX8_numberAt_0 : decode cX8_numberAt 0 = .ok (.aload_n 0, 1) := by decide +kernel
theorem dX8_numberAt_1 : decode cX8_numberAt 1 = .ok (.getfield 67, 3) := by decide +kernel
theorem dX8_numberAt_4 : decode cX8_numberAt 4 = .ok (.bipush 60, 2) := by decide +kernel
theorem dX8_numberAt_6 : decode cX8_numberAt 6 = .ok (.iload_n 1, 1) := by decide +kernel
theorem dX8_numberAt_7 : decode cX8_numberAt 7 = .ok (.imul, 1) := by decide +kernel
theorem dX8_numberAt_8 : decode cX8_numberAt 8 = .ok (.iload_n 2, 1) := by decide +kernel
theorem dX8_numberAt_9 : decode cX8_numberAt 9 = .ok (.iadd, 1) := by decide +kernel
theorem dX8_numberAt_10 : decode cX8_numberAt 10 = .ok (.laload, 1) := by decide +kernel
theorem dX8_numberAt_11 : decode cX8_numberAt 11 = .ok (.lreturn, 1) := by decide +kernel
set_option maxRecDepth 4000 in
theorem kX8_numberAt (G : GT) {σ : St} {a1 : Int32} {a2 : Int32} : ∀ (r : Int64) , fX8_numberAt σ a1 a2 = some r → MCt G 1 yX8_numberAt cX8_numberAt 3 (some .long) [.ref (gad G 62), .int a1, .int a2] σ (some (.long r)) σ := by
  intro r hF
  refine met_l (by decide) (Nat.le_of_ble_eq_true rfl) (fun X cx hE => ?_)
  have cx : Cx G X RX8 cX8_numberAt 3 1 := cx
  unfold fX8_numberAt at hF
  show WW G X 3 σ [(0, .ref (gad G 62)), (1, .int a1), (2, .int a2)] 0 []
  refine ww_aload_n cx dX8_numberAt_0 rfl 0 rfl ?_
  refine gf_X8_67 cx dX8_numberAt_1 ?_
  refine ww_bipush cx dX8_numberAt_4 bc_60 ?_
  refine ww_iload_n cx dX8_numberAt_6 rfl 1 rfl ?_
  refine ww_imul cx dX8_numberAt_7 ?_
  refine ww_iload_n cx dX8_numberAt_8 rfl 2 rfl ?_
  refine ww_iadd cx dX8_numberAt_9 ?_
  refine ww_lald (N := 240) cx (sh_80) dX8_numberAt_10 hF (fun hF => ?_)
  exact ww_rlp hE dX8_numberAt_11 hF
theorem dX8_ofClaim_0 : decode cX8_ofClaim 0 = .ok (.aload_n 0, 1) := by decide +kernel
theorem dX8_ofClaim_1 : decode cX8_ofClaim 1 = .ok (.getfield 9, 3) := by decide +kernel
theorem dX8_ofClaim_4 : decode cX8_ofClaim 4 = .ok (.bipush 7, 2) := by decide +kernel
theorem dX8_ofClaim_6 : decode cX8_ofClaim 6 = .ok (.iconst 3, 1) := by decide +kernel
theorem dX8_ofClaim_7 : decode cX8_ofClaim 7 = .ok (.iload_n 1, 1) := by decide +kernel
theorem dX8_ofClaim_8 : decode cX8_ofClaim 8 = .ok (.imul, 1) := by decide +kernel
theorem dX8_ofClaim_9 : decode cX8_ofClaim 9 = .ok (.iadd, 1) := by decide +kernel
theorem dX8_ofClaim_10 : decode cX8_ofClaim 10 = .ok (.iload_n 2, 1) := by decide +kernel
theorem dX8_ofClaim_11 : decode cX8_ofClaim 11 = .ok (.iadd, 1) := by decide +kernel
theorem dX8_ofClaim_12 : decode cX8_ofClaim 12 = .ok (.iaload, 1) := by decide +kernel
theorem dX8_ofClaim_13 : decode cX8_ofClaim 13 = .ok (.ireturn, 1) := by decide +kernel
set_option maxRecDepth 4000 in
theorem kX8_ofClaim (G : GT) {σ : St} {a1 : Int32} {a2 : Int32} : ∀ (r : Int32) , fX8_ofClaim σ a1 a2 = some r → MCt G 1 yX8_ofClaim cX8_ofClaim 3 (some .int) [.ref (gad G 62), .int a1, .int a2] σ (some (.int r)) σ := by
  intro r hF
  refine met_i (by decide) (Nat.le_of_ble_eq_true rfl) (fun X cx hE => ?_)
  have cx : Cx G X RX8 cX8_ofClaim 3 1 := cx
  unfold fX8_ofClaim at hF
  show WW G X 3 σ [(0, .ref (gad G 62)), (1, .int a1), (2, .int a2)] 0 []
  refine ww_aload_n cx dX8_ofClaim_0 rfl 0 rfl ?_
  refine gf_X8_9 cx dX8_ofClaim_1 ?_
  refine ww_bipush cx dX8_ofClaim_4 bc_7 ?_
  refine ww_iconst cx dX8_ofClaim_6 ic_3 ?_
  refine ww_iload_n cx dX8_ofClaim_7 rfl 1 rfl ?_
  refine ww_imul cx dX8_ofClaim_8 ?_
  refine ww_iadd cx dX8_ofClaim_9 ?_
  refine ww_iload_n cx dX8_ofClaim_10 rfl 2 rfl ?_
  refine ww_iadd cx dX8_ofClaim_11 ?_
  refine ww_iald (N := 77) cx (sh_63) dX8_ofClaim_12 hF (fun hF => ?_)
  exact ww_rip hE dX8_ofClaim_13 hF
theorem dX8_ofGuest_0 : decode cX8_ofGuest 0 = .ok (.aload_n 0, 1) := by decide +kernel
theorem dX8_ofGuest_1 : decode cX8_ofGuest 1 = .ok (.getfield 9, 3) := by decide +kernel
theorem dX8_ofGuest_4 : decode cX8_ofGuest 4 = .ok (.bipush 67, 2) := by decide +kernel
theorem dX8_ofGuest_6 : decode cX8_ofGuest 6 = .ok (.iconst 2, 1) := by decide +kernel
theorem dX8_ofGuest_7 : decode cX8_ofGuest 7 = .ok (.iload_n 1, 1) := by decide +kernel
theorem dX8_ofGuest_8 : decode cX8_ofGuest 8 = .ok (.imul, 1) := by decide +kernel
theorem dX8_ofGuest_9 : decode cX8_ofGuest 9 = .ok (.iadd, 1) := by decide +kernel
theorem dX8_ofGuest_10 : decode cX8_ofGuest 10 = .ok (.iload_n 2, 1) := by decide +kernel
theorem dX8_ofGuest_11 : decode cX8_ofGuest 11 = .ok (.iadd, 1) := by decide +kernel
theorem dX8_ofGuest_12 : decode cX8_ofGuest 12 = .ok (.iaload, 1) := by decide +kernel
theorem dX8_ofGuest_13 : decode cX8_ofGuest 13 = .ok (.ireturn, 1) := by decide +kernel
set_option maxRecDepth 4000 in
theorem kX8_ofGuest (G : GT) {σ : St} {a1 : Int32} {a2 : Int32} : ∀ (r : Int32) , fX8_ofGuest σ a1 a2 = some r → MCt G 1 yX8_ofGuest cX8_ofGuest 3 (some .int) [.ref (gad G 62), .int a1, .int a2] σ (some (.int r)) σ := by
  intro r hF
  refine met_i (by decide) (Nat.le_of_ble_eq_true rfl) (fun X cx hE => ?_)
  have cx : Cx G X RX8 cX8_ofGuest 3 1 := cx
  unfold fX8_ofGuest at hF
  show WW G X 3 σ [(0, .ref (gad G 62)), (1, .int a1), (2, .int a2)] 0 []
  refine ww_aload_n cx dX8_ofGuest_0 rfl 0 rfl ?_
  refine gf_X8_9 cx dX8_ofGuest_1 ?_
  refine ww_bipush cx dX8_ofGuest_4 bc_67 ?_
  refine ww_iconst cx dX8_ofGuest_6 ic_2 ?_
  refine ww_iload_n cx dX8_ofGuest_7 rfl 1 rfl ?_
  refine ww_imul cx dX8_ofGuest_8 ?_
  refine ww_iadd cx dX8_ofGuest_9 ?_
  refine ww_iload_n cx dX8_ofGuest_10 rfl 2 rfl ?_
  refine ww_iadd cx dX8_ofGuest_11 ?_
  refine ww_iald (N := 77) cx (sh_63) dX8_ofGuest_12 hF (fun hF => ?_)
  exact ww_rip hE dX8_ofGuest_13 hF
theorem dX8_ofStep_0 : decode cX8_ofStep 0 = .ok (.aload_n 0, 1) := by decide +kernel
theorem dX8_ofStep_1 : decode cX8_ofStep 1 = .ok (.getfield 9, 3) := by decide +kernel
theorem dX8_ofStep_4 : decode cX8_ofStep 4 = .ok (.bipush 43, 2) := by decide +kernel
theorem dX8_ofStep_6 : decode cX8_ofStep 6 = .ok (.iconst 2, 1) := by decide +kernel
theorem dX8_ofStep_7 : decode cX8_ofStep 7 = .ok (.iload_n 1, 1) := by decide +kernel
theorem dX8_ofStep_8 : decode cX8_ofStep 8 = .ok (.imul, 1) := by decide +kernel
theorem dX8_ofStep_9 : decode cX8_ofStep 9 = .ok (.iadd, 1) := by decide +kernel
theorem dX8_ofStep_10 : decode cX8_ofStep 10 = .ok (.iload_n 2, 1) := by decide +kernel
theorem dX8_ofStep_11 : decode cX8_ofStep 11 = .ok (.iadd, 1) := by decide +kernel
theorem dX8_ofStep_12 : decode cX8_ofStep 12 = .ok (.iaload, 1) := by decide +kernel
theorem dX8_ofStep_13 : decode cX8_ofStep 13 = .ok (.ireturn, 1) := by decide +kernel
set_option maxRecDepth 4000 in
theorem kX8_ofStep (G : GT) {σ : St} {a1 : Int32} {a2 : Int32} : ∀ (r : Int32) , fX8_ofStep σ a1 a2 = some r → MCt G 1 yX8_ofStep cX8_ofStep 3 (some .int) [.ref (gad G 62), .int a1, .int a2] σ (some (.int r)) σ := by
  intro r hF
  refine met_i (by decide) (Nat.le_of_ble_eq_true rfl) (fun X cx hE => ?_)
  have cx : Cx G X RX8 cX8_ofStep 3 1 := cx
  unfold fX8_ofStep at hF
  show WW G X 3 σ [(0, .ref (gad G 62)), (1, .int a1), (2, .int a2)] 0 []
  refine ww_aload_n cx dX8_ofStep_0 rfl 0 rfl ?_
  refine gf_X8_9 cx dX8_ofStep_1 ?_
  refine ww_bipush cx dX8_ofStep_4 bc_43 ?_
  refine ww_iconst cx dX8_ofStep_6 ic_2 ?_
  refine ww_iload_n cx dX8_ofStep_7 rfl 1 rfl ?_
  refine ww_imul cx dX8_ofStep_8 ?_
  refine ww_iadd cx dX8_ofStep_9 ?_
  refine ww_iload_n cx dX8_ofStep_10 rfl 2 rfl ?_
  refine ww_iadd cx dX8_ofStep_11 ?_
  refine ww_iald (N := 77) cx (sh_63) dX8_ofStep_12 hF (fun hF => ?_)
  exact ww_rip hE dX8_ofStep_13 hF
theorem dX8_see_0 : decode cX8_see 0 = .ok (.iload_n 1, 1) := by decide +kernel
theorem dX8_see_1 : decode cX8_see 1 = .ok (.aload_n 0, 1) := by decide +kernel
theorem dX8_see_2 : decode cX8_see 2 = .ok (.getfield 98, 3) := by decide +kernel
theorem dX8_see_5 : decode cX8_see 5 = .ok (.if_icmp .ge 16, 3) := by decide +kernel
theorem dX8_see_8 : decode cX8_see 8 = .ok (.aload_n 0, 1) := by decide +kernel
theorem dX8_see_9 : decode cX8_see 9 = .ok (.getfield 20, 3) := by decide +kernel
theorem dX8_see_12 : decode cX8_see 12 = .ok (.iload_n 1, 1) := by decide +kernel
theorem dX8_see_13 : decode cX8_see 13 = .ok (.baload, 1) := by decide +kernel
theorem dX8_see_14 : decode cX8_see 14 = .ok (.sipush 255, 3) := by decide +kernel
theorem dX8_see_17 : decode cX8_see 17 = .ok (.iand, 1) := by decide +kernel
theorem dX8_see_18 : decode cX8_see 18 = .ok (.goto 4, 3) := by decide +kernel
theorem dX8_see_21 : decode cX8_see 21 = .ok (.iconst (-1), 1) := by decide +kernel
theorem dX8_see_22 : decode cX8_see 22 = .ok (.ireturn, 1) := by decide +kernel
set_option maxRecDepth 4000 in
theorem kX8_see (G : GT) {σ : St} {a1 : Int32} : ∀ (r : Int32) , fX8_see σ a1 = some r → MCt G 1 yX8_see cX8_see 2 (some .int) [.ref (gad G 62), .int a1] σ (some (.int r)) σ := by
  intro r hF
  refine met_i (by decide) (Nat.le_of_ble_eq_true rfl) (fun X cx hE => ?_)
  have cx : Cx G X RX8 cX8_see 2 1 := cx
  unfold fX8_see at hF
  show WW G X 2 σ [(0, .ref (gad G 62)), (1, .int a1)] 0 []
  refine ww_iload_n cx dX8_see_0 rfl 1 rfl ?_
  refine ww_aload_n cx dX8_see_1 rfl 0 rfl ?_
  refine gf_X8_98 cx dX8_see_2 ?_
  refine ww_icmp_ge cx dX8_see_5 (tgt := 21) rfl hF (fun hF => ?_) (fun hF => ?_)
  · refine ww_iconst cx dX8_see_21 ic_m1 ?_
    exact ww_rip hE dX8_see_22 hF
  · refine ww_aload_n cx dX8_see_8 rfl 0 rfl ?_
    refine gf_X8_20 cx dX8_see_9 ?_
    refine ww_iload_n cx dX8_see_12 rfl 1 rfl ?_
    refine ww_bald (N := 1600) cx (sh_66) dX8_see_13 hF (fun hF => ?_)
    refine ww_sipush cx dX8_see_14 sc_255 ?_
    refine ww_iand cx dX8_see_17 ?_
    refine ww_goto cx dX8_see_18 (tgt := 22) rfl ?_
    exact ww_rip hE dX8_see_22 hF
theorem dX8_worlds_0 : decode cX8_worlds 0 = .ok (.iconst 1, 1) := by decide +kernel
theorem dX8_worlds_1 : decode cX8_worlds 1 = .ok (.aload_n 0, 1) := by decide +kernel
theorem dX8_worlds_2 : decode cX8_worlds 2 = .ok (.getfield 9, 3) := by decide +kernel
theorem dX8_worlds_5 : decode cX8_worlds 5 = .ok (.iconst 0, 1) := by decide +kernel
theorem dX8_worlds_6 : decode cX8_worlds 6 = .ok (.iaload, 1) := by decide +kernel
theorem dX8_worlds_7 : decode cX8_worlds 7 = .ok (.ishl, 1) := by decide +kernel
theorem dX8_worlds_8 : decode cX8_worlds 8 = .ok (.ireturn, 1) := by decide +kernel
set_option maxRecDepth 4000 in
theorem kX8_worlds (G : GT) {σ : St} : ∀ (r : Int32) , fX8_worlds σ = some r → MCt G 1 yX8_worlds cX8_worlds 1 (some .int) [.ref (gad G 62)] σ (some (.int r)) σ := by
  intro r hF
  refine met_i (by decide) (Nat.le_of_ble_eq_true rfl) (fun X cx hE => ?_)
  have cx : Cx G X RX8 cX8_worlds 1 1 := cx
  unfold fX8_worlds at hF
  show WW G X 1 σ [(0, .ref (gad G 62))] 0 []
  refine ww_iconst cx dX8_worlds_0 ic_1 ?_
  refine ww_aload_n cx dX8_worlds_1 rfl 0 rfl ?_
  refine gf_X8_9 cx dX8_worlds_2 ?_
  refine ww_iconst cx dX8_worlds_5 ic_0 ?_
  refine ww_iald (N := 77) cx (sh_63) dX8_worlds_6 hF (fun hF => ?_)
  refine ww_ishl cx dX8_worlds_7 ?_
  exact ww_rip hE dX8_worlds_8 hF
set_option maxRecDepth 4000 in
theorem kJ6_bitCount_0f7a4 (G : GT) {σ : St} {a0 : Int32} : ∀ (r : Int32) , fJ6_bitCount_0f7a4 a0 = some r → MCt G 1 yJ6_bitCount_0f7a4 cJ6_bitCount_0f7a4 1 (some .int) [.int a0] σ (some (.int r)) σ := by
  intro r hF
  refine met_i (by decide) (Nat.le_of_ble_eq_true rfl) (fun X cx hE => ?_)
  have cx : Cx G X RJ6 cJ6_bitCount_0f7a4 1 1 := cx
  unfold fJ6_bitCount_0f7a4 at hF
  show WW G X 1 σ [(0, .int a0)] 0 []
  refine ww_iload_n cx dJ6_bitCount_0f7a4_0 rfl 0 rfl ?_
  refine ww_iload_n cx dJ6_bitCount_0f7a4_1 rfl 0 rfl ?_
  refine ww_iconst cx dJ6_bitCount_0f7a4_2 ic_1 ?_
  refine ww_iushr cx dJ6_bitCount_0f7a4_3 ?_
  refine ww_ldcw (v := 1431655765) cx dJ6_bitCount_0f7a4_4 cn_J6_265 ?_
  refine ww_iand cx dJ6_bitCount_0f7a4_7 ?_
  refine ww_isub cx dJ6_bitCount_0f7a4_8 ?_
  refine ww_istore_n (ks := [0]) (lv' := fun v1 => [(0, .int v1)]) cx dJ6_bitCount_0f7a4_9 rfl (by decide) hF (fun _ => rfl) (fun v1 hF => ?_)
  refine ww_iload_n cx dJ6_bitCount_0f7a4_10 rfl 0 rfl ?_
  refine ww_ldcw (v := 858993459) cx dJ6_bitCount_0f7a4_11 cn_J6_266 ?_
  refine ww_iand cx dJ6_bitCount_0f7a4_14 ?_
  refine ww_iload_n cx dJ6_bitCount_0f7a4_15 rfl 0 rfl ?_
  refine ww_iconst cx dJ6_bitCount_0f7a4_16 ic_2 ?_
  refine ww_iushr cx dJ6_bitCount_0f7a4_17 ?_
  refine ww_ldcw (v := 858993459) cx dJ6_bitCount_0f7a4_18 cn_J6_266 ?_
  refine ww_iand cx dJ6_bitCount_0f7a4_21 ?_
  refine ww_iadd cx dJ6_bitCount_0f7a4_22 ?_
  refine ww_istore_n (ks := [0]) (lv' := fun v2 => [(0, .int v2)]) cx dJ6_bitCount_0f7a4_23 rfl (by decide) hF (fun _ => rfl) (fun v2 hF => ?_)
  refine ww_iload_n cx dJ6_bitCount_0f7a4_24 rfl 0 rfl ?_
  refine ww_iload_n cx dJ6_bitCount_0f7a4_25 rfl 0 rfl ?_
  refine ww_iconst cx dJ6_bitCount_0f7a4_26 ic_4 ?_
  refine ww_iushr cx dJ6_bitCount_0f7a4_27 ?_
  refine ww_iadd cx dJ6_bitCount_0f7a4_28 ?_
  refine ww_ldcw (v := 252645135) cx dJ6_bitCount_0f7a4_29 cn_J6_267 ?_
  refine ww_iand cx dJ6_bitCount_0f7a4_32 ?_
  refine ww_istore_n (ks := [0]) (lv' := fun v3 => [(0, .int v3)]) cx dJ6_bitCount_0f7a4_33 rfl (by decide) hF (fun _ => rfl) (fun v3 hF => ?_)
  refine ww_iload_n cx dJ6_bitCount_0f7a4_34 rfl 0 rfl ?_
  refine ww_iload_n cx dJ6_bitCount_0f7a4_35 rfl 0 rfl ?_
  refine ww_bipush cx dJ6_bitCount_0f7a4_36 bc_8 ?_
  refine ww_iushr cx dJ6_bitCount_0f7a4_38 ?_
  refine ww_iadd cx dJ6_bitCount_0f7a4_39 ?_
  refine ww_istore_n (ks := [0]) (lv' := fun v4 => [(0, .int v4)]) cx dJ6_bitCount_0f7a4_40 rfl (by decide) hF (fun _ => rfl) (fun v4 hF => ?_)
  refine ww_iload_n cx dJ6_bitCount_0f7a4_41 rfl 0 rfl ?_
  refine ww_iload_n cx dJ6_bitCount_0f7a4_42 rfl 0 rfl ?_
  refine ww_bipush cx dJ6_bitCount_0f7a4_43 bc_16 ?_
  refine ww_iushr cx dJ6_bitCount_0f7a4_45 ?_
  refine ww_iadd cx dJ6_bitCount_0f7a4_46 ?_
  refine ww_istore_n (ks := [0]) (lv' := fun v5 => [(0, .int v5)]) cx dJ6_bitCount_0f7a4_47 rfl (by decide) hF (fun _ => rfl) (fun v5 hF => ?_)
  refine ww_iload_n cx dJ6_bitCount_0f7a4_48 rfl 0 rfl ?_
  refine ww_bipush cx dJ6_bitCount_0f7a4_49 bc_63 ?_
  refine ww_iand cx dJ6_bitCount_0f7a4_51 ?_
  exact ww_rip hE dJ6_bitCount_0f7a4_52 hF
