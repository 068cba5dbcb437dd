theorem kwk_0 (l : Launch) (D : va_G) (ca : Nat → ClassId) (sk sv : Nat → Nat) (f g : Nat → Nat) (a0 : Nat → Nat) : (kw_X7 (l, D, a0, ca, sk, sv) f ++ kw_X8 (l, D, a0, ca, sk, sv) g)[0]? = (wld (l, D, adF f g, ca, sk, sv) sig0)[0]? := by
  rw [wld_at sh_0]
  rfl
theorem kwk_1 (l : Launch) (D : va_G) (ca : Nat → ClassId) (sk sv : Nat → Nat) (f g : Nat → Nat) (a0 : Nat → Nat) : (kw_X7 (l, D, a0, ca, sk, sv) f ++ kw_X8 (l, D, a0, ca, sk, sv) g)[1]? = (wld (l, D, adF f g, ca, sk, sv) sig0)[1]? := by
  rw [wld_at sh_1]
  rfl
theorem kwk_2 (l : Launch) (D : va_G) (ca : Nat → ClassId) (sk sv : Nat → Nat) (f g : Nat → Nat) (a0 : Nat → Nat) : (kw_X7 (l, D, a0, ca, sk, sv) f ++ kw_X8 (l, D, a0, ca, sk, sv) g)[2]? = (wld (l, D, adF f g, ca, sk, sv) sig0)[2]? := by
  rw [wld_at sh_2]
  rfl
theorem kwk_3 (l : Launch) (D : va_G) (ca : Nat → ClassId) (sk sv : Nat → Nat) (f g : Nat → Nat) (a0 : Nat → Nat) : (kw_X7 (l, D, a0, ca, sk, sv) f ++ kw_X8 (l, D, a0, ca, sk, sv) g)[3]? = (wld (l, D, adF f g, ca, sk, sv) sig0)[3]? := by
  rw [wld_at sh_3]
  rfl
theorem kwk_4 (l : Launch) (D : va_G) (ca : Nat → ClassId) (sk sv : Nat → Nat) (f g : Nat → Nat) (a0 : Nat → Nat) : (kw_X7 (l, D, a0, ca, sk, sv) f ++ kw_X8 (l, D, a0, ca, sk, sv) g)[4]? = (wld (l, D, adF f g, ca, sk, sv) sig0)[4]? := by
  rw [wld_at sh_4]
  rfl
theorem kwk_5 (l : Launch) (D : va_G) (ca : Nat → ClassId) (sk sv : Nat → Nat) (f g : Nat → Nat) (a0 : Nat → Nat) : (kw_X7 (l, D, a0, ca, sk, sv) f ++ kw_X8 (l, D, a0, ca, sk, sv) g)[5]? = (wld (l, D, adF f g, ca, sk, sv) sig0)[5]? := by
  rw [wld_at sh_5]
  rfl
theorem kwk_6 (l : Launch) (D : va_G) (ca : Nat → ClassId) (sk sv : Nat → Nat) (f g : Nat → Nat) (a0 : Nat → Nat) : (kw_X7 (l, D, a0, ca, sk, sv) f ++ kw_X8 (l, D, a0, ca, sk, sv) g)[6]? = (wld (l, D, adF f g, ca, sk, sv) sig0)[6]? := by
  rw [wld_at sh_6]
  rfl
theorem kwk_7 (l : Launch) (D : va_G) (ca : Nat → ClassId) (sk sv : Nat → Nat) (f g : Nat → Nat) (a0 : Nat → Nat) : (kw_X7 (l, D, a0, ca, sk, sv) f ++ kw_X8 (l, D, a0, ca, sk, sv) g)[7]? = (wld (l, D, adF f g, ca, sk, sv) sig0)[7]? := by
  rw [wld_at sh_7]
  rfl
theorem kwk_8 (l : Launch) (D : va_G) (ca : Nat → ClassId) (sk sv : Nat → Nat) (f g : Nat → Nat) (a0 : Nat → Nat) : (kw_X7 (l, D, a0, ca, sk, sv) f ++ kw_X8 (l, D, a0, ca, sk, sv) g)[8]? = (wld (l, D, adF f g, ca, sk, sv) sig0)[8]? := by
  rw [wld_at sh_8]
  rfl
theorem kwk_9 (l : Launch) (D : va_G) (ca : Nat → ClassId) (sk sv : Nat → Nat) (f g : Nat → Nat) (a0 : Nat → Nat) : (kw_X7 (l, D, a0, ca, sk, sv) f ++ kw_X8 (l, D, a0, ca, sk, sv) g)[9]? = (wld (l, D, adF f g, ca, sk, sv) sig0)[9]? := by
  rw [wld_at sh_9]
  rfl
theorem kwk_10 (l : Launch) (D : va_G) (ca : Nat → ClassId) (sk sv : Nat → Nat) (f g : Nat → Nat) (a0 : Nat → Nat) : (kw_X7 (l, D, a0, ca, sk, sv) f ++ kw_X8 (l, D, a0, ca, sk, sv) g)[10]? = (wld (l, D, adF f g, ca, sk, sv) sig0)[10]? := by
  rw [wld_at sh_10]
  rfl
theorem kwk_11 (l : Launch) (D : va_G) (ca : Nat → ClassId) (sk sv : Nat → Nat) (f g : Nat → Nat) (a0 : Nat → Nat) : (kw_X7 (l, D, a0, ca, sk, sv) f ++ kw_X8 (l, D, a0, ca, sk, sv) g)[11]? = (wld (l, D, adF f g, ca, sk, sv) sig0)[11]? := by
  rw [wld_at sh_11]
  rfl
theorem kwk_12 (l : Launch) (D : va_G) (ca : Nat → ClassId) (sk sv : Nat → Nat) (f g : Nat → Nat) (a0 : Nat → Nat) : (kw_X7 (l, D, a0, ca, sk, sv) f ++ kw_X8 (l, D, a0, ca, sk, sv) g)[12]? = (wld (l, D, adF f g, ca, sk, sv) sig0)[12]? := by
  rw [wld_at sh_12]
  rfl
theorem kwk_13 (l : Launch) (D : va_G) (ca : Nat → ClassId) (sk sv : Nat → Nat) (f g : Nat → Nat) (a0 : Nat → Nat) : (kw_X7 (l, D, a0, ca, sk, sv) f ++ kw_X8 (l, D, a0, ca, sk, sv) g)[13]? = (wld (l, D, adF f g, ca, sk, sv) sig0)[13]? := by
  rw [wld_at sh_13]
  rfl
theorem kwk_14 (l : Launch) (D : va_G) (ca : Nat → ClassId) (sk sv : Nat → Nat) (f g : Nat → Nat) (a0 : Nat → Nat) : (kw_X7 (l, D, a0, ca, sk, sv) f ++ kw_X8 (l, D, a0, ca, sk, sv) g)[14]? = (wld (l, D, adF f g, ca, sk, sv) sig0)[14]? := by
  rw [wld_at sh_14]
  rfl
theorem kwk_15 (l : Launch) (D : va_G) (ca : Nat → ClassId) (sk sv : Nat → Nat) (f g : Nat → Nat) (a0 : Nat → Nat) : (kw_X7 (l, D, a0, ca, sk, sv) f ++ kw_X8 (l, D, a0, ca, sk, sv) g)[15]? = (wld (l, D, adF f g, ca, sk, sv) sig0)[15]? := by
  rw [wld_at sh_15]
  rfl
theorem kwk_16 (l : Launch) (D : va_G) (ca : Nat → ClassId) (sk sv : Nat → Nat) (f g : Nat → Nat) (a0 : Nat → Nat) : (kw_X7 (l, D, a0, ca, sk, sv) f ++ kw_X8 (l, D, a0, ca, sk, sv) g)[16]? = (wld (l, D, adF f g, ca, sk, sv) sig0)[16]? := by
  rw [wld_at sh_16]
  rfl
theorem kwk_17 (l : Launch) (D : va_G) (ca : Nat → ClassId) (sk sv : Nat → Nat) (f g : Nat → Nat) (a0 : Nat → Nat) : (kw_X7 (l, D, a0, ca, sk, sv) f ++ kw_X8 (l, D, a0, ca, sk, sv) g)[17]? = (wld (l, D, adF f g, ca, sk, sv) sig0)[17]? := by
  rw [wld_at sh_17]
  exact congrArg (fun z => some ((f 17, .inl (ca 4, 3, .inr (.inr (.inr (.inr z))))) : Nat × va_E)) (img_fn f (adF f g) rfl rfl rfl)
theorem kwk_18 (l : Launch) (D : va_G) (ca : Nat → ClassId) (sk sv : Nat → Nat) (f g : Nat → Nat) (a0 : Nat → Nat) : (kw_X7 (l, D, a0, ca, sk, sv) f ++ kw_X8 (l, D, a0, ca, sk, sv) g)[18]? = (wld (l, D, adF f g, ca, sk, sv) sig0)[18]? := by
  rw [wld_at sh_18]
  rfl
theorem kwk_19 (l : Launch) (D : va_G) (ca : Nat → ClassId) (sk sv : Nat → Nat) (f g : Nat → Nat) (a0 : Nat → Nat) : (kw_X7 (l, D, a0, ca, sk, sv) f ++ kw_X8 (l, D, a0, ca, sk, sv) g)[19]? = (wld (l, D, adF f g, ca, sk, sv) sig0)[19]? := by
  rw [wld_at sh_19]
  rfl
theorem kwk_20 (l : Launch) (D : va_G) (ca : Nat → ClassId) (sk sv : Nat → Nat) (f g : Nat → Nat) (a0 : Nat → Nat) : (kw_X7 (l, D, a0, ca, sk, sv) f ++ kw_X8 (l, D, a0, ca, sk, sv) g)[20]? = (wld (l, D, adF f g, ca, sk, sv) sig0)[20]? := by
  rw [wld_at sh_20]
  rfl
theorem kwk_21 (l : Launch) (D : va_G) (ca : Nat → ClassId) (sk sv : Nat → Nat) (f g : Nat → Nat) (a0 : Nat → Nat) : (kw_X7 (l, D, a0, ca, sk, sv) f ++ kw_X8 (l, D, a0, ca, sk, sv) g)[21]? = (wld (l, D, adF f g, ca, sk, sv) sig0)[21]? := by
  rw [wld_at sh_21]
  rfl
theorem kwk_22 (l : Launch) (D : va_G) (ca : Nat → ClassId) (sk sv : Nat → Nat) (f g : Nat → Nat) (a0 : Nat → Nat) : (kw_X7 (l, D, a0, ca, sk, sv) f ++ kw_X8 (l, D, a0, ca, sk, sv) g)[22]? = (wld (l, D, adF f g, ca, sk, sv) sig0)[22]? := by
  rw [wld_at sh_22]
  rfl
theorem kwk_23 (l : Launch) (D : va_G) (ca : Nat → ClassId) (sk sv : Nat → Nat) (f g : Nat → Nat) (a0 : Nat → Nat) : (kw_X7 (l, D, a0, ca, sk, sv) f ++ kw_X8 (l, D, a0, ca, sk, sv) g)[23]? = (wld (l, D, adF f g, ca, sk, sv) sig0)[23]? := by
  rw [wld_at sh_23]
  rfl
theorem kwk_24 (l : Launch) (D : va_G) (ca : Nat → ClassId) (sk sv : Nat → Nat) (f g : Nat → Nat) (a0 : Nat → Nat) : (kw_X7 (l, D, a0, ca, sk, sv) f ++ kw_X8 (l, D, a0, ca, sk, sv) g)[24]? = (wld (l, D, adF f g, ca, sk, sv) sig0)[24]? := by
  rw [wld_at sh_24]
  rfl
theorem kwk_25 (l : Launch) (D : va_G) (ca : Nat → ClassId) (sk sv : Nat → Nat) (f g : Nat → Nat) (a0 : Nat → Nat) : (kw_X7 (l, D, a0, ca, sk, sv) f ++ kw_X8 (l, D, a0, ca, sk, sv) g)[25]? = (wld (l, D, adF f g, ca, sk, sv) sig0)[25]? := by
  rw [wld_at sh_25]
  rfl
theorem kwk_26 (l : Launch) (D : va_G) (ca : Nat → ClassId) (sk sv : Nat → Nat) (f g : Nat → Nat) (a0 : Nat → Nat) : (kw_X7 (l, D, a0, ca, sk, sv) f ++ kw_X8 (l, D, a0, ca, sk, sv) g)[26]? = (wld (l, D, adF f g, ca, sk, sv) sig0)[26]? := by
  rw [wld_at sh_26]
  rfl
theorem kwk_27 (l : Launch) (D : va_G) (ca : Nat → ClassId) (sk sv : Nat → Nat) (f g : Nat → Nat) (a0 : Nat → Nat) : (kw_X7 (l, D, a0, ca, sk, sv) f ++ kw_X8 (l, D, a0, ca, sk, sv) g)[27]? = (wld (l, D, adF f g, ca, sk, sv) sig0)[27]? := by
  rw [wld_at sh_27]
  rfl
theorem kwk_28 (l : Launch) (D : va_G) (ca : Nat → ClassId) (sk sv : Nat → Nat) (f g : Nat → Nat) (a0 : Nat → Nat) : (kw_X7 (l, D, a0, ca, sk, sv) f ++ kw_X8 (l, D, a0, ca, sk, sv) g)[28]? = (wld (l, D, adF f g, ca, sk, sv) sig0)[28]? := by
  rw [wld_at sh_28]
  rfl
theorem kwk_29 (l : Launch) (D : va_G) (ca : Nat → ClassId) (sk sv : Nat → Nat) (f g : Nat → Nat) (a0 : Nat → Nat) : (kw_X7 (l, D, a0, ca, sk, sv) f ++ kw_X8 (l, D, a0, ca, sk, sv) g)[29]? = (wld (l, D, adF f g, ca, sk, sv) sig0)[29]? := by
  rw [wld_at sh_29]
  rfl
theorem kwk_30 (l : Launch) (D : va_G) (ca : Nat → ClassId) (sk sv : Nat → Nat) (f g : Nat → Nat) (a0 : Nat → Nat) : (kw_X7 (l, D, a0, ca, sk, sv) f ++ kw_X8 (l, D, a0, ca, sk, sv) g)[30]? = (wld (l, D, adF f g, ca, sk, sv) sig0)[30]? := by
  rw [wld_at sh_30]
  rfl
theorem kwk_31 (l : Launch) (D : va_G) (ca : Nat → ClassId) (sk sv : Nat → Nat) (f g : Nat → Nat) (a0 : Nat → Nat) : (kw_X7 (l, D, a0, ca, sk, sv) f ++ kw_X8 (l, D, a0, ca, sk, sv) g)[31]? = (wld (l, D, adF f g, ca, sk, sv) sig0)[31]? := by
  rw [wld_at sh_31]
  rfl
theorem kwk_32 (l : Launch) (D : va_G) (ca : Nat → ClassId) (sk sv : Nat → Nat) (f g : Nat → Nat) (a0 : Nat → Nat) : (kw_X7 (l, D, a0, ca, sk, sv) f ++ kw_X8 (l, D, a0, ca, sk, sv) g)[32]? = (wld (l, D, adF f g, ca, sk, sv) sig0)[32]? := by
  rw [wld_at sh_32]
  rfl
theorem kwk_33 (l : Launch) (D : va_G) (ca : Nat → ClassId) (sk sv : Nat → Nat) (f g : Nat → Nat) (a0 : Nat → Nat) : (kw_X7 (l, D, a0, ca, sk, sv) f ++ kw_X8 (l, D, a0, ca, sk, sv) g)[33]? = (wld (l, D, adF f g, ca, sk, sv) sig0)[33]? := by
  rw [wld_at sh_33]
  rfl
theorem kwk_34 (l : Launch) (D : va_G) (ca : Nat → ClassId) (sk sv : Nat → Nat) (f g : Nat → Nat) (a0 : Nat → Nat) : (kw_X7 (l, D, a0, ca, sk, sv) f ++ kw_X8 (l, D, a0, ca, sk, sv) g)[34]? = (wld (l, D, adF f g, ca, sk, sv) sig0)[34]? := by
  rw [wld_at sh_34]
  rfl
theorem kwk_35 (l : Launch) (D : va_G) (ca : Nat → ClassId) (sk sv : Nat → Nat) (f g : Nat → Nat) (a0 : Nat → Nat) : (kw_X7 (l, D, a0, ca, sk, sv) f ++ kw_X8 (l, D, a0, ca, sk, sv) g)[35]? = (wld (l, D, adF f g, ca, sk, sv) sig0)[35]? := by
  rw [wld_at sh_35]
  rfl
theorem kwk_36 (l : Launch) (D : va_G) (ca : Nat → ClassId) (sk sv : Nat → Nat) (f g : Nat → Nat) (a0 : Nat → Nat) : (kw_X7 (l, D, a0, ca, sk, sv) f ++ kw_X8 (l, D, a0, ca, sk, sv) g)[36]? = (wld (l, D, adF f g, ca, sk, sv) sig0)[36]? := by
  rw [wld_at sh_36]
  rfl
theorem kwk_37 (l : Launch) (D : va_G) (ca : Nat → ClassId) (sk sv : Nat → Nat) (f g : Nat → Nat) (a0 : Nat → Nat) : (kw_X7 (l, D, a0, ca, sk, sv) f ++ kw_X8 (l, D, a0, ca, sk, sv) g)[37]? = (wld (l, D, adF f g, ca, sk, sv) sig0)[37]? := by
  rw [wld_at sh_37]
  rfl
theorem kwk_38 (l : Launch) (D : va_G) (ca : Nat → ClassId) (sk sv : Nat → Nat) (f g : Nat → Nat) (a0 : Nat → Nat) : (kw_X7 (l, D, a0, ca, sk, sv) f ++ kw_X8 (l, D, a0, ca, sk, sv) g)[38]? = (wld (l, D, adF f g, ca, sk, sv) sig0)[38]? := by
  rw [wld_at sh_38]
  rfl
theorem kwk_39 (l : Launch) (D : va_G) (ca : Nat → ClassId) (sk sv : Nat → Nat) (f g : Nat → Nat) (a0 : Nat → Nat) : (kw_X7 (l, D, a0, ca, sk, sv) f ++ kw_X8 (l, D, a0, ca, sk, sv) g)[39]? = (wld (l, D, adF f g, ca, sk, sv) sig0)[39]? := by
  rw [wld_at sh_39]
  rfl
theorem kwk_40 (l : Launch) (D : va_G) (ca : Nat → ClassId) (sk sv : Nat → Nat) (f g : Nat → Nat) (a0 : Nat → Nat) : (kw_X7 (l, D, a0, ca, sk, sv) f ++ kw_X8 (l, D, a0, ca, sk, sv) g)[40]? = (wld (l, D, adF f g, ca, sk, sv) sig0)[40]? := by
  rw [wld_at sh_40]
  exact congrArg (fun z => some ((f 40, .inl (ca 5, 4, .inr (.inr (.inr (.inr z))))) : Nat × va_E)) (row_fn f (adF f g) rfl rfl rfl rfl)
theorem kwk_41 (l : Launch) (D : va_G) (ca : Nat → ClassId) (sk sv : Nat → Nat) (f g : Nat → Nat) (a0 : Nat → Nat) : (kw_X7 (l, D, a0, ca, sk, sv) f ++ kw_X8 (l, D, a0, ca, sk, sv) g)[41]? = (wld (l, D, adF f g, ca, sk, sv) sig0)[41]? := by
  rw [wld_at sh_41]
  rfl
theorem kwk_42 (l : Launch) (D : va_G) (ca : Nat → ClassId) (sk sv : Nat → Nat) (f g : Nat → Nat) (a0 : Nat → Nat) : (kw_X7 (l, D, a0, ca, sk, sv) f ++ kw_X8 (l, D, a0, ca, sk, sv) g)[42]? = (wld (l, D, adF f g, ca, sk, sv) sig0)[42]? := by
  rw [wld_at sh_42]
  rfl
theorem kwk_43 (l : Launch) (D : va_G) (ca : Nat → ClassId) (sk sv : Nat → Nat) (f g : Nat → Nat) (a0 : Nat → Nat) : (kw_X7 (l, D, a0, ca, sk, sv) f ++ kw_X8 (l, D, a0, ca, sk, sv) g)[43]? = (wld (l, D, adF f g, ca, sk, sv) sig0)[43]? := by
  rw [wld_at sh_43]
  rfl
theorem kwk_44 (l : Launch) (D : va_G) (ca : Nat → ClassId) (sk sv : Nat → Nat) (f g : Nat → Nat) (a0 : Nat → Nat) : (kw_X7 (l, D, a0, ca, sk, sv) f ++ kw_X8 (l, D, a0, ca, sk, sv) g)[44]? = (wld (l, D, adF f g, ca, sk, sv) sig0)[44]? := by
  rw [wld_at sh_44]
  rfl
theorem kwk_45 (l : Launch) (D : va_G) (ca : Nat → ClassId) (sk sv : Nat → Nat) (f g : Nat → Nat) (a0 : Nat → Nat) : (kw_X7 (l, D, a0, ca, sk, sv) f ++ kw_X8 (l, D, a0, ca, sk, sv) g)[45]? = (wld (l, D, adF f g, ca, sk, sv) sig0)[45]? := by
  rw [wld_at sh_45]
  rfl
theorem kwk_46 (l : Launch) (D : va_G) (ca : Nat → ClassId) (sk sv : Nat → Nat) (f g : Nat → Nat) (a0 : Nat → Nat) : (kw_X7 (l, D, a0, ca, sk, sv) f ++ kw_X8 (l, D, a0, ca, sk, sv) g)[46]? = (wld (l, D, adF f g, ca, sk, sv) sig0)[46]? := by
  rw [wld_at sh_46]
  rfl
theorem kwk_47 (l : Launch) (D : va_G) (ca : Nat → ClassId) (sk sv : Nat → Nat) (f g : Nat → Nat) (a0 : Nat → Nat) : (kw_X7 (l, D, a0, ca, sk, sv) f ++ kw_X8 (l, D, a0, ca, sk, sv) g)[47]? = (wld (l, D, adF f g, ca, sk, sv) sig0)[47]? := by
  rw [wld_at sh_47]
  rfl
theorem kwk_48 (l : Launch) (D : va_G) (ca : Nat → ClassId) (sk sv : Nat → Nat) (f g : Nat → Nat) (a0 : Nat → Nat) : (kw_X7 (l, D, a0, ca, sk, sv) f ++ kw_X8 (l, D, a0, ca, sk, sv) g)[48]? = (wld (l, D, adF f g, ca, sk, sv) sig0)[48]? := by
  rw [wld_at sh_48]
  rfl
theorem kwk_49 (l : Launch) (D : va_G) (ca : Nat → ClassId) (sk sv : Nat → Nat) (f g : Nat → Nat) (a0 : Nat → Nat) : (kw_X7 (l, D, a0, ca, sk, sv) f ++ kw_X8 (l, D, a0, ca, sk, sv) g)[49]? = (wld (l, D, adF f g, ca, sk, sv) sig0)[49]? := by
  rw [wld_at sh_49]
  rfl
theorem kwk_50 (l : Launch) (D : va_G) (ca : Nat → ClassId) (sk sv : Nat → Nat) (f g : Nat → Nat) (a0 : Nat → Nat) : (kw_X7 (l, D, a0, ca, sk, sv) f ++ kw_X8 (l, D, a0, ca, sk, sv) g)[50]? = (wld (l, D, adF f g, ca, sk, sv) sig0)[50]? := by
  rw [wld_at sh_50]
  rfl
theorem kwk_51 (l : Launch) (D : va_G) (ca : Nat → ClassId) (sk sv : Nat → Nat) (f g : Nat → Nat) (a0 : Nat → Nat) : (kw_X7 (l, D, a0, ca, sk, sv) f ++ kw_X8 (l, D, a0, ca, sk, sv) g)[51]? = (wld (l, D, adF f g, ca, sk, sv) sig0)[51]? := by
  rw [wld_at sh_51]
  rfl
theorem kwk_52 (l : Launch) (D : va_G) (ca : Nat → ClassId) (sk sv : Nat → Nat) (f g : Nat → Nat) (a0 : Nat → Nat) : (kw_X7 (l, D, a0, ca, sk, sv) f ++ kw_X8 (l, D, a0, ca, sk, sv) g)[52]? = (wld (l, D, adF f g, ca, sk, sv) sig0)[52]? := by
  rw [wld_at sh_52]
  rfl
theorem kwk_53 (l : Launch) (D : va_G) (ca : Nat → ClassId) (sk sv : Nat → Nat) (f g : Nat → Nat) (a0 : Nat → Nat) : (kw_X7 (l, D, a0, ca, sk, sv) f ++ kw_X8 (l, D, a0, ca, sk, sv) g)[53]? = (wld (l, D, adF f g, ca, sk, sv) sig0)[53]? := by
  rw [wld_at sh_53]
  rfl
theorem kwk_54 (l : Launch) (D : va_G) (ca : Nat → ClassId) (sk sv : Nat → Nat) (f g : Nat → Nat) (a0 : Nat → Nat) : (kw_X7 (l, D, a0, ca, sk, sv) f ++ kw_X8 (l, D, a0, ca, sk, sv) g)[54]? = (wld (l, D, adF f g, ca, sk, sv) sig0)[54]? := by
  rw [wld_at sh_54]
  rfl
theorem kwk_55 (l : Launch) (D : va_G) (ca : Nat → ClassId) (sk sv : Nat → Nat) (f g : Nat → Nat) (a0 : Nat → Nat) : (kw_X7 (l, D, a0, ca, sk, sv) f ++ kw_X8 (l, D, a0, ca, sk, sv) g)[55]? = (wld (l, D, adF f g, ca, sk, sv) sig0)[55]? := by
  rw [wld_at sh_55]
  rfl
theorem kwk_56 (l : Launch) (D : va_G) (ca : Nat → ClassId) (sk sv : Nat → Nat) (f g : Nat → Nat) (a0 : Nat → Nat) : (kw_X7 (l, D, a0, ca, sk, sv) f ++ kw_X8 (l, D, a0, ca, sk, sv) g)[56]? = (wld (l, D, adF f g, ca, sk, sv) sig0)[56]? := by
  rw [wld_at sh_56]
  rfl
theorem kwk_57 (l : Launch) (D : va_G) (ca : Nat → ClassId) (sk sv : Nat → Nat) (f g : Nat → Nat) (a0 : Nat → Nat) : (kw_X7 (l, D, a0, ca, sk, sv) f ++ kw_X8 (l, D, a0, ca, sk, sv) g)[57]? = (wld (l, D, adF f g, ca, sk, sv) sig0)[57]? := by
  rw [wld_at sh_57]
  rfl
theorem kwk_58 (l : Launch) (D : va_G) (ca : Nat → ClassId) (sk sv : Nat → Nat) (f g : Nat → Nat) (a0 : Nat → Nat) : (kw_X7 (l, D, a0, ca, sk, sv) f ++ kw_X8 (l, D, a0, ca, sk, sv) g)[58]? = (wld (l, D, adF f g, ca, sk, sv) sig0)[58]? := by
  rw [wld_at sh_58]
  rfl
theorem kwk_59 (l : Launch) (D : va_G) (ca : Nat → ClassId) (sk sv : Nat → Nat) (f g : Nat → Nat) (a0 : Nat → Nat) : (kw_X7 (l, D, a0, ca, sk, sv) f ++ kw_X8 (l, D, a0, ca, sk, sv) g)[59]? = (wld (l, D, adF f g, ca, sk, sv) sig0)[59]? := by
  rw [wld_at sh_59]
  rfl
theorem kwk_60 (l : Launch) (D : va_G) (ca : Nat → ClassId) (sk sv : Nat → Nat) (f g : Nat → Nat) (a0 : Nat → Nat) : (kw_X7 (l, D, a0, ca, sk, sv) f ++ kw_X8 (l, D, a0, ca, sk, sv) g)[60]? = (wld (l, D, adF f g, ca, sk, sv) sig0)[60]? := by
  rw [wld_at sh_60]
  rfl
theorem kwk_61 (l : Launch) (D : va_G) (ca : Nat → ClassId) (sk sv : Nat → Nat) (f g : Nat → Nat) (a0 : Nat → Nat) : (kw_X7 (l, D, a0, ca, sk, sv) f ++ kw_X8 (l, D, a0, ca, sk, sv) g)[61]? = (wld (l, D, adF f g, ca, sk, sv) sig0)[61]? := by
  rw [wld_at sh_61]
  rfl
theorem mi_nil {α β : Type} (f : Nat → α → β) : List.mapIdx f [] = [] := rfl
theorem mi_cons {α β : Type} (f : Nat → α → β) (a : α) (l : List α) : List.mapIdx f (a :: l) = f 0 a :: List.mapIdx (fun i => f (i + 1)) l := List.mapIdx_cons
theorem kwk_62 (l : Launch) (D : va_G) (ca : Nat → ClassId) (sk sv : Nat → Nat) (f g : Nat → Nat) (a0 : Nat → Nat) : (kw_X7 (l, D, a0, ca, sk, sv) f ++ kw_X8 (l, D, a0, ca, sk, sv) g)[62]? = (wld (l, D, adF f g, ca, sk, sv) sig0)[62]? := by
  rw [wld_at sh_62]
  simp only [cel, mi_cons, mi_nil, fld]
  rfl
theorem kwk_63 (l : Launch) (D : va_G) (ca : Nat → ClassId) (sk sv : Nat → Nat) (f g : Nat → Nat) (a0 : Nat → Nat) : (kw_X7 (l, D, a0, ca, sk, sv) f ++ kw_X8 (l, D, a0, ca, sk, sv) g)[63]? = (wld (l, D, adF f g, ca, sk, sv) sig0)[63]? := by
  rw [wld_at sh_63]
  rfl
theorem kwk_64 (l : Launch) (D : va_G) (ca : Nat → ClassId) (sk sv : Nat → Nat) (f g : Nat → Nat) (a0 : Nat → Nat) : (kw_X7 (l, D, a0, ca, sk, sv) f ++ kw_X8 (l, D, a0, ca, sk, sv) g)[64]? = (wld (l, D, adF f g, ca, sk, sv) sig0)[64]? := by
  rw [wld_at sh_64]
  rfl
theorem kwk_65 (l : Launch) (D : va_G) (ca : Nat → ClassId) (sk sv : Nat → Nat) (f g : Nat → Nat) (a0 : Nat → Nat) : (kw_X7 (l, D, a0, ca, sk, sv) f ++ kw_X8 (l, D, a0, ca, sk, sv) g)[65]? = (wld (l, D, adF f g, ca, sk, sv) sig0)[65]? := by
  rw [wld_at sh_65]
  rfl
theorem kwk_66 (l : Launch) (D : va_G) (ca : Nat → ClassId) (sk sv : Nat → Nat) (f g : Nat → Nat) (a0 : Nat → Nat) : (kw_X7 (l, D, a0, ca, sk, sv) f ++ kw_X8 (l, D, a0, ca, sk, sv) g)[66]? = (wld (l, D, adF f g, ca, sk, sv) sig0)[66]? := by
  rw [wld_at sh_66]
  rfl
theorem kwk_67 (l : Launch) (D : va_G) (ca : Nat → ClassId) (sk sv : Nat → Nat) (f g : Nat → Nat) (a0 : Nat → Nat) : (kw_X7 (l, D, a0, ca, sk, sv) f ++ kw_X8 (l, D, a0, ca, sk, sv) g)[67]? = (wld (l, D, adF f g, ca, sk, sv) sig0)[67]? := by
  rw [wld_at sh_67]
  rfl
theorem kwk_68 (l : Launch) (D : va_G) (ca : Nat → ClassId) (sk sv : Nat → Nat) (f g : Nat → Nat) (a0 : Nat → Nat) : (kw_X7 (l, D, a0, ca, sk, sv) f ++ kw_X8 (l, D, a0, ca, sk, sv) g)[68]? = (wld (l, D, adF f g, ca, sk, sv) sig0)[68]? := by
  rw [wld_at sh_68]
  rfl
theorem kwk_69 (l : Launch) (D : va_G) (ca : Nat → ClassId) (sk sv : Nat → Nat) (f g : Nat → Nat) (a0 : Nat → Nat) : (kw_X7 (l, D, a0, ca, sk, sv) f ++ kw_X8 (l, D, a0, ca, sk, sv) g)[69]? = (wld (l, D, adF f g, ca, sk, sv) sig0)[69]? := by
  rw [wld_at sh_69]
  rfl
theorem kwk_70 (l : Launch) (D : va_G) (ca : Nat → ClassId) (sk sv : Nat → Nat) (f g : Nat → Nat) (a0 : Nat → Nat) : (kw_X7 (l, D, a0, ca, sk, sv) f ++ kw_X8 (l, D, a0, ca, sk, sv) g)[70]? = (wld (l, D, adF f g, ca, sk, sv) sig0)[70]? := by
  rw [wld_at sh_70]
  rfl
theorem kwk_71 (l : Launch) (D : va_G) (ca : Nat → ClassId) (sk sv : Nat → Nat) (f g : Nat → Nat) (a0 : Nat → Nat) : (kw_X7 (l, D, a0, ca, sk, sv) f ++ kw_X8 (l, D, a0, ca, sk, sv) g)[71]? = (wld (l, D, adF f g, ca, sk, sv) sig0)[71]? := by
  rw [wld_at sh_71]
  rfl
theorem kwk_72 (l : Launch) (D : va_G) (ca : Nat → ClassId) (sk sv : Nat → Nat) (f g : Nat → Nat) (a0 : Nat → Nat) : (kw_X7 (l, D, a0, ca, sk, sv) f ++ kw_X8 (l, D, a0, ca, sk, sv) g)[72]? = (wld (l, D, adF f g, ca, sk, sv) sig0)[72]? := by
  rw [wld_at sh_72]
  rfl
theorem kwk_73 (l : Launch) (D : va_G) (ca : Nat → ClassId) (sk sv : Nat → Nat) (f g : Nat → Nat) (a0 : Nat → Nat) : (kw_X7 (l, D, a0, ca, sk, sv) f ++ kw_X8 (l, D, a0, ca, sk, sv) g)[73]? = (wld (l, D, adF f g, ca, sk, sv) sig0)[73]? := by
  rw [wld_at sh_73]
  rfl
theorem kwk_74 (l : Launch) (D : va_G) (ca : Nat → ClassId) (sk sv : Nat → Nat) (f g : Nat → Nat) (a0 : Nat → Nat) : (kw_X7 (l, D, a0, ca, sk, sv) f ++ kw_X8 (l, D, a0, ca, sk, sv) g)[74]? = (wld (l, D, adF f g, ca, sk, sv) sig0)[74]? := by
  rw [wld_at sh_74]
  rfl
theorem kwk_75 (l : Launch) (D : va_G) (ca : Nat → ClassId) (sk sv : Nat → Nat) (f g : Nat → Nat) (a0 : Nat → Nat) : (kw_X7 (l, D, a0, ca, sk, sv) f ++ kw_X8 (l, D, a0, ca, sk, sv) g)[75]? = (wld (l, D, adF f g, ca, sk, sv) sig0)[75]? := by
  rw [wld_at sh_75]
  rfl
theorem kwk_76 (l : Launch) (D : va_G) (ca : Nat → ClassId) (sk sv : Nat → Nat) (f g : Nat → Nat) (a0 : Nat → Nat) : (kw_X7 (l, D, a0, ca, sk, sv) f ++ kw_X8 (l, D, a0, ca, sk, sv) g)[76]? = (wld (l, D, adF f g, ca, sk, sv) sig0)[76]? := by
  rw [wld_at sh_76]
  rfl
theorem kwk_77 (l : Launch) (D : va_G) (ca : Nat → ClassId) (sk sv : Nat → Nat) (f g : Nat → Nat) (a0 : Nat → Nat) : (kw_X7 (l, D, a0, ca, sk, sv) f ++ kw_X8 (l, D, a0, ca, sk, sv) g)[77]? = (wld (l, D, adF f g, ca, sk, sv) sig0)[77]? := by
  rw [wld_at sh_77]
  rfl
theorem kwk_78 (l : Launch) (D : va_G) (ca : Nat → ClassId) (sk sv : Nat → Nat) (f g : Nat → Nat) (a0 : Nat → Nat) : (kw_X7 (l, D, a0, ca, sk, sv) f ++ kw_X8 (l, D, a0, ca, sk, sv) g)[78]? = (wld (l, D, adF f g, ca, sk, sv) sig0)[78]? := by
  rw [wld_at sh_78]
  rfl
theorem kwk_79 (l : Launch) (D : va_G) (ca : Nat → ClassId) (sk sv : Nat → Nat) (f g : Nat → Nat) (a0 : Nat → Nat) : (kw_X7 (l, D, a0, ca, sk, sv) f ++ kw_X8 (l, D, a0, ca, sk, sv) g)[79]? = (wld (l, D, adF f g, ca, sk, sv) sig0)[79]? := by
  rw [wld_at sh_79]
  rfl
theorem kwk_80 (l : Launch) (D : va_G) (ca : Nat → ClassId) (sk sv : Nat → Nat) (f g : Nat → Nat) (a0 : Nat → Nat) : (kw_X7 (l, D, a0, ca, sk, sv) f ++ kw_X8 (l, D, a0, ca, sk, sv) g)[80]? = (wld (l, D, adF f g, ca, sk, sv) sig0)[80]? := by
  rw [wld_at sh_80]
  rfl
theorem kwk_81 (l : Launch) (D : va_G) (ca : Nat → ClassId) (sk sv : Nat → Nat) (f g : Nat → Nat) (a0 : Nat → Nat) : (kw_X7 (l, D, a0, ca, sk, sv) f ++ kw_X8 (l, D, a0, ca, sk, sv) g)[81]? = (wld (l, D, adF f g, ca, sk, sv) sig0)[81]? := by
  rw [wld_at sh_81]
  rfl
theorem kw_wld (l : Launch) (D : va_G) (ca : Nat → ClassId) (sk sv : Nat → Nat) (f g : Nat → Nat) (a0 : Nat → Nat) : (kw_X7 (l, D, a0, ca, sk, sv) f ++ kw_X8 (l, D, a0, ca, sk, sv) g) = (wld (l, D, adF f g, ca, sk, sv) sig0) := by
  apply List.ext_getElem?
  intro i
  match i with
  | 0 => exact kwk_0 l D ca sk sv f g a0
  | 1 => exact kwk_1 l D ca sk sv f g a0
  | 2 => exact kwk_2 l D ca sk sv f g a0
  | 3 => exact kwk_3 l D ca sk sv f g a0
  | 4 => exact kwk_4 l D ca sk sv f g a0
  | 5 => exact kwk_5 l D ca sk sv f g a0
  | 6 => exact kwk_6 l D ca sk sv f g a0
  | 7 => exact kwk_7 l D ca sk sv f g a0
  | 8 => exact kwk_8 l D ca sk sv f g a0
  | 9 => exact kwk_9 l D ca sk sv f g a0
  | 10 => exact kwk_10 l D ca sk sv f g a0
  | 11 => exact kwk_11 l D ca sk sv f g a0
  | 12 => exact kwk_12 l D ca sk sv f g a0
  | 13 => exact kwk_13 l D ca sk sv f g a0
  | 14 => exact kwk_14 l D ca sk sv f g a0
  | 15 => exact kwk_15 l D ca sk sv f g a0
  | 16 => exact kwk_16 l D ca sk sv f g a0
  | 17 => exact kwk_17 l D ca sk sv f g a0
  | 18 => exact kwk_18 l D ca sk sv f g a0
  | 19 => exact kwk_19 l D ca sk sv f g a0
  | 20 => exact kwk_20 l D ca sk sv f g a0
  | 21 => exact kwk_21 l D ca sk sv f g a0
  | 22 => exact kwk_22 l D ca sk sv f g a0
  | 23 => exact kwk_23 l D ca sk sv f g a0
  | 24 => exact kwk_24 l D ca sk sv f g a0
  | 25 => exact kwk_25 l D ca sk sv f g a0
  | 26 => exact kwk_26 l D ca sk sv f g a0
  | 27 => exact kwk_27 l D ca sk sv f g a0
  | 28 => exact kwk_28 l D ca sk sv f g a0
  | 29 => exact kwk_29 l D ca sk sv f g a0
  | 30 => exact kwk_30 l D ca sk sv f g a0
  | 31 => exact kwk_31 l D ca sk sv f g a0
  | 32 => exact kwk_32 l D ca sk sv f g a0
  | 33 => exact kwk_33 l D ca sk sv f g a0
  | 34 => exact kwk_34 l D ca sk sv f g a0
  | 35 => exact kwk_35 l D ca sk sv f g a0
  | 36 => exact kwk_36 l D ca sk sv f g a0
  | 37 => exact kwk_37 l D ca sk sv f g a0
  | 38 => exact kwk_38 l D ca sk sv f g a0
  | 39 => exact kwk_39 l D ca sk sv f g a0
  | 40 => exact kwk_40 l D ca sk sv f g a0
  | 41 => exact kwk_41 l D ca sk sv f g a0
  | 42 => exact kwk_42 l D ca sk sv f g a0
  | 43 => exact kwk_43 l D ca sk sv f g a0
  | 44 => exact kwk_44 l D ca sk sv f g a0
  | 45 => exact kwk_45 l D ca sk sv f g a0
  | 46 => exact kwk_46 l D ca sk sv f g a0
  | 47 => exact kwk_47 l D ca sk sv f g a0
  | 48 => exact kwk_48 l D ca sk sv f g a0
  | 49 => exact kwk_49 l D ca sk sv f g a0
  | 50 => exact kwk_50 l D ca sk sv f g a0
  | 51 => exact kwk_51 l D ca sk sv f g a0
  | 52 => exact kwk_52 l D ca sk sv f g a0
  | 53 => exact kwk_53 l D ca sk sv f g a0
  | 54 => exact kwk_54 l D ca sk sv f g a0
  | 55 => exact kwk_55 l D ca sk sv f g a0
  | 56 => exact kwk_56 l D ca sk sv f g a0
  | 57 => exact kwk_57 l D ca sk sv f g a0
  | 58 => exact kwk_58 l D ca sk sv f g a0
  | 59 => exact kwk_59 l D ca sk sv f g a0
  | 60 => exact kwk_60 l D ca sk sv f g a0
  | 61 => exact kwk_61 l D ca sk sv f g a0
  | 62 => exact kwk_62 l D ca sk sv f g a0
  | 63 => exact kwk_63 l D ca sk sv f g a0
  | 64 => exact kwk_64 l D ca sk sv f g a0
  | 65 => exact kwk_65 l D ca sk sv f g a0
  | 66 => exact kwk_66 l D ca sk sv f g a0
  | 67 => exact kwk_67 l D ca sk sv f g a0
  | 68 => exact kwk_68 l D ca sk sv f g a0
  | 69 => exact kwk_69 l D ca sk sv f g a0
  | 70 => exact kwk_70 l D ca sk sv f g a0
  | 71 => exact kwk_71 l D ca sk sv f g a0
  | 72 => exact kwk_72 l D ca sk sv f g a0
  | 73 => exact kwk_73 l D ca sk sv f g a0
  | 74 => exact kwk_74 l D ca sk sv f g a0
  | 75 => exact kwk_75 l D ca sk sv f g a0
  | 76 => exact kwk_76 l D ca sk sv f g a0
  | 77 => exact kwk_77 l D ca sk sv f g a0
  | 78 => exact kwk_78 l D ca sk sv f g a0
  | 79 => exact kwk_79 l D ca sk sv f g a0
  | 80 => exact kwk_80 l D ca sk sv f g a0
  | 81 => exact kwk_81 l D ca sk sv f g a0
  | n + 82 =>
    rw [List.getElem?_eq_none (by show 82 ≤ n + 82; omega), List.getElem?_eq_none (by rw [show (wld (l, D, adF f g, ca, sk, sv) sig0).length = 82 from by simp [wld, shp]]; omega)]

theorem law_c7 : Cond.classLink RL 7 RX7 ∈ TBL := tm 138 (by decide +kernel) (by decide +kernel)
theorem law_c8 : Cond.classLink RL 10 RX8 ∈ TBL := tm 1227 (by decide +kernel) (by decide +kernel)
theorem law_i7 : Cond.initialized RX7 ∈ TBL := tm 122 (by decide +kernel) (by decide +kernel)
theorem law_i8 : Cond.initialized RX8 ∈ TBL := tm 130 (by decide +kernel) (by decide +kernel)
theorem law_m7 : Cond.methodLink RL 9 yX7_init ∈ TBL := tm 140 (by decide +kernel) (by decide +kernel)
theorem law_n7 : Cond.instanceMethod yX7_init ∈ TBL := tm 141 (by decide +kernel) (by decide +kernel)
theorem law_o7 : Cond.code yX7_init cX7_init 2 none ∈ TBL := tm 142 (by decide +kernel) (by decide +kernel)
theorem law_k7 : CallI RL 9 yX7_init cX7_init 2 := ⟨law_m7, law_n7, law_i7, law_o7, rfl, by decide +kernel⟩
theorem law_m8 : Cond.methodLink RL 12 yX8_init ∈ TBL := tm 1229 (by decide +kernel) (by decide +kernel)
theorem law_n8 : Cond.instanceMethod yX8_init ∈ TBL := tm 1230 (by decide +kernel) (by decide +kernel)
theorem law_o8 : Cond.code yX8_init cX8_init 1 none ∈ TBL := tm 1231 (by decide +kernel) (by decide +kernel)
theorem law_k8 : CallI RL 12 yX8_init cX8_init 1 := ⟨law_m8, law_n8, law_i8, law_o8, rfl, by decide +kernel⟩
set_option maxRecDepth 100000 in
set_option maxHeartbeats 4000000 in
theorem whole_startX {p : Program} {e : Env} {s : State} {m : MethodId} {below : List Frame} {meth : Method} {c : Code} (l : Launch) (hflags : l.flags = flags0) {b L : Nat} {xs : Nat → Int32} (hL : L ≤ 3072) (hpure : ∃ n, fL_l18 L xs n sig0 0 = some 1) (C0 : lw_At p s m meth c b L xs) : W p l e room_1 s m #[Value.ref b] below meth c s.heap [] 0 0 (lw_Z below #[Value.ref b] s) (entryFrame m ([Value.ref b] : List Value).toArray 4) := by
  obtain ⟨n, hn⟩ := hpure
  obtain ⟨hx, hb, hr, hml, hown, hts, hX, hbl, hlocks, hgv⟩ := C0
  have htb : ∀ w ∈ TBL, w.before #[Value.ref b] s = true := fun w hw => hts w (tbl_lw w hw)
  have hN : ∀ w ∈ NL, w.before #[Value.ref b] s = true := flat_of_before _ hgv
  have hA : ∀ a : Nat, a < s.heap.size → ¬ s.heap.size ≤ a := fun a h => by omega
  obtain ⟨D, hKc⟩ := cls_ex htb
  obtain ⟨ca, hca⟩ := ca_ex htb (hts _ ao6) (hts _ ao4)
  obtain ⟨sk, sv, hST, hev⟩ := str_ex (A := fun q => s.heap.size ≤ q) hN hA
  have hK : va_K D clz (tyz ca) s := ⟨hKc, hca⟩
  have hSR : ∀ q ∈ sldc, vk_R q.1 q.2.1 q.2.2.1 (sk q.2.2.2) s := fun q hq => by
    obtain ⟨h18, h⟩ := sp_ld q hq
    refine vk_R.of (hts _ (sp_sr q hq)) ?_
    rcases h with h | h
    · rw [h]; exact hev _ h18
    · exact va_eqR (hN _ h) (hev _ h18)
  have cx : CC (l, D, fun _ => 0, ca, sk, sv) (p, e, room_1, s, m, #[.ref b], below, meth, c, lw_Z below #[Value.ref b] s, fun q => s.heap.size ≤ q, 0, 0) RL code 4 1000 600000 7302250 := ⟨hx, hb, hml, hown, htb, ⟨hK, va_AO.of (hts _ ao6), va_AO.of (hts _ ao4)⟩, fun q h => h, ⟨by decide, by decide⟩, ⟨by decide, by decide⟩⟩
  have key : WC (l, D, fun _ => 0, ca, sk, sv) (p, e, room_1, s, m, #[.ref b], below, meth, c, lw_Z below #[Value.ref b] s, fun q => s.heap.size ≤ q, 0, 0) 4 [] 0 0 [(0, .ref b)] 0 [] := by
    refine wc_new (ci := 7) (C := RX7) (T := TX7) (N := 12) (fs := dl7) rfl wi7 tyX7 tyX7_ok law_c7 ist7 law_i7 df7 cx (Nat.le_of_ble_eq_true rfl) (Nat.le_of_ble_eq_true rfl) dL_law_0 (fun q1 => ?_)
    refine wc_dup cx dL_law_3 rfl ?_
    refine wc_call (k2 := 2) law_k7 cx ⟨(Nat.le_of_ble_eq_true rfl), (Nat.le_of_ble_eq_true rfl)⟩ (Nat.le_of_ble_eq_true rfl) dL_law_4 (Nat.le_of_ble_eq_true rfl) (Nat.le_of_ble_eq_true rfl) (kc_X7 _) (fun adx h1 => ?_)
    subst h1
    refine wc_astore_n (lv' := [(1, .ref (adx 0)), (0, .ref b)]) cx dL_law_7 rfl (by decide) rfl ?_
    refine wc_new (ci := 8) (C := RX8) (T := TX8) (N := 34) (fs := dl8) rfl wi8 tyX8 tyX8_ok law_c8 ist8 law_i8 df8 cx (Nat.le_of_ble_eq_true rfl) (Nat.le_of_ble_eq_true rfl) dL_law_8 (fun q2 => ?_)
    refine wc_dup cx dL_law_11 rfl ?_
    refine wc_call (k2 := 1) law_k8 cx ⟨(Nat.le_of_ble_eq_true rfl), (Nat.le_of_ble_eq_true rfl)⟩ (Nat.le_of_ble_eq_true rfl) dL_law_12 (Nat.le_of_ble_eq_true rfl) (Nat.le_of_ble_eq_true rfl) (kc_X8 _) (fun adm h2 => ?_)
    subst h2
    refine wc_astore_n (lv' := [(2, .ref (adm 0)), (1, .ref (adx 0)), (0, .ref b)]) cx dL_law_15 rfl (by decide) rfl ?_
    refine wc_iconst cx dL_law_16 jc_0 ?_
    refine wc_istore_n (lv' := [(3, .int 0), (2, .ref (adm 0)), (1, .ref (adx 0)), (0, .ref b)]) cx dL_law_17 rfl (by decide) rfl ?_
    intro H locs ls hl hP hD hS
    have hw : va_P D clz (wld (l, D, adF adx adm, ca, sk, sv) sig0) H := (kw_wld l D ca sk sv adx adm (fun _ => 0)) ▸ hP
    have hd : va_D (fun q => s.heap.size ≤ q) (wld (l, D, adF adx adm, ca, sk, sv) sig0) := (kw_wld l D ca sk sv adx adm (fun _ => 0)) ▸ hD
    have cx1 : Cx (l, D, adF adx adm, ca, sk, sv) (p, e, room_1, s, m, #[.ref b], below, meth, c, lw_Z below #[Value.ref b] s, fun q => s.heap.size ≤ q, 82, 17035) RL code 4 1000 := ⟨hx, hb, hml, hown, htb, ⟨hK, fun σ => wld_D hd, va_Nw.of rfl (hts _ nst), hST, hSR, va_Zof (hts _ lsC) (hts _ inS) (va_eqt (hN _ sp_cs)) hA, va_Zqof (hts _ lsQ) (hts _ inQ) (hN _ sp_sf) hA⟩, fun q h => h, ⟨by decide, by decide⟩, ⟨by decide, by decide⟩⟩
    have sx : SX (p, e, room_1, s, m, #[.ref b], below, meth, c, lw_Z below #[Value.ref b] s, fun q => s.heap.size ≤ q, 82, 17035) b L xs := ⟨hX, hbl, fun h => absurd h (by omega)⟩
    exact kL_l18 cx1 sx (fun σ lv pc hdg H locs ls hl hP hS => va_forget hS.2.2 (W.widen (k := 600000) (n := 7302250) (by decide) (by decide) (lw_ret hx hb hr hlocks hdg))) n sig0 0 hn H locs ls (lv_sub hl [3, 2, 1, 0] rfl) hw hS
  have hl := lv_entry ([.ref b]) (n := 4) (Nat.le_of_ble_eq_true rfl)
  rw [lg_entry_eq]
  exact key s.heap [] _ hl (fun k q h => (by simp at h)) ⟨fun i j p q h => (by simp at h), fun k q h => (by simp at h)⟩ va_S.rf
