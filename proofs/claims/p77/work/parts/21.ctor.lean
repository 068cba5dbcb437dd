theorem gml_X2_3 : Cond.methodLink RX2 3 objectInit ∈ TBL := tm 151 (by decide +kernel) (by decide +kernel)
theorem gl_X2_9 : Cond.fieldLink RX2 9 (TX2 0).1 (TX2 0).2.1 (TX2 0).2.2.1 ∈ TBL := tm 152 (by decide +kernel) (by decide +kernel)
theorem gl_X2_15 : Cond.fieldLink RX2 15 (TX2 3).1 (TX2 3).2.1 (TX2 3).2.2.1 ∈ TBL := tm 157 (by decide +kernel) (by decide +kernel)
theorem gml_X6_3 : Cond.methodLink RX6 3 objectInit ∈ TBL := tm 186 (by decide +kernel) (by decide +kernel)
theorem gl_X6_9 : Cond.fieldLink RX6 9 (TX6 8).1 (TX6 8).2.1 (TX6 8).2.2.1 ∈ TBL := tm 218 (by decide +kernel) (by decide +kernel)
theorem gl_X6_15 : Cond.fieldLink RX6 15 (TX6 9).1 (TX6 9).2.1 (TX6 9).2.2.1 ∈ TBL := tm 221 (by decide +kernel) (by decide +kernel)
theorem gl_X6_18 : Cond.fieldLink RX6 18 (TX6 10).1 (TX6 10).2.1 (TX6 10).2.2.1 ∈ TBL := tm 226 (by decide +kernel) (by decide +kernel)
theorem gl_X6_21 : Cond.fieldLink RX6 21 (TX6 11).1 (TX6 11).2.1 (TX6 11).2.2.1 ∈ TBL := tm 230 (by decide +kernel) (by decide +kernel)
theorem gl_X6_24 : Cond.fieldLink RX6 24 (TX6 12).1 (TX6 12).2.1 (TX6 12).2.2.1 ∈ TBL := tm 234 (by decide +kernel) (by decide +kernel)
theorem gl_X6_27 : Cond.fieldLink RX6 27 (TX6 13).1 (TX6 13).2.1 (TX6 13).2.2.1 ∈ TBL := tm 238 (by decide +kernel) (by decide +kernel)
theorem gml_X4_3 : Cond.methodLink RX4 3 objectInit ∈ TBL := tm 280 (by decide +kernel) (by decide +kernel)
theorem gl_X4_9 : Cond.fieldLink RX4 9 (TX4 3).1 (TX4 3).2.1 (TX4 3).2.2.1 ∈ TBL := tm 289 (by decide +kernel) (by decide +kernel)
theorem gml_X5_3 : Cond.methodLink RX5 3 objectInit ∈ TBL := tm 309 (by decide +kernel) (by decide +kernel)
theorem gl_X5_9 : Cond.fieldLink RX5 9 (TX5 0).1 (TX5 0).2.1 (TX5 0).2.2.1 ∈ TBL := tm 310 (by decide +kernel) (by decide +kernel)
theorem gml_X3_3 : Cond.methodLink RX3 3 objectInit ∈ TBL := tm 320 (by decide +kernel) (by decide +kernel)
theorem gl_X3_9 : Cond.fieldLink RX3 9 (TX3 3).1 (TX3 3).2.1 (TX3 3).2.2.1 ∈ TBL := tm 327 (by decide +kernel) (by decide +kernel)
theorem gml_X1_3 : Cond.methodLink RX1 3 objectInit ∈ TBL := tm 343 (by decide +kernel) (by decide +kernel)
theorem gl_X1_9 : Cond.fieldLink RX1 9 (TX1 3).1 (TX1 3).2.1 (TX1 3).2.2.1 ∈ TBL := tm 350 (by decide +kernel) (by decide +kernel)
theorem gl_X1_15 : Cond.fieldLink RX1 15 (TX1 4).1 (TX1 4).2.1 (TX1 4).2.2.1 ∈ TBL := tm 352 (by decide +kernel) (by decide +kernel)
theorem gl_X1_18 : Cond.fieldLink RX1 18 (TX1 5).1 (TX1 5).2.1 (TX1 5).2.2.1 ∈ TBL := tm 354 (by decide +kernel) (by decide +kernel)
theorem gl_X1_21 : Cond.fieldLink RX1 21 (TX1 6).1 (TX1 6).2.1 (TX1 6).2.2.1 ∈ TBL := tm 356 (by decide +kernel) (by decide +kernel)
theorem gml_X0_3 : Cond.methodLink RX0 3 objectInit ∈ TBL := tm 378 (by decide +kernel) (by decide +kernel)
theorem gl_X0_9 : Cond.fieldLink RX0 9 (TX0 0).1 (TX0 0).2.1 (TX0 0).2.2.1 ∈ TBL := tm 379 (by decide +kernel) (by decide +kernel)
theorem gml_X7_1 : Cond.methodLink RX7 1 objectInit ∈ TBL := tm 143 (by decide +kernel) (by decide +kernel)
theorem gcl_X7_7 : Cond.classLink RX7 7 RX2 ∈ TBL := tm 146 (by decide +kernel) (by decide +kernel)
theorem gin_X2 : Cond.instantiable RX2 8 ∈ TBL := tm 147 (by decide +kernel) (by decide +kernel)
theorem gii_X2 : Cond.initialized RX2 ∈ TBL := tm 123 (by decide +kernel) (by decide +kernel)
theorem gml_X7_9 : Cond.methodLink RX7 9 yX2_init ∈ TBL := tm 148 (by decide +kernel) (by decide +kernel)
theorem gim_X2_init : Cond.instanceMethod yX2_init ∈ TBL := tm 149 (by decide +kernel) (by decide +kernel)
theorem gco_X2_init : Cond.code yX2_init cX2_init 1 none ∈ TBL := tm 150 (by decide +kernel) (by decide +kernel)
theorem gci_X7_9 : CallI RX7 9 yX2_init cX2_init 1 := ⟨gml_X7_9, gim_X2_init, gii_X2, gco_X2_init, rfl, by decide +kernel⟩
theorem gl_X7_10 : Cond.fieldLink RX7 10 (TX7 0).1 (TX7 0).2.1 (TX7 0).2.2.1 ∈ TBL := tm 383 (by decide +kernel) (by decide +kernel)
theorem gcl_X7_16 : Cond.classLink RX7 16 RX6 ∈ TBL := tm 181 (by decide +kernel) (by decide +kernel)
theorem gin_X6 : Cond.instantiable RX6 14 ∈ TBL := tm 182 (by decide +kernel) (by decide +kernel)
theorem gii_X6 : Cond.initialized RX6 ∈ TBL := tm 124 (by decide +kernel) (by decide +kernel)
theorem gml_X7_18 : Cond.methodLink RX7 18 yX6_init ∈ TBL := tm 183 (by decide +kernel) (by decide +kernel)
theorem gim_X6_init : Cond.instanceMethod yX6_init ∈ TBL := tm 184 (by decide +kernel) (by decide +kernel)
theorem gco_X6_init : Cond.code yX6_init cX6_init 1 none ∈ TBL := tm 185 (by decide +kernel) (by decide +kernel)
theorem gci_X7_18 : CallI RX7 18 yX6_init cX6_init 1 := ⟨gml_X7_18, gim_X6_init, gii_X6, gco_X6_init, rfl, by decide +kernel⟩
theorem gl_X7_19 : Cond.fieldLink RX7 19 (TX7 1).1 (TX7 1).2.1 (TX7 1).2.2.1 ∈ TBL := tm 384 (by decide +kernel) (by decide +kernel)
theorem gl_X7_23 : Cond.fieldLink RX7 23 (TX7 2).1 (TX7 2).2.1 (TX7 2).2.2.1 ∈ TBL := tm 385 (by decide +kernel) (by decide +kernel)
theorem gl_X7_26 : Cond.fieldLink RX7 26 (TX7 3).1 (TX7 3).2.1 (TX7 3).2.2.1 ∈ TBL := tm 386 (by decide +kernel) (by decide +kernel)
theorem gl_X7_30 : Cond.fieldLink RX7 30 (TX7 4).1 (TX7 4).2.1 (TX7 4).2.2.1 ∈ TBL := tm 387 (by decide +kernel) (by decide +kernel)
theorem gcl_X7_34 : Cond.classLink RX7 34 RX4 ∈ TBL := tm 274 (by decide +kernel) (by decide +kernel)
theorem gl_X7_36 : Cond.fieldLink RX7 36 (TX7 5).1 (TX7 5).2.1 (TX7 5).2.2.1 ∈ TBL := tm 388 (by decide +kernel) (by decide +kernel)
theorem gin_X4 : Cond.instantiable RX4 4 ∈ TBL := tm 276 (by decide +kernel) (by decide +kernel)
theorem gii_X4 : Cond.initialized RX4 ∈ TBL := tm 125 (by decide +kernel) (by decide +kernel)
theorem gml_X7_40 : Cond.methodLink RX7 40 yX4_init ∈ TBL := tm 277 (by decide +kernel) (by decide +kernel)
theorem gim_X4_init : Cond.instanceMethod yX4_init ∈ TBL := tm 278 (by decide +kernel) (by decide +kernel)
theorem gco_X4_init : Cond.code yX4_init cX4_init 1 none ∈ TBL := tm 279 (by decide +kernel) (by decide +kernel)
theorem gci_X7_40 : CallI RX7 40 yX4_init cX4_init 1 := ⟨gml_X7_40, gim_X4_init, gii_X4, gco_X4_init, rfl, by decide +kernel⟩
theorem gcl_X7_41 : Cond.classLink RX7 41 RX5 ∈ TBL := tm 304 (by decide +kernel) (by decide +kernel)
theorem gin_X5 : Cond.instantiable RX5 1 ∈ TBL := tm 305 (by decide +kernel) (by decide +kernel)
theorem gii_X5 : Cond.initialized RX5 ∈ TBL := tm 126 (by decide +kernel) (by decide +kernel)
theorem gml_X7_43 : Cond.methodLink RX7 43 yX5_init ∈ TBL := tm 306 (by decide +kernel) (by decide +kernel)
theorem gim_X5_init : Cond.instanceMethod yX5_init ∈ TBL := tm 307 (by decide +kernel) (by decide +kernel)
theorem gco_X5_init : Cond.code yX5_init cX5_init 1 none ∈ TBL := tm 308 (by decide +kernel) (by decide +kernel)
theorem gci_X7_43 : CallI RX7 43 yX5_init cX5_init 1 := ⟨gml_X7_43, gim_X5_init, gii_X5, gco_X5_init, rfl, by decide +kernel⟩
theorem gl_X7_44 : Cond.fieldLink RX7 44 (TX7 6).1 (TX7 6).2.1 (TX7 6).2.2.1 ∈ TBL := tm 389 (by decide +kernel) (by decide +kernel)
theorem gl_X7_48 : Cond.fieldLink RX7 48 (TX7 7).1 (TX7 7).2.1 (TX7 7).2.2.1 ∈ TBL := tm 390 (by decide +kernel) (by decide +kernel)
theorem gl_X7_52 : Cond.fieldLink RX7 52 (TX7 8).1 (TX7 8).2.1 (TX7 8).2.2.1 ∈ TBL := tm 391 (by decide +kernel) (by decide +kernel)
theorem gcl_X7_55 : Cond.classLink RX7 55 RX3 ∈ TBL := tm 315 (by decide +kernel) (by decide +kernel)
theorem gin_X3 : Cond.instantiable RX3 4 ∈ TBL := tm 316 (by decide +kernel) (by decide +kernel)
theorem gii_X3 : Cond.initialized RX3 ∈ TBL := tm 127 (by decide +kernel) (by decide +kernel)
theorem gml_X7_57 : Cond.methodLink RX7 57 yX3_init ∈ TBL := tm 317 (by decide +kernel) (by decide +kernel)
theorem gim_X3_init : Cond.instanceMethod yX3_init ∈ TBL := tm 318 (by decide +kernel) (by decide +kernel)
theorem gco_X3_init : Cond.code yX3_init cX3_init 1 none ∈ TBL := tm 319 (by decide +kernel) (by decide +kernel)
theorem gci_X7_57 : CallI RX7 57 yX3_init cX3_init 1 := ⟨gml_X7_57, gim_X3_init, gii_X3, gco_X3_init, rfl, by decide +kernel⟩
theorem gl_X7_58 : Cond.fieldLink RX7 58 (TX7 9).1 (TX7 9).2.1 (TX7 9).2.2.1 ∈ TBL := tm 392 (by decide +kernel) (by decide +kernel)
theorem gcl_X7_62 : Cond.classLink RX7 62 RX1 ∈ TBL := tm 338 (by decide +kernel) (by decide +kernel)
theorem gin_X1 : Cond.instantiable RX1 7 ∈ TBL := tm 339 (by decide +kernel) (by decide +kernel)
theorem gii_X1 : Cond.initialized RX1 ∈ TBL := tm 128 (by decide +kernel) (by decide +kernel)
theorem gml_X7_64 : Cond.methodLink RX7 64 yX1_init ∈ TBL := tm 340 (by decide +kernel) (by decide +kernel)
theorem gim_X1_init : Cond.instanceMethod yX1_init ∈ TBL := tm 341 (by decide +kernel) (by decide +kernel)
theorem gco_X1_init : Cond.code yX1_init cX1_init 1 none ∈ TBL := tm 342 (by decide +kernel) (by decide +kernel)
theorem gci_X7_64 : CallI RX7 64 yX1_init cX1_init 1 := ⟨gml_X7_64, gim_X1_init, gii_X1, gco_X1_init, rfl, by decide +kernel⟩
theorem gl_X7_65 : Cond.fieldLink RX7 65 (TX7 10).1 (TX7 10).2.1 (TX7 10).2.2.1 ∈ TBL := tm 393 (by decide +kernel) (by decide +kernel)
theorem gcl_X7_69 : Cond.classLink RX7 69 RX0 ∈ TBL := tm 373 (by decide +kernel) (by decide +kernel)
theorem gin_X0 : Cond.instantiable RX0 1 ∈ TBL := tm 374 (by decide +kernel) (by decide +kernel)
theorem gii_X0 : Cond.initialized RX0 ∈ TBL := tm 129 (by decide +kernel) (by decide +kernel)
theorem gml_X7_71 : Cond.methodLink RX7 71 yX0_init ∈ TBL := tm 375 (by decide +kernel) (by decide +kernel)
theorem gim_X0_init : Cond.instanceMethod yX0_init ∈ TBL := tm 376 (by decide +kernel) (by decide +kernel)
theorem gco_X0_init : Cond.code yX0_init cX0_init 1 none ∈ TBL := tm 377 (by decide +kernel) (by decide +kernel)
theorem gci_X7_71 : CallI RX7 71 yX0_init cX0_init 1 := ⟨gml_X7_71, gim_X0_init, gii_X0, gco_X0_init, rfl, by decide +kernel⟩
theorem gl_X7_72 : Cond.fieldLink RX7 72 (TX7 11).1 (TX7 11).2.1 (TX7 11).2.2.1 ∈ TBL := tm 394 (by decide +kernel) (by decide +kernel)
theorem gml_X8_3 : Cond.methodLink RX8 3 objectInit ∈ TBL := tm 1232 (by decide +kernel) (by decide +kernel)
theorem gl_X8_9 : Cond.fieldLink RX8 9 (TX8 1).1 (TX8 1).2.1 (TX8 1).2.2.1 ∈ TBL := tm 1233 (by decide +kernel) (by decide +kernel)
theorem gl_X8_13 : Cond.fieldLink RX8 13 (TX8 2).1 (TX8 2).2.1 (TX8 2).2.2.1 ∈ TBL := tm 1234 (by decide +kernel) (by decide +kernel)
theorem gl_X8_16 : Cond.fieldLink RX8 16 (TX8 3).1 (TX8 3).2.1 (TX8 3).2.2.1 ∈ TBL := tm 1235 (by decide +kernel) (by decide +kernel)
theorem gl_X8_20 : Cond.fieldLink RX8 20 (TX8 4).1 (TX8 4).2.1 (TX8 4).2.2.1 ∈ TBL := tm 1236 (by decide +kernel) (by decide +kernel)
theorem gl_X8_24 : Cond.fieldLink RX8 24 (TX8 6).1 (TX8 6).2.1 (TX8 6).2.2.1 ∈ TBL := tm 1238 (by decide +kernel) (by decide +kernel)
theorem gl_X8_27 : Cond.fieldLink RX8 27 (TX8 13).1 (TX8 13).2.1 (TX8 13).2.2.1 ∈ TBL := tm 1245 (by decide +kernel) (by decide +kernel)
theorem gl_X8_31 : Cond.fieldLink RX8 31 (TX8 14).1 (TX8 14).2.1 (TX8 14).2.2.1 ∈ TBL := tm 1246 (by decide +kernel) (by decide +kernel)
theorem gl_X8_34 : Cond.fieldLink RX8 34 (TX8 15).1 (TX8 15).2.1 (TX8 15).2.2.1 ∈ TBL := tm 1247 (by decide +kernel) (by decide +kernel)
theorem gl_X8_37 : Cond.fieldLink RX8 37 (TX8 16).1 (TX8 16).2.1 (TX8 16).2.2.1 ∈ TBL := tm 1248 (by decide +kernel) (by decide +kernel)
theorem gl_X8_40 : Cond.fieldLink RX8 40 (TX8 17).1 (TX8 17).2.1 (TX8 17).2.2.1 ∈ TBL := tm 1249 (by decide +kernel) (by decide +kernel)
theorem gl_X8_43 : Cond.fieldLink RX8 43 (TX8 22).1 (TX8 22).2.1 (TX8 22).2.2.1 ∈ TBL := tm 1254 (by decide +kernel) (by decide +kernel)
theorem gl_X8_46 : Cond.fieldLink RX8 46 (TX8 23).1 (TX8 23).2.1 (TX8 23).2.2.1 ∈ TBL := tm 1255 (by decide +kernel) (by decide +kernel)
theorem gl_X8_49 : Cond.fieldLink RX8 49 (TX8 24).1 (TX8 24).2.1 (TX8 24).2.2.1 ∈ TBL := tm 1256 (by decide +kernel) (by decide +kernel)
theorem gl_X8_52 : Cond.fieldLink RX8 52 (TX8 25).1 (TX8 25).2.1 (TX8 25).2.2.1 ∈ TBL := tm 1257 (by decide +kernel) (by decide +kernel)
theorem gl_X8_55 : Cond.fieldLink RX8 55 (TX8 26).1 (TX8 26).2.1 (TX8 26).2.2.1 ∈ TBL := tm 1258 (by decide +kernel) (by decide +kernel)
theorem gl_X8_58 : Cond.fieldLink RX8 58 (TX8 29).1 (TX8 29).2.1 (TX8 29).2.2.1 ∈ TBL := tm 1261 (by decide +kernel) (by decide +kernel)
theorem gl_X8_61 : Cond.fieldLink RX8 61 (TX8 30).1 (TX8 30).2.1 (TX8 30).2.2.1 ∈ TBL := tm 1262 (by decide +kernel) (by decide +kernel)
theorem gl_X8_64 : Cond.fieldLink RX8 64 (TX8 31).1 (TX8 31).2.1 (TX8 31).2.2.1 ∈ TBL := tm 1263 (by decide +kernel) (by decide +kernel)
theorem gl_X8_67 : Cond.fieldLink RX8 67 (TX8 32).1 (TX8 32).2.1 (TX8 32).2.2.1 ∈ TBL := tm 1264 (by decide +kernel) (by decide +kernel)
theorem gl_X8_71 : Cond.fieldLink RX8 71 (TX8 33).1 (TX8 33).2.1 (TX8 33).2.2.1 ∈ TBL := tm 1265 (by decide +kernel) (by decide +kernel)
def dl0 : List Value := [.null]
theorem df0 : ∀ j, j < 1 → defaultValue (tyX0 j) = vp_V dl0 j := fun j hj => by
  rcases (show j = 0 by omega) with rfl <;> rfl
def dl1 : List Value := [.int 0, .int 0, .int 0, .null, .null, .null, .null]
theorem df1 : ∀ j, j < 7 → defaultValue (tyX1 j) = vp_V dl1 j := fun j hj => by
  rcases (show j = 0 ∨ j = 1 ∨ j = 2 ∨ j = 3 ∨ j = 4 ∨ j = 5 ∨ j = 6 by omega) with rfl | rfl | rfl | rfl | rfl | rfl | rfl <;> rfl
def dl2 : List Value := [.null, .int 0, .int 0, .int 0, .int 0, .int 0, .int 0, .int 0]
theorem df2 : ∀ j, j < 8 → defaultValue (tyX2 j) = vp_V dl2 j := fun j hj => by
  rcases (show j = 0 ∨ j = 1 ∨ j = 2 ∨ j = 3 ∨ j = 4 ∨ j = 5 ∨ j = 6 ∨ j = 7 by omega) with rfl | rfl | rfl | rfl | rfl | rfl | rfl | rfl <;> rfl
def dl3 : List Value := [.int 0, .int 0, .int 0, .null]
theorem df3 : ∀ j, j < 4 → defaultValue (tyX3 j) = vp_V dl3 j := fun j hj => by
  rcases (show j = 0 ∨ j = 1 ∨ j = 2 ∨ j = 3 by omega) with rfl | rfl | rfl | rfl <;> rfl
def dl4 : List Value := [.int 0, .int 0, .int 0, .null]
theorem df4 : ∀ j, j < 4 → defaultValue (tyX4 j) = vp_V dl4 j := fun j hj => by
  rcases (show j = 0 ∨ j = 1 ∨ j = 2 ∨ j = 3 by omega) with rfl | rfl | rfl | rfl <;> rfl
def dl5 : List Value := [.null]
theorem df5 : ∀ j, j < 1 → defaultValue (tyX5 j) = vp_V dl5 j := fun j hj => by
  rcases (show j = 0 by omega) with rfl <;> rfl
def dl6 : List Value := [.int 0, .int 0, .int 0, .int 0, .int 0, .int 0, .int 0, .int 0, .null, .null, .null, .null, .null, .null]
theorem df6 : ∀ j, j < 14 → defaultValue (tyX6 j) = vp_V dl6 j := fun j hj => by
  rcases (show j = 0 ∨ j = 1 ∨ j = 2 ∨ j = 3 ∨ j = 4 ∨ j = 5 ∨ j = 6 ∨ j = 7 ∨ j = 8 ∨ j = 9 ∨ j = 10 ∨ j = 11 ∨ j = 12 ∨ j = 13 by omega) with rfl | rfl | rfl | rfl | rfl | rfl | rfl | rfl | rfl | rfl | rfl | rfl | rfl | rfl <;> rfl
def dl7 : List Value := [.null, .null, .null, .null, .null, .null, .null, .int 0, .null, .null, .null, .null]
theorem df7 : ∀ j, j < 12 → defaultValue (tyX7 j) = vp_V dl7 j := fun j hj => by
  rcases (show j = 0 ∨ j = 1 ∨ j = 2 ∨ j = 3 ∨ j = 4 ∨ j = 5 ∨ j = 6 ∨ j = 7 ∨ j = 8 ∨ j = 9 ∨ j = 10 ∨ j = 11 by omega) with rfl | rfl | rfl | rfl | rfl | rfl | rfl | rfl | rfl | rfl | rfl | rfl <;> rfl
def dl8 : List Value := [.int 0, .null, .null, .null, .null, .int 0, .null, .int 0, .int 0, .int 0, .int 0, .int 0, .int 0, .int 0, .null, .null, .null, .null, .int 0, .int 0, .int 0, .int 0, .null, .null, .null, .null, .null, .int 0, .int 0, .null, .null, .null, .null, .null]
theorem df8 : ∀ j, j < 34 → defaultValue (tyX8 j) = vp_V dl8 j := fun j hj => by
  rcases (show j = 0 ∨ j = 1 ∨ j = 2 ∨ j = 3 ∨ j = 4 ∨ j = 5 ∨ j = 6 ∨ j = 7 ∨ j = 8 ∨ j = 9 ∨ j = 10 ∨ j = 11 ∨ j = 12 ∨ j = 13 ∨ j = 14 ∨ j = 15 ∨ j = 16 ∨ j = 17 ∨ j = 18 ∨ j = 19 ∨ j = 20 ∨ j = 21 ∨ j = 22 ∨ j = 23 ∨ j = 24 ∨ j = 25 ∨ j = 26 ∨ j = 27 ∨ j = 28 ∨ j = 29 ∨ j = 30 ∨ j = 31 ∨ j = 32 ∨ j = 33 by omega) with rfl | rfl | rfl | rfl | rfl | rfl | rfl | rfl | rfl | rfl | rfl | rfl | rfl | rfl | rfl | rfl | rfl | rfl | rfl | rfl | rfl | rfl | rfl | rfl | rfl | rfl | rfl | rfl | rfl | rfl | rfl | rfl | rfl | rfl <;> rfl
theorem jc_m1 : Int32.ofInt (-1) = -1 := by decide
theorem jc_0 : Int32.ofInt (0) = 0 := by decide
theorem jc_1 : Int32.ofInt (1) = 1 := by decide
theorem jc_2 : Int32.ofInt (2) = 2 := by decide
theorem jc_3 : Int32.ofInt (3) = 3 := by decide
theorem jc_4 : Int32.ofInt (4) = 4 := by decide
theorem jc_5 : Int32.ofInt (5) = 5 := by decide
theorem jb_12 : (Int8.ofInt (12)).toInt32 = 12 := by decide
theorem jb_16 : (Int8.ofInt (16)).toInt32 = 16 := by decide
theorem jb_60 : (Int8.ofInt (60)).toInt32 = 60 := by decide
theorem jb_77 : (Int8.ofInt (77)).toInt32 = 77 := by decide
theorem jb_8 : (Int8.ofInt (8)).toInt32 = 8 := by decide
theorem jb_32 : (Int8.ofInt (32)).toInt32 = 32 := by decide
theorem js_1600 : (Int16.ofInt (1600)).toInt32 = 1600 := by decide
theorem js_4096 : (Int16.ofInt (4096)).toInt32 = 4096 := by decide
theorem js_231 : (Int16.ofInt (231)).toInt32 = 231 := by decide
theorem js_240 : (Int16.ofInt (240)).toInt32 = 240 := by decide
def mny0 : Nat → Int32 := upd (upd (upd (upd (fun _ => 0) 0 (-1)) 1 (-1)) 2 (-1)) 3 (-1)
def kw_X2 (G : GT) (ad : Nat → Nat) : va_W := [(ad 0, .inr (2, [.ref (ad 1), .int (0), .int (0), .int (-1), .int (0), .int (0), .int (0), .int (0)])), (ad 1, .inl (gca G 2, 1600, .inl (fun _ => 0)))]
def kw_X6 (G : GT) (ad : Nat → Nat) : va_W := [(ad 0, .inr (6, [.int (0), .int (0), .int (0), .int (0), .int (0), .int (0), .int (0), .int (0), .ref (ad 1), .ref (ad 2), .ref (ad 3), .ref (ad 4), .ref (ad 5), .ref (ad 6)])), (ad 1, .inl (gca G 0, 12, .inl (fun _ => 0))), (ad 2, .inl (gca G 0, 12, .inl (fun _ => 0))), (ad 3, .inl (gca G 0, 12, .inl (fun _ => 0))), (ad 4, .inl (gca G 0, 12, .inl (fun _ => 0))), (ad 5, .inl (gca G 0, 5, .inl (fun _ => 0))), (ad 6, .inl (gca G 0, 5, .inl (fun _ => 0)))]
def kw_X4 (G : GT) (ad : Nat → Nat) : va_W := [(ad 0, .inr (4, [.int (0), .int (0), .int (0), .ref (ad 1)])), (ad 1, .inl (gca G 3, 60, .inr (.inl (fun _ => 0))))]
def kw_X5 (G : GT) (ad : Nat → Nat) : va_W := [(ad 0, .inr (5, [.ref (ad 1)])), (ad 1, .inl (gca G 0, 4096, .inl (fun _ => 0)))]
def kw_X3 (G : GT) (ad : Nat → Nat) : va_W := [(ad 0, .inr (3, [.int (0), .int (0), .int (0), .ref (ad 1)])), (ad 1, .inl (gca G 0, 12, .inl (fun _ => 0)))]
def kw_X1 (G : GT) (ad : Nat → Nat) : va_W := [(ad 0, .inr (1, [.int (0), .int (0), .int (0), .ref (ad 1), .ref (ad 2), .ref (ad 3), .ref (ad 4)])), (ad 1, .inl (gca G 0, 12, .inl (fun _ => 0))), (ad 2, .inl (gca G 0, 12, .inl (fun _ => 0))), (ad 3, .inl (gca G 0, 5, .inl (fun _ => 0))), (ad 4, .inl (gca G 0, 5, .inl (fun _ => 0)))]
def kw_X0 (G : GT) (ad : Nat → Nat) : va_W := [(ad 0, .inr (0, [.ref (ad 1)])), (ad 1, .inl (gca G 0, 16, .inl (fun _ => 0)))]
def kw_X7 (G : GT) (ad : Nat → Nat) : va_W := [(ad 0, .inr (7, [.ref (ad 1), .ref (ad 3), .ref (ad 10), .ref (ad 17), .ref (ad 18), .ref (ad 40), .ref (ad 49), .int (1), .ref (ad 51), .ref (ad 53), .ref (ad 55), .ref (ad 60)])), (ad 1, .inr (2, [.ref (ad 2), .int (0), .int (0), .int (-1), .int (0), .int (0), .int (0), .int (0)])), (ad 2, .inl (gca G 2, 1600, .inl (fun _ => 0))), (ad 3, .inr (6, [.int (0), .int (0), .int (0), .int (0), .int (0), .int (0), .int (0), .int (0), .ref (ad 4), .ref (ad 5), .ref (ad 6), .ref (ad 7), .ref (ad 8), .ref (ad 9)])), (ad 4, .inl (gca G 0, 12, .inl (fun _ => 0))), (ad 5, .inl (gca G 0, 12, .inl (fun _ => 0))), (ad 6, .inl (gca G 0, 12, .inl (fun _ => 0))), (ad 7, .inl (gca G 0, 12, .inl (fun _ => 0))), (ad 8, .inl (gca G 0, 5, .inl (fun _ => 0))), (ad 9, .inl (gca G 0, 5, .inl (fun _ => 0))), (ad 10, .inr (6, [.int (0), .int (0), .int (0), .int (0), .int (0), .int (0), .int (0), .int (0), .ref (ad 11), .ref (ad 12), .ref (ad 13), .ref (ad 14), .ref (ad 15), .ref (ad 16)])), (ad 11, .inl (gca G 0, 12, .inl (fun _ => 0))), (ad 12, .inl (gca G 0, 12, .inl (fun _ => 0))), (ad 13, .inl (gca G 0, 12, .inl (fun _ => 0))), (ad 14, .inl (gca G 0, 12, .inl (fun _ => 0))), (ad 15, .inl (gca G 0, 5, .inl (fun _ => 0))), (ad 16, .inl (gca G 0, 5, .inl (fun _ => 0))), (ad 17, .inl (gca G 4, 3, .inr (.inr (.inr (.inr (va_up (va_up (va_up (fun _ => none) 0 (some (ad 19))) 1 (some (ad 26))) 2 (some (ad 33)))))))), (ad 18, .inl (gca G 1, 3, .inl (fun _ => 0))), (ad 19, .inr (6, [.int (0), .int (0), .int (0), .int (0), .int (0), .int (0), .int (0), .int (0), .ref (ad 20), .ref (ad 21), .ref (ad 22), .ref (ad 23), .ref (ad 24), .ref (ad 25)])), (ad 20, .inl (gca G 0, 12, .inl (fun _ => 0))), (ad 21, .inl (gca G 0, 12, .inl (fun _ => 0))), (ad 22, .inl (gca G 0, 12, .inl (fun _ => 0))), (ad 23, .inl (gca G 0, 12, .inl (fun _ => 0))), (ad 24, .inl (gca G 0, 5, .inl (fun _ => 0))), (ad 25, .inl (gca G 0, 5, .inl (fun _ => 0))), (ad 26, .inr (6, [.int (0), .int (0), .int (0), .int (0), .int (0), .int (0), .int (0), .int (0), .ref (ad 27), .ref (ad 28), .ref (ad 29), .ref (ad 30), .ref (ad 31), .ref (ad 32)])), (ad 27, .inl (gca G 0, 12, .inl (fun _ => 0))), (ad 28, .inl (gca G 0, 12, .inl (fun _ => 0))), (ad 29, .inl (gca G 0, 12, .inl (fun _ => 0))), (ad 30, .inl (gca G 0, 12, .inl (fun _ => 0))), (ad 31, .inl (gca G 0, 5, .inl (fun _ => 0))), (ad 32, .inl (gca G 0, 5, .inl (fun _ => 0))), (ad 33, .inr (6, [.int (0), .int (0), .int (0), .int (0), .int (0), .int (0), .int (0), .int (0), .ref (ad 34), .ref (ad 35), .ref (ad 36), .ref (ad 37), .ref (ad 38), .ref (ad 39)])), (ad 34, .inl (gca G 0, 12, .inl (fun _ => 0))), (ad 35, .inl (gca G 0, 12, .inl (fun _ => 0))), (ad 36, .inl (gca G 0, 12, .inl (fun _ => 0))), (ad 37, .inl (gca G 0, 12, .inl (fun _ => 0))), (ad 38, .inl (gca G 0, 5, .inl (fun _ => 0))), (ad 39, .inl (gca G 0, 5, .inl (fun _ => 0))), (ad 40, .inl (gca G 5, 4, .inr (.inr (.inr (.inr (va_up (va_up (va_up (va_up (fun _ => none) 0 (some (ad 41))) 1 (some (ad 43))) 2 (some (ad 45))) 3 (some (ad 47)))))))), (ad 41, .inr (4, [.int (0), .int (0), .int (0), .ref (ad 42)])), (ad 42, .inl (gca G 3, 60, .inr (.inl (fun _ => 0)))), (ad 43, .inr (4, [.int (0), .int (0), .int (0), .ref (ad 44)])), (ad 44, .inl (gca G 3, 60, .inr (.inl (fun _ => 0)))), (ad 45, .inr (4, [.int (0), .int (0), .int (0), .ref (ad 46)])), (ad 46, .inl (gca G 3, 60, .inr (.inl (fun _ => 0)))), (ad 47, .inr (4, [.int (0), .int (0), .int (0), .ref (ad 48)])), (ad 48, .inl (gca G 3, 60, .inr (.inl (fun _ => 0)))), (ad 49, .inr (5, [.ref (ad 50)])), (ad 50, .inl (gca G 0, 4096, .inl (fun _ => 0))), (ad 51, .inr (5, [.ref (ad 52)])), (ad 52, .inl (gca G 0, 4096, .inl (fun _ => 0))), (ad 53, .inr (3, [.int (0), .int (0), .int (0), .ref (ad 54)])), (ad 54, .inl (gca G 0, 12, .inl (fun _ => 0))), (ad 55, .inr (1, [.int (0), .int (0), .int (0), .ref (ad 56), .ref (ad 57), .ref (ad 58), .ref (ad 59)])), (ad 56, .inl (gca G 0, 12, .inl (fun _ => 0))), (ad 57, .inl (gca G 0, 12, .inl (fun _ => 0))), (ad 58, .inl (gca G 0, 5, .inl (fun _ => 0))), (ad 59, .inl (gca G 0, 5, .inl (fun _ => 0))), (ad 60, .inr (0, [.ref (ad 61)])), (ad 61, .inl (gca G 0, 16, .inl (fun _ => 0)))]
def kw_X8 (G : GT) (ad : Nat → Nat) : va_W := [(ad 0, .inr (8, [.int (0), .ref (ad 1), .ref (ad 2), .ref (ad 3), .ref (ad 4), .int (0), .ref (ad 5), .int (0), .int (0), .int (0), .int (0), .int (0), .int (0), .int (-1), .ref (ad 6), .ref (ad 7), .ref (ad 8), .ref (ad 9), .int (0), .int (0), .int (0), .int (0), .ref (ad 10), .ref (ad 11), .ref (ad 12), .ref (ad 13), .ref (ad 14), .int (0), .int (0), .ref (ad 15), .ref (ad 16), .ref (ad 17), .ref (ad 18), .ref (ad 19)])), (ad 1, .inl (gca G 0, 77, .inl (fun _ => 0))), (ad 2, .inl (gca G 0, 231, .inl (fun _ => 0))), (ad 3, .inl (gca G 1, 3, .inl (fun _ => 0))), (ad 4, .inl (gca G 2, 1600, .inl (fun _ => 0))), (ad 5, .inl (gca G 0, 5, .inl (fun _ => 0))), (ad 6, .inl (gca G 0, 77, .inl (fun _ => 0))), (ad 7, .inl (gca G 0, 8, .inl (fun _ => 0))), (ad 8, .inl (gca G 1, 8, .inl (fun _ => 0))), (ad 9, .inl (gca G 0, 8, .inl (fun _ => 0))), (ad 10, .inl (gca G 1, 32, .inl (fun _ => 0))), (ad 11, .inl (gca G 0, 12, .inl (fun _ => 0))), (ad 12, .inl (gca G 0, 12, .inl (fun _ => 0))), (ad 13, .inl (gca G 0, 5, .inl (fun _ => 0))), (ad 14, .inl (gca G 0, 5, .inl (fun _ => 0))), (ad 15, .inl (gca G 0, 4096, .inl (fun _ => 0))), (ad 16, .inl (gca G 0, 4, .inl mny0)), (ad 17, .inl (gca G 0, 4, .inl (fun _ => 0))), (ad 18, .inl (gca G 3, 240, .inr (.inl (fun _ => 0)))), (ad 19, .inl (gca G 3, 60, .inr (.inl (fun _ => 0))))]
theorem dX2_init_0 : decode cX2_init 0 = .ok (.aload_n 0, 1) := by decide +kernel
theorem dX2_init_1 : decode cX2_init 1 = .ok (.invokespecial 3, 3) := by decide +kernel
theorem dX2_init_4 : decode cX2_init 4 = .ok (.aload_n 0, 1) := by decide +kernel
theorem dX2_init_5 : decode cX2_init 5 = .ok (.sipush 1600, 3) := by decide +kernel
theorem dX2_init_8 : decode cX2_init 8 = .ok (.newarray .byte, 2) := by decide +kernel
theorem dX2_init_10 : decode cX2_init 10 = .ok (.putfield 9, 3) := by decide +kernel
theorem dX2_init_13 : decode cX2_init 13 = .ok (.aload_n 0, 1) := by decide +kernel
theorem dX2_init_14 : decode cX2_init 14 = .ok (.iconst (-1), 1) := by decide +kernel
theorem dX2_init_15 : decode cX2_init 15 = .ok (.putfield 15, 3) := by decide +kernel
theorem dX2_init_18 : decode cX2_init 18 = .ok (.return_, 1) := by decide +kernel
set_option maxRecDepth 20000 in
set_option maxHeartbeats 4000000 in
theorem kc_X2 (G : GT) : KC G 1 yX2_init cX2_init 1 2 dl2 1 1600 (kw_X2 G) := by
  refine met_C (by decide) rfl (by decide) (fun X a cx hin hE => ?_)
  have cx : CC G X RX2 cX2_init 1 1 1 1600 := cx
  refine wc_aload_n cx dX2_init_0 rfl 0 rfl ?_
  refine wc_objInit gml_X2_3 cx (Nat.le_of_ble_eq_true rfl) (Nat.le_of_ble_eq_true rfl) dX2_init_1 ?_
  refine wc_aload_n cx dX2_init_4 rfl 0 rfl ?_
  refine wc_sipush cx dX2_init_5 js_1600 ?_
  refine wc_newa2 (N := 1600) cx (by decide) (Nat.le_of_ble_eq_true rfl) (Nat.le_of_ble_eq_true rfl) (Nat.le_of_ble_eq_true rfl) dX2_init_8 (fun q1 => ?_)
  refine wc_eq (ws' := [(a, .inr (2, [.null, .int 0, .int 0, .int 0, .int 0, .int 0, .int 0, .int 0])), (q1, .inl (gca G 2, 1600, .inl (fun _ => 0)))]) rfl ?_
  refine wc_putF (ci := 2) (q0 := 0) (j := 0) (C := RX2) (T := TX2) (N := 8) (ty := .array .byte) rfl wi2 tyX2 tyX2_ok nmX2 (by decide) gl_X2_9 (by decide +kernel) rfl (by decide +kernel) cx hin rfl rfl rfl (Nat.le_of_ble_eq_true rfl) dX2_init_10 ?_
  refine wc_eq (ws' := [(a, .inr (2, [.ref q1, .int 0, .int 0, .int 0, .int 0, .int 0, .int 0, .int 0])), (q1, .inl (gca G 2, 1600, .inl (fun _ => 0)))]) rfl ?_
  refine wc_aload_n cx dX2_init_13 rfl 0 rfl ?_
  refine wc_iconst cx dX2_init_14 jc_m1 ?_
  refine wc_put (ci := 2) (q0 := 0) (j := 3) (C := RX2) (T := TX2) (N := 8) (ty := .int) rfl wi2 tyX2 tyX2_ok nmX2 (by decide) gl_X2_15 (by decide +kernel) (by decide +kernel) cx rfl rfl rfl (Nat.le_of_ble_eq_true rfl) dX2_init_15 ?_
  refine wc_eq (ws' := [(a, .inr (2, [.ref q1, .int 0, .int 0, .int (-1), .int 0, .int 0, .int 0, .int 0])), (q1, .inl (gca G 2, 1600, .inl (fun _ => 0)))]) rfl ?_
  refine wc_eq (ws' := kw_X2 G (fun k => [a, q1].getD k 0)) rfl ?_
  exact hE _ _ _ rfl dX2_init_18
theorem dX6_init_0 : decode cX6_init 0 = .ok (.aload_n 0, 1) := by decide +kernel
theorem dX6_init_1 : decode cX6_init 1 = .ok (.invokespecial 3, 3) := by decide +kernel
theorem dX6_init_4 : decode cX6_init 4 = .ok (.aload_n 0, 1) := by decide +kernel
theorem dX6_init_5 : decode cX6_init 5 = .ok (.bipush 12, 2) := by decide +kernel
theorem dX6_init_7 : decode cX6_init 7 = .ok (.newarray .int, 2) := by decide +kernel
theorem dX6_init_9 : decode cX6_init 9 = .ok (.putfield 9, 3) := by decide +kernel
theorem dX6_init_12 : decode cX6_init 12 = .ok (.aload_n 0, 1) := by decide +kernel
theorem dX6_init_13 : decode cX6_init 13 = .ok (.bipush 12, 2) := by decide +kernel
theorem dX6_init_15 : decode cX6_init 15 = .ok (.newarray .int, 2) := by decide +kernel
theorem dX6_init_17 : decode cX6_init 17 = .ok (.putfield 15, 3) := by decide +kernel
theorem dX6_init_20 : decode cX6_init 20 = .ok (.aload_n 0, 1) := by decide +kernel
theorem dX6_init_21 : decode cX6_init 21 = .ok (.bipush 12, 2) := by decide +kernel
theorem dX6_init_23 : decode cX6_init 23 = .ok (.newarray .int, 2) := by decide +kernel
theorem dX6_init_25 : decode cX6_init 25 = .ok (.putfield 18, 3) := by decide +kernel
theorem dX6_init_28 : decode cX6_init 28 = .ok (.aload_n 0, 1) := by decide +kernel
theorem dX6_init_29 : decode cX6_init 29 = .ok (.bipush 12, 2) := by decide +kernel
theorem dX6_init_31 : decode cX6_init 31 = .ok (.newarray .int, 2) := by decide +kernel
theorem dX6_init_33 : decode cX6_init 33 = .ok (.putfield 21, 3) := by decide +kernel
theorem dX6_init_36 : decode cX6_init 36 = .ok (.aload_n 0, 1) := by decide +kernel
theorem dX6_init_37 : decode cX6_init 37 = .ok (.iconst 5, 1) := by decide +kernel
theorem dX6_init_38 : decode cX6_init 38 = .ok (.newarray .int, 2) := by decide +kernel
theorem dX6_init_40 : decode cX6_init 40 = .ok (.putfield 24, 3) := by decide +kernel
theorem dX6_init_43 : decode cX6_init 43 = .ok (.aload_n 0, 1) := by decide +kernel
theorem dX6_init_44 : decode cX6_init 44 = .ok (.iconst 5, 1) := by decide +kernel
theorem dX6_init_45 : decode cX6_init 45 = .ok (.newarray .int, 2) := by decide +kernel
theorem dX6_init_47 : decode cX6_init 47 = .ok (.putfield 27, 3) := by decide +kernel
theorem dX6_init_50 : decode cX6_init 50 = .ok (.return_, 1) := by decide +kernel
set_option maxRecDepth 20000 in
set_option maxHeartbeats 4000000 in
theorem kc_X6 (G : GT) : KC G 1 yX6_init cX6_init 1 6 dl6 6 58 (kw_X6 G) := by
  refine met_C (by decide) rfl (by decide) (fun X a cx hin hE => ?_)
  have cx : CC G X RX6 cX6_init 1 1 6 58 := cx
  refine wc_aload_n cx dX6_init_0 rfl 0 rfl ?_
  refine wc_objInit gml_X6_3 cx (Nat.le_of_ble_eq_true rfl) (Nat.le_of_ble_eq_true rfl) dX6_init_1 ?_
  refine wc_aload_n cx dX6_init_4 rfl 0 rfl ?_
  refine wc_bipush cx dX6_init_5 jb_12 ?_
  refine wc_newa0 (N := 12) cx (by decide) (Nat.le_of_ble_eq_true rfl) (Nat.le_of_ble_eq_true rfl) (Nat.le_of_ble_eq_true rfl) dX6_init_7 (fun q1 => ?_)
  refine wc_eq (ws' := [(a, .inr (6, [.int 0, .int 0, .int 0, .int 0, .int 0, .int 0, .int 0, .int 0, .null, .null, .null, .null, .null, .null])), (q1, .inl (gca G 0, 12, .inl (fun _ => 0)))]) rfl ?_
  refine wc_putF (ci := 6) (q0 := 0) (j := 8) (C := RX6) (T := TX6) (N := 14) (ty := .array .int) rfl wi6 tyX6 tyX6_ok nmX6 (by decide) gl_X6_9 (by decide +kernel) rfl (by decide +kernel) cx hin rfl rfl rfl (Nat.le_of_ble_eq_true rfl) dX6_init_9 ?_
  refine wc_eq (ws' := [(a, .inr (6, [.int 0, .int 0, .int 0, .int 0, .int 0, .int 0, .int 0, .int 0, .ref q1, .null, .null, .null, .null, .null])), (q1, .inl (gca G 0, 12, .inl (fun _ => 0)))]) rfl ?_
  refine wc_aload_n cx dX6_init_12 rfl 0 rfl ?_
  refine wc_bipush cx dX6_init_13 jb_12 ?_
  refine wc_newa0 (N := 12) cx (by decide) (Nat.le_of_ble_eq_true rfl) (Nat.le_of_ble_eq_true rfl) (Nat.le_of_ble_eq_true rfl) dX6_init_15 (fun q2 => ?_)
  refine wc_eq (ws' := [(a, .inr (6, [.int 0, .int 0, .int 0, .int 0, .int 0, .int 0, .int 0, .int 0, .ref q1, .null, .null, .null, .null, .null])), (q1, .inl (gca G 0, 12, .inl (fun _ => 0))), (q2, .inl (gca G 0, 12, .inl (fun _ => 0)))]) rfl ?_
  refine wc_putF (ci := 6) (q0 := 0) (j := 9) (C := RX6) (T := TX6) (N := 14) (ty := .array .int) rfl wi6 tyX6 tyX6_ok nmX6 (by decide) gl_X6_15 (by decide +kernel) rfl (by decide +kernel) cx hin rfl rfl rfl (Nat.le_of_ble_eq_true rfl) dX6_init_17 ?_
  refine wc_eq (ws' := [(a, .inr (6, [.int 0, .int 0, .int 0, .int 0, .int 0, .int 0, .int 0, .int 0, .ref q1, .ref q2, .null, .null, .null, .null])), (q1, .inl (gca G 0, 12, .inl (fun _ => 0))), (q2, .inl (gca G 0, 12, .inl (fun _ => 0)))]) rfl ?_
  refine wc_aload_n cx dX6_init_20 rfl 0 rfl ?_
  refine wc_bipush cx dX6_init_21 jb_12 ?_
  refine wc_newa0 (N := 12) cx (by decide) (Nat.le_of_ble_eq_true rfl) (Nat.le_of_ble_eq_true rfl) (Nat.le_of_ble_eq_true rfl) dX6_init_23 (fun q3 => ?_)
  refine wc_eq (ws' := [(a, .inr (6, [.int 0, .int 0, .int 0, .int 0, .int 0, .int 0, .int 0, .int 0, .ref q1, .ref q2, .null, .null, .null, .null])), (q1, .inl (gca G 0, 12, .inl (fun _ => 0))), (q2, .inl (gca G 0, 12, .inl (fun _ => 0))), (q3, .inl (gca G 0, 12, .inl (fun _ => 0)))]) rfl ?_
  refine wc_putF (ci := 6) (q0 := 0) (j := 10) (C := RX6) (T := TX6) (N := 14) (ty := .array .int) rfl wi6 tyX6 tyX6_ok nmX6 (by decide) gl_X6_18 (by decide +kernel) rfl (by decide +kernel) cx hin rfl rfl rfl (Nat.le_of_ble_eq_true rfl) dX6_init_25 ?_
  refine wc_eq (ws' := [(a, .inr (6, [.int 0, .int 0, .int 0, .int 0, .int 0, .int 0, .int 0, .int 0, .ref q1, .ref q2, .ref q3, .null, .null, .null])), (q1, .inl (gca G 0, 12, .inl (fun _ => 0))), (q2, .inl (gca G 0, 12, .inl (fun _ => 0))), (q3, .inl (gca G 0, 12, .inl (fun _ => 0)))]) rfl ?_
  refine wc_aload_n cx dX6_init_28 rfl 0 rfl ?_
  refine wc_bipush cx dX6_init_29 jb_12 ?_
  refine wc_newa0 (N := 12) cx (by decide) (Nat.le_of_ble_eq_true rfl) (Nat.le_of_ble_eq_true rfl) (Nat.le_of_ble_eq_true rfl) dX6_init_31 (fun q4 => ?_)
  refine wc_eq (ws' := [(a, .inr (6, [.int 0, .int 0, .int 0, .int 0, .int 0, .int 0, .int 0, .int 0, .ref q1, .ref q2, .ref q3, .null, .null, .null])), (q1, .inl (gca G 0, 12, .inl (fun _ => 0))), (q2, .inl (gca G 0, 12, .inl (fun _ => 0))), (q3, .inl (gca G 0, 12, .inl (fun _ => 0))), (q4, .inl (gca G 0, 12, .inl (fun _ => 0)))]) rfl ?_
  refine wc_putF (ci := 6) (q0 := 0) (j := 11) (C := RX6) (T := TX6) (N := 14) (ty := .array .int) rfl wi6 tyX6 tyX6_ok nmX6 (by decide) gl_X6_21 (by decide +kernel) rfl (by decide +kernel) cx hin rfl rfl rfl (Nat.le_of_ble_eq_true rfl) dX6_init_33 ?_
  refine wc_eq (ws' := [(a, .inr (6, [.int 0, .int 0, .int 0, .int 0, .int 0, .int 0, .int 0, .int 0, .ref q1, .ref q2, .ref q3, .ref q4, .null, .null])), (q1, .inl (gca G 0, 12, .inl (fun _ => 0))), (q2, .inl (gca G 0, 12, .inl (fun _ => 0))), (q3, .inl (gca G 0, 12, .inl (fun _ => 0))), (q4, .inl (gca G 0, 12, .inl (fun _ => 0)))]) rfl ?_
  refine wc_aload_n cx dX6_init_36 rfl 0 rfl ?_
  refine wc_iconst cx dX6_init_37 jc_5 ?_
  refine wc_newa0 (N := 5) cx (by decide) (Nat.le_of_ble_eq_true rfl) (Nat.le_of_ble_eq_true rfl) (Nat.le_of_ble_eq_true rfl) dX6_init_38 (fun q5 => ?_)
  refine wc_eq (ws' := [(a, .inr (6, [.int 0, .int 0, .int 0, .int 0, .int 0, .int 0, .int 0, .int 0, .ref q1, .ref q2, .ref q3, .ref q4, .null, .null])), (q1, .inl (gca G 0, 12, .inl (fun _ => 0))), (q2, .inl (gca G 0, 12, .inl (fun _ => 0))), (q3, .inl (gca G 0, 12, .inl (fun _ => 0))), (q4, .inl (gca G 0, 12, .inl (fun _ => 0))), (q5, .inl (gca G 0, 5, .inl (fun _ => 0)))]) rfl ?_
  refine wc_putF (ci := 6) (q0 := 0) (j := 12) (C := RX6) (T := TX6) (N := 14) (ty := .array .int) rfl wi6 tyX6 tyX6_ok nmX6 (by decide) gl_X6_24 (by decide +kernel) rfl (by decide +kernel) cx hin rfl rfl rfl (Nat.le_of_ble_eq_true rfl) dX6_init_40 ?_
  refine wc_eq (ws' := [(a, .inr (6, [.int 0, .int 0, .int 0, .int 0, .int 0, .int 0, .int 0, .int 0, .ref q1, .ref q2, .ref q3, .ref q4, .ref q5, .null])), (q1, .inl (gca G 0, 12, .inl (fun _ => 0))), (q2, .inl (gca G 0, 12, .inl (fun _ => 0))), (q3, .inl (gca G 0, 12, .inl (fun _ => 0))), (q4, .inl (gca G 0, 12, .inl (fun _ => 0))), (q5, .inl (gca G 0, 5, .inl (fun _ => 0)))]) rfl ?_
  refine wc_aload_n cx dX6_init_43 rfl 0 rfl ?_
  refine wc_iconst cx dX6_init_44 jc_5 ?_
  refine wc_newa0 (N := 5) cx (by decide) (Nat.le_of_ble_eq_true rfl) (Nat.le_of_ble_eq_true rfl) (Nat.le_of_ble_eq_true rfl) dX6_init_45 (fun q6 => ?_)
  refine wc_eq (ws' := [(a, .inr (6, [.int 0, .int 0, .int 0, .int 0, .int 0, .int 0, .int 0, .int 0, .ref q1, .ref q2, .ref q3, .ref q4, .ref q5, .null])), (q1, .inl (gca G 0, 12, .inl (fun _ => 0))), (q2, .inl (gca G 0, 12, .inl (fun _ => 0))), (q3, .inl (gca G 0, 12, .inl (fun _ => 0))), (q4, .inl (gca G 0, 12, .inl (fun _ => 0))), (q5, .inl (gca G 0, 5, .inl (fun _ => 0))), (q6, .inl (gca G 0, 5, .inl (fun _ => 0)))]) rfl ?_
  refine wc_putF (ci := 6) (q0 := 0) (j := 13) (C := RX6) (T := TX6) (N := 14) (ty := .array .int) rfl wi6 tyX6 tyX6_ok nmX6 (by decide) gl_X6_27 (by decide +kernel) rfl (by decide +kernel) cx hin rfl rfl rfl (Nat.le_of_ble_eq_true rfl) dX6_init_47 ?_
  refine wc_eq (ws' := [(a, .inr (6, [.int 0, .int 0, .int 0, .int 0, .int 0, .int 0, .int 0, .int 0, .ref q1, .ref q2, .ref q3, .ref q4, .ref q5, .ref q6])), (q1, .inl (gca G 0, 12, .inl (fun _ => 0))), (q2, .inl (gca G 0, 12, .inl (fun _ => 0))), (q3, .inl (gca G 0, 12, .inl (fun _ => 0))), (q4, .inl (gca G 0, 12, .inl (fun _ => 0))), (q5, .inl (gca G 0, 5, .inl (fun _ => 0))), (q6, .inl (gca G 0, 5, .inl (fun _ => 0)))]) rfl ?_
  refine wc_eq (ws' := kw_X6 G (fun k => [a, q1, q2, q3, q4, q5, q6].getD k 0)) rfl ?_
  exact hE _ _ _ rfl dX6_init_50
theorem dX4_init_0 : decode cX4_init 0 = .ok (.aload_n 0, 1) := by decide +kernel
theorem dX4_init_1 : decode cX4_init 1 = .ok (.invokespecial 3, 3) := by decide +kernel
theorem dX4_init_4 : decode cX4_init 4 = .ok (.aload_n 0, 1) := by decide +kernel
theorem dX4_init_5 : decode cX4_init 5 = .ok (.bipush 60, 2) := by decide +kernel
theorem dX4_init_7 : decode cX4_init 7 = .ok (.newarray .long, 2) := by decide +kernel
theorem dX4_init_9 : decode cX4_init 9 = .ok (.putfield 9, 3) := by decide +kernel
theorem dX4_init_12 : decode cX4_init 12 = .ok (.return_, 1) := by decide +kernel
set_option maxRecDepth 20000 in
set_option maxHeartbeats 4000000 in
theorem kc_X4 (G : GT) : KC G 1 yX4_init cX4_init 1 4 dl4 1 60 (kw_X4 G) := by
  refine met_C (by decide) rfl (by decide) (fun X a cx hin hE => ?_)
  have cx : CC G X RX4 cX4_init 1 1 1 60 := cx
  refine wc_aload_n cx dX4_init_0 rfl 0 rfl ?_
  refine wc_objInit gml_X4_3 cx (Nat.le_of_ble_eq_true rfl) (Nat.le_of_ble_eq_true rfl) dX4_init_1 ?_
  refine wc_aload_n cx dX4_init_4 rfl 0 rfl ?_
  refine wc_bipush cx dX4_init_5 jb_60 ?_
  refine wc_newa3 (N := 60) cx (by decide) (Nat.le_of_ble_eq_true rfl) (Nat.le_of_ble_eq_true rfl) (Nat.le_of_ble_eq_true rfl) dX4_init_7 (fun q1 => ?_)
  refine wc_eq (ws' := [(a, .inr (4, [.int 0, .int 0, .int 0, .null])), (q1, .inl (gca G 3, 60, .inr (.inl (fun _ => 0))))]) rfl ?_
  refine wc_putF (ci := 4) (q0 := 0) (j := 3) (C := RX4) (T := TX4) (N := 4) (ty := .array .long) rfl wi4 tyX4 tyX4_ok nmX4 (by decide) gl_X4_9 (by decide +kernel) rfl (by decide +kernel) cx hin rfl rfl rfl (Nat.le_of_ble_eq_true rfl) dX4_init_9 ?_
  refine wc_eq (ws' := [(a, .inr (4, [.int 0, .int 0, .int 0, .ref q1])), (q1, .inl (gca G 3, 60, .inr (.inl (fun _ => 0))))]) rfl ?_
  refine wc_eq (ws' := kw_X4 G (fun k => [a, q1].getD k 0)) rfl ?_
  exact hE _ _ _ rfl dX4_init_12
theorem dX5_init_0 : decode cX5_init 0 = .ok (.aload_n 0, 1) := by decide +kernel
theorem dX5_init_1 : decode cX5_init 1 = .ok (.invokespecial 3, 3) := by decide +kernel
theorem dX5_init_4 : decode cX5_init 4 = .ok (.aload_n 0, 1) := by decide +kernel
theorem dX5_init_5 : decode cX5_init 5 = .ok (.sipush 4096, 3) := by decide +kernel
theorem dX5_init_8 : decode cX5_init 8 = .ok (.newarray .int, 2) := by decide +kernel
theorem dX5_init_10 : decode cX5_init 10 = .ok (.putfield 9, 3) := by decide +kernel
theorem dX5_init_13 : decode cX5_init 13 = .ok (.return_, 1) := by decide +kernel
set_option maxRecDepth 20000 in
set_option maxHeartbeats 4000000 in
theorem kc_X5 (G : GT) : KC G 1 yX5_init cX5_init 1 5 dl5 1 4096 (kw_X5 G) := by
  refine met_C (by decide) rfl (by decide) (fun X a cx hin hE => ?_)
  have cx : CC G X RX5 cX5_init 1 1 1 4096 := cx
  refine wc_aload_n cx dX5_init_0 rfl 0 rfl ?_
  refine wc_objInit gml_X5_3 cx (Nat.le_of_ble_eq_true rfl) (Nat.le_of_ble_eq_true rfl) dX5_init_1 ?_
  refine wc_aload_n cx dX5_init_4 rfl 0 rfl ?_
  refine wc_sipush cx dX5_init_5 js_4096 ?_
  refine wc_newa0 (N := 4096) cx (by decide) (Nat.le_of_ble_eq_true rfl) (Nat.le_of_ble_eq_true rfl) (Nat.le_of_ble_eq_true rfl) dX5_init_8 (fun q1 => ?_)
  refine wc_eq (ws' := [(a, .inr (5, [.null])), (q1, .inl (gca G 0, 4096, .inl (fun _ => 0)))]) rfl ?_
  refine wc_putF (ci := 5) (q0 := 0) (j := 0) (C := RX5) (T := TX5) (N := 1) (ty := .array .int) rfl wi5 tyX5 tyX5_ok nmX5 (by decide) gl_X5_9 (by decide +kernel) rfl (by decide +kernel) cx hin rfl rfl rfl (Nat.le_of_ble_eq_true rfl) dX5_init_10 ?_
  refine wc_eq (ws' := [(a, .inr (5, [.ref q1])), (q1, .inl (gca G 0, 4096, .inl (fun _ => 0)))]) rfl ?_
  refine wc_eq (ws' := kw_X5 G (fun k => [a, q1].getD k 0)) rfl ?_
  exact hE _ _ _ rfl dX5_init_13
theorem dX3_init_0 : decode cX3_init 0 = .ok (.aload_n 0, 1) := by decide +kernel
theorem dX3_init_1 : decode cX3_init 1 = .ok (.invokespecial 3, 3) := by decide +kernel
theorem dX3_init_4 : decode cX3_init 4 = .ok (.aload_n 0, 1) := by decide +kernel
theorem dX3_init_5 : decode cX3_init 5 = .ok (.bipush 12, 2) := by decide +kernel
theorem dX3_init_7 : decode cX3_init 7 = .ok (.newarray .int, 2) := by decide +kernel
theorem dX3_init_9 : decode cX3_init 9 = .ok (.putfield 9, 3) := by decide +kernel
theorem dX3_init_12 : decode cX3_init 12 = .ok (.return_, 1) := by decide +kernel
set_option maxRecDepth 20000 in
set_option maxHeartbeats 4000000 in
theorem kc_X3 (G : GT) : KC G 1 yX3_init cX3_init 1 3 dl3 1 12 (kw_X3 G) := by
  refine met_C (by decide) rfl (by decide) (fun X a cx hin hE => ?_)
  have cx : CC G X RX3 cX3_init 1 1 1 12 := cx
  refine wc_aload_n cx dX3_init_0 rfl 0 rfl ?_
  refine wc_objInit gml_X3_3 cx (Nat.le_of_ble_eq_true rfl) (Nat.le_of_ble_eq_true rfl) dX3_init_1 ?_
  refine wc_aload_n cx dX3_init_4 rfl 0 rfl ?_
  refine wc_bipush cx dX3_init_5 jb_12 ?_
  refine wc_newa0 (N := 12) cx (by decide) (Nat.le_of_ble_eq_true rfl) (Nat.le_of_ble_eq_true rfl) (Nat.le_of_ble_eq_true rfl) dX3_init_7 (fun q1 => ?_)
  refine wc_eq (ws' := [(a, .inr (3, [.int 0, .int 0, .int 0, .null])), (q1, .inl (gca G 0, 12, .inl (fun _ => 0)))]) rfl ?_
  refine wc_putF (ci := 3) (q0 := 0) (j := 3) (C := RX3) (T := TX3) (N := 4) (ty := .array .int) rfl wi3 tyX3 tyX3_ok nmX3 (by decide) gl_X3_9 (by decide +kernel) rfl (by decide +kernel) cx hin rfl rfl rfl (Nat.le_of_ble_eq_true rfl) dX3_init_9 ?_
  refine wc_eq (ws' := [(a, .inr (3, [.int 0, .int 0, .int 0, .ref q1])), (q1, .inl (gca G 0, 12, .inl (fun _ => 0)))]) rfl ?_
  refine wc_eq (ws' := kw_X3 G (fun k => [a, q1].getD k 0)) rfl ?_
  exact hE _ _ _ rfl dX3_init_12
theorem dX1_init_0 : decode cX1_init 0 = .ok (.aload_n 0, 1) := by decide +kernel
theorem dX1_init_1 : decode cX1_init 1 = .ok (.invokespecial 3, 3) := by decide +kernel
theorem dX1_init_4 : decode cX1_init 4 = .ok (.aload_n 0, 1) := by decide +kernel
theorem dX1_init_5 : decode cX1_init 5 = .ok (.bipush 12, 2) := by decide +kernel
theorem dX1_init_7 : decode cX1_init 7 = .ok (.newarray .int, 2) := by decide +kernel
theorem dX1_init_9 : decode cX1_init 9 = .ok (.putfield 9, 3) := by decide +kernel
theorem dX1_init_12 : decode cX1_init 12 = .ok (.aload_n 0, 1) := by decide +kernel
theorem dX1_init_13 : decode cX1_init 13 = .ok (.bipush 12, 2) := by decide +kernel
theorem dX1_init_15 : decode cX1_init 15 = .ok (.newarray .int, 2) := by decide +kernel
theorem dX1_init_17 : decode cX1_init 17 = .ok (.putfield 15, 3) := by decide +kernel
theorem dX1_init_20 : decode cX1_init 20 = .ok (.aload_n 0, 1) := by decide +kernel
theorem dX1_init_21 : decode cX1_init 21 = .ok (.iconst 5, 1) := by decide +kernel
theorem dX1_init_22 : decode cX1_init 22 = .ok (.newarray .int, 2) := by decide +kernel
theorem dX1_init_24 : decode cX1_init 24 = .ok (.putfield 18, 3) := by decide +kernel
theorem dX1_init_27 : decode cX1_init 27 = .ok (.aload_n 0, 1) := by decide +kernel
theorem dX1_init_28 : decode cX1_init 28 = .ok (.iconst 5, 1) := by decide +kernel
theorem dX1_init_29 : decode cX1_init 29 = .ok (.newarray .int, 2) := by decide +kernel
theorem dX1_init_31 : decode cX1_init 31 = .ok (.putfield 21, 3) := by decide +kernel
theorem dX1_init_34 : decode cX1_init 34 = .ok (.return_, 1) := by decide +kernel
set_option maxRecDepth 20000 in
set_option maxHeartbeats 4000000 in
theorem kc_X1 (G : GT) : KC G 1 yX1_init cX1_init 1 1 dl1 4 34 (kw_X1 G) := by
  refine met_C (by decide) rfl (by decide) (fun X a cx hin hE => ?_)
  have cx : CC G X RX1 cX1_init 1 1 4 34 := cx
  refine wc_aload_n cx dX1_init_0 rfl 0 rfl ?_
  refine wc_objInit gml_X1_3 cx (Nat.le_of_ble_eq_true rfl) (Nat.le_of_ble_eq_true rfl) dX1_init_1 ?_
  refine wc_aload_n cx dX1_init_4 rfl 0 rfl ?_
  refine wc_bipush cx dX1_init_5 jb_12 ?_
  refine wc_newa0 (N := 12) cx (by decide) (Nat.le_of_ble_eq_true rfl) (Nat.le_of_ble_eq_true rfl) (Nat.le_of_ble_eq_true rfl) dX1_init_7 (fun q1 => ?_)
  refine wc_eq (ws' := [(a, .inr (1, [.int 0, .int 0, .int 0, .null, .null, .null, .null])), (q1, .inl (gca G 0, 12, .inl (fun _ => 0)))]) rfl ?_
  refine wc_putF (ci := 1) (q0 := 0) (j := 3) (C := RX1) (T := TX1) (N := 7) (ty := .array .int) rfl wi1 tyX1 tyX1_ok nmX1 (by decide) gl_X1_9 (by decide +kernel) rfl (by decide +kernel) cx hin rfl rfl rfl (Nat.le_of_ble_eq_true rfl) dX1_init_9 ?_
  refine wc_eq (ws' := [(a, .inr (1, [.int 0, .int 0, .int 0, .ref q1, .null, .null, .null])), (q1, .inl (gca G 0, 12, .inl (fun _ => 0)))]) rfl ?_
  refine wc_aload_n cx dX1_init_12 rfl 0 rfl ?_
  refine wc_bipush cx dX1_init_13 jb_12 ?_
  refine wc_newa0 (N := 12) cx (by decide) (Nat.le_of_ble_eq_true rfl) (Nat.le_of_ble_eq_true rfl) (Nat.le_of_ble_eq_true rfl) dX1_init_15 (fun q2 => ?_)
  refine wc_eq (ws' := [(a, .inr (1, [.int 0, .int 0, .int 0, .ref q1, .null, .null, .null])), (q1, .inl (gca G 0, 12, .inl (fun _ => 0))), (q2, .inl (gca G 0, 12, .inl (fun _ => 0)))]) rfl ?_
  refine wc_putF (ci := 1) (q0 := 0) (j := 4) (C := RX1) (T := TX1) (N := 7) (ty := .array .int) rfl wi1 tyX1 tyX1_ok nmX1 (by decide) gl_X1_15 (by decide +kernel) rfl (by decide +kernel) cx hin rfl rfl rfl (Nat.le_of_ble_eq_true rfl) dX1_init_17 ?_
  refine wc_eq (ws' := [(a, .inr (1, [.int 0, .int 0, .int 0, .ref q1, .ref q2, .null, .null])), (q1, .inl (gca G 0, 12, .inl (fun _ => 0))), (q2, .inl (gca G 0, 12, .inl (fun _ => 0)))]) rfl ?_
  refine wc_aload_n cx dX1_init_20 rfl 0 rfl ?_
  refine wc_iconst cx dX1_init_21 jc_5 ?_
  refine wc_newa0 (N := 5) cx (by decide) (Nat.le_of_ble_eq_true rfl) (Nat.le_of_ble_eq_true rfl) (Nat.le_of_ble_eq_true rfl) dX1_init_22 (fun q3 => ?_)
  refine wc_eq (ws' := [(a, .inr (1, [.int 0, .int 0, .int 0, .ref q1, .ref q2, .null, .null])), (q1, .inl (gca G 0, 12, .inl (fun _ => 0))), (q2, .inl (gca G 0, 12, .inl (fun _ => 0))), (q3, .inl (gca G 0, 5, .inl (fun _ => 0)))]) rfl ?_
  refine wc_putF (ci := 1) (q0 := 0) (j := 5) (C := RX1) (T := TX1) (N := 7) (ty := .array .int) rfl wi1 tyX1 tyX1_ok nmX1 (by decide) gl_X1_18 (by decide +kernel) rfl (by decide +kernel) cx hin rfl rfl rfl (Nat.le_of_ble_eq_true rfl) dX1_init_24 ?_
  refine wc_eq (ws' := [(a, .inr (1, [.int 0, .int 0, .int 0, .ref q1, .ref q2, .ref q3, .null])), (q1, .inl (gca G 0, 12, .inl (fun _ => 0))), (q2, .inl (gca G 0, 12, .inl (fun _ => 0))), (q3, .inl (gca G 0, 5, .inl (fun _ => 0)))]) rfl ?_
  refine wc_aload_n cx dX1_init_27 rfl 0 rfl ?_
  refine wc_iconst cx dX1_init_28 jc_5 ?_
  refine wc_newa0 (N := 5) cx (by decide) (Nat.le_of_ble_eq_true rfl) (Nat.le_of_ble_eq_true rfl) (Nat.le_of_ble_eq_true rfl) dX1_init_29 (fun q4 => ?_)
  refine wc_eq (ws' := [(a, .inr (1, [.int 0, .int 0, .int 0, .ref q1, .ref q2, .ref q3, .null])), (q1, .inl (gca G 0, 12, .inl (fun _ => 0))), (q2, .inl (gca G 0, 12, .inl (fun _ => 0))), (q3, .inl (gca G 0, 5, .inl (fun _ => 0))), (q4, .inl (gca G 0, 5, .inl (fun _ => 0)))]) rfl ?_
  refine wc_putF (ci := 1) (q0 := 0) (j := 6) (C := RX1) (T := TX1) (N := 7) (ty := .array .int) rfl wi1 tyX1 tyX1_ok nmX1 (by decide) gl_X1_21 (by decide +kernel) rfl (by decide +kernel) cx hin rfl rfl rfl (Nat.le_of_ble_eq_true rfl) dX1_init_31 ?_
  refine wc_eq (ws' := [(a, .inr (1, [.int 0, .int 0, .int 0, .ref q1, .ref q2, .ref q3, .ref q4])), (q1, .inl (gca G 0, 12, .inl (fun _ => 0))), (q2, .inl (gca G 0, 12, .inl (fun _ => 0))), (q3, .inl (gca G 0, 5, .inl (fun _ => 0))), (q4, .inl (gca G 0, 5, .inl (fun _ => 0)))]) rfl ?_
  refine wc_eq (ws' := kw_X1 G (fun k => [a, q1, q2, q3, q4].getD k 0)) rfl ?_
  exact hE _ _ _ rfl dX1_init_34
theorem dX0_init_0 : decode cX0_init 0 = .ok (.aload_n 0, 1) := by decide +kernel
theorem dX0_init_1 : decode cX0_init 1 = .ok (.invokespecial 3, 3) := by decide +kernel
theorem dX0_init_4 : decode cX0_init 4 = .ok (.aload_n 0, 1) := by decide +kernel
theorem dX0_init_5 : decode cX0_init 5 = .ok (.bipush 16, 2) := by decide +kernel
theorem dX0_init_7 : decode cX0_init 7 = .ok (.newarray .int, 2) := by decide +kernel
theorem dX0_init_9 : decode cX0_init 9 = .ok (.putfield 9, 3) := by decide +kernel
theorem dX0_init_12 : decode cX0_init 12 = .ok (.return_, 1) := by decide +kernel
set_option maxRecDepth 20000 in
set_option maxHeartbeats 4000000 in
theorem kc_X0 (G : GT) : KC G 1 yX0_init cX0_init 1 0 dl0 1 16 (kw_X0 G) := by
  refine met_C (by decide) rfl (by decide) (fun X a cx hin hE => ?_)
  have cx : CC G X RX0 cX0_init 1 1 1 16 := cx
  refine wc_aload_n cx dX0_init_0 rfl 0 rfl ?_
  refine wc_objInit gml_X0_3 cx (Nat.le_of_ble_eq_true rfl) (Nat.le_of_ble_eq_true rfl) dX0_init_1 ?_
  refine wc_aload_n cx dX0_init_4 rfl 0 rfl ?_
  refine wc_bipush cx dX0_init_5 jb_16 ?_
  refine wc_newa0 (N := 16) cx (by decide) (Nat.le_of_ble_eq_true rfl) (Nat.le_of_ble_eq_true rfl) (Nat.le_of_ble_eq_true rfl) dX0_init_7 (fun q1 => ?_)
  refine wc_eq (ws' := [(a, .inr (0, [.null])), (q1, .inl (gca G 0, 16, .inl (fun _ => 0)))]) rfl ?_
  refine wc_putF (ci := 0) (q0 := 0) (j := 0) (C := RX0) (T := TX0) (N := 1) (ty := .array .int) rfl wi0 tyX0 tyX0_ok nmX0 (by decide) gl_X0_9 (by decide +kernel) rfl (by decide +kernel) cx hin rfl rfl rfl (Nat.le_of_ble_eq_true rfl) dX0_init_9 ?_
  refine wc_eq (ws' := [(a, .inr (0, [.ref q1])), (q1, .inl (gca G 0, 16, .inl (fun _ => 0)))]) rfl ?_
  refine wc_eq (ws' := kw_X0 G (fun k => [a, q1].getD k 0)) rfl ?_
  exact hE _ _ _ rfl dX0_init_12
