theorem cw_0 : ∀ w ∈ u_ws RX0 TX0 11, w ∈ ALLW := by
  have h : u_ws RX0 TX0 11 = [312, 314, 316, 318, 320, 322, 324, 326, 328, 330, 332].filterMap (fun i => lw_tbl[i]?) := by decide +kernel
  have g : (u_ws RX0 TX0 11).all goodWord = true := by decide +kernel
  intro w hw
  have g1 := List.all_eq_true.mp g w hw
  rw [h] at hw
  obtain ⟨i, -, hi⟩ := List.mem_filterMap.mp hw
  exact aw_of hi g1
theorem cw_1 : ∀ w ∈ u_ws RX1 TX1 2, w ∈ ALLW := by
  have h : u_ws RX1 TX1 2 = [219, 221].filterMap (fun i => lw_tbl[i]?) := by decide +kernel
  have g : (u_ws RX1 TX1 2).all goodWord = true := by decide +kernel
  intro w hw
  have g1 := List.all_eq_true.mp g w hw
  rw [h] at hw
  obtain ⟨i, -, hi⟩ := List.mem_filterMap.mp hw
  exact aw_of hi g1
theorem cw_2 : ∀ w ∈ u_ws RX2 TX2 7, w ∈ ALLW := by
  have h : u_ws RX2 TX2 7 = [254, 256, 258, 260, 262, 264, 266].filterMap (fun i => lw_tbl[i]?) := by decide +kernel
  have g : (u_ws RX2 TX2 7).all goodWord = true := by decide +kernel
  intro w hw
  have g1 := List.all_eq_true.mp g w hw
  rw [h] at hw
  obtain ⟨i, -, hi⟩ := List.mem_filterMap.mp hw
  exact aw_of hi g1
theorem cw_3 : ∀ w ∈ u_ws RX3 TX3 7, w ∈ ALLW := by
  have h : u_ws RX3 TX3 7 = [196, 198, 200, 202, 204, 206, 208].filterMap (fun i => lw_tbl[i]?) := by decide +kernel
  have g : (u_ws RX3 TX3 7).all goodWord = true := by decide +kernel
  intro w hw
  have g1 := List.all_eq_true.mp g w hw
  rw [h] at hw
  obtain ⟨i, -, hi⟩ := List.mem_filterMap.mp hw
  exact aw_of hi g1
theorem cw_4 : ∀ w ∈ u_ws RX4 TX4 3, w ∈ ALLW := by
  have h : u_ws RX4 TX4 3 = [283, 285, 287].filterMap (fun i => lw_tbl[i]?) := by decide +kernel
  have g : (u_ws RX4 TX4 3).all goodWord = true := by decide +kernel
  intro w hw
  have g1 := List.all_eq_true.mp g w hw
  rw [h] at hw
  obtain ⟨i, -, hi⟩ := List.mem_filterMap.mp hw
  exact aw_of hi g1
theorem cw_5 : ∀ w ∈ u_ws RX6 TX6 12, w ∈ ALLW := by
  have h : u_ws RX6 TX6 12 = [372, 374, 376, 378, 380, 382, 384, 386, 388, 390, 392, 394].filterMap (fun i => lw_tbl[i]?) := by decide +kernel
  have g : (u_ws RX6 TX6 12).all goodWord = true := by decide +kernel
  intro w hw
  have g1 := List.all_eq_true.mp g w hw
  rw [h] at hw
  obtain ⟨i, -, hi⟩ := List.mem_filterMap.mp hw
  exact aw_of hi g1
theorem cw_6 : ∀ w ∈ u_ws RX7 TX7 6, w ∈ ALLW := by
  have h : u_ws RX7 TX7 6 = [173, 175, 177, 179, 181, 183].filterMap (fun i => lw_tbl[i]?) := by decide +kernel
  have g : (u_ws RX7 TX7 6).all goodWord = true := by decide +kernel
  intro w hw
  have g1 := List.all_eq_true.mp g w hw
  rw [h] at hw
  obtain ⟨i, -, hi⟩ := List.mem_filterMap.mp hw
  exact aw_of hi g1
theorem cw_7 : ∀ w ∈ u_ws RX8 TX8 13, w ∈ ALLW := by
  have h : u_ws RX8 TX8 13 = [411, 413, 415, 417, 419, 421, 423, 425, 427, 429, 431, 433, 435].filterMap (fun i => lw_tbl[i]?) := by decide +kernel
  have g : (u_ws RX8 TX8 13).all goodWord = true := by decide +kernel
  intro w hw
  have g1 := List.all_eq_true.mp g w hw
  rw [h] at hw
  obtain ⟨i, -, hi⟩ := List.mem_filterMap.mp hw
  exact aw_of hi g1
theorem cw_8 : ∀ w ∈ u_ws RX9 TX9 37, w ∈ ALLW := by
  have h : u_ws RX9 TX9 37 = [1243, 1245, 1247, 1249, 1251, 1253, 1255, 1257, 1259, 1261, 1263, 1265, 1267, 1269, 1271, 1273, 1275, 1277, 1279, 1281, 1283, 1285, 1287, 1289, 1291, 1293, 1295, 1297, 1299, 1301, 1303, 1305, 1307, 1309, 1311, 1313, 1315].filterMap (fun i => lw_tbl[i]?) := by decide +kernel
  have g : (u_ws RX9 TX9 37).all goodWord = true := by decide +kernel
  intro w hw
  have g1 := List.all_eq_true.mp g w hw
  rw [h] at hw
  obtain ⟨i, -, hi⟩ := List.mem_filterMap.mp hw
  exact aw_of hi g1
theorem w_O_1 : Cond.methodLink "MarkOffice" 1 Lib.objectInit ∈ ALLW := aw_of (i := 147) (by decide +kernel) rfl
theorem p_O_9 : FPF "MarkOffice" 9 7 0 (tyX8 0) := ⟨RX8, TX8, 13, tyX8, rfl, by decide, by decide, cw_7, aw_of (i := 398) (by decide +kernel) rfl, tyX8_ok, nmX8, rfl, rfl, rfl⟩
theorem p_O_13 : FP "MarkOffice" 13 7 1 (tyX8 1) := ⟨RX8, TX8, 13, tyX8, rfl, by decide, by decide, cw_7, aw_of (i := 399) (by decide +kernel) rfl, tyX8_ok, nmX8, rfl, rfl⟩
theorem p_O_17 : FP "MarkOffice" 17 7 2 (tyX8 2) := ⟨RX8, TX8, 13, tyX8, rfl, by decide, by decide, cw_7, aw_of (i := 400) (by decide +kernel) rfl, tyX8_ok, nmX8, rfl, rfl⟩
theorem p_O_20 : FP "MarkOffice" 20 7 3 (tyX8 3) := ⟨RX8, TX8, 13, tyX8, rfl, by decide, by decide, cw_7, aw_of (i := 401) (by decide +kernel) rfl, tyX8_ok, nmX8, rfl, rfl⟩
theorem w_O_23 : Cond.classLink "MarkOffice" 23 "MarkOffice$Text" ∈ ALLW := aw_of (i := 150) (by decide +kernel) rfl
theorem p_O_25 : FPF "MarkOffice" 25 7 4 (tyX8 4) := ⟨RX8, TX8, 13, tyX8, rfl, by decide, by decide, cw_7, aw_of (i := 402) (by decide +kernel) rfl, tyX8_ok, nmX8, rfl, rfl, rfl⟩
theorem w_O_29 : Cond.classLink "MarkOffice" 29 "MarkOffice$Reader" ∈ ALLW := aw_of (i := 152) (by decide +kernel) rfl
theorem f_O_9 : FS "MarkOffice" 9 7 0 := ⟨RX8, TX8, 13, rfl, by decide, by decide, cw_7, aw_of (i := 398) (by decide +kernel) rfl⟩
theorem s_O_31 : SI "MarkOffice" 31 1 m_D_init := ⟨ok_D_init, aw_of (i := 154) (by decide +kernel) rfl, aw_of (i := 155) (by decide +kernel) rfl, rfl, rfl, by decide +kernel⟩
theorem p_O_34 : FPF "MarkOffice" 34 7 5 (tyX8 5) := ⟨RX8, TX8, 13, tyX8, rfl, by decide, by decide, cw_7, aw_of (i := 403) (by decide +kernel) rfl, tyX8_ok, nmX8, rfl, rfl, rfl⟩
theorem w_O_38 : Cond.classLink "MarkOffice" 38 "MarkOffice$Laws" ∈ ALLW := aw_of (i := 211) (by decide +kernel) rfl
theorem s_O_40 : SIN "MarkOffice" 40 0 m_L_init := ⟨ok_L_init, ⟨"MarkOffice", nw_of (i := 213) (by decide +kernel) rfl⟩, aw_of (i := 214) (by decide +kernel) rfl, rfl, rfl, by decide +kernel⟩
theorem p_O_41 : FPF "MarkOffice" 41 7 6 (tyX8 6) := ⟨RX8, TX8, 13, tyX8, rfl, by decide, by decide, cw_7, aw_of (i := 404) (by decide +kernel) rfl, tyX8_ok, nmX8, rfl, rfl, rfl⟩
theorem w_O_45 : Cond.classLink "MarkOffice" 45 "MarkOffice$Held" ∈ ALLW := aw_of (i := 224) (by decide +kernel) rfl
theorem s_O_47 : SIN "MarkOffice" 47 0 m_H_init := ⟨ok_H_init, ⟨"MarkOffice", nw_of (i := 226) (by decide +kernel) rfl⟩, aw_of (i := 227) (by decide +kernel) rfl, rfl, rfl, by decide +kernel⟩
theorem p_O_48 : FPF "MarkOffice" 48 7 7 (tyX8 7) := ⟨RX8, TX8, 13, tyX8, rfl, by decide, by decide, cw_7, aw_of (i := 405) (by decide +kernel) rfl, tyX8_ok, nmX8, rfl, rfl, rfl⟩
theorem p_O_52 : FPF "MarkOffice" 52 7 8 (tyX8 8) := ⟨RX8, TX8, 13, tyX8, rfl, by decide, by decide, cw_7, aw_of (i := 406) (by decide +kernel) rfl, tyX8_ok, nmX8, rfl, rfl, rfl⟩
theorem w_O_55 : Cond.classLink "MarkOffice" 55 "MarkOffice$Now" ∈ ALLW := aw_of (i := 335) (by decide +kernel) rfl
theorem s_O_57 : SIN "MarkOffice" 57 0 m_N_init := ⟨ok_N_init, ⟨"MarkOffice", nw_of (i := 336) (by decide +kernel) rfl⟩, aw_of (i := 233) (by decide +kernel) rfl, rfl, rfl, by decide +kernel⟩
theorem p_O_58 : FPF "MarkOffice" 58 7 9 (tyX8 9) := ⟨RX8, TX8, 13, tyX8, rfl, by decide, by decide, cw_7, aw_of (i := 407) (by decide +kernel) rfl, tyX8_ok, nmX8, rfl, rfl, rfl⟩
theorem p_O_62 : FPF "MarkOffice" 62 7 10 (tyX8 10) := ⟨RX8, TX8, 13, tyX8, rfl, by decide, by decide, cw_7, aw_of (i := 408) (by decide +kernel) rfl, tyX8_ok, nmX8, rfl, rfl, rfl⟩
theorem p_O_65 : FPF "MarkOffice" 65 7 11 (tyX8 11) := ⟨RX8, TX8, 13, tyX8, rfl, by decide, by decide, cw_7, aw_of (i := 409) (by decide +kernel) rfl, tyX8_ok, nmX8, rfl, rfl, rfl⟩
theorem p_O_68 : FPF "MarkOffice" 68 7 12 (tyX8 12) := ⟨RX8, TX8, 13, tyX8, rfl, by decide, by decide, cw_7, aw_of (i := 410) (by decide +kernel) rfl, tyX8_ok, nmX8, rfl, rfl, rfl⟩
theorem f_O_25 : FS "MarkOffice" 25 7 4 := ⟨RX8, TX8, 13, rfl, by decide, by decide, cw_7, aw_of (i := 402) (by decide +kernel) rfl⟩
theorem s_O_72 : SIN "MarkOffice" 72 0 m_T_init := ⟨ok_T_init, ⟨"MarkOffice", nw_of (i := 338) (by decide +kernel) rfl⟩, aw_of (i := 339) (by decide +kernel) rfl, rfl, rfl, by decide +kernel⟩
theorem w_D_3 : Cond.methodLink "MarkOffice$Reader" 3 Lib.objectInit ∈ ALLW := aw_of (i := 157) (by decide +kernel) rfl
theorem w_D_9 : Cond.classLink "MarkOffice$Reader" 9 "MarkOffice$Tokens" ∈ ALLW := aw_of (i := 158) (by decide +kernel) rfl
theorem s_D_11 : SI "MarkOffice$Reader" 11 1 m_G_init := ⟨ok_G_init, aw_of (i := 160) (by decide +kernel) rfl, aw_of (i := 161) (by decide +kernel) rfl, rfl, rfl, by decide +kernel⟩
theorem p_D_14 : FPF "MarkOffice$Reader" 14 3 0 (tyX3 0) := ⟨RX3, TX3, 7, tyX3, rfl, by decide, by decide, cw_3, aw_of (i := 187) (by decide +kernel) rfl, tyX3_ok, nmX3, rfl, rfl, rfl⟩
theorem w_G_3 : Cond.methodLink "MarkOffice$Tokens" 3 Lib.objectInit ∈ ALLW := aw_of (i := 163) (by decide +kernel) rfl
theorem p_G_9 : FPF "MarkOffice$Tokens" 9 6 0 (tyX7 0) := ⟨RX7, TX7, 6, tyX7, rfl, by decide, by decide, cw_6, aw_of (i := 164) (by decide +kernel) rfl, tyX7_ok, nmX7, rfl, rfl, rfl⟩
theorem p_G_15 : FPF "MarkOffice$Tokens" 15 6 1 (tyX7 1) := ⟨RX7, TX7, 6, tyX7, rfl, by decide, by decide, cw_6, aw_of (i := 166) (by decide +kernel) rfl, tyX7_ok, nmX7, rfl, rfl, rfl⟩
theorem p_G_18 : FPF "MarkOffice$Tokens" 18 6 2 (tyX7 2) := ⟨RX7, TX7, 6, tyX7, rfl, by decide, by decide, cw_6, aw_of (i := 168) (by decide +kernel) rfl, tyX7_ok, nmX7, rfl, rfl, rfl⟩
theorem p_G_21 : FPF "MarkOffice$Tokens" 21 6 3 (tyX7 3) := ⟨RX7, TX7, 6, tyX7, rfl, by decide, by decide, cw_6, aw_of (i := 170) (by decide +kernel) rfl, tyX7_ok, nmX7, rfl, rfl, rfl⟩
theorem w_L_3 : Cond.methodLink "MarkOffice$Laws" 3 Lib.objectInit ∈ ALLW := aw_of (i := 216) (by decide +kernel) rfl
theorem p_L_9 : FPF "MarkOffice$Laws" 9 1 0 (tyX1 0) := ⟨RX1, TX1, 2, tyX1, rfl, by decide, by decide, cw_1, aw_of (i := 217) (by decide +kernel) rfl, tyX1_ok, nmX1, rfl, rfl, rfl⟩
theorem w_H_3 : Cond.methodLink "MarkOffice$Held" 3 Lib.objectInit ∈ ALLW := aw_of (i := 229) (by decide +kernel) rfl
theorem w_H_9 : Cond.classLink "MarkOffice$Held" 9 "MarkOffice$Now" ∈ ALLW := aw_of (i := 230) (by decide +kernel) rfl
theorem s_H_11 : SIN "MarkOffice$Held" 11 0 m_N_init := ⟨ok_N_init, ⟨"MarkOffice", nw_of (i := 232) (by decide +kernel) rfl⟩, aw_of (i := 233) (by decide +kernel) rfl, rfl, rfl, by decide +kernel⟩
theorem p_H_12 : FPF "MarkOffice$Held" 12 0 0 (tyX0 0) := ⟨RX0, TX0, 11, tyX0, rfl, by decide, by decide, cw_0, aw_of (i := 290) (by decide +kernel) rfl, tyX0_ok, nmX0, rfl, rfl, rfl⟩
theorem w_H_18 : Cond.classLink "MarkOffice$Held" 18 "MarkOffice$Steps" ∈ ALLW := aw_of (i := 269) (by decide +kernel) rfl
theorem s_H_20 : SI "MarkOffice$Held" 20 0 m_S_init := ⟨ok_S_init, aw_of (i := 271) (by decide +kernel) rfl, aw_of (i := 272) (by decide +kernel) rfl, rfl, rfl, by decide +kernel⟩
theorem p_H_21 : FPF "MarkOffice$Held" 21 0 1 (tyX0 1) := ⟨RX0, TX0, 11, tyX0, rfl, by decide, by decide, cw_0, aw_of (i := 292) (by decide +kernel) rfl, tyX0_ok, nmX0, rfl, rfl, rfl⟩
theorem p_H_25 : FPF "MarkOffice$Held" 25 0 2 (tyX0 2) := ⟨RX0, TX0, 11, tyX0, rfl, by decide, by decide, cw_0, aw_of (i := 294) (by decide +kernel) rfl, tyX0_ok, nmX0, rfl, rfl, rfl⟩
theorem p_H_29 : FP "MarkOffice$Held" 29 0 4 (tyX0 4) := ⟨RX0, TX0, 11, tyX0, rfl, by decide, by decide, cw_0, aw_of (i := 298) (by decide +kernel) rfl, tyX0_ok, nmX0, rfl, rfl⟩
theorem p_H_33 : FPF "MarkOffice$Held" 33 0 8 (tyX0 8) := ⟨RX0, TX0, 11, tyX0, rfl, by decide, by decide, cw_0, aw_of (i := 306) (by decide +kernel) rfl, tyX0_ok, nmX0, rfl, rfl, rfl⟩
theorem p_H_36 : FPF "MarkOffice$Held" 36 0 9 (tyX0 9) := ⟨RX0, TX0, 11, tyX0, rfl, by decide, by decide, cw_0, aw_of (i := 308) (by decide +kernel) rfl, tyX0_ok, nmX0, rfl, rfl, rfl⟩
theorem p_H_39 : FPF "MarkOffice$Held" 39 0 10 (tyX0 10) := ⟨RX0, TX0, 11, tyX0, rfl, by decide, by decide, cw_0, aw_of (i := 310) (by decide +kernel) rfl, tyX0_ok, nmX0, rfl, rfl, rfl⟩
theorem w_N_3 : Cond.methodLink "MarkOffice$Now" 3 Lib.objectInit ∈ ALLW := aw_of (i := 235) (by decide +kernel) rfl
theorem p_N_9 : FPF "MarkOffice$Now" 9 2 1 (tyX2 1) := ⟨RX2, TX2, 7, tyX2, rfl, by decide, by decide, cw_2, aw_of (i := 239) (by decide +kernel) rfl, tyX2_ok, nmX2, rfl, rfl, rfl⟩
theorem p_N_15 : FP "MarkOffice$Now" 15 2 4 (tyX2 4) := ⟨RX2, TX2, 7, tyX2, rfl, by decide, by decide, cw_2, aw_of (i := 249) (by decide +kernel) rfl, tyX2_ok, nmX2, rfl, rfl⟩
theorem p_N_19 : FPF "MarkOffice$Now" 19 2 6 (tyX2 6) := ⟨RX2, TX2, 7, tyX2, rfl, by decide, by decide, cw_2, aw_of (i := 253) (by decide +kernel) rfl, tyX2_ok, nmX2, rfl, rfl, rfl⟩
theorem w_S_3 : Cond.methodLink "MarkOffice$Steps" 3 Lib.objectInit ∈ ALLW := aw_of (i := 274) (by decide +kernel) rfl
theorem w_S_9 : Cond.classLink "MarkOffice$Steps" 9 "MarkOffice$Now" ∈ ALLW := aw_of (i := 275) (by decide +kernel) rfl
theorem p_S_11 : FPF "MarkOffice$Steps" 11 4 0 (tyX4 0) := ⟨RX4, TX4, 3, tyX4, rfl, by decide, by decide, cw_4, aw_of (i := 278) (by decide +kernel) rfl, tyX4_ok, nmX4, rfl, rfl, rfl⟩
theorem f_S_11 : FS "MarkOffice$Steps" 11 4 0 := ⟨RX4, TX4, 3, rfl, by decide, by decide, cw_4, aw_of (i := 278) (by decide +kernel) rfl⟩
theorem s_S_17 : SIN "MarkOffice$Steps" 17 0 m_N_init := ⟨ok_N_init, ⟨"MarkOffice", nw_of (i := 277) (by decide +kernel) rfl⟩, aw_of (i := 233) (by decide +kernel) rfl, rfl, rfl, by decide +kernel⟩
theorem w_T_3 : Cond.methodLink "MarkOffice$Text" 3 Lib.objectInit ∈ ALLW := aw_of (i := 341) (by decide +kernel) rfl
theorem p_T_9 : FPF "MarkOffice$Text" 9 5 0 (tyX6 0) := ⟨RX6, TX6, 12, tyX6, rfl, by decide, by decide, cw_5, aw_of (i := 342) (by decide +kernel) rfl, tyX6_ok, nmX6, rfl, rfl, rfl⟩
theorem p_T_15 : FPF "MarkOffice$Text" 15 5 9 (tyX6 9) := ⟨RX6, TX6, 12, tyX6, rfl, by decide, by decide, cw_5, aw_of (i := 363) (by decide +kernel) rfl, tyX6_ok, nmX6, rfl, rfl, rfl⟩
theorem p_T_18 : FPF "MarkOffice$Text" 18 5 10 (tyX6 10) := ⟨RX6, TX6, 12, tyX6, rfl, by decide, by decide, cw_5, aw_of (i := 366) (by decide +kernel) rfl, tyX6_ok, nmX6, rfl, rfl, rfl⟩
theorem p_T_21 : FPF "MarkOffice$Text" 21 5 11 (tyX6 11) := ⟨RX6, TX6, 12, tyX6, rfl, by decide, by decide, cw_5, aw_of (i := 369) (by decide +kernel) rfl, tyX6_ok, nmX6, rfl, rfl, rfl⟩
theorem s_O_73 : ST "MarkOffice" 73 1 m_O_isSet := ⟨ok_O_isSet, aw_of (i := 442) (by decide +kernel) rfl, aw_of (i := 443) (by decide +kernel) rfl, by decide +kernel⟩
theorem f_O_48 : FS "MarkOffice" 48 7 7 := ⟨RX8, TX8, 13, rfl, by decide, by decide, cw_7, aw_of (i := 405) (by decide +kernel) rfl⟩
theorem s_O_77 : SV "MarkOffice" 77 1 m_H_register := ⟨ok_H_register, aw_of (i := 446) (by decide +kernel) rfl, aw_of (i := 447) (by decide +kernel) rfl, aw_of (i := 448) (by decide +kernel) rfl, by decide +kernel⟩
theorem w_O_345 : Cond.constant "MarkOffice" 345 (1048576) ∈ ALLW := aw_of (i := 445) (by decide +kernel) rfl
theorem f_H_12 : FS "MarkOffice$Held" 12 0 0 := ⟨RX0, TX0, 11, rfl, by decide, by decide, cw_0, aw_of (i := 290) (by decide +kernel) rfl⟩
theorem f_H_67 : FS "MarkOffice$Held" 67 2 0 := ⟨RX2, TX2, 7, rfl, by decide, by decide, cw_2, aw_of (i := 237) (by decide +kernel) rfl⟩
theorem f_H_25 : FS "MarkOffice$Held" 25 0 2 := ⟨RX0, TX0, 11, rfl, by decide, by decide, cw_0, aw_of (i := 294) (by decide +kernel) rfl⟩
theorem f_H_70 : FS "MarkOffice$Held" 70 2 1 := ⟨RX2, TX2, 7, rfl, by decide, by decide, cw_2, aw_of (i := 241) (by decide +kernel) rfl⟩
theorem p_H_67 : FP "MarkOffice$Held" 67 2 0 (tyX2 0) := ⟨RX2, TX2, 7, tyX2, rfl, by decide, by decide, cw_2, aw_of (i := 237) (by decide +kernel) rfl, tyX2_ok, nmX2, rfl, rfl⟩
theorem f_O_13 : FS "MarkOffice" 13 7 1 := ⟨RX8, TX8, 13, rfl, by decide, by decide, cw_7, aw_of (i := 399) (by decide +kernel) rfl⟩
theorem s_O_81 : SV "MarkOffice" 81 1 m_O_putWord := ⟨ok_O_putWord, aw_of (i := 454) (by decide +kernel) rfl, aw_of (i := 456) (by decide +kernel) rfl, aw_of (i := 0) (by decide +kernel) rfl, by decide +kernel⟩
theorem f_O_85 : FS "MarkOffice" 85 0 3 := ⟨RX0, TX0, 11, rfl, by decide, by decide, cw_0, aw_of (i := 297) (by decide +kernel) rfl⟩
theorem f_O_34 : FS "MarkOffice" 34 7 5 := ⟨RX8, TX8, 13, rfl, by decide, by decide, cw_7, aw_of (i := 403) (by decide +kernel) rfl⟩
theorem s_O_87 : SV "MarkOffice" 87 2 m_D_read := ⟨ok_D_read, aw_of (i := 466) (by decide +kernel) rfl, aw_of (i := 467) (by decide +kernel) rfl, aw_of (i := 468) (by decide +kernel) rfl, by decide +kernel⟩
theorem f_O_91 : FS "MarkOffice" 91 3 5 := ⟨RX3, TX3, 7, rfl, by decide, by decide, cw_3, aw_of (i := 193) (by decide +kernel) rfl⟩
theorem f_O_94 : FS "MarkOffice" 94 3 6 := ⟨RX3, TX3, 7, rfl, by decide, by decide, cw_3, aw_of (i := 195) (by decide +kernel) rfl⟩
theorem f_O_17 : FS "MarkOffice" 17 7 2 := ⟨RX8, TX8, 13, rfl, by decide, by decide, cw_7, aw_of (i := 400) (by decide +kernel) rfl⟩
theorem p_O_85 : FP "MarkOffice" 85 0 3 (tyX0 3) := ⟨RX0, TX0, 11, tyX0, rfl, by decide, by decide, cw_0, aw_of (i := 297) (by decide +kernel) rfl, tyX0_ok, nmX0, rfl, rfl⟩
theorem f_D_14 : FS "MarkOffice$Reader" 14 3 0 := ⟨RX3, TX3, 7, rfl, by decide, by decide, cw_3, aw_of (i := 187) (by decide +kernel) rfl⟩
theorem s_D_20 : SV "MarkOffice$Reader" 20 1 m_G_take := ⟨ok_G_take, aw_of (i := 470) (by decide +kernel) rfl, aw_of (i := 471) (by decide +kernel) rfl, aw_of (i := 472) (by decide +kernel) rfl, by decide +kernel⟩
theorem p_D_24 : FP "MarkOffice$Reader" 24 3 1 (tyX3 1) := ⟨RX3, TX3, 7, tyX3, rfl, by decide, by decide, cw_3, aw_of (i := 188) (by decide +kernel) rfl, tyX3_ok, nmX3, rfl, rfl⟩
theorem f_D_28 : FS "MarkOffice$Reader" 28 6 0 := ⟨RX7, TX7, 6, rfl, by decide, by decide, cw_6, aw_of (i := 165) (by decide +kernel) rfl⟩
theorem p_D_32 : FP "MarkOffice$Reader" 32 3 2 (tyX3 2) := ⟨RX3, TX3, 7, tyX3, rfl, by decide, by decide, cw_3, aw_of (i := 189) (by decide +kernel) rfl, tyX3_ok, nmX3, rfl, rfl⟩
theorem p_D_34 : FP "MarkOffice$Reader" 34 3 4 (tyX3 4) := ⟨RX3, TX3, 7, tyX3, rfl, by decide, by decide, cw_3, aw_of (i := 191) (by decide +kernel) rfl, tyX3_ok, nmX3, rfl, rfl⟩
theorem f_D_34 : FS "MarkOffice$Reader" 34 3 4 := ⟨RX3, TX3, 7, rfl, by decide, by decide, cw_3, aw_of (i := 191) (by decide +kernel) rfl⟩
theorem s_D_38 : SV "MarkOffice$Reader" 38 0 m_T_empty := ⟨ok_T_empty, aw_of (i := 602) (by decide +kernel) rfl, aw_of (i := 603) (by decide +kernel) rfl, aw_of (i := 604) (by decide +kernel) rfl, by decide +kernel⟩
theorem p_D_43 : FP "MarkOffice$Reader" 43 3 5 (tyX3 5) := ⟨RX3, TX3, 7, tyX3, rfl, by decide, by decide, cw_3, aw_of (i := 192) (by decide +kernel) rfl, tyX3_ok, nmX3, rfl, rfl⟩
theorem p_D_46 : FP "MarkOffice$Reader" 46 3 6 (tyX3 6) := ⟨RX3, TX3, 7, tyX3, rfl, by decide, by decide, cw_3, aw_of (i := 194) (by decide +kernel) rfl, tyX3_ok, nmX3, rfl, rfl⟩
theorem f_D_32 : FS "MarkOffice$Reader" 32 3 2 := ⟨RX3, TX3, 7, rfl, by decide, by decide, cw_3, aw_of (i := 189) (by decide +kernel) rfl⟩
theorem f_D_43 : FS "MarkOffice$Reader" 43 3 5 := ⟨RX3, TX3, 7, rfl, by decide, by decide, cw_3, aw_of (i := 192) (by decide +kernel) rfl⟩
theorem s_D_49 : SV "MarkOffice$Reader" 49 0 m_D_readClause := ⟨ok_D_readClause, aw_of (i := 606) (by decide +kernel) rfl, aw_of (i := 608) (by decide +kernel) rfl, aw_of (i := 4) (by decide +kernel) rfl, by decide +kernel⟩
theorem w_G_24 : Cond.methodLink "MarkOffice$Tokens" 24 Lib.Math.min.name ∈ ALLW := aw_of (i := 474) (by decide +kernel) rfl
theorem p_G_30 : FP "MarkOffice$Tokens" 30 6 4 (tyX7 4) := ⟨RX7, TX7, 6, tyX7, rfl, by decide, by decide, cw_6, aw_of (i := 171) (by decide +kernel) rfl, tyX7_ok, nmX7, rfl, rfl⟩
theorem p_G_34 : FP "MarkOffice$Tokens" 34 6 5 (tyX7 5) := ⟨RX7, TX7, 6, tyX7, rfl, by decide, by decide, cw_6, aw_of (i := 172) (by decide +kernel) rfl, tyX7_ok, nmX7, rfl, rfl⟩
theorem f_G_34 : FS "MarkOffice$Tokens" 34 6 5 := ⟨RX7, TX7, 6, rfl, by decide, by decide, cw_6, aw_of (i := 172) (by decide +kernel) rfl⟩
theorem f_G_30 : FS "MarkOffice$Tokens" 30 6 4 := ⟨RX7, TX7, 6, rfl, by decide, by decide, cw_6, aw_of (i := 171) (by decide +kernel) rfl⟩
theorem f_G_21 : FS "MarkOffice$Tokens" 21 6 3 := ⟨RX7, TX7, 6, rfl, by decide, by decide, cw_6, aw_of (i := 170) (by decide +kernel) rfl⟩
theorem f_G_15 : FS "MarkOffice$Tokens" 15 6 1 := ⟨RX7, TX7, 6, rfl, by decide, by decide, cw_6, aw_of (i := 166) (by decide +kernel) rfl⟩
theorem f_G_9 : FS "MarkOffice$Tokens" 9 6 0 := ⟨RX7, TX7, 6, rfl, by decide, by decide, cw_6, aw_of (i := 164) (by decide +kernel) rfl⟩
theorem s_G_37 : ST "MarkOffice$Tokens" 37 1 m_G_isLetter := ⟨ok_G_isLetter, aw_of (i := 477) (by decide +kernel) rfl, aw_of (i := 478) (by decide +kernel) rfl, by decide +kernel⟩
theorem s_G_41 : SV "MarkOffice$Tokens" 41 0 m_G_takeWord := ⟨ok_G_takeWord, aw_of (i := 480) (by decide +kernel) rfl, aw_of (i := 482) (by decide +kernel) rfl, aw_of (i := 1) (by decide +kernel) rfl, by decide +kernel⟩
theorem s_G_45 : ST "MarkOffice$Tokens" 45 1 m_G_isDigit := ⟨ok_G_isDigit, aw_of (i := 533) (by decide +kernel) rfl, aw_of (i := 534) (by decide +kernel) rfl, by decide +kernel⟩
theorem s_G_48 : SV "MarkOffice$Tokens" 48 1 m_G_takeDigits := ⟨ok_G_takeDigits, aw_of (i := 536) (by decide +kernel) rfl, aw_of (i := 538) (by decide +kernel) rfl, aw_of (i := 2) (by decide +kernel) rfl, by decide +kernel⟩
theorem s_G_52 : SV "MarkOffice$Tokens" 52 0 m_G_takeSign := ⟨ok_G_takeSign, aw_of (i := 540) (by decide +kernel) rfl, aw_of (i := 542) (by decide +kernel) rfl, aw_of (i := 3) (by decide +kernel) rfl, by decide +kernel⟩
theorem s_G_57 : SV "MarkOffice$Tokens" 57 0 m_JS_length := ⟨ok_JS_length, aw_of (i := 485) (by decide +kernel) rfl, aw_of (i := 486) (by decide +kernel) rfl, aw_of (i := 487) (by decide +kernel) rfl, by decide +kernel⟩
theorem s_G_61 : SV "MarkOffice$Tokens" 61 1 m_JS_charAt := ⟨ok_JS_charAt, aw_of (i := 495) (by decide +kernel) rfl, aw_of (i := 496) (by decide +kernel) rfl, aw_of (i := 497) (by decide +kernel) rfl, by decide +kernel⟩
theorem w_JS_9 : Cond.fieldLink "java/lang/String" 9 "java/lang/String" "value" "[B" ∈ ALLW := aw_of (i := 1924) (by decide +kernel) rfl
theorem s_JS_335 : SV "java/lang/String" 335 0 m_JS_coder := ⟨ok_JS_coder, aw_of (i := 489) (by decide +kernel) rfl, aw_of (i := 490) (by decide +kernel) rfl, aw_of (i := 491) (by decide +kernel) rfl, by decide +kernel⟩
theorem w_JS_38 : Cond.fieldLink "java/lang/String" 38 "java/lang/String" "COMPACT_STRINGS" "Z" ∈ ALLW := aw_of (i := 493) (by decide +kernel) rfl
theorem w_JS_15 : Cond.fieldLink "java/lang/String" 15 "java/lang/String" "coder" "B" ∈ ALLW := aw_of (i := 1925) (by decide +kernel) rfl
theorem s_JS_492 : SV "java/lang/String" 492 0 m_JS_isLatin1 := ⟨ok_JS_isLatin1, aw_of (i := 499) (by decide +kernel) rfl, aw_of (i := 500) (by decide +kernel) rfl, aw_of (i := 501) (by decide +kernel) rfl, by decide +kernel⟩
theorem s_JS_495 : ST "java/lang/String" 495 2 m_JL_charAt := ⟨ok_JL_charAt, aw_of (i := 503) (by decide +kernel) rfl, aw_of (i := 504) (by decide +kernel) rfl, by decide +kernel⟩
theorem s_JL_9 : ST "java/lang/StringLatin1" 9 2 m_JS_checkIndex := ⟨ok_JS_checkIndex, aw_of (i := 506) (by decide +kernel) rfl, aw_of (i := 507) (by decide +kernel) rfl, by decide +kernel⟩
theorem w_JS_1053 : Cond.fieldLink "java/lang/String" 1053 "jdk/internal/util/Preconditions" "SIOOBE_FORMATTER" "Ljava/util/function/BiFunction;" ∈ ALLW := aw_of (i := 509) (by decide +kernel) rfl
theorem s_JS_1059 : ST "java/lang/String" 1059 3 m_JP_checkIndex := ⟨ok_JP_checkIndex, aw_of (i := 511) (by decide +kernel) rfl, aw_of (i := 512) (by decide +kernel) rfl, by decide +kernel⟩
theorem f_G_18 : FS "MarkOffice$Tokens" 18 6 2 := ⟨RX7, TX7, 6, rfl, by decide, by decide, cw_6, aw_of (i := 168) (by decide +kernel) rfl⟩
theorem s_G_67 : SV "MarkOffice$Tokens" 67 1 m_JS_indexOf_II := ⟨ok_JS_indexOf_II, aw_of (i := 545) (by decide +kernel) rfl, aw_of (i := 546) (by decide +kernel) rfl, aw_of (i := 547) (by decide +kernel) rfl, by decide +kernel⟩
theorem s_JS_633 : SV "java/lang/String" 633 2 m_JS_indexOf_III := ⟨ok_JS_indexOf_III, aw_of (i := 549) (by decide +kernel) rfl, aw_of (i := 550) (by decide +kernel) rfl, aw_of (i := 551) (by decide +kernel) rfl, by decide +kernel⟩
theorem s_JS_505 : SV "java/lang/String" 505 0 m_JS_length := ⟨ok_JS_length, aw_of (i := 553) (by decide +kernel) rfl, aw_of (i := 486) (by decide +kernel) rfl, aw_of (i := 487) (by decide +kernel) rfl, by decide +kernel⟩
theorem s_JS_637 : ST "java/lang/String" 637 4 m_JL_indexOf := ⟨ok_JL_indexOf, aw_of (i := 554) (by decide +kernel) rfl, aw_of (i := 555) (by decide +kernel) rfl, by decide +kernel⟩
theorem s_JL_88 : ST "java/lang/StringLatin1" 88 1 m_JL_canEncode := ⟨ok_JL_canEncode, aw_of (i := 557) (by decide +kernel) rfl, aw_of (i := 558) (by decide +kernel) rfl, by decide +kernel⟩
theorem w_JL_92 : Cond.methodLink "java/lang/StringLatin1" 92 Lib.Math.max.name ∈ ALLW := aw_of (i := 560) (by decide +kernel) rfl
theorem w_JL_38 : Cond.methodLink "java/lang/StringLatin1" 38 Lib.Math.min.name ∈ ALLW := aw_of (i := 563) (by decide +kernel) rfl
theorem s_JL_95 : ST "java/lang/StringLatin1" 95 4 m_JL_indexOfChar := ⟨ok_JL_indexOfChar, aw_of (i := 564) (by decide +kernel) rfl, aw_of (i := 565) (by decide +kernel) rfl, by decide +kernel⟩
theorem p_T_24 : FP "MarkOffice$Text" 24 5 1 (tyX6 1) := ⟨RX6, TX6, 12, tyX6, rfl, by decide, by decide, cw_5, aw_of (i := 344) (by decide +kernel) rfl, tyX6_ok, nmX6, rfl, rfl⟩
theorem p_T_28 : FP "MarkOffice$Text" 28 5 2 (tyX6 2) := ⟨RX6, TX6, 12, tyX6, rfl, by decide, by decide, cw_5, aw_of (i := 347) (by decide +kernel) rfl, tyX6_ok, nmX6, rfl, rfl⟩
theorem p_T_32 : FP "MarkOffice$Text" 32 5 5 (tyX6 5) := ⟨RX6, TX6, 12, tyX6, rfl, by decide, by decide, cw_5, aw_of (i := 353) (by decide +kernel) rfl, tyX6_ok, nmX6, rfl, rfl⟩
theorem p_T_35 : FP "MarkOffice$Text" 35 5 8 (tyX6 8) := ⟨RX6, TX6, 12, tyX6, rfl, by decide, by decide, cw_5, aw_of (i := 360) (by decide +kernel) rfl, tyX6_ok, nmX6, rfl, rfl⟩
theorem s_D_57 : SV "MarkOffice$Reader" 57 1 m_D_refuse := ⟨ok_D_refuse, aw_of (i := 610) (by decide +kernel) rfl, aw_of (i := 612) (by decide +kernel) rfl, aw_of (i := 5) (by decide +kernel) rfl, by decide +kernel⟩
theorem f_D_63 : FS "MarkOffice$Reader" 63 5 2 := ⟨RX6, TX6, 12, rfl, by decide, by decide, cw_5, aw_of (i := 348) (by decide +kernel) rfl⟩
theorem f_D_67 : FS "MarkOffice$Reader" 67 5 5 := ⟨RX6, TX6, 12, rfl, by decide, by decide, cw_5, aw_of (i := 355) (by decide +kernel) rfl⟩
theorem f_D_70 : FS "MarkOffice$Reader" 70 5 8 := ⟨RX6, TX6, 12, rfl, by decide, by decide, cw_5, aw_of (i := 361) (by decide +kernel) rfl⟩
theorem f_D_73 : FS "MarkOffice$Reader" 73 5 9 := ⟨RX6, TX6, 12, rfl, by decide, by decide, cw_5, aw_of (i := 364) (by decide +kernel) rfl⟩
theorem p_D_70 : FP "MarkOffice$Reader" 70 5 8 (tyX6 8) := ⟨RX6, TX6, 12, tyX6, rfl, by decide, by decide, cw_5, aw_of (i := 361) (by decide +kernel) rfl, tyX6_ok, nmX6, rfl, rfl⟩
theorem s_D_54 : SV "MarkOffice$Reader" 54 0 m_D_advance := ⟨ok_D_advance, aw_of (i := 614) (by decide +kernel) rfl, aw_of (i := 616) (by decide +kernel) rfl, aw_of (i := 6) (by decide +kernel) rfl, by decide +kernel⟩
theorem s_D_76 : SV "MarkOffice$Reader" 76 1 m_D_readLaw := ⟨ok_D_readLaw, aw_of (i := 618) (by decide +kernel) rfl, aw_of (i := 620) (by decide +kernel) rfl, aw_of (i := 7) (by decide +kernel) rfl, by decide +kernel⟩
theorem s_D_80 : SV "MarkOffice$Reader" 80 2 m_D_readDeed := ⟨ok_D_readDeed, aw_of (i := 678) (by decide +kernel) rfl, aw_of (i := 680) (by decide +kernel) rfl, aw_of (i := 20) (by decide +kernel) rfl, by decide +kernel⟩
theorem s_D_84 : SV "MarkOffice$Reader" 84 1 m_D_expect := ⟨ok_D_expect, aw_of (i := 646) (by decide +kernel) rfl, aw_of (i := 648) (by decide +kernel) rfl, aw_of (i := 13) (by decide +kernel) rfl, by decide +kernel⟩
theorem f_D_52 : FS "MarkOffice$Reader" 52 6 1 := ⟨RX7, TX7, 6, rfl, by decide, by decide, cw_6, aw_of (i := 167) (by decide +kernel) rfl⟩
theorem f_D_24 : FS "MarkOffice$Reader" 24 3 1 := ⟨RX3, TX3, 7, rfl, by decide, by decide, cw_3, aw_of (i := 188) (by decide +kernel) rfl⟩
theorem p_D_87 : FP "MarkOffice$Reader" 87 3 3 (tyX3 3) := ⟨RX3, TX3, 7, tyX3, rfl, by decide, by decide, cw_3, aw_of (i := 190) (by decide +kernel) rfl, tyX3_ok, nmX3, rfl, rfl⟩
theorem f_D_90 : FS "MarkOffice$Reader" 90 5 1 := ⟨RX6, TX6, 12, rfl, by decide, by decide, cw_5, aw_of (i := 345) (by decide +kernel) rfl⟩
theorem s_D_93 : SV "MarkOffice$Reader" 93 1 m_D_readSum := ⟨ok_D_readSum, aw_of (i := 622) (by decide +kernel) rfl, aw_of (i := 624) (by decide +kernel) rfl, aw_of (i := 8) (by decide +kernel) rfl, by decide +kernel⟩
theorem p_D_63 : FP "MarkOffice$Reader" 63 5 2 (tyX6 2) := ⟨RX6, TX6, 12, tyX6, rfl, by decide, by decide, cw_5, aw_of (i := 348) (by decide +kernel) rfl, tyX6_ok, nmX6, rfl, rfl⟩
theorem p_D_96 : FP "MarkOffice$Reader" 96 5 3 (tyX6 3) := ⟨RX6, TX6, 12, tyX6, rfl, by decide, by decide, cw_5, aw_of (i := 350) (by decide +kernel) rfl, tyX6_ok, nmX6, rfl, rfl⟩
theorem p_D_99 : FP "MarkOffice$Reader" 99 5 4 (tyX6 4) := ⟨RX6, TX6, 12, tyX6, rfl, by decide, by decide, cw_5, aw_of (i := 352) (by decide +kernel) rfl, tyX6_ok, nmX6, rfl, rfl⟩
theorem p_D_67 : FP "MarkOffice$Reader" 67 5 5 (tyX6 5) := ⟨RX6, TX6, 12, tyX6, rfl, by decide, by decide, cw_5, aw_of (i := 355) (by decide +kernel) rfl, tyX6_ok, nmX6, rfl, rfl⟩
theorem p_D_102 : FP "MarkOffice$Reader" 102 5 6 (tyX6 6) := ⟨RX6, TX6, 12, tyX6, rfl, by decide, by decide, cw_5, aw_of (i := 357) (by decide +kernel) rfl, tyX6_ok, nmX6, rfl, rfl⟩
theorem p_D_105 : FP "MarkOffice$Reader" 105 5 7 (tyX6 7) := ⟨RX6, TX6, 12, tyX6, rfl, by decide, by decide, cw_5, aw_of (i := 359) (by decide +kernel) rfl, tyX6_ok, nmX6, rfl, rfl⟩
theorem s_D_133 : SV "MarkOffice$Reader" 133 1 m_D_readProduct := ⟨ok_D_readProduct, aw_of (i := 626) (by decide +kernel) rfl, aw_of (i := 628) (by decide +kernel) rfl, aw_of (i := 9) (by decide +kernel) rfl, by decide +kernel⟩
theorem s_D_136 : SV "MarkOffice$Reader" 136 2 m_T_write := ⟨ok_T_write, aw_of (i := 638) (by decide +kernel) rfl, aw_of (i := 639) (by decide +kernel) rfl, aw_of (i := 640) (by decide +kernel) rfl, by decide +kernel⟩
theorem s_D_139 : SV "MarkOffice$Reader" 139 1 m_D_readOne := ⟨ok_D_readOne, aw_of (i := 630) (by decide +kernel) rfl, aw_of (i := 632) (by decide +kernel) rfl, aw_of (i := 10) (by decide +kernel) rfl, by decide +kernel⟩
theorem s_D_115 : SV "MarkOffice$Reader" 115 2 m_D_takeNumber := ⟨ok_D_takeNumber, aw_of (i := 634) (by decide +kernel) rfl, aw_of (i := 636) (by decide +kernel) rfl, aw_of (i := 11) (by decide +kernel) rfl, by decide +kernel⟩
theorem s_D_142 : SV "MarkOffice$Reader" 142 1 m_D_readOpenOne := ⟨ok_D_readOpenOne, aw_of (i := 642) (by decide +kernel) rfl, aw_of (i := 644) (by decide +kernel) rfl, aw_of (i := 12) (by decide +kernel) rfl, by decide +kernel⟩
theorem s_D_145 : SV "MarkOffice$Reader" 145 0 m_D_readName := ⟨ok_D_readName, aw_of (i := 674) (by decide +kernel) rfl, aw_of (i := 676) (by decide +kernel) rfl, aw_of (i := 19) (by decide +kernel) rfl, by decide +kernel⟩
theorem f_D_60 : FS "MarkOffice$Reader" 60 6 2 := ⟨RX7, TX7, 6, rfl, by decide, by decide, cw_6, aw_of (i := 169) (by decide +kernel) rfl⟩
theorem f_T_24 : FS "MarkOffice$Text" 24 5 1 := ⟨RX6, TX6, 12, rfl, by decide, by decide, cw_5, aw_of (i := 344) (by decide +kernel) rfl⟩
theorem f_T_9 : FS "MarkOffice$Text" 9 5 0 := ⟨RX6, TX6, 12, rfl, by decide, by decide, cw_5, aw_of (i := 342) (by decide +kernel) rfl⟩
theorem s_D_148 : SV "MarkOffice$Reader" 148 1 m_D_readChoice := ⟨ok_D_readChoice, aw_of (i := 650) (by decide +kernel) rfl, aw_of (i := 652) (by decide +kernel) rfl, aw_of (i := 14) (by decide +kernel) rfl, by decide +kernel⟩
theorem s_D_151 : SV "MarkOffice$Reader" 151 1 m_D_readEither := ⟨ok_D_readEither, aw_of (i := 654) (by decide +kernel) rfl, aw_of (i := 656) (by decide +kernel) rfl, aw_of (i := 15) (by decide +kernel) rfl, by decide +kernel⟩
theorem s_D_154 : SV "MarkOffice$Reader" 154 2 m_T_aim := ⟨ok_T_aim, aw_of (i := 670) (by decide +kernel) rfl, aw_of (i := 671) (by decide +kernel) rfl, aw_of (i := 672) (by decide +kernel) rfl, by decide +kernel⟩
theorem s_D_157 : SV "MarkOffice$Reader" 157 1 m_D_readBoth := ⟨ok_D_readBoth, aw_of (i := 658) (by decide +kernel) rfl, aw_of (i := 660) (by decide +kernel) rfl, aw_of (i := 16) (by decide +kernel) rfl, by decide +kernel⟩
theorem s_D_160 : SV "MarkOffice$Reader" 160 1 m_D_readAsk := ⟨ok_D_readAsk, aw_of (i := 662) (by decide +kernel) rfl, aw_of (i := 664) (by decide +kernel) rfl, aw_of (i := 17) (by decide +kernel) rfl, by decide +kernel⟩
theorem s_D_163 : SV "MarkOffice$Reader" 163 1 m_D_readNot := ⟨ok_D_readNot, aw_of (i := 666) (by decide +kernel) rfl, aw_of (i := 668) (by decide +kernel) rfl, aw_of (i := 18) (by decide +kernel) rfl, by decide +kernel⟩
theorem f_D_87 : FS "MarkOffice$Reader" 87 3 3 := ⟨RX3, TX3, 7, rfl, by decide, by decide, cw_3, aw_of (i := 190) (by decide +kernel) rfl⟩
theorem f_D_108 : FS "MarkOffice$Reader" 108 5 10 := ⟨RX6, TX6, 12, rfl, by decide, by decide, cw_5, aw_of (i := 367) (by decide +kernel) rfl⟩
theorem s_D_111 : SV "MarkOffice$Reader" 111 1 m_D_readShape := ⟨ok_D_readShape, aw_of (i := 682) (by decide +kernel) rfl, aw_of (i := 684) (by decide +kernel) rfl, aw_of (i := 21) (by decide +kernel) rfl, by decide +kernel⟩
theorem f_D_119 : FS "MarkOffice$Reader" 119 5 11 := ⟨RX6, TX6, 12, rfl, by decide, by decide, cw_5, aw_of (i := 370) (by decide +kernel) rfl⟩
theorem s_D_122 : SV "MarkOffice$Reader" 122 1 m_D_readPart := ⟨ok_D_readPart, aw_of (i := 686) (by decide +kernel) rfl, aw_of (i := 688) (by decide +kernel) rfl, aw_of (i := 22) (by decide +kernel) rfl, by decide +kernel⟩
theorem s_D_125 : SV "MarkOffice$Reader" 125 1 m_D_readOpenPart := ⟨ok_D_readOpenPart, aw_of (i := 690) (by decide +kernel) rfl, aw_of (i := 692) (by decide +kernel) rfl, aw_of (i := 23) (by decide +kernel) rfl, by decide +kernel⟩
theorem s_D_128 : ST "MarkOffice$Reader" 128 2 m_K_moved := ⟨ok_K_moved, aw_of (i := 694) (by decide +kernel) rfl, aw_of (i := 695) (by decide +kernel) rfl, by decide +kernel⟩
theorem w_K_15 : Cond.fieldLink "MarkOffice$Strokes" 15 "MarkOffice$Strokes" "MOVED" "[I" ∈ ALLW := aw_of (i := 697) (by decide +kernel) rfl
theorem f_O_20 : FS "MarkOffice" 20 7 3 := ⟨RX8, TX8, 13, rfl, by decide, by decide, cw_7, aw_of (i := 401) (by decide +kernel) rfl⟩
theorem s_O_97 : SV "MarkOffice" 97 1 m_O_isText := ⟨ok_O_isText, aw_of (i := 708) (by decide +kernel) rfl, aw_of (i := 710) (by decide +kernel) rfl, aw_of (i := 24) (by decide +kernel) rfl, by decide +kernel⟩
theorem p_O_100 : FP "MarkOffice" 100 0 4 (tyX0 4) := ⟨RX0, TX0, 11, tyX0, rfl, by decide, by decide, cw_0, aw_of (i := 299) (by decide +kernel) rfl, tyX0_ok, nmX0, rfl, rfl⟩
theorem s_O_103 : SV "MarkOffice" 103 3 m_O_changeByHand := ⟨ok_O_changeByHand, aw_of (i := 716) (by decide +kernel) rfl, aw_of (i := 718) (by decide +kernel) rfl, aw_of (i := 25) (by decide +kernel) rfl, by decide +kernel⟩
theorem f_O_110 : FS "MarkOffice" 110 0 0 := ⟨RX0, TX0, 11, rfl, by decide, by decide, cw_0, aw_of (i := 291) (by decide +kernel) rfl⟩
theorem s_O_346 : SV "MarkOffice" 346 3 m_N_canChange := ⟨ok_N_canChange, aw_of (i := 720) (by decide +kernel) rfl, aw_of (i := 721) (by decide +kernel) rfl, aw_of (i := 722) (by decide +kernel) rfl, by decide +kernel⟩
theorem f_O_135 : FS "MarkOffice" 135 0 1 := ⟨RX0, TX0, 11, rfl, by decide, by decide, cw_0, aw_of (i := 293) (by decide +kernel) rfl⟩
theorem s_O_139 : SV "MarkOffice" 139 1 m_S_push := ⟨ok_S_push, aw_of (i := 735) (by decide +kernel) rfl, aw_of (i := 736) (by decide +kernel) rfl, aw_of (i := 737) (by decide +kernel) rfl, by decide +kernel⟩
theorem s_O_349 : SV "MarkOffice" 349 3 m_N_change := ⟨ok_N_change, aw_of (i := 746) (by decide +kernel) rfl, aw_of (i := 747) (by decide +kernel) rfl, aw_of (i := 748) (by decide +kernel) rfl, by decide +kernel⟩
theorem s_N_40 : SV "MarkOffice$Now" 40 1 m_N_isMark := ⟨ok_N_isMark, aw_of (i := 724) (by decide +kernel) rfl, aw_of (i := 725) (by decide +kernel) rfl, aw_of (i := 726) (by decide +kernel) rfl, by decide +kernel⟩
theorem s_N_44 : STN "MarkOffice$Now" 44 1 m_O_isStroke := ⟨ok_O_isStroke, ⟨"MarkOffice", nw_of (i := 728) (by decide +kernel) rfl⟩, aw_of (i := 729) (by decide +kernel) rfl, by decide +kernel⟩
theorem s_N_47 : SV "MarkOffice$Now" 47 2 m_N_has := ⟨ok_N_has, aw_of (i := 731) (by decide +kernel) rfl, aw_of (i := 732) (by decide +kernel) rfl, aw_of (i := 733) (by decide +kernel) rfl, by decide +kernel⟩
theorem f_N_22 : FS "MarkOffice$Now" 22 2 0 := ⟨RX2, TX2, 7, rfl, by decide, by decide, cw_2, aw_of (i := 236) (by decide +kernel) rfl⟩
theorem f_N_9 : FS "MarkOffice$Now" 9 2 1 := ⟨RX2, TX2, 7, rfl, by decide, by decide, cw_2, aw_of (i := 239) (by decide +kernel) rfl⟩
theorem f_S_18 : FS "MarkOffice$Steps" 18 4 2 := ⟨RX4, TX4, 3, rfl, by decide, by decide, cw_4, aw_of (i := 280) (by decide +kernel) rfl⟩
theorem p_S_18 : FP "MarkOffice$Steps" 18 4 2 (tyX4 2) := ⟨RX4, TX4, 3, tyX4, rfl, by decide, by decide, cw_4, aw_of (i := 280) (by decide +kernel) rfl, tyX4_ok, nmX4, rfl, rfl⟩
theorem f_S_22 : FS "MarkOffice$Steps" 22 4 1 := ⟨RX4, TX4, 3, rfl, by decide, by decide, cw_4, aw_of (i := 279) (by decide +kernel) rfl⟩
theorem p_S_22 : FP "MarkOffice$Steps" 22 4 1 (tyX4 1) := ⟨RX4, TX4, 3, tyX4, rfl, by decide, by decide, cw_4, aw_of (i := 279) (by decide +kernel) rfl, tyX4_ok, nmX4, rfl, rfl⟩
theorem s_S_25 : SV "MarkOffice$Steps" 25 1 m_N_copyFrom := ⟨ok_N_copyFrom, aw_of (i := 739) (by decide +kernel) rfl, aw_of (i := 740) (by decide +kernel) rfl, aw_of (i := 741) (by decide +kernel) rfl, by decide +kernel⟩
theorem p_N_22 : FP "MarkOffice$Now" 22 2 0 (tyX2 0) := ⟨RX2, TX2, 7, tyX2, rfl, by decide, by decide, cw_2, aw_of (i := 236) (by decide +kernel) rfl, tyX2_ok, nmX2, rfl, rfl⟩
theorem f_N_25 : FS "MarkOffice$Now" 25 2 2 := ⟨RX2, TX2, 7, rfl, by decide, by decide, cw_2, aw_of (i := 243) (by decide +kernel) rfl⟩
theorem p_N_25 : FP "MarkOffice$Now" 25 2 2 (tyX2 2) := ⟨RX2, TX2, 7, tyX2, rfl, by decide, by decide, cw_2, aw_of (i := 243) (by decide +kernel) rfl, tyX2_ok, nmX2, rfl, rfl⟩
theorem f_N_28 : FS "MarkOffice$Now" 28 2 3 := ⟨RX2, TX2, 7, rfl, by decide, by decide, cw_2, aw_of (i := 246) (by decide +kernel) rfl⟩
theorem p_N_28 : FP "MarkOffice$Now" 28 2 3 (tyX2 3) := ⟨RX2, TX2, 7, tyX2, rfl, by decide, by decide, cw_2, aw_of (i := 246) (by decide +kernel) rfl, tyX2_ok, nmX2, rfl, rfl⟩
theorem f_N_15 : FS "MarkOffice$Now" 15 2 4 := ⟨RX2, TX2, 7, rfl, by decide, by decide, cw_2, aw_of (i := 249) (by decide +kernel) rfl⟩
theorem f_N_31 : FS "MarkOffice$Now" 31 2 5 := ⟨RX2, TX2, 7, rfl, by decide, by decide, cw_2, aw_of (i := 251) (by decide +kernel) rfl⟩
theorem p_N_31 : FP "MarkOffice$Now" 31 2 5 (tyX2 5) := ⟨RX2, TX2, 7, tyX2, rfl, by decide, by decide, cw_2, aw_of (i := 251) (by decide +kernel) rfl, tyX2_ok, nmX2, rfl, rfl⟩
theorem w_N_34 : Cond.methodLink "MarkOffice$Now" 34 arraycopyName ∈ ALLW := aw_of (i := 743) (by decide +kernel) rfl
theorem f_N_19 : FS "MarkOffice$Now" 19 2 6 := ⟨RX2, TX2, 7, rfl, by decide, by decide, cw_2, aw_of (i := 253) (by decide +kernel) rfl⟩
theorem s_N_51 : SV "MarkOffice$Now" 51 3 m_N_writeDown := ⟨ok_N_writeDown, aw_of (i := 750) (by decide +kernel) rfl, aw_of (i := 751) (by decide +kernel) rfl, aw_of (i := 752) (by decide +kernel) rfl, by decide +kernel⟩
theorem s_O_107 : SV "MarkOffice" 107 1 m_O_renewByHand := ⟨ok_O_renewByHand, aw_of (i := 762) (by decide +kernel) rfl, aw_of (i := 764) (by decide +kernel) rfl, aw_of (i := 26) (by decide +kernel) rfl, by decide +kernel⟩
theorem s_O_166 : SV "MarkOffice" 166 1 m_O_isMark := ⟨ok_O_isMark, aw_of (i := 766) (by decide +kernel) rfl, aw_of (i := 768) (by decide +kernel) rfl, aw_of (i := 27) (by decide +kernel) rfl, by decide +kernel⟩
theorem s_O_335 : SV "MarkOffice" 335 1 m_H_countOther := ⟨ok_H_countOther, aw_of (i := 771) (by decide +kernel) rfl, aw_of (i := 772) (by decide +kernel) rfl, aw_of (i := 773) (by decide +kernel) rfl, by decide +kernel⟩
theorem s_O_353 : SV "MarkOffice" 353 1 m_H_restore := ⟨ok_H_restore, aw_of (i := 781) (by decide +kernel) rfl, aw_of (i := 782) (by decide +kernel) rfl, aw_of (i := 783) (by decide +kernel) rfl, by decide +kernel⟩
theorem s_O_344 : SV "MarkOffice" 344 1 m_N_isMark := ⟨ok_N_isMark, aw_of (i := 770) (by decide +kernel) rfl, aw_of (i := 725) (by decide +kernel) rfl, aw_of (i := 726) (by decide +kernel) rfl, by decide +kernel⟩
theorem s_H_73 : ST "MarkOffice$Held" 73 1 m_JI_bitCount := ⟨ok_JI_bitCount, aw_of (i := 775) (by decide +kernel) rfl, aw_of (i := 776) (by decide +kernel) rfl, by decide +kernel⟩
theorem w_JI_265 : Cond.constant "java/lang/Integer" 265 (1431655765) ∈ ALLW := aw_of (i := 778) (by decide +kernel) rfl
theorem w_JI_266 : Cond.constant "java/lang/Integer" 266 (858993459) ∈ ALLW := aw_of (i := 779) (by decide +kernel) rfl
theorem w_JI_267 : Cond.constant "java/lang/Integer" 267 (252645135) ∈ ALLW := aw_of (i := 780) (by decide +kernel) rfl
theorem s_H_79 : SV "MarkOffice$Held" 79 1 m_H_countOther := ⟨ok_H_countOther, aw_of (i := 785) (by decide +kernel) rfl, aw_of (i := 772) (by decide +kernel) rfl, aw_of (i := 773) (by decide +kernel) rfl, by decide +kernel⟩
theorem s_H_82 : SV "MarkOffice$Held" 82 3 m_N_writeDown := ⟨ok_N_writeDown, aw_of (i := 786) (by decide +kernel) rfl, aw_of (i := 751) (by decide +kernel) rfl, aw_of (i := 752) (by decide +kernel) rfl, by decide +kernel⟩
theorem f_O_113 : FS "MarkOffice" 113 2 3 := ⟨RX2, TX2, 7, rfl, by decide, by decide, cw_2, aw_of (i := 248) (by decide +kernel) rfl⟩
theorem s_O_116 : SV "MarkOffice" 116 1 m_O_passYears := ⟨ok_O_passYears, aw_of (i := 791) (by decide +kernel) rfl, aw_of (i := 793) (by decide +kernel) rfl, aw_of (i := 28) (by decide +kernel) rfl, by decide +kernel⟩
theorem f_O_41 : FS "MarkOffice" 41 7 6 := ⟨RX8, TX8, 13, rfl, by decide, by decide, cw_7, aw_of (i := 404) (by decide +kernel) rfl⟩
theorem s_O_155 : SV "MarkOffice" 155 0 m_O_rules := ⟨ok_O_rules, aw_of (i := 795) (by decide +kernel) rfl, aw_of (i := 797) (by decide +kernel) rfl, aw_of (i := 29) (by decide +kernel) rfl, by decide +kernel⟩
theorem s_O_159 : SV "MarkOffice" 159 2 m_N_passYear := ⟨ok_N_passYear, aw_of (i := 799) (by decide +kernel) rfl, aw_of (i := 800) (by decide +kernel) rfl, aw_of (i := 801) (by decide +kernel) rfl, by decide +kernel⟩
theorem f_O_100 : FS "MarkOffice" 100 0 4 := ⟨RX0, TX0, 11, rfl, by decide, by decide, cw_0, aw_of (i := 299) (by decide +kernel) rfl⟩
theorem w_N_55 : Cond.constant "MarkOffice$Now" 55 (999999) ∈ ALLW := aw_of (i := 803) (by decide +kernel) rfl
theorem s_N_56 : SV "MarkOffice$Now" 56 3 m_L_feeBy := ⟨ok_L_feeBy, aw_of (i := 804) (by decide +kernel) rfl, aw_of (i := 805) (by decide +kernel) rfl, aw_of (i := 806) (by decide +kernel) rfl, by decide +kernel⟩
theorem w_N_62 : Cond.methodLink "MarkOffice$Now" 62 Lib.Math.min.name ∈ ALLW := aw_of (i := 862) (by decide +kernel) rfl
theorem s_N_68 : SV "MarkOffice$Now" 68 0 m_N_nextX := ⟨ok_N_nextX, aw_of (i := 863) (by decide +kernel) rfl, aw_of (i := 864) (by decide +kernel) rfl, aw_of (i := 865) (by decide +kernel) rfl, by decide +kernel⟩
theorem s_N_72 : SV "MarkOffice$Now" 72 4 m_L_wearsBy := ⟨ok_L_wearsBy, aw_of (i := 867) (by decide +kernel) rfl, aw_of (i := 868) (by decide +kernel) rfl, aw_of (i := 869) (by decide +kernel) rfl, by decide +kernel⟩
theorem s_N_76 : SV "MarkOffice$Now" 76 3 m_N_change := ⟨ok_N_change, aw_of (i := 871) (by decide +kernel) rfl, aw_of (i := 747) (by decide +kernel) rfl, aw_of (i := 748) (by decide +kernel) rfl, by decide +kernel⟩
theorem f_L_41 : FS "MarkOffice$Laws" 41 5 5 := ⟨RX6, TX6, 12, rfl, by decide, by decide, cw_5, aw_of (i := 354) (by decide +kernel) rfl⟩
theorem f_L_44 : FS "MarkOffice$Laws" 44 2 1 := ⟨RX2, TX2, 7, rfl, by decide, by decide, cw_2, aw_of (i := 240) (by decide +kernel) rfl⟩
theorem s_L_49 : ST "MarkOffice$Laws" 49 1 m_JI_bitCount := ⟨ok_JI_bitCount, aw_of (i := 808) (by decide +kernel) rfl, aw_of (i := 776) (by decide +kernel) rfl, by decide +kernel⟩
theorem f_L_55 : FS "MarkOffice$Laws" 55 5 6 := ⟨RX6, TX6, 12, rfl, by decide, by decide, cw_5, aw_of (i := 356) (by decide +kernel) rfl⟩
theorem f_L_58 : FS "MarkOffice$Laws" 58 5 7 := ⟨RX6, TX6, 12, rfl, by decide, by decide, cw_5, aw_of (i := 358) (by decide +kernel) rfl⟩
theorem s_L_28 : SV "MarkOffice$Laws" 28 6 m_L_run := ⟨ok_L_run, aw_of (i := 809) (by decide +kernel) rfl, aw_of (i := 811) (by decide +kernel) rfl, aw_of (i := 30) (by decide +kernel) rfl, by decide +kernel⟩
theorem w_L_32 : Cond.methodLink "MarkOffice$Laws" 32 Lib.Math.min.name ∈ ALLW := aw_of (i := 813) (by decide +kernel) rfl
theorem w_L_38 : Cond.methodLink "MarkOffice$Laws" 38 Lib.Math.max.name ∈ ALLW := aw_of (i := 833) (by decide +kernel) rfl
theorem p_L_61 : FP "MarkOffice$Laws" 61 1 1 (tyX1 1) := ⟨RX1, TX1, 2, tyX1, rfl, by decide, by decide, cw_1, aw_of (i := 218) (by decide +kernel) rfl, tyX1_ok, nmX1, rfl, rfl⟩
theorem f_L_64 : FS "MarkOffice$Laws" 64 5 0 := ⟨RX6, TX6, 12, rfl, by decide, by decide, cw_5, aw_of (i := 343) (by decide +kernel) rfl⟩
theorem s_L_67 : SV "MarkOffice$Laws" 67 1 m_L_push := ⟨ok_L_push, aw_of (i := 814) (by decide +kernel) rfl, aw_of (i := 816) (by decide +kernel) rfl, aw_of (i := 31) (by decide +kernel) rfl, by decide +kernel⟩
theorem s_L_71 : ST "MarkOffice$Laws" 71 1 m_K_countPieces := ⟨ok_K_countPieces, aw_of (i := 818) (by decide +kernel) rfl, aw_of (i := 819) (by decide +kernel) rfl, by decide +kernel⟩
theorem s_L_76 : SV "MarkOffice$Laws" 76 0 m_L_pop := ⟨ok_L_pop, aw_of (i := 829) (by decide +kernel) rfl, aw_of (i := 831) (by decide +kernel) rfl, aw_of (i := 32) (by decide +kernel) rfl, by decide +kernel⟩
theorem s_L_80 : ST "MarkOffice$Laws" 80 4 m_L_ofOne := ⟨ok_L_ofOne, aw_of (i := 834) (by decide +kernel) rfl, aw_of (i := 835) (by decide +kernel) rfl, by decide +kernel⟩
theorem s_L_84 : ST "MarkOffice$Laws" 84 4 m_L_named := ⟨ok_L_named, aw_of (i := 839) (by decide +kernel) rfl, aw_of (i := 840) (by decide +kernel) rfl, by decide +kernel⟩
theorem s_L_88 : ST "MarkOffice$Laws" 88 3 m_L_ofTwo := ⟨ok_L_ofTwo, aw_of (i := 845) (by decide +kernel) rfl, aw_of (i := 846) (by decide +kernel) rfl, by decide +kernel⟩
theorem f_L_61 : FS "MarkOffice$Laws" 61 1 1 := ⟨RX1, TX1, 2, rfl, by decide, by decide, cw_1, aw_of (i := 218) (by decide +kernel) rfl⟩
theorem f_L_9 : FS "MarkOffice$Laws" 9 1 0 := ⟨RX1, TX1, 2, rfl, by decide, by decide, cw_1, aw_of (i := 217) (by decide +kernel) rfl⟩
theorem s_K_18 : ST "MarkOffice$Strokes" 18 1 m_K_touched := ⟨ok_K_touched, aw_of (i := 821) (by decide +kernel) rfl, aw_of (i := 822) (by decide +kernel) rfl, by decide +kernel⟩
theorem s_K_22 : ST "MarkOffice$Strokes" 22 2 m_K_joinedWith := ⟨ok_K_joinedWith, aw_of (i := 826) (by decide +kernel) rfl, aw_of (i := 827) (by decide +kernel) rfl, by decide +kernel⟩
theorem w_K_9 : Cond.fieldLink "MarkOffice$Strokes" 9 "MarkOffice$Strokes" "POINTS_OF" "[I" ∈ ALLW := aw_of (i := 824) (by decide +kernel) rfl
theorem s_L_101 : SV "MarkOffice$Laws" 101 1 m_N_isMark := ⟨ok_N_isMark, aw_of (i := 837) (by decide +kernel) rfl, aw_of (i := 725) (by decide +kernel) rfl, aw_of (i := 726) (by decide +kernel) rfl, by decide +kernel⟩
theorem s_L_105 : SV "MarkOffice$Laws" 105 2 m_N_has := ⟨ok_N_has, aw_of (i := 838) (by decide +kernel) rfl, aw_of (i := 732) (by decide +kernel) rfl, aw_of (i := 733) (by decide +kernel) rfl, by decide +kernel⟩
theorem f_L_92 : FS "MarkOffice$Laws" 92 2 3 := ⟨RX2, TX2, 7, rfl, by decide, by decide, cw_2, aw_of (i := 247) (by decide +kernel) rfl⟩
theorem s_L_95 : ST "MarkOffice$Laws" 95 1 m_K_oddPoints := ⟨ok_K_oddPoints, aw_of (i := 842) (by decide +kernel) rfl, aw_of (i := 843) (by decide +kernel) rfl, by decide +kernel⟩
theorem f_L_98 : FS "MarkOffice$Laws" 98 2 2 := ⟨RX2, TX2, 7, rfl, by decide, by decide, cw_2, aw_of (i := 244) (by decide +kernel) rfl⟩
theorem s_L_109 : ST "MarkOffice$Laws" 109 1 m_L_hold := ⟨ok_L_hold, aw_of (i := 848) (by decide +kernel) rfl, aw_of (i := 849) (by decide +kernel) rfl, by decide +kernel⟩
theorem s_L_113 : ST "MarkOffice$Laws" 113 3 m_L_compares := ⟨ok_L_compares, aw_of (i := 859) (by decide +kernel) rfl, aw_of (i := 860) (by decide +kernel) rfl, by decide +kernel⟩
theorem w_L_117 : Cond.constantLong "MarkOffice$Laws" 117 (-1000000) ∈ ALLW := aw_of (i := 851) (by decide +kernel) rfl
theorem w_L_119 : Cond.constantLong "MarkOffice$Laws" 119 (1000000) ∈ ALLW := aw_of (i := 852) (by decide +kernel) rfl
theorem w_L_121 : Cond.methodLink "MarkOffice$Laws" 121 Lib.MathLoose.min_long.x ∈ ALLW := aw_of (i := 853) (by decide +kernel) rfl
theorem w_L_124 : Cond.methodLink "MarkOffice$Laws" 124 Lib.MathLoose.max_long.x ∈ ALLW := aw_of (i := 856) (by decide +kernel) rfl
theorem f_L_15 : FS "MarkOffice$Laws" 15 5 2 := ⟨RX6, TX6, 12, rfl, by decide, by decide, cw_5, aw_of (i := 346) (by decide +kernel) rfl⟩
theorem f_L_21 : FS "MarkOffice$Laws" 21 5 3 := ⟨RX6, TX6, 12, rfl, by decide, by decide, cw_5, aw_of (i := 349) (by decide +kernel) rfl⟩
theorem f_L_25 : FS "MarkOffice$Laws" 25 5 4 := ⟨RX6, TX6, 12, rfl, by decide, by decide, cw_5, aw_of (i := 351) (by decide +kernel) rfl⟩
theorem f_O_119 : FS "MarkOffice" 119 5 8 := ⟨RX6, TX6, 12, rfl, by decide, by decide, cw_5, aw_of (i := 362) (by decide +kernel) rfl⟩
theorem f_O_122 : FS "MarkOffice" 122 5 10 := ⟨RX6, TX6, 12, rfl, by decide, by decide, cw_5, aw_of (i := 368) (by decide +kernel) rfl⟩
theorem f_O_125 : FS "MarkOffice" 125 5 9 := ⟨RX6, TX6, 12, rfl, by decide, by decide, cw_5, aw_of (i := 365) (by decide +kernel) rfl⟩
theorem f_O_128 : FS "MarkOffice" 128 5 11 := ⟨RX6, TX6, 12, rfl, by decide, by decide, cw_5, aw_of (i := 371) (by decide +kernel) rfl⟩
theorem s_O_131 : SV "MarkOffice" 131 3 m_O_isDone := ⟨ok_O_isDone, aw_of (i := 876) (by decide +kernel) rfl, aw_of (i := 878) (by decide +kernel) rfl, aw_of (i := 33) (by decide +kernel) rfl, by decide +kernel⟩
theorem p_O_145 : FP "MarkOffice" 145 2 4 (tyX2 4) := ⟨RX2, TX2, 7, tyX2, rfl, by decide, by decide, cw_2, aw_of (i := 250) (by decide +kernel) rfl, tyX2_ok, nmX2, rfl, rfl⟩
theorem s_O_148 : SV "MarkOffice" 148 0 m_N_nextX := ⟨ok_N_nextX, aw_of (i := 884) (by decide +kernel) rfl, aw_of (i := 864) (by decide +kernel) rfl, aw_of (i := 865) (by decide +kernel) rfl, by decide +kernel⟩
theorem s_O_152 : SV "MarkOffice" 152 1 m_H_ageByHand := ⟨ok_H_ageByHand, aw_of (i := 885) (by decide +kernel) rfl, aw_of (i := 886) (by decide +kernel) rfl, aw_of (i := 887) (by decide +kernel) rfl, by decide +kernel⟩
theorem s_H_86 : SV "MarkOffice$Held" 86 3 m_N_canChange := ⟨ok_N_canChange, aw_of (i := 889) (by decide +kernel) rfl, aw_of (i := 721) (by decide +kernel) rfl, aw_of (i := 722) (by decide +kernel) rfl, by decide +kernel⟩
theorem s_H_90 : SV "MarkOffice$Held" 90 3 m_N_change := ⟨ok_N_change, aw_of (i := 890) (by decide +kernel) rfl, aw_of (i := 747) (by decide +kernel) rfl, aw_of (i := 748) (by decide +kernel) rfl, by decide +kernel⟩
theorem s_H_93 : SV "MarkOffice$Held" 93 1 m_N_isMark := ⟨ok_N_isMark, aw_of (i := 891) (by decide +kernel) rfl, aw_of (i := 725) (by decide +kernel) rfl, aw_of (i := 726) (by decide +kernel) rfl, by decide +kernel⟩
theorem s_H_97 : SV "MarkOffice$Held" 97 1 m_H_restore := ⟨ok_H_restore, aw_of (i := 892) (by decide +kernel) rfl, aw_of (i := 782) (by decide +kernel) rfl, aw_of (i := 783) (by decide +kernel) rfl, by decide +kernel⟩
theorem s_O_163 : SV "MarkOffice" 163 0 m_H_takeBack := ⟨ok_H_takeBack, aw_of (i := 897) (by decide +kernel) rfl, aw_of (i := 898) (by decide +kernel) rfl, aw_of (i := 899) (by decide +kernel) rfl, by decide +kernel⟩
theorem f_H_21 : FS "MarkOffice$Held" 21 0 1 := ⟨RX0, TX0, 11, rfl, by decide, by decide, cw_0, aw_of (i := 292) (by decide +kernel) rfl⟩
theorem f_H_100 : FS "MarkOffice$Held" 100 4 2 := ⟨RX4, TX4, 3, rfl, by decide, by decide, cw_4, aw_of (i := 281) (by decide +kernel) rfl⟩
theorem s_H_103 : SV "MarkOffice$Held" 103 0 m_S_pop := ⟨ok_S_pop, aw_of (i := 901) (by decide +kernel) rfl, aw_of (i := 902) (by decide +kernel) rfl, aw_of (i := 903) (by decide +kernel) rfl, by decide +kernel⟩
theorem s_H_42 : SV "MarkOffice$Held" 42 1 m_N_copyFrom := ⟨ok_N_copyFrom, aw_of (i := 906) (by decide +kernel) rfl, aw_of (i := 740) (by decide +kernel) rfl, aw_of (i := 741) (by decide +kernel) rfl, by decide +kernel⟩
theorem w_S_29 : Cond.methodLink "MarkOffice$Steps" 29 Lib.Math.max.name ∈ ALLW := aw_of (i := 905) (by decide +kernel) rfl
theorem f_O_169 : FS "MarkOffice" 169 2 1 := ⟨RX2, TX2, 7, rfl, by decide, by decide, cw_2, aw_of (i := 242) (by decide +kernel) rfl⟩
theorem f_O_172 : FS "MarkOffice" 172 0 2 := ⟨RX0, TX0, 11, rfl, by decide, by decide, cw_0, aw_of (i := 295) (by decide +kernel) rfl⟩
theorem s_O_175 : ST "MarkOffice" 175 1 m_JI_bitCount := ⟨ok_JI_bitCount, aw_of (i := 911) (by decide +kernel) rfl, aw_of (i := 776) (by decide +kernel) rfl, by decide +kernel⟩
theorem s_O_180 : ST "MarkOffice" 180 1 m_K_oddPoints := ⟨ok_K_oddPoints, aw_of (i := 912) (by decide +kernel) rfl, aw_of (i := 843) (by decide +kernel) rfl, by decide +kernel⟩
theorem s_O_185 : ST "MarkOffice" 185 1 m_K_countPieces := ⟨ok_K_countPieces, aw_of (i := 913) (by decide +kernel) rfl, aw_of (i := 819) (by decide +kernel) rfl, by decide +kernel⟩
theorem s_O_188 : ST "MarkOffice" 188 1 m_K_countHoles := ⟨ok_K_countHoles, aw_of (i := 914) (by decide +kernel) rfl, aw_of (i := 915) (by decide +kernel) rfl, by decide +kernel⟩
theorem s_O_191 : ST "MarkOffice" 191 1 m_K_countCrossings := ⟨ok_K_countCrossings, aw_of (i := 919) (by decide +kernel) rfl, aw_of (i := 920) (by decide +kernel) rfl, by decide +kernel⟩
theorem s_O_194 : SV "MarkOffice" 194 3 m_L_feeBy := ⟨ok_L_feeBy, aw_of (i := 922) (by decide +kernel) rfl, aw_of (i := 805) (by decide +kernel) rfl, aw_of (i := 806) (by decide +kernel) rfl, by decide +kernel⟩
theorem s_K_26 : ST "MarkOffice$Strokes" 26 1 m_JI_bitCount := ⟨ok_JI_bitCount, aw_of (i := 917) (by decide +kernel) rfl, aw_of (i := 776) (by decide +kernel) rfl, by decide +kernel⟩
theorem s_K_31 : ST "MarkOffice$Strokes" 31 1 m_K_countPieces := ⟨ok_K_countPieces, aw_of (i := 918) (by decide +kernel) rfl, aw_of (i := 819) (by decide +kernel) rfl, by decide +kernel⟩
theorem s_O_198 : ST "MarkOffice" 198 1 m_O_isStroke := ⟨ok_O_isStroke, aw_of (i := 927) (by decide +kernel) rfl, aw_of (i := 729) (by decide +kernel) rfl, by decide +kernel⟩
theorem s_O_201 : SV "MarkOffice" 201 4 m_L_wearsBy := ⟨ok_L_wearsBy, aw_of (i := 928) (by decide +kernel) rfl, aw_of (i := 868) (by decide +kernel) rfl, aw_of (i := 869) (by decide +kernel) rfl, by decide +kernel⟩
theorem f_O_145 : FS "MarkOffice" 145 2 4 := ⟨RX2, TX2, 7, rfl, by decide, by decide, cw_2, aw_of (i := 250) (by decide +kernel) rfl⟩
theorem f_O_205 : FS "MarkOffice" 205 2 2 := ⟨RX2, TX2, 7, rfl, by decide, by decide, cw_2, aw_of (i := 245) (by decide +kernel) rfl⟩
theorem s_O_208 : SV "MarkOffice" 208 0 m_H_otherThanRegistered := ⟨ok_H_otherThanRegistered, aw_of (i := 933) (by decide +kernel) rfl, aw_of (i := 934) (by decide +kernel) rfl, aw_of (i := 935) (by decide +kernel) rfl, by decide +kernel⟩
theorem f_O_211 : FS "MarkOffice" 211 2 5 := ⟨RX2, TX2, 7, rfl, by decide, by decide, cw_2, aw_of (i := 252) (by decide +kernel) rfl⟩
theorem s_O_214 : SV "MarkOffice" 214 2 m_N_lineTells := ⟨ok_N_lineTells, aw_of (i := 941) (by decide +kernel) rfl, aw_of (i := 942) (by decide +kernel) rfl, aw_of (i := 943) (by decide +kernel) rfl, by decide +kernel⟩
theorem f_O_58 : FS "MarkOffice" 58 7 9 := ⟨RX8, TX8, 13, rfl, by decide, by decide, cw_7, aw_of (i := 407) (by decide +kernel) rfl⟩
theorem s_O_218 : SV "MarkOffice" 218 1 m_N_copyFrom := ⟨ok_N_copyFrom, aw_of (i := 949) (by decide +kernel) rfl, aw_of (i := 740) (by decide +kernel) rfl, aw_of (i := 741) (by decide +kernel) rfl, by decide +kernel⟩
theorem s_O_221 : ST "MarkOffice" 221 1 m_O_isPoint := ⟨ok_O_isPoint, aw_of (i := 954) (by decide +kernel) rfl, aw_of (i := 955) (by decide +kernel) rfl, by decide +kernel⟩
theorem s_O_224 : ST "MarkOffice" 224 2 m_K_between := ⟨ok_K_between, aw_of (i := 957) (by decide +kernel) rfl, aw_of (i := 958) (by decide +kernel) rfl, by decide +kernel⟩
theorem s_O_227 : ST "MarkOffice" 227 1 m_O_isWay := ⟨ok_O_isWay, aw_of (i := 964) (by decide +kernel) rfl, aw_of (i := 965) (by decide +kernel) rfl, by decide +kernel⟩
theorem s_O_230 : ST "MarkOffice" 230 2 m_K_moved := ⟨ok_K_moved, aw_of (i := 967) (by decide +kernel) rfl, aw_of (i := 695) (by decide +kernel) rfl, by decide +kernel⟩
theorem w_O_233 : Cond.methodLink "MarkOffice" 233 Lib.Math.min.name ∈ ALLW := aw_of (i := 980) (by decide +kernel) rfl
theorem s_O_238 : ST "MarkOffice" 238 1 m_K_countPens := ⟨ok_K_countPens, aw_of (i := 985) (by decide +kernel) rfl, aw_of (i := 986) (by decide +kernel) rfl, by decide +kernel⟩
theorem s_K_34 : ST "MarkOffice$Strokes" 34 1 m_K_oddPoints := ⟨ok_K_oddPoints, aw_of (i := 988) (by decide +kernel) rfl, aw_of (i := 843) (by decide +kernel) rfl, by decide +kernel⟩
theorem w_K_37 : Cond.methodLink "MarkOffice$Strokes" 37 Lib.Math.max.name ∈ ALLW := aw_of (i := 989) (by decide +kernel) rfl
theorem f_O_65 : FS "MarkOffice" 65 7 11 := ⟨RX8, TX8, 13, rfl, by decide, by decide, cw_7, aw_of (i := 409) (by decide +kernel) rfl⟩
theorem s_O_241 : ST "MarkOffice" 241 2 m_K_trailInto := ⟨ok_K_trailInto, aw_of (i := 994) (by decide +kernel) rfl, aw_of (i := 995) (by decide +kernel) rfl, by decide +kernel⟩
theorem s_K_42 : ST "MarkOffice$Strokes" 42 1 m_K_countPens := ⟨ok_K_countPens, aw_of (i := 997) (by decide +kernel) rfl, aw_of (i := 986) (by decide +kernel) rfl, by decide +kernel⟩
theorem s_K_45 : ST "MarkOffice$Strokes" 45 1 m_K_placeOfLowest := ⟨ok_K_placeOfLowest, aw_of (i := 998) (by decide +kernel) rfl, aw_of (i := 999) (by decide +kernel) rfl, by decide +kernel⟩
theorem s_K_48 : ST "MarkOffice$Strokes" 48 2 m_K_nextOnTrail := ⟨ok_K_nextOnTrail, aw_of (i := 1001) (by decide +kernel) rfl, aw_of (i := 1002) (by decide +kernel) rfl, by decide +kernel⟩
theorem s_K_51 : ST "MarkOffice$Strokes" 51 2 m_K_between := ⟨ok_K_between, aw_of (i := 1004) (by decide +kernel) rfl, aw_of (i := 958) (by decide +kernel) rfl, by decide +kernel⟩
theorem s_O_245 : ST "MarkOffice" 245 1 m_K_pointsOfOne := ⟨ok_K_pointsOfOne, aw_of (i := 1009) (by decide +kernel) rfl, aw_of (i := 1010) (by decide +kernel) rfl, by decide +kernel⟩
theorem s_O_248 : ST "MarkOffice" 248 2 m_K_nearestWay := ⟨ok_K_nearestWay, aw_of (i := 1016) (by decide +kernel) rfl, aw_of (i := 1017) (by decide +kernel) rfl, by decide +kernel⟩
theorem s_O_251 : ST "MarkOffice" 251 3 m_K_countApart := ⟨ok_K_countApart, aw_of (i := 1023) (by decide +kernel) rfl, aw_of (i := 1020) (by decide +kernel) rfl, by decide +kernel⟩
theorem s_K_57 : ST "MarkOffice$Strokes" 57 3 m_K_countApart := ⟨ok_K_countApart, aw_of (i := 1019) (by decide +kernel) rfl, aw_of (i := 1020) (by decide +kernel) rfl, by decide +kernel⟩
theorem s_K_54 : ST "MarkOffice$Strokes" 54 2 m_K_moved := ⟨ok_K_moved, aw_of (i := 1022) (by decide +kernel) rfl, aw_of (i := 695) (by decide +kernel) rfl, by decide +kernel⟩
theorem s_O_255 : ST "MarkOffice" 255 2 m_K_wayInto := ⟨ok_K_wayInto, aw_of (i := 1032) (by decide +kernel) rfl, aw_of (i := 1033) (by decide +kernel) rfl, by decide +kernel⟩
theorem f_O_258 : FS "MarkOffice" 258 2 0 := ⟨RX2, TX2, 7, rfl, by decide, by decide, cw_2, aw_of (i := 238) (by decide +kernel) rfl⟩
theorem s_O_261 : ST "MarkOffice" 261 3 m_K_isNear := ⟨ok_K_isNear, aw_of (i := 1039) (by decide +kernel) rfl, aw_of (i := 1040) (by decide +kernel) rfl, by decide +kernel⟩
theorem s_K_64 : ST "MarkOffice$Strokes" 64 3 m_K_isMadeOf := ⟨ok_K_isMadeOf, aw_of (i := 1042) (by decide +kernel) rfl, aw_of (i := 1043) (by decide +kernel) rfl, by decide +kernel⟩
theorem s_K_61 : ST "MarkOffice$Strokes" 61 2 m_K_wayInto := ⟨ok_K_wayInto, aw_of (i := 1045) (by decide +kernel) rfl, aw_of (i := 1033) (by decide +kernel) rfl, by decide +kernel⟩
theorem s_O_264 : SV "MarkOffice" 264 2 m_O_forgedFrom := ⟨ok_O_forgedFrom, aw_of (i := 1050) (by decide +kernel) rfl, aw_of (i := 1052) (by decide +kernel) rfl, aw_of (i := 34) (by decide +kernel) rfl, by decide +kernel⟩
theorem s_O_356 : ST "MarkOffice" 356 3 m_K_isMadeOf := ⟨ok_K_isMadeOf, aw_of (i := 1054) (by decide +kernel) rfl, aw_of (i := 1043) (by decide +kernel) rfl, by decide +kernel⟩
theorem s_O_267 : SV "MarkOffice" 267 1 m_O_turnAll := ⟨ok_O_turnAll, aw_of (i := 1059) (by decide +kernel) rfl, aw_of (i := 1061) (by decide +kernel) rfl, aw_of (i := 35) (by decide +kernel) rfl, by decide +kernel⟩
theorem s_O_271 : ST "MarkOffice" 271 1 m_K_countSets := ⟨ok_K_countSets, aw_of (i := 1063) (by decide +kernel) rfl, aw_of (i := 1064) (by decide +kernel) rfl, by decide +kernel⟩
theorem s_O_274 : ST "MarkOffice" 274 1 m_K_lowestOf := ⟨ok_K_lowestOf, aw_of (i := 1066) (by decide +kernel) rfl, aw_of (i := 1067) (by decide +kernel) rfl, by decide +kernel⟩
theorem s_O_277 : SV "MarkOffice" 277 3 m_O_isFreeOf := ⟨ok_O_isFreeOf, aw_of (i := 1069) (by decide +kernel) rfl, aw_of (i := 1071) (by decide +kernel) rfl, aw_of (i := 36) (by decide +kernel) rfl, by decide +kernel⟩
theorem s_O_280 : ST "MarkOffice" 280 1 m_K_nextOf := ⟨ok_K_nextOf, aw_of (i := 1073) (by decide +kernel) rfl, aw_of (i := 1074) (by decide +kernel) rfl, by decide +kernel⟩
theorem f_O_62 : FS "MarkOffice" 62 7 10 := ⟨RX8, TX8, 13, rfl, by decide, by decide, cw_7, aw_of (i := 408) (by decide +kernel) rfl⟩
theorem w_O_283 : Cond.constantLong "MarkOffice" 283 (-1) ∈ ALLW := aw_of (i := 1080) (by decide +kernel) rfl
theorem f_O_68 : FS "MarkOffice" 68 7 12 := ⟨RX8, TX8, 13, rfl, by decide, by decide, cw_7, aw_of (i := 410) (by decide +kernel) rfl⟩
theorem s_O_285 : ST "MarkOffice" 285 3 m_K_countKeptBy := ⟨ok_K_countKeptBy, aw_of (i := 1081) (by decide +kernel) rfl, aw_of (i := 1082) (by decide +kernel) rfl, by decide +kernel⟩
theorem w_O_289 : Cond.constantLong "MarkOffice" 289 (8) ∈ ALLW := aw_of (i := 1084) (by decide +kernel) rfl
theorem p_O_291 : FP "MarkOffice" 291 0 5 (tyX0 5) := ⟨RX0, TX0, 11, tyX0, rfl, by decide, by decide, cw_0, aw_of (i := 301) (by decide +kernel) rfl, tyX0_ok, nmX0, rfl, rfl⟩
theorem p_O_294 : FP "MarkOffice" 294 0 6 (tyX0 6) := ⟨RX0, TX0, 11, tyX0, rfl, by decide, by decide, cw_0, aw_of (i := 303) (by decide +kernel) rfl, tyX0_ok, nmX0, rfl, rfl⟩
theorem f_O_291 : FS "MarkOffice" 291 0 5 := ⟨RX0, TX0, 11, rfl, by decide, by decide, cw_0, aw_of (i := 301) (by decide +kernel) rfl⟩
theorem f_O_294 : FS "MarkOffice" 294 0 6 := ⟨RX0, TX0, 11, rfl, by decide, by decide, cw_0, aw_of (i := 303) (by decide +kernel) rfl⟩
theorem s_O_297 : SV "MarkOffice" 297 0 m_H_countTold := ⟨ok_H_countTold, aw_of (i := 1089) (by decide +kernel) rfl, aw_of (i := 1090) (by decide +kernel) rfl, aw_of (i := 1091) (by decide +kernel) rfl, by decide +kernel⟩
theorem f_H_52 : FS "MarkOffice$Held" 52 0 5 := ⟨RX0, TX0, 11, rfl, by decide, by decide, cw_0, aw_of (i := 300) (by decide +kernel) rfl⟩
theorem f_H_55 : FS "MarkOffice$Held" 55 0 6 := ⟨RX0, TX0, 11, rfl, by decide, by decide, cw_0, aw_of (i := 302) (by decide +kernel) rfl⟩
theorem s_O_300 : SV "MarkOffice" 300 1 m_O_fittingWays := ⟨ok_O_fittingWays, aw_of (i := 1097) (by decide +kernel) rfl, aw_of (i := 1099) (by decide +kernel) rfl, aw_of (i := 37) (by decide +kernel) rfl, by decide +kernel⟩
theorem s_O_359 : SV "MarkOffice" 359 1 m_H_fits := ⟨ok_H_fits, aw_of (i := 1101) (by decide +kernel) rfl, aw_of (i := 1102) (by decide +kernel) rfl, aw_of (i := 1103) (by decide +kernel) rfl, by decide +kernel⟩
theorem s_O_303 : SV "MarkOffice" 303 2 m_O_gatherFitting := ⟨ok_O_gatherFitting, aw_of (i := 1113) (by decide +kernel) rfl, aw_of (i := 1115) (by decide +kernel) rfl, aw_of (i := 38) (by decide +kernel) rfl, by decide +kernel⟩
theorem s_O_306 : SV "MarkOffice" 306 1 m_O_bestQuestion := ⟨ok_O_bestQuestion, aw_of (i := 1117) (by decide +kernel) rfl, aw_of (i := 1119) (by decide +kernel) rfl, aw_of (i := 39) (by decide +kernel) rfl, by decide +kernel⟩
theorem w_O_362 : Cond.methodLink "MarkOffice" 362 Lib.Math.max.name ∈ ALLW := aw_of (i := 1121) (by decide +kernel) rfl
theorem s_O_309 : ST "MarkOffice" 309 2 m_O_isGame := ⟨ok_O_isGame, aw_of (i := 1126) (by decide +kernel) rfl, aw_of (i := 1127) (by decide +kernel) rfl, by decide +kernel⟩
theorem s_O_313 : ST "MarkOffice" 313 2 m_K_countJoining := ⟨ok_K_countJoining, aw_of (i := 1129) (by decide +kernel) rfl, aw_of (i := 1130) (by decide +kernel) rfl, by decide +kernel⟩
theorem s_K_68 : ST "MarkOffice$Strokes" 68 1 m_K_countHoles := ⟨ok_K_countHoles, aw_of (i := 1132) (by decide +kernel) rfl, aw_of (i := 915) (by decide +kernel) rfl, by decide +kernel⟩
theorem s_O_316 : SV "MarkOffice" 316 3 m_O_isApartFrom := ⟨ok_O_isApartFrom, aw_of (i := 1141) (by decide +kernel) rfl, aw_of (i := 1143) (by decide +kernel) rfl, aw_of (i := 40) (by decide +kernel) rfl, by decide +kernel⟩
theorem p_O_319 : FP "MarkOffice" 319 0 7 (tyX0 7) := ⟨RX0, TX0, 11, tyX0, rfl, by decide, by decide, cw_0, aw_of (i := 305) (by decide +kernel) rfl, tyX0_ok, nmX0, rfl, rfl⟩
theorem f_O_319 : FS "MarkOffice" 319 0 7 := ⟨RX0, TX0, 11, rfl, by decide, by decide, cw_0, aw_of (i := 305) (by decide +kernel) rfl⟩
theorem f_O_322 : FS "MarkOffice" 322 0 8 := ⟨RX0, TX0, 11, rfl, by decide, by decide, cw_0, aw_of (i := 307) (by decide +kernel) rfl⟩
theorem f_O_325 : FS "MarkOffice" 325 0 9 := ⟨RX0, TX0, 11, rfl, by decide, by decide, cw_0, aw_of (i := 309) (by decide +kernel) rfl⟩
theorem f_O_328 : FS "MarkOffice" 328 0 10 := ⟨RX0, TX0, 11, rfl, by decide, by decide, cw_0, aw_of (i := 311) (by decide +kernel) rfl⟩
theorem s_O_331 : SV "MarkOffice" 331 1 m_O_agrees := ⟨ok_O_agrees, aw_of (i := 1153) (by decide +kernel) rfl, aw_of (i := 1155) (by decide +kernel) rfl, aw_of (i := 41) (by decide +kernel) rfl, by decide +kernel⟩
theorem f_O_52 : FS "MarkOffice" 52 7 8 := ⟨RX8, TX8, 13, rfl, by decide, by decide, cw_7, aw_of (i := 406) (by decide +kernel) rfl⟩
theorem s_O_338 : SV "MarkOffice" 338 1 m_H_copyFrom := ⟨ok_H_copyFrom, aw_of (i := 1173) (by decide +kernel) rfl, aw_of (i := 1174) (by decide +kernel) rfl, aw_of (i := 1175) (by decide +kernel) rfl, by decide +kernel⟩
theorem s_H_46 : SV "MarkOffice$Held" 46 1 m_S_copyFrom := ⟨ok_S_copyFrom, aw_of (i := 1177) (by decide +kernel) rfl, aw_of (i := 1178) (by decide +kernel) rfl, aw_of (i := 1179) (by decide +kernel) rfl, by decide +kernel⟩
theorem f_H_49 : FS "MarkOffice$Held" 49 0 3 := ⟨RX0, TX0, 11, rfl, by decide, by decide, cw_0, aw_of (i := 296) (by decide +kernel) rfl⟩
theorem p_H_49 : FP "MarkOffice$Held" 49 0 3 (tyX0 3) := ⟨RX0, TX0, 11, tyX0, rfl, by decide, by decide, cw_0, aw_of (i := 296) (by decide +kernel) rfl, tyX0_ok, nmX0, rfl, rfl⟩
theorem f_H_29 : FS "MarkOffice$Held" 29 0 4 := ⟨RX0, TX0, 11, rfl, by decide, by decide, cw_0, aw_of (i := 298) (by decide +kernel) rfl⟩
theorem p_H_52 : FP "MarkOffice$Held" 52 0 5 (tyX0 5) := ⟨RX0, TX0, 11, tyX0, rfl, by decide, by decide, cw_0, aw_of (i := 300) (by decide +kernel) rfl, tyX0_ok, nmX0, rfl, rfl⟩
theorem p_H_55 : FP "MarkOffice$Held" 55 0 6 (tyX0 6) := ⟨RX0, TX0, 11, tyX0, rfl, by decide, by decide, cw_0, aw_of (i := 302) (by decide +kernel) rfl, tyX0_ok, nmX0, rfl, rfl⟩
theorem f_H_58 : FS "MarkOffice$Held" 58 0 7 := ⟨RX0, TX0, 11, rfl, by decide, by decide, cw_0, aw_of (i := 304) (by decide +kernel) rfl⟩
theorem p_H_58 : FP "MarkOffice$Held" 58 0 7 (tyX0 7) := ⟨RX0, TX0, 11, tyX0, rfl, by decide, by decide, cw_0, aw_of (i := 304) (by decide +kernel) rfl, tyX0_ok, nmX0, rfl, rfl⟩
theorem w_H_61 : Cond.methodLink "MarkOffice$Held" 61 arraycopyName ∈ ALLW := aw_of (i := 1181) (by decide +kernel) rfl
theorem f_H_33 : FS "MarkOffice$Held" 33 0 8 := ⟨RX0, TX0, 11, rfl, by decide, by decide, cw_0, aw_of (i := 306) (by decide +kernel) rfl⟩
theorem f_H_36 : FS "MarkOffice$Held" 36 0 9 := ⟨RX0, TX0, 11, rfl, by decide, by decide, cw_0, aw_of (i := 308) (by decide +kernel) rfl⟩
theorem f_H_39 : FS "MarkOffice$Held" 39 0 10 := ⟨RX0, TX0, 11, rfl, by decide, by decide, cw_0, aw_of (i := 310) (by decide +kernel) rfl⟩
theorem f_O_341 : FS "MarkOffice" 341 4 2 := ⟨RX4, TX4, 3, rfl, by decide, by decide, cw_4, aw_of (i := 282) (by decide +kernel) rfl⟩
theorem w_R_1 : Cond.methodLink "MarkOfficeModel" 1 Lib.objectInit ∈ ALLW := aw_of (i := 1195) (by decide +kernel) rfl
theorem p_R_7 : FPF "MarkOfficeModel" 7 8 0 (tyX9 0) := ⟨RX9, TX9, 37, tyX9, rfl, by decide, by decide, cw_8, aw_of (i := 1206) (by decide +kernel) rfl, tyX9_ok, nmX9, rfl, rfl, rfl⟩
theorem p_R_13 : FPF "MarkOfficeModel" 13 8 1 (tyX9 1) := ⟨RX9, TX9, 37, tyX9, rfl, by decide, by decide, cw_8, aw_of (i := 1207) (by decide +kernel) rfl, tyX9_ok, nmX9, rfl, rfl, rfl⟩
theorem p_R_16 : FPF "MarkOfficeModel" 16 8 2 (tyX9 2) := ⟨RX9, TX9, 37, tyX9, rfl, by decide, by decide, cw_8, aw_of (i := 1208) (by decide +kernel) rfl, tyX9_ok, nmX9, rfl, rfl, rfl⟩
theorem p_R_19 : FPF "MarkOfficeModel" 19 8 3 (tyX9 3) := ⟨RX9, TX9, 37, tyX9, rfl, by decide, by decide, cw_8, aw_of (i := 1209) (by decide +kernel) rfl, tyX9_ok, nmX9, rfl, rfl, rfl⟩
theorem p_R_22 : FPF "MarkOfficeModel" 22 8 4 (tyX9 4) := ⟨RX9, TX9, 37, tyX9, rfl, by decide, by decide, cw_8, aw_of (i := 1210) (by decide +kernel) rfl, tyX9_ok, nmX9, rfl, rfl, rfl⟩
theorem p_R_25 : FPF "MarkOfficeModel" 25 8 5 (tyX9 5) := ⟨RX9, TX9, 37, tyX9, rfl, by decide, by decide, cw_8, aw_of (i := 1211) (by decide +kernel) rfl, tyX9_ok, nmX9, rfl, rfl, rfl⟩
theorem p_R_28 : FPF "MarkOfficeModel" 28 8 6 (tyX9 6) := ⟨RX9, TX9, 37, tyX9, rfl, by decide, by decide, cw_8, aw_of (i := 1212) (by decide +kernel) rfl, tyX9_ok, nmX9, rfl, rfl, rfl⟩
theorem p_R_31 : FPF "MarkOfficeModel" 31 8 7 (tyX9 7) := ⟨RX9, TX9, 37, tyX9, rfl, by decide, by decide, cw_8, aw_of (i := 1213) (by decide +kernel) rfl, tyX9_ok, nmX9, rfl, rfl, rfl⟩
theorem p_R_34 : FPF "MarkOfficeModel" 34 8 8 (tyX9 8) := ⟨RX9, TX9, 37, tyX9, rfl, by decide, by decide, cw_8, aw_of (i := 1214) (by decide +kernel) rfl, tyX9_ok, nmX9, rfl, rfl, rfl⟩
theorem p_R_37 : FP "MarkOfficeModel" 37 8 10 (tyX9 10) := ⟨RX9, TX9, 37, tyX9, rfl, by decide, by decide, cw_8, aw_of (i := 1216) (by decide +kernel) rfl, tyX9_ok, nmX9, rfl, rfl⟩
theorem p_R_41 : FP "MarkOfficeModel" 41 8 11 (tyX9 11) := ⟨RX9, TX9, 37, tyX9, rfl, by decide, by decide, cw_8, aw_of (i := 1217) (by decide +kernel) rfl, tyX9_ok, nmX9, rfl, rfl⟩
theorem p_R_44 : FPF "MarkOfficeModel" 44 8 20 (tyX9 20) := ⟨RX9, TX9, 37, tyX9, rfl, by decide, by decide, cw_8, aw_of (i := 1226) (by decide +kernel) rfl, tyX9_ok, nmX9, rfl, rfl, rfl⟩
theorem p_R_47 : FPF "MarkOfficeModel" 47 8 21 (tyX9 21) := ⟨RX9, TX9, 37, tyX9, rfl, by decide, by decide, cw_8, aw_of (i := 1227) (by decide +kernel) rfl, tyX9_ok, nmX9, rfl, rfl, rfl⟩
theorem p_R_50 : FPF "MarkOfficeModel" 50 8 27 (tyX9 27) := ⟨RX9, TX9, 37, tyX9, rfl, by decide, by decide, cw_8, aw_of (i := 1233) (by decide +kernel) rfl, tyX9_ok, nmX9, rfl, rfl, rfl⟩
theorem p_R_53 : FPF "MarkOfficeModel" 53 8 28 (tyX9 28) := ⟨RX9, TX9, 37, tyX9, rfl, by decide, by decide, cw_8, aw_of (i := 1234) (by decide +kernel) rfl, tyX9_ok, nmX9, rfl, rfl, rfl⟩
theorem p_R_57 : FPF "MarkOfficeModel" 57 8 29 (tyX9 29) := ⟨RX9, TX9, 37, tyX9, rfl, by decide, by decide, cw_8, aw_of (i := 1235) (by decide +kernel) rfl, tyX9_ok, nmX9, rfl, rfl, rfl⟩
theorem p_R_61 : FP "MarkOfficeModel" 61 8 30 (tyX9 30) := ⟨RX9, TX9, 37, tyX9, rfl, by decide, by decide, cw_8, aw_of (i := 1236) (by decide +kernel) rfl, tyX9_ok, nmX9, rfl, rfl⟩
theorem p_R_65 : FPF "MarkOfficeModel" 65 8 32 (tyX9 32) := ⟨RX9, TX9, 37, tyX9, rfl, by decide, by decide, cw_8, aw_of (i := 1238) (by decide +kernel) rfl, tyX9_ok, nmX9, rfl, rfl, rfl⟩
theorem p_R_68 : FPF "MarkOfficeModel" 68 8 33 (tyX9 33) := ⟨RX9, TX9, 37, tyX9, rfl, by decide, by decide, cw_8, aw_of (i := 1239) (by decide +kernel) rfl, tyX9_ok, nmX9, rfl, rfl, rfl⟩
theorem p_R_71 : FPF "MarkOfficeModel" 71 8 34 (tyX9 34) := ⟨RX9, TX9, 37, tyX9, rfl, by decide, by decide, cw_8, aw_of (i := 1240) (by decide +kernel) rfl, tyX9_ok, nmX9, rfl, rfl, rfl⟩
theorem p_R_74 : FPF "MarkOfficeModel" 74 8 35 (tyX9 35) := ⟨RX9, TX9, 37, tyX9, rfl, by decide, by decide, cw_8, aw_of (i := 1241) (by decide +kernel) rfl, tyX9_ok, nmX9, rfl, rfl, rfl⟩
theorem f_R_7 : FS "MarkOfficeModel" 7 8 0 := ⟨RX9, TX9, 37, rfl, by decide, by decide, cw_8, aw_of (i := 1206) (by decide +kernel) rfl⟩
theorem f_R_25 : FS "MarkOfficeModel" 25 8 5 := ⟨RX9, TX9, 37, rfl, by decide, by decide, cw_8, aw_of (i := 1211) (by decide +kernel) rfl⟩
theorem s_R_77 : SV "MarkOfficeModel" 77 3 m_R_layStroke := ⟨ok_R_layStroke, aw_of (i := 1196) (by decide +kernel) rfl, aw_of (i := 1198) (by decide +kernel) rfl, aw_of (i := 42) (by decide +kernel) rfl, by decide +kernel⟩
theorem f_R_22 : FS "MarkOfficeModel" 22 8 4 := ⟨RX9, TX9, 37, rfl, by decide, by decide, cw_8, aw_of (i := 1210) (by decide +kernel) rfl⟩
theorem f_R_16 : FS "MarkOfficeModel" 16 8 2 := ⟨RX9, TX9, 37, rfl, by decide, by decide, cw_8, aw_of (i := 1208) (by decide +kernel) rfl⟩
theorem s_R_81 : ST "MarkOfficeModel" 81 2 m_R_pointBy := ⟨ok_R_pointBy, aw_of (i := 1200) (by decide +kernel) rfl, aw_of (i := 1201) (by decide +kernel) rfl, by decide +kernel⟩
theorem f_R_19 : FS "MarkOfficeModel" 19 8 3 := ⟨RX9, TX9, 37, rfl, by decide, by decide, cw_8, aw_of (i := 1209) (by decide +kernel) rfl⟩
theorem f_R_13 : FS "MarkOfficeModel" 13 8 1 := ⟨RX9, TX9, 37, rfl, by decide, by decide, cw_8, aw_of (i := 1207) (by decide +kernel) rfl⟩
theorem s_R_85 : ST "MarkOfficeModel" 85 2 m_R_copy := ⟨ok_R_copy, aw_of (i := 1203) (by decide +kernel) rfl, aw_of (i := 1204) (by decide +kernel) rfl, by decide +kernel⟩
theorem s_R_89 : ST "MarkOfficeModel" 89 3 m_R_isIn := ⟨ok_R_isIn, aw_of (i := 1323) (by decide +kernel) rfl, aw_of (i := 1324) (by decide +kernel) rfl, by decide +kernel⟩
theorem s_R_98 : ST "MarkOfficeModel" 98 1 m_R_areStrokes := ⟨ok_R_areStrokes, aw_of (i := 1330) (by decide +kernel) rfl, aw_of (i := 1331) (by decide +kernel) rfl, by decide +kernel⟩
theorem s_R_102 : ST "MarkOfficeModel" 102 1 m_R_isWay := ⟨ok_R_isWay, aw_of (i := 1334) (by decide +kernel) rfl, aw_of (i := 1335) (by decide +kernel) rfl, by decide +kernel⟩
theorem s_R_105 : SV "MarkOfficeModel" 105 2 m_R_byWay := ⟨ok_R_byWay, aw_of (i := 1337) (by decide +kernel) rfl, aw_of (i := 1339) (by decide +kernel) rfl, aw_of (i := 43) (by decide +kernel) rfl, by decide +kernel⟩
theorem w_R_93 : Cond.constant "MarkOfficeModel" 93 (1048575) ∈ ALLW := aw_of (i := 1333) (by decide +kernel) rfl
theorem s_R_94 : ST "MarkOfficeModel" 94 2 m_R_has := ⟨ok_R_has, aw_of (i := 1341) (by decide +kernel) rfl, aw_of (i := 1342) (by decide +kernel) rfl, by decide +kernel⟩
theorem s_R_108 : ST "MarkOfficeModel" 108 3 m_R_areLike := ⟨ok_R_areLike, aw_of (i := 1348) (by decide +kernel) rfl, aw_of (i := 1349) (by decide +kernel) rfl, by decide +kernel⟩
theorem s_R_130 : SV "MarkOfficeModel" 130 1 m_R_pensOf := ⟨ok_R_pensOf, aw_of (i := 1363) (by decide +kernel) rfl, aw_of (i := 1365) (by decide +kernel) rfl, aw_of (i := 44) (by decide +kernel) rfl, by decide +kernel⟩
theorem s_R_114 : SV "MarkOfficeModel" 114 1 m_R_pointsOf := ⟨ok_R_pointsOf, aw_of (i := 1367) (by decide +kernel) rfl, aw_of (i := 1369) (by decide +kernel) rfl, aw_of (i := 45) (by decide +kernel) rfl, by decide +kernel⟩
theorem s_R_127 : SV "MarkOfficeModel" 127 1 m_R_oddOf := ⟨ok_R_oddOf, aw_of (i := 1371) (by decide +kernel) rfl, aw_of (i := 1373) (by decide +kernel) rfl, aw_of (i := 46) (by decide +kernel) rfl, by decide +kernel⟩
theorem s_R_118 : SV "MarkOfficeModel" 118 2 m_R_pieceOf := ⟨ok_R_pieceOf, aw_of (i := 1379) (by decide +kernel) rfl, aw_of (i := 1381) (by decide +kernel) rfl, aw_of (i := 48) (by decide +kernel) rfl, by decide +kernel⟩
theorem s_R_121 : ST "MarkOfficeModel" 121 1 m_R_bits := ⟨ok_R_bits, aw_of (i := 1383) (by decide +kernel) rfl, aw_of (i := 1384) (by decide +kernel) rfl, by decide +kernel⟩
theorem s_R_111 : SV "MarkOfficeModel" 111 2 m_R_strokesAt := ⟨ok_R_strokesAt, aw_of (i := 1375) (by decide +kernel) rfl, aw_of (i := 1377) (by decide +kernel) rfl, aw_of (i := 47) (by decide +kernel) rfl, by decide +kernel⟩
theorem s_R_139 : SV "MarkOfficeModel" 139 1 m_R_layLine := ⟨ok_R_layLine, aw_of (i := 1390) (by decide +kernel) rfl, aw_of (i := 1392) (by decide +kernel) rfl, aw_of (i := 49) (by decide +kernel) rfl, by decide +kernel⟩
theorem f_R_31 : FS "MarkOfficeModel" 31 8 7 := ⟨RX9, TX9, 37, rfl, by decide, by decide, cw_8, aw_of (i := 1213) (by decide +kernel) rfl⟩
theorem s_R_133 : SV "MarkOfficeModel" 133 2 m_R_isLineFrom := ⟨ok_R_isLineFrom, aw_of (i := 1394) (by decide +kernel) rfl, aw_of (i := 1396) (by decide +kernel) rfl, aw_of (i := 50) (by decide +kernel) rfl, by decide +kernel⟩
theorem s_R_136 : SV "MarkOfficeModel" 136 3 m_R_isNext := ⟨ok_R_isNext, aw_of (i := 1398) (by decide +kernel) rfl, aw_of (i := 1400) (by decide +kernel) rfl, aw_of (i := 51) (by decide +kernel) rfl, by decide +kernel⟩
theorem f_R_142 : FS "MarkOfficeModel" 142 8 9 := ⟨RX9, TX9, 37, rfl, by decide, by decide, cw_8, aw_of (i := 1215) (by decide +kernel) rfl⟩
theorem s_R_145 : SV "MarkOfficeModel" 145 1 m_R_four := ⟨ok_R_four, aw_of (i := 1414) (by decide +kernel) rfl, aw_of (i := 1416) (by decide +kernel) rfl, aw_of (i := 52) (by decide +kernel) rfl, by decide +kernel⟩
theorem f_R_34 : FS "MarkOfficeModel" 34 8 8 := ⟨RX9, TX9, 37, rfl, by decide, by decide, cw_8, aw_of (i := 1214) (by decide +kernel) rfl⟩
theorem p_R_142 : FP "MarkOfficeModel" 142 8 9 (tyX9 9) := ⟨RX9, TX9, 37, tyX9, rfl, by decide, by decide, cw_8, aw_of (i := 1215) (by decide +kernel) rfl, tyX9_ok, nmX9, rfl, rfl⟩
theorem s_R_327 : SV "MarkOfficeModel" 327 0 m_R_readText := ⟨ok_R_readText, aw_of (i := 1426) (by decide +kernel) rfl, aw_of (i := 1428) (by decide +kernel) rfl, aw_of (i := 53) (by decide +kernel) rfl, by decide +kernel⟩
theorem f_R_37 : FS "MarkOfficeModel" 37 8 10 := ⟨RX9, TX9, 37, rfl, by decide, by decide, cw_8, aw_of (i := 1216) (by decide +kernel) rfl⟩
theorem f_R_155 : FS "MarkOfficeModel" 155 8 13 := ⟨RX9, TX9, 37, rfl, by decide, by decide, cw_8, aw_of (i := 1219) (by decide +kernel) rfl⟩
theorem p_R_196 : FP "MarkOfficeModel" 196 8 17 (tyX9 17) := ⟨RX9, TX9, 37, tyX9, rfl, by decide, by decide, cw_8, aw_of (i := 1223) (by decide +kernel) rfl, tyX9_ok, nmX9, rfl, rfl⟩
theorem f_R_28 : FS "MarkOfficeModel" 28 8 6 := ⟨RX9, TX9, 37, rfl, by decide, by decide, cw_8, aw_of (i := 1212) (by decide +kernel) rfl⟩
theorem f_R_196 : FS "MarkOfficeModel" 196 8 17 := ⟨RX9, TX9, 37, rfl, by decide, by decide, cw_8, aw_of (i := 1223) (by decide +kernel) rfl⟩
theorem p_R_199 : FP "MarkOfficeModel" 199 8 18 (tyX9 18) := ⟨RX9, TX9, 37, tyX9, rfl, by decide, by decide, cw_8, aw_of (i := 1224) (by decide +kernel) rfl, tyX9_ok, nmX9, rfl, rfl⟩
theorem p_R_318 : FP "MarkOfficeModel" 318 8 26 (tyX9 26) := ⟨RX9, TX9, 37, tyX9, rfl, by decide, by decide, cw_8, aw_of (i := 1232) (by decide +kernel) rfl, tyX9_ok, nmX9, rfl, rfl⟩
theorem p_R_149 : FP "MarkOfficeModel" 149 8 12 (tyX9 12) := ⟨RX9, TX9, 37, tyX9, rfl, by decide, by decide, cw_8, aw_of (i := 1218) (by decide +kernel) rfl, tyX9_ok, nmX9, rfl, rfl⟩
theorem s_R_233 : SV "MarkOfficeModel" 233 0 m_R_nextToken := ⟨ok_R_nextToken, aw_of (i := 1430) (by decide +kernel) rfl, aw_of (i := 1432) (by decide +kernel) rfl, aw_of (i := 54) (by decide +kernel) rfl, by decide +kernel⟩
theorem f_R_158 : FS "MarkOfficeModel" 158 8 14 := ⟨RX9, TX9, 37, rfl, by decide, by decide, cw_8, aw_of (i := 1220) (by decide +kernel) rfl⟩
theorem s_R_324 : SV "MarkOfficeModel" 324 0 m_R_clause := ⟨ok_R_clause, aw_of (i := 1449) (by decide +kernel) rfl, aw_of (i := 1451) (by decide +kernel) rfl, aw_of (i := 56) (by decide +kernel) rfl, by decide +kernel⟩
theorem f_R_149 : FS "MarkOfficeModel" 149 8 12 := ⟨RX9, TX9, 37, rfl, by decide, by decide, cw_8, aw_of (i := 1218) (by decide +kernel) rfl⟩
theorem s_R_152 : SV "MarkOfficeModel" 152 1 m_R_byteAt := ⟨ok_R_byteAt, aw_of (i := 1434) (by decide +kernel) rfl, aw_of (i := 1436) (by decide +kernel) rfl, aw_of (i := 55) (by decide +kernel) rfl, by decide +kernel⟩
theorem p_R_155 : FP "MarkOfficeModel" 155 8 13 (tyX9 13) := ⟨RX9, TX9, 37, tyX9, rfl, by decide, by decide, cw_8, aw_of (i := 1219) (by decide +kernel) rfl, tyX9_ok, nmX9, rfl, rfl⟩
theorem p_R_158 : FP "MarkOfficeModel" 158 8 14 (tyX9 14) := ⟨RX9, TX9, 37, tyX9, rfl, by decide, by decide, cw_8, aw_of (i := 1220) (by decide +kernel) rfl, tyX9_ok, nmX9, rfl, rfl⟩
theorem s_R_161 : ST "MarkOfficeModel" 161 1 m_R_isFigure := ⟨ok_R_isFigure, aw_of (i := 1438) (by decide +kernel) rfl, aw_of (i := 1439) (by decide +kernel) rfl, by decide +kernel⟩
theorem p_R_164 : FP "MarkOfficeModel" 164 8 15 (tyX9 15) := ⟨RX9, TX9, 37, tyX9, rfl, by decide, by decide, cw_8, aw_of (i := 1221) (by decide +kernel) rfl, tyX9_ok, nmX9, rfl, rfl⟩
theorem f_R_164 : FS "MarkOfficeModel" 164 8 15 := ⟨RX9, TX9, 37, rfl, by decide, by decide, cw_8, aw_of (i := 1221) (by decide +kernel) rfl⟩
theorem w_R_167 : Cond.constant "MarkOfficeModel" 167 (99999) ∈ ALLW := aw_of (i := 1441) (by decide +kernel) rfl
theorem s_R_168 : ST "MarkOfficeModel" 168 1 m_R_isLetterByte := ⟨ok_R_isLetterByte, aw_of (i := 1442) (by decide +kernel) rfl, aw_of (i := 1443) (by decide +kernel) rfl, by decide +kernel⟩
theorem p_R_171 : FP "MarkOfficeModel" 171 8 16 (tyX9 16) := ⟨RX9, TX9, 37, tyX9, rfl, by decide, by decide, cw_8, aw_of (i := 1222) (by decide +kernel) rfl, tyX9_ok, nmX9, rfl, rfl⟩
theorem f_R_171 : FS "MarkOfficeModel" 171 8 16 := ⟨RX9, TX9, 37, rfl, by decide, by decide, cw_8, aw_of (i := 1222) (by decide +kernel) rfl⟩
theorem w_R_175 : Cond.constantLong "MarkOfficeModel" 175 (1152921504606846976) ∈ ALLW := aw_of (i := 1445) (by decide +kernel) rfl
theorem s_R_177 : ST "MarkOfficeModel" 177 1 m_R_isSign := ⟨ok_R_isSign, aw_of (i := 1446) (by decide +kernel) rfl, aw_of (i := 1447) (by decide +kernel) rfl, by decide +kernel⟩
theorem s_R_315 : SV "MarkOfficeModel" 315 0 m_R_sortOf := ⟨ok_R_sortOf, aw_of (i := 1453) (by decide +kernel) rfl, aw_of (i := 1455) (by decide +kernel) rfl, aw_of (i := 57) (by decide +kernel) rfl, by decide +kernel⟩
theorem f_R_318 : FS "MarkOfficeModel" 318 8 26 := ⟨RX9, TX9, 37, rfl, by decide, by decide, cw_8, aw_of (i := 1232) (by decide +kernel) rfl⟩
theorem p_R_210 : FP "MarkOfficeModel" 210 8 19 (tyX9 19) := ⟨RX9, TX9, 37, tyX9, rfl, by decide, by decide, cw_8, aw_of (i := 1225) (by decide +kernel) rfl, tyX9_ok, nmX9, rfl, rfl⟩
theorem s_R_321 : SV "MarkOfficeModel" 321 2 m_R_body := ⟨ok_R_body, aw_of (i := 1473) (by decide +kernel) rfl, aw_of (i := 1475) (by decide +kernel) rfl, aw_of (i := 59) (by decide +kernel) rfl, by decide +kernel⟩
theorem s_R_192 : ST "MarkOfficeModel" 192 5 m_R_w5 := ⟨ok_R_w5, aw_of (i := 1457) (by decide +kernel) rfl, aw_of (i := 1458) (by decide +kernel) rfl, by decide +kernel⟩
theorem s_R_251 : SV "MarkOfficeModel" 251 1 m_R_isWord := ⟨ok_R_isWord, aw_of (i := 1469) (by decide +kernel) rfl, aw_of (i := 1471) (by decide +kernel) rfl, aw_of (i := 58) (by decide +kernel) rfl, by decide +kernel⟩
theorem s_R_184 : ST "MarkOfficeModel" 184 3 m_R_w3 := ⟨ok_R_w3, aw_of (i := 1463) (by decide +kernel) rfl, aw_of (i := 1464) (by decide +kernel) rfl, by decide +kernel⟩
theorem s_R_188 : ST "MarkOfficeModel" 188 4 m_R_w4 := ⟨ok_R_w4, aw_of (i := 1460) (by decide +kernel) rfl, aw_of (i := 1461) (by decide +kernel) rfl, by decide +kernel⟩
theorem s_R_180 : ST "MarkOfficeModel" 180 2 m_R_w2 := ⟨ok_R_w2, aw_of (i := 1466) (by decide +kernel) rfl, aw_of (i := 1467) (by decide +kernel) rfl, by decide +kernel⟩
theorem s_R_305 : SV "MarkOfficeModel" 305 1 m_R_drawClause := ⟨ok_R_drawClause, aw_of (i := 1477) (by decide +kernel) rfl, aw_of (i := 1479) (by decide +kernel) rfl, aw_of (i := 60) (by decide +kernel) rfl, by decide +kernel⟩
theorem s_R_308 : SV "MarkOfficeModel" 308 2 m_R_pair := ⟨ok_R_pair, aw_of (i := 1512) (by decide +kernel) rfl, aw_of (i := 1514) (by decide +kernel) rfl, aw_of (i := 68) (by decide +kernel) rfl, by decide +kernel⟩
theorem s_R_301 : SV "MarkOfficeModel" 301 3 m_R_figure := ⟨ok_R_figure, aw_of (i := 1516) (by decide +kernel) rfl, aw_of (i := 1518) (by decide +kernel) rfl, aw_of (i := 69) (by decide +kernel) rfl, by decide +kernel⟩
theorem s_R_312 : SV "MarkOfficeModel" 312 1 m_R_lawClause := ⟨ok_R_lawClause, aw_of (i := 1520) (by decide +kernel) rfl, aw_of (i := 1522) (by decide +kernel) rfl, aw_of (i := 70) (by decide +kernel) rfl, by decide +kernel⟩
theorem s_R_298 : SV "MarkOfficeModel" 298 0 m_R_shaped := ⟨ok_R_shaped, aw_of (i := 1481) (by decide +kernel) rfl, aw_of (i := 1483) (by decide +kernel) rfl, aw_of (i := 61) (by decide +kernel) rfl, by decide +kernel⟩
theorem f_R_276 : FS "MarkOfficeModel" 276 8 25 := ⟨RX9, TX9, 37, rfl, by decide, by decide, cw_8, aw_of (i := 1231) (by decide +kernel) rfl⟩
theorem p_R_213 : FP "MarkOfficeModel" 213 8 22 (tyX9 22) := ⟨RX9, TX9, 37, tyX9, rfl, by decide, by decide, cw_8, aw_of (i := 1228) (by decide +kernel) rfl, tyX9_ok, nmX9, rfl, rfl⟩
theorem p_R_223 : FP "MarkOfficeModel" 223 8 23 (tyX9 23) := ⟨RX9, TX9, 37, tyX9, rfl, by decide, by decide, cw_8, aw_of (i := 1229) (by decide +kernel) rfl, tyX9_ok, nmX9, rfl, rfl⟩
theorem p_R_242 : FP "MarkOfficeModel" 242 8 24 (tyX9 24) := ⟨RX9, TX9, 37, tyX9, rfl, by decide, by decide, cw_8, aw_of (i := 1230) (by decide +kernel) rfl, tyX9_ok, nmX9, rfl, rfl⟩
theorem f_R_242 : FS "MarkOfficeModel" 242 8 24 := ⟨RX9, TX9, 37, rfl, by decide, by decide, cw_8, aw_of (i := 1230) (by decide +kernel) rfl⟩
theorem s_R_289 : SV "MarkOfficeModel" 289 0 m_R_behindPart := ⟨ok_R_behindPart, aw_of (i := 1485) (by decide +kernel) rfl, aw_of (i := 1487) (by decide +kernel) rfl, aw_of (i := 62) (by decide +kernel) rfl, by decide +kernel⟩
theorem f_R_213 : FS "MarkOfficeModel" 213 8 22 := ⟨RX9, TX9, 37, rfl, by decide, by decide, cw_8, aw_of (i := 1228) (by decide +kernel) rfl⟩
theorem s_R_292 : SV "MarkOfficeModel" 292 0 m_R_beginPart := ⟨ok_R_beginPart, aw_of (i := 1493) (by decide +kernel) rfl, aw_of (i := 1495) (by decide +kernel) rfl, aw_of (i := 64) (by decide +kernel) rfl, by decide +kernel⟩
theorem f_R_44 : FS "MarkOfficeModel" 44 8 20 := ⟨RX9, TX9, 37, rfl, by decide, by decide, cw_8, aw_of (i := 1226) (by decide +kernel) rfl⟩
theorem f_R_47 : FS "MarkOfficeModel" 47 8 21 := ⟨RX9, TX9, 37, rfl, by decide, by decide, cw_8, aw_of (i := 1227) (by decide +kernel) rfl⟩
theorem f_R_223 : FS "MarkOfficeModel" 223 8 23 := ⟨RX9, TX9, 37, rfl, by decide, by decide, cw_8, aw_of (i := 1229) (by decide +kernel) rfl⟩
theorem s_R_282 : SV "MarkOfficeModel" 282 1 m_R_endPart := ⟨ok_R_endPart, aw_of (i := 1489) (by decide +kernel) rfl, aw_of (i := 1491) (by decide +kernel) rfl, aw_of (i := 63) (by decide +kernel) rfl, by decide +kernel⟩
theorem p_R_276 : FP "MarkOfficeModel" 276 8 25 (tyX9 25) := ⟨RX9, TX9, 37, tyX9, rfl, by decide, by decide, cw_8, aw_of (i := 1231) (by decide +kernel) rfl, tyX9_ok, nmX9, rfl, rfl⟩
theorem s_R_202 : ST "MarkOfficeModel" 202 6 m_R_w6 := ⟨ok_R_w6, aw_of (i := 1497) (by decide +kernel) rfl, aw_of (i := 1498) (by decide +kernel) rfl, by decide +kernel⟩
theorem s_R_285 : SV "MarkOfficeModel" 285 3 m_R_numberedPart := ⟨ok_R_numberedPart, aw_of (i := 1500) (by decide +kernel) rfl, aw_of (i := 1502) (by decide +kernel) rfl, aw_of (i := 65) (by decide +kernel) rfl, by decide +kernel⟩
theorem s_R_248 : SV "MarkOfficeModel" 248 1 m_R_opened := ⟨ok_R_opened, aw_of (i := 1508) (by decide +kernel) rfl, aw_of (i := 1510) (by decide +kernel) rfl, aw_of (i := 67) (by decide +kernel) rfl, by decide +kernel⟩
theorem s_R_279 : SV "MarkOfficeModel" 279 1 m_R_numbered := ⟨ok_R_numbered, aw_of (i := 1504) (by decide +kernel) rfl, aw_of (i := 1506) (by decide +kernel) rfl, aw_of (i := 66) (by decide +kernel) rfl, by decide +kernel⟩
theorem f_R_199 : FS "MarkOfficeModel" 199 8 18 := ⟨RX9, TX9, 37, rfl, by decide, by decide, cw_8, aw_of (i := 1224) (by decide +kernel) rfl⟩
theorem s_R_295 : SV "MarkOfficeModel" 295 0 m_R_summed := ⟨ok_R_summed, aw_of (i := 1524) (by decide +kernel) rfl, aw_of (i := 1526) (by decide +kernel) rfl, aw_of (i := 71) (by decide +kernel) rfl, by decide +kernel⟩
theorem s_R_270 : SV "MarkOfficeModel" 270 0 m_R_behindOne := ⟨ok_R_behindOne, aw_of (i := 1528) (by decide +kernel) rfl, aw_of (i := 1530) (by decide +kernel) rfl, aw_of (i := 72) (by decide +kernel) rfl, by decide +kernel⟩
theorem s_R_230 : SV "MarkOfficeModel" 230 0 m_R_openNow := ⟨ok_R_openNow, aw_of (i := 1536) (by decide +kernel) rfl, aw_of (i := 1538) (by decide +kernel) rfl, aw_of (i := 74) (by decide +kernel) rfl, by decide +kernel⟩
theorem s_R_245 : SV "MarkOfficeModel" 245 1 m_R_settle := ⟨ok_R_settle, aw_of (i := 1555) (by decide +kernel) rfl, aw_of (i := 1557) (by decide +kernel) rfl, aw_of (i := 78) (by decide +kernel) rfl, by decide +kernel⟩
theorem s_R_273 : SV "MarkOfficeModel" 273 0 m_R_beginOne := ⟨ok_R_beginOne, aw_of (i := 1567) (by decide +kernel) rfl, aw_of (i := 1569) (by decide +kernel) rfl, aw_of (i := 81) (by decide +kernel) rfl, by decide +kernel⟩
theorem s_R_264 : SV "MarkOfficeModel" 264 0 m_R_betweenOf := ⟨ok_R_betweenOf, aw_of (i := 1532) (by decide +kernel) rfl, aw_of (i := 1534) (by decide +kernel) rfl, aw_of (i := 73) (by decide +kernel) rfl, by decide +kernel⟩
theorem s_R_216 : ST "MarkOfficeModel" 216 1 m_R_rank := ⟨ok_R_rank, aw_of (i := 1548) (by decide +kernel) rfl, aw_of (i := 1549) (by decide +kernel) rfl, by decide +kernel⟩
theorem s_R_267 : SV "MarkOfficeModel" 267 1 m_R_partOf := ⟨ok_R_partOf, aw_of (i := 1563) (by decide +kernel) rfl, aw_of (i := 1565) (by decide +kernel) rfl, aw_of (i := 80) (by decide +kernel) rfl, by decide +kernel⟩
theorem s_R_226 : SV "MarkOfficeModel" 226 0 m_R_openAt := ⟨ok_R_openAt, aw_of (i := 1540) (by decide +kernel) rfl, aw_of (i := 1542) (by decide +kernel) rfl, aw_of (i := 75) (by decide +kernel) rfl, by decide +kernel⟩
theorem s_R_219 : SV "MarkOfficeModel" 219 2 m_R_emit := ⟨ok_R_emit, aw_of (i := 1559) (by decide +kernel) rfl, aw_of (i := 1561) (by decide +kernel) rfl, aw_of (i := 79) (by decide +kernel) rfl, by decide +kernel⟩
theorem s_R_258 : SV "MarkOfficeModel" 258 0 m_R_isCompared := ⟨ok_R_isCompared, aw_of (i := 1544) (by decide +kernel) rfl, aw_of (i := 1546) (by decide +kernel) rfl, aw_of (i := 76) (by decide +kernel) rfl, by decide +kernel⟩
theorem s_R_261 : SV "MarkOfficeModel" 261 0 m_R_compareOf := ⟨ok_R_compareOf, aw_of (i := 1551) (by decide +kernel) rfl, aw_of (i := 1553) (by decide +kernel) rfl, aw_of (i := 77) (by decide +kernel) rfl, by decide +kernel⟩
theorem s_R_236 : SV "MarkOfficeModel" 236 0 m_R_nameOf := ⟨ok_R_nameOf, aw_of (i := 1571) (by decide +kernel) rfl, aw_of (i := 1573) (by decide +kernel) rfl, aw_of (i := 82) (by decide +kernel) rfl, by decide +kernel⟩
theorem s_R_239 : SV "MarkOfficeModel" 239 1 m_R_isOf := ⟨ok_R_isOf, aw_of (i := 1579) (by decide +kernel) rfl, aw_of (i := 1581) (by decide +kernel) rfl, aw_of (i := 84) (by decide +kernel) rfl, by decide +kernel⟩
theorem s_R_255 : SV "MarkOfficeModel" 255 0 m_R_isAskAhead := ⟨ok_R_isAskAhead, aw_of (i := 1583) (by decide +kernel) rfl, aw_of (i := 1585) (by decide +kernel) rfl, aw_of (i := 85) (by decide +kernel) rfl, by decide +kernel⟩
theorem s_R_206 : SV "MarkOfficeModel" 206 0 m_R_isStrokesWord := ⟨ok_R_isStrokesWord, aw_of (i := 1575) (by decide +kernel) rfl, aw_of (i := 1577) (by decide +kernel) rfl, aw_of (i := 83) (by decide +kernel) rfl, by decide +kernel⟩
theorem f_R_210 : FS "MarkOfficeModel" 210 8 19 := ⟨RX9, TX9, 37, rfl, by decide, by decide, cw_8, aw_of (i := 1225) (by decide +kernel) rfl⟩
theorem f_R_41 : FS "MarkOfficeModel" 41 8 11 := ⟨RX9, TX9, 37, rfl, by decide, by decide, cw_8, aw_of (i := 1217) (by decide +kernel) rfl⟩
theorem s_R_404 : SV "MarkOfficeModel" 404 2 m_R_canAdd := ⟨ok_R_canAdd, aw_of (i := 1603) (by decide +kernel) rfl, aw_of (i := 1605) (by decide +kernel) rfl, aw_of (i := 86) (by decide +kernel) rfl, by decide +kernel⟩
theorem s_R_407 : SV "MarkOfficeModel" 407 0 m_R_keep := ⟨ok_R_keep, aw_of (i := 1614) (by decide +kernel) rfl, aw_of (i := 1616) (by decide +kernel) rfl, aw_of (i := 88) (by decide +kernel) rfl, by decide +kernel⟩
theorem s_R_410 : SV "MarkOfficeModel" 410 2 m_R_addNow := ⟨ok_R_addNow, aw_of (i := 1618) (by decide +kernel) rfl, aw_of (i := 1620) (by decide +kernel) rfl, aw_of (i := 89) (by decide +kernel) rfl, by decide +kernel⟩
theorem s_R_379 : SV "MarkOfficeModel" 379 1 m_R_isMark := ⟨ok_R_isMark, aw_of (i := 1607) (by decide +kernel) rfl, aw_of (i := 1609) (by decide +kernel) rfl, aw_of (i := 87) (by decide +kernel) rfl, by decide +kernel⟩
theorem s_R_382 : ST "MarkOfficeModel" 382 1 m_R_isStroke := ⟨ok_R_isStroke, aw_of (i := 1611) (by decide +kernel) rfl, aw_of (i := 1612) (by decide +kernel) rfl, by decide +kernel⟩
theorem s_R_385 : SV "MarkOfficeModel" 385 3 m_R_write := ⟨ok_R_write, aw_of (i := 1622) (by decide +kernel) rfl, aw_of (i := 1624) (by decide +kernel) rfl, aw_of (i := 90) (by decide +kernel) rfl, by decide +kernel⟩
theorem f_R_61 : FS "MarkOfficeModel" 61 8 30 := ⟨RX9, TX9, 37, rfl, by decide, by decide, cw_8, aw_of (i := 1236) (by decide +kernel) rfl⟩
theorem s_R_413 : SV "MarkOfficeModel" 413 2 m_R_canRub := ⟨ok_R_canRub, aw_of (i := 1630) (by decide +kernel) rfl, aw_of (i := 1632) (by decide +kernel) rfl, aw_of (i := 91) (by decide +kernel) rfl, by decide +kernel⟩
theorem s_R_398 : SV "MarkOfficeModel" 398 3 m_R_rubNow := ⟨ok_R_rubNow, aw_of (i := 1634) (by decide +kernel) rfl, aw_of (i := 1636) (by decide +kernel) rfl, aw_of (i := 92) (by decide +kernel) rfl, by decide +kernel⟩
theorem s_R_416 : SV "MarkOfficeModel" 416 1 m_R_otherThan := ⟨ok_R_otherThan, aw_of (i := 1642) (by decide +kernel) rfl, aw_of (i := 1644) (by decide +kernel) rfl, aw_of (i := 93) (by decide +kernel) rfl, by decide +kernel⟩
theorem s_R_419 : SV "MarkOfficeModel" 419 1 m_R_renewNow := ⟨ok_R_renewNow, aw_of (i := 1646) (by decide +kernel) rfl, aw_of (i := 1648) (by decide +kernel) rfl, aw_of (i := 94) (by decide +kernel) rfl, by decide +kernel⟩
theorem s_R_425 : SV "MarkOfficeModel" 425 1 m_R_arePassed := ⟨ok_R_arePassed, aw_of (i := 1654) (by decide +kernel) rfl, aw_of (i := 1656) (by decide +kernel) rfl, aw_of (i := 95) (by decide +kernel) rfl, by decide +kernel⟩
theorem f_R_401 : FS "MarkOfficeModel" 401 8 31 := ⟨RX9, TX9, 37, rfl, by decide, by decide, cw_8, aw_of (i := 1237) (by decide +kernel) rfl⟩
theorem p_R_401 : FP "MarkOfficeModel" 401 8 31 (tyX9 31) := ⟨RX9, TX9, 37, tyX9, rfl, by decide, by decide, cw_8, aw_of (i := 1237) (by decide +kernel) rfl, tyX9_ok, nmX9, rfl, rfl⟩
theorem s_R_422 : SV "MarkOfficeModel" 422 0 m_R_pass := ⟨ok_R_pass, aw_of (i := 1658) (by decide +kernel) rfl, aw_of (i := 1660) (by decide +kernel) rfl, aw_of (i := 96) (by decide +kernel) rfl, by decide +kernel⟩
theorem s_R_388 : SV "MarkOfficeModel" 388 1 m_R_feeOf := ⟨ok_R_feeOf, aw_of (i := 1662) (by decide +kernel) rfl, aw_of (i := 1664) (by decide +kernel) rfl, aw_of (i := 97) (by decide +kernel) rfl, by decide +kernel⟩
theorem w_R_391 : Cond.constant "MarkOfficeModel" 391 (999999) ∈ ALLW := aw_of (i := 1704) (by decide +kernel) rfl
theorem s_R_359 : ST "MarkOfficeModel" 359 3 m_R_held := ⟨ok_R_held, aw_of (i := 1701) (by decide +kernel) rfl, aw_of (i := 1702) (by decide +kernel) rfl, by decide +kernel⟩
theorem s_R_392 : SV "MarkOfficeModel" 392 1 m_R_drawnBy := ⟨ok_R_drawnBy, aw_of (i := 1705) (by decide +kernel) rfl, aw_of (i := 1707) (by decide +kernel) rfl, aw_of (i := 103) (by decide +kernel) rfl, by decide +kernel⟩
theorem s_R_395 : SV "MarkOfficeModel" 395 3 m_R_wearsOf := ⟨ok_R_wearsOf, aw_of (i := 1716) (by decide +kernel) rfl, aw_of (i := 1718) (by decide +kernel) rfl, aw_of (i := 105) (by decide +kernel) rfl, by decide +kernel⟩
theorem s_R_363 : SV "MarkOfficeModel" 363 2 m_R_name := ⟨ok_R_name, aw_of (i := 1666) (by decide +kernel) rfl, aw_of (i := 1668) (by decide +kernel) rfl, aw_of (i := 98) (by decide +kernel) rfl, by decide +kernel⟩
theorem f_R_50 : FS "MarkOfficeModel" 50 8 27 := ⟨RX9, TX9, 37, rfl, by decide, by decide, cw_8, aw_of (i := 1233) (by decide +kernel) rfl⟩
theorem s_R_366 : SV "MarkOfficeModel" 366 4 m_R_says := ⟨ok_R_says, aw_of (i := 1674) (by decide +kernel) rfl, aw_of (i := 1676) (by decide +kernel) rfl, aw_of (i := 100) (by decide +kernel) rfl, by decide +kernel⟩
theorem s_R_124 : SV "MarkOfficeModel" 124 1 m_R_piecesOf := ⟨ok_R_piecesOf, aw_of (i := 1670) (by decide +kernel) rfl, aw_of (i := 1672) (by decide +kernel) rfl, aw_of (i := 99) (by decide +kernel) rfl, by decide +kernel⟩
theorem s_R_356 : SV "MarkOfficeModel" 356 2 m_R_summedUp := ⟨ok_R_summedUp, aw_of (i := 1678) (by decide +kernel) rfl, aw_of (i := 1680) (by decide +kernel) rfl, aw_of (i := 101) (by decide +kernel) rfl, by decide +kernel⟩
theorem f_R_53 : FS "MarkOfficeModel" 53 8 28 := ⟨RX9, TX9, 37, rfl, by decide, by decide, cw_8, aw_of (i := 1234) (by decide +kernel) rfl⟩
theorem f_R_57 : FS "MarkOfficeModel" 57 8 29 := ⟨RX9, TX9, 37, rfl, by decide, by decide, cw_8, aw_of (i := 1235) (by decide +kernel) rfl⟩
theorem s_R_340 : SV "MarkOfficeModel" 340 2 m_R_ofOne := ⟨ok_R_ofOne, aw_of (i := 1682) (by decide +kernel) rfl, aw_of (i := 1684) (by decide +kernel) rfl, aw_of (i := 102) (by decide +kernel) rfl, by decide +kernel⟩
theorem s_R_344 : ST "MarkOfficeModel" 344 3 m_R_two := ⟨ok_R_two, aw_of (i := 1687) (by decide +kernel) rfl, aw_of (i := 1688) (by decide +kernel) rfl, by decide +kernel⟩
theorem s_R_348 : ST "MarkOfficeModel" 348 3 m_R_isAsked := ⟨ok_R_isAsked, aw_of (i := 1695) (by decide +kernel) rfl, aw_of (i := 1696) (by decide +kernel) rfl, by decide +kernel⟩
theorem s_R_352 : ST "MarkOfficeModel" 352 3 m_R_joinedTruth := ⟨ok_R_joinedTruth, aw_of (i := 1698) (by decide +kernel) rfl, aw_of (i := 1699) (by decide +kernel) rfl, by decide +kernel⟩
theorem w_R_338 : Cond.constantLong "MarkOfficeModel" 338 (20) ∈ ALLW := aw_of (i := 1686) (by decide +kernel) rfl
theorem s_R_334 : ST "MarkOfficeModel" 334 1 m_R_clip := ⟨ok_R_clip, aw_of (i := 1690) (by decide +kernel) rfl, aw_of (i := 1691) (by decide +kernel) rfl, by decide +kernel⟩
theorem w_R_330 : Cond.constantLong "MarkOfficeModel" 330 (1000000) ∈ ALLW := aw_of (i := 1693) (by decide +kernel) rfl
theorem w_R_332 : Cond.constantLong "MarkOfficeModel" 332 (-1000000) ∈ ALLW := aw_of (i := 1694) (by decide +kernel) rfl
theorem s_R_370 : SV "MarkOfficeModel" 370 0 m_R_anew := ⟨ok_R_anew, aw_of (i := 1709) (by decide +kernel) rfl, aw_of (i := 1711) (by decide +kernel) rfl, aw_of (i := 104) (by decide +kernel) rfl, by decide +kernel⟩
theorem w_R_373 : Cond.constantLong "MarkOfficeModel" 373 (677) ∈ ALLW := aw_of (i := 1713) (by decide +kernel) rfl
theorem w_R_375 : Cond.constantLong "MarkOfficeModel" 375 (557) ∈ ALLW := aw_of (i := 1714) (by decide +kernel) rfl
theorem w_R_377 : Cond.constantLong "MarkOfficeModel" 377 (30983) ∈ ALLW := aw_of (i := 1715) (by decide +kernel) rfl
theorem s_R_440 : SV "MarkOfficeModel" 440 1 m_R_isPlayed := ⟨ok_R_isPlayed, aw_of (i := 1724) (by decide +kernel) rfl, aw_of (i := 1726) (by decide +kernel) rfl, aw_of (i := 106) (by decide +kernel) rfl, by decide +kernel⟩
theorem s_R_428 : SV "MarkOfficeModel" 428 1 m_R_mark := ⟨ok_R_mark, aw_of (i := 1728) (by decide +kernel) rfl, aw_of (i := 1407) (by decide +kernel) rfl, aw_of (i := 1408) (by decide +kernel) rfl, by decide +kernel⟩
theorem s_R_431 : SV "MarkOfficeModel" 431 2 m_R_add := ⟨ok_R_add, aw_of (i := 1729) (by decide +kernel) rfl, aw_of (i := 1600) (by decide +kernel) rfl, aw_of (i := 1601) (by decide +kernel) rfl, by decide +kernel⟩
theorem s_R_434 : SV "MarkOfficeModel" 434 2 m_R_rub := ⟨ok_R_rub, aw_of (i := 1730) (by decide +kernel) rfl, aw_of (i := 1627) (by decide +kernel) rfl, aw_of (i := 1628) (by decide +kernel) rfl, by decide +kernel⟩
theorem s_R_437 : SV "MarkOfficeModel" 437 1 m_R_renew := ⟨ok_R_renew, aw_of (i := 1731) (by decide +kernel) rfl, aw_of (i := 1639) (by decide +kernel) rfl, aw_of (i := 1640) (by decide +kernel) rfl, by decide +kernel⟩
theorem s_R_443 : SV "MarkOfficeModel" 443 1 m_R_happens := ⟨ok_R_happens, aw_of (i := 1736) (by decide +kernel) rfl, aw_of (i := 1738) (by decide +kernel) rfl, aw_of (i := 107) (by decide +kernel) rfl, by decide +kernel⟩
theorem s_R_446 : SV "MarkOfficeModel" 446 1 m_R_holesOf := ⟨ok_R_holesOf, aw_of (i := 1744) (by decide +kernel) rfl, aw_of (i := 1746) (by decide +kernel) rfl, aw_of (i := 108) (by decide +kernel) rfl, by decide +kernel⟩
theorem s_R_449 : ST "MarkOfficeModel" 449 1 m_R_crossingsOf := ⟨ok_R_crossingsOf, aw_of (i := 1748) (by decide +kernel) rfl, aw_of (i := 1749) (by decide +kernel) rfl, by decide +kernel⟩
theorem s_R_452 : SV "MarkOfficeModel" 452 2 m_R_lineOf := ⟨ok_R_lineOf, aw_of (i := 1763) (by decide +kernel) rfl, aw_of (i := 1765) (by decide +kernel) rfl, aw_of (i := 109) (by decide +kernel) rfl, by decide +kernel⟩
theorem f_R_65 : FS "MarkOfficeModel" 65 8 32 := ⟨RX9, TX9, 37, rfl, by decide, by decide, cw_8, aw_of (i := 1238) (by decide +kernel) rfl⟩
theorem s_R_458 : SV "MarkOfficeModel" 458 2 m_R_apartBy := ⟨ok_R_apartBy, aw_of (i := 1787) (by decide +kernel) rfl, aw_of (i := 1789) (by decide +kernel) rfl, aw_of (i := 110) (by decide +kernel) rfl, by decide +kernel⟩
theorem s_R_455 : SV "MarkOfficeModel" 455 2 m_R_nearestWay := ⟨ok_R_nearestWay, aw_of (i := 1791) (by decide +kernel) rfl, aw_of (i := 1793) (by decide +kernel) rfl, aw_of (i := 111) (by decide +kernel) rfl, by decide +kernel⟩
theorem s_R_461 : SV "MarkOfficeModel" 461 2 m_R_partWay := ⟨ok_R_partWay, aw_of (i := 1803) (by decide +kernel) rfl, aw_of (i := 1805) (by decide +kernel) rfl, aw_of (i := 112) (by decide +kernel) rfl, by decide +kernel⟩
theorem s_R_467 : SV "MarkOfficeModel" 467 3 m_R_doClash := ⟨ok_R_doClash, aw_of (i := 1811) (by decide +kernel) rfl, aw_of (i := 1813) (by decide +kernel) rfl, aw_of (i := 113) (by decide +kernel) rfl, by decide +kernel⟩
theorem s_R_464 : SV "MarkOfficeModel" 464 3 m_R_isMade := ⟨ok_R_isMade, aw_of (i := 1815) (by decide +kernel) rfl, aw_of (i := 1817) (by decide +kernel) rfl, aw_of (i := 114) (by decide +kernel) rfl, by decide +kernel⟩
theorem s_R_470 : ST "MarkOfficeModel" 470 2 m_R_isFew := ⟨ok_R_isFew, aw_of (i := 1827) (by decide +kernel) rfl, aw_of (i := 1828) (by decide +kernel) rfl, by decide +kernel⟩
theorem s_R_473 : ST "MarkOfficeModel" 473 1 m_R_nextSet := ⟨ok_R_nextSet, aw_of (i := 1830) (by decide +kernel) rfl, aw_of (i := 1831) (by decide +kernel) rfl, by decide +kernel⟩
theorem w_R_476 : Cond.constantLong "MarkOfficeModel" 476 (-1) ∈ ALLW := aw_of (i := 1841) (by decide +kernel) rfl
theorem s_R_478 : SV "MarkOfficeModel" 478 1 m_R_laySets := ⟨ok_R_laySets, aw_of (i := 1842) (by decide +kernel) rfl, aw_of (i := 1844) (by decide +kernel) rfl, aw_of (i := 115) (by decide +kernel) rfl, by decide +kernel⟩
theorem f_R_68 : FS "MarkOfficeModel" 68 8 33 := ⟨RX9, TX9, 37, rfl, by decide, by decide, cw_8, aw_of (i := 1239) (by decide +kernel) rfl⟩
theorem w_R_481 : Cond.constantLong "MarkOfficeModel" 481 (8) ∈ ALLW := aw_of (i := 1846) (by decide +kernel) rfl
theorem s_R_486 : SV "MarkOfficeModel" 486 1 m_R_waysOf := ⟨ok_R_waysOf, aw_of (i := 1855) (by decide +kernel) rfl, aw_of (i := 1857) (by decide +kernel) rfl, aw_of (i := 116) (by decide +kernel) rfl, by decide +kernel⟩
theorem s_R_483 : SV "MarkOfficeModel" 483 1 m_R_isSeen := ⟨ok_R_isSeen, aw_of (i := 1859) (by decide +kernel) rfl, aw_of (i := 1861) (by decide +kernel) rfl, aw_of (i := 117) (by decide +kernel) rfl, by decide +kernel⟩
theorem s_R_489 : SV "MarkOfficeModel" 489 0 m_R_which := ⟨ok_R_which, aw_of (i := 1871) (by decide +kernel) rfl, aw_of (i := 1864) (by decide +kernel) rfl, aw_of (i := 1865) (by decide +kernel) rfl, by decide +kernel⟩
theorem w_R_492 : Cond.constant "MarkOfficeModel" 492 (1000000) ∈ ALLW := aw_of (i := 1872) (by decide +kernel) rfl
theorem s_R_493 : SV "MarkOfficeModel" 493 1 m_R_greaterPart := ⟨ok_R_greaterPart, aw_of (i := 1873) (by decide +kernel) rfl, aw_of (i := 1875) (by decide +kernel) rfl, aw_of (i := 118) (by decide +kernel) rfl, by decide +kernel⟩
theorem s_R_508 : ST "MarkOfficeModel" 508 2 m_R_isGame := ⟨ok_R_isGame, aw_of (i := 1881) (by decide +kernel) rfl, aw_of (i := 1882) (by decide +kernel) rfl, by decide +kernel⟩
theorem s_R_511 : SV "MarkOfficeModel" 511 2 m_R_playFirst := ⟨ok_R_playFirst, aw_of (i := 1884) (by decide +kernel) rfl, aw_of (i := 1886) (by decide +kernel) rfl, aw_of (i := 119) (by decide +kernel) rfl, by decide +kernel⟩
theorem s_R_502 : SV "MarkOfficeModel" 502 1 m_R_layFrees := ⟨ok_R_layFrees, aw_of (i := 1888) (by decide +kernel) rfl, aw_of (i := 1890) (by decide +kernel) rfl, aw_of (i := 120) (by decide +kernel) rfl, by decide +kernel⟩
theorem f_R_496 : FS "MarkOfficeModel" 496 8 36 := ⟨RX9, TX9, 37, rfl, by decide, by decide, cw_8, aw_of (i := 1242) (by decide +kernel) rfl⟩
theorem f_R_71 : FS "MarkOfficeModel" 71 8 34 := ⟨RX9, TX9, 37, rfl, by decide, by decide, cw_8, aw_of (i := 1240) (by decide +kernel) rfl⟩
theorem s_R_505 : SV "MarkOfficeModel" 505 2 m_R_playOf := ⟨ok_R_playOf, aw_of (i := 1892) (by decide +kernel) rfl, aw_of (i := 1894) (by decide +kernel) rfl, aw_of (i := 121) (by decide +kernel) rfl, by decide +kernel⟩
theorem p_R_496 : FP "MarkOfficeModel" 496 8 36 (tyX9 36) := ⟨RX9, TX9, 37, tyX9, rfl, by decide, by decide, cw_8, aw_of (i := 1242) (by decide +kernel) rfl, tyX9_ok, nmX9, rfl, rfl⟩
theorem f_R_74 : FS "MarkOfficeModel" 74 8 35 := ⟨RX9, TX9, 37, rfl, by decide, by decide, cw_8, aw_of (i := 1241) (by decide +kernel) rfl⟩
theorem s_R_499 : SV "MarkOfficeModel" 499 2 m_R_withFrees := ⟨ok_R_withFrees, aw_of (i := 1896) (by decide +kernel) rfl, aw_of (i := 1898) (by decide +kernel) rfl, aw_of (i := 122) (by decide +kernel) rfl, by decide +kernel⟩
theorem w_W_7 : Cond.classLink "MarkOfficeLaw" 7 "MarkOffice" ∈ ALLW := aw_of (i := 142) (by decide +kernel) rfl
theorem s_W_9 : SI "MarkOfficeLaw" 9 0 m_O_init := ⟨ok_O_init, aw_of (i := 144) (by decide +kernel) rfl, aw_of (i := 145) (by decide +kernel) rfl, rfl, rfl, by decide +kernel⟩
theorem w_W_10 : Cond.classLink "MarkOfficeLaw" 10 "MarkOfficeModel" ∈ ALLW := aw_of (i := 1190) (by decide +kernel) rfl
theorem s_W_12 : SI "MarkOfficeLaw" 12 0 m_R_init := ⟨ok_R_init, aw_of (i := 1192) (by decide +kernel) rfl, aw_of (i := 1193) (by decide +kernel) rfl, rfl, rfl, by decide +kernel⟩
theorem s_W_13 : SV "MarkOfficeLaw" 13 1 m_O_mark := ⟨ok_O_mark, aw_of (i := 438) (by decide +kernel) rfl, aw_of (i := 439) (by decide +kernel) rfl, aw_of (i := 440) (by decide +kernel) rfl, by decide +kernel⟩
theorem s_W_17 : SV "MarkOfficeLaw" 17 1 m_R_mark := ⟨ok_R_mark, aw_of (i := 1406) (by decide +kernel) rfl, aw_of (i := 1407) (by decide +kernel) rfl, aw_of (i := 1408) (by decide +kernel) rfl, by decide +kernel⟩
theorem s_W_18 : SV "MarkOfficeLaw" 18 5 m_O_feed := ⟨ok_O_feed, aw_of (i := 450) (by decide +kernel) rfl, aw_of (i := 451) (by decide +kernel) rfl, aw_of (i := 452) (by decide +kernel) rfl, by decide +kernel⟩
theorem s_W_22 : SV "MarkOfficeLaw" 22 5 m_R_feed := ⟨ok_R_feed, aw_of (i := 1410) (by decide +kernel) rfl, aw_of (i := 1411) (by decide +kernel) rfl, aw_of (i := 1412) (by decide +kernel) rfl, by decide +kernel⟩
theorem s_W_23 : SV "MarkOfficeLaw" 23 1 m_O_end := ⟨ok_O_end, aw_of (i := 458) (by decide +kernel) rfl, aw_of (i := 459) (by decide +kernel) rfl, aw_of (i := 460) (by decide +kernel) rfl, by decide +kernel⟩
theorem s_W_26 : SV "MarkOfficeLaw" 26 1 m_R_end := ⟨ok_R_end, aw_of (i := 1418) (by decide +kernel) rfl, aw_of (i := 1419) (by decide +kernel) rfl, aw_of (i := 1420) (by decide +kernel) rfl, by decide +kernel⟩
theorem s_W_27 : SV "MarkOfficeLaw" 27 0 m_O_text := ⟨ok_O_text, aw_of (i := 462) (by decide +kernel) rfl, aw_of (i := 463) (by decide +kernel) rfl, aw_of (i := 464) (by decide +kernel) rfl, by decide +kernel⟩
theorem s_W_31 : SV "MarkOfficeLaw" 31 0 m_R_text := ⟨ok_R_text, aw_of (i := 1422) (by decide +kernel) rfl, aw_of (i := 1423) (by decide +kernel) rfl, aw_of (i := 1424) (by decide +kernel) rfl, by decide +kernel⟩
theorem s_W_32 : SV "MarkOfficeLaw" 32 1 m_O_fault := ⟨ok_O_fault, aw_of (i := 700) (by decide +kernel) rfl, aw_of (i := 701) (by decide +kernel) rfl, aw_of (i := 702) (by decide +kernel) rfl, by decide +kernel⟩
theorem s_W_35 : SV "MarkOfficeLaw" 35 1 m_R_fault := ⟨ok_R_fault, aw_of (i := 1587) (by decide +kernel) rfl, aw_of (i := 1588) (by decide +kernel) rfl, aw_of (i := 1589) (by decide +kernel) rfl, by decide +kernel⟩
theorem s_W_36 : SV "MarkOfficeLaw" 36 1 m_O_by := ⟨ok_O_by, aw_of (i := 704) (by decide +kernel) rfl, aw_of (i := 705) (by decide +kernel) rfl, aw_of (i := 706) (by decide +kernel) rfl, by decide +kernel⟩
theorem s_W_40 : SV "MarkOfficeLaw" 40 1 m_R_by := ⟨ok_R_by, aw_of (i := 1591) (by decide +kernel) rfl, aw_of (i := 1592) (by decide +kernel) rfl, aw_of (i := 1593) (by decide +kernel) rfl, by decide +kernel⟩
theorem s_W_41 : SV "MarkOfficeLaw" 41 2 m_O_add := ⟨ok_O_add, aw_of (i := 712) (by decide +kernel) rfl, aw_of (i := 713) (by decide +kernel) rfl, aw_of (i := 714) (by decide +kernel) rfl, by decide +kernel⟩
theorem s_W_45 : SV "MarkOfficeLaw" 45 2 m_R_add := ⟨ok_R_add, aw_of (i := 1599) (by decide +kernel) rfl, aw_of (i := 1600) (by decide +kernel) rfl, aw_of (i := 1601) (by decide +kernel) rfl, by decide +kernel⟩
theorem s_W_46 : SV "MarkOfficeLaw" 46 2 m_O_rub := ⟨ok_O_rub, aw_of (i := 754) (by decide +kernel) rfl, aw_of (i := 755) (by decide +kernel) rfl, aw_of (i := 756) (by decide +kernel) rfl, by decide +kernel⟩
theorem s_W_49 : SV "MarkOfficeLaw" 49 2 m_R_rub := ⟨ok_R_rub, aw_of (i := 1626) (by decide +kernel) rfl, aw_of (i := 1627) (by decide +kernel) rfl, aw_of (i := 1628) (by decide +kernel) rfl, by decide +kernel⟩
theorem s_W_50 : SV "MarkOfficeLaw" 50 1 m_O_renew := ⟨ok_O_renew, aw_of (i := 758) (by decide +kernel) rfl, aw_of (i := 759) (by decide +kernel) rfl, aw_of (i := 760) (by decide +kernel) rfl, by decide +kernel⟩
theorem s_W_53 : SV "MarkOfficeLaw" 53 1 m_R_renew := ⟨ok_R_renew, aw_of (i := 1638) (by decide +kernel) rfl, aw_of (i := 1639) (by decide +kernel) rfl, aw_of (i := 1640) (by decide +kernel) rfl, by decide +kernel⟩
theorem s_W_54 : SV "MarkOfficeLaw" 54 1 m_O_year := ⟨ok_O_year, aw_of (i := 787) (by decide +kernel) rfl, aw_of (i := 788) (by decide +kernel) rfl, aw_of (i := 789) (by decide +kernel) rfl, by decide +kernel⟩
theorem s_W_57 : SV "MarkOfficeLaw" 57 1 m_R_year := ⟨ok_R_year, aw_of (i := 1650) (by decide +kernel) rfl, aw_of (i := 1651) (by decide +kernel) rfl, aw_of (i := 1652) (by decide +kernel) rfl, by decide +kernel⟩
theorem s_W_58 : SV "MarkOfficeLaw" 58 1 m_O_played := ⟨ok_O_played, aw_of (i := 872) (by decide +kernel) rfl, aw_of (i := 873) (by decide +kernel) rfl, aw_of (i := 874) (by decide +kernel) rfl, by decide +kernel⟩
theorem s_W_61 : SV "MarkOfficeLaw" 61 1 m_R_played := ⟨ok_R_played, aw_of (i := 1720) (by decide +kernel) rfl, aw_of (i := 1721) (by decide +kernel) rfl, aw_of (i := 1722) (by decide +kernel) rfl, by decide +kernel⟩
theorem s_W_62 : SV "MarkOfficeLaw" 62 2 m_O_ages := ⟨ok_O_ages, aw_of (i := 880) (by decide +kernel) rfl, aw_of (i := 881) (by decide +kernel) rfl, aw_of (i := 882) (by decide +kernel) rfl, by decide +kernel⟩
theorem s_W_66 : SV "MarkOfficeLaw" 66 2 m_R_ages := ⟨ok_R_ages, aw_of (i := 1732) (by decide +kernel) rfl, aw_of (i := 1733) (by decide +kernel) rfl, aw_of (i := 1734) (by decide +kernel) rfl, by decide +kernel⟩
theorem s_W_67 : SV "MarkOfficeLaw" 67 0 m_O_undo := ⟨ok_O_undo, aw_of (i := 893) (by decide +kernel) rfl, aw_of (i := 894) (by decide +kernel) rfl, aw_of (i := 895) (by decide +kernel) rfl, by decide +kernel⟩
theorem s_W_70 : SV "MarkOfficeLaw" 70 0 m_R_undo := ⟨ok_R_undo, aw_of (i := 1595) (by decide +kernel) rfl, aw_of (i := 1596) (by decide +kernel) rfl, aw_of (i := 1597) (by decide +kernel) rfl, by decide +kernel⟩
theorem s_W_71 : SV "MarkOfficeLaw" 71 2 m_O_of := ⟨ok_O_of, aw_of (i := 907) (by decide +kernel) rfl, aw_of (i := 908) (by decide +kernel) rfl, aw_of (i := 909) (by decide +kernel) rfl, by decide +kernel⟩
theorem s_W_74 : SV "MarkOfficeLaw" 74 2 m_R_of := ⟨ok_R_of, aw_of (i := 1740) (by decide +kernel) rfl, aw_of (i := 1741) (by decide +kernel) rfl, aw_of (i := 1742) (by decide +kernel) rfl, by decide +kernel⟩
theorem s_W_75 : SV "MarkOfficeLaw" 75 2 m_O_wears := ⟨ok_O_wears, aw_of (i := 923) (by decide +kernel) rfl, aw_of (i := 924) (by decide +kernel) rfl, aw_of (i := 925) (by decide +kernel) rfl, by decide +kernel⟩
theorem s_W_78 : SV "MarkOfficeLaw" 78 2 m_R_wears := ⟨ok_R_wears, aw_of (i := 1751) (by decide +kernel) rfl, aw_of (i := 1752) (by decide +kernel) rfl, aw_of (i := 1753) (by decide +kernel) rfl, by decide +kernel⟩
theorem s_W_79 : SV "MarkOfficeLaw" 79 1 m_O_is := ⟨ok_O_is, aw_of (i := 929) (by decide +kernel) rfl, aw_of (i := 930) (by decide +kernel) rfl, aw_of (i := 931) (by decide +kernel) rfl, by decide +kernel⟩
theorem s_W_82 : SV "MarkOfficeLaw" 82 1 m_R_is := ⟨ok_R_is, aw_of (i := 1755) (by decide +kernel) rfl, aw_of (i := 1756) (by decide +kernel) rfl, aw_of (i := 1757) (by decide +kernel) rfl, by decide +kernel⟩
theorem s_W_83 : SV "MarkOfficeLaw" 83 2 m_O_book := ⟨ok_O_book, aw_of (i := 937) (by decide +kernel) rfl, aw_of (i := 938) (by decide +kernel) rfl, aw_of (i := 939) (by decide +kernel) rfl, by decide +kernel⟩
theorem s_W_86 : SV "MarkOfficeLaw" 86 2 m_R_book := ⟨ok_R_book, aw_of (i := 1759) (by decide +kernel) rfl, aw_of (i := 1760) (by decide +kernel) rfl, aw_of (i := 1761) (by decide +kernel) rfl, by decide +kernel⟩
theorem s_W_87 : SV "MarkOfficeLaw" 87 2 m_O_foretold := ⟨ok_O_foretold, aw_of (i := 945) (by decide +kernel) rfl, aw_of (i := 946) (by decide +kernel) rfl, aw_of (i := 947) (by decide +kernel) rfl, by decide +kernel⟩
theorem s_W_90 : SV "MarkOfficeLaw" 90 2 m_R_foretold := ⟨ok_R_foretold, aw_of (i := 1779) (by decide +kernel) rfl, aw_of (i := 1780) (by decide +kernel) rfl, aw_of (i := 1781) (by decide +kernel) rfl, by decide +kernel⟩
theorem s_W_91 : SV "MarkOfficeLaw" 91 2 m_O_drawn := ⟨ok_O_drawn, aw_of (i := 950) (by decide +kernel) rfl, aw_of (i := 951) (by decide +kernel) rfl, aw_of (i := 952) (by decide +kernel) rfl, by decide +kernel⟩
theorem s_W_94 : SV "MarkOfficeLaw" 94 2 m_R_drawn := ⟨ok_R_drawn, aw_of (i := 1319) (by decide +kernel) rfl, aw_of (i := 1320) (by decide +kernel) rfl, aw_of (i := 1321) (by decide +kernel) rfl, by decide +kernel⟩
theorem s_W_95 : SV "MarkOfficeLaw" 95 2 m_O_turned := ⟨ok_O_turned, aw_of (i := 960) (by decide +kernel) rfl, aw_of (i := 961) (by decide +kernel) rfl, aw_of (i := 962) (by decide +kernel) rfl, by decide +kernel⟩
theorem s_W_98 : SV "MarkOfficeLaw" 98 2 m_R_turned := ⟨ok_R_turned, aw_of (i := 1326) (by decide +kernel) rfl, aw_of (i := 1327) (by decide +kernel) rfl, aw_of (i := 1328) (by decide +kernel) rfl, by decide +kernel⟩
theorem s_W_99 : SV "MarkOfficeLaw" 99 2 m_O_joined := ⟨ok_O_joined, aw_of (i := 968) (by decide +kernel) rfl, aw_of (i := 969) (by decide +kernel) rfl, aw_of (i := 970) (by decide +kernel) rfl, by decide +kernel⟩
theorem s_W_102 : SV "MarkOfficeLaw" 102 2 m_R_joined := ⟨ok_R_joined, aw_of (i := 1344) (by decide +kernel) rfl, aw_of (i := 1345) (by decide +kernel) rfl, aw_of (i := 1346) (by decide +kernel) rfl, by decide +kernel⟩
theorem s_W_103 : SV "MarkOfficeLaw" 103 1 m_O_own := ⟨ok_O_own, aw_of (i := 972) (by decide +kernel) rfl, aw_of (i := 973) (by decide +kernel) rfl, aw_of (i := 974) (by decide +kernel) rfl, by decide +kernel⟩
theorem s_W_106 : SV "MarkOfficeLaw" 106 1 m_R_own := ⟨ok_R_own, aw_of (i := 1351) (by decide +kernel) rfl, aw_of (i := 1352) (by decide +kernel) rfl, aw_of (i := 1353) (by decide +kernel) rfl, by decide +kernel⟩
theorem s_W_107 : SV "MarkOfficeLaw" 107 1 m_O_least := ⟨ok_O_least, aw_of (i := 976) (by decide +kernel) rfl, aw_of (i := 977) (by decide +kernel) rfl, aw_of (i := 978) (by decide +kernel) rfl, by decide +kernel⟩
theorem s_W_110 : SV "MarkOfficeLaw" 110 1 m_R_least := ⟨ok_R_least, aw_of (i := 1355) (by decide +kernel) rfl, aw_of (i := 1356) (by decide +kernel) rfl, aw_of (i := 1357) (by decide +kernel) rfl, by decide +kernel⟩
theorem s_W_111 : SV "MarkOfficeLaw" 111 1 m_O_pens := ⟨ok_O_pens, aw_of (i := 981) (by decide +kernel) rfl, aw_of (i := 982) (by decide +kernel) rfl, aw_of (i := 983) (by decide +kernel) rfl, by decide +kernel⟩
theorem s_W_114 : SV "MarkOfficeLaw" 114 1 m_R_pens := ⟨ok_R_pens, aw_of (i := 1359) (by decide +kernel) rfl, aw_of (i := 1360) (by decide +kernel) rfl, aw_of (i := 1361) (by decide +kernel) rfl, by decide +kernel⟩
theorem s_W_115 : SV "MarkOfficeLaw" 115 2 m_O_trail := ⟨ok_O_trail, aw_of (i := 990) (by decide +kernel) rfl, aw_of (i := 991) (by decide +kernel) rfl, aw_of (i := 992) (by decide +kernel) rfl, by decide +kernel⟩
theorem s_W_118 : SV "MarkOfficeLaw" 118 2 m_R_trail := ⟨ok_R_trail, aw_of (i := 1386) (by decide +kernel) rfl, aw_of (i := 1387) (by decide +kernel) rfl, aw_of (i := 1388) (by decide +kernel) rfl, by decide +kernel⟩
theorem s_W_119 : SV "MarkOfficeLaw" 119 1 m_O_rim := ⟨ok_O_rim, aw_of (i := 1005) (by decide +kernel) rfl, aw_of (i := 1006) (by decide +kernel) rfl, aw_of (i := 1007) (by decide +kernel) rfl, by decide +kernel⟩
theorem s_W_122 : SV "MarkOfficeLaw" 122 1 m_R_rim := ⟨ok_R_rim, aw_of (i := 1402) (by decide +kernel) rfl, aw_of (i := 1403) (by decide +kernel) rfl, aw_of (i := 1404) (by decide +kernel) rfl, by decide +kernel⟩
theorem s_W_123 : SV "MarkOfficeLaw" 123 2 m_O_alike := ⟨ok_O_alike, aw_of (i := 1012) (by decide +kernel) rfl, aw_of (i := 1013) (by decide +kernel) rfl, aw_of (i := 1014) (by decide +kernel) rfl, by decide +kernel⟩
theorem s_W_126 : SV "MarkOfficeLaw" 126 2 m_R_alike := ⟨ok_R_alike, aw_of (i := 1783) (by decide +kernel) rfl, aw_of (i := 1784) (by decide +kernel) rfl, aw_of (i := 1785) (by decide +kernel) rfl, by decide +kernel⟩
theorem s_W_127 : SV "MarkOfficeLaw" 127 2 m_O_way := ⟨ok_O_way, aw_of (i := 1024) (by decide +kernel) rfl, aw_of (i := 1025) (by decide +kernel) rfl, aw_of (i := 1026) (by decide +kernel) rfl, by decide +kernel⟩
theorem s_W_130 : SV "MarkOfficeLaw" 130 2 m_R_way := ⟨ok_R_way, aw_of (i := 1795) (by decide +kernel) rfl, aw_of (i := 1796) (by decide +kernel) rfl, aw_of (i := 1797) (by decide +kernel) rfl, by decide +kernel⟩
theorem s_W_131 : SV "MarkOfficeLaw" 131 3 m_O_made := ⟨ok_O_made, aw_of (i := 1028) (by decide +kernel) rfl, aw_of (i := 1029) (by decide +kernel) rfl, aw_of (i := 1030) (by decide +kernel) rfl, by decide +kernel⟩
theorem s_W_135 : SV "MarkOfficeLaw" 135 3 m_R_made := ⟨ok_R_made, aw_of (i := 1799) (by decide +kernel) rfl, aw_of (i := 1800) (by decide +kernel) rfl, aw_of (i := 1801) (by decide +kernel) rfl, by decide +kernel⟩
theorem s_W_136 : SV "MarkOfficeLaw" 136 2 m_O_clash := ⟨ok_O_clash, aw_of (i := 1035) (by decide +kernel) rfl, aw_of (i := 1036) (by decide +kernel) rfl, aw_of (i := 1037) (by decide +kernel) rfl, by decide +kernel⟩
theorem s_W_140 : SV "MarkOfficeLaw" 140 2 m_R_clash := ⟨ok_R_clash, aw_of (i := 1807) (by decide +kernel) rfl, aw_of (i := 1808) (by decide +kernel) rfl, aw_of (i := 1809) (by decide +kernel) rfl, by decide +kernel⟩
theorem s_W_141 : SV "MarkOfficeLaw" 141 3 m_O_chain := ⟨ok_O_chain, aw_of (i := 1046) (by decide +kernel) rfl, aw_of (i := 1047) (by decide +kernel) rfl, aw_of (i := 1048) (by decide +kernel) rfl, by decide +kernel⟩
theorem s_W_145 : SV "MarkOfficeLaw" 145 3 m_R_chain := ⟨ok_R_chain, aw_of (i := 1819) (by decide +kernel) rfl, aw_of (i := 1820) (by decide +kernel) rfl, aw_of (i := 1821) (by decide +kernel) rfl, by decide +kernel⟩
theorem s_W_146 : SV "MarkOfficeLaw" 146 2 m_O_free := ⟨ok_O_free, aw_of (i := 1055) (by decide +kernel) rfl, aw_of (i := 1056) (by decide +kernel) rfl, aw_of (i := 1057) (by decide +kernel) rfl, by decide +kernel⟩
theorem s_W_149 : SV "MarkOfficeLaw" 149 2 m_R_free := ⟨ok_R_free, aw_of (i := 1823) (by decide +kernel) rfl, aw_of (i := 1824) (by decide +kernel) rfl, aw_of (i := 1825) (by decide +kernel) rfl, by decide +kernel⟩
theorem s_W_150 : SV "MarkOfficeLaw" 150 1 m_O_kinds := ⟨ok_O_kinds, aw_of (i := 1076) (by decide +kernel) rfl, aw_of (i := 1077) (by decide +kernel) rfl, aw_of (i := 1078) (by decide +kernel) rfl, by decide +kernel⟩
theorem s_W_154 : SV "MarkOfficeLaw" 154 1 m_R_kinds := ⟨ok_R_kinds, aw_of (i := 1837) (by decide +kernel) rfl, aw_of (i := 1838) (by decide +kernel) rfl, aw_of (i := 1839) (by decide +kernel) rfl, by decide +kernel⟩
theorem s_W_155 : SV "MarkOfficeLaw" 155 2 m_O_witness := ⟨ok_O_witness, aw_of (i := 1085) (by decide +kernel) rfl, aw_of (i := 1086) (by decide +kernel) rfl, aw_of (i := 1087) (by decide +kernel) rfl, by decide +kernel⟩
theorem s_W_158 : SV "MarkOfficeLaw" 158 2 m_R_witness := ⟨ok_R_witness, aw_of (i := 1847) (by decide +kernel) rfl, aw_of (i := 1848) (by decide +kernel) rfl, aw_of (i := 1849) (by decide +kernel) rfl, by decide +kernel⟩
theorem s_W_159 : SV "MarkOfficeLaw" 159 0 m_O_which := ⟨ok_O_which, aw_of (i := 1093) (by decide +kernel) rfl, aw_of (i := 1094) (by decide +kernel) rfl, aw_of (i := 1095) (by decide +kernel) rfl, by decide +kernel⟩
theorem s_W_162 : SV "MarkOfficeLaw" 162 0 m_R_which := ⟨ok_R_which, aw_of (i := 1863) (by decide +kernel) rfl, aw_of (i := 1864) (by decide +kernel) rfl, aw_of (i := 1865) (by decide +kernel) rfl, by decide +kernel⟩
theorem s_W_163 : SV "MarkOfficeLaw" 163 1 m_O_ways := ⟨ok_O_ways, aw_of (i := 1105) (by decide +kernel) rfl, aw_of (i := 1106) (by decide +kernel) rfl, aw_of (i := 1107) (by decide +kernel) rfl, by decide +kernel⟩
theorem s_W_166 : SV "MarkOfficeLaw" 166 1 m_R_ways := ⟨ok_R_ways, aw_of (i := 1851) (by decide +kernel) rfl, aw_of (i := 1852) (by decide +kernel) rfl, aw_of (i := 1853) (by decide +kernel) rfl, by decide +kernel⟩
theorem s_W_167 : SV "MarkOfficeLaw" 167 0 m_O_ask := ⟨ok_O_ask, aw_of (i := 1109) (by decide +kernel) rfl, aw_of (i := 1110) (by decide +kernel) rfl, aw_of (i := 1111) (by decide +kernel) rfl, by decide +kernel⟩
theorem s_W_170 : SV "MarkOfficeLaw" 170 0 m_R_ask := ⟨ok_R_ask, aw_of (i := 1867) (by decide +kernel) rfl, aw_of (i := 1868) (by decide +kernel) rfl, aw_of (i := 1869) (by decide +kernel) rfl, by decide +kernel⟩
theorem s_W_171 : SV "MarkOfficeLaw" 171 2 m_O_game := ⟨ok_O_game, aw_of (i := 1122) (by decide +kernel) rfl, aw_of (i := 1123) (by decide +kernel) rfl, aw_of (i := 1124) (by decide +kernel) rfl, by decide +kernel⟩
theorem s_W_174 : SV "MarkOfficeLaw" 174 2 m_R_game := ⟨ok_R_game, aw_of (i := 1877) (by decide +kernel) rfl, aw_of (i := 1878) (by decide +kernel) rfl, aw_of (i := 1879) (by decide +kernel) rfl, by decide +kernel⟩
theorem s_W_175 : SV "MarkOfficeLaw" 175 2 m_O_play := ⟨ok_O_play, aw_of (i := 1133) (by decide +kernel) rfl, aw_of (i := 1134) (by decide +kernel) rfl, aw_of (i := 1135) (by decide +kernel) rfl, by decide +kernel⟩
theorem s_W_178 : SV "MarkOfficeLaw" 178 2 m_R_play := ⟨ok_R_play, aw_of (i := 1900) (by decide +kernel) rfl, aw_of (i := 1901) (by decide +kernel) rfl, aw_of (i := 1902) (by decide +kernel) rfl, by decide +kernel⟩
theorem s_W_179 : SV "MarkOfficeLaw" 179 2 m_O_apart := ⟨ok_O_apart, aw_of (i := 1137) (by decide +kernel) rfl, aw_of (i := 1138) (by decide +kernel) rfl, aw_of (i := 1139) (by decide +kernel) rfl, by decide +kernel⟩
theorem s_W_182 : SV "MarkOfficeLaw" 182 2 m_R_apart := ⟨ok_R_apart, aw_of (i := 1833) (by decide +kernel) rfl, aw_of (i := 1834) (by decide +kernel) rfl, aw_of (i := 1835) (by decide +kernel) rfl, by decide +kernel⟩
theorem s_W_183 : SV "MarkOfficeLaw" 183 3 m_O_said := ⟨ok_O_said, aw_of (i := 1145) (by decide +kernel) rfl, aw_of (i := 1146) (by decide +kernel) rfl, aw_of (i := 1147) (by decide +kernel) rfl, by decide +kernel⟩
theorem s_W_186 : SV "MarkOfficeLaw" 186 3 m_R_said := ⟨ok_R_said, aw_of (i := 1904) (by decide +kernel) rfl, aw_of (i := 1905) (by decide +kernel) rfl, aw_of (i := 1906) (by decide +kernel) rfl, by decide +kernel⟩
theorem s_W_187 : SV "MarkOfficeLaw" 187 0 m_O_whose := ⟨ok_O_whose, aw_of (i := 1149) (by decide +kernel) rfl, aw_of (i := 1150) (by decide +kernel) rfl, aw_of (i := 1151) (by decide +kernel) rfl, by decide +kernel⟩
theorem s_W_190 : SV "MarkOfficeLaw" 190 0 m_R_whose := ⟨ok_R_whose, aw_of (i := 1908) (by decide +kernel) rfl, aw_of (i := 1909) (by decide +kernel) rfl, aw_of (i := 1910) (by decide +kernel) rfl, by decide +kernel⟩
theorem s_W_191 : SV "MarkOfficeLaw" 191 0 m_O_richest := ⟨ok_O_richest, aw_of (i := 1157) (by decide +kernel) rfl, aw_of (i := 1158) (by decide +kernel) rfl, aw_of (i := 1159) (by decide +kernel) rfl, by decide +kernel⟩
theorem s_W_194 : SV "MarkOfficeLaw" 194 0 m_R_richest := ⟨ok_R_richest, aw_of (i := 1771) (by decide +kernel) rfl, aw_of (i := 1772) (by decide +kernel) rfl, aw_of (i := 1773) (by decide +kernel) rfl, by decide +kernel⟩
theorem s_W_195 : SV "MarkOfficeLaw" 195 0 m_O_worn := ⟨ok_O_worn, aw_of (i := 1161) (by decide +kernel) rfl, aw_of (i := 1162) (by decide +kernel) rfl, aw_of (i := 1163) (by decide +kernel) rfl, by decide +kernel⟩
theorem s_W_198 : SV "MarkOfficeLaw" 198 0 m_R_worn := ⟨ok_R_worn, aw_of (i := 1775) (by decide +kernel) rfl, aw_of (i := 1776) (by decide +kernel) rfl, aw_of (i := 1777) (by decide +kernel) rfl, by decide +kernel⟩
theorem s_W_199 : SV "MarkOfficeLaw" 199 1 m_O_ledger := ⟨ok_O_ledger, aw_of (i := 1165) (by decide +kernel) rfl, aw_of (i := 1166) (by decide +kernel) rfl, aw_of (i := 1167) (by decide +kernel) rfl, by decide +kernel⟩
theorem s_W_202 : SV "MarkOfficeLaw" 202 1 m_R_ledger := ⟨ok_R_ledger, aw_of (i := 1767) (by decide +kernel) rfl, aw_of (i := 1768) (by decide +kernel) rfl, aw_of (i := 1769) (by decide +kernel) rfl, by decide +kernel⟩
theorem s_W_203 : SV "MarkOfficeLaw" 203 0 m_O_image := ⟨ok_O_image, aw_of (i := 1169) (by decide +kernel) rfl, aw_of (i := 1170) (by decide +kernel) rfl, aw_of (i := 1171) (by decide +kernel) rfl, by decide +kernel⟩
theorem s_W_206 : SV "MarkOfficeLaw" 206 0 m_R_image := ⟨ok_R_image, aw_of (i := 1912) (by decide +kernel) rfl, aw_of (i := 1913) (by decide +kernel) rfl, aw_of (i := 1914) (by decide +kernel) rfl, by decide +kernel⟩
theorem s_W_207 : SV "MarkOfficeLaw" 207 0 m_O_back := ⟨ok_O_back, aw_of (i := 1182) (by decide +kernel) rfl, aw_of (i := 1183) (by decide +kernel) rfl, aw_of (i := 1184) (by decide +kernel) rfl, by decide +kernel⟩
theorem s_W_210 : SV "MarkOfficeLaw" 210 0 m_R_back := ⟨ok_R_back, aw_of (i := 1916) (by decide +kernel) rfl, aw_of (i := 1917) (by decide +kernel) rfl, aw_of (i := 1918) (by decide +kernel) rfl, by decide +kernel⟩
theorem s_W_211 : SV "MarkOfficeLaw" 211 1 m_O_about := ⟨ok_O_about, aw_of (i := 1186) (by decide +kernel) rfl, aw_of (i := 1187) (by decide +kernel) rfl, aw_of (i := 1188) (by decide +kernel) rfl, by decide +kernel⟩
theorem s_W_214 : SV "MarkOfficeLaw" 214 1 m_R_about := ⟨ok_R_about, aw_of (i := 1920) (by decide +kernel) rfl, aw_of (i := 1921) (by decide +kernel) rfl, aw_of (i := 1922) (by decide +kernel) rfl, by decide +kernel⟩
theorem w_arraycopy_nat : Cond.native arraycopyName ∈ ALLW := aw_of (i := 745) (by decide +kernel) rfl
theorem w_arraycopy_st : Cond.static arraycopyName ∈ ALLW := aw_of (i := 744) (by decide +kernel) rfl
theorem w_objInit_i : Cond.instanceMethod Lib.objectInit ∈ ALLW := aw_of (i := 148) (by decide +kernel) rfl
theorem w_objInit_c : Cond.code Lib.objectInit ⟨#[0xb1]⟩ 1 none ∈ ALLW := aw_of (i := 149) (by decide +kernel) rfl
theorem w_mathInit : Cond.initialized "java/lang/Math" ∈ ALLW := aw_of (i := 133) (by decide +kernel) rfl
theorem w_math_max_s : Cond.static Lib.Math.max.name ∈ ALLW := aw_of (i := 561) (by decide +kernel) rfl
theorem w_math_max_c : Cond.code Lib.Math.max.name Lib.Math.max.code 2 (some .int) ∈ ALLW := aw_of (i := 562) (by decide +kernel) rfl
theorem w_math_min_s : Cond.static Lib.Math.min.name ∈ ALLW := aw_of (i := 475) (by decide +kernel) rfl
theorem w_math_min_c : Cond.code Lib.Math.min.name Lib.Math.min.code 2 (some .int) ∈ ALLW := aw_of (i := 476) (by decide +kernel) rfl
theorem w_math_maxL_s : Cond.static Lib.MathLoose.max_long.x ∈ ALLW := aw_of (i := 857) (by decide +kernel) rfl
theorem w_math_maxL_c : Cond.code Lib.MathLoose.max_long.x Lib.MathLoose.max_long.code 4 (some .long) ∈ ALLW := aw_of (i := 858) (by decide +kernel) rfl
theorem w_math_minL_s : Cond.static Lib.MathLoose.min_long.x ∈ ALLW := aw_of (i := 854) (by decide +kernel) rfl
theorem w_math_minL_c : Cond.code Lib.MathLoose.min_long.x Lib.MathLoose.min_long.code 4 (some .long) ∈ ALLW := aw_of (i := 855) (by decide +kernel) rfl
theorem w_sysInit : Cond.initialized "java/lang/System" ∈ ALLW := aw_of (i := 140) (by decide +kernel) rfl
theorem w_init_0 : Cond.initialized RX0 ∈ ALLW := aw_of (i := 128) (by decide +kernel) rfl
theorem w_inst_0 : Cond.instantiable RX0 11 ∈ ALLW := aw_of (i := 225) (by decide +kernel) rfl
theorem w_init_1 : Cond.initialized RX1 ∈ ALLW := aw_of (i := 127) (by decide +kernel) rfl
theorem w_inst_1 : Cond.instantiable RX1 2 ∈ ALLW := aw_of (i := 212) (by decide +kernel) rfl
theorem w_init_2 : Cond.initialized RX2 ∈ ALLW := aw_of (i := 129) (by decide +kernel) rfl
theorem w_inst_2 : Cond.instantiable RX2 7 ∈ ALLW := aw_of (i := 231) (by decide +kernel) rfl
theorem w_init_3 : Cond.initialized RX3 ∈ ALLW := aw_of (i := 125) (by decide +kernel) rfl
theorem w_inst_3 : Cond.instantiable RX3 7 ∈ ALLW := aw_of (i := 153) (by decide +kernel) rfl
theorem w_init_4 : Cond.initialized RX4 ∈ ALLW := aw_of (i := 130) (by decide +kernel) rfl
theorem w_inst_4 : Cond.instantiable RX4 3 ∈ ALLW := aw_of (i := 270) (by decide +kernel) rfl
theorem w_init_5 : Cond.initialized RX6 ∈ ALLW := aw_of (i := 131) (by decide +kernel) rfl
theorem w_inst_5 : Cond.instantiable RX6 12 ∈ ALLW := aw_of (i := 337) (by decide +kernel) rfl
theorem w_init_6 : Cond.initialized RX7 ∈ ALLW := aw_of (i := 126) (by decide +kernel) rfl
theorem w_inst_6 : Cond.instantiable RX7 6 ∈ ALLW := aw_of (i := 159) (by decide +kernel) rfl
theorem w_init_7 : Cond.initialized RX8 ∈ ALLW := aw_of (i := 124) (by decide +kernel) rfl
theorem w_inst_7 : Cond.instantiable RX8 13 ∈ ALLW := aw_of (i := 143) (by decide +kernel) rfl
theorem w_init_8 : Cond.initialized RX9 ∈ ALLW := aw_of (i := 132) (by decide +kernel) rfl
theorem w_inst_8 : Cond.instantiable RX9 37 ∈ ALLW := aw_of (i := 1191) (by decide +kernel) rfl
theorem w_arr_int : Cond.arrayClass .int ∈ ALLW := aw_of (i := 186) (by decide +kernel) rfl
theorem w_arr_long : Cond.arrayClass .long ∈ ALLW := aw_of (i := 397) (by decide +kernel) rfl
theorem w_arr_byte : Cond.arrayClass .byte ∈ ALLW := aw_of (i := 699) (by decide +kernel) rfl
theorem w_arr_boolean : Cond.arrayClass .boolean ∈ ALLW := aw_of (i := 1318) (by decide +kernel) rfl
