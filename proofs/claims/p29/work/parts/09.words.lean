theorem ixX0 : ∀ w ∈ u_ws RX0 TX0 3, w ∈ xtb := by
  have h : u_ws RX0 TX0 3 = ([198, 200, 202] : List Nat).filterMap (fun i => lw_tbl[i]?) := by decide +kernel
  intro w hw
  rw [h] at hw
  obtain ⟨i, -, hi⟩ := List.mem_filterMap.mp hw
  have hg : (([198, 200, 202] : List Nat).filterMap (fun i => lw_tbl[i]?)).all goodWord = true := by decide +kernel
  exact List.mem_filter.mpr ⟨List.mem_of_getElem? hi, List.all_eq_true.mp hg w hw⟩
theorem ffX0 (own : String) (idx j : Nat) (fin : Bool) (hj : j < 3) (h : Cond.fieldLink own idx (TX0 j).1 (TX0 j).2.1 (TX0 j).2.2.1 ∈ xtb) (hf : (TX0 j).2.2.2 = fin) (hc : (TX0 j).1 = RX0) : xFL own idx 0 j fin := ⟨TX0, by decide, rfl, hj, ixX0, tyX0_ok, nmX0, h, hf, hc⟩
theorem ixX1 : ∀ w ∈ u_ws RX1 TX1 7, w ∈ xtb := by
  have h : u_ws RX1 TX1 7 = ([169, 171, 173, 175, 177, 179, 181] : List Nat).filterMap (fun i => lw_tbl[i]?) := by decide +kernel
  intro w hw
  rw [h] at hw
  obtain ⟨i, -, hi⟩ := List.mem_filterMap.mp hw
  have hg : (([169, 171, 173, 175, 177, 179, 181] : List Nat).filterMap (fun i => lw_tbl[i]?)).all goodWord = true := by decide +kernel
  exact List.mem_filter.mpr ⟨List.mem_of_getElem? hi, List.all_eq_true.mp hg w hw⟩
theorem ffX1 (own : String) (idx j : Nat) (fin : Bool) (hj : j < 7) (h : Cond.fieldLink own idx (TX1 j).1 (TX1 j).2.1 (TX1 j).2.2.1 ∈ xtb) (hf : (TX1 j).2.2.2 = fin) (hc : (TX1 j).1 = RX1) : xFL own idx 1 j fin := ⟨TX1, by decide, rfl, hj, ixX1, tyX1_ok, nmX1, h, hf, hc⟩
theorem ixX2 : ∀ w ∈ u_ws RX2 TX2 17, w ∈ xtb := by
  have h : u_ws RX2 TX2 17 = ([88, 90, 92, 94, 96, 98, 100, 102, 104, 106, 108, 110, 112, 114, 116, 118, 120] : List Nat).filterMap (fun i => lw_tbl[i]?) := by decide +kernel
  intro w hw
  rw [h] at hw
  obtain ⟨i, -, hi⟩ := List.mem_filterMap.mp hw
  have hg : (([88, 90, 92, 94, 96, 98, 100, 102, 104, 106, 108, 110, 112, 114, 116, 118, 120] : List Nat).filterMap (fun i => lw_tbl[i]?)).all goodWord = true := by decide +kernel
  exact List.mem_filter.mpr ⟨List.mem_of_getElem? hi, List.all_eq_true.mp hg w hw⟩
theorem ffX2 (own : String) (idx j : Nat) (fin : Bool) (hj : j < 17) (h : Cond.fieldLink own idx (TX2 j).1 (TX2 j).2.1 (TX2 j).2.2.1 ∈ xtb) (hf : (TX2 j).2.2.2 = fin) (hc : (TX2 j).1 = RX2) : xFL own idx 2 j fin := ⟨TX2, by decide, rfl, hj, ixX2, tyX2_ok, nmX2, h, hf, hc⟩
theorem ixX3 : ∀ w ∈ u_ws RX3 TX3 10, w ∈ xtb := by
  have h : u_ws RX3 TX3 10 = ([140, 142, 144, 146, 148, 150, 152, 154, 156, 158] : List Nat).filterMap (fun i => lw_tbl[i]?) := by decide +kernel
  intro w hw
  rw [h] at hw
  obtain ⟨i, -, hi⟩ := List.mem_filterMap.mp hw
  have hg : (([140, 142, 144, 146, 148, 150, 152, 154, 156, 158] : List Nat).filterMap (fun i => lw_tbl[i]?)).all goodWord = true := by decide +kernel
  exact List.mem_filter.mpr ⟨List.mem_of_getElem? hi, List.all_eq_true.mp hg w hw⟩
theorem ffX3 (own : String) (idx j : Nat) (fin : Bool) (hj : j < 10) (h : Cond.fieldLink own idx (TX3 j).1 (TX3 j).2.1 (TX3 j).2.2.1 ∈ xtb) (hf : (TX3 j).2.2.2 = fin) (hc : (TX3 j).1 = RX3) : xFL own idx 3 j fin := ⟨TX3, by decide, rfl, hj, ixX3, tyX3_ok, nmX3, h, hf, hc⟩
theorem ixX4 : ∀ w ∈ u_ws RX4 TX4 6, w ∈ xtb := by
  have h : u_ws RX4 TX4 6 = ([211, 213, 215, 217, 219, 221] : List Nat).filterMap (fun i => lw_tbl[i]?) := by decide +kernel
  intro w hw
  rw [h] at hw
  obtain ⟨i, -, hi⟩ := List.mem_filterMap.mp hw
  have hg : (([211, 213, 215, 217, 219, 221] : List Nat).filterMap (fun i => lw_tbl[i]?)).all goodWord = true := by decide +kernel
  exact List.mem_filter.mpr ⟨List.mem_of_getElem? hi, List.all_eq_true.mp hg w hw⟩
theorem ffX4 (own : String) (idx j : Nat) (fin : Bool) (hj : j < 6) (h : Cond.fieldLink own idx (TX4 j).1 (TX4 j).2.1 (TX4 j).2.2.1 ∈ xtb) (hf : (TX4 j).2.2.2 = fin) (hc : (TX4 j).1 = RX4) : xFL own idx 4 j fin := ⟨TX4, by decide, rfl, hj, ixX4, tyX4_ok, nmX4, h, hf, hc⟩
theorem ii_L : Cond.initialized RL ∈ xtb := xtb_in 6 (by decide +kernel) rfl
theorem ii_X4 : Cond.initialized RX4 ∈ xtb := xtb_in 7 (by decide +kernel) rfl
theorem ii_X3 : Cond.initialized RX3 ∈ xtb := xtb_in 8 (by decide +kernel) rfl
theorem ii_J7 : Cond.initialized RJ7 ∈ xtb := xtb_in 9 (by decide +kernel) rfl
theorem ii_X2 : Cond.initialized RX2 ∈ xtb := xtb_in 10 (by decide +kernel) rfl
theorem ii_X1 : Cond.initialized RX1 ∈ xtb := xtb_in 11 (by decide +kernel) rfl
theorem ii_X0 : Cond.initialized RX0 ∈ xtb := xtb_in 12 (by decide +kernel) rfl
theorem ii_J10 : Cond.initialized RJ10 ∈ xtb := xtb_in 13 (by decide +kernel) rfl
theorem ii_J9 : Cond.initialized RJ9 ∈ xtb := xtb_in 14 (by decide +kernel) rfl
theorem ii_J6 : Cond.initialized RJ6 ∈ xtb := xtb_in 15 (by decide +kernel) rfl
theorem ck_L_14 : Cond.classLink RL 14 RX4 ∈ xtb := xtb_in 16 (by decide +kernel) rfl
theorem in_X4 : Cond.instantiable RX4 6 ∈ xtb := xtb_in 17 (by decide +kernel) rfl
theorem lk_L_95 : Cond.methodLink RL 95 yX4_init ∈ xtb := xtb_in 18 (by decide +kernel) rfl
theorem lk_X4_1 : Cond.methodLink RX4 1 Lib.objectInit ∈ xtb := xtb_in 21 (by decide +kernel) rfl
theorem ck_X4_7 : Cond.classLink RX4 7 RX3 ∈ xtb := xtb_in 24 (by decide +kernel) rfl
theorem in_X3 : Cond.instantiable RX3 10 ∈ xtb := xtb_in 25 (by decide +kernel) rfl
theorem lk_X4_9 : Cond.methodLink RX4 9 yX3_init ∈ xtb := xtb_in 26 (by decide +kernel) rfl
theorem lk_X3_3 : Cond.methodLink RX3 3 Lib.objectInit ∈ xtb := xtb_in 29 (by decide +kernel) rfl
theorem lk_X3_13 : Cond.methodLink RX3 13 ⟨"[I", "clone", "()Ljava/lang/Object;"⟩ ∈ xtb := xtb_in 32 (by decide +kernel) rfl
theorem sm_clone : Cond.sameMethod "[I" "java/lang/Object" "clone" "()Ljava/lang/Object;" ∈ xtb := xtb_in 33 (by decide +kernel) rfl
theorem nat_clone : Cond.native ⟨"java/lang/Object", "clone", "()Ljava/lang/Object;"⟩ ∈ xtb := xtb_in 34 (by decide +kernel) rfl
theorem sl_clone : Cond.selects "[I" ⟨"[I", "clone", "()Ljava/lang/Object;"⟩ ⟨"java/lang/Object", "clone", "()Ljava/lang/Object;"⟩ ∈ xtb := xtb_in 36 (by decide +kernel) rfl
theorem ck_X3_14 : Cond.classLink RX3 14 "[I" ∈ xtb := xtb_in 38 (by decide +kernel) rfl
theorem ck_X3_26 : Cond.classLink RX3 26 RX2 ∈ xtb := xtb_in 39 (by decide +kernel) rfl
theorem lk_X3_32 : Cond.methodLink RX3 32 yJ7_fill_53178 ∈ xtb := xtb_in 41 (by decide +kernel) rfl
theorem in_X2 : Cond.instantiable RX2 17 ∈ xtb := xtb_in 44 (by decide +kernel) rfl
theorem lk_X2_3 : Cond.methodLink RX2 3 Lib.objectInit ∈ xtb := xtb_in 48 (by decide +kernel) rfl
theorem fl_X2_18 : xFL RX2 18 2 0 false := ffX2 _ _ _ _ (by decide) (xtb_in 49 (by decide +kernel) rfl) rfl rfl
theorem fl_X3_87 : xFL RX3 87 2 0 false := ffX2 _ _ _ _ (by decide) (xtb_in 50 (by decide +kernel) rfl) rfl rfl
theorem fl_X4_127 : xFL RX4 127 2 0 false := ffX2 _ _ _ _ (by decide) (xtb_in 51 (by decide +kernel) rfl) rfl rfl
theorem fl_X2_22 : xFL RX2 22 2 1 false := ffX2 _ _ _ _ (by decide) (xtb_in 52 (by decide +kernel) rfl) rfl rfl
theorem fl_X4_130 : xFL RX4 130 2 1 false := ffX2 _ _ _ _ (by decide) (xtb_in 53 (by decide +kernel) rfl) rfl rfl
theorem fl_X2_25 : xFL RX2 25 2 2 false := ffX2 _ _ _ _ (by decide) (xtb_in 54 (by decide +kernel) rfl) rfl rfl
theorem fl_X3_84 : xFL RX3 84 2 2 false := ffX2 _ _ _ _ (by decide) (xtb_in 55 (by decide +kernel) rfl) rfl rfl
theorem fl_X4_133 : xFL RX4 133 2 2 false := ffX2 _ _ _ _ (by decide) (xtb_in 56 (by decide +kernel) rfl) rfl rfl
theorem fl_X2_28 : xFL RX2 28 2 3 false := ffX2 _ _ _ _ (by decide) (xtb_in 57 (by decide +kernel) rfl) rfl rfl
theorem fl_X3_81 : xFL RX3 81 2 3 false := ffX2 _ _ _ _ (by decide) (xtb_in 58 (by decide +kernel) rfl) rfl rfl
theorem fl_X4_136 : xFL RX4 136 2 3 false := ffX2 _ _ _ _ (by decide) (xtb_in 59 (by decide +kernel) rfl) rfl rfl
theorem fl_X2_31 : xFL RX2 31 2 4 false := ffX2 _ _ _ _ (by decide) (xtb_in 60 (by decide +kernel) rfl) rfl rfl
theorem fl_X4_160 : xFL RX4 160 2 4 false := ffX2 _ _ _ _ (by decide) (xtb_in 61 (by decide +kernel) rfl) rfl rfl
theorem fl_X2_34 : xFL RX2 34 2 5 false := ffX2 _ _ _ _ (by decide) (xtb_in 62 (by decide +kernel) rfl) rfl rfl
theorem fl_X4_139 : xFL RX4 139 2 5 false := ffX2 _ _ _ _ (by decide) (xtb_in 63 (by decide +kernel) rfl) rfl rfl
theorem fl_X3_108 : xFL RX3 108 2 5 false := ffX2 _ _ _ _ (by decide) (xtb_in 64 (by decide +kernel) rfl) rfl rfl
theorem fl_X2_37 : xFL RX2 37 2 6 false := ffX2 _ _ _ _ (by decide) (xtb_in 65 (by decide +kernel) rfl) rfl rfl
theorem fl_X4_142 : xFL RX4 142 2 6 false := ffX2 _ _ _ _ (by decide) (xtb_in 66 (by decide +kernel) rfl) rfl rfl
theorem fl_X3_111 : xFL RX3 111 2 6 false := ffX2 _ _ _ _ (by decide) (xtb_in 67 (by decide +kernel) rfl) rfl rfl
theorem fl_X2_40 : xFL RX2 40 2 7 false := ffX2 _ _ _ _ (by decide) (xtb_in 68 (by decide +kernel) rfl) rfl rfl
theorem fl_X4_145 : xFL RX4 145 2 7 false := ffX2 _ _ _ _ (by decide) (xtb_in 69 (by decide +kernel) rfl) rfl rfl
theorem fl_X2_43 : xFL RX2 43 2 8 false := ffX2 _ _ _ _ (by decide) (xtb_in 70 (by decide +kernel) rfl) rfl rfl
theorem fl_X4_95 : xFL RX4 95 2 8 false := ffX2 _ _ _ _ (by decide) (xtb_in 71 (by decide +kernel) rfl) rfl rfl
theorem fl_X3_114 : xFL RX3 114 2 8 false := ffX2 _ _ _ _ (by decide) (xtb_in 72 (by decide +kernel) rfl) rfl rfl
theorem fl_X2_46 : xFL RX2 46 2 9 false := ffX2 _ _ _ _ (by decide) (xtb_in 73 (by decide +kernel) rfl) rfl rfl
theorem fl_X4_151 : xFL RX4 151 2 9 false := ffX2 _ _ _ _ (by decide) (xtb_in 74 (by decide +kernel) rfl) rfl rfl
theorem fl_X2_49 : xFL RX2 49 2 10 false := ffX2 _ _ _ _ (by decide) (xtb_in 75 (by decide +kernel) rfl) rfl rfl
theorem fl_X4_154 : xFL RX4 154 2 10 false := ffX2 _ _ _ _ (by decide) (xtb_in 76 (by decide +kernel) rfl) rfl rfl
theorem fl_X2_52 : xFL RX2 52 2 11 false := ffX2 _ _ _ _ (by decide) (xtb_in 77 (by decide +kernel) rfl) rfl rfl
theorem fl_X4_157 : xFL RX4 157 2 11 false := ffX2 _ _ _ _ (by decide) (xtb_in 78 (by decide +kernel) rfl) rfl rfl
theorem fl_X2_9 : xFL RX2 9 2 12 true := ffX2 _ _ _ _ (by decide) (xtb_in 79 (by decide +kernel) rfl) rfl rfl
theorem fl_X4_92 : xFL RX4 92 2 12 true := ffX2 _ _ _ _ (by decide) (xtb_in 80 (by decide +kernel) rfl) rfl rfl
theorem fl_X2_15 : xFL RX2 15 2 13 true := ffX2 _ _ _ _ (by decide) (xtb_in 81 (by decide +kernel) rfl) rfl rfl
theorem fl_X4_112 : xFL RX4 112 2 13 true := ffX2 _ _ _ _ (by decide) (xtb_in 82 (by decide +kernel) rfl) rfl rfl
theorem fl_X2_71 : xFL RX2 71 2 14 false := ffX2 _ _ _ _ (by decide) (xtb_in 83 (by decide +kernel) rfl) rfl rfl
theorem fl_X3_156 : xFL RX3 156 2 14 false := ffX2 _ _ _ _ (by decide) (xtb_in 84 (by decide +kernel) rfl) rfl rfl
theorem fl_X2_85 : xFL RX2 85 2 15 false := ffX2 _ _ _ _ (by decide) (xtb_in 85 (by decide +kernel) rfl) rfl rfl
theorem fl_X2_88 : xFL RX2 88 2 16 false := ffX2 _ _ _ _ (by decide) (xtb_in 86 (by decide +kernel) rfl) rfl rfl
theorem fl_X3_148 : xFL RX3 148 2 16 false := ffX2 _ _ _ _ (by decide) (xtb_in 87 (by decide +kernel) rfl) rfl rfl
theorem ac_int : Cond.arrayClass .int ∈ xtb := xtb_in 123 (by decide +kernel) rfl
theorem fl_X3_18 : xFL RX3 18 3 0 true := ffX3 _ _ _ _ (by decide) (xtb_in 124 (by decide +kernel) rfl) rfl rfl
theorem fl_X3_23 : xFL RX3 23 3 1 true := ffX3 _ _ _ _ (by decide) (xtb_in 125 (by decide +kernel) rfl) rfl rfl
theorem fl_X4_82 : xFL RX4 82 3 1 true := ffX3 _ _ _ _ (by decide) (xtb_in 126 (by decide +kernel) rfl) rfl rfl
theorem fl_X3_28 : xFL RX3 28 3 2 true := ffX3 _ _ _ _ (by decide) (xtb_in 127 (by decide +kernel) rfl) rfl rfl
theorem fl_X3_45 : xFL RX3 45 3 3 false := ffX3 _ _ _ _ (by decide) (xtb_in 128 (by decide +kernel) rfl) rfl rfl
theorem fl_X4_78 : xFL RX4 78 3 3 false := ffX3 _ _ _ _ (by decide) (xtb_in 129 (by decide +kernel) rfl) rfl rfl
theorem fl_X3_57 : xFL RX3 57 3 4 false := ffX3 _ _ _ _ (by decide) (xtb_in 130 (by decide +kernel) rfl) rfl rfl
theorem fl_X4_124 : xFL RX4 124 3 4 false := ffX3 _ _ _ _ (by decide) (xtb_in 131 (by decide +kernel) rfl) rfl rfl
theorem fl_X3_60 : xFL RX3 60 3 5 false := ffX3 _ _ _ _ (by decide) (xtb_in 132 (by decide +kernel) rfl) rfl rfl
theorem fl_X4_178 : xFL RX4 178 3 5 false := ffX3 _ _ _ _ (by decide) (xtb_in 133 (by decide +kernel) rfl) rfl rfl
theorem fl_X3_64 : xFL RX3 64 3 6 false := ffX3 _ _ _ _ (by decide) (xtb_in 134 (by decide +kernel) rfl) rfl rfl
theorem fl_X4_182 : xFL RX4 182 3 6 false := ffX3 _ _ _ _ (by decide) (xtb_in 135 (by decide +kernel) rfl) rfl rfl
theorem fl_X3_67 : xFL RX3 67 3 7 false := ffX3 _ _ _ _ (by decide) (xtb_in 136 (by decide +kernel) rfl) rfl rfl
theorem fl_X4_185 : xFL RX4 185 3 7 false := ffX3 _ _ _ _ (by decide) (xtb_in 137 (by decide +kernel) rfl) rfl rfl
theorem fl_X3_138 : xFL RX3 138 3 8 false := ffX3 _ _ _ _ (by decide) (xtb_in 138 (by decide +kernel) rfl) rfl rfl
theorem fl_X3_141 : xFL RX3 141 3 9 false := ffX3 _ _ _ _ (by decide) (xtb_in 139 (by decide +kernel) rfl) rfl rfl
theorem ck_X4_19 : Cond.classLink RX4 19 RX1 ∈ xtb := xtb_in 161 (by decide +kernel) rfl
theorem in_X1 : Cond.instantiable RX1 7 ∈ xtb := xtb_in 162 (by decide +kernel) rfl
theorem lk_X1_3 : Cond.methodLink RX1 3 Lib.objectInit ∈ xtb := xtb_in 166 (by decide +kernel) rfl
theorem fl_X1_9 : xFL RX1 9 1 0 true := ffX1 _ _ _ _ (by decide) (xtb_in 167 (by decide +kernel) rfl) rfl rfl
theorem fl_X4_195 : xFL RX4 195 1 1 false := ffX1 _ _ _ _ (by decide) (xtb_in 168 (by decide +kernel) rfl) rfl rfl
theorem ac_char : Cond.arrayClass .char ∈ xtb := xtb_in 184 (by decide +kernel) rfl
theorem ck_X4_26 : Cond.classLink RX4 26 RX0 ∈ xtb := xtb_in 185 (by decide +kernel) rfl
theorem in_X0 : Cond.instantiable RX0 3 ∈ xtb := xtb_in 186 (by decide +kernel) rfl
theorem lk_X4_28 : Cond.methodLink RX4 28 yX0_init ∈ xtb := xtb_in 187 (by decide +kernel) rfl
theorem lk_X0_3 : Cond.methodLink RX0 3 Lib.objectInit ∈ xtb := xtb_in 190 (by decide +kernel) rfl
theorem ck_X0_9 : Cond.classLink RX0 9 RX3 ∈ xtb := xtb_in 191 (by decide +kernel) rfl
theorem lk_X0_17 : Cond.methodLink RX0 17 yX3_init ∈ xtb := xtb_in 193 (by decide +kernel) rfl
theorem fl_X0_11 : xFL RX0 11 0 0 true := ffX0 _ _ _ _ (by decide) (xtb_in 194 (by decide +kernel) rfl) rfl rfl
theorem fl_X0_22 : xFL RX0 22 0 1 false := ffX0 _ _ _ _ (by decide) (xtb_in 195 (by decide +kernel) rfl) rfl rfl
theorem fl_X4_198 : xFL RX4 198 0 1 false := ffX0 _ _ _ _ (by decide) (xtb_in 196 (by decide +kernel) rfl) rfl rfl
theorem fl_X0_18 : xFL RX0 18 0 2 false := ffX0 _ _ _ _ (by decide) (xtb_in 197 (by decide +kernel) rfl) rfl rfl
theorem fl_X4_10 : xFL RX4 10 4 0 true := ffX4 _ _ _ _ (by decide) (xtb_in 205 (by decide +kernel) rfl) rfl rfl
theorem fl_X4_16 : xFL RX4 16 4 1 true := ffX4 _ _ _ _ (by decide) (xtb_in 206 (by decide +kernel) rfl) rfl rfl
theorem fl_X4_22 : xFL RX4 22 4 2 true := ffX4 _ _ _ _ (by decide) (xtb_in 207 (by decide +kernel) rfl) rfl rfl
theorem fl_X4_29 : xFL RX4 29 4 3 true := ffX4 _ _ _ _ (by decide) (xtb_in 208 (by decide +kernel) rfl) rfl rfl
theorem fl_X4_33 : xFL RX4 33 4 4 true := ffX4 _ _ _ _ (by decide) (xtb_in 209 (by decide +kernel) rfl) rfl rfl
theorem fl_X4_37 : xFL RX4 37 4 5 true := ffX4 _ _ _ _ (by decide) (xtb_in 210 (by decide +kernel) rfl) rfl rfl
theorem ac_boolean : Cond.arrayClass .boolean ∈ xtb := xtb_in 224 (by decide +kernel) rfl
theorem lk_L_13 : Cond.methodLink RL 13 yX4_count ∈ xtb := xtb_in 225 (by decide +kernel) rfl
theorem lk_X4_118 : Cond.methodLink RX4 118 yX3_allLots ∈ xtb := xtb_in 229 (by decide +kernel) rfl
theorem lk_X3_49 : Cond.methodLink RX3 49 yX3_productAt ∈ xtb := xtb_in 233 (by decide +kernel) rfl
theorem lk_X3_104 : Cond.methodLink RX3 104 yX2_lotsInAll ∈ xtb := xtb_in 237 (by decide +kernel) rfl
theorem lk_X4_188 : Cond.methodLink RX4 188 yX3_allStock ∈ xtb := xtb_in 241 (by decide +kernel) rfl
theorem lk_X4_192 : Cond.methodLink RX4 192 yX3_allBacklog ∈ xtb := xtb_in 245 (by decide +kernel) rfl
theorem lk_X4_41 : Cond.methodLink RX4 41 yX4_isIn ∈ xtb := xtb_in 249 (by decide +kernel) rfl
theorem lk_X4_56 : Cond.methodLink RX4 56 yX3_setting ∈ xtb := xtb_in 252 (by decide +kernel) rfl
theorem lk_X4_64 : Cond.methodLink RX4 64 yX4_isFamily ∈ xtb := xtb_in 256 (by decide +kernel) rfl
theorem kl_X4_201 : Cond.constantLong RX4 201 (-2) ∈ xtb := xtb_in 259 (by decide +kernel) rfl
theorem lk_L_96 : Cond.methodLink RL 96 yL_cell ∈ xtb := xtb_in 260 (by decide +kernel) rfl
theorem kc_7 : Cond.constant "LotFencesLaw" 7 (763049417) ∈ xtb := xtb_in 263 (by decide +kernel) rfl
theorem lk_L_74 : Cond.methodLink RL 74 yL_view ∈ xtb := xtb_in 264 (by decide +kernel) rfl
theorem kl_L_9 : Cond.constantLong RL 9 (7) ∈ xtb := xtb_in 267 (by decide +kernel) rfl
theorem kl_L_11 : Cond.constantLong RL 11 (31) ∈ xtb := xtb_in 268 (by decide +kernel) rfl
theorem lk_L_19 : Cond.methodLink RL 19 yX4_ofProduct ∈ xtb := xtb_in 269 (by decide +kernel) rfl
theorem lk_X4_85 : Cond.methodLink RX4 85 yX3_productAt ∈ xtb := xtb_in 273 (by decide +kernel) rfl
theorem lk_X4_148 : Cond.methodLink RX4 148 yX2_cover ∈ xtb := xtb_in 274 (by decide +kernel) rfl
theorem lk_L_23 : Cond.methodLink RL 23 yX4_at ∈ xtb := xtb_in 278 (by decide +kernel) rfl
theorem lk_X4_89 : Cond.methodLink RX4 89 yX4_isWeek ∈ xtb := xtb_in 282 (by decide +kernel) rfl
theorem lk_L_100 : Cond.methodLink RL 100 yL_frozen ∈ xtb := xtb_in 285 (by decide +kernel) rfl
theorem lk_L_78 : Cond.methodLink RL 78 yL_turn ∈ xtb := xtb_in 288 (by decide +kernel) rfl
theorem lk_L_53 : Cond.methodLink RL 53 yL_up ∈ xtb := xtb_in 291 (by decide +kernel) rfl
theorem kc_8 : Cond.constant "LotFencesLaw" 8 (2147483647) ∈ xtb := xtb_in 294 (by decide +kernel) rfl
theorem lk_L_30 : Cond.methodLink RL 30 yX4_product ∈ xtb := xtb_in 295 (by decide +kernel) rfl
theorem lk_X4_68 : Cond.methodLink RX4 68 yX3_spareProduct ∈ xtb := xtb_in 299 (by decide +kernel) rfl
theorem lk_X4_52 : Cond.methodLink RX4 52 yX0_remember ∈ xtb := xtb_in 303 (by decide +kernel) rfl
theorem lk_X0_26 : Cond.methodLink RX0 26 yX0_dropOldest ∈ xtb := xtb_in 307 (by decide +kernel) rfl
theorem lk_X0_29 : Cond.methodLink RX0 29 yX3_copyFrom ∈ xtb := xtb_in 311 (by decide +kernel) rfl
theorem lk_X3_39 : Cond.methodLink RX3 39 arraycopyName ∈ xtb := xtb_in 315 (by decide +kernel) rfl
theorem nat_arraycopy : Cond.native arraycopyName ∈ xtb := xtb_in 317 (by decide +kernel) rfl
theorem lk_X3_53 : Cond.methodLink RX3 53 yX2_copyFrom ∈ xtb := xtb_in 318 (by decide +kernel) rfl
theorem lk_X2_61 : Cond.methodLink RX2 61 arraycopyName ∈ xtb := xtb_in 322 (by decide +kernel) rfl
theorem lk_X4_72 : Cond.methodLink RX4 72 yX2_begin ∈ xtb := xtb_in 323 (by decide +kernel) rfl
theorem lk_X2_55 : Cond.methodLink RX2 55 yJ7_fill_53178 ∈ xtb := xtb_in 327 (by decide +kernel) rfl
theorem lk_L_58 : Cond.methodLink RL 58 yL_sets ∈ xtb := xtb_in 328 (by decide +kernel) rfl
theorem lk_L_27 : Cond.methodLink RL 27 yX4_set ∈ xtb := xtb_in 331 (by decide +kernel) rfl
theorem fl_X4_45 : Cond.fieldLink RX4 45 "LotFences" "LEAST_SETTINGS" "[I" ∈ xtb := xtb_in 335 (by decide +kernel) rfl
theorem fl_X4_49 : Cond.fieldLink RX4 49 "LotFences" "MOST_SETTINGS" "[I" ∈ xtb := xtb_in 337 (by decide +kernel) rfl
theorem lk_X4_60 : Cond.methodLink RX4 60 yX3_changeSetting ∈ xtb := xtb_in 339 (by decide +kernel) rfl
theorem lk_L_34 : Cond.methodLink RL 34 yX4_family ∈ xtb := xtb_in 343 (by decide +kernel) rfl
theorem lk_L_37 : Cond.methodLink RL 37 yX4_forecast ∈ xtb := xtb_in 347 (by decide +kernel) rfl
theorem lk_L_40 : Cond.methodLink RL 40 yX4_actual ∈ xtb := xtb_in 351 (by decide +kernel) rfl
theorem lk_L_43 : Cond.methodLink RL 43 yX4_lots ∈ xtb := xtb_in 355 (by decide +kernel) rfl
theorem lk_X4_98 : Cond.methodLink RX4 98 yX3_hoursWith ∈ xtb := xtb_in 359 (by decide +kernel) rfl
theorem lk_X3_78 : Cond.methodLink RX3 78 yX2_lotsIn ∈ xtb := xtb_in 363 (by decide +kernel) rfl
theorem lk_X4_102 : Cond.methodLink RX4 102 yX3_isFrozen ∈ xtb := xtb_in 367 (by decide +kernel) rfl
theorem lk_X3_70 : Cond.methodLink RX3 70 yX3_setting ∈ xtb := xtb_in 371 (by decide +kernel) rfl
theorem lk_X4_105 : Cond.methodLink RX4 105 yX3_capacity ∈ xtb := xtb_in 372 (by decide +kernel) rfl
theorem lk_X4_109 : Cond.methodLink RX4 109 yX3_hoursIn ∈ xtb := xtb_in 376 (by decide +kernel) rfl
theorem lk_X3_74 : Cond.methodLink RX3 74 yX3_hoursWith ∈ xtb := xtb_in 380 (by decide +kernel) rfl
theorem lk_L_62 : Cond.methodLink RL 62 yX4_plan ∈ xtb := xtb_in 381 (by decide +kernel) rfl
theorem lk_X4_115 : Cond.methodLink RX4 115 yX3_planAnew ∈ xtb := xtb_in 385 (by decide +kernel) rfl
theorem lk_X3_117 : Cond.methodLink RX3 117 yX3_openPlans ∈ xtb := xtb_in 389 (by decide +kernel) rfl
theorem lk_X3_128 : Cond.methodLink RX3 128 yX2_openPlan ∈ xtb := xtb_in 393 (by decide +kernel) rfl
theorem lk_X2_67 : Cond.methodLink RX2 67 yX2_projectionBehind ∈ xtb := xtb_in 397 (by decide +kernel) rfl
theorem lk_X2_75 : Cond.methodLink RX2 75 Lib.Math.max.name ∈ xtb := xtb_in 401 (by decide +kernel) rfl
theorem lk_X3_120 : Cond.methodLink RX3 120 yX3_planWeek ∈ xtb := xtb_in 404 (by decide +kernel) rfl
theorem lk_X3_131 : Cond.methodLink RX3 131 yX2_enterWeek ∈ xtb := xtb_in 408 (by decide +kernel) rfl
theorem lk_X2_81 : Cond.methodLink RX2 81 yX2_cover ∈ xtb := xtb_in 412 (by decide +kernel) rfl
theorem lk_X3_135 : Cond.methodLink RX3 135 yX3_capacity ∈ xtb := xtb_in 413 (by decide +kernel) rfl
theorem lk_X3_144 : Cond.methodLink RX3 144 yX3_nextWaiting ∈ xtb := xtb_in 414 (by decide +kernel) rfl
theorem lk_X3_152 : Cond.methodLink RX3 152 yX3_giveLots ∈ xtb := xtb_in 418 (by decide +kernel) rfl
theorem lk_X3_163 : Cond.methodLink RX3 163 yX2_lotsWanted ∈ xtb := xtb_in 423 (by decide +kernel) rfl
theorem lk_X3_167 : Cond.methodLink RX3 167 Lib.Math.min.name ∈ xtb := xtb_in 427 (by decide +kernel) rfl
theorem lk_X3_170 : Cond.methodLink RX3 170 Lib.MathLoose.min_long.x ∈ xtb := xtb_in 430 (by decide +kernel) rfl
theorem lk_X3_173 : Cond.methodLink RX3 173 yX2_planLots ∈ xtb := xtb_in 433 (by decide +kernel) rfl
theorem lk_L_46 : Cond.methodLink RL 46 yX4_weeks ∈ xtb := xtb_in 437 (by decide +kernel) rfl
theorem lk_X4_121 : Cond.methodLink RX4 121 yX3_passWeek ∈ xtb := xtb_in 441 (by decide +kernel) rfl
theorem lk_X3_176 : Cond.methodLink RX3 176 yX3_setupsIn ∈ xtb := xtb_in 445 (by decide +kernel) rfl
theorem lk_X3_90 : Cond.methodLink RX3 90 yX3_familiesIn ∈ xtb := xtb_in 449 (by decide +kernel) rfl
theorem lk_X3_93 : Cond.methodLink RX3 93 yJ6_bitCount_0f7a4 ∈ xtb := xtb_in 453 (by decide +kernel) rfl
theorem kc_265 : Cond.constant "java/lang/Integer" 265 (1431655765) ∈ xtb := xtb_in 456 (by decide +kernel) rfl
theorem kc_266 : Cond.constant "java/lang/Integer" 266 (858993459) ∈ xtb := xtb_in 457 (by decide +kernel) rfl
theorem kc_267 : Cond.constant "java/lang/Integer" 267 (252645135) ∈ xtb := xtb_in 458 (by decide +kernel) rfl
theorem lk_X3_179 : Cond.methodLink RX3 179 yX3_overtimeIn ∈ xtb := xtb_in 459 (by decide +kernel) rfl
theorem lk_X3_98 : Cond.methodLink RX3 98 Lib.Math.max.name ∈ xtb := xtb_in 463 (by decide +kernel) rfl
theorem lk_X3_182 : Cond.methodLink RX3 182 yX2_passWeek ∈ xtb := xtb_in 464 (by decide +kernel) rfl
theorem lk_X2_92 : Cond.methodLink RX2 92 Lib.Math.min.name ∈ xtb := xtb_in 468 (by decide +kernel) rfl
theorem lk_X2_95 : Cond.methodLink RX2 95 Lib.Math.abs.name ∈ xtb := xtb_in 469 (by decide +kernel) rfl
theorem lk_X3_185 : Cond.methodLink RX3 185 yX3_allStock ∈ xtb := xtb_in 472 (by decide +kernel) rfl
theorem lk_X3_189 : Cond.methodLink RX3 189 yX3_allBacklog ∈ xtb := xtb_in 473 (by decide +kernel) rfl
theorem lk_L_66 : Cond.methodLink RL 66 yL_any ∈ xtb := xtb_in 474 (by decide +kernel) rfl
theorem lk_L_50 : Cond.methodLink RL 50 yX4_restore ∈ xtb := xtb_in 477 (by decide +kernel) rfl
theorem lk_X4_203 : Cond.methodLink RX4 203 yX3_copyFrom ∈ xtb := xtb_in 481 (by decide +kernel) rfl
theorem lk_L_109 : Cond.methodLink RL 109 yL_isWeeks ∈ xtb := xtb_in 482 (by decide +kernel) rfl
theorem lk_L_120 : Cond.methodLink RL 120 yL_areRight ∈ xtb := xtb_in 485 (by decide +kernel) rfl
theorem kl_L_69 : Cond.constantLong RL 69 (100) ∈ xtb := xtb_in 488 (by decide +kernel) rfl
theorem lk_L_105 : Cond.methodLink RL 105 yL_isUndone ∈ xtb := xtb_in 489 (by decide +kernel) rfl
theorem lk_L_71 : Cond.methodLink RL 71 yX4_undo ∈ xtb := xtb_in 492 (by decide +kernel) rfl
theorem lk_X4_260 : Cond.methodLink RX4 260 yX0_takeBack ∈ xtb := xtb_in 496 (by decide +kernel) rfl
theorem lk_L_113 : Cond.methodLink RL 113 yL_isSaved ∈ xtb := xtb_in 500 (by decide +kernel) rfl
theorem lk_L_82 : Cond.methodLink RL 82 yX4_save ∈ xtb := xtb_in 503 (by decide +kernel) rfl
theorem lk_L_117 : Cond.methodLink RL 117 yL_asks ∈ xtb := xtb_in 507 (by decide +kernel) rfl
theorem lk_L_85 : Cond.methodLink RL 85 yX4_costs ∈ xtb := xtb_in 510 (by decide +kernel) rfl
theorem lk_X4_210 : Cond.methodLink RX4 210 yX3_forgetTold ∈ xtb := xtb_in 514 (by decide +kernel) rfl
theorem lk_L_89 : Cond.methodLink RL 89 yX4_leastHours ∈ xtb := xtb_in 518 (by decide +kernel) rfl
theorem lk_X4_206 : Cond.methodLink RX4 206 yX3_plansWithoutShortage ∈ xtb := xtb_in 522 (by decide +kernel) rfl
theorem lk_X3_124 : Cond.methodLink RX3 124 yX3_isShort ∈ xtb := xtb_in 526 (by decide +kernel) rfl
theorem lk_L_92 : Cond.methodLink RL 92 yX4_roomFor ∈ xtb := xtb_in 530 (by decide +kernel) rfl
theorem lk_X4_217 : Cond.methodLink RX4 217 Lib.Math.min.name ∈ xtb := xtb_in 534 (by decide +kernel) rfl
theorem kl_L_103 : Cond.constantLong RL 103 (6) ∈ xtb := xtb_in 535 (by decide +kernel) rfl
abbrev mX4_init : xM := (yX4_init, cX4_init, 2, none)
theorem kI_X4_init : xMI mX4_init 0 := ⟨xtb_in 19 (by decide +kernel) rfl, ii_X4, xtb_in (w := .code yX4_init cX4_init 2 none) 20 (by decide +kernel) rfl, ⟨by decide +kernel, by decide⟩, rfl, rfl⟩
abbrev mX3_init : xM := (yX3_init, cX3_init, 2, none)
theorem kI_X3_init : xMI mX3_init 0 := ⟨xtb_in 27 (by decide +kernel) rfl, ii_X3, xtb_in (w := .code yX3_init cX3_init 2 none) 28 (by decide +kernel) rfl, ⟨by decide +kernel, by decide⟩, rfl, rfl⟩
abbrev mJ7_fill_53178 : xM := (yJ7_fill_53178, cJ7_fill_53178, 4, none)
theorem kS_J7_fill_53178 : xMS mJ7_fill_53178 2 := ⟨xtb_in 42 (by decide +kernel) rfl, ii_J7, xtb_in (w := .code yJ7_fill_53178 cJ7_fill_53178 4 none) 43 (by decide +kernel) rfl, ⟨by decide +kernel, by decide⟩⟩
abbrev mX2_init : xM := (yX2_init, cX2_init, 1, none)
theorem kI_X2_init : xMI mX2_init 0 := ⟨xtb_in 46 (by decide +kernel) rfl, ii_X2, xtb_in (w := .code yX2_init cX2_init 1 none) 47 (by decide +kernel) rfl, ⟨by decide +kernel, by decide⟩, rfl, rfl⟩
abbrev mX1_init : xM := (yX1_init, cX1_init, 1, none)
theorem kI_X1_init : xMI mX1_init 0 := ⟨xtb_in 164 (by decide +kernel) rfl, ii_X1, xtb_in (w := .code yX1_init cX1_init 1 none) 165 (by decide +kernel) rfl, ⟨by decide +kernel, by decide⟩, rfl, rfl⟩
abbrev mX0_init : xM := (yX0_init, cX0_init, 2, none)
theorem kI_X0_init : xMI mX0_init 0 := ⟨xtb_in 188 (by decide +kernel) rfl, ii_X0, xtb_in (w := .code yX0_init cX0_init 2 none) 189 (by decide +kernel) rfl, ⟨by decide +kernel, by decide⟩, rfl, rfl⟩
abbrev mX4_count : xM := (yX4_count, cX4_count, 4, (some .long))
theorem kV_X4_count : xMV mX4_count 1 := ⟨xtb_in 226 (by decide +kernel) rfl, xtb_in 227 (by decide +kernel) rfl, ii_X4, xtb_in (w := .code yX4_count cX4_count 4 (some .long)) 228 (by decide +kernel) rfl, ⟨by decide +kernel, by decide⟩⟩
abbrev mX3_allLots : xM := (yX3_allLots, cX3_allLots, 4, (some .int))
theorem kV_X3_allLots : xMV mX3_allLots 0 := ⟨xtb_in 230 (by decide +kernel) rfl, xtb_in 231 (by decide +kernel) rfl, ii_X3, xtb_in (w := .code yX3_allLots cX3_allLots 4 (some .int)) 232 (by decide +kernel) rfl, ⟨by decide +kernel, by decide⟩⟩
abbrev mX3_productAt : xM := (yX3_productAt, cX3_productAt, 2, (some (.object "LotFences$Product")))
theorem kV_X3_productAt : xMV mX3_productAt 1 := ⟨xtb_in 234 (by decide +kernel) rfl, xtb_in 235 (by decide +kernel) rfl, ii_X3, xtb_in (w := .code yX3_productAt cX3_productAt 2 (some (.object "LotFences$Product"))) 236 (by decide +kernel) rfl, ⟨by decide +kernel, by decide⟩⟩
abbrev mX2_lotsInAll : xM := (yX2_lotsInAll, cX2_lotsInAll, 3, (some .int))
theorem kV_X2_lotsInAll : xMV mX2_lotsInAll 0 := ⟨xtb_in 238 (by decide +kernel) rfl, xtb_in 239 (by decide +kernel) rfl, ii_X2, xtb_in (w := .code yX2_lotsInAll cX2_lotsInAll 3 (some .int)) 240 (by decide +kernel) rfl, ⟨by decide +kernel, by decide⟩⟩
abbrev mX3_allStock : xM := (yX3_allStock, cX3_allStock, 5, (some .long))
theorem kV_X3_allStock : xMV mX3_allStock 0 := ⟨xtb_in 242 (by decide +kernel) rfl, xtb_in 243 (by decide +kernel) rfl, ii_X3, xtb_in (w := .code yX3_allStock cX3_allStock 5 (some .long)) 244 (by decide +kernel) rfl, ⟨by decide +kernel, by decide⟩⟩
abbrev mX3_allBacklog : xM := (yX3_allBacklog, cX3_allBacklog, 5, (some .long))
theorem kV_X3_allBacklog : xMV mX3_allBacklog 0 := ⟨xtb_in 246 (by decide +kernel) rfl, xtb_in 247 (by decide +kernel) rfl, ii_X3, xtb_in (w := .code yX3_allBacklog cX3_allBacklog 5 (some .long)) 248 (by decide +kernel) rfl, ⟨by decide +kernel, by decide⟩⟩
abbrev mX4_isIn : xM := (yX4_isIn, cX4_isIn, 3, (some .boolean))
theorem kS_X4_isIn : xMS mX4_isIn 3 := ⟨xtb_in 250 (by decide +kernel) rfl, ii_X4, xtb_in (w := .code yX4_isIn cX4_isIn 3 (some .boolean)) 251 (by decide +kernel) rfl, ⟨by decide +kernel, by decide⟩⟩
abbrev mX3_setting : xM := (yX3_setting, cX3_setting, 2, (some .int))
theorem kV_X3_setting : xMV mX3_setting 1 := ⟨xtb_in 253 (by decide +kernel) rfl, xtb_in 254 (by decide +kernel) rfl, ii_X3, xtb_in (w := .code yX3_setting cX3_setting 2 (some .int)) 255 (by decide +kernel) rfl, ⟨by decide +kernel, by decide⟩⟩
abbrev mX4_isFamily : xM := (yX4_isFamily, cX4_isFamily, 1, (some .boolean))
theorem kS_X4_isFamily : xMS mX4_isFamily 1 := ⟨xtb_in 257 (by decide +kernel) rfl, ii_X4, xtb_in (w := .code yX4_isFamily cX4_isFamily 1 (some .boolean)) 258 (by decide +kernel) rfl, ⟨by decide +kernel, by decide⟩⟩
abbrev mL_cell : xM := (yL_cell, cL_cell, 2, (some .int))
theorem kS_L_cell : xMS mL_cell 2 := ⟨xtb_in 261 (by decide +kernel) rfl, ii_L, xtb_in (w := .code yL_cell cL_cell 2 (some .int)) 262 (by decide +kernel) rfl, ⟨by decide +kernel, by decide⟩⟩
abbrev mL_view : xM := (yL_view, cL_view, 5, (some .long))
theorem kS_L_view : xMS mL_view 1 := ⟨xtb_in 265 (by decide +kernel) rfl, ii_L, xtb_in (w := .code yL_view cL_view 5 (some .long)) 266 (by decide +kernel) rfl, ⟨by decide +kernel, by decide⟩⟩
abbrev mX4_ofProduct : xM := (yX4_ofProduct, cX4_ofProduct, 4, (some .int))
theorem kV_X4_ofProduct : xMV mX4_ofProduct 2 := ⟨xtb_in 270 (by decide +kernel) rfl, xtb_in 271 (by decide +kernel) rfl, ii_X4, xtb_in (w := .code yX4_ofProduct cX4_ofProduct 4 (some .int)) 272 (by decide +kernel) rfl, ⟨by decide +kernel, by decide⟩⟩
abbrev mX2_cover : xM := (yX2_cover, cX2_cover, 2, (some .int))
theorem kV_X2_cover : xMV mX2_cover 1 := ⟨xtb_in 275 (by decide +kernel) rfl, xtb_in 276 (by decide +kernel) rfl, ii_X2, xtb_in (w := .code yX2_cover cX2_cover 2 (some .int)) 277 (by decide +kernel) rfl, ⟨by decide +kernel, by decide⟩⟩
abbrev mX4_at : xM := (yX4_at, cX4_at, 5, (some .int))
theorem kV_X4_at : xMV mX4_at 3 := ⟨xtb_in 279 (by decide +kernel) rfl, xtb_in 280 (by decide +kernel) rfl, ii_X4, xtb_in (w := .code yX4_at cX4_at 5 (some .int)) 281 (by decide +kernel) rfl, ⟨by decide +kernel, by decide⟩⟩
abbrev mX4_isWeek : xM := (yX4_isWeek, cX4_isWeek, 1, (some .boolean))
theorem kS_X4_isWeek : xMS mX4_isWeek 1 := ⟨xtb_in 283 (by decide +kernel) rfl, ii_X4, xtb_in (w := .code yX4_isWeek cX4_isWeek 1 (some .boolean)) 284 (by decide +kernel) rfl, ⟨by decide +kernel, by decide⟩⟩
abbrev mL_frozen : xM := (yL_frozen, cL_frozen, 5, (some .long))
theorem kS_L_frozen : xMS mL_frozen 1 := ⟨xtb_in 286 (by decide +kernel) rfl, ii_L, xtb_in (w := .code yL_frozen cL_frozen 5 (some .long)) 287 (by decide +kernel) rfl, ⟨by decide +kernel, by decide⟩⟩
abbrev mL_turn : xM := (yL_turn, cL_turn, 5, (some .int))
theorem kS_L_turn : xMS mL_turn 4 := ⟨xtb_in 289 (by decide +kernel) rfl, ii_L, xtb_in (w := .code yL_turn cL_turn 5 (some .int)) 290 (by decide +kernel) rfl, ⟨by decide +kernel, by decide⟩⟩
abbrev mL_up : xM := (yL_up, cL_up, 2, (some .int))
theorem kS_L_up : xMS mL_up 2 := ⟨xtb_in 292 (by decide +kernel) rfl, ii_L, xtb_in (w := .code yL_up cL_up 2 (some .int)) 293 (by decide +kernel) rfl, ⟨by decide +kernel, by decide⟩⟩
abbrev mX4_product : xM := (yX4_product, cX4_product, 8, (some .int))
theorem kV_X4_product : xMV mX4_product 5 := ⟨xtb_in 296 (by decide +kernel) rfl, xtb_in 297 (by decide +kernel) rfl, ii_X4, xtb_in (w := .code yX4_product cX4_product 8 (some .int)) 298 (by decide +kernel) rfl, ⟨by decide +kernel, by decide⟩⟩
abbrev mX3_spareProduct : xM := (yX3_spareProduct, cX3_spareProduct, 1, (some (.object "LotFences$Product")))
theorem kV_X3_spareProduct : xMV mX3_spareProduct 0 := ⟨xtb_in 300 (by decide +kernel) rfl, xtb_in 301 (by decide +kernel) rfl, ii_X3, xtb_in (w := .code yX3_spareProduct cX3_spareProduct 1 (some (.object "LotFences$Product"))) 302 (by decide +kernel) rfl, ⟨by decide +kernel, by decide⟩⟩
abbrev mX0_remember : xM := (yX0_remember, cX0_remember, 2, none)
theorem kV_X0_remember : xMV mX0_remember 1 := ⟨xtb_in 304 (by decide +kernel) rfl, xtb_in 305 (by decide +kernel) rfl, ii_X0, xtb_in (w := .code yX0_remember cX0_remember 2 none) 306 (by decide +kernel) rfl, ⟨by decide +kernel, by decide⟩⟩
abbrev mX0_dropOldest : xM := (yX0_dropOldest, cX0_dropOldest, 3, none)
theorem kV_X0_dropOldest : xMV mX0_dropOldest 0 := ⟨xtb_in 309 (by decide +kernel) rfl, xtb_in 0 (by decide +kernel) rfl, ii_X0, xtb_in (w := .code yX0_dropOldest cX0_dropOldest 3 none) 310 (by decide +kernel) rfl, ⟨by decide +kernel, by decide⟩⟩
abbrev mX3_copyFrom : xM := (yX3_copyFrom, cX3_copyFrom, 5, none)
theorem kV_X3_copyFrom : xMV mX3_copyFrom 1 := ⟨xtb_in 312 (by decide +kernel) rfl, xtb_in 313 (by decide +kernel) rfl, ii_X3, xtb_in (w := .code yX3_copyFrom cX3_copyFrom 5 none) 314 (by decide +kernel) rfl, ⟨by decide +kernel, by decide⟩⟩
abbrev mX2_copyFrom : xM := (yX2_copyFrom, cX2_copyFrom, 2, none)
theorem kV_X2_copyFrom : xMV mX2_copyFrom 1 := ⟨xtb_in 319 (by decide +kernel) rfl, xtb_in 320 (by decide +kernel) rfl, ii_X2, xtb_in (w := .code yX2_copyFrom cX2_copyFrom 2 none) 321 (by decide +kernel) rfl, ⟨by decide +kernel, by decide⟩⟩
abbrev mX2_begin : xM := (yX2_begin, cX2_begin, 6, none)
theorem kV_X2_begin : xMV mX2_begin 5 := ⟨xtb_in 324 (by decide +kernel) rfl, xtb_in 325 (by decide +kernel) rfl, ii_X2, xtb_in (w := .code yX2_begin cX2_begin 6 none) 326 (by decide +kernel) rfl, ⟨by decide +kernel, by decide⟩⟩
abbrev mL_sets : xM := (yL_sets, cL_sets, 5, (some .int))
theorem kS_L_sets : xMS mL_sets 3 := ⟨xtb_in 329 (by decide +kernel) rfl, ii_L, xtb_in (w := .code yL_sets cL_sets 5 (some .int)) 330 (by decide +kernel) rfl, ⟨by decide +kernel, by decide⟩⟩
abbrev mX4_set : xM := (yX4_set, cX4_set, 4, (some .int))
theorem kV_X4_set : xMV mX4_set 2 := ⟨xtb_in 332 (by decide +kernel) rfl, xtb_in 333 (by decide +kernel) rfl, ii_X4, xtb_in (w := .code yX4_set cX4_set 4 (some .int)) 334 (by decide +kernel) rfl, ⟨by decide +kernel, by decide⟩⟩
abbrev mX3_changeSetting : xM := (yX3_changeSetting, cX3_changeSetting, 3, none)
theorem kV_X3_changeSetting : xMV mX3_changeSetting 2 := ⟨xtb_in 340 (by decide +kernel) rfl, xtb_in 341 (by decide +kernel) rfl, ii_X3, xtb_in (w := .code yX3_changeSetting cX3_changeSetting 3 none) 342 (by decide +kernel) rfl, ⟨by decide +kernel, by decide⟩⟩
abbrev mX4_family : xM := (yX4_family, cX4_family, 4, (some .int))
theorem kV_X4_family : xMV mX4_family 2 := ⟨xtb_in 344 (by decide +kernel) rfl, xtb_in 345 (by decide +kernel) rfl, ii_X4, xtb_in (w := .code yX4_family cX4_family 4 (some .int)) 346 (by decide +kernel) rfl, ⟨by decide +kernel, by decide⟩⟩
abbrev mX4_forecast : xM := (yX4_forecast, cX4_forecast, 6, (some .int))
theorem kV_X4_forecast : xMV mX4_forecast 3 := ⟨xtb_in 348 (by decide +kernel) rfl, xtb_in 349 (by decide +kernel) rfl, ii_X4, xtb_in (w := .code yX4_forecast cX4_forecast 6 (some .int)) 350 (by decide +kernel) rfl, ⟨by decide +kernel, by decide⟩⟩
abbrev mX4_actual : xM := (yX4_actual, cX4_actual, 5, (some .int))
theorem kV_X4_actual : xMV mX4_actual 2 := ⟨xtb_in 352 (by decide +kernel) rfl, xtb_in 353 (by decide +kernel) rfl, ii_X4, xtb_in (w := .code yX4_actual cX4_actual 5 (some .int)) 354 (by decide +kernel) rfl, ⟨by decide +kernel, by decide⟩⟩
abbrev mX4_lots : xM := (yX4_lots, cX4_lots, 7, (some .int))
theorem kV_X4_lots : xMV mX4_lots 3 := ⟨xtb_in 356 (by decide +kernel) rfl, xtb_in 357 (by decide +kernel) rfl, ii_X4, xtb_in (w := .code yX4_lots cX4_lots 7 (some .int)) 358 (by decide +kernel) rfl, ⟨by decide +kernel, by decide⟩⟩
abbrev mX3_hoursWith : xM := (yX3_hoursWith, cX3_hoursWith, 9, (some .int))
theorem kV_X3_hoursWith : xMV mX3_hoursWith 3 := ⟨xtb_in 360 (by decide +kernel) rfl, xtb_in 361 (by decide +kernel) rfl, ii_X3, xtb_in (w := .code yX3_hoursWith cX3_hoursWith 9 (some .int)) 362 (by decide +kernel) rfl, ⟨by decide +kernel, by decide⟩⟩
abbrev mX2_lotsIn : xM := (yX2_lotsIn, cX2_lotsIn, 2, (some .int))
theorem kV_X2_lotsIn : xMV mX2_lotsIn 1 := ⟨xtb_in 364 (by decide +kernel) rfl, xtb_in 365 (by decide +kernel) rfl, ii_X2, xtb_in (w := .code yX2_lotsIn cX2_lotsIn 2 (some .int)) 366 (by decide +kernel) rfl, ⟨by decide +kernel, by decide⟩⟩
abbrev mX3_isFrozen : xM := (yX3_isFrozen, cX3_isFrozen, 2, (some .boolean))
theorem kV_X3_isFrozen : xMV mX3_isFrozen 1 := ⟨xtb_in 368 (by decide +kernel) rfl, xtb_in 369 (by decide +kernel) rfl, ii_X3, xtb_in (w := .code yX3_isFrozen cX3_isFrozen 2 (some .boolean)) 370 (by decide +kernel) rfl, ⟨by decide +kernel, by decide⟩⟩
abbrev mX3_capacity : xM := (yX3_capacity, cX3_capacity, 1, (some .int))
theorem kV_X3_capacity : xMV mX3_capacity 0 := ⟨xtb_in 373 (by decide +kernel) rfl, xtb_in 374 (by decide +kernel) rfl, ii_X3, xtb_in (w := .code yX3_capacity cX3_capacity 1 (some .int)) 375 (by decide +kernel) rfl, ⟨by decide +kernel, by decide⟩⟩
abbrev mX3_hoursIn : xM := (yX3_hoursIn, cX3_hoursIn, 2, (some .int))
theorem kV_X3_hoursIn : xMV mX3_hoursIn 1 := ⟨xtb_in 377 (by decide +kernel) rfl, xtb_in 378 (by decide +kernel) rfl, ii_X3, xtb_in (w := .code yX3_hoursIn cX3_hoursIn 2 (some .int)) 379 (by decide +kernel) rfl, ⟨by decide +kernel, by decide⟩⟩
abbrev mX4_plan : xM := (yX4_plan, cX4_plan, 1, (some .int))
theorem kV_X4_plan : xMV mX4_plan 0 := ⟨xtb_in 382 (by decide +kernel) rfl, xtb_in 383 (by decide +kernel) rfl, ii_X4, xtb_in (w := .code yX4_plan cX4_plan 1 (some .int)) 384 (by decide +kernel) rfl, ⟨by decide +kernel, by decide⟩⟩
abbrev mX3_planAnew : xM := (yX3_planAnew, cX3_planAnew, 2, none)
theorem kV_X3_planAnew : xMV mX3_planAnew 0 := ⟨xtb_in 386 (by decide +kernel) rfl, xtb_in 387 (by decide +kernel) rfl, ii_X3, xtb_in (w := .code yX3_planAnew cX3_planAnew 2 none) 388 (by decide +kernel) rfl, ⟨by decide +kernel, by decide⟩⟩
abbrev mX3_openPlans : xM := (yX3_openPlans, cX3_openPlans, 4, none)
theorem kV_X3_openPlans : xMV mX3_openPlans 0 := ⟨xtb_in 391 (by decide +kernel) rfl, xtb_in 1 (by decide +kernel) rfl, ii_X3, xtb_in (w := .code yX3_openPlans cX3_openPlans 4 none) 392 (by decide +kernel) rfl, ⟨by decide +kernel, by decide⟩⟩
abbrev mX2_openPlan : xM := (yX2_openPlan, cX2_openPlan, 3, none)
theorem kV_X2_openPlan : xMV mX2_openPlan 1 := ⟨xtb_in 394 (by decide +kernel) rfl, xtb_in 395 (by decide +kernel) rfl, ii_X2, xtb_in (w := .code yX2_openPlan cX2_openPlan 3 none) 396 (by decide +kernel) rfl, ⟨by decide +kernel, by decide⟩⟩
abbrev mX2_projectionBehind : xM := (yX2_projectionBehind, cX2_projectionBehind, 5, (some .long))
theorem kV_X2_projectionBehind : xMV mX2_projectionBehind 1 := ⟨xtb_in 398 (by decide +kernel) rfl, xtb_in 399 (by decide +kernel) rfl, ii_X2, xtb_in (w := .code yX2_projectionBehind cX2_projectionBehind 5 (some .long)) 400 (by decide +kernel) rfl, ⟨by decide +kernel, by decide⟩⟩
abbrev mX3_planWeek : xM := (yX3_planWeek, cX3_planWeek, 5, none)
theorem kV_X3_planWeek : xMV mX3_planWeek 1 := ⟨xtb_in 406 (by decide +kernel) rfl, xtb_in 2 (by decide +kernel) rfl, ii_X3, xtb_in (w := .code yX3_planWeek cX3_planWeek 5 none) 407 (by decide +kernel) rfl, ⟨by decide +kernel, by decide⟩⟩
abbrev mX2_enterWeek : xM := (yX2_enterWeek, cX2_enterWeek, 3, none)
theorem kV_X2_enterWeek : xMV mX2_enterWeek 2 := ⟨xtb_in 409 (by decide +kernel) rfl, xtb_in 410 (by decide +kernel) rfl, ii_X2, xtb_in (w := .code yX2_enterWeek cX2_enterWeek 3 none) 411 (by decide +kernel) rfl, ⟨by decide +kernel, by decide⟩⟩
abbrev mX3_nextWaiting : xM := (yX3_nextWaiting, cX3_nextWaiting, 4, (some (.object "LotFences$Product")))
theorem kV_X3_nextWaiting : xMV mX3_nextWaiting 0 := ⟨xtb_in 416 (by decide +kernel) rfl, xtb_in 3 (by decide +kernel) rfl, ii_X3, xtb_in (w := .code yX3_nextWaiting cX3_nextWaiting 4 (some (.object "LotFences$Product"))) 417 (by decide +kernel) rfl, ⟨by decide +kernel, by decide⟩⟩
abbrev mX3_giveLots : xM := (yX3_giveLots, cX3_giveLots, 8, none)
theorem kV_X3_giveLots : xMV mX3_giveLots 2 := ⟨xtb_in 420 (by decide +kernel) rfl, xtb_in 4 (by decide +kernel) rfl, ii_X3, xtb_in (w := .code yX3_giveLots cX3_giveLots 8 none) 421 (by decide +kernel) rfl, ⟨by decide +kernel, by decide⟩⟩
abbrev mX2_lotsWanted : xM := (yX2_lotsWanted, cX2_lotsWanted, 6, (some .long))
theorem kV_X2_lotsWanted : xMV mX2_lotsWanted 2 := ⟨xtb_in 424 (by decide +kernel) rfl, xtb_in 425 (by decide +kernel) rfl, ii_X2, xtb_in (w := .code yX2_lotsWanted cX2_lotsWanted 6 (some .long)) 426 (by decide +kernel) rfl, ⟨by decide +kernel, by decide⟩⟩
abbrev mX2_planLots : xM := (yX2_planLots, cX2_planLots, 3, none)
theorem kV_X2_planLots : xMV mX2_planLots 2 := ⟨xtb_in 434 (by decide +kernel) rfl, xtb_in 435 (by decide +kernel) rfl, ii_X2, xtb_in (w := .code yX2_planLots cX2_planLots 3 none) 436 (by decide +kernel) rfl, ⟨by decide +kernel, by decide⟩⟩
abbrev mX4_weeks : xM := (yX4_weeks, cX4_weeks, 3, (some .int))
theorem kV_X4_weeks : xMV mX4_weeks 1 := ⟨xtb_in 438 (by decide +kernel) rfl, xtb_in 439 (by decide +kernel) rfl, ii_X4, xtb_in (w := .code yX4_weeks cX4_weeks 3 (some .int)) 440 (by decide +kernel) rfl, ⟨by decide +kernel, by decide⟩⟩
abbrev mX3_passWeek : xM := (yX3_passWeek, cX3_passWeek, 5, none)
theorem kV_X3_passWeek : xMV mX3_passWeek 0 := ⟨xtb_in 442 (by decide +kernel) rfl, xtb_in 443 (by decide +kernel) rfl, ii_X3, xtb_in (w := .code yX3_passWeek cX3_passWeek 5 none) 444 (by decide +kernel) rfl, ⟨by decide +kernel, by decide⟩⟩
abbrev mX3_setupsIn : xM := (yX3_setupsIn, cX3_setupsIn, 5, (some .int))
theorem kV_X3_setupsIn : xMV mX3_setupsIn 1 := ⟨xtb_in 446 (by decide +kernel) rfl, xtb_in 447 (by decide +kernel) rfl, ii_X3, xtb_in (w := .code yX3_setupsIn cX3_setupsIn 5 (some .int)) 448 (by decide +kernel) rfl, ⟨by decide +kernel, by decide⟩⟩
abbrev mX3_familiesIn : xM := (yX3_familiesIn, cX3_familiesIn, 5, (some .int))
theorem kV_X3_familiesIn : xMV mX3_familiesIn 1 := ⟨xtb_in 450 (by decide +kernel) rfl, xtb_in 451 (by decide +kernel) rfl, ii_X3, xtb_in (w := .code yX3_familiesIn cX3_familiesIn 5 (some .int)) 452 (by decide +kernel) rfl, ⟨by decide +kernel, by decide⟩⟩
abbrev mJ6_bitCount_0f7a4 : xM := (yJ6_bitCount_0f7a4, cJ6_bitCount_0f7a4, 1, (some .int))
theorem kS_J6_bitCount_0f7a4 : xMS mJ6_bitCount_0f7a4 1 := ⟨xtb_in 454 (by decide +kernel) rfl, ii_J6, xtb_in (w := .code yJ6_bitCount_0f7a4 cJ6_bitCount_0f7a4 1 (some .int)) 455 (by decide +kernel) rfl, ⟨by decide +kernel, by decide⟩⟩
abbrev mX3_overtimeIn : xM := (yX3_overtimeIn, cX3_overtimeIn, 2, (some .int))
theorem kV_X3_overtimeIn : xMV mX3_overtimeIn 1 := ⟨xtb_in 460 (by decide +kernel) rfl, xtb_in 461 (by decide +kernel) rfl, ii_X3, xtb_in (w := .code yX3_overtimeIn cX3_overtimeIn 2 (some .int)) 462 (by decide +kernel) rfl, ⟨by decide +kernel, by decide⟩⟩
abbrev mX2_passWeek : xM := (yX2_passWeek, cX2_passWeek, 5, none)
theorem kV_X2_passWeek : xMV mX2_passWeek 0 := ⟨xtb_in 465 (by decide +kernel) rfl, xtb_in 466 (by decide +kernel) rfl, ii_X2, xtb_in (w := .code yX2_passWeek cX2_passWeek 5 none) 467 (by decide +kernel) rfl, ⟨by decide +kernel, by decide⟩⟩
abbrev mL_any : xM := (yL_any, cL_any, 3, (some .int))
theorem kS_L_any : xMS mL_any 3 := ⟨xtb_in 475 (by decide +kernel) rfl, ii_L, xtb_in (w := .code yL_any cL_any 3 (some .int)) 476 (by decide +kernel) rfl, ⟨by decide +kernel, by decide⟩⟩
abbrev mX4_restore : xM := (yX4_restore, cX4_restore, 2, (some .int))
theorem kV_X4_restore : xMV mX4_restore 1 := ⟨xtb_in 478 (by decide +kernel) rfl, xtb_in 479 (by decide +kernel) rfl, ii_X4, xtb_in (w := .code yX4_restore cX4_restore 2 (some .int)) 480 (by decide +kernel) rfl, ⟨by decide +kernel, by decide⟩⟩
abbrev mL_isWeeks : xM := (yL_isWeeks, cL_isWeeks, 2, (some .boolean))
theorem kS_L_isWeeks : xMS mL_isWeeks 2 := ⟨xtb_in 483 (by decide +kernel) rfl, ii_L, xtb_in (w := .code yL_isWeeks cL_isWeeks 2 (some .boolean)) 484 (by decide +kernel) rfl, ⟨by decide +kernel, by decide⟩⟩
abbrev mL_areRight : xM := (yL_areRight, cL_areRight, 9, (some .boolean))
theorem kS_L_areRight : xMS mL_areRight 1 := ⟨xtb_in 486 (by decide +kernel) rfl, ii_L, xtb_in (w := .code yL_areRight cL_areRight 9 (some .boolean)) 487 (by decide +kernel) rfl, ⟨by decide +kernel, by decide⟩⟩
abbrev mL_isUndone : xM := (yL_isUndone, cL_isUndone, 9, (some .boolean))
theorem kS_L_isUndone : xMS mL_isUndone 6 := ⟨xtb_in 490 (by decide +kernel) rfl, ii_L, xtb_in (w := .code yL_isUndone cL_isUndone 9 (some .boolean)) 491 (by decide +kernel) rfl, ⟨by decide +kernel, by decide⟩⟩
abbrev mX4_undo : xM := (yX4_undo, cX4_undo, 1, (some .int))
theorem kV_X4_undo : xMV mX4_undo 0 := ⟨xtb_in 493 (by decide +kernel) rfl, xtb_in 494 (by decide +kernel) rfl, ii_X4, xtb_in (w := .code yX4_undo cX4_undo 1 (some .int)) 495 (by decide +kernel) rfl, ⟨by decide +kernel, by decide⟩⟩
abbrev mX0_takeBack : xM := (yX0_takeBack, cX0_takeBack, 2, none)
theorem kV_X0_takeBack : xMV mX0_takeBack 1 := ⟨xtb_in 497 (by decide +kernel) rfl, xtb_in 498 (by decide +kernel) rfl, ii_X0, xtb_in (w := .code yX0_takeBack cX0_takeBack 2 none) 499 (by decide +kernel) rfl, ⟨by decide +kernel, by decide⟩⟩
abbrev mL_isSaved : xM := (yL_isSaved, cL_isSaved, 7, (some .boolean))
theorem kS_L_isSaved : xMS mL_isSaved 3 := ⟨xtb_in 501 (by decide +kernel) rfl, ii_L, xtb_in (w := .code yL_isSaved cL_isSaved 7 (some .boolean)) 502 (by decide +kernel) rfl, ⟨by decide +kernel, by decide⟩⟩
abbrev mX4_save : xM := (yX4_save, cX4_save, 3, (some .int))
theorem kV_X4_save : xMV mX4_save 1 := ⟨xtb_in 504 (by decide +kernel) rfl, xtb_in 505 (by decide +kernel) rfl, ii_X4, xtb_in (w := .code yX4_save cX4_save 3 (some .int)) 506 (by decide +kernel) rfl, ⟨by decide +kernel, by decide⟩⟩
abbrev mL_asks : xM := (yL_asks, cL_asks, 7, (some .boolean))
theorem kS_L_asks : xMS mL_asks 3 := ⟨xtb_in 508 (by decide +kernel) rfl, ii_L, xtb_in (w := .code yL_asks cL_asks 7 (some .boolean)) 509 (by decide +kernel) rfl, ⟨by decide +kernel, by decide⟩⟩
abbrev mX4_costs : xM := (yX4_costs, cX4_costs, 4, (some .long))
theorem kV_X4_costs : xMV mX4_costs 2 := ⟨xtb_in 511 (by decide +kernel) rfl, xtb_in 512 (by decide +kernel) rfl, ii_X4, xtb_in (w := .code yX4_costs cX4_costs 4 (some .long)) 513 (by decide +kernel) rfl, ⟨by decide +kernel, by decide⟩⟩
abbrev mX3_forgetTold : xM := (yX3_forgetTold, cX3_forgetTold, 3, none)
theorem kV_X3_forgetTold : xMV mX3_forgetTold 0 := ⟨xtb_in 515 (by decide +kernel) rfl, xtb_in 516 (by decide +kernel) rfl, ii_X3, xtb_in (w := .code yX3_forgetTold cX3_forgetTold 3 none) 517 (by decide +kernel) rfl, ⟨by decide +kernel, by decide⟩⟩
abbrev mX4_leastHours : xM := (yX4_leastHours, cX4_leastHours, 2, (some .int))
theorem kV_X4_leastHours : xMV mX4_leastHours 0 := ⟨xtb_in 519 (by decide +kernel) rfl, xtb_in 520 (by decide +kernel) rfl, ii_X4, xtb_in (w := .code yX4_leastHours cX4_leastHours 2 (some .int)) 521 (by decide +kernel) rfl, ⟨by decide +kernel, by decide⟩⟩
abbrev mX3_plansWithoutShortage : xM := (yX3_plansWithoutShortage, cX3_plansWithoutShortage, 2, (some .boolean))
theorem kV_X3_plansWithoutShortage : xMV mX3_plansWithoutShortage 0 := ⟨xtb_in 523 (by decide +kernel) rfl, xtb_in 524 (by decide +kernel) rfl, ii_X3, xtb_in (w := .code yX3_plansWithoutShortage cX3_plansWithoutShortage 2 (some .boolean)) 525 (by decide +kernel) rfl, ⟨by decide +kernel, by decide⟩⟩
abbrev mX3_isShort : xM := (yX3_isShort, cX3_isShort, 3, (some .boolean))
theorem kV_X3_isShort : xMV mX3_isShort 0 := ⟨xtb_in 528 (by decide +kernel) rfl, xtb_in 5 (by decide +kernel) rfl, ii_X3, xtb_in (w := .code yX3_isShort cX3_isShort 3 (some .boolean)) 529 (by decide +kernel) rfl, ⟨by decide +kernel, by decide⟩⟩
abbrev mX4_roomFor : xM := (yX4_roomFor, cX4_roomFor, 6, (some .int))
theorem kV_X4_roomFor : xMV mX4_roomFor 2 := ⟨xtb_in 531 (by decide +kernel) rfl, xtb_in 532 (by decide +kernel) rfl, ii_X4, xtb_in (w := .code yX4_roomFor cX4_roomFor 6 (some .int)) 533 (by decide +kernel) rfl, ⟨by decide +kernel, by decide⟩⟩
theorem st_min : Cond.static Lib.Math.min.name ∈ xtb := xtb_in 428 (by decide +kernel) rfl
theorem cd_min : Cond.code Lib.Math.min.name Lib.Math.min.code 2 (some .int) ∈ xtb := xtb_in 429 (by decide +kernel) rfl
theorem st_max : Cond.static Lib.Math.max.name ∈ xtb := xtb_in 402 (by decide +kernel) rfl
theorem cd_max : Cond.code Lib.Math.max.name Lib.Math.max.code 2 (some .int) ∈ xtb := xtb_in 403 (by decide +kernel) rfl
theorem st_abs : Cond.static Lib.Math.abs.name ∈ xtb := xtb_in 470 (by decide +kernel) rfl
theorem cd_abs : Cond.code Lib.Math.abs.name Lib.Math.abs.code 1 (some .int) ∈ xtb := xtb_in 471 (by decide +kernel) rfl
theorem st_minL : Cond.static Lib.MathLoose.min_long.x ∈ xtb := xtb_in 431 (by decide +kernel) rfl
theorem cd_minL : Cond.code Lib.MathLoose.min_long.x Lib.MathLoose.min_long.code 4 (some .long) ∈ xtb := xtb_in 432 (by decide +kernel) rfl
theorem oi_in : Cond.instanceMethod Lib.objectInit ∈ xtb := xtb_in 22 (by decide +kernel) rfl
theorem oi_cd : Cond.code Lib.objectInit ⟨#[0xb1]⟩ 1 none ∈ xtb := xtb_in 23 (by decide +kernel) rfl
theorem st_copy : Cond.static arraycopyName ∈ xtb := xtb_in 316 (by decide +kernel) rfl
theorem in_clone : Cond.instanceMethod ⟨"java/lang/Object", "clone", "()Ljava/lang/Object;"⟩ ∈ xtb := xtb_in 35 (by decide +kernel) rfl
