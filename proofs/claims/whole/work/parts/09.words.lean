theorem ixX0 : ∀ w ∈ u_ws RX0 TX0 3, w ∈ xtb := by
  have h : u_ws RX0 TX0 3 = ([258, 260, 262] : List Nat).filterMap (fun i => lw_tbl[i]?) := by decide +kernel
  intro w hw
  rw [h] at hw
  obtain ⟨i, -, hi⟩ := List.mem_filterMap.mp hw
  have hg : (([258, 260, 262] : List Nat).filterMap (fun i => lw_tbl[i]?)).all goodWord = true := by decide +kernel
  exact List.mem_filter.mpr ⟨List.mem_of_getElem? hi, List.all_eq_true.mp hg w hw⟩
theorem ffX0 (own : String) (idx j : Nat) (fin : Bool) (hj : j < 3) (h : Cond.fieldLink own idx (TX0 j).1 (TX0 j).2.1 (TX0 j).2.2.1 ∈ xtb) (hf : (TX0 j).2.2.2 = fin) (hc : (TX0 j).1 = RX0) : xFL own idx 0 j fin := ⟨TX0, by decide, rfl, hj, ixX0, tyX0_ok, nmX0, h, hf, hc⟩
theorem ixX1 : ∀ w ∈ u_ws RX1 TX1 7, w ∈ xtb := by
  have h : u_ws RX1 TX1 7 = ([228, 230, 232, 234, 236, 238, 240] : List Nat).filterMap (fun i => lw_tbl[i]?) := by decide +kernel
  intro w hw
  rw [h] at hw
  obtain ⟨i, -, hi⟩ := List.mem_filterMap.mp hw
  have hg : (([228, 230, 232, 234, 236, 238, 240] : List Nat).filterMap (fun i => lw_tbl[i]?)).all goodWord = true := by decide +kernel
  exact List.mem_filter.mpr ⟨List.mem_of_getElem? hi, List.all_eq_true.mp hg w hw⟩
theorem ffX1 (own : String) (idx j : Nat) (fin : Bool) (hj : j < 7) (h : Cond.fieldLink own idx (TX1 j).1 (TX1 j).2.1 (TX1 j).2.2.1 ∈ xtb) (hf : (TX1 j).2.2.2 = fin) (hc : (TX1 j).1 = RX1) : xFL own idx 1 j fin := ⟨TX1, by decide, rfl, hj, ixX1, tyX1_ok, nmX1, h, hf, hc⟩
theorem ixX2 : ∀ w ∈ u_ws RX2 TX2 17, w ∈ xtb := by
  have h : u_ws RX2 TX2 17 = ([136, 138, 140, 142, 144, 146, 148, 150, 152, 154, 156, 158, 160, 162, 164, 166, 168] : List Nat).filterMap (fun i => lw_tbl[i]?) := by decide +kernel
  intro w hw
  rw [h] at hw
  obtain ⟨i, -, hi⟩ := List.mem_filterMap.mp hw
  have hg : (([136, 138, 140, 142, 144, 146, 148, 150, 152, 154, 156, 158, 160, 162, 164, 166, 168] : List Nat).filterMap (fun i => lw_tbl[i]?)).all goodWord = true := by decide +kernel
  exact List.mem_filter.mpr ⟨List.mem_of_getElem? hi, List.all_eq_true.mp hg w hw⟩
theorem ffX2 (own : String) (idx j : Nat) (fin : Bool) (hj : j < 17) (h : Cond.fieldLink own idx (TX2 j).1 (TX2 j).2.1 (TX2 j).2.2.1 ∈ xtb) (hf : (TX2 j).2.2.2 = fin) (hc : (TX2 j).1 = RX2) : xFL own idx 2 j fin := ⟨TX2, by decide, rfl, hj, ixX2, tyX2_ok, nmX2, h, hf, hc⟩
theorem ixX3 : ∀ w ∈ u_ws RX3 TX3 10, w ∈ xtb := by
  have h : u_ws RX3 TX3 10 = ([188, 190, 192, 194, 196, 198, 200, 202, 204, 206] : List Nat).filterMap (fun i => lw_tbl[i]?) := by decide +kernel
  intro w hw
  rw [h] at hw
  obtain ⟨i, -, hi⟩ := List.mem_filterMap.mp hw
  have hg : (([188, 190, 192, 194, 196, 198, 200, 202, 204, 206] : List Nat).filterMap (fun i => lw_tbl[i]?)).all goodWord = true := by decide +kernel
  exact List.mem_filter.mpr ⟨List.mem_of_getElem? hi, List.all_eq_true.mp hg w hw⟩
theorem ffX3 (own : String) (idx j : Nat) (fin : Bool) (hj : j < 10) (h : Cond.fieldLink own idx (TX3 j).1 (TX3 j).2.1 (TX3 j).2.2.1 ∈ xtb) (hf : (TX3 j).2.2.2 = fin) (hc : (TX3 j).1 = RX3) : xFL own idx 3 j fin := ⟨TX3, by decide, rfl, hj, ixX3, tyX3_ok, nmX3, h, hf, hc⟩
theorem ixX4 : ∀ w ∈ u_ws RX4 TX4 6, w ∈ xtb := by
  have h : u_ws RX4 TX4 6 = ([271, 273, 275, 277, 279, 281] : List Nat).filterMap (fun i => lw_tbl[i]?) := by decide +kernel
  intro w hw
  rw [h] at hw
  obtain ⟨i, -, hi⟩ := List.mem_filterMap.mp hw
  have hg : (([271, 273, 275, 277, 279, 281] : List Nat).filterMap (fun i => lw_tbl[i]?)).all goodWord = true := by decide +kernel
  exact List.mem_filter.mpr ⟨List.mem_of_getElem? hi, List.all_eq_true.mp hg w hw⟩
theorem ffX4 (own : String) (idx j : Nat) (fin : Bool) (hj : j < 6) (h : Cond.fieldLink own idx (TX4 j).1 (TX4 j).2.1 (TX4 j).2.2.1 ∈ xtb) (hf : (TX4 j).2.2.2 = fin) (hc : (TX4 j).1 = RX4) : xFL own idx 4 j fin := ⟨TX4, by decide, rfl, hj, ixX4, tyX4_ok, nmX4, h, hf, hc⟩
theorem ixX5 : ∀ w ∈ u_ws RX5 TX5 12, w ∈ xtb := by
  have h : u_ws RX5 TX5 12 = ([681, 683, 685, 687, 689, 691, 693, 695, 697, 699, 701, 703] : List Nat).filterMap (fun i => lw_tbl[i]?) := by decide +kernel
  intro w hw
  rw [h] at hw
  obtain ⟨i, -, hi⟩ := List.mem_filterMap.mp hw
  have hg : (([681, 683, 685, 687, 689, 691, 693, 695, 697, 699, 701, 703] : List Nat).filterMap (fun i => lw_tbl[i]?)).all goodWord = true := by decide +kernel
  exact List.mem_filter.mpr ⟨List.mem_of_getElem? hi, List.all_eq_true.mp hg w hw⟩
theorem ffX5 (own : String) (idx j : Nat) (fin : Bool) (hj : j < 12) (h : Cond.fieldLink own idx (TX5 j).1 (TX5 j).2.1 (TX5 j).2.2.1 ∈ xtb) (hf : (TX5 j).2.2.2 = fin) (hc : (TX5 j).1 = RX5) : xFL own idx 5 j fin := ⟨TX5, by decide, rfl, hj, ixX5, tyX5_ok, nmX5, h, hf, hc⟩
theorem ii_L : Cond.initialized RL ∈ xtb := xtb_in 53 (by decide +kernel) rfl
theorem ii_X4 : Cond.initialized RX4 ∈ xtb := xtb_in 54 (by decide +kernel) rfl
theorem ii_X3 : Cond.initialized RX3 ∈ xtb := xtb_in 55 (by decide +kernel) rfl
theorem ii_J7 : Cond.initialized RJ7 ∈ xtb := xtb_in 56 (by decide +kernel) rfl
theorem ii_X2 : Cond.initialized RX2 ∈ xtb := xtb_in 57 (by decide +kernel) rfl
theorem ii_X1 : Cond.initialized RX1 ∈ xtb := xtb_in 58 (by decide +kernel) rfl
theorem ii_X0 : Cond.initialized RX0 ∈ xtb := xtb_in 59 (by decide +kernel) rfl
theorem ii_X5 : Cond.initialized RX5 ∈ xtb := xtb_in 60 (by decide +kernel) rfl
theorem ii_J10 : Cond.initialized RJ10 ∈ xtb := xtb_in 61 (by decide +kernel) rfl
theorem ii_J9 : Cond.initialized RJ9 ∈ xtb := xtb_in 62 (by decide +kernel) rfl
theorem ii_J6 : Cond.initialized RJ6 ∈ xtb := xtb_in 63 (by decide +kernel) rfl
theorem ck_L_7 : Cond.classLink RL 7 RX4 ∈ xtb := xtb_in 64 (by decide +kernel) rfl
theorem in_X4 : Cond.instantiable RX4 6 ∈ xtb := xtb_in 65 (by decide +kernel) rfl
theorem lk_L_9 : Cond.methodLink RL 9 yX4_init ∈ xtb := xtb_in 66 (by decide +kernel) rfl
theorem lk_X4_1 : Cond.methodLink RX4 1 Lib.objectInit ∈ xtb := xtb_in 69 (by decide +kernel) rfl
theorem ck_X4_7 : Cond.classLink RX4 7 RX3 ∈ xtb := xtb_in 72 (by decide +kernel) rfl
theorem in_X3 : Cond.instantiable RX3 10 ∈ xtb := xtb_in 73 (by decide +kernel) rfl
theorem lk_X4_9 : Cond.methodLink RX4 9 yX3_init ∈ xtb := xtb_in 74 (by decide +kernel) rfl
theorem lk_X3_3 : Cond.methodLink RX3 3 Lib.objectInit ∈ xtb := xtb_in 77 (by decide +kernel) rfl
theorem lk_X3_13 : Cond.methodLink RX3 13 ⟨"[I", "clone", "()Ljava/lang/Object;"⟩ ∈ xtb := xtb_in 80 (by decide +kernel) rfl
theorem sm_clone : Cond.sameMethod "[I" "java/lang/Object" "clone" "()Ljava/lang/Object;" ∈ xtb := xtb_in 81 (by decide +kernel) rfl
theorem nat_clone : Cond.native ⟨"java/lang/Object", "clone", "()Ljava/lang/Object;"⟩ ∈ xtb := xtb_in 82 (by decide +kernel) rfl
theorem sl_clone : Cond.selects "[I" ⟨"[I", "clone", "()Ljava/lang/Object;"⟩ ⟨"java/lang/Object", "clone", "()Ljava/lang/Object;"⟩ ∈ xtb := xtb_in 84 (by decide +kernel) rfl
theorem ck_X3_14 : Cond.classLink RX3 14 "[I" ∈ xtb := xtb_in 86 (by decide +kernel) rfl
theorem ck_X3_26 : Cond.classLink RX3 26 RX2 ∈ xtb := xtb_in 87 (by decide +kernel) rfl
theorem lk_X3_32 : Cond.methodLink RX3 32 yJ7_fill_53178 ∈ xtb := xtb_in 89 (by decide +kernel) rfl
theorem in_X2 : Cond.instantiable RX2 17 ∈ xtb := xtb_in 92 (by decide +kernel) rfl
theorem lk_X2_3 : Cond.methodLink RX2 3 Lib.objectInit ∈ xtb := xtb_in 96 (by decide +kernel) rfl
theorem fl_X2_18 : xFL RX2 18 2 0 false := ffX2 _ _ _ _ (by decide) (xtb_in 97 (by decide +kernel) rfl) rfl rfl
theorem fl_X3_87 : xFL RX3 87 2 0 false := ffX2 _ _ _ _ (by decide) (xtb_in 98 (by decide +kernel) rfl) rfl rfl
theorem fl_X4_127 : xFL RX4 127 2 0 false := ffX2 _ _ _ _ (by decide) (xtb_in 99 (by decide +kernel) rfl) rfl rfl
theorem fl_X2_22 : xFL RX2 22 2 1 false := ffX2 _ _ _ _ (by decide) (xtb_in 100 (by decide +kernel) rfl) rfl rfl
theorem fl_X4_130 : xFL RX4 130 2 1 false := ffX2 _ _ _ _ (by decide) (xtb_in 101 (by decide +kernel) rfl) rfl rfl
theorem fl_X2_25 : xFL RX2 25 2 2 false := ffX2 _ _ _ _ (by decide) (xtb_in 102 (by decide +kernel) rfl) rfl rfl
theorem fl_X3_84 : xFL RX3 84 2 2 false := ffX2 _ _ _ _ (by decide) (xtb_in 103 (by decide +kernel) rfl) rfl rfl
theorem fl_X4_133 : xFL RX4 133 2 2 false := ffX2 _ _ _ _ (by decide) (xtb_in 104 (by decide +kernel) rfl) rfl rfl
theorem fl_X2_28 : xFL RX2 28 2 3 false := ffX2 _ _ _ _ (by decide) (xtb_in 105 (by decide +kernel) rfl) rfl rfl
theorem fl_X3_81 : xFL RX3 81 2 3 false := ffX2 _ _ _ _ (by decide) (xtb_in 106 (by decide +kernel) rfl) rfl rfl
theorem fl_X4_136 : xFL RX4 136 2 3 false := ffX2 _ _ _ _ (by decide) (xtb_in 107 (by decide +kernel) rfl) rfl rfl
theorem fl_X2_31 : xFL RX2 31 2 4 false := ffX2 _ _ _ _ (by decide) (xtb_in 108 (by decide +kernel) rfl) rfl rfl
theorem fl_X4_160 : xFL RX4 160 2 4 false := ffX2 _ _ _ _ (by decide) (xtb_in 109 (by decide +kernel) rfl) rfl rfl
theorem fl_X2_34 : xFL RX2 34 2 5 false := ffX2 _ _ _ _ (by decide) (xtb_in 110 (by decide +kernel) rfl) rfl rfl
theorem fl_X4_139 : xFL RX4 139 2 5 false := ffX2 _ _ _ _ (by decide) (xtb_in 111 (by decide +kernel) rfl) rfl rfl
theorem fl_X3_108 : xFL RX3 108 2 5 false := ffX2 _ _ _ _ (by decide) (xtb_in 112 (by decide +kernel) rfl) rfl rfl
theorem fl_X2_37 : xFL RX2 37 2 6 false := ffX2 _ _ _ _ (by decide) (xtb_in 113 (by decide +kernel) rfl) rfl rfl
theorem fl_X4_142 : xFL RX4 142 2 6 false := ffX2 _ _ _ _ (by decide) (xtb_in 114 (by decide +kernel) rfl) rfl rfl
theorem fl_X3_111 : xFL RX3 111 2 6 false := ffX2 _ _ _ _ (by decide) (xtb_in 115 (by decide +kernel) rfl) rfl rfl
theorem fl_X2_40 : xFL RX2 40 2 7 false := ffX2 _ _ _ _ (by decide) (xtb_in 116 (by decide +kernel) rfl) rfl rfl
theorem fl_X4_145 : xFL RX4 145 2 7 false := ffX2 _ _ _ _ (by decide) (xtb_in 117 (by decide +kernel) rfl) rfl rfl
theorem fl_X2_43 : xFL RX2 43 2 8 false := ffX2 _ _ _ _ (by decide) (xtb_in 118 (by decide +kernel) rfl) rfl rfl
theorem fl_X4_95 : xFL RX4 95 2 8 false := ffX2 _ _ _ _ (by decide) (xtb_in 119 (by decide +kernel) rfl) rfl rfl
theorem fl_X3_114 : xFL RX3 114 2 8 false := ffX2 _ _ _ _ (by decide) (xtb_in 120 (by decide +kernel) rfl) rfl rfl
theorem fl_X2_46 : xFL RX2 46 2 9 false := ffX2 _ _ _ _ (by decide) (xtb_in 121 (by decide +kernel) rfl) rfl rfl
theorem fl_X4_151 : xFL RX4 151 2 9 false := ffX2 _ _ _ _ (by decide) (xtb_in 122 (by decide +kernel) rfl) rfl rfl
theorem fl_X2_49 : xFL RX2 49 2 10 false := ffX2 _ _ _ _ (by decide) (xtb_in 123 (by decide +kernel) rfl) rfl rfl
theorem fl_X4_154 : xFL RX4 154 2 10 false := ffX2 _ _ _ _ (by decide) (xtb_in 124 (by decide +kernel) rfl) rfl rfl
theorem fl_X2_52 : xFL RX2 52 2 11 false := ffX2 _ _ _ _ (by decide) (xtb_in 125 (by decide +kernel) rfl) rfl rfl
theorem fl_X4_157 : xFL RX4 157 2 11 false := ffX2 _ _ _ _ (by decide) (xtb_in 126 (by decide +kernel) rfl) rfl rfl
theorem fl_X2_9 : xFL RX2 9 2 12 true := ffX2 _ _ _ _ (by decide) (xtb_in 127 (by decide +kernel) rfl) rfl rfl
theorem fl_X4_92 : xFL RX4 92 2 12 true := ffX2 _ _ _ _ (by decide) (xtb_in 128 (by decide +kernel) rfl) rfl rfl
theorem fl_X2_15 : xFL RX2 15 2 13 true := ffX2 _ _ _ _ (by decide) (xtb_in 129 (by decide +kernel) rfl) rfl rfl
theorem fl_X4_112 : xFL RX4 112 2 13 true := ffX2 _ _ _ _ (by decide) (xtb_in 130 (by decide +kernel) rfl) rfl rfl
theorem fl_X2_71 : xFL RX2 71 2 14 false := ffX2 _ _ _ _ (by decide) (xtb_in 131 (by decide +kernel) rfl) rfl rfl
theorem fl_X3_156 : xFL RX3 156 2 14 false := ffX2 _ _ _ _ (by decide) (xtb_in 132 (by decide +kernel) rfl) rfl rfl
theorem fl_X2_85 : xFL RX2 85 2 15 false := ffX2 _ _ _ _ (by decide) (xtb_in 133 (by decide +kernel) rfl) rfl rfl
theorem fl_X2_88 : xFL RX2 88 2 16 false := ffX2 _ _ _ _ (by decide) (xtb_in 134 (by decide +kernel) rfl) rfl rfl
theorem fl_X3_148 : xFL RX3 148 2 16 false := ffX2 _ _ _ _ (by decide) (xtb_in 135 (by decide +kernel) rfl) rfl rfl
theorem ac_int : Cond.arrayClass .int ∈ xtb := xtb_in 171 (by decide +kernel) rfl
theorem fl_X3_18 : xFL RX3 18 3 0 true := ffX3 _ _ _ _ (by decide) (xtb_in 172 (by decide +kernel) rfl) rfl rfl
theorem fl_X3_23 : xFL RX3 23 3 1 true := ffX3 _ _ _ _ (by decide) (xtb_in 173 (by decide +kernel) rfl) rfl rfl
theorem fl_X4_82 : xFL RX4 82 3 1 true := ffX3 _ _ _ _ (by decide) (xtb_in 174 (by decide +kernel) rfl) rfl rfl
theorem fl_X3_28 : xFL RX3 28 3 2 true := ffX3 _ _ _ _ (by decide) (xtb_in 175 (by decide +kernel) rfl) rfl rfl
theorem fl_X3_45 : xFL RX3 45 3 3 false := ffX3 _ _ _ _ (by decide) (xtb_in 176 (by decide +kernel) rfl) rfl rfl
theorem fl_X4_78 : xFL RX4 78 3 3 false := ffX3 _ _ _ _ (by decide) (xtb_in 177 (by decide +kernel) rfl) rfl rfl
theorem fl_X3_57 : xFL RX3 57 3 4 false := ffX3 _ _ _ _ (by decide) (xtb_in 178 (by decide +kernel) rfl) rfl rfl
theorem fl_X4_124 : xFL RX4 124 3 4 false := ffX3 _ _ _ _ (by decide) (xtb_in 179 (by decide +kernel) rfl) rfl rfl
theorem fl_X3_60 : xFL RX3 60 3 5 false := ffX3 _ _ _ _ (by decide) (xtb_in 180 (by decide +kernel) rfl) rfl rfl
theorem fl_X4_178 : xFL RX4 178 3 5 false := ffX3 _ _ _ _ (by decide) (xtb_in 181 (by decide +kernel) rfl) rfl rfl
theorem fl_X3_64 : xFL RX3 64 3 6 false := ffX3 _ _ _ _ (by decide) (xtb_in 182 (by decide +kernel) rfl) rfl rfl
theorem fl_X4_182 : xFL RX4 182 3 6 false := ffX3 _ _ _ _ (by decide) (xtb_in 183 (by decide +kernel) rfl) rfl rfl
theorem fl_X3_67 : xFL RX3 67 3 7 false := ffX3 _ _ _ _ (by decide) (xtb_in 184 (by decide +kernel) rfl) rfl rfl
theorem fl_X4_185 : xFL RX4 185 3 7 false := ffX3 _ _ _ _ (by decide) (xtb_in 185 (by decide +kernel) rfl) rfl rfl
theorem fl_X3_138 : xFL RX3 138 3 8 false := ffX3 _ _ _ _ (by decide) (xtb_in 186 (by decide +kernel) rfl) rfl rfl
theorem fl_X3_141 : xFL RX3 141 3 9 false := ffX3 _ _ _ _ (by decide) (xtb_in 187 (by decide +kernel) rfl) rfl rfl
theorem ck_X4_19 : Cond.classLink RX4 19 RX1 ∈ xtb := xtb_in 209 (by decide +kernel) rfl
theorem in_X1 : Cond.instantiable RX1 7 ∈ xtb := xtb_in 210 (by decide +kernel) rfl
theorem lk_X1_3 : Cond.methodLink RX1 3 Lib.objectInit ∈ xtb := xtb_in 214 (by decide +kernel) rfl
theorem fl_X1_9 : xFL RX1 9 1 0 true := ffX1 _ _ _ _ (by decide) (xtb_in 215 (by decide +kernel) rfl) rfl rfl
theorem fl_X1_27 : xFL RX1 27 1 1 false := ffX1 _ _ _ _ (by decide) (xtb_in 216 (by decide +kernel) rfl) rfl rfl
theorem fl_X4_195 : xFL RX4 195 1 1 false := ffX1 _ _ _ _ (by decide) (xtb_in 217 (by decide +kernel) rfl) rfl rfl
theorem fl_X1_31 : xFL RX1 31 1 2 false := ffX1 _ _ _ _ (by decide) (xtb_in 218 (by decide +kernel) rfl) rfl rfl
theorem fl_X4_237 : xFL RX4 237 1 2 false := ffX1 _ _ _ _ (by decide) (xtb_in 219 (by decide +kernel) rfl) rfl rfl
theorem fl_X1_38 : xFL RX1 38 1 3 false := ffX1 _ _ _ _ (by decide) (xtb_in 220 (by decide +kernel) rfl) rfl rfl
theorem fl_X4_263 : xFL RX4 263 1 3 false := ffX1 _ _ _ _ (by decide) (xtb_in 221 (by decide +kernel) rfl) rfl rfl
theorem fl_X1_60 : xFL RX1 60 1 4 false := ffX1 _ _ _ _ (by decide) (xtb_in 222 (by decide +kernel) rfl) rfl rfl
theorem fl_X4_267 : xFL RX4 267 1 4 false := ffX1 _ _ _ _ (by decide) (xtb_in 223 (by decide +kernel) rfl) rfl rfl
theorem fl_X1_66 : xFL RX1 66 1 5 false := ffX1 _ _ _ _ (by decide) (xtb_in 224 (by decide +kernel) rfl) rfl rfl
theorem fl_X4_270 : xFL RX4 270 1 5 false := ffX1 _ _ _ _ (by decide) (xtb_in 225 (by decide +kernel) rfl) rfl rfl
theorem fl_X1_63 : xFL RX1 63 1 6 false := ffX1 _ _ _ _ (by decide) (xtb_in 226 (by decide +kernel) rfl) rfl rfl
theorem fl_X4_273 : xFL RX4 273 1 6 false := ffX1 _ _ _ _ (by decide) (xtb_in 227 (by decide +kernel) rfl) rfl rfl
theorem ac_char : Cond.arrayClass .char ∈ xtb := xtb_in 243 (by decide +kernel) rfl
theorem ck_X4_26 : Cond.classLink RX4 26 RX0 ∈ xtb := xtb_in 244 (by decide +kernel) rfl
theorem in_X0 : Cond.instantiable RX0 3 ∈ xtb := xtb_in 245 (by decide +kernel) rfl
theorem lk_X4_28 : Cond.methodLink RX4 28 yX0_init ∈ xtb := xtb_in 246 (by decide +kernel) rfl
theorem lk_X0_3 : Cond.methodLink RX0 3 Lib.objectInit ∈ xtb := xtb_in 249 (by decide +kernel) rfl
theorem ck_X0_9 : Cond.classLink RX0 9 RX3 ∈ xtb := xtb_in 250 (by decide +kernel) rfl
theorem lk_X0_17 : Cond.methodLink RX0 17 yX3_init ∈ xtb := xtb_in 252 (by decide +kernel) rfl
theorem fl_X0_11 : xFL RX0 11 0 0 true := ffX0 _ _ _ _ (by decide) (xtb_in 253 (by decide +kernel) rfl) rfl rfl
theorem fl_X0_22 : xFL RX0 22 0 1 false := ffX0 _ _ _ _ (by decide) (xtb_in 254 (by decide +kernel) rfl) rfl rfl
theorem fl_X4_198 : xFL RX4 198 0 1 false := ffX0 _ _ _ _ (by decide) (xtb_in 255 (by decide +kernel) rfl) rfl rfl
theorem fl_X0_18 : xFL RX0 18 0 2 false := ffX0 _ _ _ _ (by decide) (xtb_in 256 (by decide +kernel) rfl) rfl rfl
theorem fl_X4_250 : xFL RX4 250 0 2 false := ffX0 _ _ _ _ (by decide) (xtb_in 257 (by decide +kernel) rfl) rfl rfl
theorem fl_X4_10 : xFL RX4 10 4 0 true := ffX4 _ _ _ _ (by decide) (xtb_in 265 (by decide +kernel) rfl) rfl rfl
theorem fl_X4_16 : xFL RX4 16 4 1 true := ffX4 _ _ _ _ (by decide) (xtb_in 266 (by decide +kernel) rfl) rfl rfl
theorem fl_X4_22 : xFL RX4 22 4 2 true := ffX4 _ _ _ _ (by decide) (xtb_in 267 (by decide +kernel) rfl) rfl rfl
theorem fl_X4_29 : xFL RX4 29 4 3 true := ffX4 _ _ _ _ (by decide) (xtb_in 268 (by decide +kernel) rfl) rfl rfl
theorem fl_X4_33 : xFL RX4 33 4 4 true := ffX4 _ _ _ _ (by decide) (xtb_in 269 (by decide +kernel) rfl) rfl rfl
theorem fl_X4_37 : xFL RX4 37 4 5 true := ffX4 _ _ _ _ (by decide) (xtb_in 270 (by decide +kernel) rfl) rfl rfl
theorem ac_boolean : Cond.arrayClass .boolean ∈ xtb := xtb_in 284 (by decide +kernel) rfl
theorem lk_L_13 : Cond.methodLink RL 13 yX4_set ∈ xtb := xtb_in 285 (by decide +kernel) rfl
theorem lk_X4_41 : Cond.methodLink RX4 41 yX4_isIn ∈ xtb := xtb_in 289 (by decide +kernel) rfl
theorem fl_X4_45 : Cond.fieldLink RX4 45 "LotFences" "LEAST_SETTINGS" "[I" ∈ xtb := xtb_in 292 (by decide +kernel) rfl
theorem fl_X4_49 : Cond.fieldLink RX4 49 "LotFences" "MOST_SETTINGS" "[I" ∈ xtb := xtb_in 294 (by decide +kernel) rfl
theorem lk_X4_52 : Cond.methodLink RX4 52 yX0_remember ∈ xtb := xtb_in 296 (by decide +kernel) rfl
theorem lk_X0_26 : Cond.methodLink RX0 26 yX0_dropOldest ∈ xtb := xtb_in 300 (by decide +kernel) rfl
theorem lk_X0_29 : Cond.methodLink RX0 29 yX3_copyFrom ∈ xtb := xtb_in 304 (by decide +kernel) rfl
theorem lk_X3_39 : Cond.methodLink RX3 39 arraycopyName ∈ xtb := xtb_in 308 (by decide +kernel) rfl
theorem nat_arraycopy : Cond.native arraycopyName ∈ xtb := xtb_in 310 (by decide +kernel) rfl
theorem lk_X3_49 : Cond.methodLink RX3 49 yX3_productAt ∈ xtb := xtb_in 311 (by decide +kernel) rfl
theorem lk_X3_53 : Cond.methodLink RX3 53 yX2_copyFrom ∈ xtb := xtb_in 315 (by decide +kernel) rfl
theorem lk_X2_61 : Cond.methodLink RX2 61 arraycopyName ∈ xtb := xtb_in 319 (by decide +kernel) rfl
theorem lk_X4_56 : Cond.methodLink RX4 56 yX3_setting ∈ xtb := xtb_in 320 (by decide +kernel) rfl
theorem lk_X4_60 : Cond.methodLink RX4 60 yX3_changeSetting ∈ xtb := xtb_in 324 (by decide +kernel) rfl
theorem lk_L_18 : Cond.methodLink RL 18 yX4_product ∈ xtb := xtb_in 328 (by decide +kernel) rfl
theorem lk_X4_64 : Cond.methodLink RX4 64 yX4_isFamily ∈ xtb := xtb_in 332 (by decide +kernel) rfl
theorem lk_X4_68 : Cond.methodLink RX4 68 yX3_spareProduct ∈ xtb := xtb_in 335 (by decide +kernel) rfl
theorem lk_X4_72 : Cond.methodLink RX4 72 yX2_begin ∈ xtb := xtb_in 339 (by decide +kernel) rfl
theorem lk_X2_55 : Cond.methodLink RX2 55 yJ7_fill_53178 ∈ xtb := xtb_in 343 (by decide +kernel) rfl
theorem lk_L_23 : Cond.methodLink RL 23 yX4_family ∈ xtb := xtb_in 344 (by decide +kernel) rfl
theorem lk_L_27 : Cond.methodLink RL 27 yX4_forecast ∈ xtb := xtb_in 348 (by decide +kernel) rfl
theorem lk_X4_85 : Cond.methodLink RX4 85 yX3_productAt ∈ xtb := xtb_in 352 (by decide +kernel) rfl
theorem lk_X4_89 : Cond.methodLink RX4 89 yX4_isWeek ∈ xtb := xtb_in 353 (by decide +kernel) rfl
theorem lk_L_32 : Cond.methodLink RL 32 yX4_actual ∈ xtb := xtb_in 356 (by decide +kernel) rfl
theorem lk_L_36 : Cond.methodLink RL 36 yX4_lots ∈ xtb := xtb_in 360 (by decide +kernel) rfl
theorem lk_X4_98 : Cond.methodLink RX4 98 yX3_hoursWith ∈ xtb := xtb_in 364 (by decide +kernel) rfl
theorem lk_X3_78 : Cond.methodLink RX3 78 yX2_lotsIn ∈ xtb := xtb_in 368 (by decide +kernel) rfl
theorem lk_X4_102 : Cond.methodLink RX4 102 yX3_isFrozen ∈ xtb := xtb_in 372 (by decide +kernel) rfl
theorem lk_X3_70 : Cond.methodLink RX3 70 yX3_setting ∈ xtb := xtb_in 376 (by decide +kernel) rfl
theorem lk_X4_105 : Cond.methodLink RX4 105 yX3_capacity ∈ xtb := xtb_in 377 (by decide +kernel) rfl
theorem lk_X4_109 : Cond.methodLink RX4 109 yX3_hoursIn ∈ xtb := xtb_in 381 (by decide +kernel) rfl
theorem lk_X3_74 : Cond.methodLink RX3 74 yX3_hoursWith ∈ xtb := xtb_in 385 (by decide +kernel) rfl
theorem lk_L_40 : Cond.methodLink RL 40 yX4_plan ∈ xtb := xtb_in 386 (by decide +kernel) rfl
theorem lk_X4_115 : Cond.methodLink RX4 115 yX3_planAnew ∈ xtb := xtb_in 390 (by decide +kernel) rfl
theorem lk_X3_117 : Cond.methodLink RX3 117 yX3_openPlans ∈ xtb := xtb_in 394 (by decide +kernel) rfl
theorem lk_X3_128 : Cond.methodLink RX3 128 yX2_openPlan ∈ xtb := xtb_in 398 (by decide +kernel) rfl
theorem lk_X2_67 : Cond.methodLink RX2 67 yX2_projectionBehind ∈ xtb := xtb_in 402 (by decide +kernel) rfl
theorem lk_X2_75 : Cond.methodLink RX2 75 Lib.Math.max.name ∈ xtb := xtb_in 406 (by decide +kernel) rfl
theorem lk_X3_120 : Cond.methodLink RX3 120 yX3_planWeek ∈ xtb := xtb_in 409 (by decide +kernel) rfl
theorem lk_X3_131 : Cond.methodLink RX3 131 yX2_enterWeek ∈ xtb := xtb_in 413 (by decide +kernel) rfl
theorem lk_X2_81 : Cond.methodLink RX2 81 yX2_cover ∈ xtb := xtb_in 417 (by decide +kernel) rfl
theorem lk_X3_135 : Cond.methodLink RX3 135 yX3_capacity ∈ xtb := xtb_in 421 (by decide +kernel) rfl
theorem lk_X3_144 : Cond.methodLink RX3 144 yX3_nextWaiting ∈ xtb := xtb_in 422 (by decide +kernel) rfl
theorem lk_X3_152 : Cond.methodLink RX3 152 yX3_giveLots ∈ xtb := xtb_in 426 (by decide +kernel) rfl
theorem lk_X3_163 : Cond.methodLink RX3 163 yX2_lotsWanted ∈ xtb := xtb_in 431 (by decide +kernel) rfl
theorem lk_X3_167 : Cond.methodLink RX3 167 Lib.Math.min.name ∈ xtb := xtb_in 435 (by decide +kernel) rfl
theorem lk_X3_170 : Cond.methodLink RX3 170 Lib.MathLoose.min_long.x ∈ xtb := xtb_in 438 (by decide +kernel) rfl
theorem lk_X3_173 : Cond.methodLink RX3 173 yX2_planLots ∈ xtb := xtb_in 441 (by decide +kernel) rfl
theorem lk_X4_118 : Cond.methodLink RX4 118 yX3_allLots ∈ xtb := xtb_in 445 (by decide +kernel) rfl
theorem lk_X3_104 : Cond.methodLink RX3 104 yX2_lotsInAll ∈ xtb := xtb_in 449 (by decide +kernel) rfl
theorem lk_L_45 : Cond.methodLink RL 45 yX4_weeks ∈ xtb := xtb_in 453 (by decide +kernel) rfl
theorem lk_X4_121 : Cond.methodLink RX4 121 yX3_passWeek ∈ xtb := xtb_in 457 (by decide +kernel) rfl
theorem lk_X3_176 : Cond.methodLink RX3 176 yX3_setupsIn ∈ xtb := xtb_in 461 (by decide +kernel) rfl
theorem lk_X3_90 : Cond.methodLink RX3 90 yX3_familiesIn ∈ xtb := xtb_in 465 (by decide +kernel) rfl
theorem lk_X3_93 : Cond.methodLink RX3 93 yJ6_bitCount_0f7a4 ∈ xtb := xtb_in 469 (by decide +kernel) rfl
theorem kc_265 : Cond.constant "java/lang/Integer" 265 (1431655765) ∈ xtb := xtb_in 472 (by decide +kernel) rfl
theorem kc_266 : Cond.constant "java/lang/Integer" 266 (858993459) ∈ xtb := xtb_in 473 (by decide +kernel) rfl
theorem kc_267 : Cond.constant "java/lang/Integer" 267 (252645135) ∈ xtb := xtb_in 474 (by decide +kernel) rfl
theorem lk_X3_179 : Cond.methodLink RX3 179 yX3_overtimeIn ∈ xtb := xtb_in 475 (by decide +kernel) rfl
theorem lk_X3_98 : Cond.methodLink RX3 98 Lib.Math.max.name ∈ xtb := xtb_in 479 (by decide +kernel) rfl
theorem lk_X3_182 : Cond.methodLink RX3 182 yX2_passWeek ∈ xtb := xtb_in 480 (by decide +kernel) rfl
theorem lk_X2_92 : Cond.methodLink RX2 92 Lib.Math.min.name ∈ xtb := xtb_in 484 (by decide +kernel) rfl
theorem lk_X2_95 : Cond.methodLink RX2 95 Lib.Math.abs.name ∈ xtb := xtb_in 485 (by decide +kernel) rfl
theorem lk_X3_185 : Cond.methodLink RX3 185 yX3_allStock ∈ xtb := xtb_in 488 (by decide +kernel) rfl
theorem lk_X3_189 : Cond.methodLink RX3 189 yX3_allBacklog ∈ xtb := xtb_in 492 (by decide +kernel) rfl
theorem lk_L_50 : Cond.methodLink RL 50 yX4_ofProduct ∈ xtb := xtb_in 496 (by decide +kernel) rfl
theorem lk_X4_148 : Cond.methodLink RX4 148 yX2_cover ∈ xtb := xtb_in 500 (by decide +kernel) rfl
theorem lk_L_54 : Cond.methodLink RL 54 yX4_at ∈ xtb := xtb_in 501 (by decide +kernel) rfl
theorem lk_L_58 : Cond.methodLink RL 58 yX4_projection ∈ xtb := xtb_in 505 (by decide +kernel) rfl
theorem kl_X4_163 : Cond.constantLong RX4 163 (-1) ∈ xtb := xtb_in 509 (by decide +kernel) rfl
theorem lk_X4_165 : Cond.methodLink RX4 165 yX2_projectionBehind ∈ xtb := xtb_in 510 (by decide +kernel) rfl
theorem lk_L_63 : Cond.methodLink RL 63 yX4_ofWeek ∈ xtb := xtb_in 511 (by decide +kernel) rfl
theorem lk_X4_169 : Cond.methodLink RX4 169 yX3_setupsIn ∈ xtb := xtb_in 515 (by decide +kernel) rfl
theorem lk_X4_172 : Cond.methodLink RX4 172 yX3_overtimeIn ∈ xtb := xtb_in 516 (by decide +kernel) rfl
theorem lk_X4_175 : Cond.methodLink RX4 175 yX3_familiesIn ∈ xtb := xtb_in 517 (by decide +kernel) rfl
theorem lk_L_67 : Cond.methodLink RL 67 yX4_count ∈ xtb := xtb_in 518 (by decide +kernel) rfl
theorem lk_X4_188 : Cond.methodLink RX4 188 yX3_allStock ∈ xtb := xtb_in 522 (by decide +kernel) rfl
theorem lk_X4_192 : Cond.methodLink RX4 192 yX3_allBacklog ∈ xtb := xtb_in 523 (by decide +kernel) rfl
theorem kl_X4_201 : Cond.constantLong RX4 201 (-2) ∈ xtb := xtb_in 524 (by decide +kernel) rfl
theorem lk_L_72 : Cond.methodLink RL 72 yX4_firstShort ∈ xtb := xtb_in 525 (by decide +kernel) rfl
theorem lk_L_76 : Cond.methodLink RL 76 yX4_lasts ∈ xtb := xtb_in 529 (by decide +kernel) rfl
theorem lk_L_80 : Cond.methodLink RL 80 yX4_leastHours ∈ xtb := xtb_in 533 (by decide +kernel) rfl
theorem lk_X4_203 : Cond.methodLink RX4 203 yX3_copyFrom ∈ xtb := xtb_in 537 (by decide +kernel) rfl
theorem lk_X4_206 : Cond.methodLink RX4 206 yX3_plansWithoutShortage ∈ xtb := xtb_in 538 (by decide +kernel) rfl
theorem lk_X3_124 : Cond.methodLink RX3 124 yX3_isShort ∈ xtb := xtb_in 542 (by decide +kernel) rfl
theorem lk_L_84 : Cond.methodLink RL 84 yX4_costs ∈ xtb := xtb_in 546 (by decide +kernel) rfl
theorem lk_X4_210 : Cond.methodLink RX4 210 yX3_forgetTold ∈ xtb := xtb_in 550 (by decide +kernel) rfl
theorem lk_L_88 : Cond.methodLink RL 88 yX4_bestFence ∈ xtb := xtb_in 554 (by decide +kernel) rfl
theorem lk_X4_213 : Cond.methodLink RX4 213 yX4_costs ∈ xtb := xtb_in 558 (by decide +kernel) rfl
theorem lk_L_92 : Cond.methodLink RL 92 yX4_roomFor ∈ xtb := xtb_in 559 (by decide +kernel) rfl
theorem lk_X4_217 : Cond.methodLink RX4 217 Lib.Math.min.name ∈ xtb := xtb_in 563 (by decide +kernel) rfl
theorem lk_L_98 : Cond.methodLink RL 98 yX4_put ∈ xtb := xtb_in 564 (by decide +kernel) rfl
theorem lk_X4_223 : Cond.methodLink RX4 223 yX1_signsIn ∈ xtb := xtb_in 568 (by decide +kernel) rfl
theorem kl_X1_15 : Cond.constantLong RX1 15 (255) ∈ xtb := xtb_in 571 (by decide +kernel) rfl
theorem kl_X1_17 : Cond.constantLong RX1 17 (33) ∈ xtb := xtb_in 572 (by decide +kernel) rfl
theorem kl_X1_19 : Cond.constantLong RX1 19 (126) ∈ xtb := xtb_in 573 (by decide +kernel) rfl
theorem lk_X4_227 : Cond.methodLink RX4 227 yX1_append ∈ xtb := xtb_in 574 (by decide +kernel) rfl
theorem lk_X1_21 : Cond.methodLink RX1 21 Lib.Math.min.name ∈ xtb := xtb_in 578 (by decide +kernel) rfl
theorem lk_L_103 : Cond.methodLink RL 103 yX4_wipe ∈ xtb := xtb_in 579 (by decide +kernel) rfl
theorem lk_L_107 : Cond.methodLink RL 107 yX4_fault ∈ xtb := xtb_in 583 (by decide +kernel) rfl
theorem lk_X4_231 : Cond.methodLink RX4 231 yX1_startReading ∈ xtb := xtb_in 587 (by decide +kernel) rfl
theorem lk_X4_234 : Cond.methodLink RX4 234 yX1_readAct ∈ xtb := xtb_in 591 (by decide +kernel) rfl
theorem lk_X1_34 : Cond.methodLink RX1 34 yX1_signHere ∈ xtb := xtb_in 595 (by decide +kernel) rfl
theorem lk_X1_42 : Cond.methodLink RX1 42 yX1_readSign ∈ xtb := xtb_in 599 (by decide +kernel) rfl
theorem lk_X1_46 : Cond.methodLink RX1 46 yX1_readProduct ∈ xtb := xtb_in 603 (by decide +kernel) rfl
theorem lk_X1_56 : Cond.methodLink RX1 56 yX1_digitHere ∈ xtb := xtb_in 607 (by decide +kernel) rfl
theorem lk_X1_50 : Cond.methodLink RX1 50 yX1_readWeek ∈ xtb := xtb_in 611 (by decide +kernel) rfl
theorem lk_X1_53 : Cond.methodLink RX1 53 yX1_readNumber ∈ xtb := xtb_in 615 (by decide +kernel) rfl
theorem lk_X4_240 : Cond.methodLink RX4 240 yX1_isAtEnd ∈ xtb := xtb_in 619 (by decide +kernel) rfl
theorem lk_X4_243 : Cond.methodLink RX4 243 yX1_readSign ∈ xtb := xtb_in 623 (by decide +kernel) rfl
theorem lk_L_111 : Cond.methodLink RL 111 yX4_carryOut ∈ xtb := xtb_in 624 (by decide +kernel) rfl
theorem lk_X4_247 : Cond.methodLink RX4 247 yX4_fault ∈ xtb := xtb_in 628 (by decide +kernel) rfl
theorem lk_X4_254 : Cond.methodLink RX4 254 yX4_carryAct ∈ xtb := xtb_in 629 (by decide +kernel) rfl
theorem lk_X4_276 : Cond.methodLink RX4 276 yX4_forecast ∈ xtb := xtb_in 633 (by decide +kernel) rfl
theorem lk_X4_280 : Cond.methodLink RX4 280 yX4_actual ∈ xtb := xtb_in 634 (by decide +kernel) rfl
theorem lk_X4_283 : Cond.methodLink RX4 283 yX4_lots ∈ xtb := xtb_in 635 (by decide +kernel) rfl
theorem lk_X4_285 : Cond.methodLink RX4 285 yX4_plan ∈ xtb := xtb_in 636 (by decide +kernel) rfl
theorem lk_X4_288 : Cond.methodLink RX4 288 yX4_weeks ∈ xtb := xtb_in 637 (by decide +kernel) rfl
theorem lk_X4_257 : Cond.methodLink RX4 257 yX4_isError ∈ xtb := xtb_in 638 (by decide +kernel) rfl
theorem lk_L_115 : Cond.methodLink RL 115 yX4_undo ∈ xtb := xtb_in 641 (by decide +kernel) rfl
theorem lk_X4_260 : Cond.methodLink RX4 260 yX0_takeBack ∈ xtb := xtb_in 645 (by decide +kernel) rfl
theorem lk_L_119 : Cond.methodLink RL 119 yX4_save ∈ xtb := xtb_in 649 (by decide +kernel) rfl
theorem lk_L_123 : Cond.methodLink RL 123 yX4_restore ∈ xtb := xtb_in 653 (by decide +kernel) rfl
theorem ck_L_10 : Cond.classLink RL 10 RX5 ∈ xtb := xtb_in 657 (by decide +kernel) rfl
theorem in_X5 : Cond.instantiable RX5 12 ∈ xtb := xtb_in 658 (by decide +kernel) rfl
theorem lk_L_12 : Cond.methodLink RL 12 yX5_init ∈ xtb := xtb_in 659 (by decide +kernel) rfl
theorem lk_X5_1 : Cond.methodLink RX5 1 Lib.objectInit ∈ xtb := xtb_in 662 (by decide +kernel) rfl
theorem kl_X5_23 : Cond.constantLong RX5 23 (100) ∈ xtb := xtb_in 663 (by decide +kernel) rfl
theorem kl_X5_25 : Cond.constantLong RX5 25 (20) ∈ xtb := xtb_in 664 (by decide +kernel) rfl
theorem kl_X5_27 : Cond.constantLong RX5 27 (2) ∈ xtb := xtb_in 665 (by decide +kernel) rfl
theorem kl_X5_29 : Cond.constantLong RX5 29 (50) ∈ xtb := xtb_in 666 (by decide +kernel) rfl
theorem kl_X5_31 : Cond.constantLong RX5 31 (5) ∈ xtb := xtb_in 667 (by decide +kernel) rfl
theorem kl_X5_33 : Cond.constantLong RX5 33 (3) ∈ xtb := xtb_in 668 (by decide +kernel) rfl
theorem fl_X5_7 : xFL RX5 7 5 0 true := ffX5 _ _ _ _ (by decide) (xtb_in 669 (by decide +kernel) rfl) rfl rfl
theorem fl_X5_13 : xFL RX5 13 5 1 true := ffX5 _ _ _ _ (by decide) (xtb_in 670 (by decide +kernel) rfl) rfl rfl
theorem fl_X5_16 : xFL RX5 16 5 2 true := ffX5 _ _ _ _ (by decide) (xtb_in 671 (by decide +kernel) rfl) rfl rfl
theorem fl_X5_45 : xFL RX5 45 5 3 false := ffX5 _ _ _ _ (by decide) (xtb_in 672 (by decide +kernel) rfl) rfl rfl
theorem fl_X5_20 : xFL RX5 20 5 4 true := ffX5 _ _ _ _ (by decide) (xtb_in 673 (by decide +kernel) rfl) rfl rfl
theorem fl_X5_188 : xFL RX5 188 5 5 false := ffX5 _ _ _ _ (by decide) (xtb_in 674 (by decide +kernel) rfl) rfl rfl
theorem fl_X5_206 : xFL RX5 206 5 6 false := ffX5 _ _ _ _ (by decide) (xtb_in 675 (by decide +kernel) rfl) rfl rfl
theorem fl_X5_230 : xFL RX5 230 5 7 false := ffX5 _ _ _ _ (by decide) (xtb_in 676 (by decide +kernel) rfl) rfl rfl
theorem fl_X5_212 : xFL RX5 212 5 8 false := ffX5 _ _ _ _ (by decide) (xtb_in 677 (by decide +kernel) rfl) rfl rfl
theorem fl_X5_218 : xFL RX5 218 5 9 false := ffX5 _ _ _ _ (by decide) (xtb_in 678 (by decide +kernel) rfl) rfl rfl
theorem fl_X5_224 : xFL RX5 224 5 10 false := ffX5 _ _ _ _ (by decide) (xtb_in 679 (by decide +kernel) rfl) rfl rfl
theorem fl_X5_227 : xFL RX5 227 5 11 false := ffX5 _ _ _ _ (by decide) (xtb_in 680 (by decide +kernel) rfl) rfl rfl
theorem ac_long : Cond.arrayClass .long ∈ xtb := xtb_in 706 (by decide +kernel) rfl
theorem lk_L_118 : Cond.methodLink RL 118 yX5_undo ∈ xtb := xtb_in 707 (by decide +kernel) rfl
theorem lk_X5_53 : Cond.methodLink RX5 53 yX5_brings ∈ xtb := xtb_in 711 (by decide +kernel) rfl
theorem lk_L_122 : Cond.methodLink RL 122 yX5_save ∈ xtb := xtb_in 715 (by decide +kernel) rfl
theorem lk_X5_35 : Cond.methodLink RX5 35 yX5_isIn ∈ xtb := xtb_in 719 (by decide +kernel) rfl
theorem lk_X5_49 : Cond.methodLink RX5 49 yX5_keeps ∈ xtb := xtb_in 722 (by decide +kernel) rfl
theorem lk_L_126 : Cond.methodLink RL 126 yX5_restore ∈ xtb := xtb_in 726 (by decide +kernel) rfl
theorem lk_X5_56 : Cond.methodLink RX5 56 yX5_records ∈ xtb := xtb_in 730 (by decide +kernel) rfl
theorem lk_L_17 : Cond.methodLink RL 17 yX5_set ∈ xtb := xtb_in 734 (by decide +kernel) rfl
theorem kl_X5_59 : Cond.constantLong RX5 59 (8) ∈ xtb := xtb_in 738 (by decide +kernel) rfl
theorem lk_X5_61 : Cond.methodLink RX5 61 yX5_leastOf ∈ xtb := xtb_in 739 (by decide +kernel) rfl
theorem lk_X5_65 : Cond.methodLink RX5 65 yX5_mostOf ∈ xtb := xtb_in 742 (by decide +kernel) rfl
theorem lk_X5_41 : Cond.methodLink RX5 41 yX5_setting ∈ xtb := xtb_in 745 (by decide +kernel) rfl
theorem lk_L_22 : Cond.methodLink RL 22 yX5_product ∈ xtb := xtb_in 749 (by decide +kernel) rfl
theorem kl_X5_68 : Cond.constantLong RX5 68 (10000) ∈ xtb := xtb_in 753 (by decide +kernel) rfl
theorem kl_X5_70 : Cond.constantLong RX5 70 (10) ∈ xtb := xtb_in 754 (by decide +kernel) rfl
theorem lk_X5_72 : Cond.methodLink RX5 72 yX5_becomes ∈ xtb := xtb_in 755 (by decide +kernel) rfl
theorem kl_X5_76 : Cond.constantLong RX5 76 (-6) ∈ xtb := xtb_in 759 (by decide +kernel) rfl
theorem lk_L_26 : Cond.methodLink RL 26 yX5_family ∈ xtb := xtb_in 760 (by decide +kernel) rfl
theorem lk_L_44 : Cond.methodLink RL 44 yX5_plan ∈ xtb := xtb_in 764 (by decide +kernel) rfl
theorem lk_X5_121 : Cond.methodLink RX5 121 yX5_plans ∈ xtb := xtb_in 768 (by decide +kernel) rfl
theorem lk_X5_114 : Cond.methodLink RX5 114 yX5_fence ∈ xtb := xtb_in 772 (by decide +kernel) rfl
theorem lk_X5_118 : Cond.methodLink RX5 118 yX5_plansWeek ∈ xtb := xtb_in 776 (by decide +kernel) rfl
theorem lk_X5_104 : Cond.methodLink RX5 104 yX5_nextOf ∈ xtb := xtb_in 780 (by decide +kernel) rfl
theorem lk_X5_101 : Cond.methodLink RX5 101 yX5_project ∈ xtb := xtb_in 784 (by decide +kernel) rfl
theorem lk_X5_78 : Cond.methodLink RX5 78 yX5_ofP ∈ xtb := xtb_in 788 (by decide +kernel) rfl
theorem lk_X5_98 : Cond.methodLink RX5 98 yX5_cover ∈ xtb := xtb_in 792 (by decide +kernel) rfl
theorem lk_X5_108 : Cond.methodLink RX5 108 yX5_wanted ∈ xtb := xtb_in 796 (by decide +kernel) rfl
theorem lk_X5_111 : Cond.methodLink RX5 111 yX5_room ∈ xtb := xtb_in 800 (by decide +kernel) rfl
theorem lk_X5_92 : Cond.methodLink RX5 92 yX5_mostHours ∈ xtb := xtb_in 804 (by decide +kernel) rfl
theorem lk_X5_89 : Cond.methodLink RX5 89 yX5_hoursOf ∈ xtb := xtb_in 808 (by decide +kernel) rfl
theorem lk_X5_82 : Cond.methodLink RX5 82 yX5_isMade ∈ xtb := xtb_in 812 (by decide +kernel) rfl
theorem lk_X5_86 : Cond.methodLink RX5 86 yX5_familiesIn ∈ xtb := xtb_in 816 (by decide +kernel) rfl
theorem kl_X5_96 : Cond.constantLong RX5 96 (1000) ∈ xtb := xtb_in 820 (by decide +kernel) rfl
theorem lk_X5_124 : Cond.methodLink RX5 124 yX5_lotsInAll ∈ xtb := xtb_in 821 (by decide +kernel) rfl
theorem lk_L_31 : Cond.methodLink RL 31 yX5_forecast ∈ xtb := xtb_in 825 (by decide +kernel) rfl
theorem lk_X5_134 : Cond.methodLink RX5 134 yX5_forecastError ∈ xtb := xtb_in 829 (by decide +kernel) rfl
theorem lk_X5_127 : Cond.methodLink RX5 127 yX5_isProduct ∈ xtb := xtb_in 833 (by decide +kernel) rfl
theorem lk_X5_131 : Cond.methodLink RX5 131 yX5_isWeek ∈ xtb := xtb_in 837 (by decide +kernel) rfl
theorem kl_X5_39 : Cond.constantLong RX5 39 (11) ∈ xtb := xtb_in 840 (by decide +kernel) rfl
theorem lk_X5_138 : Cond.methodLink RX5 138 yX5_forecasts ∈ xtb := xtb_in 841 (by decide +kernel) rfl
theorem lk_L_35 : Cond.methodLink RL 35 yX5_actual ∈ xtb := xtb_in 845 (by decide +kernel) rfl
theorem lk_X5_143 : Cond.methodLink RX5 143 yX5_actualError ∈ xtb := xtb_in 849 (by decide +kernel) rfl
theorem kl_X5_141 : Cond.constantLong RX5 141 (2000) ∈ xtb := xtb_in 853 (by decide +kernel) rfl
theorem lk_X5_146 : Cond.methodLink RX5 146 yX5_tells ∈ xtb := xtb_in 854 (by decide +kernel) rfl
theorem lk_L_39 : Cond.methodLink RL 39 yX5_lots ∈ xtb := xtb_in 858 (by decide +kernel) rfl
theorem lk_X5_149 : Cond.methodLink RX5 149 yX5_lotsError ∈ xtb := xtb_in 862 (by decide +kernel) rfl
theorem lk_X5_152 : Cond.methodLink RX5 152 yX5_plansLots ∈ xtb := xtb_in 866 (by decide +kernel) rfl
theorem lk_L_49 : Cond.methodLink RL 49 yX5_weeks ∈ xtb := xtb_in 870 (by decide +kernel) rfl
theorem kl_X5_175 : Cond.constantLong RX5 175 (30) ∈ xtb := xtb_in 874 (by decide +kernel) rfl
theorem lk_X5_177 : Cond.methodLink RX5 177 yX5_passesWeeks ∈ xtb := xtb_in 875 (by decide +kernel) rfl
theorem lk_X5_172 : Cond.methodLink RX5 172 yX5_passes ∈ xtb := xtb_in 879 (by decide +kernel) rfl
theorem lk_X5_157 : Cond.methodLink RX5 157 yX5_ships ∈ xtb := xtb_in 883 (by decide +kernel) rfl
theorem kl_X5_155 : Cond.constantLong RX5 155 (7) ∈ xtb := xtb_in 887 (by decide +kernel) rfl
theorem lk_X5_160 : Cond.methodLink RX5 160 yX5_setupsOf ∈ xtb := xtb_in 888 (by decide +kernel) rfl
theorem lk_X5_163 : Cond.methodLink RX5 163 yX5_overtimeOf ∈ xtb := xtb_in 892 (by decide +kernel) rfl
theorem lk_X5_166 : Cond.methodLink RX5 166 yX5_sumOf ∈ xtb := xtb_in 896 (by decide +kernel) rfl
theorem lk_X5_169 : Cond.methodLink RX5 169 yX5_rolls ∈ xtb := xtb_in 900 (by decide +kernel) rfl
theorem lk_L_53 : Cond.methodLink RL 53 yX5_ofProduct ∈ xtb := xtb_in 904 (by decide +kernel) rfl
theorem kl_X5_180 : Cond.constantLong RX5 180 (12) ∈ xtb := xtb_in 908 (by decide +kernel) rfl
theorem lk_L_57 : Cond.methodLink RL 57 yX5_at ∈ xtb := xtb_in 909 (by decide +kernel) rfl
theorem lk_L_62 : Cond.methodLink RL 62 yX5_projection ∈ xtb := xtb_in 913 (by decide +kernel) rfl
theorem kl_X5_182 : Cond.constantLong RX5 182 (-1) ∈ xtb := xtb_in 917 (by decide +kernel) rfl
theorem lk_L_66 : Cond.methodLink RL 66 yX5_ofWeek ∈ xtb := xtb_in 918 (by decide +kernel) rfl
theorem lk_L_71 : Cond.methodLink RL 71 yX5_count ∈ xtb := xtb_in 922 (by decide +kernel) rfl
theorem kl_X5_184 : Cond.constantLong RX5 184 (4) ∈ xtb := xtb_in 926 (by decide +kernel) rfl
theorem kl_X5_186 : Cond.constantLong RX5 186 (22) ∈ xtb := xtb_in 927 (by decide +kernel) rfl
theorem kl_X5_191 : Cond.constantLong RX5 191 (-2) ∈ xtb := xtb_in 928 (by decide +kernel) rfl
theorem lk_L_75 : Cond.methodLink RL 75 yX5_firstShort ∈ xtb := xtb_in 929 (by decide +kernel) rfl
theorem lk_L_79 : Cond.methodLink RL 79 yX5_lasts ∈ xtb := xtb_in 933 (by decide +kernel) rfl
theorem lk_L_83 : Cond.methodLink RL 83 yX5_leastHours ∈ xtb := xtb_in 937 (by decide +kernel) rfl
theorem lk_X5_193 : Cond.methodLink RX5 193 yX5_does ∈ xtb := xtb_in 941 (by decide +kernel) rfl
theorem lk_L_87 : Cond.methodLink RL 87 yX5_costs ∈ xtb := xtb_in 945 (by decide +kernel) rfl
theorem lk_X5_197 : Cond.methodLink RX5 197 yX5_costsBy ∈ xtb := xtb_in 949 (by decide +kernel) rfl
theorem lk_L_91 : Cond.methodLink RL 91 yX5_bestFence ∈ xtb := xtb_in 953 (by decide +kernel) rfl
theorem lk_L_95 : Cond.methodLink RL 95 yX5_roomFor ∈ xtb := xtb_in 957 (by decide +kernel) rfl
theorem lk_L_102 : Cond.methodLink RL 102 yX5_put ∈ xtb := xtb_in 961 (by decide +kernel) rfl
theorem kl_X5_200 : Cond.constantLong RX5 200 (255) ∈ xtb := xtb_in 965 (by decide +kernel) rfl
theorem kl_X5_202 : Cond.constantLong RX5 202 (33) ∈ xtb := xtb_in 966 (by decide +kernel) rfl
theorem kl_X5_204 : Cond.constantLong RX5 204 (126) ∈ xtb := xtb_in 967 (by decide +kernel) rfl
theorem lk_L_106 : Cond.methodLink RL 106 yX5_wipe ∈ xtb := xtb_in 968 (by decide +kernel) rfl
theorem lk_L_110 : Cond.methodLink RL 110 yX5_fault ∈ xtb := xtb_in 972 (by decide +kernel) rfl
theorem lk_X5_237 : Cond.methodLink RX5 237 yX5_passesAct ∈ xtb := xtb_in 976 (by decide +kernel) rfl
theorem lk_X5_221 : Cond.methodLink RX5 221 yX5_passesNumber ∈ xtb := xtb_in 980 (by decide +kernel) rfl
theorem lk_X5_215 : Cond.methodLink RX5 215 yX5_passesOne ∈ xtb := xtb_in 984 (by decide +kernel) rfl
theorem lk_X5_209 : Cond.methodLink RX5 209 yX5_isHere ∈ xtb := xtb_in 988 (by decide +kernel) rfl
theorem lk_X5_233 : Cond.methodLink RX5 233 yX5_passesNumbers ∈ xtb := xtb_in 992 (by decide +kernel) rfl
theorem lk_L_114 : Cond.methodLink RL 114 yX5_carryOut ∈ xtb := xtb_in 996 (by decide +kernel) rfl
theorem lk_X5_240 : Cond.methodLink RX5 240 yX5_fault ∈ xtb := xtb_in 1000 (by decide +kernel) rfl
theorem lk_X5_243 : Cond.methodLink RX5 243 yX5_acts ∈ xtb := xtb_in 1001 (by decide +kernel) rfl
theorem kl_L_96 : Cond.constantLong RL 96 (4294967295) ∈ xtb := xtb_in 1005 (by decide +kernel) rfl
abbrev mX4_init : xM := (yX4_init, cX4_init, 2, none)
theorem kI_X4_init : xMI mX4_init 0 := ⟨xtb_in 67 (by decide +kernel) rfl, ii_X4, xtb_in (w := .code yX4_init cX4_init 2 none) 68 (by decide +kernel) rfl, ⟨by decide +kernel, by decide⟩, rfl, rfl⟩
abbrev mX3_init : xM := (yX3_init, cX3_init, 2, none)
theorem kI_X3_init : xMI mX3_init 0 := ⟨xtb_in 75 (by decide +kernel) rfl, ii_X3, xtb_in (w := .code yX3_init cX3_init 2 none) 76 (by decide +kernel) rfl, ⟨by decide +kernel, by decide⟩, rfl, rfl⟩
abbrev mJ7_fill_53178 : xM := (yJ7_fill_53178, cJ7_fill_53178, 4, none)
theorem kS_J7_fill_53178 : xMS mJ7_fill_53178 2 := ⟨xtb_in 90 (by decide +kernel) rfl, ii_J7, xtb_in (w := .code yJ7_fill_53178 cJ7_fill_53178 4 none) 91 (by decide +kernel) rfl, ⟨by decide +kernel, by decide⟩⟩
abbrev mX2_init : xM := (yX2_init, cX2_init, 1, none)
theorem kI_X2_init : xMI mX2_init 0 := ⟨xtb_in 94 (by decide +kernel) rfl, ii_X2, xtb_in (w := .code yX2_init cX2_init 1 none) 95 (by decide +kernel) rfl, ⟨by decide +kernel, by decide⟩, rfl, rfl⟩
abbrev mX1_init : xM := (yX1_init, cX1_init, 1, none)
theorem kI_X1_init : xMI mX1_init 0 := ⟨xtb_in 212 (by decide +kernel) rfl, ii_X1, xtb_in (w := .code yX1_init cX1_init 1 none) 213 (by decide +kernel) rfl, ⟨by decide +kernel, by decide⟩, rfl, rfl⟩
abbrev mX0_init : xM := (yX0_init, cX0_init, 2, none)
theorem kI_X0_init : xMI mX0_init 0 := ⟨xtb_in 247 (by decide +kernel) rfl, ii_X0, xtb_in (w := .code yX0_init cX0_init 2 none) 248 (by decide +kernel) rfl, ⟨by decide +kernel, by decide⟩, rfl, rfl⟩
abbrev mX4_set : xM := (yX4_set, cX4_set, 4, (some .int))
theorem kV_X4_set : xMV mX4_set 2 := ⟨xtb_in 286 (by decide +kernel) rfl, xtb_in 287 (by decide +kernel) rfl, ii_X4, xtb_in (w := .code yX4_set cX4_set 4 (some .int)) 288 (by decide +kernel) rfl, ⟨by decide +kernel, by decide⟩⟩
abbrev mX4_isIn : xM := (yX4_isIn, cX4_isIn, 3, (some .boolean))
theorem kS_X4_isIn : xMS mX4_isIn 3 := ⟨xtb_in 290 (by decide +kernel) rfl, ii_X4, xtb_in (w := .code yX4_isIn cX4_isIn 3 (some .boolean)) 291 (by decide +kernel) rfl, ⟨by decide +kernel, by decide⟩⟩
abbrev mX0_remember : xM := (yX0_remember, cX0_remember, 2, none)
theorem kV_X0_remember : xMV mX0_remember 1 := ⟨xtb_in 297 (by decide +kernel) rfl, xtb_in 298 (by decide +kernel) rfl, ii_X0, xtb_in (w := .code yX0_remember cX0_remember 2 none) 299 (by decide +kernel) rfl, ⟨by decide +kernel, by decide⟩⟩
abbrev mX0_dropOldest : xM := (yX0_dropOldest, cX0_dropOldest, 3, none)
theorem kV_X0_dropOldest : xMV mX0_dropOldest 0 := ⟨xtb_in 302 (by decide +kernel) rfl, xtb_in 0 (by decide +kernel) rfl, ii_X0, xtb_in (w := .code yX0_dropOldest cX0_dropOldest 3 none) 303 (by decide +kernel) rfl, ⟨by decide +kernel, by decide⟩⟩
abbrev mX3_copyFrom : xM := (yX3_copyFrom, cX3_copyFrom, 5, none)
theorem kV_X3_copyFrom : xMV mX3_copyFrom 1 := ⟨xtb_in 305 (by decide +kernel) rfl, xtb_in 306 (by decide +kernel) rfl, ii_X3, xtb_in (w := .code yX3_copyFrom cX3_copyFrom 5 none) 307 (by decide +kernel) rfl, ⟨by decide +kernel, by decide⟩⟩
abbrev mX3_productAt : xM := (yX3_productAt, cX3_productAt, 2, (some (.object "LotFences$Product")))
theorem kV_X3_productAt : xMV mX3_productAt 1 := ⟨xtb_in 312 (by decide +kernel) rfl, xtb_in 313 (by decide +kernel) rfl, ii_X3, xtb_in (w := .code yX3_productAt cX3_productAt 2 (some (.object "LotFences$Product"))) 314 (by decide +kernel) rfl, ⟨by decide +kernel, by decide⟩⟩
abbrev mX2_copyFrom : xM := (yX2_copyFrom, cX2_copyFrom, 2, none)
theorem kV_X2_copyFrom : xMV mX2_copyFrom 1 := ⟨xtb_in 316 (by decide +kernel) rfl, xtb_in 317 (by decide +kernel) rfl, ii_X2, xtb_in (w := .code yX2_copyFrom cX2_copyFrom 2 none) 318 (by decide +kernel) rfl, ⟨by decide +kernel, by decide⟩⟩
abbrev mX3_setting : xM := (yX3_setting, cX3_setting, 2, (some .int))
theorem kV_X3_setting : xMV mX3_setting 1 := ⟨xtb_in 321 (by decide +kernel) rfl, xtb_in 322 (by decide +kernel) rfl, ii_X3, xtb_in (w := .code yX3_setting cX3_setting 2 (some .int)) 323 (by decide +kernel) rfl, ⟨by decide +kernel, by decide⟩⟩
abbrev mX3_changeSetting : xM := (yX3_changeSetting, cX3_changeSetting, 3, none)
theorem kV_X3_changeSetting : xMV mX3_changeSetting 2 := ⟨xtb_in 325 (by decide +kernel) rfl, xtb_in 326 (by decide +kernel) rfl, ii_X3, xtb_in (w := .code yX3_changeSetting cX3_changeSetting 3 none) 327 (by decide +kernel) rfl, ⟨by decide +kernel, by decide⟩⟩
abbrev mX4_product : xM := (yX4_product, cX4_product, 8, (some .int))
theorem kV_X4_product : xMV mX4_product 5 := ⟨xtb_in 329 (by decide +kernel) rfl, xtb_in 330 (by decide +kernel) rfl, ii_X4, xtb_in (w := .code yX4_product cX4_product 8 (some .int)) 331 (by decide +kernel) rfl, ⟨by decide +kernel, by decide⟩⟩
abbrev mX4_isFamily : xM := (yX4_isFamily, cX4_isFamily, 1, (some .boolean))
theorem kS_X4_isFamily : xMS mX4_isFamily 1 := ⟨xtb_in 333 (by decide +kernel) rfl, ii_X4, xtb_in (w := .code yX4_isFamily cX4_isFamily 1 (some .boolean)) 334 (by decide +kernel) rfl, ⟨by decide +kernel, by decide⟩⟩
abbrev mX3_spareProduct : xM := (yX3_spareProduct, cX3_spareProduct, 1, (some (.object "LotFences$Product")))
theorem kV_X3_spareProduct : xMV mX3_spareProduct 0 := ⟨xtb_in 336 (by decide +kernel) rfl, xtb_in 337 (by decide +kernel) rfl, ii_X3, xtb_in (w := .code yX3_spareProduct cX3_spareProduct 1 (some (.object "LotFences$Product"))) 338 (by decide +kernel) rfl, ⟨by decide +kernel, by decide⟩⟩
abbrev mX2_begin : xM := (yX2_begin, cX2_begin, 6, none)
theorem kV_X2_begin : xMV mX2_begin 5 := ⟨xtb_in 340 (by decide +kernel) rfl, xtb_in 341 (by decide +kernel) rfl, ii_X2, xtb_in (w := .code yX2_begin cX2_begin 6 none) 342 (by decide +kernel) rfl, ⟨by decide +kernel, by decide⟩⟩
abbrev mX4_family : xM := (yX4_family, cX4_family, 4, (some .int))
theorem kV_X4_family : xMV mX4_family 2 := ⟨xtb_in 345 (by decide +kernel) rfl, xtb_in 346 (by decide +kernel) rfl, ii_X4, xtb_in (w := .code yX4_family cX4_family 4 (some .int)) 347 (by decide +kernel) rfl, ⟨by decide +kernel, by decide⟩⟩
abbrev mX4_forecast : xM := (yX4_forecast, cX4_forecast, 6, (some .int))
theorem kV_X4_forecast : xMV mX4_forecast 3 := ⟨xtb_in 349 (by decide +kernel) rfl, xtb_in 350 (by decide +kernel) rfl, ii_X4, xtb_in (w := .code yX4_forecast cX4_forecast 6 (some .int)) 351 (by decide +kernel) rfl, ⟨by decide +kernel, by decide⟩⟩
abbrev mX4_isWeek : xM := (yX4_isWeek, cX4_isWeek, 1, (some .boolean))
theorem kS_X4_isWeek : xMS mX4_isWeek 1 := ⟨xtb_in 354 (by decide +kernel) rfl, ii_X4, xtb_in (w := .code yX4_isWeek cX4_isWeek 1 (some .boolean)) 355 (by decide +kernel) rfl, ⟨by decide +kernel, by decide⟩⟩
abbrev mX4_actual : xM := (yX4_actual, cX4_actual, 5, (some .int))
theorem kV_X4_actual : xMV mX4_actual 2 := ⟨xtb_in 357 (by decide +kernel) rfl, xtb_in 358 (by decide +kernel) rfl, ii_X4, xtb_in (w := .code yX4_actual cX4_actual 5 (some .int)) 359 (by decide +kernel) rfl, ⟨by decide +kernel, by decide⟩⟩
abbrev mX4_lots : xM := (yX4_lots, cX4_lots, 7, (some .int))
theorem kV_X4_lots : xMV mX4_lots 3 := ⟨xtb_in 361 (by decide +kernel) rfl, xtb_in 362 (by decide +kernel) rfl, ii_X4, xtb_in (w := .code yX4_lots cX4_lots 7 (some .int)) 363 (by decide +kernel) rfl, ⟨by decide +kernel, by decide⟩⟩
abbrev mX3_hoursWith : xM := (yX3_hoursWith, cX3_hoursWith, 9, (some .int))
theorem kV_X3_hoursWith : xMV mX3_hoursWith 3 := ⟨xtb_in 365 (by decide +kernel) rfl, xtb_in 366 (by decide +kernel) rfl, ii_X3, xtb_in (w := .code yX3_hoursWith cX3_hoursWith 9 (some .int)) 367 (by decide +kernel) rfl, ⟨by decide +kernel, by decide⟩⟩
abbrev mX2_lotsIn : xM := (yX2_lotsIn, cX2_lotsIn, 2, (some .int))
theorem kV_X2_lotsIn : xMV mX2_lotsIn 1 := ⟨xtb_in 369 (by decide +kernel) rfl, xtb_in 370 (by decide +kernel) rfl, ii_X2, xtb_in (w := .code yX2_lotsIn cX2_lotsIn 2 (some .int)) 371 (by decide +kernel) rfl, ⟨by decide +kernel, by decide⟩⟩
abbrev mX3_isFrozen : xM := (yX3_isFrozen, cX3_isFrozen, 2, (some .boolean))
theorem kV_X3_isFrozen : xMV mX3_isFrozen 1 := ⟨xtb_in 373 (by decide +kernel) rfl, xtb_in 374 (by decide +kernel) rfl, ii_X3, xtb_in (w := .code yX3_isFrozen cX3_isFrozen 2 (some .boolean)) 375 (by decide +kernel) rfl, ⟨by decide +kernel, by decide⟩⟩
abbrev mX3_capacity : xM := (yX3_capacity, cX3_capacity, 1, (some .int))
theorem kV_X3_capacity : xMV mX3_capacity 0 := ⟨xtb_in 378 (by decide +kernel) rfl, xtb_in 379 (by decide +kernel) rfl, ii_X3, xtb_in (w := .code yX3_capacity cX3_capacity 1 (some .int)) 380 (by decide +kernel) rfl, ⟨by decide +kernel, by decide⟩⟩
abbrev mX3_hoursIn : xM := (yX3_hoursIn, cX3_hoursIn, 2, (some .int))
theorem kV_X3_hoursIn : xMV mX3_hoursIn 1 := ⟨xtb_in 382 (by decide +kernel) rfl, xtb_in 383 (by decide +kernel) rfl, ii_X3, xtb_in (w := .code yX3_hoursIn cX3_hoursIn 2 (some .int)) 384 (by decide +kernel) rfl, ⟨by decide +kernel, by decide⟩⟩
abbrev mX4_plan : xM := (yX4_plan, cX4_plan, 1, (some .int))
theorem kV_X4_plan : xMV mX4_plan 0 := ⟨xtb_in 387 (by decide +kernel) rfl, xtb_in 388 (by decide +kernel) rfl, ii_X4, xtb_in (w := .code yX4_plan cX4_plan 1 (some .int)) 389 (by decide +kernel) rfl, ⟨by decide +kernel, by decide⟩⟩
abbrev mX3_planAnew : xM := (yX3_planAnew, cX3_planAnew, 2, none)
theorem kV_X3_planAnew : xMV mX3_planAnew 0 := ⟨xtb_in 391 (by decide +kernel) rfl, xtb_in 392 (by decide +kernel) rfl, ii_X3, xtb_in (w := .code yX3_planAnew cX3_planAnew 2 none) 393 (by decide +kernel) rfl, ⟨by decide +kernel, by decide⟩⟩
abbrev mX3_openPlans : xM := (yX3_openPlans, cX3_openPlans, 4, none)
theorem kV_X3_openPlans : xMV mX3_openPlans 0 := ⟨xtb_in 396 (by decide +kernel) rfl, xtb_in 1 (by decide +kernel) rfl, ii_X3, xtb_in (w := .code yX3_openPlans cX3_openPlans 4 none) 397 (by decide +kernel) rfl, ⟨by decide +kernel, by decide⟩⟩
abbrev mX2_openPlan : xM := (yX2_openPlan, cX2_openPlan, 3, none)
theorem kV_X2_openPlan : xMV mX2_openPlan 1 := ⟨xtb_in 399 (by decide +kernel) rfl, xtb_in 400 (by decide +kernel) rfl, ii_X2, xtb_in (w := .code yX2_openPlan cX2_openPlan 3 none) 401 (by decide +kernel) rfl, ⟨by decide +kernel, by decide⟩⟩
abbrev mX2_projectionBehind : xM := (yX2_projectionBehind, cX2_projectionBehind, 5, (some .long))
theorem kV_X2_projectionBehind : xMV mX2_projectionBehind 1 := ⟨xtb_in 403 (by decide +kernel) rfl, xtb_in 404 (by decide +kernel) rfl, ii_X2, xtb_in (w := .code yX2_projectionBehind cX2_projectionBehind 5 (some .long)) 405 (by decide +kernel) rfl, ⟨by decide +kernel, by decide⟩⟩
abbrev mX3_planWeek : xM := (yX3_planWeek, cX3_planWeek, 5, none)
theorem kV_X3_planWeek : xMV mX3_planWeek 1 := ⟨xtb_in 411 (by decide +kernel) rfl, xtb_in 2 (by decide +kernel) rfl, ii_X3, xtb_in (w := .code yX3_planWeek cX3_planWeek 5 none) 412 (by decide +kernel) rfl, ⟨by decide +kernel, by decide⟩⟩
abbrev mX2_enterWeek : xM := (yX2_enterWeek, cX2_enterWeek, 3, none)
theorem kV_X2_enterWeek : xMV mX2_enterWeek 2 := ⟨xtb_in 414 (by decide +kernel) rfl, xtb_in 415 (by decide +kernel) rfl, ii_X2, xtb_in (w := .code yX2_enterWeek cX2_enterWeek 3 none) 416 (by decide +kernel) rfl, ⟨by decide +kernel, by decide⟩⟩
abbrev mX2_cover : xM := (yX2_cover, cX2_cover, 2, (some .int))
theorem kV_X2_cover : xMV mX2_cover 1 := ⟨xtb_in 418 (by decide +kernel) rfl, xtb_in 419 (by decide +kernel) rfl, ii_X2, xtb_in (w := .code yX2_cover cX2_cover 2 (some .int)) 420 (by decide +kernel) rfl, ⟨by decide +kernel, by decide⟩⟩
abbrev mX3_nextWaiting : xM := (yX3_nextWaiting, cX3_nextWaiting, 4, (some (.object "LotFences$Product")))
theorem kV_X3_nextWaiting : xMV mX3_nextWaiting 0 := ⟨xtb_in 424 (by decide +kernel) rfl, xtb_in 3 (by decide +kernel) rfl, ii_X3, xtb_in (w := .code yX3_nextWaiting cX3_nextWaiting 4 (some (.object "LotFences$Product"))) 425 (by decide +kernel) rfl, ⟨by decide +kernel, by decide⟩⟩
abbrev mX3_giveLots : xM := (yX3_giveLots, cX3_giveLots, 8, none)
theorem kV_X3_giveLots : xMV mX3_giveLots 2 := ⟨xtb_in 428 (by decide +kernel) rfl, xtb_in 4 (by decide +kernel) rfl, ii_X3, xtb_in (w := .code yX3_giveLots cX3_giveLots 8 none) 429 (by decide +kernel) rfl, ⟨by decide +kernel, by decide⟩⟩
abbrev mX2_lotsWanted : xM := (yX2_lotsWanted, cX2_lotsWanted, 6, (some .long))
theorem kV_X2_lotsWanted : xMV mX2_lotsWanted 2 := ⟨xtb_in 432 (by decide +kernel) rfl, xtb_in 433 (by decide +kernel) rfl, ii_X2, xtb_in (w := .code yX2_lotsWanted cX2_lotsWanted 6 (some .long)) 434 (by decide +kernel) rfl, ⟨by decide +kernel, by decide⟩⟩
abbrev mX2_planLots : xM := (yX2_planLots, cX2_planLots, 3, none)
theorem kV_X2_planLots : xMV mX2_planLots 2 := ⟨xtb_in 442 (by decide +kernel) rfl, xtb_in 443 (by decide +kernel) rfl, ii_X2, xtb_in (w := .code yX2_planLots cX2_planLots 3 none) 444 (by decide +kernel) rfl, ⟨by decide +kernel, by decide⟩⟩
abbrev mX3_allLots : xM := (yX3_allLots, cX3_allLots, 4, (some .int))
theorem kV_X3_allLots : xMV mX3_allLots 0 := ⟨xtb_in 446 (by decide +kernel) rfl, xtb_in 447 (by decide +kernel) rfl, ii_X3, xtb_in (w := .code yX3_allLots cX3_allLots 4 (some .int)) 448 (by decide +kernel) rfl, ⟨by decide +kernel, by decide⟩⟩
abbrev mX2_lotsInAll : xM := (yX2_lotsInAll, cX2_lotsInAll, 3, (some .int))
theorem kV_X2_lotsInAll : xMV mX2_lotsInAll 0 := ⟨xtb_in 450 (by decide +kernel) rfl, xtb_in 451 (by decide +kernel) rfl, ii_X2, xtb_in (w := .code yX2_lotsInAll cX2_lotsInAll 3 (some .int)) 452 (by decide +kernel) rfl, ⟨by decide +kernel, by decide⟩⟩
abbrev mX4_weeks : xM := (yX4_weeks, cX4_weeks, 3, (some .int))
theorem kV_X4_weeks : xMV mX4_weeks 1 := ⟨xtb_in 454 (by decide +kernel) rfl, xtb_in 455 (by decide +kernel) rfl, ii_X4, xtb_in (w := .code yX4_weeks cX4_weeks 3 (some .int)) 456 (by decide +kernel) rfl, ⟨by decide +kernel, by decide⟩⟩
abbrev mX3_passWeek : xM := (yX3_passWeek, cX3_passWeek, 5, none)
theorem kV_X3_passWeek : xMV mX3_passWeek 0 := ⟨xtb_in 458 (by decide +kernel) rfl, xtb_in 459 (by decide +kernel) rfl, ii_X3, xtb_in (w := .code yX3_passWeek cX3_passWeek 5 none) 460 (by decide +kernel) rfl, ⟨by decide +kernel, by decide⟩⟩
abbrev mX3_setupsIn : xM := (yX3_setupsIn, cX3_setupsIn, 5, (some .int))
theorem kV_X3_setupsIn : xMV mX3_setupsIn 1 := ⟨xtb_in 462 (by decide +kernel) rfl, xtb_in 463 (by decide +kernel) rfl, ii_X3, xtb_in (w := .code yX3_setupsIn cX3_setupsIn 5 (some .int)) 464 (by decide +kernel) rfl, ⟨by decide +kernel, by decide⟩⟩
abbrev mX3_familiesIn : xM := (yX3_familiesIn, cX3_familiesIn, 5, (some .int))
theorem kV_X3_familiesIn : xMV mX3_familiesIn 1 := ⟨xtb_in 466 (by decide +kernel) rfl, xtb_in 467 (by decide +kernel) rfl, ii_X3, xtb_in (w := .code yX3_familiesIn cX3_familiesIn 5 (some .int)) 468 (by decide +kernel) rfl, ⟨by decide +kernel, by decide⟩⟩
abbrev mJ6_bitCount_0f7a4 : xM := (yJ6_bitCount_0f7a4, cJ6_bitCount_0f7a4, 1, (some .int))
theorem kS_J6_bitCount_0f7a4 : xMS mJ6_bitCount_0f7a4 1 := ⟨xtb_in 470 (by decide +kernel) rfl, ii_J6, xtb_in (w := .code yJ6_bitCount_0f7a4 cJ6_bitCount_0f7a4 1 (some .int)) 471 (by decide +kernel) rfl, ⟨by decide +kernel, by decide⟩⟩
abbrev mX3_overtimeIn : xM := (yX3_overtimeIn, cX3_overtimeIn, 2, (some .int))
theorem kV_X3_overtimeIn : xMV mX3_overtimeIn 1 := ⟨xtb_in 476 (by decide +kernel) rfl, xtb_in 477 (by decide +kernel) rfl, ii_X3, xtb_in (w := .code yX3_overtimeIn cX3_overtimeIn 2 (some .int)) 478 (by decide +kernel) rfl, ⟨by decide +kernel, by decide⟩⟩
abbrev mX2_passWeek : xM := (yX2_passWeek, cX2_passWeek, 5, none)
theorem kV_X2_passWeek : xMV mX2_passWeek 0 := ⟨xtb_in 481 (by decide +kernel) rfl, xtb_in 482 (by decide +kernel) rfl, ii_X2, xtb_in (w := .code yX2_passWeek cX2_passWeek 5 none) 483 (by decide +kernel) rfl, ⟨by decide +kernel, by decide⟩⟩
abbrev mX3_allStock : xM := (yX3_allStock, cX3_allStock, 5, (some .long))
theorem kV_X3_allStock : xMV mX3_allStock 0 := ⟨xtb_in 489 (by decide +kernel) rfl, xtb_in 490 (by decide +kernel) rfl, ii_X3, xtb_in (w := .code yX3_allStock cX3_allStock 5 (some .long)) 491 (by decide +kernel) rfl, ⟨by decide +kernel, by decide⟩⟩
abbrev mX3_allBacklog : xM := (yX3_allBacklog, cX3_allBacklog, 5, (some .long))
theorem kV_X3_allBacklog : xMV mX3_allBacklog 0 := ⟨xtb_in 493 (by decide +kernel) rfl, xtb_in 494 (by decide +kernel) rfl, ii_X3, xtb_in (w := .code yX3_allBacklog cX3_allBacklog 5 (some .long)) 495 (by decide +kernel) rfl, ⟨by decide +kernel, by decide⟩⟩
abbrev mX4_ofProduct : xM := (yX4_ofProduct, cX4_ofProduct, 4, (some .int))
theorem kV_X4_ofProduct : xMV mX4_ofProduct 2 := ⟨xtb_in 497 (by decide +kernel) rfl, xtb_in 498 (by decide +kernel) rfl, ii_X4, xtb_in (w := .code yX4_ofProduct cX4_ofProduct 4 (some .int)) 499 (by decide +kernel) rfl, ⟨by decide +kernel, by decide⟩⟩
abbrev mX4_at : xM := (yX4_at, cX4_at, 5, (some .int))
theorem kV_X4_at : xMV mX4_at 3 := ⟨xtb_in 502 (by decide +kernel) rfl, xtb_in 503 (by decide +kernel) rfl, ii_X4, xtb_in (w := .code yX4_at cX4_at 5 (some .int)) 504 (by decide +kernel) rfl, ⟨by decide +kernel, by decide⟩⟩
abbrev mX4_projection : xM := (yX4_projection, cX4_projection, 4, (some .long))
theorem kV_X4_projection : xMV mX4_projection 2 := ⟨xtb_in 506 (by decide +kernel) rfl, xtb_in 507 (by decide +kernel) rfl, ii_X4, xtb_in (w := .code yX4_projection cX4_projection 4 (some .long)) 508 (by decide +kernel) rfl, ⟨by decide +kernel, by decide⟩⟩
abbrev mX4_ofWeek : xM := (yX4_ofWeek, cX4_ofWeek, 3, (some .int))
theorem kV_X4_ofWeek : xMV mX4_ofWeek 2 := ⟨xtb_in 512 (by decide +kernel) rfl, xtb_in 513 (by decide +kernel) rfl, ii_X4, xtb_in (w := .code yX4_ofWeek cX4_ofWeek 3 (some .int)) 514 (by decide +kernel) rfl, ⟨by decide +kernel, by decide⟩⟩
abbrev mX4_count : xM := (yX4_count, cX4_count, 4, (some .long))
theorem kV_X4_count : xMV mX4_count 1 := ⟨xtb_in 519 (by decide +kernel) rfl, xtb_in 520 (by decide +kernel) rfl, ii_X4, xtb_in (w := .code yX4_count cX4_count 4 (some .long)) 521 (by decide +kernel) rfl, ⟨by decide +kernel, by decide⟩⟩
abbrev mX4_firstShort : xM := (yX4_firstShort, cX4_firstShort, 4, (some .int))
theorem kV_X4_firstShort : xMV mX4_firstShort 1 := ⟨xtb_in 526 (by decide +kernel) rfl, xtb_in 527 (by decide +kernel) rfl, ii_X4, xtb_in (w := .code yX4_firstShort cX4_firstShort 4 (some .int)) 528 (by decide +kernel) rfl, ⟨by decide +kernel, by decide⟩⟩
abbrev mX4_lasts : xM := (yX4_lasts, cX4_lasts, 6, (some .int))
theorem kV_X4_lasts : xMV mX4_lasts 1 := ⟨xtb_in 530 (by decide +kernel) rfl, xtb_in 531 (by decide +kernel) rfl, ii_X4, xtb_in (w := .code yX4_lasts cX4_lasts 6 (some .int)) 532 (by decide +kernel) rfl, ⟨by decide +kernel, by decide⟩⟩
abbrev mX4_leastHours : xM := (yX4_leastHours, cX4_leastHours, 2, (some .int))
theorem kV_X4_leastHours : xMV mX4_leastHours 0 := ⟨xtb_in 534 (by decide +kernel) rfl, xtb_in 535 (by decide +kernel) rfl, ii_X4, xtb_in (w := .code yX4_leastHours cX4_leastHours 2 (some .int)) 536 (by decide +kernel) rfl, ⟨by decide +kernel, by decide⟩⟩
abbrev mX3_plansWithoutShortage : xM := (yX3_plansWithoutShortage, cX3_plansWithoutShortage, 2, (some .boolean))
theorem kV_X3_plansWithoutShortage : xMV mX3_plansWithoutShortage 0 := ⟨xtb_in 539 (by decide +kernel) rfl, xtb_in 540 (by decide +kernel) rfl, ii_X3, xtb_in (w := .code yX3_plansWithoutShortage cX3_plansWithoutShortage 2 (some .boolean)) 541 (by decide +kernel) rfl, ⟨by decide +kernel, by decide⟩⟩
abbrev mX3_isShort : xM := (yX3_isShort, cX3_isShort, 3, (some .boolean))
theorem kV_X3_isShort : xMV mX3_isShort 0 := ⟨xtb_in 544 (by decide +kernel) rfl, xtb_in 5 (by decide +kernel) rfl, ii_X3, xtb_in (w := .code yX3_isShort cX3_isShort 3 (some .boolean)) 545 (by decide +kernel) rfl, ⟨by decide +kernel, by decide⟩⟩
abbrev mX4_costs : xM := (yX4_costs, cX4_costs, 4, (some .long))
theorem kV_X4_costs : xMV mX4_costs 2 := ⟨xtb_in 547 (by decide +kernel) rfl, xtb_in 548 (by decide +kernel) rfl, ii_X4, xtb_in (w := .code yX4_costs cX4_costs 4 (some .long)) 549 (by decide +kernel) rfl, ⟨by decide +kernel, by decide⟩⟩
abbrev mX3_forgetTold : xM := (yX3_forgetTold, cX3_forgetTold, 3, none)
theorem kV_X3_forgetTold : xMV mX3_forgetTold 0 := ⟨xtb_in 551 (by decide +kernel) rfl, xtb_in 552 (by decide +kernel) rfl, ii_X3, xtb_in (w := .code yX3_forgetTold cX3_forgetTold 3 none) 553 (by decide +kernel) rfl, ⟨by decide +kernel, by decide⟩⟩
abbrev mX4_bestFence : xM := (yX4_bestFence, cX4_bestFence, 8, (some .int))
theorem kV_X4_bestFence : xMV mX4_bestFence 1 := ⟨xtb_in 555 (by decide +kernel) rfl, xtb_in 556 (by decide +kernel) rfl, ii_X4, xtb_in (w := .code yX4_bestFence cX4_bestFence 8 (some .int)) 557 (by decide +kernel) rfl, ⟨by decide +kernel, by decide⟩⟩
abbrev mX4_roomFor : xM := (yX4_roomFor, cX4_roomFor, 6, (some .int))
theorem kV_X4_roomFor : xMV mX4_roomFor 2 := ⟨xtb_in 560 (by decide +kernel) rfl, xtb_in 561 (by decide +kernel) rfl, ii_X4, xtb_in (w := .code yX4_roomFor cX4_roomFor 6 (some .int)) 562 (by decide +kernel) rfl, ⟨by decide +kernel, by decide⟩⟩
abbrev mX4_put : xM := (yX4_put, cX4_put, 4, (some .int))
theorem kV_X4_put : xMV mX4_put 1 := ⟨xtb_in 565 (by decide +kernel) rfl, xtb_in 566 (by decide +kernel) rfl, ii_X4, xtb_in (w := .code yX4_put cX4_put 4 (some .int)) 567 (by decide +kernel) rfl, ⟨by decide +kernel, by decide⟩⟩
abbrev mX1_signsIn : xM := (yX1_signsIn, cX1_signsIn, 8, (some .int))
theorem kS_X1_signsIn : xMS mX1_signsIn 1 := ⟨xtb_in 569 (by decide +kernel) rfl, ii_X1, xtb_in (w := .code yX1_signsIn cX1_signsIn 8 (some .int)) 570 (by decide +kernel) rfl, ⟨by decide +kernel, by decide⟩⟩
abbrev mX1_append : xM := (yX1_append, cX1_append, 5, none)
theorem kV_X1_append : xMV mX1_append 2 := ⟨xtb_in 575 (by decide +kernel) rfl, xtb_in 576 (by decide +kernel) rfl, ii_X1, xtb_in (w := .code yX1_append cX1_append 5 none) 577 (by decide +kernel) rfl, ⟨by decide +kernel, by decide⟩⟩
abbrev mX4_wipe : xM := (yX4_wipe, cX4_wipe, 2, (some .int))
theorem kV_X4_wipe : xMV mX4_wipe 0 := ⟨xtb_in 580 (by decide +kernel) rfl, xtb_in 581 (by decide +kernel) rfl, ii_X4, xtb_in (w := .code yX4_wipe cX4_wipe 2 (some .int)) 582 (by decide +kernel) rfl, ⟨by decide +kernel, by decide⟩⟩
abbrev mX4_fault : xM := (yX4_fault, cX4_fault, 2, (some .int))
theorem kV_X4_fault : xMV mX4_fault 0 := ⟨xtb_in 584 (by decide +kernel) rfl, xtb_in 585 (by decide +kernel) rfl, ii_X4, xtb_in (w := .code yX4_fault cX4_fault 2 (some .int)) 586 (by decide +kernel) rfl, ⟨by decide +kernel, by decide⟩⟩
abbrev mX1_startReading : xM := (yX1_startReading, cX1_startReading, 1, none)
theorem kV_X1_startReading : xMV mX1_startReading 0 := ⟨xtb_in 588 (by decide +kernel) rfl, xtb_in 589 (by decide +kernel) rfl, ii_X1, xtb_in (w := .code yX1_startReading cX1_startReading 1 none) 590 (by decide +kernel) rfl, ⟨by decide +kernel, by decide⟩⟩
abbrev mX1_readAct : xM := (yX1_readAct, cX1_readAct, 1, (some .boolean))
theorem kV_X1_readAct : xMV mX1_readAct 0 := ⟨xtb_in 592 (by decide +kernel) rfl, xtb_in 593 (by decide +kernel) rfl, ii_X1, xtb_in (w := .code yX1_readAct cX1_readAct 1 (some .boolean)) 594 (by decide +kernel) rfl, ⟨by decide +kernel, by decide⟩⟩
abbrev mX1_signHere : xM := (yX1_signHere, cX1_signHere, 1, (some .char))
theorem kV_X1_signHere : xMV mX1_signHere 0 := ⟨xtb_in 597 (by decide +kernel) rfl, xtb_in 6 (by decide +kernel) rfl, ii_X1, xtb_in (w := .code yX1_signHere cX1_signHere 1 (some .char)) 598 (by decide +kernel) rfl, ⟨by decide +kernel, by decide⟩⟩
abbrev mX1_readSign : xM := (yX1_readSign, cX1_readSign, 2, (some .boolean))
theorem kV_X1_readSign : xMV mX1_readSign 1 := ⟨xtb_in 600 (by decide +kernel) rfl, xtb_in 601 (by decide +kernel) rfl, ii_X1, xtb_in (w := .code yX1_readSign cX1_readSign 2 (some .boolean)) 602 (by decide +kernel) rfl, ⟨by decide +kernel, by decide⟩⟩
abbrev mX1_readProduct : xM := (yX1_readProduct, cX1_readProduct, 1, (some .boolean))
theorem kV_X1_readProduct : xMV mX1_readProduct 0 := ⟨xtb_in 605 (by decide +kernel) rfl, xtb_in 7 (by decide +kernel) rfl, ii_X1, xtb_in (w := .code yX1_readProduct cX1_readProduct 1 (some .boolean)) 606 (by decide +kernel) rfl, ⟨by decide +kernel, by decide⟩⟩
abbrev mX1_digitHere : xM := (yX1_digitHere, cX1_digitHere, 2, (some .int))
theorem kV_X1_digitHere : xMV mX1_digitHere 0 := ⟨xtb_in 609 (by decide +kernel) rfl, xtb_in 8 (by decide +kernel) rfl, ii_X1, xtb_in (w := .code yX1_digitHere cX1_digitHere 2 (some .int)) 610 (by decide +kernel) rfl, ⟨by decide +kernel, by decide⟩⟩
abbrev mX1_readWeek : xM := (yX1_readWeek, cX1_readWeek, 2, (some .boolean))
theorem kV_X1_readWeek : xMV mX1_readWeek 0 := ⟨xtb_in 613 (by decide +kernel) rfl, xtb_in 9 (by decide +kernel) rfl, ii_X1, xtb_in (w := .code yX1_readWeek cX1_readWeek 2 (some .boolean)) 614 (by decide +kernel) rfl, ⟨by decide +kernel, by decide⟩⟩
abbrev mX1_readNumber : xM := (yX1_readNumber, cX1_readNumber, 2, (some .boolean))
theorem kV_X1_readNumber : xMV mX1_readNumber 0 := ⟨xtb_in 617 (by decide +kernel) rfl, xtb_in 10 (by decide +kernel) rfl, ii_X1, xtb_in (w := .code yX1_readNumber cX1_readNumber 2 (some .boolean)) 618 (by decide +kernel) rfl, ⟨by decide +kernel, by decide⟩⟩
abbrev mX1_isAtEnd : xM := (yX1_isAtEnd, cX1_isAtEnd, 1, (some .boolean))
theorem kV_X1_isAtEnd : xMV mX1_isAtEnd 0 := ⟨xtb_in 620 (by decide +kernel) rfl, xtb_in 621 (by decide +kernel) rfl, ii_X1, xtb_in (w := .code yX1_isAtEnd cX1_isAtEnd 1 (some .boolean)) 622 (by decide +kernel) rfl, ⟨by decide +kernel, by decide⟩⟩
abbrev mX4_carryOut : xM := (yX4_carryOut, cX4_carryOut, 2, (some .int))
theorem kV_X4_carryOut : xMV mX4_carryOut 0 := ⟨xtb_in 625 (by decide +kernel) rfl, xtb_in 626 (by decide +kernel) rfl, ii_X4, xtb_in (w := .code yX4_carryOut cX4_carryOut 2 (some .int)) 627 (by decide +kernel) rfl, ⟨by decide +kernel, by decide⟩⟩
abbrev mX4_carryAct : xM := (yX4_carryAct, cX4_carryAct, 1, (some .int))
theorem kV_X4_carryAct : xMV mX4_carryAct 0 := ⟨xtb_in 631 (by decide +kernel) rfl, xtb_in 11 (by decide +kernel) rfl, ii_X4, xtb_in (w := .code yX4_carryAct cX4_carryAct 1 (some .int)) 632 (by decide +kernel) rfl, ⟨by decide +kernel, by decide⟩⟩
abbrev mX4_isError : xM := (yX4_isError, cX4_isError, 1, (some .boolean))
theorem kS_X4_isError : xMS mX4_isError 1 := ⟨xtb_in 639 (by decide +kernel) rfl, ii_X4, xtb_in (w := .code yX4_isError cX4_isError 1 (some .boolean)) 640 (by decide +kernel) rfl, ⟨by decide +kernel, by decide⟩⟩
abbrev mX4_undo : xM := (yX4_undo, cX4_undo, 1, (some .int))
theorem kV_X4_undo : xMV mX4_undo 0 := ⟨xtb_in 642 (by decide +kernel) rfl, xtb_in 643 (by decide +kernel) rfl, ii_X4, xtb_in (w := .code yX4_undo cX4_undo 1 (some .int)) 644 (by decide +kernel) rfl, ⟨by decide +kernel, by decide⟩⟩
abbrev mX0_takeBack : xM := (yX0_takeBack, cX0_takeBack, 2, none)
theorem kV_X0_takeBack : xMV mX0_takeBack 1 := ⟨xtb_in 646 (by decide +kernel) rfl, xtb_in 647 (by decide +kernel) rfl, ii_X0, xtb_in (w := .code yX0_takeBack cX0_takeBack 2 none) 648 (by decide +kernel) rfl, ⟨by decide +kernel, by decide⟩⟩
abbrev mX4_save : xM := (yX4_save, cX4_save, 3, (some .int))
theorem kV_X4_save : xMV mX4_save 1 := ⟨xtb_in 650 (by decide +kernel) rfl, xtb_in 651 (by decide +kernel) rfl, ii_X4, xtb_in (w := .code yX4_save cX4_save 3 (some .int)) 652 (by decide +kernel) rfl, ⟨by decide +kernel, by decide⟩⟩
abbrev mX4_restore : xM := (yX4_restore, cX4_restore, 2, (some .int))
theorem kV_X4_restore : xMV mX4_restore 1 := ⟨xtb_in 654 (by decide +kernel) rfl, xtb_in 655 (by decide +kernel) rfl, ii_X4, xtb_in (w := .code yX4_restore cX4_restore 2 (some .int)) 656 (by decide +kernel) rfl, ⟨by decide +kernel, by decide⟩⟩
abbrev mX5_init : xM := (yX5_init, cX5_init, 2, none)
theorem kI_X5_init : xMI mX5_init 0 := ⟨xtb_in 660 (by decide +kernel) rfl, ii_X5, xtb_in (w := .code yX5_init cX5_init 2 none) 661 (by decide +kernel) rfl, ⟨by decide +kernel, by decide⟩, rfl, rfl⟩
abbrev mX5_undo : xM := (yX5_undo, cX5_undo, 1, (some .int))
theorem kV_X5_undo : xMV mX5_undo 0 := ⟨xtb_in 708 (by decide +kernel) rfl, xtb_in 709 (by decide +kernel) rfl, ii_X5, xtb_in (w := .code yX5_undo cX5_undo 1 (some .int)) 710 (by decide +kernel) rfl, ⟨by decide +kernel, by decide⟩⟩
abbrev mX5_brings : xM := (yX5_brings, cX5_brings, 3, none)
theorem kV_X5_brings : xMV mX5_brings 1 := ⟨xtb_in 713 (by decide +kernel) rfl, xtb_in 12 (by decide +kernel) rfl, ii_X5, xtb_in (w := .code yX5_brings cX5_brings 3 none) 714 (by decide +kernel) rfl, ⟨by decide +kernel, by decide⟩⟩
abbrev mX5_save : xM := (yX5_save, cX5_save, 2, (some .int))
theorem kV_X5_save : xMV mX5_save 1 := ⟨xtb_in 716 (by decide +kernel) rfl, xtb_in 717 (by decide +kernel) rfl, ii_X5, xtb_in (w := .code yX5_save cX5_save 2 (some .int)) 718 (by decide +kernel) rfl, ⟨by decide +kernel, by decide⟩⟩
abbrev mX5_isIn : xM := (yX5_isIn, cX5_isIn, 6, (some .boolean))
theorem kS_X5_isIn : xMS mX5_isIn 3 := ⟨xtb_in 720 (by decide +kernel) rfl, ii_X5, xtb_in (w := .code yX5_isIn cX5_isIn 6 (some .boolean)) 721 (by decide +kernel) rfl, ⟨by decide +kernel, by decide⟩⟩
abbrev mX5_keeps : xM := (yX5_keeps, cX5_keeps, 3, none)
theorem kV_X5_keeps : xMV mX5_keeps 1 := ⟨xtb_in 724 (by decide +kernel) rfl, xtb_in 13 (by decide +kernel) rfl, ii_X5, xtb_in (w := .code yX5_keeps cX5_keeps 3 none) 725 (by decide +kernel) rfl, ⟨by decide +kernel, by decide⟩⟩
abbrev mX5_restore : xM := (yX5_restore, cX5_restore, 2, (some .int))
theorem kV_X5_restore : xMV mX5_restore 1 := ⟨xtb_in 727 (by decide +kernel) rfl, xtb_in 728 (by decide +kernel) rfl, ii_X5, xtb_in (w := .code yX5_restore cX5_restore 2 (some .int)) 729 (by decide +kernel) rfl, ⟨by decide +kernel, by decide⟩⟩
abbrev mX5_records : xM := (yX5_records, cX5_records, 2, none)
theorem kV_X5_records : xMV mX5_records 0 := ⟨xtb_in 732 (by decide +kernel) rfl, xtb_in 14 (by decide +kernel) rfl, ii_X5, xtb_in (w := .code yX5_records cX5_records 2 none) 733 (by decide +kernel) rfl, ⟨by decide +kernel, by decide⟩⟩
abbrev mX5_set : xM := (yX5_set, cX5_set, 4, (some .int))
theorem kV_X5_set : xMV mX5_set 2 := ⟨xtb_in 735 (by decide +kernel) rfl, xtb_in 736 (by decide +kernel) rfl, ii_X5, xtb_in (w := .code yX5_set cX5_set 4 (some .int)) 737 (by decide +kernel) rfl, ⟨by decide +kernel, by decide⟩⟩
abbrev mX5_leastOf : xM := (yX5_leastOf, cX5_leastOf, 1, (some .int))
theorem kS_X5_leastOf : xMS mX5_leastOf 1 := ⟨xtb_in 740 (by decide +kernel) rfl, ii_X5, xtb_in (w := .code yX5_leastOf cX5_leastOf 1 (some .int)) 741 (by decide +kernel) rfl, ⟨by decide +kernel, by decide⟩⟩
abbrev mX5_mostOf : xM := (yX5_mostOf, cX5_mostOf, 1, (some .int))
theorem kS_X5_mostOf : xMS mX5_mostOf 1 := ⟨xtb_in 743 (by decide +kernel) rfl, ii_X5, xtb_in (w := .code yX5_mostOf cX5_mostOf 1 (some .int)) 744 (by decide +kernel) rfl, ⟨by decide +kernel, by decide⟩⟩
abbrev mX5_setting : xM := (yX5_setting, cX5_setting, 2, (some .long))
theorem kV_X5_setting : xMV mX5_setting 1 := ⟨xtb_in 747 (by decide +kernel) rfl, xtb_in 15 (by decide +kernel) rfl, ii_X5, xtb_in (w := .code yX5_setting cX5_setting 2 (some .long)) 748 (by decide +kernel) rfl, ⟨by decide +kernel, by decide⟩⟩
abbrev mX5_product : xM := (yX5_product, cX5_product, 9, (some .int))
theorem kV_X5_product : xMV mX5_product 5 := ⟨xtb_in 750 (by decide +kernel) rfl, xtb_in 751 (by decide +kernel) rfl, ii_X5, xtb_in (w := .code yX5_product cX5_product 9 (some .int)) 752 (by decide +kernel) rfl, ⟨by decide +kernel, by decide⟩⟩
abbrev mX5_becomes : xM := (yX5_becomes, cX5_becomes, 5, none)
theorem kV_X5_becomes : xMV mX5_becomes 3 := ⟨xtb_in 757 (by decide +kernel) rfl, xtb_in 16 (by decide +kernel) rfl, ii_X5, xtb_in (w := .code yX5_becomes cX5_becomes 5 none) 758 (by decide +kernel) rfl, ⟨by decide +kernel, by decide⟩⟩
abbrev mX5_family : xM := (yX5_family, cX5_family, 4, (some .int))
theorem kV_X5_family : xMV mX5_family 2 := ⟨xtb_in 761 (by decide +kernel) rfl, xtb_in 762 (by decide +kernel) rfl, ii_X5, xtb_in (w := .code yX5_family cX5_family 4 (some .int)) 763 (by decide +kernel) rfl, ⟨by decide +kernel, by decide⟩⟩
abbrev mX5_plan : xM := (yX5_plan, cX5_plan, 1, (some .int))
theorem kV_X5_plan : xMV mX5_plan 0 := ⟨xtb_in 765 (by decide +kernel) rfl, xtb_in 766 (by decide +kernel) rfl, ii_X5, xtb_in (w := .code yX5_plan cX5_plan 1 (some .int)) 767 (by decide +kernel) rfl, ⟨by decide +kernel, by decide⟩⟩
abbrev mX5_plans : xM := (yX5_plans, cX5_plans, 3, none)
theorem kV_X5_plans : xMV mX5_plans 0 := ⟨xtb_in 770 (by decide +kernel) rfl, xtb_in 17 (by decide +kernel) rfl, ii_X5, xtb_in (w := .code yX5_plans cX5_plans 3 none) 771 (by decide +kernel) rfl, ⟨by decide +kernel, by decide⟩⟩
abbrev mX5_fence : xM := (yX5_fence, cX5_fence, 1, (some .int))
theorem kV_X5_fence : xMV mX5_fence 0 := ⟨xtb_in 774 (by decide +kernel) rfl, xtb_in 18 (by decide +kernel) rfl, ii_X5, xtb_in (w := .code yX5_fence cX5_fence 1 (some .int)) 775 (by decide +kernel) rfl, ⟨by decide +kernel, by decide⟩⟩
abbrev mX5_plansWeek : xM := (yX5_plansWeek, cX5_plansWeek, 8, none)
theorem kV_X5_plansWeek : xMV mX5_plansWeek 1 := ⟨xtb_in 778 (by decide +kernel) rfl, xtb_in 19 (by decide +kernel) rfl, ii_X5, xtb_in (w := .code yX5_plansWeek cX5_plansWeek 8 none) 779 (by decide +kernel) rfl, ⟨by decide +kernel, by decide⟩⟩
abbrev mX5_nextOf : xM := (yX5_nextOf, cX5_nextOf, 6, (some .int))
theorem kV_X5_nextOf : xMV mX5_nextOf 2 := ⟨xtb_in 782 (by decide +kernel) rfl, xtb_in 20 (by decide +kernel) rfl, ii_X5, xtb_in (w := .code yX5_nextOf cX5_nextOf 6 (some .int)) 783 (by decide +kernel) rfl, ⟨by decide +kernel, by decide⟩⟩
abbrev mX5_project : xM := (yX5_project, cX5_project, 6, (some .long))
theorem kV_X5_project : xMV mX5_project 2 := ⟨xtb_in 786 (by decide +kernel) rfl, xtb_in 21 (by decide +kernel) rfl, ii_X5, xtb_in (w := .code yX5_project cX5_project 6 (some .long)) 787 (by decide +kernel) rfl, ⟨by decide +kernel, by decide⟩⟩
abbrev mX5_ofP : xM := (yX5_ofP, cX5_ofP, 3, (some .long))
theorem kV_X5_ofP : xMV mX5_ofP 2 := ⟨xtb_in 790 (by decide +kernel) rfl, xtb_in 22 (by decide +kernel) rfl, ii_X5, xtb_in (w := .code yX5_ofP cX5_ofP 3 (some .long)) 791 (by decide +kernel) rfl, ⟨by decide +kernel, by decide⟩⟩
abbrev mX5_cover : xM := (yX5_cover, cX5_cover, 2, (some .long))
theorem kV_X5_cover : xMV mX5_cover 1 := ⟨xtb_in 794 (by decide +kernel) rfl, xtb_in 23 (by decide +kernel) rfl, ii_X5, xtb_in (w := .code yX5_cover cX5_cover 2 (some .long)) 795 (by decide +kernel) rfl, ⟨by decide +kernel, by decide⟩⟩
abbrev mX5_wanted : xM := (yX5_wanted, cX5_wanted, 7, (some .long))
theorem kV_X5_wanted : xMV mX5_wanted 2 := ⟨xtb_in 798 (by decide +kernel) rfl, xtb_in 24 (by decide +kernel) rfl, ii_X5, xtb_in (w := .code yX5_wanted cX5_wanted 7 (some .long)) 799 (by decide +kernel) rfl, ⟨by decide +kernel, by decide⟩⟩
abbrev mX5_room : xM := (yX5_room, cX5_room, 9, (some .long))
theorem kV_X5_room : xMV mX5_room 2 := ⟨xtb_in 802 (by decide +kernel) rfl, xtb_in 25 (by decide +kernel) rfl, ii_X5, xtb_in (w := .code yX5_room cX5_room 9 (some .long)) 803 (by decide +kernel) rfl, ⟨by decide +kernel, by decide⟩⟩
abbrev mX5_mostHours : xM := (yX5_mostHours, cX5_mostHours, 1, (some .long))
theorem kV_X5_mostHours : xMV mX5_mostHours 0 := ⟨xtb_in 806 (by decide +kernel) rfl, xtb_in 26 (by decide +kernel) rfl, ii_X5, xtb_in (w := .code yX5_mostHours cX5_mostHours 1 (some .long)) 807 (by decide +kernel) rfl, ⟨by decide +kernel, by decide⟩⟩
abbrev mX5_hoursOf : xM := (yX5_hoursOf, cX5_hoursOf, 6, (some .long))
theorem kV_X5_hoursOf : xMV mX5_hoursOf 1 := ⟨xtb_in 810 (by decide +kernel) rfl, xtb_in 27 (by decide +kernel) rfl, ii_X5, xtb_in (w := .code yX5_hoursOf cX5_hoursOf 6 (some .long)) 811 (by decide +kernel) rfl, ⟨by decide +kernel, by decide⟩⟩
abbrev mX5_isMade : xM := (yX5_isMade, cX5_isMade, 3, (some .boolean))
theorem kV_X5_isMade : xMV mX5_isMade 2 := ⟨xtb_in 814 (by decide +kernel) rfl, xtb_in 28 (by decide +kernel) rfl, ii_X5, xtb_in (w := .code yX5_isMade cX5_isMade 3 (some .boolean)) 815 (by decide +kernel) rfl, ⟨by decide +kernel, by decide⟩⟩
abbrev mX5_familiesIn : xM := (yX5_familiesIn, cX5_familiesIn, 4, (some .int))
theorem kV_X5_familiesIn : xMV mX5_familiesIn 1 := ⟨xtb_in 818 (by decide +kernel) rfl, xtb_in 29 (by decide +kernel) rfl, ii_X5, xtb_in (w := .code yX5_familiesIn cX5_familiesIn 4 (some .int)) 819 (by decide +kernel) rfl, ⟨by decide +kernel, by decide⟩⟩
abbrev mX5_lotsInAll : xM := (yX5_lotsInAll, cX5_lotsInAll, 5, (some .int))
theorem kV_X5_lotsInAll : xMV mX5_lotsInAll 0 := ⟨xtb_in 823 (by decide +kernel) rfl, xtb_in 30 (by decide +kernel) rfl, ii_X5, xtb_in (w := .code yX5_lotsInAll cX5_lotsInAll 5 (some .int)) 824 (by decide +kernel) rfl, ⟨by decide +kernel, by decide⟩⟩
abbrev mX5_forecast : xM := (yX5_forecast, cX5_forecast, 5, (some .int))
theorem kV_X5_forecast : xMV mX5_forecast 3 := ⟨xtb_in 826 (by decide +kernel) rfl, xtb_in 827 (by decide +kernel) rfl, ii_X5, xtb_in (w := .code yX5_forecast cX5_forecast 5 (some .int)) 828 (by decide +kernel) rfl, ⟨by decide +kernel, by decide⟩⟩
abbrev mX5_forecastError : xM := (yX5_forecastError, cX5_forecastError, 4, (some .int))
theorem kV_X5_forecastError : xMV mX5_forecastError 3 := ⟨xtb_in 831 (by decide +kernel) rfl, xtb_in 31 (by decide +kernel) rfl, ii_X5, xtb_in (w := .code yX5_forecastError cX5_forecastError 4 (some .int)) 832 (by decide +kernel) rfl, ⟨by decide +kernel, by decide⟩⟩
abbrev mX5_isProduct : xM := (yX5_isProduct, cX5_isProduct, 2, (some .boolean))
theorem kV_X5_isProduct : xMV mX5_isProduct 1 := ⟨xtb_in 835 (by decide +kernel) rfl, xtb_in 32 (by decide +kernel) rfl, ii_X5, xtb_in (w := .code yX5_isProduct cX5_isProduct 2 (some .boolean)) 836 (by decide +kernel) rfl, ⟨by decide +kernel, by decide⟩⟩
abbrev mX5_isWeek : xM := (yX5_isWeek, cX5_isWeek, 1, (some .boolean))
theorem kS_X5_isWeek : xMS mX5_isWeek 1 := ⟨xtb_in 838 (by decide +kernel) rfl, ii_X5, xtb_in (w := .code yX5_isWeek cX5_isWeek 1 (some .boolean)) 839 (by decide +kernel) rfl, ⟨by decide +kernel, by decide⟩⟩
abbrev mX5_forecasts : xM := (yX5_forecasts, cX5_forecasts, 5, (some .int))
theorem kV_X5_forecasts : xMV mX5_forecasts 3 := ⟨xtb_in 843 (by decide +kernel) rfl, xtb_in 33 (by decide +kernel) rfl, ii_X5, xtb_in (w := .code yX5_forecasts cX5_forecasts 5 (some .int)) 844 (by decide +kernel) rfl, ⟨by decide +kernel, by decide⟩⟩
abbrev mX5_actual : xM := (yX5_actual, cX5_actual, 4, (some .int))
theorem kV_X5_actual : xMV mX5_actual 2 := ⟨xtb_in 846 (by decide +kernel) rfl, xtb_in 847 (by decide +kernel) rfl, ii_X5, xtb_in (w := .code yX5_actual cX5_actual 4 (some .int)) 848 (by decide +kernel) rfl, ⟨by decide +kernel, by decide⟩⟩
abbrev mX5_actualError : xM := (yX5_actualError, cX5_actualError, 3, (some .int))
theorem kV_X5_actualError : xMV mX5_actualError 2 := ⟨xtb_in 851 (by decide +kernel) rfl, xtb_in 34 (by decide +kernel) rfl, ii_X5, xtb_in (w := .code yX5_actualError cX5_actualError 3 (some .int)) 852 (by decide +kernel) rfl, ⟨by decide +kernel, by decide⟩⟩
abbrev mX5_tells : xM := (yX5_tells, cX5_tells, 4, (some .int))
theorem kV_X5_tells : xMV mX5_tells 2 := ⟨xtb_in 856 (by decide +kernel) rfl, xtb_in 35 (by decide +kernel) rfl, ii_X5, xtb_in (w := .code yX5_tells cX5_tells 4 (some .int)) 857 (by decide +kernel) rfl, ⟨by decide +kernel, by decide⟩⟩
abbrev mX5_lots : xM := (yX5_lots, cX5_lots, 5, (some .int))
theorem kV_X5_lots : xMV mX5_lots 3 := ⟨xtb_in 859 (by decide +kernel) rfl, xtb_in 860 (by decide +kernel) rfl, ii_X5, xtb_in (w := .code yX5_lots cX5_lots 5 (some .int)) 861 (by decide +kernel) rfl, ⟨by decide +kernel, by decide⟩⟩
abbrev mX5_lotsError : xM := (yX5_lotsError, cX5_lotsError, 10, (some .int))
theorem kV_X5_lotsError : xMV mX5_lotsError 3 := ⟨xtb_in 864 (by decide +kernel) rfl, xtb_in 36 (by decide +kernel) rfl, ii_X5, xtb_in (w := .code yX5_lotsError cX5_lotsError 10 (some .int)) 865 (by decide +kernel) rfl, ⟨by decide +kernel, by decide⟩⟩
abbrev mX5_plansLots : xM := (yX5_plansLots, cX5_plansLots, 5, (some .int))
theorem kV_X5_plansLots : xMV mX5_plansLots 3 := ⟨xtb_in 868 (by decide +kernel) rfl, xtb_in 37 (by decide +kernel) rfl, ii_X5, xtb_in (w := .code yX5_plansLots cX5_plansLots 5 (some .int)) 869 (by decide +kernel) rfl, ⟨by decide +kernel, by decide⟩⟩
abbrev mX5_weeks : xM := (yX5_weeks, cX5_weeks, 2, (some .int))
theorem kV_X5_weeks : xMV mX5_weeks 1 := ⟨xtb_in 871 (by decide +kernel) rfl, xtb_in 872 (by decide +kernel) rfl, ii_X5, xtb_in (w := .code yX5_weeks cX5_weeks 2 (some .int)) 873 (by decide +kernel) rfl, ⟨by decide +kernel, by decide⟩⟩
abbrev mX5_passesWeeks : xM := (yX5_passesWeeks, cX5_passesWeeks, 3, (some .int))
theorem kV_X5_passesWeeks : xMV mX5_passesWeeks 1 := ⟨xtb_in 877 (by decide +kernel) rfl, xtb_in 38 (by decide +kernel) rfl, ii_X5, xtb_in (w := .code yX5_passesWeeks cX5_passesWeeks 3 (some .int)) 878 (by decide +kernel) rfl, ⟨by decide +kernel, by decide⟩⟩
abbrev mX5_passes : xM := (yX5_passes, cX5_passes, 6, none)
theorem kV_X5_passes : xMV mX5_passes 0 := ⟨xtb_in 881 (by decide +kernel) rfl, xtb_in 39 (by decide +kernel) rfl, ii_X5, xtb_in (w := .code yX5_passes cX5_passes 6 none) 882 (by decide +kernel) rfl, ⟨by decide +kernel, by decide⟩⟩
abbrev mX5_ships : xM := (yX5_ships, cX5_ships, 14, none)
theorem kV_X5_ships : xMV mX5_ships 1 := ⟨xtb_in 885 (by decide +kernel) rfl, xtb_in 40 (by decide +kernel) rfl, ii_X5, xtb_in (w := .code yX5_ships cX5_ships 14 none) 886 (by decide +kernel) rfl, ⟨by decide +kernel, by decide⟩⟩
abbrev mX5_setupsOf : xM := (yX5_setupsOf, cX5_setupsOf, 5, (some .int))
theorem kV_X5_setupsOf : xMV mX5_setupsOf 1 := ⟨xtb_in 890 (by decide +kernel) rfl, xtb_in 41 (by decide +kernel) rfl, ii_X5, xtb_in (w := .code yX5_setupsOf cX5_setupsOf 5 (some .int)) 891 (by decide +kernel) rfl, ⟨by decide +kernel, by decide⟩⟩
abbrev mX5_overtimeOf : xM := (yX5_overtimeOf, cX5_overtimeOf, 4, (some .long))
theorem kV_X5_overtimeOf : xMV mX5_overtimeOf 1 := ⟨xtb_in 894 (by decide +kernel) rfl, xtb_in 42 (by decide +kernel) rfl, ii_X5, xtb_in (w := .code yX5_overtimeOf cX5_overtimeOf 4 (some .long)) 895 (by decide +kernel) rfl, ⟨by decide +kernel, by decide⟩⟩
abbrev mX5_sumOf : xM := (yX5_sumOf, cX5_sumOf, 5, (some .long))
theorem kV_X5_sumOf : xMV mX5_sumOf 1 := ⟨xtb_in 898 (by decide +kernel) rfl, xtb_in 43 (by decide +kernel) rfl, ii_X5, xtb_in (w := .code yX5_sumOf cX5_sumOf 5 (some .long)) 899 (by decide +kernel) rfl, ⟨by decide +kernel, by decide⟩⟩
abbrev mX5_rolls : xM := (yX5_rolls, cX5_rolls, 3, none)
theorem kV_X5_rolls : xMV mX5_rolls 1 := ⟨xtb_in 902 (by decide +kernel) rfl, xtb_in 44 (by decide +kernel) rfl, ii_X5, xtb_in (w := .code yX5_rolls cX5_rolls 3 none) 903 (by decide +kernel) rfl, ⟨by decide +kernel, by decide⟩⟩
abbrev mX5_ofProduct : xM := (yX5_ofProduct, cX5_ofProduct, 3, (some .int))
theorem kV_X5_ofProduct : xMV mX5_ofProduct 2 := ⟨xtb_in 905 (by decide +kernel) rfl, xtb_in 906 (by decide +kernel) rfl, ii_X5, xtb_in (w := .code yX5_ofProduct cX5_ofProduct 3 (some .int)) 907 (by decide +kernel) rfl, ⟨by decide +kernel, by decide⟩⟩
abbrev mX5_at : xM := (yX5_at, cX5_at, 4, (some .int))
theorem kV_X5_at : xMV mX5_at 3 := ⟨xtb_in 910 (by decide +kernel) rfl, xtb_in 911 (by decide +kernel) rfl, ii_X5, xtb_in (w := .code yX5_at cX5_at 4 (some .int)) 912 (by decide +kernel) rfl, ⟨by decide +kernel, by decide⟩⟩
abbrev mX5_projection : xM := (yX5_projection, cX5_projection, 3, (some .long))
theorem kV_X5_projection : xMV mX5_projection 2 := ⟨xtb_in 914 (by decide +kernel) rfl, xtb_in 915 (by decide +kernel) rfl, ii_X5, xtb_in (w := .code yX5_projection cX5_projection 3 (some .long)) 916 (by decide +kernel) rfl, ⟨by decide +kernel, by decide⟩⟩
abbrev mX5_ofWeek : xM := (yX5_ofWeek, cX5_ofWeek, 3, (some .int))
theorem kV_X5_ofWeek : xMV mX5_ofWeek 2 := ⟨xtb_in 919 (by decide +kernel) rfl, xtb_in 920 (by decide +kernel) rfl, ii_X5, xtb_in (w := .code yX5_ofWeek cX5_ofWeek 3 (some .int)) 921 (by decide +kernel) rfl, ⟨by decide +kernel, by decide⟩⟩
abbrev mX5_count : xM := (yX5_count, cX5_count, 2, (some .long))
theorem kV_X5_count : xMV mX5_count 1 := ⟨xtb_in 923 (by decide +kernel) rfl, xtb_in 924 (by decide +kernel) rfl, ii_X5, xtb_in (w := .code yX5_count cX5_count 2 (some .long)) 925 (by decide +kernel) rfl, ⟨by decide +kernel, by decide⟩⟩
abbrev mX5_firstShort : xM := (yX5_firstShort, cX5_firstShort, 3, (some .int))
theorem kV_X5_firstShort : xMV mX5_firstShort 1 := ⟨xtb_in 930 (by decide +kernel) rfl, xtb_in 931 (by decide +kernel) rfl, ii_X5, xtb_in (w := .code yX5_firstShort cX5_firstShort 3 (some .int)) 932 (by decide +kernel) rfl, ⟨by decide +kernel, by decide⟩⟩
abbrev mX5_lasts : xM := (yX5_lasts, cX5_lasts, 5, (some .int))
theorem kV_X5_lasts : xMV mX5_lasts 1 := ⟨xtb_in 934 (by decide +kernel) rfl, xtb_in 935 (by decide +kernel) rfl, ii_X5, xtb_in (w := .code yX5_lasts cX5_lasts 5 (some .int)) 936 (by decide +kernel) rfl, ⟨by decide +kernel, by decide⟩⟩
abbrev mX5_leastHours : xM := (yX5_leastHours, cX5_leastHours, 3, (some .int))
theorem kV_X5_leastHours : xMV mX5_leastHours 0 := ⟨xtb_in 938 (by decide +kernel) rfl, xtb_in 939 (by decide +kernel) rfl, ii_X5, xtb_in (w := .code yX5_leastHours cX5_leastHours 3 (some .int)) 940 (by decide +kernel) rfl, ⟨by decide +kernel, by decide⟩⟩
abbrev mX5_does : xM := (yX5_does, cX5_does, 4, (some .boolean))
theorem kV_X5_does : xMV mX5_does 0 := ⟨xtb_in 943 (by decide +kernel) rfl, xtb_in 45 (by decide +kernel) rfl, ii_X5, xtb_in (w := .code yX5_does cX5_does 4 (some .boolean)) 944 (by decide +kernel) rfl, ⟨by decide +kernel, by decide⟩⟩
abbrev mX5_costs : xM := (yX5_costs, cX5_costs, 3, (some .long))
theorem kV_X5_costs : xMV mX5_costs 2 := ⟨xtb_in 946 (by decide +kernel) rfl, xtb_in 947 (by decide +kernel) rfl, ii_X5, xtb_in (w := .code yX5_costs cX5_costs 3 (some .long)) 948 (by decide +kernel) rfl, ⟨by decide +kernel, by decide⟩⟩
abbrev mX5_costsBy : xM := (yX5_costsBy, cX5_costsBy, 7, (some .long))
theorem kV_X5_costsBy : xMV mX5_costsBy 2 := ⟨xtb_in 951 (by decide +kernel) rfl, xtb_in 46 (by decide +kernel) rfl, ii_X5, xtb_in (w := .code yX5_costsBy cX5_costsBy 7 (some .long)) 952 (by decide +kernel) rfl, ⟨by decide +kernel, by decide⟩⟩
abbrev mX5_bestFence : xM := (yX5_bestFence, cX5_bestFence, 8, (some .int))
theorem kV_X5_bestFence : xMV mX5_bestFence 1 := ⟨xtb_in 954 (by decide +kernel) rfl, xtb_in 955 (by decide +kernel) rfl, ii_X5, xtb_in (w := .code yX5_bestFence cX5_bestFence 8 (some .int)) 956 (by decide +kernel) rfl, ⟨by decide +kernel, by decide⟩⟩
abbrev mX5_roomFor : xM := (yX5_roomFor, cX5_roomFor, 3, (some .int))
theorem kV_X5_roomFor : xMV mX5_roomFor 2 := ⟨xtb_in 958 (by decide +kernel) rfl, xtb_in 959 (by decide +kernel) rfl, ii_X5, xtb_in (w := .code yX5_roomFor cX5_roomFor 3 (some .int)) 960 (by decide +kernel) rfl, ⟨by decide +kernel, by decide⟩⟩
abbrev mX5_put : xM := (yX5_put, cX5_put, 5, (some .int))
theorem kV_X5_put : xMV mX5_put 1 := ⟨xtb_in 962 (by decide +kernel) rfl, xtb_in 963 (by decide +kernel) rfl, ii_X5, xtb_in (w := .code yX5_put cX5_put 5 (some .int)) 964 (by decide +kernel) rfl, ⟨by decide +kernel, by decide⟩⟩
abbrev mX5_wipe : xM := (yX5_wipe, cX5_wipe, 2, (some .int))
theorem kV_X5_wipe : xMV mX5_wipe 0 := ⟨xtb_in 969 (by decide +kernel) rfl, xtb_in 970 (by decide +kernel) rfl, ii_X5, xtb_in (w := .code yX5_wipe cX5_wipe 2 (some .int)) 971 (by decide +kernel) rfl, ⟨by decide +kernel, by decide⟩⟩
abbrev mX5_fault : xM := (yX5_fault, cX5_fault, 1, (some .int))
theorem kV_X5_fault : xMV mX5_fault 0 := ⟨xtb_in 973 (by decide +kernel) rfl, xtb_in 974 (by decide +kernel) rfl, ii_X5, xtb_in (w := .code yX5_fault cX5_fault 1 (some .int)) 975 (by decide +kernel) rfl, ⟨by decide +kernel, by decide⟩⟩
abbrev mX5_passesAct : xM := (yX5_passesAct, cX5_passesAct, 2, (some .boolean))
theorem kV_X5_passesAct : xMV mX5_passesAct 0 := ⟨xtb_in 978 (by decide +kernel) rfl, xtb_in 47 (by decide +kernel) rfl, ii_X5, xtb_in (w := .code yX5_passesAct cX5_passesAct 2 (some .boolean)) 979 (by decide +kernel) rfl, ⟨by decide +kernel, by decide⟩⟩
abbrev mX5_passesNumber : xM := (yX5_passesNumber, cX5_passesNumber, 3, (some .boolean))
theorem kV_X5_passesNumber : xMV mX5_passesNumber 0 := ⟨xtb_in 982 (by decide +kernel) rfl, xtb_in 48 (by decide +kernel) rfl, ii_X5, xtb_in (w := .code yX5_passesNumber cX5_passesNumber 3 (some .boolean)) 983 (by decide +kernel) rfl, ⟨by decide +kernel, by decide⟩⟩
abbrev mX5_passesOne : xM := (yX5_passesOne, cX5_passesOne, 3, (some .boolean))
theorem kV_X5_passesOne : xMV mX5_passesOne 2 := ⟨xtb_in 986 (by decide +kernel) rfl, xtb_in 49 (by decide +kernel) rfl, ii_X5, xtb_in (w := .code yX5_passesOne cX5_passesOne 3 (some .boolean)) 987 (by decide +kernel) rfl, ⟨by decide +kernel, by decide⟩⟩
abbrev mX5_isHere : xM := (yX5_isHere, cX5_isHere, 3, (some .boolean))
theorem kV_X5_isHere : xMV mX5_isHere 2 := ⟨xtb_in 990 (by decide +kernel) rfl, xtb_in 50 (by decide +kernel) rfl, ii_X5, xtb_in (w := .code yX5_isHere cX5_isHere 3 (some .boolean)) 991 (by decide +kernel) rfl, ⟨by decide +kernel, by decide⟩⟩
abbrev mX5_passesNumbers : xM := (yX5_passesNumbers, cX5_passesNumbers, 2, (some .boolean))
theorem kV_X5_passesNumbers : xMV mX5_passesNumbers 1 := ⟨xtb_in 994 (by decide +kernel) rfl, xtb_in 51 (by decide +kernel) rfl, ii_X5, xtb_in (w := .code yX5_passesNumbers cX5_passesNumbers 2 (some .boolean)) 995 (by decide +kernel) rfl, ⟨by decide +kernel, by decide⟩⟩
abbrev mX5_carryOut : xM := (yX5_carryOut, cX5_carryOut, 3, (some .int))
theorem kV_X5_carryOut : xMV mX5_carryOut 0 := ⟨xtb_in 997 (by decide +kernel) rfl, xtb_in 998 (by decide +kernel) rfl, ii_X5, xtb_in (w := .code yX5_carryOut cX5_carryOut 3 (some .int)) 999 (by decide +kernel) rfl, ⟨by decide +kernel, by decide⟩⟩
abbrev mX5_acts : xM := (yX5_acts, cX5_acts, 3, (some .int))
theorem kV_X5_acts : xMV mX5_acts 0 := ⟨xtb_in 1003 (by decide +kernel) rfl, xtb_in 52 (by decide +kernel) rfl, ii_X5, xtb_in (w := .code yX5_acts cX5_acts 3 (some .int)) 1004 (by decide +kernel) rfl, ⟨by decide +kernel, by decide⟩⟩
theorem st_min : Cond.static Lib.Math.min.name ∈ xtb := xtb_in 436 (by decide +kernel) rfl
theorem cd_min : Cond.code Lib.Math.min.name Lib.Math.min.code 2 (some .int) ∈ xtb := xtb_in 437 (by decide +kernel) rfl
theorem st_max : Cond.static Lib.Math.max.name ∈ xtb := xtb_in 407 (by decide +kernel) rfl
theorem cd_max : Cond.code Lib.Math.max.name Lib.Math.max.code 2 (some .int) ∈ xtb := xtb_in 408 (by decide +kernel) rfl
theorem st_abs : Cond.static Lib.Math.abs.name ∈ xtb := xtb_in 486 (by decide +kernel) rfl
theorem cd_abs : Cond.code Lib.Math.abs.name Lib.Math.abs.code 1 (some .int) ∈ xtb := xtb_in 487 (by decide +kernel) rfl
theorem st_minL : Cond.static Lib.MathLoose.min_long.x ∈ xtb := xtb_in 439 (by decide +kernel) rfl
theorem cd_minL : Cond.code Lib.MathLoose.min_long.x Lib.MathLoose.min_long.code 4 (some .long) ∈ xtb := xtb_in 440 (by decide +kernel) rfl
theorem oi_in : Cond.instanceMethod Lib.objectInit ∈ xtb := xtb_in 70 (by decide +kernel) rfl
theorem oi_cd : Cond.code Lib.objectInit ⟨#[0xb1]⟩ 1 none ∈ xtb := xtb_in 71 (by decide +kernel) rfl
theorem st_copy : Cond.static arraycopyName ∈ xtb := xtb_in 309 (by decide +kernel) rfl
theorem in_clone : Cond.instanceMethod ⟨"java/lang/Object", "clone", "()Ljava/lang/Object;"⟩ ∈ xtb := xtb_in 83 (by decide +kernel) rfl
