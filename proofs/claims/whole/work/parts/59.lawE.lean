/-! ===== the law: its loop ===== -/
theorem sand32 (c : Int) : Int32.ofInt c &&& Int32.ofInt 31 = Int32.ofInt (c % 32) := by
  apply Int32.toBitVec_inj.1
  rw [Int32.toBitVec_and]
  apply BitVec.eq_of_toNat_eq
  rw [BitVec.toNat_and]
  show (BitVec.ofInt 32 c).toNat &&& (BitVec.ofInt 32 31).toNat = (BitVec.ofInt 32 (c % 32)).toNat
  rw [BitVec.toNat_ofInt, BitVec.toNat_ofInt, BitVec.toNat_ofInt, show ((31 : Int) % ((2 ^ 32 : Nat) : Int)).toNat = 2 ^ 5 - 1 by decide, Nat.and_two_pow_sub_one_eq_mod]
  omega
theorem x32 (x : Int32) : xI x.toInt := by have h1 := Int32.le_toInt x; have h2 := Int32.toInt_lt x; exact ⟨by omega, by omega⟩
theorem x64 (x : Int64) : xJ x.toInt := by have h1 := Int64.le_toInt x; have h2 := Int64.toInt_lt x; exact ⟨by omega, by omega⟩
theorem vi_nm (e : Int) : vi e = vi (Int32.ofInt e).toInt := by unfold vi; rw [Int32.ofInt_toInt]
theorem vl_nm (e : Int) : vl e = vl (Int64.ofInt e).toInt := by unfold vl; rw [Int64.ofInt_toInt]
def xSc (γ : xC) (L : Nat) (xs : Nat → Int32) : Prop := match γ with
  | (_, _, _, _, s, _, _, _, _, _, _, ω, _, _, _, _) => va_X (ω.2.2.1 0) L xs s s.heap ∧ ω.2.2.1 0 < s.heap.size ∧ ¬ xA ω (ω.2.2.1 0)
section RL1
variable {γ : xC} {cc : ByteArray} {nL d : Nat} {y : MethodName} {pc q : Nat} {pl : List (Option Value)} {st : List Value} {σ : Nat × Nat} {D : xD} {r : xR}
theorem v_scld (hX : xX γ cc nL y d) {L : Nat} {xs : Nat → Int32} (hsc : xSc γ L xs) {i : Int} {kk : Nat} (hi : i = (kk : Int)) (hk : kk < L) (hL : L ≤ 100000) (hd : decode cc pc = .ok (.iaload, 1)) (hq : pc + 1 = q) (k : xV γ q pl (vi (xs kk).toInt :: st) σ D r) : xV γ pc pl (vi i :: .ref 0 :: st) σ D r := by
  subst hq; subst hi
  obtain ⟨p, l, e, R, s, m, args, below, meth, c, Q, ω, n0, z0, n1, z1⟩ := γ
  obtain ⟨hx, hb, hml, hown, hts, hKF, hA, hfr, hlo, hce, hsl, hnm⟩ := hX
  obtain ⟨s1, s2, s3⟩ := hsc
  intro g1 g2 g3 g4 H locs ls hR hS hL2
  obtain ⟨hin, hto⟩ := xi_in hk hL
  have hk2 := k g1 g2 g3 g4 H locs ls hR hS hL2
  have he : xtr ω (vi (xs kk).toInt) = .int (xs kk) := by show Value.int (Int32.ofInt (xs kk).toInt) = _; rw [Int32.ofInt_toInt]
  rw [List.map_cons, he] at hk2
  refine va_sld hx hb s1 s2 s3 hS hin hd ?_
  rw [hto]
  exact hk2
theorem v_sclen (hX : xX γ cc nL y d) {L : Nat} {xs : Nat → Int32} (hsc : xSc γ L xs) (hd : decode cc pc = .ok (.arraylength, 1)) (hq : pc + 1 = q) (k : xV γ q pl (vi (L : Int) :: st) σ D r) : xV γ pc pl (.ref 0 :: st) σ D r := by
  subst hq
  obtain ⟨p, l, e, R, s, m, args, below, meth, c, Q, ω, n0, z0, n1, z1⟩ := γ
  obtain ⟨hx, hb, hml, hown, hts, hKF, hA, hfr, hlo, hce, hsl, hnm⟩ := hX
  obtain ⟨s1, s2, s3⟩ := hsc
  intro g1 g2 g3 g4 H locs ls hR hS hL2
  have hk2 := k g1 g2 g3 g4 H locs ls hR hS hL2
  have he : Int32.ofInt (L : Int) = Int32.ofNat L := rfl
  refine va_slen hx hb s1 s2 s3 hS hd ?_
  rw [← he]
  exact hk2
end RL1
set_option maxRecDepth 100000 in
set_option maxHeartbeats 4000000 in
theorem law_c0 {γ : xC} {nm ds : String} (hX : xX γ cL_law 4 ⟨RL, nm, ds⟩ 12) {L : Nat} {xs : Nat → Int32} (hL : L ≤ 3072) (hsc : xSc γ L xs) {i : Nat} (hi : 6 * i + 6 ≤ L) {D : xD} {r : xR} {B : Int} (hJ : JI D r B) (hB : B + 4100000 ≤ 2100000000) (h50 : 50000 ≤ B)
    (kont : ∀ D2 r2, JI D2 r2 (B + 4100000) → xV γ 903 [some (.ref 0), some (.ref 4), some (.ref 351), some (vi ((6 * i : Nat) : Int))] [] (356, 8410) D2 r2) : xV γ 152 [some (.ref 0), some (.ref 4), some (.ref 351), some (vi ((6 * i : Nat) : Int))] [] (356, 8410) D r := by
  obtain ⟨np, n, s, π, q, hJX⟩ := hJ
  obtain ⟨ee, P, hM, hN⟩ := j_set (z := 8410) hJX hB (xs (6 * i + 1)).toInt (xs (6 * i + 2)).toInt (x32 _) (x32 _)
  refine v_aload_n (q := 153) hX dL_law_152 rfl rfl rfl ?_
  refine v_aload_n (q := 154) hX dL_law_153 rfl rfl rfl ?_
  refine v_iload_n (q := 155) hX dL_law_154 rfl rfl rfl ?_
  refine v_iconst (q := 156) hX dL_law_155 rfl ?_
  refine v_iadd (q := 157) hX dL_law_156 rfl ?_
  refine v_scld (q := 158) (kk := 6 * i + 1) hX hsc (by omega) (by omega) (by omega) dL_law_157 rfl ?_
  refine v_aload_n (q := 159) hX dL_law_158 rfl rfl rfl ?_
  refine v_iload_n (q := 160) hX dL_law_159 rfl rfl rfl ?_
  refine v_iconst (q := 161) hX dL_law_160 rfl ?_
  refine v_iadd (q := 162) hX dL_law_161 rfl ?_
  refine v_scld (q := 163) (kk := 6 * i + 2) hX hsc (by omega) (by omega) (by omega) dL_law_162 rfl ?_
  refine v_callV (q := 166) hX hM rfl kV_X4_set rfl (by decide) lk_L_13 (by decide) rfl rfl (by decide) (by decide) (Nat.le_of_ble_eq_true rfl) dL_law_163 rfl (fun v D1 r1 h1_ => ?_)
  obtain ⟨rfl, P2, hM2, hN2⟩ := hN v D1 r1 h1_
  simp only [Option.toList, List.cons_append, List.nil_append]
  refine v_aload_n (q := 167) hX dL_law_166 rfl rfl rfl ?_
  refine v_aload_n (q := 168) hX dL_law_167 rfl rfl rfl ?_
  refine v_iload_n (q := 169) hX dL_law_168 rfl rfl rfl ?_
  refine v_iconst (q := 170) hX dL_law_169 rfl ?_
  refine v_iadd (q := 171) hX dL_law_170 rfl ?_
  refine v_scld (q := 172) (kk := 6 * i + 1) hX hsc (by omega) (by omega) (by omega) dL_law_171 rfl ?_
  refine v_aload_n (q := 173) hX dL_law_172 rfl rfl rfl ?_
  refine v_iload_n (q := 174) hX dL_law_173 rfl rfl rfl ?_
  refine v_iconst (q := 175) hX dL_law_174 rfl ?_
  refine v_iadd (q := 176) hX dL_law_175 rfl ?_
  refine v_scld (q := 177) (kk := 6 * i + 2) hX hsc (by omega) (by omega) (by omega) dL_law_176 rfl ?_
  refine v_callV (q := 180) hX hM2 rfl kV_X5_set rfl (by decide) lk_L_17 (by decide) rfl rfl (by decide) (by decide) (Nat.le_of_ble_eq_true rfl) dL_law_177 rfl (fun v2 D2 r2 h2_ => ?_)
  obtain ⟨rfl, hJ2⟩ := hN2 v2 D2 r2 h2_
  simp only [Option.toList, List.cons_append, List.nil_append]
  rw [vi_nm ee]
  refine v_icmp_eq (q := 183) (tgt := 903) hX (x32 _) (x32 _) dL_law_180 (by decide) rfl (fun _ => ?_) (fun hne => absurd rfl hne)
  exact kont D2 r2 hJ2
set_option maxRecDepth 100000 in
set_option maxHeartbeats 4000000 in
theorem law_c1 {γ : xC} {nm ds : String} (hX : xX γ cL_law 4 ⟨RL, nm, ds⟩ 12) {L : Nat} {xs : Nat → Int32} (hL : L ≤ 3072) (hsc : xSc γ L xs) {i : Nat} (hi : 6 * i + 6 ≤ L) {D : xD} {r : xR} {B : Int} (hJ : JI D r B) (hB : B + 4100000 ≤ 2100000000) (h50 : 50000 ≤ B)
    (kont : ∀ D2 r2, JI D2 r2 (B + 4100000) → xV γ 903 [some (.ref 0), some (.ref 4), some (.ref 351), some (vi ((6 * i : Nat) : Int))] [] (356, 8410) D2 r2) : xV γ 185 [some (.ref 0), some (.ref 4), some (.ref 351), some (vi ((6 * i : Nat) : Int))] [] (356, 8410) D r := by
  obtain ⟨np, n, s, π, q, hJX⟩ := hJ
  obtain ⟨ee, P, hM, hN⟩ := j_product (z := 8410) hJX hB h50 (xs (6 * i + 1)).toInt (xs (6 * i + 2)).toInt (xs (6 * i + 3)).toInt (xs (6 * i + 4)).toInt (xs (6 * i + 5)).toInt (x32 _) (x32 _) (x32 _) (x32 _) (x32 _)
  refine v_aload_n (q := 186) hX dL_law_185 rfl rfl rfl ?_
  refine v_aload_n (q := 187) hX dL_law_186 rfl rfl rfl ?_
  refine v_iload_n (q := 188) hX dL_law_187 rfl rfl rfl ?_
  refine v_iconst (q := 189) hX dL_law_188 rfl ?_
  refine v_iadd (q := 190) hX dL_law_189 rfl ?_
  refine v_scld (q := 191) (kk := 6 * i + 1) hX hsc (by omega) (by omega) (by omega) dL_law_190 rfl ?_
  refine v_aload_n (q := 192) hX dL_law_191 rfl rfl rfl ?_
  refine v_iload_n (q := 193) hX dL_law_192 rfl rfl rfl ?_
  refine v_iconst (q := 194) hX dL_law_193 rfl ?_
  refine v_iadd (q := 195) hX dL_law_194 rfl ?_
  refine v_scld (q := 196) (kk := 6 * i + 2) hX hsc (by omega) (by omega) (by omega) dL_law_195 rfl ?_
  refine v_aload_n (q := 197) hX dL_law_196 rfl rfl rfl ?_
  refine v_iload_n (q := 198) hX dL_law_197 rfl rfl rfl ?_
  refine v_iconst (q := 199) hX dL_law_198 rfl ?_
  refine v_iadd (q := 200) hX dL_law_199 rfl ?_
  refine v_scld (q := 201) (kk := 6 * i + 3) hX hsc (by omega) (by omega) (by omega) dL_law_200 rfl ?_
  refine v_aload_n (q := 202) hX dL_law_201 rfl rfl rfl ?_
  refine v_iload_n (q := 203) hX dL_law_202 rfl rfl rfl ?_
  refine v_iconst (q := 204) hX dL_law_203 rfl ?_
  refine v_iadd (q := 205) hX dL_law_204 rfl ?_
  refine v_scld (q := 206) (kk := 6 * i + 4) hX hsc (by omega) (by omega) (by omega) dL_law_205 rfl ?_
  refine v_aload_n (q := 207) hX dL_law_206 rfl rfl rfl ?_
  refine v_iload_n (q := 208) hX dL_law_207 rfl rfl rfl ?_
  refine v_iconst (q := 209) hX dL_law_208 rfl ?_
  refine v_iadd (q := 210) hX dL_law_209 rfl ?_
  refine v_scld (q := 211) (kk := 6 * i + 5) hX hsc (by omega) (by omega) (by omega) dL_law_210 rfl ?_
  refine v_callV (q := 214) hX hM rfl kV_X4_product rfl (by decide) lk_L_18 (by decide) rfl rfl (by decide) (by decide) (Nat.le_of_ble_eq_true rfl) dL_law_211 rfl (fun v D1 r1 h1_ => ?_)
  obtain ⟨rfl, P2, hM2, hN2⟩ := hN v D1 r1 h1_
  simp only [Option.toList, List.cons_append, List.nil_append]
  refine v_aload_n (q := 215) hX dL_law_214 rfl rfl rfl ?_
  refine v_aload_n (q := 216) hX dL_law_215 rfl rfl rfl ?_
  refine v_iload_n (q := 217) hX dL_law_216 rfl rfl rfl ?_
  refine v_iconst (q := 218) hX dL_law_217 rfl ?_
  refine v_iadd (q := 219) hX dL_law_218 rfl ?_
  refine v_scld (q := 220) (kk := 6 * i + 1) hX hsc (by omega) (by omega) (by omega) dL_law_219 rfl ?_
  refine v_aload_n (q := 221) hX dL_law_220 rfl rfl rfl ?_
  refine v_iload_n (q := 222) hX dL_law_221 rfl rfl rfl ?_
  refine v_iconst (q := 223) hX dL_law_222 rfl ?_
  refine v_iadd (q := 224) hX dL_law_223 rfl ?_
  refine v_scld (q := 225) (kk := 6 * i + 2) hX hsc (by omega) (by omega) (by omega) dL_law_224 rfl ?_
  refine v_aload_n (q := 226) hX dL_law_225 rfl rfl rfl ?_
  refine v_iload_n (q := 227) hX dL_law_226 rfl rfl rfl ?_
  refine v_iconst (q := 228) hX dL_law_227 rfl ?_
  refine v_iadd (q := 229) hX dL_law_228 rfl ?_
  refine v_scld (q := 230) (kk := 6 * i + 3) hX hsc (by omega) (by omega) (by omega) dL_law_229 rfl ?_
  refine v_aload_n (q := 231) hX dL_law_230 rfl rfl rfl ?_
  refine v_iload_n (q := 232) hX dL_law_231 rfl rfl rfl ?_
  refine v_iconst (q := 233) hX dL_law_232 rfl ?_
  refine v_iadd (q := 234) hX dL_law_233 rfl ?_
  refine v_scld (q := 235) (kk := 6 * i + 4) hX hsc (by omega) (by omega) (by omega) dL_law_234 rfl ?_
  refine v_aload_n (q := 236) hX dL_law_235 rfl rfl rfl ?_
  refine v_iload_n (q := 237) hX dL_law_236 rfl rfl rfl ?_
  refine v_iconst (q := 238) hX dL_law_237 rfl ?_
  refine v_iadd (q := 239) hX dL_law_238 rfl ?_
  refine v_scld (q := 240) (kk := 6 * i + 5) hX hsc (by omega) (by omega) (by omega) dL_law_239 rfl ?_
  refine v_callV (q := 243) hX hM2 rfl kV_X5_product rfl (by decide) lk_L_22 (by decide) rfl rfl (by decide) (by decide) (Nat.le_of_ble_eq_true rfl) dL_law_240 rfl (fun v2 D2 r2 h2_ => ?_)
  obtain ⟨rfl, hJ2⟩ := hN2 v2 D2 r2 h2_
  simp only [Option.toList, List.cons_append, List.nil_append]
  rw [vi_nm ee]
  refine v_icmp_eq (q := 246) (tgt := 903) hX (x32 _) (x32 _) dL_law_243 (by decide) rfl (fun _ => ?_) (fun hne => absurd rfl hne)
  exact kont D2 r2 hJ2
set_option maxRecDepth 100000 in
set_option maxHeartbeats 4000000 in
theorem law_c2 {γ : xC} {nm ds : String} (hX : xX γ cL_law 4 ⟨RL, nm, ds⟩ 12) {L : Nat} {xs : Nat → Int32} (hL : L ≤ 3072) (hsc : xSc γ L xs) {i : Nat} (hi : 6 * i + 6 ≤ L) {D : xD} {r : xR} {B : Int} (hJ : JI D r B) (hB : B + 4100000 ≤ 2100000000) (h50 : 50000 ≤ B)
    (kont : ∀ D2 r2, JI D2 r2 (B + 4100000) → xV γ 903 [some (.ref 0), some (.ref 4), some (.ref 351), some (vi ((6 * i : Nat) : Int))] [] (356, 8410) D2 r2) : xV γ 248 [some (.ref 0), some (.ref 4), some (.ref 351), some (vi ((6 * i : Nat) : Int))] [] (356, 8410) D r := by
  obtain ⟨np, n, s, π, q, hJX⟩ := hJ
  obtain ⟨ee, P, hM, hN⟩ := j_family (z := 8410) hJX hB (xs (6 * i + 1)).toInt (xs (6 * i + 2)).toInt (x32 _) (x32 _)
  refine v_aload_n (q := 249) hX dL_law_248 rfl rfl rfl ?_
  refine v_aload_n (q := 250) hX dL_law_249 rfl rfl rfl ?_
  refine v_iload_n (q := 251) hX dL_law_250 rfl rfl rfl ?_
  refine v_iconst (q := 252) hX dL_law_251 rfl ?_
  refine v_iadd (q := 253) hX dL_law_252 rfl ?_
  refine v_scld (q := 254) (kk := 6 * i + 1) hX hsc (by omega) (by omega) (by omega) dL_law_253 rfl ?_
  refine v_aload_n (q := 255) hX dL_law_254 rfl rfl rfl ?_
  refine v_iload_n (q := 256) hX dL_law_255 rfl rfl rfl ?_
  refine v_iconst (q := 257) hX dL_law_256 rfl ?_
  refine v_iadd (q := 258) hX dL_law_257 rfl ?_
  refine v_scld (q := 259) (kk := 6 * i + 2) hX hsc (by omega) (by omega) (by omega) dL_law_258 rfl ?_
  refine v_callV (q := 262) hX hM rfl kV_X4_family rfl (by decide) lk_L_23 (by decide) rfl rfl (by decide) (by decide) (Nat.le_of_ble_eq_true rfl) dL_law_259 rfl (fun v D1 r1 h1_ => ?_)
  obtain ⟨rfl, P2, hM2, hN2⟩ := hN v D1 r1 h1_
  simp only [Option.toList, List.cons_append, List.nil_append]
  refine v_aload_n (q := 263) hX dL_law_262 rfl rfl rfl ?_
  refine v_aload_n (q := 264) hX dL_law_263 rfl rfl rfl ?_
  refine v_iload_n (q := 265) hX dL_law_264 rfl rfl rfl ?_
  refine v_iconst (q := 266) hX dL_law_265 rfl ?_
  refine v_iadd (q := 267) hX dL_law_266 rfl ?_
  refine v_scld (q := 268) (kk := 6 * i + 1) hX hsc (by omega) (by omega) (by omega) dL_law_267 rfl ?_
  refine v_aload_n (q := 269) hX dL_law_268 rfl rfl rfl ?_
  refine v_iload_n (q := 270) hX dL_law_269 rfl rfl rfl ?_
  refine v_iconst (q := 271) hX dL_law_270 rfl ?_
  refine v_iadd (q := 272) hX dL_law_271 rfl ?_
  refine v_scld (q := 273) (kk := 6 * i + 2) hX hsc (by omega) (by omega) (by omega) dL_law_272 rfl ?_
  refine v_callV (q := 276) hX hM2 rfl kV_X5_family rfl (by decide) lk_L_26 (by decide) rfl rfl (by decide) (by decide) (Nat.le_of_ble_eq_true rfl) dL_law_273 rfl (fun v2 D2 r2 h2_ => ?_)
  obtain ⟨rfl, hJ2⟩ := hN2 v2 D2 r2 h2_
  simp only [Option.toList, List.cons_append, List.nil_append]
  rw [vi_nm ee]
  refine v_icmp_eq (q := 279) (tgt := 903) hX (x32 _) (x32 _) dL_law_276 (by decide) rfl (fun _ => ?_) (fun hne => absurd rfl hne)
  exact kont D2 r2 hJ2
set_option maxRecDepth 100000 in
set_option maxHeartbeats 4000000 in
theorem law_c3 {γ : xC} {nm ds : String} (hX : xX γ cL_law 4 ⟨RL, nm, ds⟩ 12) {L : Nat} {xs : Nat → Int32} (hL : L ≤ 3072) (hsc : xSc γ L xs) {i : Nat} (hi : 6 * i + 6 ≤ L) {D : xD} {r : xR} {B : Int} (hJ : JI D r B) (hB : B + 4100000 ≤ 2100000000) (h50 : 50000 ≤ B)
    (kont : ∀ D2 r2, JI D2 r2 (B + 4100000) → xV γ 903 [some (.ref 0), some (.ref 4), some (.ref 351), some (vi ((6 * i : Nat) : Int))] [] (356, 8410) D2 r2) : xV γ 281 [some (.ref 0), some (.ref 4), some (.ref 351), some (vi ((6 * i : Nat) : Int))] [] (356, 8410) D r := by
  obtain ⟨np, n, s, π, q, hJX⟩ := hJ
  obtain ⟨ee, P, hM, hN⟩ := j_forecast (z := 8410) hJX hB (xs (6 * i + 1)).toInt (xs (6 * i + 2)).toInt (xs (6 * i + 3)).toInt (x32 _) (x32 _) (x32 _)
  refine v_aload_n (q := 282) hX dL_law_281 rfl rfl rfl ?_
  refine v_aload_n (q := 283) hX dL_law_282 rfl rfl rfl ?_
  refine v_iload_n (q := 284) hX dL_law_283 rfl rfl rfl ?_
  refine v_iconst (q := 285) hX dL_law_284 rfl ?_
  refine v_iadd (q := 286) hX dL_law_285 rfl ?_
  refine v_scld (q := 287) (kk := 6 * i + 1) hX hsc (by omega) (by omega) (by omega) dL_law_286 rfl ?_
  refine v_aload_n (q := 288) hX dL_law_287 rfl rfl rfl ?_
  refine v_iload_n (q := 289) hX dL_law_288 rfl rfl rfl ?_
  refine v_iconst (q := 290) hX dL_law_289 rfl ?_
  refine v_iadd (q := 291) hX dL_law_290 rfl ?_
  refine v_scld (q := 292) (kk := 6 * i + 2) hX hsc (by omega) (by omega) (by omega) dL_law_291 rfl ?_
  refine v_aload_n (q := 293) hX dL_law_292 rfl rfl rfl ?_
  refine v_iload_n (q := 294) hX dL_law_293 rfl rfl rfl ?_
  refine v_iconst (q := 295) hX dL_law_294 rfl ?_
  refine v_iadd (q := 296) hX dL_law_295 rfl ?_
  refine v_scld (q := 297) (kk := 6 * i + 3) hX hsc (by omega) (by omega) (by omega) dL_law_296 rfl ?_
  refine v_callV (q := 300) hX hM rfl kV_X4_forecast rfl (by decide) lk_L_27 (by decide) rfl rfl (by decide) (by decide) (Nat.le_of_ble_eq_true rfl) dL_law_297 rfl (fun v D1 r1 h1_ => ?_)
  obtain ⟨rfl, P2, hM2, hN2⟩ := hN v D1 r1 h1_
  simp only [Option.toList, List.cons_append, List.nil_append]
  refine v_aload_n (q := 301) hX dL_law_300 rfl rfl rfl ?_
  refine v_aload_n (q := 302) hX dL_law_301 rfl rfl rfl ?_
  refine v_iload_n (q := 303) hX dL_law_302 rfl rfl rfl ?_
  refine v_iconst (q := 304) hX dL_law_303 rfl ?_
  refine v_iadd (q := 305) hX dL_law_304 rfl ?_
  refine v_scld (q := 306) (kk := 6 * i + 1) hX hsc (by omega) (by omega) (by omega) dL_law_305 rfl ?_
  refine v_aload_n (q := 307) hX dL_law_306 rfl rfl rfl ?_
  refine v_iload_n (q := 308) hX dL_law_307 rfl rfl rfl ?_
  refine v_iconst (q := 309) hX dL_law_308 rfl ?_
  refine v_iadd (q := 310) hX dL_law_309 rfl ?_
  refine v_scld (q := 311) (kk := 6 * i + 2) hX hsc (by omega) (by omega) (by omega) dL_law_310 rfl ?_
  refine v_aload_n (q := 312) hX dL_law_311 rfl rfl rfl ?_
  refine v_iload_n (q := 313) hX dL_law_312 rfl rfl rfl ?_
  refine v_iconst (q := 314) hX dL_law_313 rfl ?_
  refine v_iadd (q := 315) hX dL_law_314 rfl ?_
  refine v_scld (q := 316) (kk := 6 * i + 3) hX hsc (by omega) (by omega) (by omega) dL_law_315 rfl ?_
  refine v_callV (q := 319) hX hM2 rfl kV_X5_forecast rfl (by decide) lk_L_31 (by decide) rfl rfl (by decide) (by decide) (Nat.le_of_ble_eq_true rfl) dL_law_316 rfl (fun v2 D2 r2 h2_ => ?_)
  obtain ⟨rfl, hJ2⟩ := hN2 v2 D2 r2 h2_
  simp only [Option.toList, List.cons_append, List.nil_append]
  rw [vi_nm ee]
  refine v_icmp_eq (q := 322) (tgt := 903) hX (x32 _) (x32 _) dL_law_319 (by decide) rfl (fun _ => ?_) (fun hne => absurd rfl hne)
  exact kont D2 r2 hJ2
set_option maxRecDepth 100000 in
set_option maxHeartbeats 4000000 in
theorem law_c4 {γ : xC} {nm ds : String} (hX : xX γ cL_law 4 ⟨RL, nm, ds⟩ 12) {L : Nat} {xs : Nat → Int32} (hL : L ≤ 3072) (hsc : xSc γ L xs) {i : Nat} (hi : 6 * i + 6 ≤ L) {D : xD} {r : xR} {B : Int} (hJ : JI D r B) (hB : B + 4100000 ≤ 2100000000) (h50 : 50000 ≤ B)
    (kont : ∀ D2 r2, JI D2 r2 (B + 4100000) → xV γ 903 [some (.ref 0), some (.ref 4), some (.ref 351), some (vi ((6 * i : Nat) : Int))] [] (356, 8410) D2 r2) : xV γ 324 [some (.ref 0), some (.ref 4), some (.ref 351), some (vi ((6 * i : Nat) : Int))] [] (356, 8410) D r := by
  obtain ⟨np, n, s, π, q, hJX⟩ := hJ
  obtain ⟨ee, P, hM, hN⟩ := j_actual (z := 8410) hJX hB (xs (6 * i + 1)).toInt (xs (6 * i + 2)).toInt (x32 _) (x32 _)
  refine v_aload_n (q := 325) hX dL_law_324 rfl rfl rfl ?_
  refine v_aload_n (q := 326) hX dL_law_325 rfl rfl rfl ?_
  refine v_iload_n (q := 327) hX dL_law_326 rfl rfl rfl ?_
  refine v_iconst (q := 328) hX dL_law_327 rfl ?_
  refine v_iadd (q := 329) hX dL_law_328 rfl ?_
  refine v_scld (q := 330) (kk := 6 * i + 1) hX hsc (by omega) (by omega) (by omega) dL_law_329 rfl ?_
  refine v_aload_n (q := 331) hX dL_law_330 rfl rfl rfl ?_
  refine v_iload_n (q := 332) hX dL_law_331 rfl rfl rfl ?_
  refine v_iconst (q := 333) hX dL_law_332 rfl ?_
  refine v_iadd (q := 334) hX dL_law_333 rfl ?_
  refine v_scld (q := 335) (kk := 6 * i + 2) hX hsc (by omega) (by omega) (by omega) dL_law_334 rfl ?_
  refine v_callV (q := 338) hX hM rfl kV_X4_actual rfl (by decide) lk_L_32 (by decide) rfl rfl (by decide) (by decide) (Nat.le_of_ble_eq_true rfl) dL_law_335 rfl (fun v D1 r1 h1_ => ?_)
  obtain ⟨rfl, P2, hM2, hN2⟩ := hN v D1 r1 h1_
  simp only [Option.toList, List.cons_append, List.nil_append]
  refine v_aload_n (q := 339) hX dL_law_338 rfl rfl rfl ?_
  refine v_aload_n (q := 340) hX dL_law_339 rfl rfl rfl ?_
  refine v_iload_n (q := 341) hX dL_law_340 rfl rfl rfl ?_
  refine v_iconst (q := 342) hX dL_law_341 rfl ?_
  refine v_iadd (q := 343) hX dL_law_342 rfl ?_
  refine v_scld (q := 344) (kk := 6 * i + 1) hX hsc (by omega) (by omega) (by omega) dL_law_343 rfl ?_
  refine v_aload_n (q := 345) hX dL_law_344 rfl rfl rfl ?_
  refine v_iload_n (q := 346) hX dL_law_345 rfl rfl rfl ?_
  refine v_iconst (q := 347) hX dL_law_346 rfl ?_
  refine v_iadd (q := 348) hX dL_law_347 rfl ?_
  refine v_scld (q := 349) (kk := 6 * i + 2) hX hsc (by omega) (by omega) (by omega) dL_law_348 rfl ?_
  refine v_callV (q := 352) hX hM2 rfl kV_X5_actual rfl (by decide) lk_L_35 (by decide) rfl rfl (by decide) (by decide) (Nat.le_of_ble_eq_true rfl) dL_law_349 rfl (fun v2 D2 r2 h2_ => ?_)
  obtain ⟨rfl, hJ2⟩ := hN2 v2 D2 r2 h2_
  simp only [Option.toList, List.cons_append, List.nil_append]
  rw [vi_nm ee]
  refine v_icmp_eq (q := 355) (tgt := 903) hX (x32 _) (x32 _) dL_law_352 (by decide) rfl (fun _ => ?_) (fun hne => absurd rfl hne)
  exact kont D2 r2 hJ2
set_option maxRecDepth 100000 in
set_option maxHeartbeats 4000000 in
theorem law_c5 {γ : xC} {nm ds : String} (hX : xX γ cL_law 4 ⟨RL, nm, ds⟩ 12) {L : Nat} {xs : Nat → Int32} (hL : L ≤ 3072) (hsc : xSc γ L xs) {i : Nat} (hi : 6 * i + 6 ≤ L) {D : xD} {r : xR} {B : Int} (hJ : JI D r B) (hB : B + 4100000 ≤ 2100000000) (h50 : 50000 ≤ B)
    (kont : ∀ D2 r2, JI D2 r2 (B + 4100000) → xV γ 903 [some (.ref 0), some (.ref 4), some (.ref 351), some (vi ((6 * i : Nat) : Int))] [] (356, 8410) D2 r2) : xV γ 357 [some (.ref 0), some (.ref 4), some (.ref 351), some (vi ((6 * i : Nat) : Int))] [] (356, 8410) D r := by
  obtain ⟨np, n, s, π, q, hJX⟩ := hJ
  obtain ⟨ee, P, hM, hN⟩ := j_lots (z := 8410) hJX hB (xs (6 * i + 1)).toInt (xs (6 * i + 2)).toInt (xs (6 * i + 3)).toInt (x32 _) (x32 _) (x32 _)
  refine v_aload_n (q := 358) hX dL_law_357 rfl rfl rfl ?_
  refine v_aload_n (q := 359) hX dL_law_358 rfl rfl rfl ?_
  refine v_iload_n (q := 360) hX dL_law_359 rfl rfl rfl ?_
  refine v_iconst (q := 361) hX dL_law_360 rfl ?_
  refine v_iadd (q := 362) hX dL_law_361 rfl ?_
  refine v_scld (q := 363) (kk := 6 * i + 1) hX hsc (by omega) (by omega) (by omega) dL_law_362 rfl ?_
  refine v_aload_n (q := 364) hX dL_law_363 rfl rfl rfl ?_
  refine v_iload_n (q := 365) hX dL_law_364 rfl rfl rfl ?_
  refine v_iconst (q := 366) hX dL_law_365 rfl ?_
  refine v_iadd (q := 367) hX dL_law_366 rfl ?_
  refine v_scld (q := 368) (kk := 6 * i + 2) hX hsc (by omega) (by omega) (by omega) dL_law_367 rfl ?_
  refine v_aload_n (q := 369) hX dL_law_368 rfl rfl rfl ?_
  refine v_iload_n (q := 370) hX dL_law_369 rfl rfl rfl ?_
  refine v_iconst (q := 371) hX dL_law_370 rfl ?_
  refine v_iadd (q := 372) hX dL_law_371 rfl ?_
  refine v_scld (q := 373) (kk := 6 * i + 3) hX hsc (by omega) (by omega) (by omega) dL_law_372 rfl ?_
  refine v_callV (q := 376) hX hM rfl kV_X4_lots rfl (by decide) lk_L_36 (by decide) rfl rfl (by decide) (by decide) (Nat.le_of_ble_eq_true rfl) dL_law_373 rfl (fun v D1 r1 h1_ => ?_)
  obtain ⟨rfl, P2, hM2, hN2⟩ := hN v D1 r1 h1_
  simp only [Option.toList, List.cons_append, List.nil_append]
  refine v_aload_n (q := 377) hX dL_law_376 rfl rfl rfl ?_
  refine v_aload_n (q := 378) hX dL_law_377 rfl rfl rfl ?_
  refine v_iload_n (q := 379) hX dL_law_378 rfl rfl rfl ?_
  refine v_iconst (q := 380) hX dL_law_379 rfl ?_
  refine v_iadd (q := 381) hX dL_law_380 rfl ?_
  refine v_scld (q := 382) (kk := 6 * i + 1) hX hsc (by omega) (by omega) (by omega) dL_law_381 rfl ?_
  refine v_aload_n (q := 383) hX dL_law_382 rfl rfl rfl ?_
  refine v_iload_n (q := 384) hX dL_law_383 rfl rfl rfl ?_
  refine v_iconst (q := 385) hX dL_law_384 rfl ?_
  refine v_iadd (q := 386) hX dL_law_385 rfl ?_
  refine v_scld (q := 387) (kk := 6 * i + 2) hX hsc (by omega) (by omega) (by omega) dL_law_386 rfl ?_
  refine v_aload_n (q := 388) hX dL_law_387 rfl rfl rfl ?_
  refine v_iload_n (q := 389) hX dL_law_388 rfl rfl rfl ?_
  refine v_iconst (q := 390) hX dL_law_389 rfl ?_
  refine v_iadd (q := 391) hX dL_law_390 rfl ?_
  refine v_scld (q := 392) (kk := 6 * i + 3) hX hsc (by omega) (by omega) (by omega) dL_law_391 rfl ?_
  refine v_callV (q := 395) hX hM2 rfl kV_X5_lots rfl (by decide) lk_L_39 (by decide) rfl rfl (by decide) (by decide) (Nat.le_of_ble_eq_true rfl) dL_law_392 rfl (fun v2 D2 r2 h2_ => ?_)
  obtain ⟨rfl, hJ2⟩ := hN2 v2 D2 r2 h2_
  simp only [Option.toList, List.cons_append, List.nil_append]
  rw [vi_nm ee]
  refine v_icmp_eq (q := 398) (tgt := 903) hX (x32 _) (x32 _) dL_law_395 (by decide) rfl (fun _ => ?_) (fun hne => absurd rfl hne)
  exact kont D2 r2 hJ2
set_option maxRecDepth 100000 in
set_option maxHeartbeats 4000000 in
theorem law_c6 {γ : xC} {nm ds : String} (hX : xX γ cL_law 4 ⟨RL, nm, ds⟩ 12) {L : Nat} {xs : Nat → Int32} (hL : L ≤ 3072) (hsc : xSc γ L xs) {i : Nat} (hi : 6 * i + 6 ≤ L) {D : xD} {r : xR} {B : Int} (hJ : JI D r B) (hB : B + 4100000 ≤ 2100000000) (h50 : 50000 ≤ B)
    (kont : ∀ D2 r2, JI D2 r2 (B + 4100000) → xV γ 903 [some (.ref 0), some (.ref 4), some (.ref 351), some (vi ((6 * i : Nat) : Int))] [] (356, 8410) D2 r2) : xV γ 400 [some (.ref 0), some (.ref 4), some (.ref 351), some (vi ((6 * i : Nat) : Int))] [] (356, 8410) D r := by
  obtain ⟨np, n, s, π, q, hJX⟩ := hJ
  obtain ⟨ee, P, hM, hN⟩ := j_plan (z := 8410) hJX hB  
  refine v_aload_n (q := 401) hX dL_law_400 rfl rfl rfl ?_
  refine v_callV (q := 404) hX hM rfl kV_X4_plan rfl (by decide) lk_L_40 (by decide) rfl rfl (by decide) (by decide) (Nat.le_of_ble_eq_true rfl) dL_law_401 rfl (fun v D1 r1 h1_ => ?_)
  obtain ⟨rfl, P2, hM2, hN2⟩ := hN v D1 r1 h1_
  simp only [Option.toList, List.cons_append, List.nil_append]
  refine v_aload_n (q := 405) hX dL_law_404 rfl rfl rfl ?_
  refine v_callV (q := 408) hX hM2 rfl kV_X5_plan rfl (by decide) lk_L_44 (by decide) rfl rfl (by decide) (by decide) (Nat.le_of_ble_eq_true rfl) dL_law_405 rfl (fun v2 D2 r2 h2_ => ?_)
  obtain ⟨rfl, hJ2⟩ := hN2 v2 D2 r2 h2_
  simp only [Option.toList, List.cons_append, List.nil_append]
  rw [vi_nm ee]
  refine v_icmp_eq (q := 411) (tgt := 903) hX (x32 _) (x32 _) dL_law_408 (by decide) rfl (fun _ => ?_) (fun hne => absurd rfl hne)
  exact kont D2 r2 hJ2
set_option maxRecDepth 100000 in
set_option maxHeartbeats 4000000 in
theorem law_c7 {γ : xC} {nm ds : String} (hX : xX γ cL_law 4 ⟨RL, nm, ds⟩ 12) {L : Nat} {xs : Nat → Int32} (hL : L ≤ 3072) (hsc : xSc γ L xs) {i : Nat} (hi : 6 * i + 6 ≤ L) {D : xD} {r : xR} {B : Int} (hJ : JI D r B) (hB : B + 4100000 ≤ 2100000000) (h50 : 50000 ≤ B)
    (kont : ∀ D2 r2, JI D2 r2 (B + 4100000) → xV γ 903 [some (.ref 0), some (.ref 4), some (.ref 351), some (vi ((6 * i : Nat) : Int))] [] (356, 8410) D2 r2) : xV γ 413 [some (.ref 0), some (.ref 4), some (.ref 351), some (vi ((6 * i : Nat) : Int))] [] (356, 8410) D r := by
  obtain ⟨np, n, s, π, q, hJX⟩ := hJ
  obtain ⟨ee, P, hM, hN⟩ := j_weeks (z := 8410) hJX hB (xs (6 * i + 1)).toInt (x32 _)
  refine v_aload_n (q := 414) hX dL_law_413 rfl rfl rfl ?_
  refine v_aload_n (q := 415) hX dL_law_414 rfl rfl rfl ?_
  refine v_iload_n (q := 416) hX dL_law_415 rfl rfl rfl ?_
  refine v_iconst (q := 417) hX dL_law_416 rfl ?_
  refine v_iadd (q := 418) hX dL_law_417 rfl ?_
  refine v_scld (q := 419) (kk := 6 * i + 1) hX hsc (by omega) (by omega) (by omega) dL_law_418 rfl ?_
  refine v_callV (q := 422) hX hM rfl kV_X4_weeks rfl (by decide) lk_L_45 (by decide) rfl rfl (by decide) (by decide) (Nat.le_of_ble_eq_true rfl) dL_law_419 rfl (fun v D1 r1 h1_ => ?_)
  obtain ⟨rfl, P2, hM2, hN2⟩ := hN v D1 r1 h1_
  simp only [Option.toList, List.cons_append, List.nil_append]
  refine v_aload_n (q := 423) hX dL_law_422 rfl rfl rfl ?_
  refine v_aload_n (q := 424) hX dL_law_423 rfl rfl rfl ?_
  refine v_iload_n (q := 425) hX dL_law_424 rfl rfl rfl ?_
  refine v_iconst (q := 426) hX dL_law_425 rfl ?_
  refine v_iadd (q := 427) hX dL_law_426 rfl ?_
  refine v_scld (q := 428) (kk := 6 * i + 1) hX hsc (by omega) (by omega) (by omega) dL_law_427 rfl ?_
  refine v_callV (q := 431) hX hM2 rfl kV_X5_weeks rfl (by decide) lk_L_49 (by decide) rfl rfl (by decide) (by decide) (Nat.le_of_ble_eq_true rfl) dL_law_428 rfl (fun v2 D2 r2 h2_ => ?_)
  obtain ⟨rfl, hJ2⟩ := hN2 v2 D2 r2 h2_
  simp only [Option.toList, List.cons_append, List.nil_append]
  rw [vi_nm ee]
  refine v_icmp_eq (q := 434) (tgt := 903) hX (x32 _) (x32 _) dL_law_431 (by decide) rfl (fun _ => ?_) (fun hne => absurd rfl hne)
  exact kont D2 r2 hJ2
set_option maxRecDepth 100000 in
set_option maxHeartbeats 4000000 in
theorem law_c8 {γ : xC} {nm ds : String} (hX : xX γ cL_law 4 ⟨RL, nm, ds⟩ 12) {L : Nat} {xs : Nat → Int32} (hL : L ≤ 3072) (hsc : xSc γ L xs) {i : Nat} (hi : 6 * i + 6 ≤ L) {D : xD} {r : xR} {B : Int} (hJ : JI D r B) (hB : B + 4100000 ≤ 2100000000) (h50 : 50000 ≤ B)
    (kont : ∀ D2 r2, JI D2 r2 (B + 4100000) → xV γ 903 [some (.ref 0), some (.ref 4), some (.ref 351), some (vi ((6 * i : Nat) : Int))] [] (356, 8410) D2 r2) : xV γ 436 [some (.ref 0), some (.ref 4), some (.ref 351), some (vi ((6 * i : Nat) : Int))] [] (356, 8410) D r := by
  obtain ⟨np, n, s, π, q, hJX⟩ := hJ
  obtain ⟨ee, P, hM, hN⟩ := j_ofProduct (z := 8410) hJX hB (xs (6 * i + 1)).toInt (xs (6 * i + 2)).toInt (x32 _) (x32 _)
  refine v_aload_n (q := 437) hX dL_law_436 rfl rfl rfl ?_
  refine v_aload_n (q := 438) hX dL_law_437 rfl rfl rfl ?_
  refine v_iload_n (q := 439) hX dL_law_438 rfl rfl rfl ?_
  refine v_iconst (q := 440) hX dL_law_439 rfl ?_
  refine v_iadd (q := 441) hX dL_law_440 rfl ?_
  refine v_scld (q := 442) (kk := 6 * i + 1) hX hsc (by omega) (by omega) (by omega) dL_law_441 rfl ?_
  refine v_aload_n (q := 443) hX dL_law_442 rfl rfl rfl ?_
  refine v_iload_n (q := 444) hX dL_law_443 rfl rfl rfl ?_
  refine v_iconst (q := 445) hX dL_law_444 rfl ?_
  refine v_iadd (q := 446) hX dL_law_445 rfl ?_
  refine v_scld (q := 447) (kk := 6 * i + 2) hX hsc (by omega) (by omega) (by omega) dL_law_446 rfl ?_
  refine v_callV (q := 450) hX hM rfl kV_X4_ofProduct rfl (by decide) lk_L_50 (by decide) rfl rfl (by decide) (by decide) (Nat.le_of_ble_eq_true rfl) dL_law_447 rfl (fun v D1 r1 h1_ => ?_)
  obtain ⟨rfl, P2, hM2, hN2⟩ := hN v D1 r1 h1_
  simp only [Option.toList, List.cons_append, List.nil_append]
  refine v_aload_n (q := 451) hX dL_law_450 rfl rfl rfl ?_
  refine v_aload_n (q := 452) hX dL_law_451 rfl rfl rfl ?_
  refine v_iload_n (q := 453) hX dL_law_452 rfl rfl rfl ?_
  refine v_iconst (q := 454) hX dL_law_453 rfl ?_
  refine v_iadd (q := 455) hX dL_law_454 rfl ?_
  refine v_scld (q := 456) (kk := 6 * i + 1) hX hsc (by omega) (by omega) (by omega) dL_law_455 rfl ?_
  refine v_aload_n (q := 457) hX dL_law_456 rfl rfl rfl ?_
  refine v_iload_n (q := 458) hX dL_law_457 rfl rfl rfl ?_
  refine v_iconst (q := 459) hX dL_law_458 rfl ?_
  refine v_iadd (q := 460) hX dL_law_459 rfl ?_
  refine v_scld (q := 461) (kk := 6 * i + 2) hX hsc (by omega) (by omega) (by omega) dL_law_460 rfl ?_
  refine v_callV (q := 464) hX hM2 rfl kV_X5_ofProduct rfl (by decide) lk_L_53 (by decide) rfl rfl (by decide) (by decide) (Nat.le_of_ble_eq_true rfl) dL_law_461 rfl (fun v2 D2 r2 h2_ => ?_)
  obtain ⟨rfl, hJ2⟩ := hN2 v2 D2 r2 h2_
  simp only [Option.toList, List.cons_append, List.nil_append]
  rw [vi_nm ee]
  refine v_icmp_eq (q := 467) (tgt := 903) hX (x32 _) (x32 _) dL_law_464 (by decide) rfl (fun _ => ?_) (fun hne => absurd rfl hne)
  exact kont D2 r2 hJ2
set_option maxRecDepth 100000 in
set_option maxHeartbeats 4000000 in
theorem law_c9 {γ : xC} {nm ds : String} (hX : xX γ cL_law 4 ⟨RL, nm, ds⟩ 12) {L : Nat} {xs : Nat → Int32} (hL : L ≤ 3072) (hsc : xSc γ L xs) {i : Nat} (hi : 6 * i + 6 ≤ L) {D : xD} {r : xR} {B : Int} (hJ : JI D r B) (hB : B + 4100000 ≤ 2100000000) (h50 : 50000 ≤ B)
    (kont : ∀ D2 r2, JI D2 r2 (B + 4100000) → xV γ 903 [some (.ref 0), some (.ref 4), some (.ref 351), some (vi ((6 * i : Nat) : Int))] [] (356, 8410) D2 r2) : xV γ 469 [some (.ref 0), some (.ref 4), some (.ref 351), some (vi ((6 * i : Nat) : Int))] [] (356, 8410) D r := by
  obtain ⟨np, n, s, π, q, hJX⟩ := hJ
  obtain ⟨ee, P, hM, hN⟩ := j_at (z := 8410) hJX hB (xs (6 * i + 1)).toInt (xs (6 * i + 2)).toInt (xs (6 * i + 3)).toInt (x32 _) (x32 _) (x32 _)
  refine v_aload_n (q := 470) hX dL_law_469 rfl rfl rfl ?_
  refine v_aload_n (q := 471) hX dL_law_470 rfl rfl rfl ?_
  refine v_iload_n (q := 472) hX dL_law_471 rfl rfl rfl ?_
  refine v_iconst (q := 473) hX dL_law_472 rfl ?_
  refine v_iadd (q := 474) hX dL_law_473 rfl ?_
  refine v_scld (q := 475) (kk := 6 * i + 1) hX hsc (by omega) (by omega) (by omega) dL_law_474 rfl ?_
  refine v_aload_n (q := 476) hX dL_law_475 rfl rfl rfl ?_
  refine v_iload_n (q := 477) hX dL_law_476 rfl rfl rfl ?_
  refine v_iconst (q := 478) hX dL_law_477 rfl ?_
  refine v_iadd (q := 479) hX dL_law_478 rfl ?_
  refine v_scld (q := 480) (kk := 6 * i + 2) hX hsc (by omega) (by omega) (by omega) dL_law_479 rfl ?_
  refine v_aload_n (q := 481) hX dL_law_480 rfl rfl rfl ?_
  refine v_iload_n (q := 482) hX dL_law_481 rfl rfl rfl ?_
  refine v_iconst (q := 483) hX dL_law_482 rfl ?_
  refine v_iadd (q := 484) hX dL_law_483 rfl ?_
  refine v_scld (q := 485) (kk := 6 * i + 3) hX hsc (by omega) (by omega) (by omega) dL_law_484 rfl ?_
  refine v_callV (q := 488) hX hM rfl kV_X4_at rfl (by decide) lk_L_54 (by decide) rfl rfl (by decide) (by decide) (Nat.le_of_ble_eq_true rfl) dL_law_485 rfl (fun v D1 r1 h1_ => ?_)
  obtain ⟨rfl, P2, hM2, hN2⟩ := hN v D1 r1 h1_
  simp only [Option.toList, List.cons_append, List.nil_append]
  refine v_aload_n (q := 489) hX dL_law_488 rfl rfl rfl ?_
  refine v_aload_n (q := 490) hX dL_law_489 rfl rfl rfl ?_
  refine v_iload_n (q := 491) hX dL_law_490 rfl rfl rfl ?_
  refine v_iconst (q := 492) hX dL_law_491 rfl ?_
  refine v_iadd (q := 493) hX dL_law_492 rfl ?_
  refine v_scld (q := 494) (kk := 6 * i + 1) hX hsc (by omega) (by omega) (by omega) dL_law_493 rfl ?_
  refine v_aload_n (q := 495) hX dL_law_494 rfl rfl rfl ?_
  refine v_iload_n (q := 496) hX dL_law_495 rfl rfl rfl ?_
  refine v_iconst (q := 497) hX dL_law_496 rfl ?_
  refine v_iadd (q := 498) hX dL_law_497 rfl ?_
  refine v_scld (q := 499) (kk := 6 * i + 2) hX hsc (by omega) (by omega) (by omega) dL_law_498 rfl ?_
  refine v_aload_n (q := 500) hX dL_law_499 rfl rfl rfl ?_
  refine v_iload_n (q := 501) hX dL_law_500 rfl rfl rfl ?_
  refine v_iconst (q := 502) hX dL_law_501 rfl ?_
  refine v_iadd (q := 503) hX dL_law_502 rfl ?_
  refine v_scld (q := 504) (kk := 6 * i + 3) hX hsc (by omega) (by omega) (by omega) dL_law_503 rfl ?_
  refine v_callV (q := 507) hX hM2 rfl kV_X5_at rfl (by decide) lk_L_57 (by decide) rfl rfl (by decide) (by decide) (Nat.le_of_ble_eq_true rfl) dL_law_504 rfl (fun v2 D2 r2 h2_ => ?_)
  obtain ⟨rfl, hJ2⟩ := hN2 v2 D2 r2 h2_
  simp only [Option.toList, List.cons_append, List.nil_append]
  rw [vi_nm ee]
  refine v_icmp_eq (q := 510) (tgt := 903) hX (x32 _) (x32 _) dL_law_507 (by decide) rfl (fun _ => ?_) (fun hne => absurd rfl hne)
  exact kont D2 r2 hJ2
set_option maxRecDepth 100000 in
set_option maxHeartbeats 4000000 in
theorem law_c10 {γ : xC} {nm ds : String} (hX : xX γ cL_law 4 ⟨RL, nm, ds⟩ 12) {L : Nat} {xs : Nat → Int32} (hL : L ≤ 3072) (hsc : xSc γ L xs) {i : Nat} (hi : 6 * i + 6 ≤ L) {D : xD} {r : xR} {B : Int} (hJ : JI D r B) (hB : B + 4100000 ≤ 2100000000) (h50 : 50000 ≤ B)
    (kont : ∀ D2 r2, JI D2 r2 (B + 4100000) → xV γ 903 [some (.ref 0), some (.ref 4), some (.ref 351), some (vi ((6 * i : Nat) : Int))] [] (356, 8410) D2 r2) : xV γ 512 [some (.ref 0), some (.ref 4), some (.ref 351), some (vi ((6 * i : Nat) : Int))] [] (356, 8410) D r := by
  obtain ⟨np, n, s, π, q, hJX⟩ := hJ
  obtain ⟨ee, P, hM, hN⟩ := j_projection (z := 8410) hJX hB (xs (6 * i + 1)).toInt (xs (6 * i + 2)).toInt (x32 _) (x32 _)
  refine v_aload_n (q := 513) hX dL_law_512 rfl rfl rfl ?_
  refine v_aload_n (q := 514) hX dL_law_513 rfl rfl rfl ?_
  refine v_iload_n (q := 515) hX dL_law_514 rfl rfl rfl ?_
  refine v_iconst (q := 516) hX dL_law_515 rfl ?_
  refine v_iadd (q := 517) hX dL_law_516 rfl ?_
  refine v_scld (q := 518) (kk := 6 * i + 1) hX hsc (by omega) (by omega) (by omega) dL_law_517 rfl ?_
  refine v_aload_n (q := 519) hX dL_law_518 rfl rfl rfl ?_
  refine v_iload_n (q := 520) hX dL_law_519 rfl rfl rfl ?_
  refine v_iconst (q := 521) hX dL_law_520 rfl ?_
  refine v_iadd (q := 522) hX dL_law_521 rfl ?_
  refine v_scld (q := 523) (kk := 6 * i + 2) hX hsc (by omega) (by omega) (by omega) dL_law_522 rfl ?_
  refine v_callV (q := 526) hX hM rfl kV_X4_projection rfl (by decide) lk_L_58 (by decide) rfl rfl (by decide) (by decide) (Nat.le_of_ble_eq_true rfl) dL_law_523 rfl (fun v D1 r1 h1_ => ?_)
  obtain ⟨rfl, P2, hM2, hN2⟩ := hN v D1 r1 h1_
  simp only [Option.toList, List.cons_append, List.nil_append]
  refine v_aload_n (q := 527) hX dL_law_526 rfl rfl rfl ?_
  refine v_aload_n (q := 528) hX dL_law_527 rfl rfl rfl ?_
  refine v_iload_n (q := 529) hX dL_law_528 rfl rfl rfl ?_
  refine v_iconst (q := 530) hX dL_law_529 rfl ?_
  refine v_iadd (q := 531) hX dL_law_530 rfl ?_
  refine v_scld (q := 532) (kk := 6 * i + 1) hX hsc (by omega) (by omega) (by omega) dL_law_531 rfl ?_
  refine v_aload_n (q := 533) hX dL_law_532 rfl rfl rfl ?_
  refine v_iload_n (q := 534) hX dL_law_533 rfl rfl rfl ?_
  refine v_iconst (q := 535) hX dL_law_534 rfl ?_
  refine v_iadd (q := 536) hX dL_law_535 rfl ?_
  refine v_scld (q := 537) (kk := 6 * i + 2) hX hsc (by omega) (by omega) (by omega) dL_law_536 rfl ?_
  refine v_callV (q := 540) hX hM2 rfl kV_X5_projection rfl (by decide) lk_L_62 (by decide) rfl rfl (by decide) (by decide) (Nat.le_of_ble_eq_true rfl) dL_law_537 rfl (fun v2 D2 r2 h2_ => ?_)
  obtain ⟨rfl, hJ2⟩ := hN2 v2 D2 r2 h2_
  simp only [Option.toList, List.cons_append, List.nil_append]
  rw [vl_nm ee]
  refine v_lcmp_eq (q := 544) (tgt := 903) hX (x64 _) (x64 _) dL_law_540 dL_law_541 (by decide) rfl (fun _ => ?_) (fun hne => absurd rfl hne)
  exact kont D2 r2 hJ2
set_option maxRecDepth 100000 in
set_option maxHeartbeats 4000000 in
theorem law_c11 {γ : xC} {nm ds : String} (hX : xX γ cL_law 4 ⟨RL, nm, ds⟩ 12) {L : Nat} {xs : Nat → Int32} (hL : L ≤ 3072) (hsc : xSc γ L xs) {i : Nat} (hi : 6 * i + 6 ≤ L) {D : xD} {r : xR} {B : Int} (hJ : JI D r B) (hB : B + 4100000 ≤ 2100000000) (h50 : 50000 ≤ B)
    (kont : ∀ D2 r2, JI D2 r2 (B + 4100000) → xV γ 903 [some (.ref 0), some (.ref 4), some (.ref 351), some (vi ((6 * i : Nat) : Int))] [] (356, 8410) D2 r2) : xV γ 546 [some (.ref 0), some (.ref 4), some (.ref 351), some (vi ((6 * i : Nat) : Int))] [] (356, 8410) D r := by
  obtain ⟨np, n, s, π, q, hJX⟩ := hJ
  obtain ⟨ee, P, hM, hN⟩ := j_ofWeek (z := 8410) hJX hB (xs (6 * i + 1)).toInt (xs (6 * i + 2)).toInt (x32 _) (x32 _)
  refine v_aload_n (q := 547) hX dL_law_546 rfl rfl rfl ?_
  refine v_aload_n (q := 548) hX dL_law_547 rfl rfl rfl ?_
  refine v_iload_n (q := 549) hX dL_law_548 rfl rfl rfl ?_
  refine v_iconst (q := 550) hX dL_law_549 rfl ?_
  refine v_iadd (q := 551) hX dL_law_550 rfl ?_
  refine v_scld (q := 552) (kk := 6 * i + 1) hX hsc (by omega) (by omega) (by omega) dL_law_551 rfl ?_
  refine v_aload_n (q := 553) hX dL_law_552 rfl rfl rfl ?_
  refine v_iload_n (q := 554) hX dL_law_553 rfl rfl rfl ?_
  refine v_iconst (q := 555) hX dL_law_554 rfl ?_
  refine v_iadd (q := 556) hX dL_law_555 rfl ?_
  refine v_scld (q := 557) (kk := 6 * i + 2) hX hsc (by omega) (by omega) (by omega) dL_law_556 rfl ?_
  refine v_callV (q := 560) hX hM rfl kV_X4_ofWeek rfl (by decide) lk_L_63 (by decide) rfl rfl (by decide) (by decide) (Nat.le_of_ble_eq_true rfl) dL_law_557 rfl (fun v D1 r1 h1_ => ?_)
  obtain ⟨rfl, P2, hM2, hN2⟩ := hN v D1 r1 h1_
  simp only [Option.toList, List.cons_append, List.nil_append]
  refine v_aload_n (q := 561) hX dL_law_560 rfl rfl rfl ?_
  refine v_aload_n (q := 562) hX dL_law_561 rfl rfl rfl ?_
  refine v_iload_n (q := 563) hX dL_law_562 rfl rfl rfl ?_
  refine v_iconst (q := 564) hX dL_law_563 rfl ?_
  refine v_iadd (q := 565) hX dL_law_564 rfl ?_
  refine v_scld (q := 566) (kk := 6 * i + 1) hX hsc (by omega) (by omega) (by omega) dL_law_565 rfl ?_
  refine v_aload_n (q := 567) hX dL_law_566 rfl rfl rfl ?_
  refine v_iload_n (q := 568) hX dL_law_567 rfl rfl rfl ?_
  refine v_iconst (q := 569) hX dL_law_568 rfl ?_
  refine v_iadd (q := 570) hX dL_law_569 rfl ?_
  refine v_scld (q := 571) (kk := 6 * i + 2) hX hsc (by omega) (by omega) (by omega) dL_law_570 rfl ?_
  refine v_callV (q := 574) hX hM2 rfl kV_X5_ofWeek rfl (by decide) lk_L_66 (by decide) rfl rfl (by decide) (by decide) (Nat.le_of_ble_eq_true rfl) dL_law_571 rfl (fun v2 D2 r2 h2_ => ?_)
  obtain ⟨rfl, hJ2⟩ := hN2 v2 D2 r2 h2_
  simp only [Option.toList, List.cons_append, List.nil_append]
  rw [vi_nm ee]
  refine v_icmp_eq (q := 577) (tgt := 903) hX (x32 _) (x32 _) dL_law_574 (by decide) rfl (fun _ => ?_) (fun hne => absurd rfl hne)
  exact kont D2 r2 hJ2
set_option maxRecDepth 100000 in
set_option maxHeartbeats 4000000 in
theorem law_c12 {γ : xC} {nm ds : String} (hX : xX γ cL_law 4 ⟨RL, nm, ds⟩ 12) {L : Nat} {xs : Nat → Int32} (hL : L ≤ 3072) (hsc : xSc γ L xs) {i : Nat} (hi : 6 * i + 6 ≤ L) {D : xD} {r : xR} {B : Int} (hJ : JI D r B) (hB : B + 4100000 ≤ 2100000000) (h50 : 50000 ≤ B)
    (kont : ∀ D2 r2, JI D2 r2 (B + 4100000) → xV γ 903 [some (.ref 0), some (.ref 4), some (.ref 351), some (vi ((6 * i : Nat) : Int))] [] (356, 8410) D2 r2) : xV γ 579 [some (.ref 0), some (.ref 4), some (.ref 351), some (vi ((6 * i : Nat) : Int))] [] (356, 8410) D r := by
  obtain ⟨np, n, s, π, q, hJX⟩ := hJ
  obtain ⟨ee, P, hM, hN⟩ := j_count (z := 8410) hJX hB (xs (6 * i + 1)).toInt (x32 _)
  refine v_aload_n (q := 580) hX dL_law_579 rfl rfl rfl ?_
  refine v_aload_n (q := 581) hX dL_law_580 rfl rfl rfl ?_
  refine v_iload_n (q := 582) hX dL_law_581 rfl rfl rfl ?_
  refine v_iconst (q := 583) hX dL_law_582 rfl ?_
  refine v_iadd (q := 584) hX dL_law_583 rfl ?_
  refine v_scld (q := 585) (kk := 6 * i + 1) hX hsc (by omega) (by omega) (by omega) dL_law_584 rfl ?_
  refine v_callV (q := 588) hX hM rfl kV_X4_count rfl (by decide) lk_L_67 (by decide) rfl rfl (by decide) (by decide) (Nat.le_of_ble_eq_true rfl) dL_law_585 rfl (fun v D1 r1 h1_ => ?_)
  obtain ⟨rfl, P2, hM2, hN2⟩ := hN v D1 r1 h1_
  simp only [Option.toList, List.cons_append, List.nil_append]
  refine v_aload_n (q := 589) hX dL_law_588 rfl rfl rfl ?_
  refine v_aload_n (q := 590) hX dL_law_589 rfl rfl rfl ?_
  refine v_iload_n (q := 591) hX dL_law_590 rfl rfl rfl ?_
  refine v_iconst (q := 592) hX dL_law_591 rfl ?_
  refine v_iadd (q := 593) hX dL_law_592 rfl ?_
  refine v_scld (q := 594) (kk := 6 * i + 1) hX hsc (by omega) (by omega) (by omega) dL_law_593 rfl ?_
  refine v_callV (q := 597) hX hM2 rfl kV_X5_count rfl (by decide) lk_L_71 (by decide) rfl rfl (by decide) (by decide) (Nat.le_of_ble_eq_true rfl) dL_law_594 rfl (fun v2 D2 r2 h2_ => ?_)
  obtain ⟨rfl, hJ2⟩ := hN2 v2 D2 r2 h2_
  simp only [Option.toList, List.cons_append, List.nil_append]
  rw [vl_nm ee]
  refine v_lcmp_eq (q := 601) (tgt := 903) hX (x64 _) (x64 _) dL_law_597 dL_law_598 (by decide) rfl (fun _ => ?_) (fun hne => absurd rfl hne)
  exact kont D2 r2 hJ2
set_option maxRecDepth 100000 in
set_option maxHeartbeats 4000000 in
theorem law_c13 {γ : xC} {nm ds : String} (hX : xX γ cL_law 4 ⟨RL, nm, ds⟩ 12) {L : Nat} {xs : Nat → Int32} (hL : L ≤ 3072) (hsc : xSc γ L xs) {i : Nat} (hi : 6 * i + 6 ≤ L) {D : xD} {r : xR} {B : Int} (hJ : JI D r B) (hB : B + 4100000 ≤ 2100000000) (h50 : 50000 ≤ B)
    (kont : ∀ D2 r2, JI D2 r2 (B + 4100000) → xV γ 903 [some (.ref 0), some (.ref 4), some (.ref 351), some (vi ((6 * i : Nat) : Int))] [] (356, 8410) D2 r2) : xV γ 603 [some (.ref 0), some (.ref 4), some (.ref 351), some (vi ((6 * i : Nat) : Int))] [] (356, 8410) D r := by
  obtain ⟨np, n, s, π, q, hJX⟩ := hJ
  obtain ⟨ee, P, hM, hN⟩ := j_firstShort (z := 8410) hJX hB (xs (6 * i + 1)).toInt (x32 _)
  refine v_aload_n (q := 604) hX dL_law_603 rfl rfl rfl ?_
  refine v_aload_n (q := 605) hX dL_law_604 rfl rfl rfl ?_
  refine v_iload_n (q := 606) hX dL_law_605 rfl rfl rfl ?_
  refine v_iconst (q := 607) hX dL_law_606 rfl ?_
  refine v_iadd (q := 608) hX dL_law_607 rfl ?_
  refine v_scld (q := 609) (kk := 6 * i + 1) hX hsc (by omega) (by omega) (by omega) dL_law_608 rfl ?_
  refine v_callV (q := 612) hX hM rfl kV_X4_firstShort rfl (by decide) lk_L_72 (by decide) rfl rfl (by decide) (by decide) (Nat.le_of_ble_eq_true rfl) dL_law_609 rfl (fun v D1 r1 h1_ => ?_)
  obtain ⟨rfl, P2, hM2, hN2⟩ := hN v D1 r1 h1_
  simp only [Option.toList, List.cons_append, List.nil_append]
  refine v_aload_n (q := 613) hX dL_law_612 rfl rfl rfl ?_
  refine v_aload_n (q := 614) hX dL_law_613 rfl rfl rfl ?_
  refine v_iload_n (q := 615) hX dL_law_614 rfl rfl rfl ?_
  refine v_iconst (q := 616) hX dL_law_615 rfl ?_
  refine v_iadd (q := 617) hX dL_law_616 rfl ?_
  refine v_scld (q := 618) (kk := 6 * i + 1) hX hsc (by omega) (by omega) (by omega) dL_law_617 rfl ?_
  refine v_callV (q := 621) hX hM2 rfl kV_X5_firstShort rfl (by decide) lk_L_75 (by decide) rfl rfl (by decide) (by decide) (Nat.le_of_ble_eq_true rfl) dL_law_618 rfl (fun v2 D2 r2 h2_ => ?_)
  obtain ⟨rfl, hJ2⟩ := hN2 v2 D2 r2 h2_
  simp only [Option.toList, List.cons_append, List.nil_append]
  rw [vi_nm ee]
  refine v_icmp_eq (q := 624) (tgt := 903) hX (x32 _) (x32 _) dL_law_621 (by decide) rfl (fun _ => ?_) (fun hne => absurd rfl hne)
  exact kont D2 r2 hJ2
set_option maxRecDepth 100000 in
set_option maxHeartbeats 4000000 in
theorem law_c14 {γ : xC} {nm ds : String} (hX : xX γ cL_law 4 ⟨RL, nm, ds⟩ 12) {L : Nat} {xs : Nat → Int32} (hL : L ≤ 3072) (hsc : xSc γ L xs) {i : Nat} (hi : 6 * i + 6 ≤ L) {D : xD} {r : xR} {B : Int} (hJ : JI D r B) (hB : B + 4100000 ≤ 2100000000) (h50 : 50000 ≤ B)
    (kont : ∀ D2 r2, JI D2 r2 (B + 4100000) → xV γ 903 [some (.ref 0), some (.ref 4), some (.ref 351), some (vi ((6 * i : Nat) : Int))] [] (356, 8410) D2 r2) : xV γ 626 [some (.ref 0), some (.ref 4), some (.ref 351), some (vi ((6 * i : Nat) : Int))] [] (356, 8410) D r := by
  obtain ⟨np, n, s, π, q, hJX⟩ := hJ
  obtain ⟨ee, P, hM, hN⟩ := j_lasts (z := 8410) hJX hB (xs (6 * i + 1)).toInt (x32 _)
  refine v_aload_n (q := 627) hX dL_law_626 rfl rfl rfl ?_
  refine v_aload_n (q := 628) hX dL_law_627 rfl rfl rfl ?_
  refine v_iload_n (q := 629) hX dL_law_628 rfl rfl rfl ?_
  refine v_iconst (q := 630) hX dL_law_629 rfl ?_
  refine v_iadd (q := 631) hX dL_law_630 rfl ?_
  refine v_scld (q := 632) (kk := 6 * i + 1) hX hsc (by omega) (by omega) (by omega) dL_law_631 rfl ?_
  refine v_callV (q := 635) hX hM rfl kV_X4_lasts rfl (by decide) lk_L_76 (by decide) rfl rfl (by decide) (by decide) (Nat.le_of_ble_eq_true rfl) dL_law_632 rfl (fun v D1 r1 h1_ => ?_)
  obtain ⟨rfl, P2, hM2, hN2⟩ := hN v D1 r1 h1_
  simp only [Option.toList, List.cons_append, List.nil_append]
  refine v_aload_n (q := 636) hX dL_law_635 rfl rfl rfl ?_
  refine v_aload_n (q := 637) hX dL_law_636 rfl rfl rfl ?_
  refine v_iload_n (q := 638) hX dL_law_637 rfl rfl rfl ?_
  refine v_iconst (q := 639) hX dL_law_638 rfl ?_
  refine v_iadd (q := 640) hX dL_law_639 rfl ?_
  refine v_scld (q := 641) (kk := 6 * i + 1) hX hsc (by omega) (by omega) (by omega) dL_law_640 rfl ?_
  refine v_callV (q := 644) hX hM2 rfl kV_X5_lasts rfl (by decide) lk_L_79 (by decide) rfl rfl (by decide) (by decide) (Nat.le_of_ble_eq_true rfl) dL_law_641 rfl (fun v2 D2 r2 h2_ => ?_)
  obtain ⟨rfl, hJ2⟩ := hN2 v2 D2 r2 h2_
  simp only [Option.toList, List.cons_append, List.nil_append]
  rw [vi_nm ee]
  refine v_icmp_eq (q := 647) (tgt := 903) hX (x32 _) (x32 _) dL_law_644 (by decide) rfl (fun _ => ?_) (fun hne => absurd rfl hne)
  exact kont D2 r2 hJ2
set_option maxRecDepth 100000 in
set_option maxHeartbeats 4000000 in
theorem law_c15 {γ : xC} {nm ds : String} (hX : xX γ cL_law 4 ⟨RL, nm, ds⟩ 12) {L : Nat} {xs : Nat → Int32} (hL : L ≤ 3072) (hsc : xSc γ L xs) {i : Nat} (hi : 6 * i + 6 ≤ L) {D : xD} {r : xR} {B : Int} (hJ : JI D r B) (hB : B + 4100000 ≤ 2100000000) (h50 : 50000 ≤ B)
    (kont : ∀ D2 r2, JI D2 r2 (B + 4100000) → xV γ 903 [some (.ref 0), some (.ref 4), some (.ref 351), some (vi ((6 * i : Nat) : Int))] [] (356, 8410) D2 r2) : xV γ 649 [some (.ref 0), some (.ref 4), some (.ref 351), some (vi ((6 * i : Nat) : Int))] [] (356, 8410) D r := by
  obtain ⟨np, n, s, π, q, hJX⟩ := hJ
  obtain ⟨ee, P, hM, hN⟩ := j_leastHours (z := 8410) hJX hB  
  refine v_aload_n (q := 650) hX dL_law_649 rfl rfl rfl ?_
  refine v_callV (q := 653) hX hM rfl kV_X4_leastHours rfl (by decide) lk_L_80 (by decide) rfl rfl (by decide) (by decide) (Nat.le_of_ble_eq_true rfl) dL_law_650 rfl (fun v D1 r1 h1_ => ?_)
  obtain ⟨rfl, P2, hM2, hN2⟩ := hN v D1 r1 h1_
  simp only [Option.toList, List.cons_append, List.nil_append]
  refine v_aload_n (q := 654) hX dL_law_653 rfl rfl rfl ?_
  refine v_callV (q := 657) hX hM2 rfl kV_X5_leastHours rfl (by decide) lk_L_83 (by decide) rfl rfl (by decide) (by decide) (Nat.le_of_ble_eq_true rfl) dL_law_654 rfl (fun v2 D2 r2 h2_ => ?_)
  obtain ⟨rfl, hJ2⟩ := hN2 v2 D2 r2 h2_
  simp only [Option.toList, List.cons_append, List.nil_append]
  rw [vi_nm ee]
  refine v_icmp_eq (q := 660) (tgt := 903) hX (x32 _) (x32 _) dL_law_657 (by decide) rfl (fun _ => ?_) (fun hne => absurd rfl hne)
  exact kont D2 r2 hJ2
set_option maxRecDepth 100000 in
set_option maxHeartbeats 4000000 in
theorem law_c16 {γ : xC} {nm ds : String} (hX : xX γ cL_law 4 ⟨RL, nm, ds⟩ 12) {L : Nat} {xs : Nat → Int32} (hL : L ≤ 3072) (hsc : xSc γ L xs) {i : Nat} (hi : 6 * i + 6 ≤ L) {D : xD} {r : xR} {B : Int} (hJ : JI D r B) (hB : B + 4100000 ≤ 2100000000) (h50 : 50000 ≤ B)
    (kont : ∀ D2 r2, JI D2 r2 (B + 4100000) → xV γ 903 [some (.ref 0), some (.ref 4), some (.ref 351), some (vi ((6 * i : Nat) : Int))] [] (356, 8410) D2 r2) : xV γ 662 [some (.ref 0), some (.ref 4), some (.ref 351), some (vi ((6 * i : Nat) : Int))] [] (356, 8410) D r := by
  obtain ⟨np, n, s, π, q, hJX⟩ := hJ
  obtain ⟨ee, P, hM, hN⟩ := j_costs (z := 8410) hJX hB (xs (6 * i + 1)).toInt (xs (6 * i + 2)).toInt (x32 _) (x32 _)
  refine v_aload_n (q := 663) hX dL_law_662 rfl rfl rfl ?_
  refine v_aload_n (q := 664) hX dL_law_663 rfl rfl rfl ?_
  refine v_iload_n (q := 665) hX dL_law_664 rfl rfl rfl ?_
  refine v_iconst (q := 666) hX dL_law_665 rfl ?_
  refine v_iadd (q := 667) hX dL_law_666 rfl ?_
  refine v_scld (q := 668) (kk := 6 * i + 1) hX hsc (by omega) (by omega) (by omega) dL_law_667 rfl ?_
  refine v_aload_n (q := 669) hX dL_law_668 rfl rfl rfl ?_
  refine v_iload_n (q := 670) hX dL_law_669 rfl rfl rfl ?_
  refine v_iconst (q := 671) hX dL_law_670 rfl ?_
  refine v_iadd (q := 672) hX dL_law_671 rfl ?_
  refine v_scld (q := 673) (kk := 6 * i + 2) hX hsc (by omega) (by omega) (by omega) dL_law_672 rfl ?_
  refine v_callV (q := 676) hX hM rfl kV_X4_costs rfl (by decide) lk_L_84 (by decide) rfl rfl (by decide) (by decide) (Nat.le_of_ble_eq_true rfl) dL_law_673 rfl (fun v D1 r1 h1_ => ?_)
  obtain ⟨rfl, P2, hM2, hN2⟩ := hN v D1 r1 h1_
  simp only [Option.toList, List.cons_append, List.nil_append]
  refine v_aload_n (q := 677) hX dL_law_676 rfl rfl rfl ?_
  refine v_aload_n (q := 678) hX dL_law_677 rfl rfl rfl ?_
  refine v_iload_n (q := 679) hX dL_law_678 rfl rfl rfl ?_
  refine v_iconst (q := 680) hX dL_law_679 rfl ?_
  refine v_iadd (q := 681) hX dL_law_680 rfl ?_
  refine v_scld (q := 682) (kk := 6 * i + 1) hX hsc (by omega) (by omega) (by omega) dL_law_681 rfl ?_
  refine v_aload_n (q := 683) hX dL_law_682 rfl rfl rfl ?_
  refine v_iload_n (q := 684) hX dL_law_683 rfl rfl rfl ?_
  refine v_iconst (q := 685) hX dL_law_684 rfl ?_
  refine v_iadd (q := 686) hX dL_law_685 rfl ?_
  refine v_scld (q := 687) (kk := 6 * i + 2) hX hsc (by omega) (by omega) (by omega) dL_law_686 rfl ?_
  refine v_callV (q := 690) hX hM2 rfl kV_X5_costs rfl (by decide) lk_L_87 (by decide) rfl rfl (by decide) (by decide) (Nat.le_of_ble_eq_true rfl) dL_law_687 rfl (fun v2 D2 r2 h2_ => ?_)
  obtain ⟨rfl, hJ2⟩ := hN2 v2 D2 r2 h2_
  simp only [Option.toList, List.cons_append, List.nil_append]
  rw [vl_nm ee]
  refine v_lcmp_eq (q := 694) (tgt := 903) hX (x64 _) (x64 _) dL_law_690 dL_law_691 (by decide) rfl (fun _ => ?_) (fun hne => absurd rfl hne)
  exact kont D2 r2 hJ2
set_option maxRecDepth 100000 in
set_option maxHeartbeats 4000000 in
theorem law_c17 {γ : xC} {nm ds : String} (hX : xX γ cL_law 4 ⟨RL, nm, ds⟩ 12) {L : Nat} {xs : Nat → Int32} (hL : L ≤ 3072) (hsc : xSc γ L xs) {i : Nat} (hi : 6 * i + 6 ≤ L) {D : xD} {r : xR} {B : Int} (hJ : JI D r B) (hB : B + 4100000 ≤ 2100000000) (h50 : 50000 ≤ B)
    (kont : ∀ D2 r2, JI D2 r2 (B + 4100000) → xV γ 903 [some (.ref 0), some (.ref 4), some (.ref 351), some (vi ((6 * i : Nat) : Int))] [] (356, 8410) D2 r2) : xV γ 696 [some (.ref 0), some (.ref 4), some (.ref 351), some (vi ((6 * i : Nat) : Int))] [] (356, 8410) D r := by
  obtain ⟨np, n, s, π, q, hJX⟩ := hJ
  obtain ⟨ee, P, hM, hN⟩ := j_bestFence (z := 8410) hJX hB (xs (6 * i + 1)).toInt (x32 _)
  refine v_aload_n (q := 697) hX dL_law_696 rfl rfl rfl ?_
  refine v_aload_n (q := 698) hX dL_law_697 rfl rfl rfl ?_
  refine v_iload_n (q := 699) hX dL_law_698 rfl rfl rfl ?_
  refine v_iconst (q := 700) hX dL_law_699 rfl ?_
  refine v_iadd (q := 701) hX dL_law_700 rfl ?_
  refine v_scld (q := 702) (kk := 6 * i + 1) hX hsc (by omega) (by omega) (by omega) dL_law_701 rfl ?_
  refine v_callV (q := 705) hX hM rfl kV_X4_bestFence rfl (by decide) lk_L_88 (by decide) rfl rfl (by decide) (by decide) (Nat.le_of_ble_eq_true rfl) dL_law_702 rfl (fun v D1 r1 h1_ => ?_)
  obtain ⟨rfl, P2, hM2, hN2⟩ := hN v D1 r1 h1_
  simp only [Option.toList, List.cons_append, List.nil_append]
  refine v_aload_n (q := 706) hX dL_law_705 rfl rfl rfl ?_
  refine v_aload_n (q := 707) hX dL_law_706 rfl rfl rfl ?_
  refine v_iload_n (q := 708) hX dL_law_707 rfl rfl rfl ?_
  refine v_iconst (q := 709) hX dL_law_708 rfl ?_
  refine v_iadd (q := 710) hX dL_law_709 rfl ?_
  refine v_scld (q := 711) (kk := 6 * i + 1) hX hsc (by omega) (by omega) (by omega) dL_law_710 rfl ?_
  refine v_callV (q := 714) hX hM2 rfl kV_X5_bestFence rfl (by decide) lk_L_91 (by decide) rfl rfl (by decide) (by decide) (Nat.le_of_ble_eq_true rfl) dL_law_711 rfl (fun v2 D2 r2 h2_ => ?_)
  obtain ⟨rfl, hJ2⟩ := hN2 v2 D2 r2 h2_
  simp only [Option.toList, List.cons_append, List.nil_append]
  rw [vi_nm ee]
  refine v_icmp_eq (q := 717) (tgt := 903) hX (x32 _) (x32 _) dL_law_714 (by decide) rfl (fun _ => ?_) (fun hne => absurd rfl hne)
  exact kont D2 r2 hJ2
set_option maxRecDepth 100000 in
set_option maxHeartbeats 4000000 in
theorem law_c18 {γ : xC} {nm ds : String} (hX : xX γ cL_law 4 ⟨RL, nm, ds⟩ 12) {L : Nat} {xs : Nat → Int32} (hL : L ≤ 3072) (hsc : xSc γ L xs) {i : Nat} (hi : 6 * i + 6 ≤ L) {D : xD} {r : xR} {B : Int} (hJ : JI D r B) (hB : B + 4100000 ≤ 2100000000) (h50 : 50000 ≤ B)
    (kont : ∀ D2 r2, JI D2 r2 (B + 4100000) → xV γ 903 [some (.ref 0), some (.ref 4), some (.ref 351), some (vi ((6 * i : Nat) : Int))] [] (356, 8410) D2 r2) : xV γ 719 [some (.ref 0), some (.ref 4), some (.ref 351), some (vi ((6 * i : Nat) : Int))] [] (356, 8410) D r := by
  obtain ⟨np, n, s, π, q, hJX⟩ := hJ
  obtain ⟨ee, P, hM, hN⟩ := j_roomFor (z := 8410) hJX hB (xs (6 * i + 1)).toInt (xs (6 * i + 2)).toInt (x32 _) (x32 _)
  refine v_aload_n (q := 720) hX dL_law_719 rfl rfl rfl ?_
  refine v_aload_n (q := 721) hX dL_law_720 rfl rfl rfl ?_
  refine v_iload_n (q := 722) hX dL_law_721 rfl rfl rfl ?_
  refine v_iconst (q := 723) hX dL_law_722 rfl ?_
  refine v_iadd (q := 724) hX dL_law_723 rfl ?_
  refine v_scld (q := 725) (kk := 6 * i + 1) hX hsc (by omega) (by omega) (by omega) dL_law_724 rfl ?_
  refine v_aload_n (q := 726) hX dL_law_725 rfl rfl rfl ?_
  refine v_iload_n (q := 727) hX dL_law_726 rfl rfl rfl ?_
  refine v_iconst (q := 728) hX dL_law_727 rfl ?_
  refine v_iadd (q := 729) hX dL_law_728 rfl ?_
  refine v_scld (q := 730) (kk := 6 * i + 2) hX hsc (by omega) (by omega) (by omega) dL_law_729 rfl ?_
  refine v_callV (q := 733) hX hM rfl kV_X4_roomFor rfl (by decide) lk_L_92 (by decide) rfl rfl (by decide) (by decide) (Nat.le_of_ble_eq_true rfl) dL_law_730 rfl (fun v D1 r1 h1_ => ?_)
  obtain ⟨rfl, P2, hM2, hN2⟩ := hN v D1 r1 h1_
  simp only [Option.toList, List.cons_append, List.nil_append]
  refine v_aload_n (q := 734) hX dL_law_733 rfl rfl rfl ?_
  refine v_aload_n (q := 735) hX dL_law_734 rfl rfl rfl ?_
  refine v_iload_n (q := 736) hX dL_law_735 rfl rfl rfl ?_
  refine v_iconst (q := 737) hX dL_law_736 rfl ?_
  refine v_iadd (q := 738) hX dL_law_737 rfl ?_
  refine v_scld (q := 739) (kk := 6 * i + 1) hX hsc (by omega) (by omega) (by omega) dL_law_738 rfl ?_
  refine v_aload_n (q := 740) hX dL_law_739 rfl rfl rfl ?_
  refine v_iload_n (q := 741) hX dL_law_740 rfl rfl rfl ?_
  refine v_iconst (q := 742) hX dL_law_741 rfl ?_
  refine v_iadd (q := 743) hX dL_law_742 rfl ?_
  refine v_scld (q := 744) (kk := 6 * i + 2) hX hsc (by omega) (by omega) (by omega) dL_law_743 rfl ?_
  refine v_callV (q := 747) hX hM2 rfl kV_X5_roomFor rfl (by decide) lk_L_95 (by decide) rfl rfl (by decide) (by decide) (Nat.le_of_ble_eq_true rfl) dL_law_744 rfl (fun v2 D2 r2 h2_ => ?_)
  obtain ⟨rfl, hJ2⟩ := hN2 v2 D2 r2 h2_
  simp only [Option.toList, List.cons_append, List.nil_append]
  rw [vi_nm ee]
  refine v_icmp_eq (q := 750) (tgt := 903) hX (x32 _) (x32 _) dL_law_747 (by decide) rfl (fun _ => ?_) (fun hne => absurd rfl hne)
  exact kont D2 r2 hJ2
set_option maxRecDepth 100000 in
set_option maxHeartbeats 4000000 in
theorem law_c19 {γ : xC} {nm ds : String} (hX : xX γ cL_law 4 ⟨RL, nm, ds⟩ 12) {L : Nat} {xs : Nat → Int32} (hL : L ≤ 3072) (hsc : xSc γ L xs) {i : Nat} (hi : 6 * i + 6 ≤ L) {D : xD} {r : xR} {B : Int} (hJ : JI D r B) (hB : B + 4100000 ≤ 2100000000) (h50 : 50000 ≤ B)
    (kont : ∀ D2 r2, JI D2 r2 (B + 4100000) → xV γ 903 [some (.ref 0), some (.ref 4), some (.ref 351), some (vi ((6 * i : Nat) : Int))] [] (356, 8410) D2 r2) : xV γ 752 [some (.ref 0), some (.ref 4), some (.ref 351), some (vi ((6 * i : Nat) : Int))] [] (356, 8410) D r := by
  obtain ⟨c1, hc1⟩ : ∃ c1 : Int, Int64.ofInt (xs (6 * i + 1)).toInt <<< ((Int32.ofInt 32).toInt64 &&& 63) = Int64.ofInt c1 := ⟨_, (Int64.ofInt_toInt _).symm⟩
  obtain ⟨c2, hc2⟩ : ∃ c2 : Int, Int64.ofInt (xs (6 * i + 2)).toInt &&& Int64.ofInt 4294967295 = Int64.ofInt c2 := ⟨_, (Int64.ofInt_toInt _).symm⟩
  obtain ⟨c3, hc3, hc3J⟩ : ∃ c3 : Int, Int64.ofInt c1 ||| Int64.ofInt c2 = Int64.ofInt c3 ∧ xJ c3 := ⟨_, (Int64.ofInt_toInt _).symm, x64 _⟩
  obtain ⟨np, n, s, π, q, hJX⟩ := hJ
  obtain ⟨ee, P, hM, hN⟩ := j_put (z := 8410) hJX hB c3 hc3J
  refine v_aload_n (q := 753) hX dL_law_752 rfl rfl rfl ?_
  refine v_aload_n (q := 754) hX dL_law_753 rfl rfl rfl ?_
  refine v_iload_n (q := 755) hX dL_law_754 rfl rfl rfl ?_
  refine v_iconst (q := 756) hX dL_law_755 rfl ?_
  refine v_iadd (q := 757) hX dL_law_756 rfl ?_
  refine v_scld (q := 758) (kk := 6 * i + 1) hX hsc (by omega) (by omega) (by omega) dL_law_757 rfl ?_
  refine v_i2l (q := 759) hX (x32 _) dL_law_758 rfl ?_
  refine v_bipush (q := 761) hX (by decide) dL_law_759 rfl ?_
  refine v_lshl (q := 762) hX c1 hc1 dL_law_761 rfl ?_
  refine v_aload_n (q := 763) hX dL_law_762 rfl rfl rfl ?_
  refine v_iload_n (q := 764) hX dL_law_763 rfl rfl rfl ?_
  refine v_iconst (q := 765) hX dL_law_764 rfl ?_
  refine v_iadd (q := 766) hX dL_law_765 rfl ?_
  refine v_scld (q := 767) (kk := 6 * i + 2) hX hsc (by omega) (by omega) (by omega) dL_law_766 rfl ?_
  refine v_i2l (q := 768) hX (x32 _) dL_law_767 rfl ?_
  refine v_ldc2 (q := 771) (e := 4294967295) hX (by decide) kl_L_96 dL_law_768 rfl ?_
  refine v_land (q := 772) hX c2 hc2 dL_law_771 rfl ?_
  refine v_lor (q := 773) hX c3 hc3 dL_law_772 rfl ?_
  refine v_callV (q := 776) hX hM rfl kV_X4_put rfl (by decide) lk_L_98 (by decide) rfl rfl (by decide) (by decide) (Nat.le_of_ble_eq_true rfl) dL_law_773 rfl (fun v D1 r1 h1_ => ?_)
  obtain ⟨rfl, P2, hM2, hN2⟩ := hN v D1 r1 h1_
  simp only [Option.toList, List.cons_append, List.nil_append]
  refine v_aload_n (q := 777) hX dL_law_776 rfl rfl rfl ?_
  refine v_aload_n (q := 778) hX dL_law_777 rfl rfl rfl ?_
  refine v_iload_n (q := 779) hX dL_law_778 rfl rfl rfl ?_
  refine v_iconst (q := 780) hX dL_law_779 rfl ?_
  refine v_iadd (q := 781) hX dL_law_780 rfl ?_
  refine v_scld (q := 782) (kk := 6 * i + 1) hX hsc (by omega) (by omega) (by omega) dL_law_781 rfl ?_
  refine v_i2l (q := 783) hX (x32 _) dL_law_782 rfl ?_
  refine v_bipush (q := 785) hX (by decide) dL_law_783 rfl ?_
  refine v_lshl (q := 786) hX c1 hc1 dL_law_785 rfl ?_
  refine v_aload_n (q := 787) hX dL_law_786 rfl rfl rfl ?_
  refine v_iload_n (q := 788) hX dL_law_787 rfl rfl rfl ?_
  refine v_iconst (q := 789) hX dL_law_788 rfl ?_
  refine v_iadd (q := 790) hX dL_law_789 rfl ?_
  refine v_scld (q := 791) (kk := 6 * i + 2) hX hsc (by omega) (by omega) (by omega) dL_law_790 rfl ?_
  refine v_i2l (q := 792) hX (x32 _) dL_law_791 rfl ?_
  refine v_ldc2 (q := 795) (e := 4294967295) hX (by decide) kl_L_96 dL_law_792 rfl ?_
  refine v_land (q := 796) hX c2 hc2 dL_law_795 rfl ?_
  refine v_lor (q := 797) hX c3 hc3 dL_law_796 rfl ?_
  refine v_callV (q := 800) hX hM2 rfl kV_X5_put rfl (by decide) lk_L_102 (by decide) rfl rfl (by decide) (by decide) (Nat.le_of_ble_eq_true rfl) dL_law_797 rfl (fun v2 D2 r2 h2_ => ?_)
  obtain ⟨rfl, hJ2⟩ := hN2 v2 D2 r2 h2_
  simp only [Option.toList, List.cons_append, List.nil_append]
  rw [vi_nm ee]
  refine v_icmp_eq (q := 803) (tgt := 903) hX (x32 _) (x32 _) dL_law_800 (by decide) rfl (fun _ => ?_) (fun hne => absurd rfl hne)
  exact kont D2 r2 hJ2
set_option maxRecDepth 100000 in
set_option maxHeartbeats 4000000 in
theorem law_c20 {γ : xC} {nm ds : String} (hX : xX γ cL_law 4 ⟨RL, nm, ds⟩ 12) {L : Nat} {xs : Nat → Int32} (hL : L ≤ 3072) (hsc : xSc γ L xs) {i : Nat} (hi : 6 * i + 6 ≤ L) {D : xD} {r : xR} {B : Int} (hJ : JI D r B) (hB : B + 4100000 ≤ 2100000000) (h50 : 50000 ≤ B)
    (kont : ∀ D2 r2, JI D2 r2 (B + 4100000) → xV γ 903 [some (.ref 0), some (.ref 4), some (.ref 351), some (vi ((6 * i : Nat) : Int))] [] (356, 8410) D2 r2) : xV γ 805 [some (.ref 0), some (.ref 4), some (.ref 351), some (vi ((6 * i : Nat) : Int))] [] (356, 8410) D r := by
  obtain ⟨np, n, s, π, q, hJX⟩ := hJ
  obtain ⟨ee, P, hM, hN⟩ := j_wipe (z := 8410) hJX hB  
  refine v_aload_n (q := 806) hX dL_law_805 rfl rfl rfl ?_
  refine v_callV (q := 809) hX hM rfl kV_X4_wipe rfl (by decide) lk_L_103 (by decide) rfl rfl (by decide) (by decide) (Nat.le_of_ble_eq_true rfl) dL_law_806 rfl (fun v D1 r1 h1_ => ?_)
  obtain ⟨rfl, P2, hM2, hN2⟩ := hN v D1 r1 h1_
  simp only [Option.toList, List.cons_append, List.nil_append]
  refine v_aload_n (q := 810) hX dL_law_809 rfl rfl rfl ?_
  refine v_callV (q := 813) hX hM2 rfl kV_X5_wipe rfl (by decide) lk_L_106 (by decide) rfl rfl (by decide) (by decide) (Nat.le_of_ble_eq_true rfl) dL_law_810 rfl (fun v2 D2 r2 h2_ => ?_)
  obtain ⟨rfl, hJ2⟩ := hN2 v2 D2 r2 h2_
  simp only [Option.toList, List.cons_append, List.nil_append]
  rw [vi_nm ee]
  refine v_icmp_eq (q := 816) (tgt := 903) hX (x32 _) (x32 _) dL_law_813 (by decide) rfl (fun _ => ?_) (fun hne => absurd rfl hne)
  exact kont D2 r2 hJ2
set_option maxRecDepth 100000 in
set_option maxHeartbeats 4000000 in
theorem law_c21 {γ : xC} {nm ds : String} (hX : xX γ cL_law 4 ⟨RL, nm, ds⟩ 12) {L : Nat} {xs : Nat → Int32} (hL : L ≤ 3072) (hsc : xSc γ L xs) {i : Nat} (hi : 6 * i + 6 ≤ L) {D : xD} {r : xR} {B : Int} (hJ : JI D r B) (hB : B + 4100000 ≤ 2100000000) (h50 : 50000 ≤ B)
    (kont : ∀ D2 r2, JI D2 r2 (B + 4100000) → xV γ 903 [some (.ref 0), some (.ref 4), some (.ref 351), some (vi ((6 * i : Nat) : Int))] [] (356, 8410) D2 r2) : xV γ 818 [some (.ref 0), some (.ref 4), some (.ref 351), some (vi ((6 * i : Nat) : Int))] [] (356, 8410) D r := by
  obtain ⟨np, n, s, π, q, hJX⟩ := hJ
  obtain ⟨ee, P, hM, hN⟩ := j_fault (z := 8410) hJX hB  
  refine v_aload_n (q := 819) hX dL_law_818 rfl rfl rfl ?_
  refine v_callV (q := 822) hX hM rfl kV_X4_fault rfl (by decide) lk_L_107 (by decide) rfl rfl (by decide) (by decide) (Nat.le_of_ble_eq_true rfl) dL_law_819 rfl (fun v D1 r1 h1_ => ?_)
  obtain ⟨rfl, P2, hM2, hN2⟩ := hN v D1 r1 h1_
  simp only [Option.toList, List.cons_append, List.nil_append]
  refine v_aload_n (q := 823) hX dL_law_822 rfl rfl rfl ?_
  refine v_callV (q := 826) hX hM2 rfl kV_X5_fault rfl (by decide) lk_L_110 (by decide) rfl rfl (by decide) (by decide) (Nat.le_of_ble_eq_true rfl) dL_law_823 rfl (fun v2 D2 r2 h2_ => ?_)
  obtain ⟨rfl, hJ2⟩ := hN2 v2 D2 r2 h2_
  simp only [Option.toList, List.cons_append, List.nil_append]
  rw [vi_nm ee]
  refine v_icmp_eq (q := 829) (tgt := 903) hX (x32 _) (x32 _) dL_law_826 (by decide) rfl (fun _ => ?_) (fun hne => absurd rfl hne)
  exact kont D2 r2 hJ2
set_option maxRecDepth 100000 in
set_option maxHeartbeats 4000000 in
theorem law_c22 {γ : xC} {nm ds : String} (hX : xX γ cL_law 4 ⟨RL, nm, ds⟩ 12) {L : Nat} {xs : Nat → Int32} (hL : L ≤ 3072) (hsc : xSc γ L xs) {i : Nat} (hi : 6 * i + 6 ≤ L) {D : xD} {r : xR} {B : Int} (hJ : JI D r B) (hB : B + 4100000 ≤ 2100000000) (h50 : 50000 ≤ B)
    (kont : ∀ D2 r2, JI D2 r2 (B + 4100000) → xV γ 903 [some (.ref 0), some (.ref 4), some (.ref 351), some (vi ((6 * i : Nat) : Int))] [] (356, 8410) D2 r2) : xV γ 831 [some (.ref 0), some (.ref 4), some (.ref 351), some (vi ((6 * i : Nat) : Int))] [] (356, 8410) D r := by
  obtain ⟨np, n, s, π, q, hJX⟩ := hJ
  obtain ⟨ee, P, hM, hN⟩ := j_carryOut (z := 8410) hJX hB  
  refine v_aload_n (q := 832) hX dL_law_831 rfl rfl rfl ?_
  refine v_callV (q := 835) hX hM rfl kV_X4_carryOut rfl (by decide) lk_L_111 (by decide) rfl rfl (by decide) (by decide) (Nat.le_of_ble_eq_true rfl) dL_law_832 rfl (fun v D1 r1 h1_ => ?_)
  obtain ⟨rfl, P2, hM2, hN2⟩ := hN v D1 r1 h1_
  simp only [Option.toList, List.cons_append, List.nil_append]
  refine v_aload_n (q := 836) hX dL_law_835 rfl rfl rfl ?_
  refine v_callV (q := 839) hX hM2 rfl kV_X5_carryOut rfl (by decide) lk_L_114 (by decide) rfl rfl (by decide) (by decide) (Nat.le_of_ble_eq_true rfl) dL_law_836 rfl (fun v2 D2 r2 h2_ => ?_)
  obtain ⟨rfl, hJ2⟩ := hN2 v2 D2 r2 h2_
  simp only [Option.toList, List.cons_append, List.nil_append]
  rw [vi_nm ee]
  refine v_icmp_eq (q := 842) (tgt := 903) hX (x32 _) (x32 _) dL_law_839 (by decide) rfl (fun _ => ?_) (fun hne => absurd rfl hne)
  exact kont D2 r2 hJ2
set_option maxRecDepth 100000 in
set_option maxHeartbeats 4000000 in
theorem law_c23 {γ : xC} {nm ds : String} (hX : xX γ cL_law 4 ⟨RL, nm, ds⟩ 12) {L : Nat} {xs : Nat → Int32} (hL : L ≤ 3072) (hsc : xSc γ L xs) {i : Nat} (hi : 6 * i + 6 ≤ L) {D : xD} {r : xR} {B : Int} (hJ : JI D r B) (hB : B + 4100000 ≤ 2100000000) (h50 : 50000 ≤ B)
    (kont : ∀ D2 r2, JI D2 r2 (B + 4100000) → xV γ 903 [some (.ref 0), some (.ref 4), some (.ref 351), some (vi ((6 * i : Nat) : Int))] [] (356, 8410) D2 r2) : xV γ 844 [some (.ref 0), some (.ref 4), some (.ref 351), some (vi ((6 * i : Nat) : Int))] [] (356, 8410) D r := by
  obtain ⟨np, n, s, π, q, hJX⟩ := hJ
  obtain ⟨ee, P, hM, hN⟩ := j_undo (z := 8410) hJX hB  
  refine v_aload_n (q := 845) hX dL_law_844 rfl rfl rfl ?_
  refine v_callV (q := 848) hX hM rfl kV_X4_undo rfl (by decide) lk_L_115 (by decide) rfl rfl (by decide) (by decide) (Nat.le_of_ble_eq_true rfl) dL_law_845 rfl (fun v D1 r1 h1_ => ?_)
  obtain ⟨rfl, P2, hM2, hN2⟩ := hN v D1 r1 h1_
  simp only [Option.toList, List.cons_append, List.nil_append]
  refine v_aload_n (q := 849) hX dL_law_848 rfl rfl rfl ?_
  refine v_callV (q := 852) hX hM2 rfl kV_X5_undo rfl (by decide) lk_L_118 (by decide) rfl rfl (by decide) (by decide) (Nat.le_of_ble_eq_true rfl) dL_law_849 rfl (fun v2 D2 r2 h2_ => ?_)
  obtain ⟨rfl, hJ2⟩ := hN2 v2 D2 r2 h2_
  simp only [Option.toList, List.cons_append, List.nil_append]
  rw [vi_nm ee]
  refine v_icmp_eq (q := 855) (tgt := 903) hX (x32 _) (x32 _) dL_law_852 (by decide) rfl (fun _ => ?_) (fun hne => absurd rfl hne)
  exact kont D2 r2 hJ2
set_option maxRecDepth 100000 in
set_option maxHeartbeats 4000000 in
theorem law_c24 {γ : xC} {nm ds : String} (hX : xX γ cL_law 4 ⟨RL, nm, ds⟩ 12) {L : Nat} {xs : Nat → Int32} (hL : L ≤ 3072) (hsc : xSc γ L xs) {i : Nat} (hi : 6 * i + 6 ≤ L) {D : xD} {r : xR} {B : Int} (hJ : JI D r B) (hB : B + 4100000 ≤ 2100000000) (h50 : 50000 ≤ B)
    (kont : ∀ D2 r2, JI D2 r2 (B + 4100000) → xV γ 903 [some (.ref 0), some (.ref 4), some (.ref 351), some (vi ((6 * i : Nat) : Int))] [] (356, 8410) D2 r2) : xV γ 857 [some (.ref 0), some (.ref 4), some (.ref 351), some (vi ((6 * i : Nat) : Int))] [] (356, 8410) D r := by
  obtain ⟨np, n, s, π, q, hJX⟩ := hJ
  obtain ⟨ee, P, hM, hN⟩ := j_save (z := 8410) hJX hB (xs (6 * i + 1)).toInt (x32 _)
  refine v_aload_n (q := 858) hX dL_law_857 rfl rfl rfl ?_
  refine v_aload_n (q := 859) hX dL_law_858 rfl rfl rfl ?_
  refine v_iload_n (q := 860) hX dL_law_859 rfl rfl rfl ?_
  refine v_iconst (q := 861) hX dL_law_860 rfl ?_
  refine v_iadd (q := 862) hX dL_law_861 rfl ?_
  refine v_scld (q := 863) (kk := 6 * i + 1) hX hsc (by omega) (by omega) (by omega) dL_law_862 rfl ?_
  refine v_callV (q := 866) hX hM rfl kV_X4_save rfl (by decide) lk_L_119 (by decide) rfl rfl (by decide) (by decide) (Nat.le_of_ble_eq_true rfl) dL_law_863 rfl (fun v D1 r1 h1_ => ?_)
  obtain ⟨rfl, P2, hM2, hN2⟩ := hN v D1 r1 h1_
  simp only [Option.toList, List.cons_append, List.nil_append]
  refine v_aload_n (q := 867) hX dL_law_866 rfl rfl rfl ?_
  refine v_aload_n (q := 868) hX dL_law_867 rfl rfl rfl ?_
  refine v_iload_n (q := 869) hX dL_law_868 rfl rfl rfl ?_
  refine v_iconst (q := 870) hX dL_law_869 rfl ?_
  refine v_iadd (q := 871) hX dL_law_870 rfl ?_
  refine v_scld (q := 872) (kk := 6 * i + 1) hX hsc (by omega) (by omega) (by omega) dL_law_871 rfl ?_
  refine v_callV (q := 875) hX hM2 rfl kV_X5_save rfl (by decide) lk_L_122 (by decide) rfl rfl (by decide) (by decide) (Nat.le_of_ble_eq_true rfl) dL_law_872 rfl (fun v2 D2 r2 h2_ => ?_)
  obtain ⟨rfl, hJ2⟩ := hN2 v2 D2 r2 h2_
  simp only [Option.toList, List.cons_append, List.nil_append]
  rw [vi_nm ee]
  refine v_icmp_eq (q := 878) (tgt := 903) hX (x32 _) (x32 _) dL_law_875 (by decide) rfl (fun _ => ?_) (fun hne => absurd rfl hne)
  exact kont D2 r2 hJ2
set_option maxRecDepth 100000 in
set_option maxHeartbeats 4000000 in
theorem law_c25 {γ : xC} {nm ds : String} (hX : xX γ cL_law 4 ⟨RL, nm, ds⟩ 12) {L : Nat} {xs : Nat → Int32} (hL : L ≤ 3072) (hsc : xSc γ L xs) {i : Nat} (hi : 6 * i + 6 ≤ L) {D : xD} {r : xR} {B : Int} (hJ : JI D r B) (hB : B + 4100000 ≤ 2100000000) (h50 : 50000 ≤ B)
    (kont : ∀ D2 r2, JI D2 r2 (B + 4100000) → xV γ 903 [some (.ref 0), some (.ref 4), some (.ref 351), some (vi ((6 * i : Nat) : Int))] [] (356, 8410) D2 r2) : xV γ 880 [some (.ref 0), some (.ref 4), some (.ref 351), some (vi ((6 * i : Nat) : Int))] [] (356, 8410) D r := by
  obtain ⟨np, n, s, π, q, hJX⟩ := hJ
  obtain ⟨ee, P, hM, hN⟩ := j_restore (z := 8410) hJX hB (xs (6 * i + 1)).toInt (x32 _)
  refine v_aload_n (q := 881) hX dL_law_880 rfl rfl rfl ?_
  refine v_aload_n (q := 882) hX dL_law_881 rfl rfl rfl ?_
  refine v_iload_n (q := 883) hX dL_law_882 rfl rfl rfl ?_
  refine v_iconst (q := 884) hX dL_law_883 rfl ?_
  refine v_iadd (q := 885) hX dL_law_884 rfl ?_
  refine v_scld (q := 886) (kk := 6 * i + 1) hX hsc (by omega) (by omega) (by omega) dL_law_885 rfl ?_
  refine v_callV (q := 889) hX hM rfl kV_X4_restore rfl (by decide) lk_L_123 (by decide) rfl rfl (by decide) (by decide) (Nat.le_of_ble_eq_true rfl) dL_law_886 rfl (fun v D1 r1 h1_ => ?_)
  obtain ⟨rfl, P2, hM2, hN2⟩ := hN v D1 r1 h1_
  simp only [Option.toList, List.cons_append, List.nil_append]
  refine v_aload_n (q := 890) hX dL_law_889 rfl rfl rfl ?_
  refine v_aload_n (q := 891) hX dL_law_890 rfl rfl rfl ?_
  refine v_iload_n (q := 892) hX dL_law_891 rfl rfl rfl ?_
  refine v_iconst (q := 893) hX dL_law_892 rfl ?_
  refine v_iadd (q := 894) hX dL_law_893 rfl ?_
  refine v_scld (q := 895) (kk := 6 * i + 1) hX hsc (by omega) (by omega) (by omega) dL_law_894 rfl ?_
  refine v_callV (q := 898) hX hM2 rfl kV_X5_restore rfl (by decide) lk_L_126 (by decide) rfl rfl (by decide) (by decide) (Nat.le_of_ble_eq_true rfl) dL_law_895 rfl (fun v2 D2 r2 h2_ => ?_)
  obtain ⟨rfl, hJ2⟩ := hN2 v2 D2 r2 h2_
  simp only [Option.toList, List.cons_append, List.nil_append]
  rw [vi_nm ee]
  refine v_icmp_eq (q := 901) (tgt := 903) hX (x32 _) (x32 _) dL_law_898 (by decide) rfl (fun _ => ?_) (fun hne => absurd rfl hne)
  exact kont D2 r2 hJ2
theorem jUp {D : xD} {r : xR} {B : Int} (h : JI D r B) (hB : B + 4100000 ≤ 2100000000) : JI D r (B + 4100000) := by
  obtain ⟨np, n, s, π, q, hJ⟩ := h
  exact hJ.up hB
set_option maxRecDepth 100000 in
set_option maxHeartbeats 4000000 in
theorem law_loop {γ : xC} {nm ds : String} (hX : xX γ cL_law 4 ⟨RL, nm, ds⟩ 12) {L : Nat} {xs : Nat → Int32} (hL : L ≤ 3072) (hsc : xSc γ L xs) (hend : ∀ (pl : List (Option Value)) (D : xD) (r : xR), xV γ 909 pl [] (356, 8410) D r) : ∀ i : Nat, i ≤ 512 → ∀ (D : xD) (r : xR), JI D r (50000 + 4100000 * (i : Int)) → xV γ 18 [some (.ref 0), some (.ref 4), some (.ref 351), some (vi ((6 * i : Nat) : Int))] [] (356, 8410) D r := by
  refine xup 512 (fun i hi ih D r hJ => ?_)
  refine v_iload_n (q := 19) hX dL_law_18 rfl rfl rfl ?_
  refine v_aload_n (q := 20) hX dL_law_19 rfl rfl rfl ?_
  refine v_sclen (q := 21) hX hsc dL_law_20 rfl ?_
  refine v_bipush (q := 23) hX (by decide) dL_law_21 rfl ?_
  refine v_isub (q := 24) hX dL_law_23 rfl ?_
  refine v_icmp_gt (q := 27) (tgt := 909) hX ⟨by omega, by omega⟩ ⟨by omega, by omega⟩ dL_law_24 (by decide) rfl (fun hx_24 => ?_) (fun hx_24 => ?_)
  · exact hend _ _ _
  have hi6 : 6 * i + 6 ≤ L := by omega
  have hB : 50000 + 4100000 * (i : Int) + 4100000 ≤ 2100000000 := by omega
  have kont : ∀ D2 r2, JI D2 r2 (50000 + 4100000 * (i : Int) + 4100000) → xV γ 903 [some (.ref 0), some (.ref 4), some (.ref 351), some (vi ((6 * i : Nat) : Int))] [] (356, 8410) D2 r2 := by
    intro D2 r2 hJ2
    refine v_iinc (q := 906) hX dL_law_903 rfl (Nat.le_of_ble_eq_true rfl) (Nat.le_of_ble_eq_true rfl) rfl ?_
    dsimp only [xs1, xs2, xclr]
    refine v_goto (tgt := 18) hX dL_law_906 (by decide) ?_
    have g := ih (by omega) D2 r2 (by rw [show (50000 : Int) + 4100000 * ((i + 1 : Nat) : Int) = 50000 + 4100000 * (i : Int) + 4100000 by omega]; exact hJ2)
    rw [show ((6 * (i + 1) : Nat) : Int) = ((6 * i : Nat) : Int) + 6 by omega] at g
    exact g
  refine v_aload_n (q := 28) hX dL_law_27 rfl rfl rfl ?_
  refine v_iload_n (q := 29) hX dL_law_28 rfl rfl rfl ?_
  refine v_scld (q := 30) (kk := 6 * i) hX hsc rfl (by omega) (by omega) dL_law_29 rfl ?_
  refine v_bipush (q := 32) hX (by decide) dL_law_30 rfl ?_
  refine v_iand (q := 33) hX ((xs (6 * i)).toInt % 32) (sand32 _) dL_law_32 rfl ?_
  have hc0 : 0 ≤ (xs (6 * i)).toInt % 32 ∧ (xs (6 * i)).toInt % 32 < 32 := by omega
  generalize (xs (6 * i)).toInt % 32 = c at hc0 ⊢
  by_cases hc26 : 26 ≤ c
  · refine v_tableOut (tgt := 903) hX ⟨by omega, by omega⟩ dL_law_33 (Or.inr (by omega)) (by decide) ?_
    exact kont D r (jUp hJ hB)
  have h26 : c = 0 ∨ c = 1 ∨ c = 2 ∨ c = 3 ∨ c = 4 ∨ c = 5 ∨ c = 6 ∨ c = 7 ∨ c = 8 ∨ c = 9 ∨ c = 10 ∨ c = 11 ∨ c = 12 ∨ c = 13 ∨ c = 14 ∨ c = 15 ∨ c = 16 ∨ c = 17 ∨ c = 18 ∨ c = 19 ∨ c = 20 ∨ c = 21 ∨ c = 22 ∨ c = 23 ∨ c = 24 ∨ c = 25 := by omega
  rcases h26 with rfl | rfl | rfl | rfl | rfl | rfl | rfl | rfl | rfl | rfl | rfl | rfl | rfl | rfl | rfl | rfl | rfl | rfl | rfl | rfl | rfl | rfl | rfl | rfl | rfl | rfl
  · refine v_tableIn (tgt := 152) hX (by decide) dL_law_33 (by decide) (by decide) rfl (by decide) ?_
    exact law_c0 hX hL hsc hi6 hJ hB (by omega) kont
  · refine v_tableIn (tgt := 185) hX (by decide) dL_law_33 (by decide) (by decide) rfl (by decide) ?_
    exact law_c1 hX hL hsc hi6 hJ hB (by omega) kont
  · refine v_tableIn (tgt := 248) hX (by decide) dL_law_33 (by decide) (by decide) rfl (by decide) ?_
    exact law_c2 hX hL hsc hi6 hJ hB (by omega) kont
  · refine v_tableIn (tgt := 281) hX (by decide) dL_law_33 (by decide) (by decide) rfl (by decide) ?_
    exact law_c3 hX hL hsc hi6 hJ hB (by omega) kont
  · refine v_tableIn (tgt := 324) hX (by decide) dL_law_33 (by decide) (by decide) rfl (by decide) ?_
    exact law_c4 hX hL hsc hi6 hJ hB (by omega) kont
  · refine v_tableIn (tgt := 357) hX (by decide) dL_law_33 (by decide) (by decide) rfl (by decide) ?_
    exact law_c5 hX hL hsc hi6 hJ hB (by omega) kont
  · refine v_tableIn (tgt := 400) hX (by decide) dL_law_33 (by decide) (by decide) rfl (by decide) ?_
    exact law_c6 hX hL hsc hi6 hJ hB (by omega) kont
  · refine v_tableIn (tgt := 413) hX (by decide) dL_law_33 (by decide) (by decide) rfl (by decide) ?_
    exact law_c7 hX hL hsc hi6 hJ hB (by omega) kont
  · refine v_tableIn (tgt := 436) hX (by decide) dL_law_33 (by decide) (by decide) rfl (by decide) ?_
    exact law_c8 hX hL hsc hi6 hJ hB (by omega) kont
  · refine v_tableIn (tgt := 469) hX (by decide) dL_law_33 (by decide) (by decide) rfl (by decide) ?_
    exact law_c9 hX hL hsc hi6 hJ hB (by omega) kont
  · refine v_tableIn (tgt := 512) hX (by decide) dL_law_33 (by decide) (by decide) rfl (by decide) ?_
    exact law_c10 hX hL hsc hi6 hJ hB (by omega) kont
  · refine v_tableIn (tgt := 546) hX (by decide) dL_law_33 (by decide) (by decide) rfl (by decide) ?_
    exact law_c11 hX hL hsc hi6 hJ hB (by omega) kont
  · refine v_tableIn (tgt := 579) hX (by decide) dL_law_33 (by decide) (by decide) rfl (by decide) ?_
    exact law_c12 hX hL hsc hi6 hJ hB (by omega) kont
  · refine v_tableIn (tgt := 603) hX (by decide) dL_law_33 (by decide) (by decide) rfl (by decide) ?_
    exact law_c13 hX hL hsc hi6 hJ hB (by omega) kont
  · refine v_tableIn (tgt := 626) hX (by decide) dL_law_33 (by decide) (by decide) rfl (by decide) ?_
    exact law_c14 hX hL hsc hi6 hJ hB (by omega) kont
  · refine v_tableIn (tgt := 649) hX (by decide) dL_law_33 (by decide) (by decide) rfl (by decide) ?_
    exact law_c15 hX hL hsc hi6 hJ hB (by omega) kont
  · refine v_tableIn (tgt := 662) hX (by decide) dL_law_33 (by decide) (by decide) rfl (by decide) ?_
    exact law_c16 hX hL hsc hi6 hJ hB (by omega) kont
  · refine v_tableIn (tgt := 696) hX (by decide) dL_law_33 (by decide) (by decide) rfl (by decide) ?_
    exact law_c17 hX hL hsc hi6 hJ hB (by omega) kont
  · refine v_tableIn (tgt := 719) hX (by decide) dL_law_33 (by decide) (by decide) rfl (by decide) ?_
    exact law_c18 hX hL hsc hi6 hJ hB (by omega) kont
  · refine v_tableIn (tgt := 752) hX (by decide) dL_law_33 (by decide) (by decide) rfl (by decide) ?_
    exact law_c19 hX hL hsc hi6 hJ hB (by omega) kont
  · refine v_tableIn (tgt := 805) hX (by decide) dL_law_33 (by decide) (by decide) rfl (by decide) ?_
    exact law_c20 hX hL hsc hi6 hJ hB (by omega) kont
  · refine v_tableIn (tgt := 818) hX (by decide) dL_law_33 (by decide) (by decide) rfl (by decide) ?_
    exact law_c21 hX hL hsc hi6 hJ hB (by omega) kont
  · refine v_tableIn (tgt := 831) hX (by decide) dL_law_33 (by decide) (by decide) rfl (by decide) ?_
    exact law_c22 hX hL hsc hi6 hJ hB (by omega) kont
  · refine v_tableIn (tgt := 844) hX (by decide) dL_law_33 (by decide) (by decide) rfl (by decide) ?_
    exact law_c23 hX hL hsc hi6 hJ hB (by omega) kont
  · refine v_tableIn (tgt := 857) hX (by decide) dL_law_33 (by decide) (by decide) rfl (by decide) ?_
    exact law_c24 hX hL hsc hi6 hJ hB (by omega) kont
  · refine v_tableIn (tgt := 880) hX (by decide) dL_law_33 (by decide) (by decide) rfl (by decide) ?_
    exact law_c25 hX hL hsc hi6 hJ hB (by omega) kont
