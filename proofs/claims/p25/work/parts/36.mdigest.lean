
theorem zall_eq {nk : Nat} (hk : nk ≤ 8) : (1 : Int32) <<< (nI nk &&& 31) - 1 = nI (2 ^ nk - 1) := by
  have key : ∀ nk, nk < 9 → (1 : Int32) <<< (nI nk &&& 31) - 1 = nI (2 ^ nk - 1) := by decide +kernel
  exact key nk (by omega)

theorem d_Mo_digest_0 : decode c_Mo_digest 0 = .ok (.aload_n 0, 1) := by decide +kernel
theorem d_Mo_digest_1 : decode c_Mo_digest 1 = .ok (.iconst 0, 1) := by decide +kernel
theorem d_Mo_digest_2 : decode c_Mo_digest 2 = .ok (.putfield 36, 3) := by decide +kernel
theorem d_Mo_digest_5 : decode c_Mo_digest 5 = .ok (.ldc2_w 267, 3) := by decide +kernel
theorem d_Mo_digest_8 : decode c_Mo_digest 8 = .ok (.lstore_n 1, 1) := by decide +kernel
theorem d_Mo_digest_9 : decode c_Mo_digest 9 = .ok (.iconst 0, 1) := by decide +kernel
theorem d_Mo_digest_10 : decode c_Mo_digest 10 = .ok (.istore_n 3, 1) := by decide +kernel
theorem d_Mo_digest_11 : decode c_Mo_digest 11 = .ok (.iload_n 3, 1) := by decide +kernel
theorem d_Mo_digest_12 : decode c_Mo_digest 12 = .ok (.bipush 11, 2) := by decide +kernel
theorem d_Mo_digest_14 : decode c_Mo_digest 14 = .ok (.if_icmp .gt 22, 3) := by decide +kernel
theorem d_Mo_digest_17 : decode c_Mo_digest 17 = .ok (.lload_n 1, 1) := by decide +kernel
theorem d_Mo_digest_18 : decode c_Mo_digest 18 = .ok (.ldc2_w 269, 3) := by decide +kernel
theorem d_Mo_digest_21 : decode c_Mo_digest 21 = .ok (.lmul, 1) := by decide +kernel
theorem d_Mo_digest_22 : decode c_Mo_digest 22 = .ok (.aload_n 0, 1) := by decide +kernel
theorem d_Mo_digest_23 : decode c_Mo_digest 23 = .ok (.iload_n 3, 1) := by decide +kernel
theorem d_Mo_digest_24 : decode c_Mo_digest 24 = .ok (.invokevirtual 225, 3) := by decide +kernel
theorem d_Mo_digest_27 : decode c_Mo_digest 27 = .ok (.i2l, 1) := by decide +kernel
theorem d_Mo_digest_28 : decode c_Mo_digest 28 = .ok (.ladd, 1) := by decide +kernel
theorem d_Mo_digest_29 : decode c_Mo_digest 29 = .ok (.lstore_n 1, 1) := by decide +kernel
theorem d_Mo_digest_30 : decode c_Mo_digest 30 = .ok (.iinc 3 1, 3) := by decide +kernel
theorem d_Mo_digest_33 : decode c_Mo_digest 33 = .ok (.goto (-22), 3) := by decide +kernel
theorem d_Mo_digest_36 : decode c_Mo_digest 36 = .ok (.iconst 0, 1) := by decide +kernel
theorem d_Mo_digest_37 : decode c_Mo_digest 37 = .ok (.istore_n 3, 1) := by decide +kernel
theorem d_Mo_digest_38 : decode c_Mo_digest 38 = .ok (.iload_n 3, 1) := by decide +kernel
theorem d_Mo_digest_39 : decode c_Mo_digest 39 = .ok (.aload_n 0, 1) := by decide +kernel
theorem d_Mo_digest_40 : decode c_Mo_digest 40 = .ok (.getfield 16, 3) := by decide +kernel
theorem d_Mo_digest_43 : decode c_Mo_digest 43 = .ok (.invokeinterface 94 1, 5) := by decide +kernel
theorem d_Mo_digest_48 : decode c_Mo_digest 48 = .ok (.if_icmp .ge 40, 3) := by decide +kernel
theorem d_Mo_digest_51 : decode c_Mo_digest 51 = .ok (.iconst 0, 1) := by decide +kernel
theorem d_Mo_digest_52 : decode c_Mo_digest 52 = .ok (.istore 4, 2) := by decide +kernel
theorem d_Mo_digest_54 : decode c_Mo_digest 54 = .ok (.iload 4, 2) := by decide +kernel
theorem d_Mo_digest_56 : decode c_Mo_digest 56 = .ok (.bipush 6, 2) := by decide +kernel
theorem d_Mo_digest_58 : decode c_Mo_digest 58 = .ok (.if_icmp .gt 24, 3) := by decide +kernel
theorem d_Mo_digest_61 : decode c_Mo_digest 61 = .ok (.lload_n 1, 1) := by decide +kernel
theorem d_Mo_digest_62 : decode c_Mo_digest 62 = .ok (.ldc2_w 269, 3) := by decide +kernel
theorem d_Mo_digest_65 : decode c_Mo_digest 65 = .ok (.lmul, 1) := by decide +kernel
theorem d_Mo_digest_66 : decode c_Mo_digest 66 = .ok (.aload_n 0, 1) := by decide +kernel
theorem d_Mo_digest_67 : decode c_Mo_digest 67 = .ok (.iload_n 3, 1) := by decide +kernel
theorem d_Mo_digest_68 : decode c_Mo_digest 68 = .ok (.iload 4, 2) := by decide +kernel
theorem d_Mo_digest_70 : decode c_Mo_digest 70 = .ok (.invokevirtual 199, 3) := by decide +kernel
theorem d_Mo_digest_73 : decode c_Mo_digest 73 = .ok (.i2l, 1) := by decide +kernel
theorem d_Mo_digest_74 : decode c_Mo_digest 74 = .ok (.ladd, 1) := by decide +kernel
theorem d_Mo_digest_75 : decode c_Mo_digest 75 = .ok (.lstore_n 1, 1) := by decide +kernel
theorem d_Mo_digest_76 : decode c_Mo_digest 76 = .ok (.iinc 4 1, 3) := by decide +kernel
theorem d_Mo_digest_79 : decode c_Mo_digest 79 = .ok (.goto (-25), 3) := by decide +kernel
theorem d_Mo_digest_82 : decode c_Mo_digest 82 = .ok (.iinc 3 1, 3) := by decide +kernel
theorem d_Mo_digest_85 : decode c_Mo_digest 85 = .ok (.goto (-47), 3) := by decide +kernel
theorem d_Mo_digest_88 : decode c_Mo_digest 88 = .ok (.iconst 0, 1) := by decide +kernel
theorem d_Mo_digest_89 : decode c_Mo_digest 89 = .ok (.istore_n 3, 1) := by decide +kernel
theorem d_Mo_digest_90 : decode c_Mo_digest 90 = .ok (.iload_n 3, 1) := by decide +kernel
theorem d_Mo_digest_91 : decode c_Mo_digest 91 = .ok (.aload_n 0, 1) := by decide +kernel
theorem d_Mo_digest_92 : decode c_Mo_digest 92 = .ok (.getfield 20, 3) := by decide +kernel
theorem d_Mo_digest_95 : decode c_Mo_digest 95 = .ok (.invokeinterface 94 1, 5) := by decide +kernel
theorem d_Mo_digest_100 : decode c_Mo_digest 100 = .ok (.if_icmp .ge 168, 3) := by decide +kernel
theorem d_Mo_digest_103 : decode c_Mo_digest 103 = .ok (.iconst 0, 1) := by decide +kernel
theorem d_Mo_digest_104 : decode c_Mo_digest 104 = .ok (.istore 4, 2) := by decide +kernel
theorem d_Mo_digest_106 : decode c_Mo_digest 106 = .ok (.iload 4, 2) := by decide +kernel
theorem d_Mo_digest_108 : decode c_Mo_digest 108 = .ok (.bipush 8, 2) := by decide +kernel
theorem d_Mo_digest_110 : decode c_Mo_digest 110 = .ok (.if_icmp .gt 24, 3) := by decide +kernel
theorem d_Mo_digest_113 : decode c_Mo_digest 113 = .ok (.lload_n 1, 1) := by decide +kernel
theorem d_Mo_digest_114 : decode c_Mo_digest 114 = .ok (.ldc2_w 269, 3) := by decide +kernel
theorem d_Mo_digest_117 : decode c_Mo_digest 117 = .ok (.lmul, 1) := by decide +kernel
theorem d_Mo_digest_118 : decode c_Mo_digest 118 = .ok (.aload_n 0, 1) := by decide +kernel
theorem d_Mo_digest_119 : decode c_Mo_digest 119 = .ok (.iload_n 3, 1) := by decide +kernel
theorem d_Mo_digest_120 : decode c_Mo_digest 120 = .ok (.iload 4, 2) := by decide +kernel
theorem d_Mo_digest_122 : decode c_Mo_digest 122 = .ok (.invokevirtual 210, 3) := by decide +kernel
theorem d_Mo_digest_125 : decode c_Mo_digest 125 = .ok (.i2l, 1) := by decide +kernel
theorem d_Mo_digest_126 : decode c_Mo_digest 126 = .ok (.ladd, 1) := by decide +kernel
theorem d_Mo_digest_127 : decode c_Mo_digest 127 = .ok (.lstore_n 1, 1) := by decide +kernel
theorem d_Mo_digest_128 : decode c_Mo_digest 128 = .ok (.iinc 4 1, 3) := by decide +kernel
theorem d_Mo_digest_131 : decode c_Mo_digest 131 = .ok (.goto (-25), 3) := by decide +kernel
theorem d_Mo_digest_134 : decode c_Mo_digest 134 = .ok (.iconst 0, 1) := by decide +kernel
theorem d_Mo_digest_135 : decode c_Mo_digest 135 = .ok (.istore 4, 2) := by decide +kernel
theorem d_Mo_digest_137 : decode c_Mo_digest 137 = .ok (.iload 4, 2) := by decide +kernel
theorem d_Mo_digest_139 : decode c_Mo_digest 139 = .ok (.aload_n 0, 1) := by decide +kernel
theorem d_Mo_digest_140 : decode c_Mo_digest 140 = .ok (.getfield 16, 3) := by decide +kernel
theorem d_Mo_digest_143 : decode c_Mo_digest 143 = .ok (.invokeinterface 94 1, 5) := by decide +kernel
theorem d_Mo_digest_148 : decode c_Mo_digest 148 = .ok (.if_icmp .ge 41, 3) := by decide +kernel
theorem d_Mo_digest_151 : decode c_Mo_digest 151 = .ok (.iconst 0, 1) := by decide +kernel
theorem d_Mo_digest_152 : decode c_Mo_digest 152 = .ok (.istore 5, 2) := by decide +kernel
theorem d_Mo_digest_154 : decode c_Mo_digest 154 = .ok (.iload 5, 2) := by decide +kernel
theorem d_Mo_digest_156 : decode c_Mo_digest 156 = .ok (.iconst 2, 1) := by decide +kernel
theorem d_Mo_digest_157 : decode c_Mo_digest 157 = .ok (.if_icmp .gt 26, 3) := by decide +kernel
theorem d_Mo_digest_160 : decode c_Mo_digest 160 = .ok (.lload_n 1, 1) := by decide +kernel
theorem d_Mo_digest_161 : decode c_Mo_digest 161 = .ok (.ldc2_w 269, 3) := by decide +kernel
theorem d_Mo_digest_164 : decode c_Mo_digest 164 = .ok (.lmul, 1) := by decide +kernel
theorem d_Mo_digest_165 : decode c_Mo_digest 165 = .ok (.aload_n 0, 1) := by decide +kernel
theorem d_Mo_digest_166 : decode c_Mo_digest 166 = .ok (.iload_n 3, 1) := by decide +kernel
theorem d_Mo_digest_167 : decode c_Mo_digest 167 = .ok (.iload 4, 2) := by decide +kernel
theorem d_Mo_digest_169 : decode c_Mo_digest 169 = .ok (.iload 5, 2) := by decide +kernel
theorem d_Mo_digest_171 : decode c_Mo_digest 171 = .ok (.invokevirtual 213, 3) := by decide +kernel
theorem d_Mo_digest_174 : decode c_Mo_digest 174 = .ok (.i2l, 1) := by decide +kernel
theorem d_Mo_digest_175 : decode c_Mo_digest 175 = .ok (.ladd, 1) := by decide +kernel
theorem d_Mo_digest_176 : decode c_Mo_digest 176 = .ok (.lstore_n 1, 1) := by decide +kernel
theorem d_Mo_digest_177 : decode c_Mo_digest 177 = .ok (.iinc 5 1, 3) := by decide +kernel
theorem d_Mo_digest_180 : decode c_Mo_digest 180 = .ok (.goto (-26), 3) := by decide +kernel
theorem d_Mo_digest_183 : decode c_Mo_digest 183 = .ok (.iinc 4 1, 3) := by decide +kernel
theorem d_Mo_digest_186 : decode c_Mo_digest 186 = .ok (.goto (-49), 3) := by decide +kernel
theorem d_Mo_digest_189 : decode c_Mo_digest 189 = .ok (.iconst 0, 1) := by decide +kernel
theorem d_Mo_digest_190 : decode c_Mo_digest 190 = .ok (.istore 4, 2) := by decide +kernel
theorem d_Mo_digest_192 : decode c_Mo_digest 192 = .ok (.iload 4, 2) := by decide +kernel
theorem d_Mo_digest_194 : decode c_Mo_digest 194 = .ok (.iconst 5, 1) := by decide +kernel
theorem d_Mo_digest_195 : decode c_Mo_digest 195 = .ok (.if_icmp .gt 37, 3) := by decide +kernel
theorem d_Mo_digest_198 : decode c_Mo_digest 198 = .ok (.lload_n 1, 1) := by decide +kernel
theorem d_Mo_digest_199 : decode c_Mo_digest 199 = .ok (.ldc2_w 269, 3) := by decide +kernel
theorem d_Mo_digest_202 : decode c_Mo_digest 202 = .ok (.lmul, 1) := by decide +kernel
theorem d_Mo_digest_203 : decode c_Mo_digest 203 = .ok (.aload_n 0, 1) := by decide +kernel
theorem d_Mo_digest_204 : decode c_Mo_digest 204 = .ok (.iload_n 3, 1) := by decide +kernel
theorem d_Mo_digest_205 : decode c_Mo_digest 205 = .ok (.iconst 1, 1) := by decide +kernel
theorem d_Mo_digest_206 : decode c_Mo_digest 206 = .ok (.aload_n 0, 1) := by decide +kernel
theorem d_Mo_digest_207 : decode c_Mo_digest 207 = .ok (.getfield 16, 3) := by decide +kernel
theorem d_Mo_digest_210 : decode c_Mo_digest 210 = .ok (.invokeinterface 94 1, 5) := by decide +kernel
theorem d_Mo_digest_215 : decode c_Mo_digest 215 = .ok (.ishl, 1) := by decide +kernel
theorem d_Mo_digest_216 : decode c_Mo_digest 216 = .ok (.iconst 1, 1) := by decide +kernel
theorem d_Mo_digest_217 : decode c_Mo_digest 217 = .ok (.isub, 1) := by decide +kernel
theorem d_Mo_digest_218 : decode c_Mo_digest 218 = .ok (.iload 4, 2) := by decide +kernel
theorem d_Mo_digest_220 : decode c_Mo_digest 220 = .ok (.invokevirtual 247, 3) := by decide +kernel
theorem d_Mo_digest_223 : decode c_Mo_digest 223 = .ok (.i2l, 1) := by decide +kernel
theorem d_Mo_digest_224 : decode c_Mo_digest 224 = .ok (.ladd, 1) := by decide +kernel
theorem d_Mo_digest_225 : decode c_Mo_digest 225 = .ok (.lstore_n 1, 1) := by decide +kernel
theorem d_Mo_digest_226 : decode c_Mo_digest 226 = .ok (.iinc 4 1, 3) := by decide +kernel
theorem d_Mo_digest_229 : decode c_Mo_digest 229 = .ok (.goto (-37), 3) := by decide +kernel
theorem d_Mo_digest_232 : decode c_Mo_digest 232 = .ok (.lload_n 1, 1) := by decide +kernel
theorem d_Mo_digest_233 : decode c_Mo_digest 233 = .ok (.ldc2_w 269, 3) := by decide +kernel
theorem d_Mo_digest_236 : decode c_Mo_digest 236 = .ok (.lmul, 1) := by decide +kernel
theorem d_Mo_digest_237 : decode c_Mo_digest 237 = .ok (.aload_n 0, 1) := by decide +kernel
theorem d_Mo_digest_238 : decode c_Mo_digest 238 = .ok (.iload_n 3, 1) := by decide +kernel
theorem d_Mo_digest_239 : decode c_Mo_digest 239 = .ok (.invokevirtual 256, 3) := by decide +kernel
theorem d_Mo_digest_242 : decode c_Mo_digest 242 = .ok (.i2l, 1) := by decide +kernel
theorem d_Mo_digest_243 : decode c_Mo_digest 243 = .ok (.ladd, 1) := by decide +kernel
theorem d_Mo_digest_244 : decode c_Mo_digest 244 = .ok (.lstore_n 1, 1) := by decide +kernel
theorem d_Mo_digest_245 : decode c_Mo_digest 245 = .ok (.lload_n 1, 1) := by decide +kernel
theorem d_Mo_digest_246 : decode c_Mo_digest 246 = .ok (.ldc2_w 269, 3) := by decide +kernel
theorem d_Mo_digest_249 : decode c_Mo_digest 249 = .ok (.lmul, 1) := by decide +kernel
theorem d_Mo_digest_250 : decode c_Mo_digest 250 = .ok (.ldc2_w 271, 3) := by decide +kernel
theorem d_Mo_digest_253 : decode c_Mo_digest 253 = .ok (.aload_n 0, 1) := by decide +kernel
theorem d_Mo_digest_254 : decode c_Mo_digest 254 = .ok (.iload_n 3, 1) := by decide +kernel
theorem d_Mo_digest_255 : decode c_Mo_digest 255 = .ok (.invokevirtual 252, 3) := by decide +kernel
theorem d_Mo_digest_258 : decode c_Mo_digest 258 = .ok (.dmul, 1) := by decide +kernel
theorem d_Mo_digest_259 : decode c_Mo_digest 259 = .ok (.d2l, 1) := by decide +kernel
theorem d_Mo_digest_260 : decode c_Mo_digest 260 = .ok (.ladd, 1) := by decide +kernel
theorem d_Mo_digest_261 : decode c_Mo_digest 261 = .ok (.lstore_n 1, 1) := by decide +kernel
theorem d_Mo_digest_262 : decode c_Mo_digest 262 = .ok (.iinc 3 1, 3) := by decide +kernel
theorem d_Mo_digest_265 : decode c_Mo_digest 265 = .ok (.goto (-175), 3) := by decide +kernel
theorem d_Mo_digest_268 : decode c_Mo_digest 268 = .ok (.iconst 0, 1) := by decide +kernel
theorem d_Mo_digest_269 : decode c_Mo_digest 269 = .ok (.istore_n 3, 1) := by decide +kernel
theorem d_Mo_digest_270 : decode c_Mo_digest 270 = .ok (.iload_n 3, 1) := by decide +kernel
theorem d_Mo_digest_271 : decode c_Mo_digest 271 = .ok (.aload_n 0, 1) := by decide +kernel
theorem d_Mo_digest_272 : decode c_Mo_digest 272 = .ok (.getfield 23, 3) := by decide +kernel
theorem d_Mo_digest_275 : decode c_Mo_digest 275 = .ok (.invokeinterface 94 1, 5) := by decide +kernel
theorem d_Mo_digest_280 : decode c_Mo_digest 280 = .ok (.if_icmp .ge 32, 3) := by decide +kernel
theorem d_Mo_digest_283 : decode c_Mo_digest 283 = .ok (.lload_n 1, 1) := by decide +kernel
theorem d_Mo_digest_284 : decode c_Mo_digest 284 = .ok (.ldc2_w 269, 3) := by decide +kernel
theorem d_Mo_digest_287 : decode c_Mo_digest 287 = .ok (.lmul, 1) := by decide +kernel
theorem d_Mo_digest_288 : decode c_Mo_digest 288 = .ok (.aload_n 0, 1) := by decide +kernel
theorem d_Mo_digest_289 : decode c_Mo_digest 289 = .ok (.getfield 23, 3) := by decide +kernel
theorem d_Mo_digest_292 : decode c_Mo_digest 292 = .ok (.iload_n 3, 1) := by decide +kernel
theorem d_Mo_digest_293 : decode c_Mo_digest 293 = .ok (.invokeinterface 51 2, 5) := by decide +kernel
theorem d_Mo_digest_298 : decode c_Mo_digest 298 = .ok (.checkcast 217, 3) := by decide +kernel
theorem d_Mo_digest_301 : decode c_Mo_digest 301 = .ok (.iconst 3, 1) := by decide +kernel
theorem d_Mo_digest_302 : decode c_Mo_digest 302 = .ok (.iaload, 1) := by decide +kernel
theorem d_Mo_digest_303 : decode c_Mo_digest 303 = .ok (.i2l, 1) := by decide +kernel
theorem d_Mo_digest_304 : decode c_Mo_digest 304 = .ok (.ladd, 1) := by decide +kernel
theorem d_Mo_digest_305 : decode c_Mo_digest 305 = .ok (.lstore_n 1, 1) := by decide +kernel
theorem d_Mo_digest_306 : decode c_Mo_digest 306 = .ok (.iinc 3 1, 3) := by decide +kernel
theorem d_Mo_digest_309 : decode c_Mo_digest 309 = .ok (.goto (-39), 3) := by decide +kernel
theorem d_Mo_digest_312 : decode c_Mo_digest 312 = .ok (.lload_n 1, 1) := by decide +kernel
theorem d_Mo_digest_313 : decode c_Mo_digest 313 = .ok (.ldc2_w 269, 3) := by decide +kernel
theorem d_Mo_digest_316 : decode c_Mo_digest 316 = .ok (.lmul, 1) := by decide +kernel
theorem d_Mo_digest_317 : decode c_Mo_digest 317 = .ok (.aload_n 0, 1) := by decide +kernel
theorem d_Mo_digest_318 : decode c_Mo_digest 318 = .ok (.invokevirtual 263, 3) := by decide +kernel
theorem d_Mo_digest_321 : decode c_Mo_digest 321 = .ok (.ifCond .eq 7, 3) := by decide +kernel
theorem d_Mo_digest_324 : decode c_Mo_digest 324 = .ok (.iconst 1, 1) := by decide +kernel
theorem d_Mo_digest_325 : decode c_Mo_digest 325 = .ok (.goto 4, 3) := by decide +kernel
theorem d_Mo_digest_328 : decode c_Mo_digest 328 = .ok (.iconst 0, 1) := by decide +kernel
theorem d_Mo_digest_329 : decode c_Mo_digest 329 = .ok (.i2l, 1) := by decide +kernel
theorem d_Mo_digest_330 : decode c_Mo_digest 330 = .ok (.ladd, 1) := by decide +kernel
theorem d_Mo_digest_331 : decode c_Mo_digest 331 = .ok (.lreturn, 1) := by decide +kernel
set_option maxHeartbeats 4000000 in
set_option maxRecDepth 100000 in
theorem m_Mo_digest {g0 : State} {d : zD} {l : Launch} {a0 : Array Value} (hs0 : zS0 d a0 g0) (hst : l.stackTraces = false) {G : zG} {B : Nat → Nat} {V : Nat → Nat → Int32} {nk ns ne ec : Nat} (hM : zM d B V nk ns ne ec G) : zMet g0 d l y_Mo_digest c_Mo_digest 6 ((Option.some Jvm.ClassFile.FieldType.long)) 22 140 1172 [.ref (B 0)] (G) (mTp d B nk ns ne ec V G zrL) (zNo) := by
  have hnk : nk ≤ 8 := hM.2.1
  have hns : ns ≤ 6 := hM.2.2.1
  have hne : ne ≤ 64 := hM.2.2.2.1
  have hp2 : 2 ^ nk ≤ 256 := Nat.pow_le_pow_right (n := 2) (by decide) hnk
  refine z_entry hs0 hst (by decide) (Nat.le_of_ble_eq_true rfl) (fun p e s m args below meth c => ?_)
  refine z_aload_n 0 d_Mo_digest_0 rfl rfl ?_
  refine z_iconst (v := 0) d_Mo_digest_1 (by decide) ?_
  refine z_put zc_Mo 0 (by decide) qF_Mo_36 hM.mo rfl rfl rfl (Nat.le_of_ble_eq_true rfl) d_Mo_digest_2 ?_
  obtain ⟨V1, hM1, hK1, hF1, hT1⟩ := hM.putT 0
  refine z_ldc2 qXl_Mo_267 d_Mo_digest_5 ?_
  refine z_lstore_n (L' := [(1, _), (0, _)]) d_Mo_digest_8 rfl (by decide) rfl ?_
  refine z_iconst (v := (nI 0)) d_Mo_digest_9 (by decide) ?_
  refine z_istore_n (L' := [(3, _), (1, _), (0, _)]) d_Mo_digest_10 rfl (by decide) rfl ?_
  have key_11 : ∀ (n : Nat) (w : Nat) (G2 : zG) (V2 : Nat → Nat → Int32) (v : Int64), 12 - w < n → (w ≤ 12) → (zM d B V2 nk ns ne ec G2) → (zKn V V2) → (mFr B nk ns ne G G2) → Z g0 d y_Mo_digest c_Mo_digest 6 ((Option.some Jvm.ClassFile.FieldType.long)) [] p l e (zR 22 140 1172) s m args below meth c (vx_MQ below (zQc g0 d (mTp d B nk ns ne ec V G zrL)) (zXc g0 d (zNo)) args s 140 1172 (zA g0)) w (12 * w) (G2) [(3, .int (nI w)), (1, .long v), (0, .ref (B 0))] [] 11 := by
    intro n
    induction n with
    | zero => intro w G2 V2 v h0; exact absurd h0 (Nat.not_lt_zero _)
    | succ n ih_11 =>
      intro w G2 V2 v hm_11 hw hM2 hK2 hF2
      refine z_iload_n 0 d_Mo_digest_11 rfl rfl ?_
      refine z_bipush (v := (nI 11)) d_Mo_digest_12 (by decide) ?_
      refine z_icmp_gt 36 d_Mo_digest_14 (by decide) (fun c_14 => ?_) (fun c_14 => ?_)
      · skip
        refine z_iconst (v := (nI 0)) d_Mo_digest_36 (by decide) ?_
        refine z_istore_n (L' := [(3, _), (1, _), (0, _)]) d_Mo_digest_37 rfl (by decide) rfl ?_
        have key_38 : ∀ (n : Nat) (i : Nat) (G2 : zG) (V2 : Nat → Nat → Int32) (v : Int64), nk - i < n → (i ≤ nk) → (zM d B V2 nk ns ne ec G2) → (zKn V V2) → (mFr B nk ns ne G G2) → Z g0 d y_Mo_digest c_Mo_digest 6 ((Option.some Jvm.ClassFile.FieldType.long)) [] p l e (zR 22 140 1172) s m args below meth c (vx_MQ below (zQc g0 d (mTp d B nk ns ne ec V G zrL)) (zXc g0 d (zNo)) args s 140 1172 (zA g0)) (12 + 7 * i) (144 + 49 * i) (G2) [(3, .int (nI i)), (1, .long v), (0, .ref (B 0))] [] 38 := by
          intro n
          induction n with
          | zero => intro i G2 V2 v h0; exact absurd h0 (Nat.not_lt_zero _)
          | succ n ih_38 =>
            intro i G2 V2 v hm_38 hi hM2 hK2 hF2
            refine z_iload_n 0 d_Mo_digest_38 rfl rfl ?_
            refine z_aload_n 2 d_Mo_digest_39 rfl rfl ?_
            refine z_get zc_Mo 6 (by decide) qF_Mo_16 hM2.mo rfl d_Mo_digest_40 ?_
            refine z_callF0 (m_AL_size hs0 hst hM2.kl) ym_AL_size zF_AL_size qM_Mo_94 zc_AL hM2.kl d_Mo_digest_43 rfl (Nat.le_of_ble_eq_true rfl) ⟨by show _ ≤ 140; omega, by show _ ≤ 1172; omega⟩ ⟨Nat.le_of_ble_eq_true rfl, Nat.le_of_ble_eq_true rfl⟩ ?_
            refine z_icmp_ge 88 d_Mo_digest_48 (by decide) (fun c_48 => ?_) (fun c_48 => ?_)
            · skip
              refine z_iconst (v := (nI 0)) d_Mo_digest_88 (by decide) ?_
              refine z_istore_n (L' := [(3, _), (1, _), (0, _)]) d_Mo_digest_89 rfl (by decide) rfl ?_
              have key_90 : ∀ (n : Nat) (i : Nat) (G2 : zG) (V2 : Nat → Nat → Int32) (v : Int64), ns - i < n → (i ≤ ns) → (zM d B V2 nk ns ne ec G2) → (zKn V V2) → (mFr B nk ns ne G G2) → Z g0 d y_Mo_digest c_Mo_digest 6 ((Option.some Jvm.ClassFile.FieldType.long)) [] p l e (zR 22 140 1172) s m args below meth c (vx_MQ below (zQc g0 d (mTp d B nk ns ne ec V G zrL)) (zXc g0 d (zNo)) args s 140 1172 (zA g0)) (68 + 10 * i) (536 + 90 * i) (G2) [(3, .int (nI i)), (1, .long v), (0, .ref (B 0))] [] 90 := by
                intro n
                induction n with
                | zero => intro i G2 V2 v h0; exact absurd h0 (Nat.not_lt_zero _)
                | succ n ih_90 =>
                  intro i G2 V2 v hm_90 hi hM2 hK2 hF2
                  refine z_iload_n 0 d_Mo_digest_90 rfl rfl ?_
                  refine z_aload_n 2 d_Mo_digest_91 rfl rfl ?_
                  refine z_get zc_Mo 7 (by decide) qF_Mo_20 hM2.mo rfl d_Mo_digest_92 ?_
                  refine z_callF0 (m_AL_size hs0 hst hM2.sl) ym_AL_size zF_AL_size qM_Mo_94 zc_AL hM2.sl d_Mo_digest_95 rfl (Nat.le_of_ble_eq_true rfl) ⟨by show _ ≤ 140; omega, by show _ ≤ 1172; omega⟩ ⟨Nat.le_of_ble_eq_true rfl, Nat.le_of_ble_eq_true rfl⟩ ?_
                  refine z_icmp_ge 268 d_Mo_digest_100 (by decide) (fun c_100 => ?_) (fun c_100 => ?_)
                  · skip
                    refine z_iconst (v := (nI 0)) d_Mo_digest_268 (by decide) ?_
                    refine z_istore_n (L' := [(3, _), (1, _), (0, _)]) d_Mo_digest_269 rfl (by decide) rfl ?_
                    have key_270 : ∀ (n : Nat) (j : Nat) (v : Int64), ne - j < n → (j ≤ ne) → Z g0 d y_Mo_digest c_Mo_digest 6 ((Option.some Jvm.ClassFile.FieldType.long)) [] p l e (zR 22 140 1172) s m args below meth c (vx_MQ below (zQc g0 d (mTp d B nk ns ne ec V G zrL)) (zXc g0 d (zNo)) args s 140 1172 (zA g0)) 128 1076 (G2) [(3, .int (nI j)), (1, .long v), (0, .ref (B 0))] [] 270 := by
                      intro n
                      induction n with
                      | zero => intro j v h0; exact absurd h0 (Nat.not_lt_zero _)
                      | succ n ih_270 =>
                        intro j v hm_270 hj
                        refine z_iload_n 0 d_Mo_digest_270 rfl rfl ?_
                        refine z_aload_n 2 d_Mo_digest_271 rfl rfl ?_
                        refine z_get zc_Mo 8 (by decide) qF_Mo_23 hM2.mo rfl d_Mo_digest_272 ?_
                        refine z_callF0 (m_AL_size hs0 hst hM2.el) ym_AL_size zF_AL_size qM_Mo_94 zc_AL hM2.el d_Mo_digest_275 rfl (Nat.le_of_ble_eq_true rfl) ⟨by show _ ≤ 140; omega, by show _ ≤ 1172; omega⟩ ⟨Nat.le_of_ble_eq_true rfl, Nat.le_of_ble_eq_true rfl⟩ ?_
                        refine z_icmp_ge 312 d_Mo_digest_280 (by decide) (fun c_280 => ?_) (fun c_280 => ?_)
                        · skip
                          refine z_lload_n 1 d_Mo_digest_312 rfl rfl ?_
                          refine z_ldc2 qXl_Mo_269 d_Mo_digest_313 ?_
                          refine z_lmul d_Mo_digest_316 ?_
                          refine z_aload_n 2 d_Mo_digest_317 rfl rfl ?_
                          refine z_callVp1 (m_Mo_isSoundNow hs0 hst hM2) ym_Mo_isSoundNow qM_Mo_263 qI_Mo_isSoundNow qV_Mo_Mo_isSoundNow zc_Mo hM2.mo d_Mo_digest_318 rfl (Nat.le_of_ble_eq_true rfl) ⟨by show _ ≤ 140; omega, by show _ ≤ 1172; omega⟩ ⟨Nat.le_of_ble_eq_true rfl, Nat.le_of_ble_eq_true rfl⟩ (fun r_318 G_318 hp_318 => ?_)
                          obtain ⟨⟨b_318, rfl⟩, V7, hM7, hK7, hF7⟩ := hp_318
                          replace hK7 := hK2.tr hK7.m.n
                          replace hF7 := hF2.tr hF7
                          refine z_if_eq 328 d_Mo_digest_321 (by decide) (fun c_321 => ?_) (fun c_321 => ?_)
                          · skip
                            refine z_iconst (v := 0) d_Mo_digest_328 (by decide) ?_
                            refine z_i2l d_Mo_digest_329 rfl ?_
                            refine z_ladd d_Mo_digest_330 ?_
                            exact z_lret rfl (⟨⟨_, rfl⟩, V7, hM7, hK7, hF7⟩) (by first | decide | omega) (by first | decide | omega) d_Mo_digest_331
                          · skip
                            refine z_iconst (v := 1) d_Mo_digest_324 (by decide) ?_
                            refine z_goto 329 d_Mo_digest_325 (by decide) ?_
                            refine z_i2l d_Mo_digest_329 rfl ?_
                            refine z_ladd d_Mo_digest_330 ?_
                            exact z_lret rfl (⟨⟨_, rfl⟩, V7, hM7, hK7, hF7⟩) (by first | decide | omega) (by first | decide | omega) d_Mo_digest_331
                        · skip
                          have hei : j < ne := Nat.lt_of_not_le fun q => c_280 (nI_le q (by omega))
                          refine z_lload_n 1 d_Mo_digest_283 rfl rfl ?_
                          refine z_ldc2 qXl_Mo_269 d_Mo_digest_284 ?_
                          refine z_lmul d_Mo_digest_287 ?_
                          refine z_aload_n 2 d_Mo_digest_288 rfl rfl ?_
                          refine z_get zc_Mo 8 (by decide) qF_Mo_23 hM2.mo rfl d_Mo_digest_289 ?_
                          refine z_iload_n 0 d_Mo_digest_292 rfl rfl ?_
                          refine z_callF0 (m_AL_get hs0 hst (hM2.eA hei) hei (if_pos hei)) ym_AL_get zF_AL_get qM_Mo_51 zc_AL (hM2.eA hei).1 d_Mo_digest_293 rfl (Nat.le_of_ble_eq_true rfl) ⟨by show _ ≤ 140; omega, by show _ ≤ 1172; omega⟩ ⟨Nat.le_of_ble_eq_true rfl, Nat.le_of_ble_eq_true rfl⟩ ?_
                          refine z_castI qK_Mo_217 (hM2.en hei) d_Mo_digest_298 ?_
                          refine z_iconst (v := (nI 3)) d_Mo_digest_301 (by decide) ?_
                          refine z_ialdN (hM2.en hei) (show 3 < 4 by decide) (by decide) d_Mo_digest_302 ?_
                          refine z_i2l d_Mo_digest_303 rfl ?_
                          refine z_ladd d_Mo_digest_304 ?_
                          refine z_lstore_n (L' := [(1, _), (3, _), (0, _)]) d_Mo_digest_305 rfl (by decide) rfl ?_
                          refine z_iinc (v := nI (j + 1)) (L' := [(3, _), (1, _), (0, _)]) 1 d_Mo_digest_306 rfl (nI_1 j) (by decide) rfl ?_
                          refine z_goto 270 d_Mo_digest_309 (by decide) ?_
                          exact ih_270 (j + 1) _ (by omega) (by omega)
                    refine z_widen (k := 128) (n := 1076) (by omega) (by omega) ?_
                    exact key_270 (ne + 1) 0 _ (by omega) (by omega)
                  · skip
                    have hi6 : i < ns := Nat.lt_of_not_le fun q => c_100 (nI_le q (by omega))
                    refine z_iconst (v := (nI 0)) d_Mo_digest_103 (by decide) ?_
                    refine z_istore (L' := [(4, _), (3, _), (1, _), (0, _)]) d_Mo_digest_104 (by decide) rfl ?_
                    have key_106 : ∀ (n : Nat) (w : Nat) (G4 : zG) (V4 : Nat → Nat → Int32) (v : Int64), 9 - w < n → (w ≤ 9) → (zM d B V4 nk ns ne ec G4) → (zKn V V4) → (mFr B nk ns ne G G4) → Z g0 d y_Mo_digest c_Mo_digest 6 ((Option.some Jvm.ClassFile.FieldType.long)) [] p l e (zR 22 140 1172) s m args below meth c (vx_MQ below (zQc g0 d (mTp d B nk ns ne ec V G zrL)) (zXc g0 d (zNo)) args s 140 1172 (zA g0)) (68 + 10 * i + w) (536 + 90 * i + 9 * w) (G4) [(4, .int (nI w)), (3, .int (nI i)), (1, .long v), (0, .ref (B 0))] [] 106 := by
                      intro n
                      induction n with
                      | zero => intro w G4 V4 v h0; exact absurd h0 (Nat.not_lt_zero _)
                      | succ n ih_106 =>
                        intro w G4 V4 v hm_106 hw hM4 hK4 hF4
                        refine z_iload 0 d_Mo_digest_106 rfl ?_
                        refine z_bipush (v := (nI 8)) d_Mo_digest_108 (by decide) ?_
                        refine z_icmp_gt 134 d_Mo_digest_110 (by decide) (fun c_110 => ?_) (fun c_110 => ?_)
                        · skip
                          refine z_iconst (v := (nI 0)) d_Mo_digest_134 (by decide) ?_
                          refine z_istore (L' := [(4, _), (3, _), (1, _), (0, _)]) d_Mo_digest_135 (by decide) rfl ?_
                          have key_137 : ∀ (n : Nat) (j : Nat) (v : Int64), nk - j < n → (j ≤ nk) → Z g0 d y_Mo_digest c_Mo_digest 6 ((Option.some Jvm.ClassFile.FieldType.long)) [] p l e (zR 22 140 1172) s m args below meth c (vx_MQ below (zQc g0 d (mTp d B nk ns ne ec V G zrL)) (zXc g0 d (zNo)) args s 140 1172 (zA g0)) (68 + 10 * i + 9) (536 + 90 * i + 81) (G4) [(4, .int (nI j)), (3, .int (nI i)), (1, .long v), (0, .ref (B 0))] [] 137 := by
                            intro n
                            induction n with
                            | zero => intro j v h0; exact absurd h0 (Nat.not_lt_zero _)
                            | succ n ih_137 =>
                              intro j v hm_137 hj
                              refine z_iload 0 d_Mo_digest_137 rfl ?_
                              refine z_aload_n 3 d_Mo_digest_139 rfl rfl ?_
                              refine z_get zc_Mo 6 (by decide) qF_Mo_16 hM4.mo rfl d_Mo_digest_140 ?_
                              refine z_callF0 (m_AL_size hs0 hst hM4.kl) ym_AL_size zF_AL_size qM_Mo_94 zc_AL hM4.kl d_Mo_digest_143 rfl (Nat.le_of_ble_eq_true rfl) ⟨by show _ ≤ 140; omega, by show _ ≤ 1172; omega⟩ ⟨Nat.le_of_ble_eq_true rfl, Nat.le_of_ble_eq_true rfl⟩ ?_
                              refine z_icmp_ge 189 d_Mo_digest_148 (by decide) (fun c_148 => ?_) (fun c_148 => ?_)
                              · skip
                                refine z_iconst (v := (nI 0)) d_Mo_digest_189 (by decide) ?_
                                refine z_istore (L' := [(4, _), (3, _), (1, _), (0, _)]) d_Mo_digest_190 (by decide) rfl ?_
                                have key_192 : ∀ (n : Nat) (w : Nat) (G6 : zG) (V6 : Nat → Nat → Int32) (v : Int64), 6 - w < n → (w ≤ 6) → (zM d B V6 nk ns ne ec G6) → (zKn V V6) → (mFr B nk ns ne G G6) → Z g0 d y_Mo_digest c_Mo_digest 6 ((Option.some Jvm.ClassFile.FieldType.long)) [] p l e (zR 22 140 1172) s m args below meth c (vx_MQ below (zQc g0 d (mTp d B nk ns ne ec V G zrL)) (zXc g0 d (zNo)) args s 140 1172 (zA g0)) (68 + 10 * i + 9) (536 + 90 * i + 81) (G6) [(4, .int (nI w)), (3, .int (nI i)), (1, .long v), (0, .ref (B 0))] [] 192 := by
                                  intro n
                                  induction n with
                                  | zero => intro w G6 V6 v h0; exact absurd h0 (Nat.not_lt_zero _)
                                  | succ n ih_192 =>
                                    intro w G6 V6 v hm_192 hw hM6 hK6 hF6
                                    refine z_iload 0 d_Mo_digest_192 rfl ?_
                                    refine z_iconst (v := (nI 5)) d_Mo_digest_194 (by decide) ?_
                                    refine z_icmp_gt 232 d_Mo_digest_195 (by decide) (fun c_195 => ?_) (fun c_195 => ?_)
                                    · skip
                                      refine z_lload_n 2 d_Mo_digest_232 rfl rfl ?_
                                      refine z_ldc2 qXl_Mo_269 d_Mo_digest_233 ?_
                                      refine z_lmul d_Mo_digest_236 ?_
                                      refine z_aload_n 3 d_Mo_digest_237 rfl rfl ?_
                                      refine z_iload_n 1 d_Mo_digest_238 rfl rfl ?_
                                      refine z_callVp0 (m_Mo_fewestNow hs0 hst hM6 hi6) ym_Mo_fewestNow qM_Mo_256 qI_Mo_fewestNow qV_Mo_Mo_fewestNow zc_Mo hM6.mo d_Mo_digest_239 rfl (Nat.le_of_ble_eq_true rfl) ⟨by show _ ≤ 140; omega, by show _ ≤ 1172; omega⟩ ⟨Nat.le_of_ble_eq_true rfl, Nat.le_of_ble_eq_true rfl⟩ (fun r_239 G_239 hp_239 => ?_)
                                      obtain ⟨⟨v_239, rfl⟩, rfl⟩ := hp_239
                                      refine z_i2l d_Mo_digest_242 rfl ?_
                                      refine z_ladd d_Mo_digest_243 ?_
                                      refine z_lstore_n (L' := [(1, _), (4, _), (3, _), (0, _)]) d_Mo_digest_244 rfl (by decide) rfl ?_
                                      refine z_lload_n 0 d_Mo_digest_245 rfl rfl ?_
                                      refine z_ldc2 qXl_Mo_269 d_Mo_digest_246 ?_
                                      refine z_lmul d_Mo_digest_249 ?_
                                      refine z_ldc2d qXd_Mo_271 d_Mo_digest_250 ?_
                                      refine z_aload_n 3 d_Mo_digest_253 rfl rfl ?_
                                      refine z_iload_n 2 d_Mo_digest_254 rfl rfl ?_
                                      refine z_callVp1 (m_Mo_lostNow hs0 hst hM6 hi6) ym_Mo_lostNow qM_Mo_252 qI_Mo_lostNow qV_Mo_Mo_lostNow zc_Mo hM6.mo d_Mo_digest_255 rfl (Nat.le_of_ble_eq_true rfl) ⟨by show _ ≤ 140; omega, by show _ ≤ 1172; omega⟩ ⟨Nat.le_of_ble_eq_true rfl, Nat.le_of_ble_eq_true rfl⟩ (fun r_255 G_255 hp_255 => ?_)
                                      obtain ⟨⟨u9, rfl, hu9⟩, V7, hM7, hK7, hF7⟩ := hp_255
                                      replace hK7 := hK6.tr hK7.m.n
                                      replace hF7 := hF6.tr hF7
                                      refine z_dmul d_Mo_digest_258 ((show zmg (FP.dmul 4661225614328463360 u9) 2000 from zmg_k hu9).nn (by decide)) ?_
                                      refine z_d2l d_Mo_digest_259 ?_
                                      refine z_ladd d_Mo_digest_260 ?_
                                      refine z_lstore_n (L' := [(1, _), (4, _), (3, _), (0, _)]) d_Mo_digest_261 rfl (by decide) rfl ?_
                                      refine z_iinc (v := nI (i + 1)) (L' := [(3, _), (1, _), (4, _), (0, _)]) 2 d_Mo_digest_262 rfl (nI_1 i) (by decide) rfl ?_
                                      refine z_goto 90 d_Mo_digest_265 (by decide) ?_
                                      refine z_sub (L' := [(3, _), (1, _), (0, _)]) [0, 1, 3] rfl ?_
                                      refine z_widen (k := (68 + 10 * (i + 1))) (n := (536 + 90 * (i + 1))) (by omega) (by omega) ?_
                                      exact ih_90 (i + 1) _ _ _ (by omega) (by omega) hM7 hK7 hF7
                                    · skip
                                      have hw6 : w ≤ 5 := Nat.le_of_not_lt fun q => c_195 ((nI_ltI (a := 5) (b := w) (by decide) (by omega)).mpr q)
                                      refine z_lload_n 2 d_Mo_digest_198 rfl rfl ?_
                                      refine z_ldc2 qXl_Mo_269 d_Mo_digest_199 ?_
                                      refine z_lmul d_Mo_digest_202 ?_
                                      refine z_aload_n 3 d_Mo_digest_203 rfl rfl ?_
                                      refine z_iload_n 1 d_Mo_digest_204 rfl rfl ?_
                                      refine z_iconst (v := 1) d_Mo_digest_205 (by decide) ?_
                                      refine z_aload_n 3 d_Mo_digest_206 rfl rfl ?_
                                      refine z_get zc_Mo 6 (by decide) qF_Mo_16 hM6.mo rfl d_Mo_digest_207 ?_
                                      refine z_callF0 (m_AL_size hs0 hst hM6.kl) ym_AL_size zF_AL_size qM_Mo_94 zc_AL hM6.kl d_Mo_digest_210 rfl (Nat.le_of_ble_eq_true rfl) ⟨by show _ ≤ 140; omega, by show _ ≤ 1172; omega⟩ ⟨Nat.le_of_ble_eq_true rfl, Nat.le_of_ble_eq_true rfl⟩ ?_
                                      refine z_ishl d_Mo_digest_215 ?_
                                      refine z_iconst (v := 1) d_Mo_digest_216 (by decide) ?_
                                      refine z_isub d_Mo_digest_217 ?_
                                      refine z_topv (v := nI (2 ^ nk - 1)) (zall_eq hnk) ?_
                                      refine z_iload 0 d_Mo_digest_218 rfl ?_
                                      refine z_callVp1 ((m_Mo_wouldNow hs0 hst hM6 hi6 (g := 2 ^ nk - 1) (by have := Nat.pow_pos (n := nk) (show 0 < 2 by decide); omega) (nI w))) ym_Mo_wouldNow qM_Mo_247 qI_Mo_wouldNow qV_Mo_Mo_wouldNow zc_Mo hM6.mo d_Mo_digest_220 rfl (Nat.le_of_ble_eq_true rfl) ⟨by show _ ≤ 140; omega, by show _ ≤ 1172; omega⟩ ⟨Nat.le_of_ble_eq_true rfl, Nat.le_of_ble_eq_true rfl⟩ (fun r_220 G_220 hp_220 => ?_)
                                      obtain ⟨⟨v_220, rfl⟩, V7, hM7, hK7, hF7⟩ := hp_220
                                      replace hK7 := hK6.tr hK7.m.n
                                      replace hF7 := hF6.tr hF7
                                      refine z_i2l d_Mo_digest_223 rfl ?_
                                      refine z_ladd d_Mo_digest_224 ?_
                                      refine z_lstore_n (L' := [(1, _), (4, _), (3, _), (0, _)]) d_Mo_digest_225 rfl (by decide) rfl ?_
                                      refine z_iinc (v := nI (w + 1)) (L' := [(4, _), (1, _), (3, _), (0, _)]) 1 d_Mo_digest_226 rfl (nI_1 w) (by decide) rfl ?_
                                      refine z_goto 192 d_Mo_digest_229 (by decide) ?_
                                      refine z_sub (L' := [(4, _), (3, _), (1, _), (0, _)]) [0, 2, 1, 3] rfl ?_
                                      exact ih_192 (w + 1) _ _ _ (by omega) (by omega) hM7 hK7 hF7
                                exact key_192 7 0 _ _ _ (by omega) (by omega) hM4 hK4 hF4
                              · skip
                                have hj6 : j < nk := Nat.lt_of_not_le fun q => c_148 (nI_le q (by omega))
                                refine z_iconst (v := (nI 0)) d_Mo_digest_151 (by decide) ?_
                                refine z_istore (L' := [(5, _), (4, _), (3, _), (1, _), (0, _)]) d_Mo_digest_152 (by decide) rfl ?_
                                have key_154 : ∀ (n : Nat) (w : Nat) (v : Int64), 3 - w < n → (w ≤ 3) → Z g0 d y_Mo_digest c_Mo_digest 6 ((Option.some Jvm.ClassFile.FieldType.long)) [] p l e (zR 22 140 1172) s m args below meth c (vx_MQ below (zQc g0 d (mTp d B nk ns ne ec V G zrL)) (zXc g0 d (zNo)) args s 140 1172 (zA g0)) (68 + 10 * i + 9) (536 + 90 * i + 81) (G4) [(5, .int (nI w)), (4, .int (nI j)), (3, .int (nI i)), (1, .long v), (0, .ref (B 0))] [] 154 := by
                                  intro n
                                  induction n with
                                  | zero => intro w v h0; exact absurd h0 (Nat.not_lt_zero _)
                                  | succ n ih_154 =>
                                    intro w v hm_154 hw
                                    refine z_iload 0 d_Mo_digest_154 rfl ?_
                                    refine z_iconst (v := (nI 2)) d_Mo_digest_156 (by decide) ?_
                                    refine z_icmp_gt 183 d_Mo_digest_157 (by decide) (fun c_157 => ?_) (fun c_157 => ?_)
                                    · skip
                                      refine z_iinc (v := nI (j + 1)) (L' := [(4, _), (5, _), (3, _), (1, _), (0, _)]) 1 d_Mo_digest_183 rfl (nI_1 j) (by decide) rfl ?_
                                      refine z_goto 137 d_Mo_digest_186 (by decide) ?_
                                      refine z_sub (L' := [(4, _), (3, _), (1, _), (0, _)]) [0, 2, 3, 4] rfl ?_
                                      exact ih_137 (j + 1) _ (by omega) (by omega)
                                    · skip
                                      have hw6 : w ≤ 2 := Nat.le_of_not_lt fun q => c_157 ((nI_ltI (a := 2) (b := w) (by decide) (by omega)).mpr q)
                                      refine z_lload_n 3 d_Mo_digest_160 rfl rfl ?_
                                      refine z_ldc2 qXl_Mo_269 d_Mo_digest_161 ?_
                                      refine z_lmul d_Mo_digest_164 ?_
                                      refine z_aload_n 4 d_Mo_digest_165 rfl rfl ?_
                                      refine z_iload_n 2 d_Mo_digest_166 rfl rfl ?_
                                      refine z_iload 1 d_Mo_digest_167 rfl ?_
                                      refine z_iload 0 d_Mo_digest_169 rfl ?_
                                      refine z_callVp0 (m_Mo_shareNow hs0 hst hM4 hi6 hj6 (nI w)) ym_Mo_shareNow qM_Mo_213 qI_Mo_shareNow qV_Mo_Mo_shareNow zc_Mo hM4.mo d_Mo_digest_171 rfl (Nat.le_of_ble_eq_true rfl) ⟨by show _ ≤ 140; omega, by show _ ≤ 1172; omega⟩ ⟨Nat.le_of_ble_eq_true rfl, Nat.le_of_ble_eq_true rfl⟩ (fun r_171 G_171 hp_171 => ?_)
                                      obtain ⟨⟨v_171, rfl⟩, rfl⟩ := hp_171
                                      refine z_i2l d_Mo_digest_174 rfl ?_
                                      refine z_ladd d_Mo_digest_175 ?_
                                      refine z_lstore_n (L' := [(1, _), (5, _), (4, _), (3, _), (0, _)]) d_Mo_digest_176 rfl (by decide) rfl ?_
                                      refine z_iinc (v := nI (w + 1)) (L' := [(5, _), (1, _), (4, _), (3, _), (0, _)]) 1 d_Mo_digest_177 rfl (nI_1 w) (by decide) rfl ?_
                                      refine z_goto 154 d_Mo_digest_180 (by decide) ?_
                                      refine z_sub (L' := [(5, _), (4, _), (3, _), (1, _), (0, _)]) [0, 2, 3, 1, 4] rfl ?_
                                      exact ih_154 (w + 1) _ (by omega) (by omega)
                                exact key_154 4 0 _ (by omega) (by omega)
                          refine z_widen (k := 68 + 10 * i + 9) (n := 536 + 90 * i + 81) (by omega) (by omega) ?_
                          exact key_137 (nk + 1) 0 _ (by omega) (by omega)
                        · skip
                          have hw6 : w ≤ 8 := Nat.le_of_not_lt fun q => c_110 ((nI_ltI (a := 8) (b := w) (by decide) (by omega)).mpr q)
                          refine z_lload_n 2 d_Mo_digest_113 rfl rfl ?_
                          refine z_ldc2 qXl_Mo_269 d_Mo_digest_114 ?_
                          refine z_lmul d_Mo_digest_117 ?_
                          refine z_aload_n 3 d_Mo_digest_118 rfl rfl ?_
                          refine z_iload_n 1 d_Mo_digest_119 rfl rfl ?_
                          refine z_iload 0 d_Mo_digest_120 rfl ?_
                          refine z_callVp1 (m_Mo_secretNow hs0 hst hM4 hi6 (show w < 9 by omega)) ym_Mo_secretNow qM_Mo_210 qI_Mo_secretNow qV_Mo_Mo_secretNow zc_Mo hM4.mo d_Mo_digest_122 rfl (Nat.le_of_ble_eq_true rfl) ⟨by show _ ≤ 140; omega, by show _ ≤ 1172; omega⟩ ⟨Nat.le_of_ble_eq_true rfl, Nat.le_of_ble_eq_true rfl⟩ (fun r_122 G_122 hp_122 => ?_)
                          obtain ⟨⟨v_122, rfl⟩, V5, hM5, hK5, hF5⟩ := hp_122
                          replace hK5 := hK4.tr hK5.m.n
                          replace hF5 := hF4.tr hF5
                          refine z_i2l d_Mo_digest_125 rfl ?_
                          refine z_ladd d_Mo_digest_126 ?_
                          refine z_lstore_n (L' := [(1, _), (4, _), (3, _), (0, _)]) d_Mo_digest_127 rfl (by decide) rfl ?_
                          refine z_iinc (v := nI (w + 1)) (L' := [(4, _), (1, _), (3, _), (0, _)]) 1 d_Mo_digest_128 rfl (nI_1 w) (by decide) rfl ?_
                          refine z_goto 106 d_Mo_digest_131 (by decide) ?_
                          refine z_sub (L' := [(4, _), (3, _), (1, _), (0, _)]) [0, 2, 1, 3] rfl ?_
                          refine z_widen (k := (68 + 10 * i + (w + 1))) (n := (536 + 90 * i + 9 * (w + 1))) (by omega) (by omega) ?_
                          exact ih_106 (w + 1) _ _ _ (by omega) (by omega) hM5 hK5 hF5
                    refine z_widen (k := 68 + 10 * i + 0) (n := 536 + 90 * i + 9 * 0) (by omega) (by omega) ?_
                    exact key_106 (9 + 1) 0 _ _ _ (by omega) (by omega) hM2 hK2 hF2
              refine z_widen (k := 68 + 10 * 0) (n := 536 + 90 * 0) (by omega) (by omega) ?_
              exact key_90 (ns + 1) 0 _ _ _ (by omega) (by omega) hM2 hK2 hF2
            · skip
              have hi6 : i < nk := Nat.lt_of_not_le fun q => c_48 (nI_le q (by omega))
              refine z_iconst (v := (nI 0)) d_Mo_digest_51 (by decide) ?_
              refine z_istore (L' := [(4, _), (3, _), (1, _), (0, _)]) d_Mo_digest_52 (by decide) rfl ?_
              have key_54 : ∀ (n : Nat) (w : Nat) (G4 : zG) (V4 : Nat → Nat → Int32) (v : Int64), 7 - w < n → (w ≤ 7) → (zM d B V4 nk ns ne ec G4) → (zKn V V4) → (mFr B nk ns ne G G4) → Z g0 d y_Mo_digest c_Mo_digest 6 ((Option.some Jvm.ClassFile.FieldType.long)) [] p l e (zR 22 140 1172) s m args below meth c (vx_MQ below (zQc g0 d (mTp d B nk ns ne ec V G zrL)) (zXc g0 d (zNo)) args s 140 1172 (zA g0)) (12 + 7 * i + w) (144 + 49 * i + 7 * w) (G4) [(4, .int (nI w)), (3, .int (nI i)), (1, .long v), (0, .ref (B 0))] [] 54 := by
                intro n
                induction n with
                | zero => intro w G4 V4 v h0; exact absurd h0 (Nat.not_lt_zero _)
                | succ n ih_54 =>
                  intro w G4 V4 v hm_54 hw hM4 hK4 hF4
                  refine z_iload 0 d_Mo_digest_54 rfl ?_
                  refine z_bipush (v := (nI 6)) d_Mo_digest_56 (by decide) ?_
                  refine z_icmp_gt 82 d_Mo_digest_58 (by decide) (fun c_58 => ?_) (fun c_58 => ?_)
                  · skip
                    refine z_iinc (v := nI (i + 1)) (L' := [(3, _), (4, _), (1, _), (0, _)]) 1 d_Mo_digest_82 rfl (nI_1 i) (by decide) rfl ?_
                    refine z_goto 38 d_Mo_digest_85 (by decide) ?_
                    refine z_sub (L' := [(3, _), (1, _), (0, _)]) [0, 2, 3] rfl ?_
                    refine z_widen (k := (12 + 7 * (i + 1))) (n := (144 + 49 * (i + 1))) (by omega) (by omega) ?_
                    exact ih_38 (i + 1) _ _ _ (by omega) (by omega) hM4 hK4 hF4
                  · skip
                    have hw6 : w ≤ 6 := Nat.le_of_not_lt fun q => c_58 ((nI_ltI (a := 6) (b := w) (by decide) (by omega)).mpr q)
                    refine z_lload_n 2 d_Mo_digest_61 rfl rfl ?_
                    refine z_ldc2 qXl_Mo_269 d_Mo_digest_62 ?_
                    refine z_lmul d_Mo_digest_65 ?_
                    refine z_aload_n 3 d_Mo_digest_66 rfl rfl ?_
                    refine z_iload_n 1 d_Mo_digest_67 rfl rfl ?_
                    refine z_iload 0 d_Mo_digest_68 rfl ?_
                    refine z_callVp1 (m_Mo_keeperNow hs0 hst hM4 hi6 (show w < 7 by omega)) ym_Mo_keeperNow qM_Mo_199 qI_Mo_keeperNow qV_Mo_Mo_keeperNow zc_Mo hM4.mo d_Mo_digest_70 rfl (Nat.le_of_ble_eq_true rfl) ⟨by show _ ≤ 140; omega, by show _ ≤ 1172; omega⟩ ⟨Nat.le_of_ble_eq_true rfl, Nat.le_of_ble_eq_true rfl⟩ (fun r_70 G_70 hp_70 => ?_)
                    obtain ⟨⟨v_70, rfl⟩, V5, hM5, hK5, hF5⟩ := hp_70
                    replace hK5 := hK4.tr hK5.m.n
                    replace hF5 := hF4.tr hF5
                    refine z_i2l d_Mo_digest_73 rfl ?_
                    refine z_ladd d_Mo_digest_74 ?_
                    refine z_lstore_n (L' := [(1, _), (4, _), (3, _), (0, _)]) d_Mo_digest_75 rfl (by decide) rfl ?_
                    refine z_iinc (v := nI (w + 1)) (L' := [(4, _), (1, _), (3, _), (0, _)]) 1 d_Mo_digest_76 rfl (nI_1 w) (by decide) rfl ?_
                    refine z_goto 54 d_Mo_digest_79 (by decide) ?_
                    refine z_sub (L' := [(4, _), (3, _), (1, _), (0, _)]) [0, 2, 1, 3] rfl ?_
                    refine z_widen (k := (12 + 7 * i + (w + 1))) (n := (144 + 49 * i + 7 * (w + 1))) (by omega) (by omega) ?_
                    exact ih_54 (w + 1) _ _ _ (by omega) (by omega) hM5 hK5 hF5
              refine z_widen (k := 12 + 7 * i + 0) (n := 144 + 49 * i + 7 * 0) (by omega) (by omega) ?_
              exact key_54 (7 + 1) 0 _ _ _ (by omega) (by omega) hM2 hK2 hF2
        refine z_widen (k := 12 + 7 * 0) (n := 144 + 49 * 0) (by omega) (by omega) ?_
        exact key_38 (nk + 1) 0 _ _ _ (by omega) (by omega) hM2 hK2 hF2
      · skip
        have hw6 : w ≤ 11 := Nat.le_of_not_lt fun q => c_14 ((nI_ltI (a := 11) (b := w) (by decide) (by omega)).mpr q)
        refine z_lload_n 1 d_Mo_digest_17 rfl rfl ?_
        refine z_ldc2 qXl_Mo_269 d_Mo_digest_18 ?_
        refine z_lmul d_Mo_digest_21 ?_
        refine z_aload_n 2 d_Mo_digest_22 rfl rfl ?_
        refine z_iload_n 0 d_Mo_digest_23 rfl rfl ?_
        refine z_callVp1 (m_Mo_bankNow hs0 hst hM2 (show w < 12 by omega)) ym_Mo_bankNow qM_Mo_225 qI_Mo_bankNow qV_Mo_Mo_bankNow zc_Mo hM2.mo d_Mo_digest_24 rfl (Nat.le_of_ble_eq_true rfl) ⟨by show _ ≤ 140; omega, by show _ ≤ 1172; omega⟩ ⟨Nat.le_of_ble_eq_true rfl, Nat.le_of_ble_eq_true rfl⟩ (fun r_24 G_24 hp_24 => ?_)
        obtain ⟨⟨v_24, rfl⟩, V3, hM3, hK3, hF3⟩ := hp_24
        replace hK3 := hK2.tr hK3.m.n
        replace hF3 := hF2.tr hF3
        refine z_i2l d_Mo_digest_27 rfl ?_
        refine z_ladd d_Mo_digest_28 ?_
        refine z_lstore_n (L' := [(1, _), (3, _), (0, _)]) d_Mo_digest_29 rfl (by decide) rfl ?_
        refine z_iinc (v := nI (w + 1)) (L' := [(3, _), (1, _), (0, _)]) 1 d_Mo_digest_30 rfl (nI_1 w) (by decide) rfl ?_
        refine z_goto 11 d_Mo_digest_33 (by decide) ?_
        refine z_widen (k := (w + 1)) (n := (12 * (w + 1))) (by omega) (by omega) ?_
        exact ih_11 (w + 1) _ _ _ (by omega) (by omega) hM3 hK3 hF3
  exact key_11 (12 + 1) 0 _ _ _ (by omega) (by omega) hM1 hK1 hF1
