section LCX
variable {G : GT} {Q : Outcome → Hp → Prop} {h : Hp} {x m b L k i : Nat} {xs : Nat → Int32} {nm : String} {hs : List (Nat × Nat × Nat × Nat)} {z5 z6 : Option Value}
theorem g_suite (hxm : x + 12 < m) (hbg : b < gb G) (hL : L ≤ 2048) (hi : i + 4 ≤ L) (hik : i = 4 * k) (hS : LZ G x m b L xs k h) (kk : ∀ h' z5 z6, LZ G x m b L xs (k + 1) h' → Jx G (mLaw nm hs) 17 Q 1012 [some (.ref b), some (.ref x), some (.ref m), some (.ref (m + 24)), some (.int (nI i)), z5, z6] [] h') : Jx G (mLaw nm hs) 17 Q 112 [some (.ref b), some (.ref x), some (.ref m), some (.ref (m + 24)), some (.int (nI i)), z5, z6] [] h := by
  obtain ⟨u, E, X, ov, lv, sf, md, t, f, hA, hlv, hR, ho, hI, hb, hr⟩ := hS
  have hg := hA.gx
  refine x_aload_n dL_law_112 rfl rfl ?_
  refine x_aload_n dL_law_113 rfl rfl ?_
  refine x_iload dL_law_114 rfl ?_
  refine x_iconst (v := nI 1) dL_law_116 (by decide) ?_
  refine x_iadd dL_law_117 ?_
  try simp only [pk_mul, nI_add]
  refine x_iaload dL_law_118 (by assumption) (vp_in_nI (by omega) (by omega)) ?_
  rw [nI_clamp (by omega)]
  refine x_aload_n dL_law_119 rfl rfl ?_
  refine x_iload dL_law_120 rfl ?_
  refine x_iconst (v := nI 2) dL_law_122 (by decide) ?_
  refine x_iadd dL_law_123 ?_
  try simp only [pk_mul, nI_add]
  refine x_iaload dL_law_124 (by assumption) (vp_in_nI (by omega) (by omega)) ?_
  rw [nI_clamp (by omega)]
  refine x_aload_n dL_law_125 rfl rfl ?_
  refine x_callSH dL_law_126 ss_L_64 (Nat.le_of_ble_eq_true rfl) rfl (Nat.le_of_ble_eq_true rfl) ?_
  refine l_suite (d := 3) hA hlv hI (by omega) ho (by omega) (by omega) (hr.mono (by omega)) (fun h1 E1 X1 ov1 lv1 sf1 f1 hA1 hlv1 hK1 ho1 hv1 => kh_v dr_4 ?_)
  have hR1 := hR.ext (fun a a1 a2 => hK1.1 a (by omega) (by omega))
  have hb1 := (hK1.1 b (by omega) (by omega)).trans hb
  obtain ⟨fs1, hc1⟩ := hR1.cell
  refine y_istore dL_law_129 rfl lvs_7_5 ?_
  refine x_aload_n dL_law_131 rfl rfl ?_
  refine x_aload_n dL_law_132 rfl rfl ?_
  refine x_iload dL_law_133 rfl ?_
  refine x_iconst (v := nI 1) dL_law_135 (by decide) ?_
  refine x_iadd dL_law_136 ?_
  try simp only [pk_mul, nI_add]
  refine x_iaload dL_law_137 (by assumption) (vp_in_nI (by omega) (by omega)) ?_
  rw [nI_clamp (by omega)]
  refine x_aload_n dL_law_138 rfl rfl ?_
  refine x_iload dL_law_139 rfl ?_
  refine x_iconst (v := nI 2) dL_law_141 (by decide) ?_
  refine x_iadd dL_law_142 ?_
  try simp only [pk_mul, nI_add]
  refine x_iaload dL_law_143 (by assumption) (vp_in_nI (by omega) (by omega)) ?_
  rw [nI_clamp (by omega)]
  refine x_callVH dL_law_144 sv_L_69_10 rfl hc1 rfl (Nat.le_of_ble_eq_true rfl) ?_
  refine r_suite hR1 (fun h2 md2 hR2 hF2 => kh_v dr_3 ?_)
  obtain ⟨fs2, hc2⟩ := hR2.cell
  have hN := LZ.next hxm hbg (by omega) hA1 hlv1 hK1 ho1 hR2 hF2 (hI.s_suite.mono (by omega)) hb hr
  refine y_istore dL_law_147 rfl lvs_7_6 ?_
  refine x_aload_n dL_law_149 rfl rfl ?_
  refine x_callVH dL_law_150 sv_L_70_10 rfl hc2 rfl (Nat.le_of_ble_eq_true rfl) ?_
  refine r_thrown hR2 (kh_v dr_1 ?_)
  refine x_iload dL_law_153 rfl ?_
  refine x_icmp_eq (tgt := 160) dL_law_155 (by decide) (fun c1 => ?_) (fun c1 => ?_)
  · refine x_iload dL_law_160 rfl ?_
    refine x_if_ne (tgt := 177) dL_law_162 (by decide) (fun c2 => ?_) (fun c2 => ?_)
    · refine x_goto (tgt := 1012) dL_law_177 (by decide) ?_
      exact kk _ _ _ hN
    refine x_aload_n dL_law_165 rfl rfl ?_
    refine x_iconst (v := nI 0) dL_law_166 (by decide) ?_
    refine x_laload dL_law_167 ((hF2.1 _ (by omega)).trans ho1) (vp_in_nI (by omega) (by omega)) ?_
    rw [nI_clamp (by omega), hv1 rfl (Eq.trans c2 nI_0.symm)]
    refine x_iload dL_law_168 rfl ?_
    refine x_i2l dL_law_170 ?_
    refine x_lcmp dL_law_171 ?_
    refine x_if_eq (tgt := 177) dL_law_172 (by decide) (fun c3 => ?_) (fun c3 => ?_)
    · refine x_goto (tgt := 1012) dL_law_177 (by decide) ?_
      exact kk _ _ _ hN
    · exact absurd ((lg_cmp_eq _ _).mpr rfl) c3
  · exact absurd rfl c1
theorem g_range (hxm : x + 12 < m) (hbg : b < gb G) (hL : L ≤ 2048) (hi : i + 4 ≤ L) (hik : i = 4 * k) (hS : LZ G x m b L xs k h) (kk : ∀ h' z5 z6, LZ G x m b L xs (k + 1) h' → Jx G (mLaw nm hs) 17 Q 1012 [some (.ref b), some (.ref x), some (.ref m), some (.ref (m + 24)), some (.int (nI i)), z5, z6] [] h') : Jx G (mLaw nm hs) 17 Q 180 [some (.ref b), some (.ref x), some (.ref m), some (.ref (m + 24)), some (.int (nI i)), z5, z6] [] h := by
  obtain ⟨u, E, X, ov, lv, sf, md, t, f, hA, hlv, hR, ho, hI, hb, hr⟩ := hS
  have hg := hA.gx
  refine x_aload_n dL_law_180 rfl rfl ?_
  refine x_aload_n dL_law_181 rfl rfl ?_
  refine x_iload dL_law_182 rfl ?_
  refine x_iconst (v := nI 1) dL_law_184 (by decide) ?_
  refine x_iadd dL_law_185 ?_
  try simp only [pk_mul, nI_add]
  refine x_iaload dL_law_186 (by assumption) (vp_in_nI (by omega) (by omega)) ?_
  rw [nI_clamp (by omega)]
  refine x_aload_n dL_law_187 rfl rfl ?_
  refine x_iload dL_law_188 rfl ?_
  refine x_iconst (v := nI 2) dL_law_190 (by decide) ?_
  refine x_iadd dL_law_191 ?_
  try simp only [pk_mul, nI_add]
  refine x_iaload dL_law_192 (by assumption) (vp_in_nI (by omega) (by omega)) ?_
  rw [nI_clamp (by omega)]
  refine x_aload_n dL_law_193 rfl rfl ?_
  refine x_iload dL_law_194 rfl ?_
  refine x_iconst (v := nI 3) dL_law_196 (by decide) ?_
  refine x_iadd dL_law_197 ?_
  try simp only [pk_mul, nI_add]
  refine x_iaload dL_law_198 (by assumption) (vp_in_nI (by omega) (by omega)) ?_
  rw [nI_clamp (by omega)]
  refine x_aload_n dL_law_199 rfl rfl ?_
  refine x_callSH dL_law_200 ss_L_74 (Nat.le_of_ble_eq_true rfl) rfl (Nat.le_of_ble_eq_true rfl) ?_
  refine l_range (d := 3) hA hlv hI (by omega) ho (by omega) (by omega) (hr.mono (by omega)) (fun h1 E1 X1 ov1 lv1 sf1 f1 hA1 hlv1 hK1 ho1 hv1 => kh_v dr_5 ?_)
  have hR1 := hR.ext (fun a a1 a2 => hK1.1 a (by omega) (by omega))
  have hb1 := (hK1.1 b (by omega) (by omega)).trans hb
  obtain ⟨fs1, hc1⟩ := hR1.cell
  refine y_istore dL_law_203 rfl lvs_7_5 ?_
  refine x_aload_n dL_law_205 rfl rfl ?_
  refine x_aload_n dL_law_206 rfl rfl ?_
  refine x_iload dL_law_207 rfl ?_
  refine x_iconst (v := nI 1) dL_law_209 (by decide) ?_
  refine x_iadd dL_law_210 ?_
  try simp only [pk_mul, nI_add]
  refine x_iaload dL_law_211 (by assumption) (vp_in_nI (by omega) (by omega)) ?_
  rw [nI_clamp (by omega)]
  refine x_aload_n dL_law_212 rfl rfl ?_
  refine x_iload dL_law_213 rfl ?_
  refine x_iconst (v := nI 2) dL_law_215 (by decide) ?_
  refine x_iadd dL_law_216 ?_
  try simp only [pk_mul, nI_add]
  refine x_iaload dL_law_217 (by assumption) (vp_in_nI (by omega) (by omega)) ?_
  rw [nI_clamp (by omega)]
  refine x_aload_n dL_law_218 rfl rfl ?_
  refine x_iload dL_law_219 rfl ?_
  refine x_iconst (v := nI 3) dL_law_221 (by decide) ?_
  refine x_iadd dL_law_222 ?_
  try simp only [pk_mul, nI_add]
  refine x_iaload dL_law_223 (by assumption) (vp_in_nI (by omega) (by omega)) ?_
  rw [nI_clamp (by omega)]
  refine x_callVH dL_law_224 sv_L_77_10 rfl hc1 rfl (Nat.le_of_ble_eq_true rfl) ?_
  refine r_range hR1 (fun h2 hR2 hF2 => kh_v dr_4 ?_)
  obtain ⟨fs2, hc2⟩ := hR2.cell
  have hN := LZ.next hxm hbg (by omega) hA1 hlv1 hK1 ho1 hR2 hF2 (hI.s_range.mono (by omega)) hb hr
  refine y_istore dL_law_227 rfl lvs_7_6 ?_
  refine x_aload_n dL_law_229 rfl rfl ?_
  refine x_callVH dL_law_230 sv_L_70_10 rfl hc2 rfl (Nat.le_of_ble_eq_true rfl) ?_
  refine r_thrown hR2 (kh_v dr_1 ?_)
  refine x_iload dL_law_233 rfl ?_
  refine x_icmp_eq (tgt := 240) dL_law_235 (by decide) (fun c1 => ?_) (fun c1 => ?_)
  · refine x_iload dL_law_240 rfl ?_
    refine x_if_ne (tgt := 257) dL_law_242 (by decide) (fun c2 => ?_) (fun c2 => ?_)
    · refine x_goto (tgt := 1012) dL_law_257 (by decide) ?_
      exact kk _ _ _ hN
    refine x_aload_n dL_law_245 rfl rfl ?_
    refine x_iconst (v := nI 0) dL_law_246 (by decide) ?_
    refine x_laload dL_law_247 ((hF2.1 _ (by omega)).trans ho1) (vp_in_nI (by omega) (by omega)) ?_
    rw [nI_clamp (by omega), hv1 rfl (Eq.trans c2 nI_0.symm)]
    refine x_iload dL_law_248 rfl ?_
    refine x_i2l dL_law_250 ?_
    refine x_lcmp dL_law_251 ?_
    refine x_if_eq (tgt := 257) dL_law_252 (by decide) (fun c3 => ?_) (fun c3 => ?_)
    · refine x_goto (tgt := 1012) dL_law_257 (by decide) ?_
      exact kk _ _ _ hN
    · exact absurd ((lg_cmp_eq _ _).mpr rfl) c3
  · exact absurd rfl c1
theorem g_seed (hxm : x + 12 < m) (hbg : b < gb G) (hL : L ≤ 2048) (hi : i + 4 ≤ L) (hik : i = 4 * k) (hS : LZ G x m b L xs k h) (kk : ∀ h' z5 z6, LZ G x m b L xs (k + 1) h' → Jx G (mLaw nm hs) 17 Q 1012 [some (.ref b), some (.ref x), some (.ref m), some (.ref (m + 24)), some (.int (nI i)), z5, z6] [] h') : Jx G (mLaw nm hs) 17 Q 260 [some (.ref b), some (.ref x), some (.ref m), some (.ref (m + 24)), some (.int (nI i)), z5, z6] [] h := by
  obtain ⟨u, E, X, ov, lv, sf, md, t, f, hA, hlv, hR, ho, hI, hb, hr⟩ := hS
  have hg := hA.gx
  refine x_aload_n dL_law_260 rfl rfl ?_
  refine x_aload_n dL_law_261 rfl rfl ?_
  refine x_iload dL_law_262 rfl ?_
  refine x_iconst (v := nI 1) dL_law_264 (by decide) ?_
  refine x_iadd dL_law_265 ?_
  try simp only [pk_mul, nI_add]
  refine x_iaload dL_law_266 (by assumption) (vp_in_nI (by omega) (by omega)) ?_
  rw [nI_clamp (by omega)]
  refine x_aload_n dL_law_267 rfl rfl ?_
  refine x_iload dL_law_268 rfl ?_
  refine x_iconst (v := nI 2) dL_law_270 (by decide) ?_
  refine x_iadd dL_law_271 ?_
  try simp only [pk_mul, nI_add]
  refine x_iaload dL_law_272 (by assumption) (vp_in_nI (by omega) (by omega)) ?_
  rw [nI_clamp (by omega)]
  refine x_callSH dL_law_273 ss_L_78 (Nat.le_of_ble_eq_true rfl) rfl (Nat.le_of_ble_eq_true rfl) ?_
  refine l_seed (d := 3) hA hlv hI (by omega) ho (by omega) (by omega) (hr.mono (by omega)) (fun h1 E1 X1 ov1 lv1 sf1 f1 hA1 hlv1 hK1 ho1 hv1 => kh_v dr_3 ?_)
  have hR1 := hR.ext (fun a a1 a2 => hK1.1 a (by omega) (by omega))
  have hb1 := (hK1.1 b (by omega) (by omega)).trans hb
  obtain ⟨fs1, hc1⟩ := hR1.cell
  refine y_istore dL_law_276 rfl lvs_7_5 ?_
  refine x_aload_n dL_law_278 rfl rfl ?_
  refine x_aload_n dL_law_279 rfl rfl ?_
  refine x_iload dL_law_280 rfl ?_
  refine x_iconst (v := nI 1) dL_law_282 (by decide) ?_
  refine x_iadd dL_law_283 ?_
  try simp only [pk_mul, nI_add]
  refine x_iaload dL_law_284 (by assumption) (vp_in_nI (by omega) (by omega)) ?_
  rw [nI_clamp (by omega)]
  refine x_aload_n dL_law_285 rfl rfl ?_
  refine x_iload dL_law_286 rfl ?_
  refine x_iconst (v := nI 2) dL_law_288 (by decide) ?_
  refine x_iadd dL_law_289 ?_
  try simp only [pk_mul, nI_add]
  refine x_iaload dL_law_290 (by assumption) (vp_in_nI (by omega) (by omega)) ?_
  rw [nI_clamp (by omega)]
  refine x_callVH dL_law_291 sv_L_81_10 rfl hc1 rfl (Nat.le_of_ble_eq_true rfl) ?_
  refine r_seed hR1 (fun h2 hR2 hF2 => kh_n dr_3 ?_)
  obtain ⟨fs2, hc2⟩ := hR2.cell
  have hN := LZ.next hxm hbg (by omega) hA1 hlv1 hK1 ho1 hR2 hF2 (hI.s_seed.mono (by omega)) hb hr
  refine x_aload_n dL_law_294 rfl rfl ?_
  refine x_callVH dL_law_295 sv_L_70_10 rfl hc2 rfl (Nat.le_of_ble_eq_true rfl) ?_
  refine r_thrown hR2 (kh_v dr_1 ?_)
  refine x_iload dL_law_298 rfl ?_
  refine x_icmp_eq (tgt := 305) dL_law_300 (by decide) (fun c1 => ?_) (fun c1 => ?_)
  · refine x_goto (tgt := 1012) dL_law_305 (by decide) ?_
    exact kk _ _ _ hN
  · exact absurd rfl c1
theorem g_wish (hxm : x + 12 < m) (hbg : b < gb G) (hL : L ≤ 2048) (hi : i + 4 ≤ L) (hik : i = 4 * k) (hS : LZ G x m b L xs k h) (kk : ∀ h' z5 z6, LZ G x m b L xs (k + 1) h' → Jx G (mLaw nm hs) 17 Q 1012 [some (.ref b), some (.ref x), some (.ref m), some (.ref (m + 24)), some (.int (nI i)), z5, z6] [] h') : Jx G (mLaw nm hs) 17 Q 308 [some (.ref b), some (.ref x), some (.ref m), some (.ref (m + 24)), some (.int (nI i)), z5, z6] [] h := by
  obtain ⟨u, E, X, ov, lv, sf, md, t, f, hA, hlv, hR, ho, hI, hb, hr⟩ := hS
  have hg := hA.gx
  refine x_aload_n dL_law_308 rfl rfl ?_
  refine x_aload_n dL_law_309 rfl rfl ?_
  refine x_iload dL_law_310 rfl ?_
  refine x_iconst (v := nI 1) dL_law_312 (by decide) ?_
  refine x_iadd dL_law_313 ?_
  try simp only [pk_mul, nI_add]
  refine x_iaload dL_law_314 (by assumption) (vp_in_nI (by omega) (by omega)) ?_
  rw [nI_clamp (by omega)]
  refine x_aload_n dL_law_315 rfl rfl ?_
  refine x_iload dL_law_316 rfl ?_
  refine x_iconst (v := nI 2) dL_law_318 (by decide) ?_
  refine x_iadd dL_law_319 ?_
  try simp only [pk_mul, nI_add]
  refine x_iaload dL_law_320 (by assumption) (vp_in_nI (by omega) (by omega)) ?_
  rw [nI_clamp (by omega)]
  refine x_aload_n dL_law_321 rfl rfl ?_
  refine x_iload dL_law_322 rfl ?_
  refine x_iconst (v := nI 3) dL_law_324 (by decide) ?_
  refine x_iadd dL_law_325 ?_
  try simp only [pk_mul, nI_add]
  refine x_iaload dL_law_326 (by assumption) (vp_in_nI (by omega) (by omega)) ?_
  rw [nI_clamp (by omega)]
  refine x_aload_n dL_law_327 rfl rfl ?_
  refine x_callSH dL_law_328 ss_L_82 (Nat.le_of_ble_eq_true rfl) rfl (Nat.le_of_ble_eq_true rfl) ?_
  refine l_wish (d := 3) hA hlv hI (by omega) ho (by omega) (by omega) (hr.mono (by omega)) (fun h1 E1 X1 ov1 lv1 sf1 f1 hA1 hlv1 hK1 ho1 hv1 => kh_v dr_5 ?_)
  have hR1 := hR.ext (fun a a1 a2 => hK1.1 a (by omega) (by omega))
  have hb1 := (hK1.1 b (by omega) (by omega)).trans hb
  obtain ⟨fs1, hc1⟩ := hR1.cell
  refine y_istore dL_law_331 rfl lvs_7_5 ?_
  refine x_aload_n dL_law_333 rfl rfl ?_
  refine x_aload_n dL_law_334 rfl rfl ?_
  refine x_iload dL_law_335 rfl ?_
  refine x_iconst (v := nI 1) dL_law_337 (by decide) ?_
  refine x_iadd dL_law_338 ?_
  try simp only [pk_mul, nI_add]
  refine x_iaload dL_law_339 (by assumption) (vp_in_nI (by omega) (by omega)) ?_
  rw [nI_clamp (by omega)]
  refine x_aload_n dL_law_340 rfl rfl ?_
  refine x_iload dL_law_341 rfl ?_
  refine x_iconst (v := nI 2) dL_law_343 (by decide) ?_
  refine x_iadd dL_law_344 ?_
  try simp only [pk_mul, nI_add]
  refine x_iaload dL_law_345 (by assumption) (vp_in_nI (by omega) (by omega)) ?_
  rw [nI_clamp (by omega)]
  refine x_aload_n dL_law_346 rfl rfl ?_
  refine x_iload dL_law_347 rfl ?_
  refine x_iconst (v := nI 3) dL_law_349 (by decide) ?_
  refine x_iadd dL_law_350 ?_
  try simp only [pk_mul, nI_add]
  refine x_iaload dL_law_351 (by assumption) (vp_in_nI (by omega) (by omega)) ?_
  rw [nI_clamp (by omega)]
  refine x_callVH dL_law_352 sv_L_84_10 rfl hc1 rfl (Nat.le_of_ble_eq_true rfl) ?_
  refine r_wish hR1 (fun p hp => (hI.2 p hp).1) (fun h2 md2 hR2 hF2 => kh_v dr_4 ?_)
  obtain ⟨fs2, hc2⟩ := hR2.cell
  have hN := LZ.next hxm hbg (by omega) hA1 hlv1 hK1 ho1 hR2 hF2 ((hI.s_wish (by omega)).mono (by omega)) hb hr
  refine y_istore dL_law_355 rfl lvs_7_6 ?_
  refine x_aload_n dL_law_357 rfl rfl ?_
  refine x_callVH dL_law_358 sv_L_70_10 rfl hc2 rfl (Nat.le_of_ble_eq_true rfl) ?_
  refine r_thrown hR2 (kh_v dr_1 ?_)
  refine x_iload dL_law_361 rfl ?_
  refine x_icmp_eq (tgt := 368) dL_law_363 (by decide) (fun c1 => ?_) (fun c1 => ?_)
  · refine x_iload dL_law_368 rfl ?_
    refine x_if_ne (tgt := 385) dL_law_370 (by decide) (fun c2 => ?_) (fun c2 => ?_)
    · refine x_goto (tgt := 1012) dL_law_385 (by decide) ?_
      exact kk _ _ _ hN
    refine x_aload_n dL_law_373 rfl rfl ?_
    refine x_iconst (v := nI 0) dL_law_374 (by decide) ?_
    refine x_laload dL_law_375 ((hF2.1 _ (by omega)).trans ho1) (vp_in_nI (by omega) (by omega)) ?_
    rw [nI_clamp (by omega), hv1 rfl (Eq.trans c2 nI_0.symm)]
    refine x_iload dL_law_376 rfl ?_
    refine x_i2l dL_law_378 ?_
    refine x_lcmp dL_law_379 ?_
    refine x_if_eq (tgt := 385) dL_law_380 (by decide) (fun c3 => ?_) (fun c3 => ?_)
    · refine x_goto (tgt := 1012) dL_law_385 (by decide) ?_
      exact kk _ _ _ hN
    · exact absurd ((lg_cmp_eq _ _).mpr rfl) c3
  · exact absurd rfl c1
theorem g_deliver (hxm : x + 12 < m) (hbg : b < gb G) (hL : L ≤ 2048) (hi : i + 4 ≤ L) (hik : i = 4 * k) (hS : LZ G x m b L xs k h) (kk : ∀ h' z5 z6, LZ G x m b L xs (k + 1) h' → Jx G (mLaw nm hs) 17 Q 1012 [some (.ref b), some (.ref x), some (.ref m), some (.ref (m + 24)), some (.int (nI i)), z5, z6] [] h') : Jx G (mLaw nm hs) 17 Q 388 [some (.ref b), some (.ref x), some (.ref m), some (.ref (m + 24)), some (.int (nI i)), z5, z6] [] h := by
  obtain ⟨u, E, X, ov, lv, sf, md, t, f, hA, hlv, hR, ho, hI, hb, hr⟩ := hS
  have hg := hA.gx
  refine x_aload_n dL_law_388 rfl rfl ?_
  refine x_aload_n dL_law_389 rfl rfl ?_
  refine x_iload dL_law_390 rfl ?_
  refine x_iconst (v := nI 1) dL_law_392 (by decide) ?_
  refine x_iadd dL_law_393 ?_
  try simp only [pk_mul, nI_add]
  refine x_iaload dL_law_394 (by assumption) (vp_in_nI (by omega) (by omega)) ?_
  rw [nI_clamp (by omega)]
  refine x_aload_n dL_law_395 rfl rfl ?_
  refine x_iload dL_law_396 rfl ?_
  refine x_iconst (v := nI 2) dL_law_398 (by decide) ?_
  refine x_iadd dL_law_399 ?_
  try simp only [pk_mul, nI_add]
  refine x_iaload dL_law_400 (by assumption) (vp_in_nI (by omega) (by omega)) ?_
  rw [nI_clamp (by omega)]
  refine x_aload_n dL_law_401 rfl rfl ?_
  refine x_callSH dL_law_402 ss_L_85 (Nat.le_of_ble_eq_true rfl) rfl (Nat.le_of_ble_eq_true rfl) ?_
  refine l_deliver (d := 3) hA hlv hI (by omega) ho (by omega) (by omega) (hr.mono (by omega)) (fun h1 E1 X1 ov1 lv1 sf1 f1 hA1 hlv1 hK1 ho1 hv1 => kh_v dr_4 ?_)
  have hR1 := hR.ext (fun a a1 a2 => hK1.1 a (by omega) (by omega))
  have hb1 := (hK1.1 b (by omega) (by omega)).trans hb
  obtain ⟨fs1, hc1⟩ := hR1.cell
  refine y_istore dL_law_405 rfl lvs_7_5 ?_
  refine x_aload_n dL_law_407 rfl rfl ?_
  refine x_aload_n dL_law_408 rfl rfl ?_
  refine x_iload dL_law_409 rfl ?_
  refine x_iconst (v := nI 1) dL_law_411 (by decide) ?_
  refine x_iadd dL_law_412 ?_
  try simp only [pk_mul, nI_add]
  refine x_iaload dL_law_413 (by assumption) (vp_in_nI (by omega) (by omega)) ?_
  rw [nI_clamp (by omega)]
  refine x_aload_n dL_law_414 rfl rfl ?_
  refine x_iload dL_law_415 rfl ?_
  refine x_iconst (v := nI 2) dL_law_417 (by decide) ?_
  refine x_iadd dL_law_418 ?_
  try simp only [pk_mul, nI_add]
  refine x_iaload dL_law_419 (by assumption) (vp_in_nI (by omega) (by omega)) ?_
  rw [nI_clamp (by omega)]
  refine x_callVH dL_law_420 sv_L_87_10 rfl hc1 rfl (Nat.le_of_ble_eq_true rfl) ?_
  refine r_deliver hR1 (fun p hp pk hpk => (hA.okPk p hp pk hpk).1) (fun p hp => by have := (hI.2 p hp).1; omega) (fun h2 md2 hR2 hF2 => kh_v dr_3 ?_)
  obtain ⟨fs2, hc2⟩ := hR2.cell
  have hN := LZ.next hxm hbg (by omega) hA1 hlv1 hK1 ho1 hR2 hF2 ((hI.s_deliver (by omega) (fun p hp => (hI.1.len hp).2) (fun p hp pk hpk => (hA.okPk p hp pk hpk).2)).mono (by omega)) hb hr
  refine y_istore dL_law_423 rfl lvs_7_6 ?_
  refine x_aload_n dL_law_425 rfl rfl ?_
  refine x_callVH dL_law_426 sv_L_70_10 rfl hc2 rfl (Nat.le_of_ble_eq_true rfl) ?_
  refine r_thrown hR2 (kh_v dr_1 ?_)
  refine x_iload dL_law_429 rfl ?_
  refine x_icmp_eq (tgt := 436) dL_law_431 (by decide) (fun c1 => ?_) (fun c1 => ?_)
  · refine x_iload dL_law_436 rfl ?_
    refine x_if_ne (tgt := 453) dL_law_438 (by decide) (fun c2 => ?_) (fun c2 => ?_)
    · refine x_goto (tgt := 1012) dL_law_453 (by decide) ?_
      exact kk _ _ _ hN
    refine x_aload_n dL_law_441 rfl rfl ?_
    refine x_iconst (v := nI 0) dL_law_442 (by decide) ?_
    refine x_laload dL_law_443 ((hF2.1 _ (by omega)).trans ho1) (vp_in_nI (by omega) (by omega)) ?_
    rw [nI_clamp (by omega), hv1 rfl (Eq.trans c2 nI_0.symm)]
    refine x_iload dL_law_444 rfl ?_
    refine x_i2l dL_law_446 ?_
    refine x_lcmp dL_law_447 ?_
    refine x_if_eq (tgt := 453) dL_law_448 (by decide) (fun c3 => ?_) (fun c3 => ?_)
    · refine x_goto (tgt := 1012) dL_law_453 (by decide) ?_
      exact kk _ _ _ hN
    · exact absurd ((lg_cmp_eq _ _).mpr rfl) c3
  · exact absurd rfl c1
theorem g_lose (hxm : x + 12 < m) (hbg : b < gb G) (hL : L ≤ 2048) (hi : i + 4 ≤ L) (hik : i = 4 * k) (hS : LZ G x m b L xs k h) (kk : ∀ h' z5 z6, LZ G x m b L xs (k + 1) h' → Jx G (mLaw nm hs) 17 Q 1012 [some (.ref b), some (.ref x), some (.ref m), some (.ref (m + 24)), some (.int (nI i)), z5, z6] [] h') : Jx G (mLaw nm hs) 17 Q 456 [some (.ref b), some (.ref x), some (.ref m), some (.ref (m + 24)), some (.int (nI i)), z5, z6] [] h := by
  obtain ⟨u, E, X, ov, lv, sf, md, t, f, hA, hlv, hR, ho, hI, hb, hr⟩ := hS
  have hg := hA.gx
  refine x_aload_n dL_law_456 rfl rfl ?_
  refine x_aload_n dL_law_457 rfl rfl ?_
  refine x_iload dL_law_458 rfl ?_
  refine x_iconst (v := nI 1) dL_law_460 (by decide) ?_
  refine x_iadd dL_law_461 ?_
  try simp only [pk_mul, nI_add]
  refine x_iaload dL_law_462 (by assumption) (vp_in_nI (by omega) (by omega)) ?_
  rw [nI_clamp (by omega)]
  refine x_aload_n dL_law_463 rfl rfl ?_
  refine x_iload dL_law_464 rfl ?_
  refine x_iconst (v := nI 2) dL_law_466 (by decide) ?_
  refine x_iadd dL_law_467 ?_
  try simp only [pk_mul, nI_add]
  refine x_iaload dL_law_468 (by assumption) (vp_in_nI (by omega) (by omega)) ?_
  rw [nI_clamp (by omega)]
  refine x_aload_n dL_law_469 rfl rfl ?_
  refine x_callSH dL_law_470 ss_L_88 (Nat.le_of_ble_eq_true rfl) rfl (Nat.le_of_ble_eq_true rfl) ?_
  refine l_lose (d := 3) hA hlv hI (by omega) ho (by omega) (by omega) (hr.mono (by omega)) (fun h1 E1 X1 ov1 lv1 sf1 f1 hA1 hlv1 hK1 ho1 hv1 => kh_v dr_4 ?_)
  have hR1 := hR.ext (fun a a1 a2 => hK1.1 a (by omega) (by omega))
  have hb1 := (hK1.1 b (by omega) (by omega)).trans hb
  obtain ⟨fs1, hc1⟩ := hR1.cell
  refine y_istore dL_law_473 rfl lvs_7_5 ?_
  refine x_aload_n dL_law_475 rfl rfl ?_
  refine x_aload_n dL_law_476 rfl rfl ?_
  refine x_iload dL_law_477 rfl ?_
  refine x_iconst (v := nI 1) dL_law_479 (by decide) ?_
  refine x_iadd dL_law_480 ?_
  try simp only [pk_mul, nI_add]
  refine x_iaload dL_law_481 (by assumption) (vp_in_nI (by omega) (by omega)) ?_
  rw [nI_clamp (by omega)]
  refine x_aload_n dL_law_482 rfl rfl ?_
  refine x_iload dL_law_483 rfl ?_
  refine x_iconst (v := nI 2) dL_law_485 (by decide) ?_
  refine x_iadd dL_law_486 ?_
  try simp only [pk_mul, nI_add]
  refine x_iaload dL_law_487 (by assumption) (vp_in_nI (by omega) (by omega)) ?_
  rw [nI_clamp (by omega)]
  refine x_callVH dL_law_488 sv_L_90_10 rfl hc1 rfl (Nat.le_of_ble_eq_true rfl) ?_
  refine r_lose hR1 (fun h2 md2 hR2 hF2 => kh_v dr_3 ?_)
  obtain ⟨fs2, hc2⟩ := hR2.cell
  have hN := LZ.next hxm hbg (by omega) hA1 hlv1 hK1 ho1 hR2 hF2 ((hI.s_lose (fun p hp => (hI.1.len hp).2)).mono (by omega)) hb hr
  refine y_istore dL_law_491 rfl lvs_7_6 ?_
  refine x_aload_n dL_law_493 rfl rfl ?_
  refine x_callVH dL_law_494 sv_L_70_10 rfl hc2 rfl (Nat.le_of_ble_eq_true rfl) ?_
  refine r_thrown hR2 (kh_v dr_1 ?_)
  refine x_iload dL_law_497 rfl ?_
  refine x_icmp_eq (tgt := 504) dL_law_499 (by decide) (fun c1 => ?_) (fun c1 => ?_)
  · refine x_iload dL_law_504 rfl ?_
    refine x_if_ne (tgt := 521) dL_law_506 (by decide) (fun c2 => ?_) (fun c2 => ?_)
    · refine x_goto (tgt := 1012) dL_law_521 (by decide) ?_
      exact kk _ _ _ hN
    refine x_aload_n dL_law_509 rfl rfl ?_
    refine x_iconst (v := nI 0) dL_law_510 (by decide) ?_
    refine x_laload dL_law_511 ((hF2.1 _ (by omega)).trans ho1) (vp_in_nI (by omega) (by omega)) ?_
    rw [nI_clamp (by omega), hv1 rfl (Eq.trans c2 nI_0.symm)]
    refine x_iload dL_law_512 rfl ?_
    refine x_i2l dL_law_514 ?_
    refine x_lcmp dL_law_515 ?_
    refine x_if_eq (tgt := 521) dL_law_516 (by decide) (fun c3 => ?_) (fun c3 => ?_)
    · refine x_goto (tgt := 1012) dL_law_521 (by decide) ?_
      exact kk _ _ _ hN
    · exact absurd ((lg_cmp_eq _ _).mpr rfl) c3
  · exact absurd rfl c1
theorem g_twice (hxm : x + 12 < m) (hbg : b < gb G) (hL : L ≤ 2048) (hi : i + 4 ≤ L) (hik : i = 4 * k) (hS : LZ G x m b L xs k h) (kk : ∀ h' z5 z6, LZ G x m b L xs (k + 1) h' → Jx G (mLaw nm hs) 17 Q 1012 [some (.ref b), some (.ref x), some (.ref m), some (.ref (m + 24)), some (.int (nI i)), z5, z6] [] h') : Jx G (mLaw nm hs) 17 Q 524 [some (.ref b), some (.ref x), some (.ref m), some (.ref (m + 24)), some (.int (nI i)), z5, z6] [] h := by
  obtain ⟨u, E, X, ov, lv, sf, md, t, f, hA, hlv, hR, ho, hI, hb, hr⟩ := hS
  have hg := hA.gx
  refine x_aload_n dL_law_524 rfl rfl ?_
  refine x_aload_n dL_law_525 rfl rfl ?_
  refine x_iload dL_law_526 rfl ?_
  refine x_iconst (v := nI 1) dL_law_528 (by decide) ?_
  refine x_iadd dL_law_529 ?_
  try simp only [pk_mul, nI_add]
  refine x_iaload dL_law_530 (by assumption) (vp_in_nI (by omega) (by omega)) ?_
  rw [nI_clamp (by omega)]
  refine x_aload_n dL_law_531 rfl rfl ?_
  refine x_iload dL_law_532 rfl ?_
  refine x_iconst (v := nI 2) dL_law_534 (by decide) ?_
  refine x_iadd dL_law_535 ?_
  try simp only [pk_mul, nI_add]
  refine x_iaload dL_law_536 (by assumption) (vp_in_nI (by omega) (by omega)) ?_
  rw [nI_clamp (by omega)]
  refine x_aload_n dL_law_537 rfl rfl ?_
  refine x_callSH dL_law_538 ss_L_91 (Nat.le_of_ble_eq_true rfl) rfl (Nat.le_of_ble_eq_true rfl) ?_
  refine l_twice (d := 3) hA hlv hI (by omega) ho (by omega) (by omega) (hr.mono (by omega)) (fun h1 E1 X1 ov1 lv1 sf1 f1 hA1 hlv1 hK1 ho1 hv1 => kh_v dr_4 ?_)
  have hR1 := hR.ext (fun a a1 a2 => hK1.1 a (by omega) (by omega))
  have hb1 := (hK1.1 b (by omega) (by omega)).trans hb
  obtain ⟨fs1, hc1⟩ := hR1.cell
  refine y_istore dL_law_541 rfl lvs_7_5 ?_
  refine x_aload_n dL_law_543 rfl rfl ?_
  refine x_aload_n dL_law_544 rfl rfl ?_
  refine x_iload dL_law_545 rfl ?_
  refine x_iconst (v := nI 1) dL_law_547 (by decide) ?_
  refine x_iadd dL_law_548 ?_
  try simp only [pk_mul, nI_add]
  refine x_iaload dL_law_549 (by assumption) (vp_in_nI (by omega) (by omega)) ?_
  rw [nI_clamp (by omega)]
  refine x_aload_n dL_law_550 rfl rfl ?_
  refine x_iload dL_law_551 rfl ?_
  refine x_iconst (v := nI 2) dL_law_553 (by decide) ?_
  refine x_iadd dL_law_554 ?_
  try simp only [pk_mul, nI_add]
  refine x_iaload dL_law_555 (by assumption) (vp_in_nI (by omega) (by omega)) ?_
  rw [nI_clamp (by omega)]
  refine x_callVH dL_law_556 sv_L_93_10 rfl hc1 rfl (Nat.le_of_ble_eq_true rfl) ?_
  refine r_twice hR1 (fun h2 md2 hR2 hF2 => kh_v dr_3 ?_)
  obtain ⟨fs2, hc2⟩ := hR2.cell
  have hN := LZ.next hxm hbg (by omega) hA1 hlv1 hK1 ho1 hR2 hF2 ((hI.s_twice (fun p hp => (hI.1.len hp).2)).mono (by omega)) hb hr
  refine y_istore dL_law_559 rfl lvs_7_6 ?_
  refine x_aload_n dL_law_561 rfl rfl ?_
  refine x_callVH dL_law_562 sv_L_70_10 rfl hc2 rfl (Nat.le_of_ble_eq_true rfl) ?_
  refine r_thrown hR2 (kh_v dr_1 ?_)
  refine x_iload dL_law_565 rfl ?_
  refine x_icmp_eq (tgt := 572) dL_law_567 (by decide) (fun c1 => ?_) (fun c1 => ?_)
  · refine x_iload dL_law_572 rfl ?_
    refine x_if_ne (tgt := 589) dL_law_574 (by decide) (fun c2 => ?_) (fun c2 => ?_)
    · refine x_goto (tgt := 1012) dL_law_589 (by decide) ?_
      exact kk _ _ _ hN
    refine x_aload_n dL_law_577 rfl rfl ?_
    refine x_iconst (v := nI 0) dL_law_578 (by decide) ?_
    refine x_laload dL_law_579 ((hF2.1 _ (by omega)).trans ho1) (vp_in_nI (by omega) (by omega)) ?_
    rw [nI_clamp (by omega), hv1 rfl (Eq.trans c2 nI_0.symm)]
    refine x_iload dL_law_580 rfl ?_
    refine x_i2l dL_law_582 ?_
    refine x_lcmp dL_law_583 ?_
    refine x_if_eq (tgt := 589) dL_law_584 (by decide) (fun c3 => ?_) (fun c3 => ?_)
    · refine x_goto (tgt := 1012) dL_law_589 (by decide) ?_
      exact kk _ _ _ hN
    · exact absurd ((lg_cmp_eq _ _).mpr rfl) c3
  · exact absurd rfl c1
theorem g_tick (hxm : x + 12 < m) (hbg : b < gb G) (hL : L ≤ 2048) (hi : i + 4 ≤ L) (hik : i = 4 * k) (hS : LZ G x m b L xs k h) (kk : ∀ h' z5 z6, LZ G x m b L xs (k + 1) h' → Jx G (mLaw nm hs) 17 Q 1012 [some (.ref b), some (.ref x), some (.ref m), some (.ref (m + 24)), some (.int (nI i)), z5, z6] [] h') : Jx G (mLaw nm hs) 17 Q 592 [some (.ref b), some (.ref x), some (.ref m), some (.ref (m + 24)), some (.int (nI i)), z5, z6] [] h := by
  obtain ⟨u, E, X, ov, lv, sf, md, t, f, hA, hlv, hR, ho, hI, hb, hr⟩ := hS
  have hg := hA.gx
  refine x_aload_n dL_law_592 rfl rfl ?_
  refine x_aload_n dL_law_593 rfl rfl ?_
  refine x_iload dL_law_594 rfl ?_
  refine x_iconst (v := nI 1) dL_law_596 (by decide) ?_
  refine x_iadd dL_law_597 ?_
  try simp only [pk_mul, nI_add]
  refine x_iaload dL_law_598 (by assumption) (vp_in_nI (by omega) (by omega)) ?_
  rw [nI_clamp (by omega)]
  refine x_aload_n dL_law_599 rfl rfl ?_
  refine x_callSH dL_law_600 ss_L_94 (Nat.le_of_ble_eq_true rfl) rfl (Nat.le_of_ble_eq_true rfl) ?_
  refine l_tick (d := 3) hA hlv hI (by omega) ho (by omega) (by omega) (hr.mono (by omega)) (fun h1 E1 X1 ov1 lv1 sf1 f1 hA1 hlv1 hK1 ho1 hv1 => kh_v dr_3 ?_)
  have hR1 := hR.ext (fun a a1 a2 => hK1.1 a (by omega) (by omega))
  have hb1 := (hK1.1 b (by omega) (by omega)).trans hb
  obtain ⟨fs1, hc1⟩ := hR1.cell
  refine y_istore dL_law_603 rfl lvs_7_5 ?_
  refine x_aload_n dL_law_605 rfl rfl ?_
  refine x_aload_n dL_law_606 rfl rfl ?_
  refine x_iload dL_law_607 rfl ?_
  refine x_iconst (v := nI 1) dL_law_609 (by decide) ?_
  refine x_iadd dL_law_610 ?_
  try simp only [pk_mul, nI_add]
  refine x_iaload dL_law_611 (by assumption) (vp_in_nI (by omega) (by omega)) ?_
  rw [nI_clamp (by omega)]
  refine x_callVH dL_law_612 sv_L_97_10 rfl hc1 rfl (Nat.le_of_ble_eq_true rfl) ?_
  refine r_tick hR1 (fun h2 md2 hR2 hF2 => kh_v dr_2 ?_)
  obtain ⟨fs2, hc2⟩ := hR2.cell
  have hN := LZ.next hxm hbg (by omega) hA1 hlv1 hK1 ho1 hR2 hF2 (hI.s_tick.mono (by omega)) hb hr
  refine y_istore dL_law_615 rfl lvs_7_6 ?_
  refine x_aload_n dL_law_617 rfl rfl ?_
  refine x_callVH dL_law_618 sv_L_70_10 rfl hc2 rfl (Nat.le_of_ble_eq_true rfl) ?_
  refine r_thrown hR2 (kh_v dr_1 ?_)
  refine x_iload dL_law_621 rfl ?_
  refine x_icmp_eq (tgt := 628) dL_law_623 (by decide) (fun c1 => ?_) (fun c1 => ?_)
  · refine x_iload dL_law_628 rfl ?_
    refine x_if_ne (tgt := 645) dL_law_630 (by decide) (fun c2 => ?_) (fun c2 => ?_)
    · refine x_goto (tgt := 1012) dL_law_645 (by decide) ?_
      exact kk _ _ _ hN
    refine x_aload_n dL_law_633 rfl rfl ?_
    refine x_iconst (v := nI 0) dL_law_634 (by decide) ?_
    refine x_laload dL_law_635 ((hF2.1 _ (by omega)).trans ho1) (vp_in_nI (by omega) (by omega)) ?_
    rw [nI_clamp (by omega), hv1 rfl (Eq.trans c2 nI_0.symm)]
    refine x_iload dL_law_636 rfl ?_
    refine x_i2l dL_law_638 ?_
    refine x_lcmp dL_law_639 ?_
    refine x_if_eq (tgt := 645) dL_law_640 (by decide) (fun c3 => ?_) (fun c3 => ?_)
    · refine x_goto (tgt := 1012) dL_law_645 (by decide) ?_
      exact kk _ _ _ hN
    · exact absurd ((lg_cmp_eq _ _).mpr rfl) c3
  · exact absurd rfl c1
theorem g_children (hxm : x + 12 < m) (hbg : b < gb G) (hL : L ≤ 2048) (hi : i + 4 ≤ L) (hik : i = 4 * k) (hS : LZ G x m b L xs k h) (kk : ∀ h' z5 z6, LZ G x m b L xs (k + 1) h' → Jx G (mLaw nm hs) 17 Q 1012 [some (.ref b), some (.ref x), some (.ref m), some (.ref (m + 24)), some (.int (nI i)), z5, z6] [] h') : Jx G (mLaw nm hs) 17 Q 648 [some (.ref b), some (.ref x), some (.ref m), some (.ref (m + 24)), some (.int (nI i)), z5, z6] [] h := by
  obtain ⟨u, E, X, ov, lv, sf, md, t, f, hA, hlv, hR, ho, hI, hb, hr⟩ := hS
  have hg := hA.gx
  refine x_aload_n dL_law_648 rfl rfl ?_
  refine x_aload_n dL_law_649 rfl rfl ?_
  refine x_iload dL_law_650 rfl ?_
  refine x_iconst (v := nI 1) dL_law_652 (by decide) ?_
  refine x_iadd dL_law_653 ?_
  try simp only [pk_mul, nI_add]
  refine x_iaload dL_law_654 (by assumption) (vp_in_nI (by omega) (by omega)) ?_
  rw [nI_clamp (by omega)]
  refine x_aload_n dL_law_655 rfl rfl ?_
  refine x_callSH dL_law_656 ss_L_98 (Nat.le_of_ble_eq_true rfl) rfl (Nat.le_of_ble_eq_true rfl) ?_
  refine l_children (d := 3) hA hlv hI (by omega) ho (by omega) (by omega) (hr.mono (by omega)) (fun h1 E1 X1 ov1 lv1 sf1 f1 hA1 hlv1 hK1 ho1 hv1 => kh_v dr_3 ?_)
  have hR1 := hR.ext (fun a a1 a2 => hK1.1 a (by omega) (by omega))
  have hb1 := (hK1.1 b (by omega) (by omega)).trans hb
  obtain ⟨fs1, hc1⟩ := hR1.cell
  refine y_istore dL_law_659 rfl lvs_7_5 ?_
  refine x_aload_n dL_law_661 rfl rfl ?_
  refine x_aload_n dL_law_662 rfl rfl ?_
  refine x_iload dL_law_663 rfl ?_
  refine x_iconst (v := nI 1) dL_law_665 (by decide) ?_
  refine x_iadd dL_law_666 ?_
  try simp only [pk_mul, nI_add]
  refine x_iaload dL_law_667 (by assumption) (vp_in_nI (by omega) (by omega)) ?_
  rw [nI_clamp (by omega)]
  refine x_callVH dL_law_668 sv_L_100_10 rfl hc1 rfl (Nat.le_of_ble_eq_true rfl) ?_
  refine r_children hR1 (fun h2 md2 hR2 hF2 => kh_v dr_2 ?_)
  obtain ⟨fs2, hc2⟩ := hR2.cell
  have hN := LZ.next hxm hbg (by omega) hA1 hlv1 hK1 ho1 hR2 hF2 (hI.s_children.mono (by omega)) hb hr
  refine y_istore dL_law_671 rfl lvs_7_6 ?_
  refine x_aload_n dL_law_673 rfl rfl ?_
  refine x_callVH dL_law_674 sv_L_70_10 rfl hc2 rfl (Nat.le_of_ble_eq_true rfl) ?_
  refine r_thrown hR2 (kh_v dr_1 ?_)
  refine x_iload dL_law_677 rfl ?_
  refine x_icmp_eq (tgt := 684) dL_law_679 (by decide) (fun c1 => ?_) (fun c1 => ?_)
  · refine x_iload dL_law_684 rfl ?_
    refine x_if_ne (tgt := 701) dL_law_686 (by decide) (fun c2 => ?_) (fun c2 => ?_)
    · refine x_goto (tgt := 1012) dL_law_701 (by decide) ?_
      exact kk _ _ _ hN
    refine x_aload_n dL_law_689 rfl rfl ?_
    refine x_iconst (v := nI 0) dL_law_690 (by decide) ?_
    refine x_laload dL_law_691 ((hF2.1 _ (by omega)).trans ho1) (vp_in_nI (by omega) (by omega)) ?_
    rw [nI_clamp (by omega), hv1 rfl (Eq.trans c2 nI_0.symm)]
    refine x_iload dL_law_692 rfl ?_
    refine x_i2l dL_law_694 ?_
    refine x_lcmp dL_law_695 ?_
    refine x_if_eq (tgt := 701) dL_law_696 (by decide) (fun c3 => ?_) (fun c3 => ?_)
    · refine x_goto (tgt := 1012) dL_law_701 (by decide) ?_
      exact kk _ _ _ hN
    · exact absurd ((lg_cmp_eq _ _).mpr rfl) c3
  · exact absurd rfl c1
theorem g_child (hxm : x + 12 < m) (hbg : b < gb G) (hL : L ≤ 2048) (hi : i + 4 ≤ L) (hik : i = 4 * k) (hS : LZ G x m b L xs k h) (kk : ∀ h' z5 z6, LZ G x m b L xs (k + 1) h' → Jx G (mLaw nm hs) 17 Q 1012 [some (.ref b), some (.ref x), some (.ref m), some (.ref (m + 24)), some (.int (nI i)), z5, z6] [] h') : Jx G (mLaw nm hs) 17 Q 704 [some (.ref b), some (.ref x), some (.ref m), some (.ref (m + 24)), some (.int (nI i)), z5, z6] [] h := by
  obtain ⟨u, E, X, ov, lv, sf, md, t, f, hA, hlv, hR, ho, hI, hb, hr⟩ := hS
  have hg := hA.gx
  refine x_aload_n dL_law_704 rfl rfl ?_
  refine x_aload_n dL_law_705 rfl rfl ?_
  refine x_iload dL_law_706 rfl ?_
  refine x_iconst (v := nI 1) dL_law_708 (by decide) ?_
  refine x_iadd dL_law_709 ?_
  try simp only [pk_mul, nI_add]
  refine x_iaload dL_law_710 (by assumption) (vp_in_nI (by omega) (by omega)) ?_
  rw [nI_clamp (by omega)]
  refine x_aload_n dL_law_711 rfl rfl ?_
  refine x_iload dL_law_712 rfl ?_
  refine x_iconst (v := nI 2) dL_law_714 (by decide) ?_
  refine x_iadd dL_law_715 ?_
  try simp only [pk_mul, nI_add]
  refine x_iaload dL_law_716 (by assumption) (vp_in_nI (by omega) (by omega)) ?_
  rw [nI_clamp (by omega)]
  refine x_aload_n dL_law_717 rfl rfl ?_
  refine x_iload dL_law_718 rfl ?_
  refine x_iconst (v := nI 3) dL_law_720 (by decide) ?_
  refine x_iadd dL_law_721 ?_
  try simp only [pk_mul, nI_add]
  refine x_iaload dL_law_722 (by assumption) (vp_in_nI (by omega) (by omega)) ?_
  rw [nI_clamp (by omega)]
  refine x_aload_n dL_law_723 rfl rfl ?_
  refine x_callSH dL_law_724 ss_L_101 (Nat.le_of_ble_eq_true rfl) rfl (Nat.le_of_ble_eq_true rfl) ?_
  refine l_child (d := 3) hA hlv hI (by omega) ho (by omega) (by omega) (hr.mono (by omega)) (fun h1 E1 X1 ov1 lv1 sf1 f1 hA1 hlv1 hK1 ho1 hv1 => kh_v dr_5 ?_)
  have hR1 := hR.ext (fun a a1 a2 => hK1.1 a (by omega) (by omega))
  have hb1 := (hK1.1 b (by omega) (by omega)).trans hb
  obtain ⟨fs1, hc1⟩ := hR1.cell
  refine y_istore dL_law_727 rfl lvs_7_5 ?_
  refine x_aload_n dL_law_729 rfl rfl ?_
  refine x_aload_n dL_law_730 rfl rfl ?_
  refine x_iload dL_law_731 rfl ?_
  refine x_iconst (v := nI 1) dL_law_733 (by decide) ?_
  refine x_iadd dL_law_734 ?_
  try simp only [pk_mul, nI_add]
  refine x_iaload dL_law_735 (by assumption) (vp_in_nI (by omega) (by omega)) ?_
  rw [nI_clamp (by omega)]
  refine x_aload_n dL_law_736 rfl rfl ?_
  refine x_iload dL_law_737 rfl ?_
  refine x_iconst (v := nI 2) dL_law_739 (by decide) ?_
  refine x_iadd dL_law_740 ?_
  try simp only [pk_mul, nI_add]
  refine x_iaload dL_law_741 (by assumption) (vp_in_nI (by omega) (by omega)) ?_
  rw [nI_clamp (by omega)]
  refine x_aload_n dL_law_742 rfl rfl ?_
  refine x_iload dL_law_743 rfl ?_
  refine x_iconst (v := nI 3) dL_law_745 (by decide) ?_
  refine x_iadd dL_law_746 ?_
  try simp only [pk_mul, nI_add]
  refine x_iaload dL_law_747 (by assumption) (vp_in_nI (by omega) (by omega)) ?_
  rw [nI_clamp (by omega)]
  refine x_callVH dL_law_748 sv_L_103_10 rfl hc1 rfl (Nat.le_of_ble_eq_true rfl) ?_
  refine r_child hR1 (fun h2 md2 hR2 hF2 => kh_v dr_4 ?_)
  obtain ⟨fs2, hc2⟩ := hR2.cell
  have hN := LZ.next hxm hbg (by omega) hA1 hlv1 hK1 ho1 hR2 hF2 (hI.s_child.mono (by omega)) hb hr
  refine y_istore dL_law_751 rfl lvs_7_6 ?_
  refine x_aload_n dL_law_753 rfl rfl ?_
  refine x_callVH dL_law_754 sv_L_70_10 rfl hc2 rfl (Nat.le_of_ble_eq_true rfl) ?_
  refine r_thrown hR2 (kh_v dr_1 ?_)
  refine x_iload dL_law_757 rfl ?_
  refine x_icmp_eq (tgt := 764) dL_law_759 (by decide) (fun c1 => ?_) (fun c1 => ?_)
  · refine x_iload dL_law_764 rfl ?_
    refine x_if_ne (tgt := 781) dL_law_766 (by decide) (fun c2 => ?_) (fun c2 => ?_)
    · refine x_goto (tgt := 1012) dL_law_781 (by decide) ?_
      exact kk _ _ _ hN
    refine x_aload_n dL_law_769 rfl rfl ?_
    refine x_iconst (v := nI 0) dL_law_770 (by decide) ?_
    refine x_laload dL_law_771 ((hF2.1 _ (by omega)).trans ho1) (vp_in_nI (by omega) (by omega)) ?_
    rw [nI_clamp (by omega), hv1 rfl (Eq.trans c2 nI_0.symm)]
    refine x_iload dL_law_772 rfl ?_
    refine x_i2l dL_law_774 ?_
    refine x_lcmp dL_law_775 ?_
    refine x_if_eq (tgt := 781) dL_law_776 (by decide) (fun c3 => ?_) (fun c3 => ?_)
    · refine x_goto (tgt := 1012) dL_law_781 (by decide) ?_
      exact kk _ _ _ hN
    · exact absurd ((lg_cmp_eq _ _).mpr rfl) c3
  · exact absurd rfl c1
theorem g_flying (hxm : x + 12 < m) (hbg : b < gb G) (hL : L ≤ 2048) (hi : i + 4 ≤ L) (hik : i = 4 * k) (hS : LZ G x m b L xs k h) (kk : ∀ h' z5 z6, LZ G x m b L xs (k + 1) h' → Jx G (mLaw nm hs) 17 Q 1012 [some (.ref b), some (.ref x), some (.ref m), some (.ref (m + 24)), some (.int (nI i)), z5, z6] [] h') : Jx G (mLaw nm hs) 17 Q 784 [some (.ref b), some (.ref x), some (.ref m), some (.ref (m + 24)), some (.int (nI i)), z5, z6] [] h := by
  obtain ⟨u, E, X, ov, lv, sf, md, t, f, hA, hlv, hR, ho, hI, hb, hr⟩ := hS
  have hg := hA.gx
  refine x_aload_n dL_law_784 rfl rfl ?_
  refine x_aload_n dL_law_785 rfl rfl ?_
  refine x_iload dL_law_786 rfl ?_
  refine x_iconst (v := nI 1) dL_law_788 (by decide) ?_
  refine x_iadd dL_law_789 ?_
  try simp only [pk_mul, nI_add]
  refine x_iaload dL_law_790 (by assumption) (vp_in_nI (by omega) (by omega)) ?_
  rw [nI_clamp (by omega)]
  refine x_aload_n dL_law_791 rfl rfl ?_
  refine x_callSH dL_law_792 ss_L_104 (Nat.le_of_ble_eq_true rfl) rfl (Nat.le_of_ble_eq_true rfl) ?_
  refine l_flying (d := 3) hA hlv hI (by omega) ho (by omega) (by omega) (hr.mono (by omega)) (fun h1 E1 X1 ov1 lv1 sf1 f1 hA1 hlv1 hK1 ho1 hv1 => kh_v dr_3 ?_)
  have hR1 := hR.ext (fun a a1 a2 => hK1.1 a (by omega) (by omega))
  have hb1 := (hK1.1 b (by omega) (by omega)).trans hb
  obtain ⟨fs1, hc1⟩ := hR1.cell
  refine y_istore dL_law_795 rfl lvs_7_5 ?_
  refine x_aload_n dL_law_797 rfl rfl ?_
  refine x_aload_n dL_law_798 rfl rfl ?_
  refine x_iload dL_law_799 rfl ?_
  refine x_iconst (v := nI 1) dL_law_801 (by decide) ?_
  refine x_iadd dL_law_802 ?_
  try simp only [pk_mul, nI_add]
  refine x_iaload dL_law_803 (by assumption) (vp_in_nI (by omega) (by omega)) ?_
  rw [nI_clamp (by omega)]
  refine x_callVH dL_law_804 sv_L_106_10 rfl hc1 rfl (Nat.le_of_ble_eq_true rfl) ?_
  refine r_flying hR1 (fun h2 md2 hR2 hF2 => kh_v dr_2 ?_)
  obtain ⟨fs2, hc2⟩ := hR2.cell
  have hN := LZ.next hxm hbg (by omega) hA1 hlv1 hK1 ho1 hR2 hF2 (hI.s_flying.mono (by omega)) hb hr
  refine y_istore dL_law_807 rfl lvs_7_6 ?_
  refine x_aload_n dL_law_809 rfl rfl ?_
  refine x_callVH dL_law_810 sv_L_70_10 rfl hc2 rfl (Nat.le_of_ble_eq_true rfl) ?_
  refine r_thrown hR2 (kh_v dr_1 ?_)
  refine x_iload dL_law_813 rfl ?_
  refine x_icmp_eq (tgt := 820) dL_law_815 (by decide) (fun c1 => ?_) (fun c1 => ?_)
  · refine x_iload dL_law_820 rfl ?_
    refine x_if_ne (tgt := 837) dL_law_822 (by decide) (fun c2 => ?_) (fun c2 => ?_)
    · refine x_goto (tgt := 1012) dL_law_837 (by decide) ?_
      exact kk _ _ _ hN
    refine x_aload_n dL_law_825 rfl rfl ?_
    refine x_iconst (v := nI 0) dL_law_826 (by decide) ?_
    refine x_laload dL_law_827 ((hF2.1 _ (by omega)).trans ho1) (vp_in_nI (by omega) (by omega)) ?_
    rw [nI_clamp (by omega), hv1 rfl (Eq.trans c2 nI_0.symm)]
    refine x_iload dL_law_828 rfl ?_
    refine x_i2l dL_law_830 ?_
    refine x_lcmp dL_law_831 ?_
    refine x_if_eq (tgt := 837) dL_law_832 (by decide) (fun c3 => ?_) (fun c3 => ?_)
    · refine x_goto (tgt := 1012) dL_law_837 (by decide) ?_
      exact kk _ _ _ hN
    · exact absurd ((lg_cmp_eq _ _).mpr rfl) c3
  · exact absurd rfl c1
theorem g_packet (hxm : x + 12 < m) (hbg : b < gb G) (hL : L ≤ 2048) (hi : i + 4 ≤ L) (hik : i = 4 * k) (hS : LZ G x m b L xs k h) (kk : ∀ h' z5 z6, LZ G x m b L xs (k + 1) h' → Jx G (mLaw nm hs) 17 Q 1012 [some (.ref b), some (.ref x), some (.ref m), some (.ref (m + 24)), some (.int (nI i)), z5, z6] [] h') : Jx G (mLaw nm hs) 17 Q 840 [some (.ref b), some (.ref x), some (.ref m), some (.ref (m + 24)), some (.int (nI i)), z5, z6] [] h := by
  obtain ⟨u, E, X, ov, lv, sf, md, t, f, hA, hlv, hR, ho, hI, hb, hr⟩ := hS
  have hg := hA.gx
  refine x_aload_n dL_law_840 rfl rfl ?_
  refine x_aload_n dL_law_841 rfl rfl ?_
  refine x_iload dL_law_842 rfl ?_
  refine x_iconst (v := nI 1) dL_law_844 (by decide) ?_
  refine x_iadd dL_law_845 ?_
  try simp only [pk_mul, nI_add]
  refine x_iaload dL_law_846 (by assumption) (vp_in_nI (by omega) (by omega)) ?_
  rw [nI_clamp (by omega)]
  refine x_aload_n dL_law_847 rfl rfl ?_
  refine x_iload dL_law_848 rfl ?_
  refine x_iconst (v := nI 2) dL_law_850 (by decide) ?_
  refine x_iadd dL_law_851 ?_
  try simp only [pk_mul, nI_add]
  refine x_iaload dL_law_852 (by assumption) (vp_in_nI (by omega) (by omega)) ?_
  rw [nI_clamp (by omega)]
  refine x_aload_n dL_law_853 rfl rfl ?_
  refine x_iload dL_law_854 rfl ?_
  refine x_iconst (v := nI 3) dL_law_856 (by decide) ?_
  refine x_iadd dL_law_857 ?_
  try simp only [pk_mul, nI_add]
  refine x_iaload dL_law_858 (by assumption) (vp_in_nI (by omega) (by omega)) ?_
  rw [nI_clamp (by omega)]
  refine x_aload_n dL_law_859 rfl rfl ?_
  refine x_callSH dL_law_860 ss_L_107 (Nat.le_of_ble_eq_true rfl) rfl (Nat.le_of_ble_eq_true rfl) ?_
  refine l_packet (d := 3) hA hlv hI (by omega) ho (by omega) (by omega) (hr.mono (by omega)) (fun h1 E1 X1 ov1 lv1 sf1 f1 hA1 hlv1 hK1 ho1 hv1 => kh_v dr_5 ?_)
  have hR1 := hR.ext (fun a a1 a2 => hK1.1 a (by omega) (by omega))
  have hb1 := (hK1.1 b (by omega) (by omega)).trans hb
  obtain ⟨fs1, hc1⟩ := hR1.cell
  refine y_istore dL_law_863 rfl lvs_7_5 ?_
  refine x_aload_n dL_law_865 rfl rfl ?_
  refine x_aload_n dL_law_866 rfl rfl ?_
  refine x_iload dL_law_867 rfl ?_
  refine x_iconst (v := nI 1) dL_law_869 (by decide) ?_
  refine x_iadd dL_law_870 ?_
  try simp only [pk_mul, nI_add]
  refine x_iaload dL_law_871 (by assumption) (vp_in_nI (by omega) (by omega)) ?_
  rw [nI_clamp (by omega)]
  refine x_aload_n dL_law_872 rfl rfl ?_
  refine x_iload dL_law_873 rfl ?_
  refine x_iconst (v := nI 2) dL_law_875 (by decide) ?_
  refine x_iadd dL_law_876 ?_
  try simp only [pk_mul, nI_add]
  refine x_iaload dL_law_877 (by assumption) (vp_in_nI (by omega) (by omega)) ?_
  rw [nI_clamp (by omega)]
  refine x_aload_n dL_law_878 rfl rfl ?_
  refine x_iload dL_law_879 rfl ?_
  refine x_iconst (v := nI 3) dL_law_881 (by decide) ?_
  refine x_iadd dL_law_882 ?_
  try simp only [pk_mul, nI_add]
  refine x_iaload dL_law_883 (by assumption) (vp_in_nI (by omega) (by omega)) ?_
  rw [nI_clamp (by omega)]
  refine x_callVH dL_law_884 sv_L_109_10 rfl hc1 rfl (Nat.le_of_ble_eq_true rfl) ?_
  refine r_packet hR1 (fun h2 md2 hR2 hF2 => kh_v dr_4 ?_)
  obtain ⟨fs2, hc2⟩ := hR2.cell
  have hN := LZ.next hxm hbg (by omega) hA1 hlv1 hK1 ho1 hR2 hF2 (hI.s_packet.mono (by omega)) hb hr
  refine y_istore dL_law_887 rfl lvs_7_6 ?_
  refine x_aload_n dL_law_889 rfl rfl ?_
  refine x_callVH dL_law_890 sv_L_70_10 rfl hc2 rfl (Nat.le_of_ble_eq_true rfl) ?_
  refine r_thrown hR2 (kh_v dr_1 ?_)
  refine x_iload dL_law_893 rfl ?_
  refine x_icmp_eq (tgt := 900) dL_law_895 (by decide) (fun c1 => ?_) (fun c1 => ?_)
  · refine x_iload dL_law_900 rfl ?_
    refine x_if_ne (tgt := 917) dL_law_902 (by decide) (fun c2 => ?_) (fun c2 => ?_)
    · refine x_goto (tgt := 1012) dL_law_917 (by decide) ?_
      exact kk _ _ _ hN
    refine x_aload_n dL_law_905 rfl rfl ?_
    refine x_iconst (v := nI 0) dL_law_906 (by decide) ?_
    refine x_laload dL_law_907 ((hF2.1 _ (by omega)).trans ho1) (vp_in_nI (by omega) (by omega)) ?_
    rw [nI_clamp (by omega), hv1 rfl (Eq.trans c2 nI_0.symm)]
    refine x_iload dL_law_908 rfl ?_
    refine x_i2l dL_law_910 ?_
    refine x_lcmp dL_law_911 ?_
    refine x_if_eq (tgt := 917) dL_law_912 (by decide) (fun c3 => ?_) (fun c3 => ?_)
    · refine x_goto (tgt := 1012) dL_law_917 (by decide) ?_
      exact kk _ _ _ hN
    · exact absurd ((lg_cmp_eq _ _).mpr rfl) c3
  · exact absurd rfl c1
theorem g_told (hxm : x + 12 < m) (hbg : b < gb G) (hL : L ≤ 2048) (hi : i + 4 ≤ L) (hik : i = 4 * k) (hS : LZ G x m b L xs k h) (kk : ∀ h' z5 z6, LZ G x m b L xs (k + 1) h' → Jx G (mLaw nm hs) 17 Q 1012 [some (.ref b), some (.ref x), some (.ref m), some (.ref (m + 24)), some (.int (nI i)), z5, z6] [] h') : Jx G (mLaw nm hs) 17 Q 920 [some (.ref b), some (.ref x), some (.ref m), some (.ref (m + 24)), some (.int (nI i)), z5, z6] [] h := by
  obtain ⟨u, E, X, ov, lv, sf, md, t, f, hA, hlv, hR, ho, hI, hb, hr⟩ := hS
  have hg := hA.gx
  refine x_aload_n dL_law_920 rfl rfl ?_
  refine x_aload_n dL_law_921 rfl rfl ?_
  refine x_iload dL_law_922 rfl ?_
  refine x_iconst (v := nI 1) dL_law_924 (by decide) ?_
  refine x_iadd dL_law_925 ?_
  try simp only [pk_mul, nI_add]
  refine x_iaload dL_law_926 (by assumption) (vp_in_nI (by omega) (by omega)) ?_
  rw [nI_clamp (by omega)]
  refine x_aload_n dL_law_927 rfl rfl ?_
  refine x_iload dL_law_928 rfl ?_
  refine x_iconst (v := nI 2) dL_law_930 (by decide) ?_
  refine x_iadd dL_law_931 ?_
  try simp only [pk_mul, nI_add]
  refine x_iaload dL_law_932 (by assumption) (vp_in_nI (by omega) (by omega)) ?_
  rw [nI_clamp (by omega)]
  refine x_aload_n dL_law_933 rfl rfl ?_
  refine x_callSH dL_law_934 ss_L_110 (Nat.le_of_ble_eq_true rfl) rfl (Nat.le_of_ble_eq_true rfl) ?_
  refine l_told (d := 3) hA hlv hI (by omega) ho (by omega) (by omega) (hr.mono (by omega)) (fun h1 E1 X1 ov1 lv1 sf1 f1 hA1 hlv1 hK1 ho1 hv1 => kh_v dr_4 ?_)
  have hR1 := hR.ext (fun a a1 a2 => hK1.1 a (by omega) (by omega))
  have hb1 := (hK1.1 b (by omega) (by omega)).trans hb
  obtain ⟨fs1, hc1⟩ := hR1.cell
  refine y_istore dL_law_937 rfl lvs_7_5 ?_
  refine x_aload_n dL_law_939 rfl rfl ?_
  refine x_aload_n dL_law_940 rfl rfl ?_
  refine x_iload dL_law_941 rfl ?_
  refine x_iconst (v := nI 1) dL_law_943 (by decide) ?_
  refine x_iadd dL_law_944 ?_
  try simp only [pk_mul, nI_add]
  refine x_iaload dL_law_945 (by assumption) (vp_in_nI (by omega) (by omega)) ?_
  rw [nI_clamp (by omega)]
  refine x_aload_n dL_law_946 rfl rfl ?_
  refine x_iload dL_law_947 rfl ?_
  refine x_iconst (v := nI 2) dL_law_949 (by decide) ?_
  refine x_iadd dL_law_950 ?_
  try simp only [pk_mul, nI_add]
  refine x_iaload dL_law_951 (by assumption) (vp_in_nI (by omega) (by omega)) ?_
  rw [nI_clamp (by omega)]
  refine x_callVH dL_law_952 sv_L_112_10 rfl hc1 rfl (Nat.le_of_ble_eq_true rfl) ?_
  refine r_told hR1 (fun h2 md2 hR2 hF2 => kh_v dr_3 ?_)
  obtain ⟨fs2, hc2⟩ := hR2.cell
  have hN := LZ.next hxm hbg (by omega) hA1 hlv1 hK1 ho1 hR2 hF2 (hI.s_told.mono (by omega)) hb hr
  refine y_istore dL_law_955 rfl lvs_7_6 ?_
  refine x_aload_n dL_law_957 rfl rfl ?_
  refine x_callVH dL_law_958 sv_L_70_10 rfl hc2 rfl (Nat.le_of_ble_eq_true rfl) ?_
  refine r_thrown hR2 (kh_v dr_1 ?_)
  refine x_iload dL_law_961 rfl ?_
  refine x_icmp_eq (tgt := 968) dL_law_963 (by decide) (fun c1 => ?_) (fun c1 => ?_)
  · refine x_iload dL_law_968 rfl ?_
    refine x_if_ne (tgt := 985) dL_law_970 (by decide) (fun c2 => ?_) (fun c2 => ?_)
    · refine x_goto (tgt := 1012) dL_law_985 (by decide) ?_
      exact kk _ _ _ hN
    refine x_aload_n dL_law_973 rfl rfl ?_
    refine x_iconst (v := nI 0) dL_law_974 (by decide) ?_
    refine x_laload dL_law_975 ((hF2.1 _ (by omega)).trans ho1) (vp_in_nI (by omega) (by omega)) ?_
    rw [nI_clamp (by omega), hv1 rfl (Eq.trans c2 nI_0.symm)]
    refine x_iload dL_law_976 rfl ?_
    refine x_i2l dL_law_978 ?_
    refine x_lcmp dL_law_979 ?_
    refine x_if_eq (tgt := 985) dL_law_980 (by decide) (fun c3 => ?_) (fun c3 => ?_)
    · refine x_goto (tgt := 1012) dL_law_985 (by decide) ?_
      exact kk _ _ _ hN
    · exact absurd ((lg_cmp_eq _ _).mpr rfl) c3
  · exact absurd rfl c1
theorem g_agreed (hxm : x + 12 < m) (hbg : b < gb G) (hL : L ≤ 2048) (hi : i + 4 ≤ L) (hik : i = 4 * k) (hS : LZ G x m b L xs k h) (kk : ∀ h' z5 z6, LZ G x m b L xs (k + 1) h' → Jx G (mLaw nm hs) 17 Q 1012 [some (.ref b), some (.ref x), some (.ref m), some (.ref (m + 24)), some (.int (nI i)), z5, z6] [] h') : Jx G (mLaw nm hs) 17 Q 988 [some (.ref b), some (.ref x), some (.ref m), some (.ref (m + 24)), some (.int (nI i)), z5, z6] [] h := by
  obtain ⟨u, E, X, ov, lv, sf, md, t, f, hA, hlv, hR, ho, hI, hb, hr⟩ := hS
  have hg := hA.gx
  refine x_aload_n dL_law_988 rfl rfl ?_
  refine x_callVH dL_law_989 sv_L_113_9 rfl hA.ob rfl (Nat.le_of_ble_eq_true rfl) ?_
  refine k_agreed hA hI (kh_v dr_1 ?_)
  obtain ⟨fs1, hc1⟩ := hR.cell
  refine x_aload_n dL_law_992 rfl rfl ?_
  refine x_callVH dL_law_993 sv_L_116_10 rfl hc1 rfl (Nat.le_of_ble_eq_true rfl) ?_
  refine r_agreed hR (fun h2 hR2 hF2 => kh_v dr_1 ?_)
  have hN := LZ.next hxm hbg (by omega) hA hlv ((KC.rf x (m + 25) h).mono (Nat.zero_le 20)).kl ho (show RU G h2 m (sAgreed u).1 u md from hR2) hF2 (hI.mono (by omega)) hb hr
  refine x_icmp_eq (tgt := 1012) dL_law_996 (by decide) (fun c1 => ?_) (fun c1 => ?_)
  · exact kk _ _ _ hN
  · exact absurd rfl c1
theorem g_clear (hxm : x + 12 < m) (hbg : b < gb G) (hL : L ≤ 2048) (hi : i + 4 ≤ L) (hik : i = 4 * k) (hS : LZ G x m b L xs k h) (kk : ∀ h' z5 z6, LZ G x m b L xs (k + 1) h' → Jx G (mLaw nm hs) 17 Q 1012 [some (.ref b), some (.ref x), some (.ref m), some (.ref (m + 24)), some (.int (nI i)), z5, z6] [] h') : Jx G (mLaw nm hs) 17 Q 1001 [some (.ref b), some (.ref x), some (.ref m), some (.ref (m + 24)), some (.int (nI i)), z5, z6] [] h := by
  obtain ⟨u, E, X, ov, lv, sf, md, t, f, hA, hlv, hR, ho, hI, hb, hr⟩ := hS
  have hg := hA.gx
  refine x_aload_n dL_law_1001 rfl rfl ?_
  refine x_callVH dL_law_1002 sv_L_117_9 rfl hA.ob rfl (Nat.le_of_ble_eq_true rfl) ?_
  refine k_clear hA (fun h1 E1 X1 ov1 lv1 hA1 hlv1 hK1 => kh_n dr_1 ?_)
  have hR1 := hR.ext (fun a a1 a2 => hK1.1 a (by omega))
  obtain ⟨fs1, hc1⟩ := hR1.cell
  refine x_aload_n dL_law_1005 rfl rfl ?_
  refine x_callVH dL_law_1006 sv_L_120_10 rfl hc1 rfl (Nat.le_of_ble_eq_true rfl) ?_
  refine r_clear hR1 (fun h2 hR2 hF2 => kh_n dr_1 ?_)
  have hN := LZ.next hxm hbg (by omega) hA1 hlv1 (hK1.mono (Nat.zero_le 20)).kl ((hK1.1 _ (by omega)).trans ho) hR2 hF2 ((Inv.t_clear u).mono (by omega)) hb hr
  refine x_goto (tgt := 1012) dL_law_1009 (by decide) ?_
  exact kk _ _ _ hN
end LCX
