def pickU (off su : List Int32) : Int32 := off.foldl (fun s x => su.foldl (fun s y => if s = 0 ∧ x = y then x else s) s) 0
def mxI (a b : Int32) : Int32 := if a ≤ b then b else a
def mnI (a b : Int32) : Int32 := if b ≤ a then b else a
def ansO (u : Ut) (p : Nat) (md : Nat → Int32) (s low high : Int32) : Ut × (Nat → Int32) :=
  if s = 0 ∨ high < low ∨ (u.ki p).length = 16 then (u, upd (blk (nI 0) (md 1) (nI 0)) 3 (nI 0)) else
  ((frU u p).w_ki p (u.ki p ++ [kdL (u.mk p) (md 4) s low high (nI 0) (nI 0) (mnI (md 5) (n16 (nxN (u.no p))))]), upd (upd (upd (frM u p (blk (nI 0) (md 1) (nI 0))) 7 low) 8 high) 9 s)
def ansOpen (u : Ut) (p : Nat) (md : Nat → Int32) (off : List Int32) : Ut × (Nat → Int32) := ansO u p md (pickU off (u.su p)) (mxI (md 7) (u.lo p)) (mnI (md 8) (u.hi p))
def noR (md : Nat → Int32) : Nat → Int32 := upd (blk (nI 0) (md 1) (nI 1)) 3 (nI 0)
def ansRenew (u : Ut) (p : Nat) (md : Nat → Int32) : Ut × (Nat → Int32) :=
  match (u.ki p).findIdx? (fun kd => decide (kd 1 = md 6)) with
  | none => (u, noR md)
  | some k => if (u.ki p).findIdx? (fun e => decide (e 5 = (u.ki p).getD k (fun _ => 0) 0 ∧ e 6 = nI 1)) ≠ none ∨ (u.ki p).length = 16 then (u, noR md) else
    ((frU u p).w_ki p (u.ki p ++ [kdL (u.mk p) (md 4) ((u.ki p).getD k (fun _ => 0) 2) ((u.ki p).getD k (fun _ => 0) 3) ((u.ki p).getD k (fun _ => 0) 4) ((u.ki p).getD k (fun _ => 0) 0) (nI 0) (mnI (md 5) (n16 (nxN (u.no p))))]), frM u p (blk (nI 0) (md 1) (nI 1)))
section REF9X
variable {G : GT} {d : Nat} {Q : Outcome → Hp → Prop} {m : Nat} {t : Int32} {u : Ut} {md : Nat → Int32} {h0 : Hp} {p : Nat}
theorem r_ao_161 {s low high : Int32} {z6 z7 : Option Value} {h : Hp} (hp : p < 2) (hR : RU G h m t u md) (hF : FrM m h0 h) (hq : ∀ h', RU G h' m t (ansO u p md s low high).1 (ansO u p md s low high).2 → FrM m h0 h' → Q (.returned none) h') : Jx G mX10_answerOpen (d + 2) Q 161 [some (.ref m), some (.int (nI p)), some (.int (md 1)), some (.int s), some (.int low), some (.int high), z6, z7] [] h := by
  obtain ⟨F, hR, hV⟩ := hR
  refine x_aload_n dX10_answerOpen_161 rfl rfl ?_
  refine gf_X10_77_10 rfl dX10_answerOpen_162 hR.o ?_
  refine x_iconst (v := nI 4) dX10_answerOpen_165 (by decide) ?_
  refine ld_M hR dX10_answerOpen_166 rfl (by decide) rfl (by first | (show _ < 2; omega) | (show _ < 16; omega) | (show _ < 32; omega) | (show _ < 8; omega) | (show _ < 272; omega) | (show _ < 1024; omega)) ?_
  rw [hV.md 4 (by omega)]
  refine y_istore dX10_answerOpen_167 rfl lvs_8_6 ?_
  refine x_aload_n dX10_answerOpen_169 rfl rfl ?_
  refine gf_X10_77_10 rfl dX10_answerOpen_170 hR.o ?_
  refine x_iconst (v := nI 5) dX10_answerOpen_173 (by decide) ?_
  refine ld_M hR dX10_answerOpen_174 rfl (by decide) rfl (by first | (show _ < 2; omega) | (show _ < 16; omega) | (show _ < 32; omega) | (show _ < 8; omega) | (show _ < 272; omega) | (show _ < 1024; omega)) ?_
  rw [hV.md 5 (by omega)]
  refine y_istore dX10_answerOpen_175 rfl lvs_8_7 ?_
  refine x_aload_n dX10_answerOpen_177 rfl rfl ?_
  refine x_iconst (v := nI 0) dX10_answerOpen_178 (by decide) ?_
  refine x_iload_n dX10_answerOpen_179 rfl ?_
  refine x_iconst (v := nI 0) dX10_answerOpen_180 (by decide) ?_
  refine x_callV dX10_answerOpen_181 sv_X10_111_10 rfl hR.o rfl (Nat.le_of_ble_eq_true rfl) rfl ?_
  refine r_blank ⟨_, hR, hV⟩ (fun h1 hRU hF1 => kc_n dr_4 ?_)
  replace hF := hF.trans hF1
  obtain ⟨F, hR, hV⟩ := hRU
  have h16 := (hV.ki p hp).1
  refine x_iload_n dX10_answerOpen_184 rfl ?_
  refine x_if_eq (tgt := 206) dX10_answerOpen_185 (by decide) (fun c1 => ?_) (fun c1 => ?_)
  · refine x_aload_n dX10_answerOpen_206 rfl rfl ?_
    refine gf_X10_77_10 rfl dX10_answerOpen_207 hR.o ?_
    refine x_iconst (v := nI 3) dX10_answerOpen_210 (by decide) ?_
    refine x_iconst (v := nI 0) dX10_answerOpen_211 (by decide) ?_
    refine st_M hR dX10_answerOpen_212 rfl (by decide) rfl (by first | (show _ < 2; omega) | (show _ < 16; omega) | (show _ < 32; omega) | (show _ < 8; omega) | (show _ < 272; omega) | (show _ < 1024; omega)) (fun _ hR hF1 => ?_)
    replace hF := hF.trans hF1
    refine x_vreturn dX10_answerOpen_213 rfl ?_
    rw [ansO, if_pos (Or.inl c1)] at hq
    exact hq _ ⟨_, hR, hV.t_md⟩ hF
  refine x_iload dX10_answerOpen_188 rfl ?_
  refine x_iload dX10_answerOpen_190 rfl ?_
  refine x_icmp_gt (tgt := 206) dX10_answerOpen_192 (by decide) (fun c2 => ?_) (fun c2 => ?_)
  · refine x_aload_n dX10_answerOpen_206 rfl rfl ?_
    refine gf_X10_77_10 rfl dX10_answerOpen_207 hR.o ?_
    refine x_iconst (v := nI 3) dX10_answerOpen_210 (by decide) ?_
    refine x_iconst (v := nI 0) dX10_answerOpen_211 (by decide) ?_
    refine st_M hR dX10_answerOpen_212 rfl (by decide) rfl (by first | (show _ < 2; omega) | (show _ < 16; omega) | (show _ < 32; omega) | (show _ < 8; omega) | (show _ < 272; omega) | (show _ < 1024; omega)) (fun _ hR hF1 => ?_)
    replace hF := hF.trans hF1
    refine x_vreturn dX10_answerOpen_213 rfl ?_
    rw [ansO, if_pos (Or.inr (Or.inl c2))] at hq
    exact hq _ ⟨_, hR, hV.t_md⟩ hF
  refine x_aload_n dX10_answerOpen_195 rfl rfl ?_
  refine gf_X10_28_10 rfl dX10_answerOpen_196 hR.o ?_
  refine x_iload_n dX10_answerOpen_199 rfl ?_
  refine ld_M hR dX10_answerOpen_200 rfl (by decide) rfl (by first | (show _ < 2; omega) | (show _ < 16; omega) | (show _ < 32; omega) | (show _ < 8; omega) | (show _ < 272; omega) | (show _ < 1024; omega)) ?_
  rw [(hV.ki p hp).2.1]
  refine x_bipush (v := nI 16) dX10_answerOpen_201 (by decide) ?_
  refine x_icmp_ne (tgt := 214) dX10_answerOpen_203 (by decide) (fun c3 => ?_) (fun c3 => ?_)
  · have e3 : ¬ (u.ki p).length = 16 := fun q => c3 (by rw [q])
    rw [ansO, if_neg (by simp [c1, c2, e3])] at hq
    refine x_aload_n dX10_answerOpen_214 rfl rfl ?_
    refine gf_X10_77_10 rfl dX10_answerOpen_215 hR.o ?_
    refine x_iconst (v := nI 4) dX10_answerOpen_218 (by decide) ?_
    refine x_aload_n dX10_answerOpen_219 rfl rfl ?_
    refine x_iload_n dX10_answerOpen_220 rfl ?_
    refine x_callV dX10_answerOpen_221 sv_X10_114_10 rfl hR.o rfl (Nat.le_of_ble_eq_true rfl) rfl ?_
    refine r_nextMark ⟨_, hR, hV⟩ hp (fun h1 hRU hF1 => kc_v dr_2 ?_)
    replace hF := hF.trans hF1
    obtain ⟨F, hR, hV⟩ := hRU
    refine st_M hR dX10_answerOpen_224 rfl (by decide) rfl (by first | (show _ < 2; omega) | (show _ < 16; omega) | (show _ < 32; omega) | (show _ < 8; omega) | (show _ < 272; omega) | (show _ < 1024; omega)) (fun _ hR hF1 => ?_)
    replace hF := hF.trans hF1
    replace hV := hV.t_md (j := 4) (x := u.mk p)
    refine x_aload_n dX10_answerOpen_225 rfl rfl ?_
    refine gf_X10_77_10 rfl dX10_answerOpen_226 hR.o ?_
    refine x_iconst (v := nI 5) dX10_answerOpen_229 (by decide) ?_
    refine x_aload_n dX10_answerOpen_230 rfl rfl ?_
    refine x_iload_n dX10_answerOpen_231 rfl ?_
    refine x_callV dX10_answerOpen_232 sv_X10_118_10 rfl hR.o rfl (Nat.le_of_ble_eq_true rfl) rfl ?_
    refine r_nextNonce ⟨_, hR, hV⟩ hp (fun h1 hRU hF1 => kc_v dr_2 ?_)
    replace hF := hF.trans hF1
    obtain ⟨F, hR, hV⟩ := hRU
    refine st_M hR dX10_answerOpen_235 rfl (by decide) rfl (by first | (show _ < 2; omega) | (show _ < 16; omega) | (show _ < 32; omega) | (show _ < 8; omega) | (show _ < 272; omega) | (show _ < 1024; omega)) (fun _ hR hF1 => ?_)
    replace hF := hF.trans hF1
    replace hV := hV.t_md (j := 5) (x := n16 (nxN ((u.w_mk p (u.mk p + nI 2)).no p)))
    refine x_aload_n dX10_answerOpen_236 rfl rfl ?_
    refine gf_X10_77_10 rfl dX10_answerOpen_237 hR.o ?_
    refine x_bipush (v := nI 7) dX10_answerOpen_240 (by decide) ?_
    refine x_iload dX10_answerOpen_242 rfl ?_
    refine st_M hR dX10_answerOpen_244 rfl (by decide) rfl (by first | (show _ < 2; omega) | (show _ < 16; omega) | (show _ < 32; omega) | (show _ < 8; omega) | (show _ < 272; omega) | (show _ < 1024; omega)) (fun _ hR hF1 => ?_)
    replace hF := hF.trans hF1
    replace hV := hV.t_md (j := 7) (x := low)
    refine x_aload_n dX10_answerOpen_245 rfl rfl ?_
    refine gf_X10_77_10 rfl dX10_answerOpen_246 hR.o ?_
    refine x_bipush (v := nI 8) dX10_answerOpen_249 (by decide) ?_
    refine x_iload dX10_answerOpen_251 rfl ?_
    refine st_M hR dX10_answerOpen_253 rfl (by decide) rfl (by first | (show _ < 2; omega) | (show _ < 16; omega) | (show _ < 32; omega) | (show _ < 8; omega) | (show _ < 272; omega) | (show _ < 1024; omega)) (fun _ hR hF1 => ?_)
    replace hF := hF.trans hF1
    replace hV := hV.t_md (j := 8) (x := high)
    refine x_aload_n dX10_answerOpen_254 rfl rfl ?_
    refine gf_X10_77_10 rfl dX10_answerOpen_255 hR.o ?_
    refine x_bipush (v := nI 9) dX10_answerOpen_258 (by decide) ?_
    refine x_iload_n dX10_answerOpen_260 rfl ?_
    refine st_M hR dX10_answerOpen_261 rfl (by decide) rfl (by first | (show _ < 2; omega) | (show _ < 16; omega) | (show _ < 32; omega) | (show _ < 8; omega) | (show _ < 272; omega) | (show _ < 1024; omega)) (fun _ hR hF1 => ?_)
    replace hF := hF.trans hF1
    replace hV := hV.t_md (j := 9) (x := s)
    have e4 := hV.md 4 (by omega)
    have e5 := hV.md 5 (by omega)
    have hl : (u.ki p).length < 16 := by omega
    refine x_aload_n dX10_answerOpen_262 rfl rfl ?_
    refine x_iload_n dX10_answerOpen_263 rfl ?_
    refine x_aload_n dX10_answerOpen_264 rfl rfl ?_
    refine gf_X10_77_10 rfl dX10_answerOpen_265 hR.o ?_
    refine x_iconst (v := nI 4) dX10_answerOpen_268 (by decide) ?_
    refine ld_M hR dX10_answerOpen_269 rfl (by decide) rfl (by first | (show _ < 2; omega) | (show _ < 16; omega) | (show _ < 32; omega) | (show _ < 8; omega) | (show _ < 272; omega) | (show _ < 1024; omega)) ?_
    rw [e4]
    refine x_iload dX10_answerOpen_270 rfl ?_
    refine x_iload_n dX10_answerOpen_272 rfl ?_
    refine x_iload dX10_answerOpen_273 rfl ?_
    refine x_iload dX10_answerOpen_275 rfl ?_
    refine x_iconst (v := nI 0) dX10_answerOpen_277 (by decide) ?_
    refine x_iconst (v := nI 0) dX10_answerOpen_278 (by decide) ?_
    refine x_iload dX10_answerOpen_279 rfl ?_
    refine x_aload_n dX10_answerOpen_281 rfl rfl ?_
    refine gf_X10_77_10 rfl dX10_answerOpen_282 hR.o ?_
    refine x_iconst (v := nI 5) dX10_answerOpen_285 (by decide) ?_
    refine ld_M hR dX10_answerOpen_286 rfl (by decide) rfl (by first | (show _ < 2; omega) | (show _ < 16; omega) | (show _ < 32; omega) | (show _ < 8; omega) | (show _ < 272; omega) | (show _ < 1024; omega)) ?_
    rw [e5]
    refine x_icmp_ge (tgt := 295) dX10_answerOpen_287 (by decide) (fun c4 => ?_) (fun c4 => ?_)
    · refine x_aload_n dX10_answerOpen_295 rfl rfl ?_
      refine gf_X10_77_10 rfl dX10_answerOpen_296 hR.o ?_
      refine x_iconst (v := nI 5) dX10_answerOpen_299 (by decide) ?_
      refine ld_M hR dX10_answerOpen_300 rfl (by decide) rfl (by first | (show _ < 2; omega) | (show _ < 16; omega) | (show _ < 32; omega) | (show _ < 8; omega) | (show _ < 272; omega) | (show _ < 1024; omega)) ?_
      rw [e5]
      refine x_callV dX10_answerOpen_301 sv_X10_152_10 rfl hR.o rfl (Nat.le_of_ble_eq_true rfl) rfl ?_
      refine r_addKid ⟨_, hR, hV⟩ hp hl (fun h1 hRU hF1 => kc_n dr_10 ?_)
      refine x_vreturn dX10_answerOpen_304 rfl ?_
      rw [show mnI (md 5) (n16 (nxN (u.no p))) = n16 (nxN (u.no p)) from if_pos c4] at hq
      exact hq _ hRU (hF.trans hF1)
    · refine x_iload dX10_answerOpen_290 rfl ?_
      refine x_goto (tgt := 301) dX10_answerOpen_292 (by decide) ?_
      refine x_callV dX10_answerOpen_301 sv_X10_152_10 rfl hR.o rfl (Nat.le_of_ble_eq_true rfl) rfl ?_
      refine r_addKid ⟨_, hR, hV⟩ hp hl (fun h1 hRU hF1 => kc_n dr_10 ?_)
      refine x_vreturn dX10_answerOpen_304 rfl ?_
      rw [show mnI (md 5) (n16 (nxN (u.no p))) = md 5 from if_neg c4] at hq
      exact hq _ hRU (hF.trans hF1)
  · refine x_aload_n dX10_answerOpen_206 rfl rfl ?_
    refine gf_X10_77_10 rfl dX10_answerOpen_207 hR.o ?_
    refine x_iconst (v := nI 3) dX10_answerOpen_210 (by decide) ?_
    refine x_iconst (v := nI 0) dX10_answerOpen_211 (by decide) ?_
    refine st_M hR dX10_answerOpen_212 rfl (by decide) rfl (by first | (show _ < 2; omega) | (show _ < 16; omega) | (show _ < 32; omega) | (show _ < 8; omega) | (show _ < 272; omega) | (show _ < 1024; omega)) (fun _ hR hF1 => ?_)
    replace hF := hF.trans hF1
    refine x_vreturn dX10_answerOpen_213 rfl ?_
    have e3 : (u.ki p).length = 16 := (nI_eq (by omega) (by omega)).mp c3
    rw [ansO, if_pos (Or.inr (Or.inr e3))] at hq
    exact hq _ ⟨_, hR, hV.t_md⟩ hF
theorem r_ao_93 {s : Int32} {z4 z5 z6 z7 : Option Value} {h : Hp} (hp : p < 2) (hR : RU G h m t u md) (hF : FrM m h0 h) (hq : ∀ h', RU G h' m t (ansO u p md s (mxI (md 7) (u.lo p)) (mnI (md 8) (u.hi p))).1 (ansO u p md s (mxI (md 7) (u.lo p)) (mnI (md 8) (u.hi p))).2 → FrM m h0 h' → Q (.returned none) h') : Jx G mX10_answerOpen (d + 2) Q 93 [some (.ref m), some (.int (nI p)), some (.int (md 1)), some (.int s), z4, z5, z6, z7] [] h := by
  have key : ∀ (low : Int32), low = mxI (md 7) (u.lo p) → Jx G mX10_answerOpen (d + 2) Q 127 [some (.ref m), some (.int (nI p)), some (.int (md 1)), some (.int s), some (.int low), z5, z6, z7] [] h := by
    intro low hl
    subst hl
    have hRU := hR
    obtain ⟨F, hR, hV⟩ := hR
    have e8 := hV.md 8 (by omega)
    refine x_aload_n dX10_answerOpen_127 rfl rfl ?_
    refine gf_X10_77_10 rfl dX10_answerOpen_128 hR.o ?_
    refine x_bipush (v := nI 8) dX10_answerOpen_131 (by decide) ?_
    refine ld_M hR dX10_answerOpen_133 rfl (by decide) rfl (by first | (show _ < 2; omega) | (show _ < 16; omega) | (show _ < 32; omega) | (show _ < 8; omega) | (show _ < 272; omega) | (show _ < 1024; omega)) ?_
    refine x_aload_n dX10_answerOpen_134 rfl rfl ?_
    refine gf_X10_19_10 rfl dX10_answerOpen_135 hR.o ?_
    refine x_iload_n dX10_answerOpen_138 rfl ?_
    refine ld_M hR dX10_answerOpen_139 rfl (by decide) rfl (by first | (show _ < 2; omega) | (show _ < 16; omega) | (show _ < 32; omega) | (show _ < 8; omega) | (show _ < 272; omega) | (show _ < 1024; omega)) ?_
    rw [e8, hV.hi p hp]
    refine x_icmp_ge (tgt := 153) dX10_answerOpen_140 (by decide) (fun c4 => ?_) (fun c4 => ?_)
    · refine x_aload_n dX10_answerOpen_153 rfl rfl ?_
      refine gf_X10_19_10 rfl dX10_answerOpen_154 hR.o ?_
      refine x_iload_n dX10_answerOpen_157 rfl ?_
      refine ld_M hR dX10_answerOpen_158 rfl (by decide) rfl (by first | (show _ < 2; omega) | (show _ < 16; omega) | (show _ < 32; omega) | (show _ < 8; omega) | (show _ < 272; omega) | (show _ < 1024; omega)) ?_
      rw [hV.hi p hp]
      refine y_istore dX10_answerOpen_159 rfl lvs_8_5 ?_
      rw [show mnI (md 8) (u.hi p) = u.hi p from if_pos c4] at hq
      exact r_ao_161 hp hRU hF hq
    · refine x_aload_n dX10_answerOpen_143 rfl rfl ?_
      refine gf_X10_77_10 rfl dX10_answerOpen_144 hR.o ?_
      refine x_bipush (v := nI 8) dX10_answerOpen_147 (by decide) ?_
      refine ld_M hR dX10_answerOpen_149 rfl (by decide) rfl (by first | (show _ < 2; omega) | (show _ < 16; omega) | (show _ < 32; omega) | (show _ < 8; omega) | (show _ < 272; omega) | (show _ < 1024; omega)) ?_
      rw [e8]
      refine x_goto (tgt := 159) dX10_answerOpen_150 (by decide) ?_
      refine y_istore dX10_answerOpen_159 rfl lvs_8_5 ?_
      rw [show mnI (md 8) (u.hi p) = md 8 from if_neg c4] at hq
      exact r_ao_161 hp hRU hF hq
  obtain ⟨F, hR, hV⟩ := hR
  have e7 := hV.md 7 (by omega)
  refine x_aload_n dX10_answerOpen_93 rfl rfl ?_
  refine gf_X10_77_10 rfl dX10_answerOpen_94 hR.o ?_
  refine x_bipush (v := nI 7) dX10_answerOpen_97 (by decide) ?_
  refine ld_M hR dX10_answerOpen_99 rfl (by decide) rfl (by first | (show _ < 2; omega) | (show _ < 16; omega) | (show _ < 32; omega) | (show _ < 8; omega) | (show _ < 272; omega) | (show _ < 1024; omega)) ?_
  refine x_aload_n dX10_answerOpen_100 rfl rfl ?_
  refine gf_X10_16_10 rfl dX10_answerOpen_101 hR.o ?_
  refine x_iload_n dX10_answerOpen_104 rfl ?_
  refine ld_M hR dX10_answerOpen_105 rfl (by decide) rfl (by first | (show _ < 2; omega) | (show _ < 16; omega) | (show _ < 32; omega) | (show _ < 8; omega) | (show _ < 272; omega) | (show _ < 1024; omega)) ?_
  rw [e7, hV.lo p hp]
  refine x_icmp_le (tgt := 119) dX10_answerOpen_106 (by decide) (fun c4 => ?_) (fun c4 => ?_)
  · refine x_aload_n dX10_answerOpen_119 rfl rfl ?_
    refine gf_X10_16_10 rfl dX10_answerOpen_120 hR.o ?_
    refine x_iload_n dX10_answerOpen_123 rfl ?_
    refine ld_M hR dX10_answerOpen_124 rfl (by decide) rfl (by first | (show _ < 2; omega) | (show _ < 16; omega) | (show _ < 32; omega) | (show _ < 8; omega) | (show _ < 272; omega) | (show _ < 1024; omega)) ?_
    rw [hV.lo p hp]
    refine y_istore dX10_answerOpen_125 rfl lvs_8_4 ?_
    exact key _ (if_pos c4).symm
  · refine x_aload_n dX10_answerOpen_109 rfl rfl ?_
    refine gf_X10_77_10 rfl dX10_answerOpen_110 hR.o ?_
    refine x_bipush (v := nI 7) dX10_answerOpen_113 (by decide) ?_
    refine ld_M hR dX10_answerOpen_115 rfl (by decide) rfl (by first | (show _ < 2; omega) | (show _ < 16; omega) | (show _ < 32; omega) | (show _ < 8; omega) | (show _ < 272; omega) | (show _ < 1024; omega)) ?_
    rw [e7]
    refine x_goto (tgt := 125) dX10_answerOpen_116 (by decide) ?_
    refine y_istore dX10_answerOpen_125 rfl lvs_8_4 ?_
    exact key _ (if_neg c4).symm
theorem r_ao_in {off : List Int32} {x s : Int32} {k : Nat} {h : Hp} {z6 z7 : Option Value} (hp : p < 2) (hR : RU G h m t u md) (hk : k < 4) (hx : md (11 + k) = x) (kk : ∀ z5, Jx G mX10_answerOpen (d + 2) Q 87 [some (.ref m), some (.int (nI p)), some (.int (md 1)), some (.int s), some (.int (nI k)), z5, z6, z7] [] h) : ∀ (q j : Nat) (v : Int32), j + q = (u.su p).length → ((u.su p).drop j).foldl (fun s y => if s = 0 ∧ x = y then x else s) v = s → Jx G mX10_answerOpen (d + 2) Q 27 [some (.ref m), some (.int (nI p)), some (.int (md 1)), some (.int v), some (.int (nI k)), some (.int (nI j)), z6, z7] [] h := by
  obtain ⟨F, hR, hV⟩ := hR
  obtain ⟨h4, hc, hs⟩ := hV.su p hp
  have eK := hV.md (11 + k) (by omega)
  rw [hx] at eK
  intro q
  induction q with
  | zero =>
    intro j v hj hv
    refine x_iload dX10_answerOpen_27 rfl ?_
    refine x_aload_n dX10_answerOpen_29 rfl rfl ?_
    refine gf_X10_7_10 rfl dX10_answerOpen_30 hR.o ?_
    refine x_iload_n dX10_answerOpen_33 rfl ?_
    refine ld_M hR dX10_answerOpen_34 rfl (by decide) rfl (by first | (show _ < 2; omega) | (show _ < 16; omega) | (show _ < 32; omega) | (show _ < 8; omega) | (show _ < 272; omega) | (show _ < 1024; omega)) ?_
    rw [hc]
    refine x_icmp_ge (tgt := 87) dX10_answerOpen_35 (by decide) (fun c1 => ?_) (fun c1 => ?_)
    · rw [List.drop_eq_nil_of_le (by omega)] at hv
      subst hv
      exact kk _
    · exact absurd (nI_le (by omega) (by omega)) c1
  | succ q ih =>
    intro j v hj hv
    have hjl : j < (u.su p).length := by omega
    have ej := hs j _ (List.getElem?_eq_getElem hjl)
    rw [List.drop_eq_getElem_cons hjl, List.foldl_cons] at hv
    refine x_iload dX10_answerOpen_27 rfl ?_
    refine x_aload_n dX10_answerOpen_29 rfl rfl ?_
    refine gf_X10_7_10 rfl dX10_answerOpen_30 hR.o ?_
    refine x_iload_n dX10_answerOpen_33 rfl ?_
    refine ld_M hR dX10_answerOpen_34 rfl (by decide) rfl (by first | (show _ < 2; omega) | (show _ < 16; omega) | (show _ < 32; omega) | (show _ < 8; omega) | (show _ < 272; omega) | (show _ < 1024; omega)) ?_
    rw [hc]
    refine x_icmp_ge (tgt := 87) dX10_answerOpen_35 (by decide) (fun c1 => ?_) (fun c1 => ?_)
    · exact absurd ((nI_leI (by omega) (by omega)).mp c1) (by omega)
    refine x_iload_n dX10_answerOpen_38 rfl ?_
    refine x_if_ne (tgt := 79) dX10_answerOpen_39 (by decide) (fun c2 => ?_) (fun c2 => ?_)
    · refine x_iload_n dX10_answerOpen_79 rfl ?_
      refine y_istore_n dX10_answerOpen_80 rfl lvs_8_3 ?_
      refine y_iinc (k := nI 1) dX10_answerOpen_81 rfl (by decide) lvs_8_5 ?_
      try simp only [pk_mul, nI_add]
      refine x_goto (tgt := 27) dX10_answerOpen_84 (by decide) ?_
      rw [if_neg (fun q => c2 q.1)] at hv
      exact ih (j + 1) v (by omega) hv
    refine x_aload_n dX10_answerOpen_42 rfl rfl ?_
    refine gf_X10_77_10 rfl dX10_answerOpen_43 hR.o ?_
    refine x_bipush (v := nI 11) dX10_answerOpen_46 (by decide) ?_
    refine x_iload dX10_answerOpen_48 rfl ?_
    refine x_iadd dX10_answerOpen_50 ?_
    try simp only [pk_mul, nI_add]
    refine ld_M hR dX10_answerOpen_51 rfl (by decide) rfl (by first | (show _ < 2; omega) | (show _ < 16; omega) | (show _ < 32; omega) | (show _ < 8; omega) | (show _ < 272; omega) | (show _ < 1024; omega)) ?_
    refine x_aload_n dX10_answerOpen_52 rfl rfl ?_
    refine gf_X10_13_10 rfl dX10_answerOpen_53 hR.o ?_
    refine x_iconst (v := nI 4) dX10_answerOpen_56 (by decide) ?_
    refine x_iload_n dX10_answerOpen_57 rfl ?_
    refine x_imul dX10_answerOpen_58 ?_
    try simp only [pk_mul, nI_add]
    refine x_iload dX10_answerOpen_59 rfl ?_
    refine x_iadd dX10_answerOpen_61 ?_
    try simp only [pk_mul, nI_add]
    refine ld_M hR dX10_answerOpen_62 rfl (by decide) rfl (by first | (show _ < 2; omega) | (show _ < 16; omega) | (show _ < 32; omega) | (show _ < 8; omega) | (show _ < 272; omega) | (show _ < 1024; omega)) ?_
    rw [eK, ej]
    refine x_icmp_ne (tgt := 79) dX10_answerOpen_63 (by decide) (fun c3 => ?_) (fun c3 => ?_)
    · refine x_iload_n dX10_answerOpen_79 rfl ?_
      refine y_istore_n dX10_answerOpen_80 rfl lvs_8_3 ?_
      refine y_iinc (k := nI 1) dX10_answerOpen_81 rfl (by decide) lvs_8_5 ?_
      try simp only [pk_mul, nI_add]
      refine x_goto (tgt := 27) dX10_answerOpen_84 (by decide) ?_
      rw [if_neg (fun q => c3 q.2)] at hv
      exact ih (j + 1) v (by omega) hv
    · refine x_aload_n dX10_answerOpen_66 rfl rfl ?_
      refine gf_X10_77_10 rfl dX10_answerOpen_67 hR.o ?_
      refine x_bipush (v := nI 11) dX10_answerOpen_70 (by decide) ?_
      refine x_iload dX10_answerOpen_72 rfl ?_
      refine x_iadd dX10_answerOpen_74 ?_
      try simp only [pk_mul, nI_add]
      refine ld_M hR dX10_answerOpen_75 rfl (by decide) rfl (by first | (show _ < 2; omega) | (show _ < 16; omega) | (show _ < 32; omega) | (show _ < 8; omega) | (show _ < 272; omega) | (show _ < 1024; omega)) ?_
      rw [eK]
      refine x_goto (tgt := 80) dX10_answerOpen_76 (by decide) ?_
      refine y_istore_n dX10_answerOpen_80 rfl lvs_8_3 ?_
      refine y_iinc (k := nI 1) dX10_answerOpen_81 rfl (by decide) lvs_8_5 ?_
      try simp only [pk_mul, nI_add]
      refine x_goto (tgt := 27) dX10_answerOpen_84 (by decide) ?_
      rw [if_pos ⟨c2, c3⟩] at hv
      exact ih (j + 1) x (by omega) hv
theorem r_ao_out {off : List Int32} {h : Hp} {z6 z7 : Option Value} (hp : p < 2) (hR : RU G h m t u md) (hF : FrM m h0 h) (ho : off.length ≤ 4) (h10 : md 10 = nI off.length) (h11 : ∀ k x, off[k]? = some x → md (11 + k) = x) (hq : ∀ h', RU G h' m t (ansOpen u p md off).1 (ansOpen u p md off).2 → FrM m h0 h' → Q (.returned none) h') : ∀ (q k : Nat) (v : Int32) (z5 : Option Value), k + q = off.length → (off.drop k).foldl (fun s x => (u.su p).foldl (fun s y => if s = 0 ∧ x = y then x else s) s) v = pickU off (u.su p) → Jx G mX10_answerOpen (d + 2) Q 12 [some (.ref m), some (.int (nI p)), some (.int (md 1)), some (.int v), some (.int (nI k)), z5, z6, z7] [] h := by
  have hRU := hR
  obtain ⟨F, hR, hV⟩ := hR
  have e10 := hV.md 10 (by omega)
  rw [h10] at e10
  intro q
  induction q with
  | zero =>
    intro k v z5 hk hv
    refine x_iload dX10_answerOpen_12 rfl ?_
    refine x_aload_n dX10_answerOpen_14 rfl rfl ?_
    refine gf_X10_77_10 rfl dX10_answerOpen_15 hR.o ?_
    refine x_bipush (v := nI 10) dX10_answerOpen_18 (by decide) ?_
    refine ld_M hR dX10_answerOpen_20 rfl (by decide) rfl (by first | (show _ < 2; omega) | (show _ < 16; omega) | (show _ < 32; omega) | (show _ < 8; omega) | (show _ < 272; omega) | (show _ < 1024; omega)) ?_
    rw [e10]
    refine x_icmp_ge (tgt := 93) dX10_answerOpen_21 (by decide) (fun c1 => ?_) (fun c1 => ?_)
    · rw [List.drop_eq_nil_of_le (by omega)] at hv
      rw [List.foldl_nil] at hv
      subst hv
      exact r_ao_93 hp hRU hF hq
    · exact absurd (nI_le (by omega) (by omega)) c1
  | succ q ih =>
    intro k v z5 hk hv
    have hkl : k < off.length := by omega
    rw [List.drop_eq_getElem_cons hkl, List.foldl_cons] at hv
    refine x_iload dX10_answerOpen_12 rfl ?_
    refine x_aload_n dX10_answerOpen_14 rfl rfl ?_
    refine gf_X10_77_10 rfl dX10_answerOpen_15 hR.o ?_
    refine x_bipush (v := nI 10) dX10_answerOpen_18 (by decide) ?_
    refine ld_M hR dX10_answerOpen_20 rfl (by decide) rfl (by first | (show _ < 2; omega) | (show _ < 16; omega) | (show _ < 32; omega) | (show _ < 8; omega) | (show _ < 272; omega) | (show _ < 1024; omega)) ?_
    rw [e10]
    refine x_icmp_ge (tgt := 93) dX10_answerOpen_21 (by decide) (fun c1 => ?_) (fun c1 => ?_)
    · exact absurd ((nI_leI (by omega) (by omega)).mp c1) (by omega)
    refine x_iconst (v := nI 0) dX10_answerOpen_24 (by decide) ?_
    refine y_istore dX10_answerOpen_25 rfl lvs_8_5 ?_
    refine r_ao_in (off := off) hp hRU (by omega) (h11 k _ (List.getElem?_eq_getElem hkl)) (fun z5 => ?_) (u.su p).length 0 v (by omega) rfl
    refine y_iinc (k := nI 1) dX10_answerOpen_87 rfl (by decide) lvs_8_4 ?_
    try simp only [pk_mul, nI_add]
    refine x_goto (tgt := 12) dX10_answerOpen_90 (by decide) ?_
    exact ih (k + 1) _ _ (by omega) hv
theorem r_answerOpen {off : List Int32} {h : Hp} (hp : p < 2) (hR : RU G h m t u md) (ho : off.length ≤ 4) (h10 : md 10 = nI off.length) (h11 : ∀ k x, off[k]? = some x → md (11 + k) = x) (hq : ∀ h', RU G h' m t (ansOpen u p md off).1 (ansOpen u p md off).2 → FrM m h h' → Q (.returned none) h') : Cx G mX10_answerOpen (d + 2) [.ref m, .int (nI p)] h Q := by
  show Jx G mX10_answerOpen (d + 2) Q 0 [some (.ref m), some (.int (nI p)), none, none, none, none, none, none] [] h
  have hRU := hR
  obtain ⟨F, hR, hV⟩ := hR
  refine x_aload_n dX10_answerOpen_0 rfl rfl ?_
  refine gf_X10_77_10 rfl dX10_answerOpen_1 hR.o ?_
  refine x_iconst (v := nI 1) dX10_answerOpen_4 (by decide) ?_
  refine ld_M hR dX10_answerOpen_5 rfl (by decide) rfl (by first | (show _ < 2; omega) | (show _ < 16; omega) | (show _ < 32; omega) | (show _ < 8; omega) | (show _ < 272; omega) | (show _ < 1024; omega)) ?_
  rw [hV.md 1 (by omega)]
  refine y_istore_n dX10_answerOpen_6 rfl lvs_8_2 ?_
  refine x_iconst (v := nI 0) dX10_answerOpen_7 (by decide) ?_
  refine y_istore_n dX10_answerOpen_8 rfl lvs_8_3 ?_
  refine x_iconst (v := nI 0) dX10_answerOpen_9 (by decide) ?_
  refine y_istore dX10_answerOpen_10 rfl lvs_8_4 ?_
  exact r_ao_out hp hRU (FrM.rf _ _) ho h10 h11 hq off.length 0 0 _ (by omega) rfl
theorem r_answerRenew {h : Hp} (hp : p < 2) (hR : RU G h m t u md) (hq : ∀ h', RU G h' m t (ansRenew u p md).1 (ansRenew u p md).2 → FrM m h h' → Q (.returned none) h') : Cx G mX10_answerRenew (d + 2) [.ref m, .int (nI p)] h Q := by
  show Jx G mX10_answerRenew (d + 2) Q 0 [some (.ref m), some (.int (nI p)), none, none, none, none] [] h
  obtain ⟨F, hR, hV⟩ := hR
  have hF := FrM.rf m h
  have h16 := (hV.ki p hp).1
  refine x_aload_n dX10_answerRenew_0 rfl rfl ?_
  refine gf_X10_77_10 rfl dX10_answerRenew_1 hR.o ?_
  refine x_iconst (v := nI 1) dX10_answerRenew_4 (by decide) ?_
  refine ld_M hR dX10_answerRenew_5 rfl (by decide) rfl (by first | (show _ < 2; omega) | (show _ < 16; omega) | (show _ < 32; omega) | (show _ < 8; omega) | (show _ < 272; omega) | (show _ < 1024; omega)) ?_
  rw [hV.md 1 (by omega)]
  refine y_istore_n dX10_answerRenew_6 rfl lvs_6_2 ?_
  refine x_aload_n dX10_answerRenew_7 rfl rfl ?_
  refine x_iload_n dX10_answerRenew_8 rfl ?_
  refine x_iconst (v := nI 1) dX10_answerRenew_9 (by decide) ?_
  refine x_aload_n dX10_answerRenew_10 rfl rfl ?_
  refine gf_X10_77_10 rfl dX10_answerRenew_11 hR.o ?_
  refine x_bipush (v := nI 6) dX10_answerRenew_14 (by decide) ?_
  refine ld_M hR dX10_answerRenew_16 rfl (by decide) rfl (by first | (show _ < 2; omega) | (show _ < 16; omega) | (show _ < 32; omega) | (show _ < 8; omega) | (show _ < 272; omega) | (show _ < 1024; omega)) ?_
  rw [hV.md 6 (by omega)]
  refine x_callV dX10_answerRenew_17 sv_X10_104_10 rfl hR.o rfl (Nat.le_of_ble_eq_true rfl) rfl ?_
  refine r_find ⟨_, hR, hV⟩ hp (by omega) (kc_v dr_4 ?_)
  refine y_istore_n dX10_answerRenew_20 rfl lvs_6_3 ?_
  refine x_aload_n dX10_answerRenew_21 rfl rfl ?_
  refine gf_X10_77_10 rfl dX10_answerRenew_22 hR.o ?_
  refine x_iconst (v := nI 4) dX10_answerRenew_25 (by decide) ?_
  refine ld_M hR dX10_answerRenew_26 rfl (by decide) rfl (by first | (show _ < 2; omega) | (show _ < 16; omega) | (show _ < 32; omega) | (show _ < 8; omega) | (show _ < 272; omega) | (show _ < 1024; omega)) ?_
  rw [hV.md 4 (by omega)]
  refine y_istore dX10_answerRenew_27 rfl lvs_6_4 ?_
  refine x_aload_n dX10_answerRenew_29 rfl rfl ?_
  refine gf_X10_77_10 rfl dX10_answerRenew_30 hR.o ?_
  refine x_iconst (v := nI 5) dX10_answerRenew_33 (by decide) ?_
  refine ld_M hR dX10_answerRenew_34 rfl (by decide) rfl (by first | (show _ < 2; omega) | (show _ < 16; omega) | (show _ < 32; omega) | (show _ < 8; omega) | (show _ < 272; omega) | (show _ < 1024; omega)) ?_
  rw [hV.md 5 (by omega)]
  refine y_istore dX10_answerRenew_35 rfl lvs_6_5 ?_
  refine x_aload_n dX10_answerRenew_37 rfl rfl ?_
  refine x_iconst (v := nI 0) dX10_answerRenew_38 (by decide) ?_
  refine x_iload_n dX10_answerRenew_39 rfl ?_
  refine x_iconst (v := nI 1) dX10_answerRenew_40 (by decide) ?_
  refine x_callV dX10_answerRenew_41 sv_X10_111_10 rfl hR.o rfl (Nat.le_of_ble_eq_true rfl) rfl ?_
  refine r_blank ⟨_, hR, hV⟩ (fun h1 hRU hF1 => kc_n dr_4 ?_)
  replace hF := hF.trans hF1
  obtain ⟨F, hR, hV⟩ := hRU
  refine x_iload_n dX10_answerRenew_44 rfl ?_
  unfold ansRenew at hq
  generalize hf : (u.ki p).findIdx? (fun kd => decide (kd 1 = md 6)) = o at hq ⊢
  cases o with
  | none =>
    refine x_if_lt (tgt := 75) dX10_answerRenew_45 (by decide) (fun c1 => ?_) (fun c1 => ?_)
    · refine x_aload_n dX10_answerRenew_75 rfl rfl ?_
      refine gf_X10_77_10 rfl dX10_answerRenew_76 hR.o ?_
      refine x_iconst (v := nI 3) dX10_answerRenew_79 (by decide) ?_
      refine x_iconst (v := nI 0) dX10_answerRenew_80 (by decide) ?_
      refine st_M hR dX10_answerRenew_81 rfl (by decide) rfl (by first | (show _ < 2; omega) | (show _ < 16; omega) | (show _ < 32; omega) | (show _ < 8; omega) | (show _ < 272; omega) | (show _ < 1024; omega)) (fun _ hR hF1 => ?_)
      replace hF := hF.trans hF1
      refine x_vreturn dX10_answerRenew_82 rfl ?_
      exact hq _ ⟨_, hR, hV.t_md⟩ hF
    · exact absurd (oI_neg rfl) c1
  | some k =>
    have hkl := findIdx_lt hf
    have hkd := getD_at (z := fun _ => (0 : Int32)) hkl
    simp only [oI]
    refine x_if_lt (tgt := 75) dX10_answerRenew_45 (by decide) (fun c1 => ?_) (fun c1 => ?_)
    · exact absurd c1 (nI_pos (by omega))
    simp only at hq
    refine x_aload_n dX10_answerRenew_48 rfl rfl ?_
    refine x_iload_n dX10_answerRenew_49 rfl ?_
    refine x_aload_n dX10_answerRenew_50 rfl rfl ?_
    refine x_iload_n dX10_answerRenew_51 rfl ?_
    refine x_iload_n dX10_answerRenew_52 rfl ?_
    refine x_iconst (v := nI 0) dX10_answerRenew_53 (by decide) ?_
    refine x_callV dX10_answerRenew_54 sv_X10_96_10 rfl hR.o rfl (Nat.le_of_ble_eq_true rfl) rfl ?_
    refine r_kid ⟨_, hR, hV⟩ hp hkd (by omega) (kc_v dr_4 ?_)
    refine x_iconst (v := nI 1) dX10_answerRenew_57 (by decide) ?_
    refine x_callV dX10_answerRenew_58 sv_X10_156_10 rfl hR.o rfl (Nat.le_of_ble_eq_true rfl) rfl ?_
    refine r_renewing ⟨_, hR, hV⟩ hp (kc_v dr_4 ?_)
    generalize hg : (u.ki p).findIdx? (fun e => decide (e 5 = (u.ki p).getD k (fun _ => 0) 0 ∧ e 6 = nI 1)) = o2 at hq ⊢
    cases o2 with
    | some k2 =>
      have hkl2 := findIdx_lt hg
      rw [if_pos (Or.inl (by simp))] at hq
      refine x_if_ge (tgt := 75) dX10_answerRenew_61 (by decide) (fun c2 => ?_) (fun c2 => ?_)
      · refine x_aload_n dX10_answerRenew_75 rfl rfl ?_
        refine gf_X10_77_10 rfl dX10_answerRenew_76 hR.o ?_
        refine x_iconst (v := nI 3) dX10_answerRenew_79 (by decide) ?_
        refine x_iconst (v := nI 0) dX10_answerRenew_80 (by decide) ?_
        refine st_M hR dX10_answerRenew_81 rfl (by decide) rfl (by first | (show _ < 2; omega) | (show _ < 16; omega) | (show _ < 32; omega) | (show _ < 8; omega) | (show _ < 272; omega) | (show _ < 1024; omega)) (fun _ hR hF1 => ?_)
        replace hF := hF.trans hF1
        refine x_vreturn dX10_answerRenew_82 rfl ?_
        exact hq _ ⟨_, hR, hV.t_md⟩ hF
      · exact absurd (nI_pos' (show k2 < 2 ^ 31 by omega)) c2
    | none =>
      refine x_if_ge (tgt := 75) dX10_answerRenew_61 (by decide) (fun c2 => ?_) (fun c2 => ?_)
      · exact absurd c2 (by decide)
      refine x_aload_n dX10_answerRenew_64 rfl rfl ?_
      refine gf_X10_28_10 rfl dX10_answerRenew_65 hR.o ?_
      refine x_iload_n dX10_answerRenew_68 rfl ?_
      refine ld_M hR dX10_answerRenew_69 rfl (by decide) rfl (by first | (show _ < 2; omega) | (show _ < 16; omega) | (show _ < 32; omega) | (show _ < 8; omega) | (show _ < 272; omega) | (show _ < 1024; omega)) ?_
      rw [(hV.ki p hp).2.1]
      refine x_bipush (v := nI 16) dX10_answerRenew_70 (by decide) ?_
      refine x_icmp_ne (tgt := 83) dX10_answerRenew_72 (by decide) (fun c3 => ?_) (fun c3 => ?_)
      · have e3 : ¬ (u.ki p).length = 16 := fun q => c3 (by rw [q])
        rw [if_neg (by simp [e3])] at hq
        refine x_aload_n dX10_answerRenew_83 rfl rfl ?_
        refine gf_X10_77_10 rfl dX10_answerRenew_84 hR.o ?_
        refine x_iconst (v := nI 4) dX10_answerRenew_87 (by decide) ?_
        refine x_aload_n dX10_answerRenew_88 rfl rfl ?_
        refine x_iload_n dX10_answerRenew_89 rfl ?_
        refine x_callV dX10_answerRenew_90 sv_X10_114_10 rfl hR.o rfl (Nat.le_of_ble_eq_true rfl) rfl ?_
        refine r_nextMark ⟨_, hR, hV⟩ hp (fun h1 hRU hF1 => kc_v dr_2 ?_)
        replace hF := hF.trans hF1
        obtain ⟨F, hR, hV⟩ := hRU
        refine st_M hR dX10_answerRenew_93 rfl (by decide) rfl (by first | (show _ < 2; omega) | (show _ < 16; omega) | (show _ < 32; omega) | (show _ < 8; omega) | (show _ < 272; omega) | (show _ < 1024; omega)) (fun _ hR hF1 => ?_)
        replace hF := hF.trans hF1
        replace hV := hV.t_md (j := 4) (x := u.mk p)
        refine x_aload_n dX10_answerRenew_94 rfl rfl ?_
        refine gf_X10_77_10 rfl dX10_answerRenew_95 hR.o ?_
        refine x_iconst (v := nI 5) dX10_answerRenew_98 (by decide) ?_
        refine x_aload_n dX10_answerRenew_99 rfl rfl ?_
        refine x_iload_n dX10_answerRenew_100 rfl ?_
        refine x_callV dX10_answerRenew_101 sv_X10_118_10 rfl hR.o rfl (Nat.le_of_ble_eq_true rfl) rfl ?_
        refine r_nextNonce ⟨_, hR, hV⟩ hp (fun h1 hRU hF1 => kc_v dr_2 ?_)
        replace hF := hF.trans hF1
        obtain ⟨F, hR, hV⟩ := hRU
        refine st_M hR dX10_answerRenew_104 rfl (by decide) rfl (by first | (show _ < 2; omega) | (show _ < 16; omega) | (show _ < 32; omega) | (show _ < 8; omega) | (show _ < 272; omega) | (show _ < 1024; omega)) (fun _ hR hF1 => ?_)
        replace hF := hF.trans hF1
        replace hV := hV.t_md (j := 5) (x := n16 (nxN ((u.w_mk p (u.mk p + nI 2)).no p)))
        have e4 := hV.md 4 (by omega)
        have e5 := hV.md 5 (by omega)
        have hl : (u.ki p).length < 16 := by omega
        refine x_aload_n dX10_answerRenew_105 rfl rfl ?_
        refine x_iload_n dX10_answerRenew_106 rfl ?_
        refine x_aload_n dX10_answerRenew_107 rfl rfl ?_
        refine gf_X10_77_10 rfl dX10_answerRenew_108 hR.o ?_
        refine x_iconst (v := nI 4) dX10_answerRenew_111 (by decide) ?_
        refine ld_M hR dX10_answerRenew_112 rfl (by decide) rfl (by first | (show _ < 2; omega) | (show _ < 16; omega) | (show _ < 32; omega) | (show _ < 8; omega) | (show _ < 272; omega) | (show _ < 1024; omega)) ?_
        rw [e4]
        refine x_iload dX10_answerRenew_113 rfl ?_
        refine x_aload_n dX10_answerRenew_115 rfl rfl ?_
        refine x_iload_n dX10_answerRenew_116 rfl ?_
        refine x_iload_n dX10_answerRenew_117 rfl ?_
        refine x_iconst (v := nI 2) dX10_answerRenew_118 (by decide) ?_
        refine x_callV dX10_answerRenew_119 sv_X10_96_10 rfl hR.o rfl (Nat.le_of_ble_eq_true rfl) rfl ?_
        refine r_kid ⟨_, hR, hV⟩ hp hkd (by omega) (kc_v dr_4 ?_)
        refine x_aload_n dX10_answerRenew_122 rfl rfl ?_
        refine x_iload_n dX10_answerRenew_123 rfl ?_
        refine x_iload_n dX10_answerRenew_124 rfl ?_
        refine x_iconst (v := nI 3) dX10_answerRenew_125 (by decide) ?_
        refine x_callV dX10_answerRenew_126 sv_X10_96_10 rfl hR.o rfl (Nat.le_of_ble_eq_true rfl) rfl ?_
        refine r_kid ⟨_, hR, hV⟩ hp hkd (by omega) (kc_v dr_4 ?_)
        refine x_aload_n dX10_answerRenew_129 rfl rfl ?_
        refine x_iload_n dX10_answerRenew_130 rfl ?_
        refine x_iload_n dX10_answerRenew_131 rfl ?_
        refine x_iconst (v := nI 4) dX10_answerRenew_132 (by decide) ?_
        refine x_callV dX10_answerRenew_133 sv_X10_96_10 rfl hR.o rfl (Nat.le_of_ble_eq_true rfl) rfl ?_
        refine r_kid ⟨_, hR, hV⟩ hp hkd (by omega) (kc_v dr_4 ?_)
        refine x_aload_n dX10_answerRenew_136 rfl rfl ?_
        refine x_iload_n dX10_answerRenew_137 rfl ?_
        refine x_iload_n dX10_answerRenew_138 rfl ?_
        refine x_iconst (v := nI 0) dX10_answerRenew_139 (by decide) ?_
        refine x_callV dX10_answerRenew_140 sv_X10_96_10 rfl hR.o rfl (Nat.le_of_ble_eq_true rfl) rfl ?_
        refine r_kid ⟨_, hR, hV⟩ hp hkd (by omega) (kc_v dr_4 ?_)
        refine x_iconst (v := nI 0) dX10_answerRenew_143 (by decide) ?_
        refine x_iload dX10_answerRenew_144 rfl ?_
        refine x_aload_n dX10_answerRenew_146 rfl rfl ?_
        refine gf_X10_77_10 rfl dX10_answerRenew_147 hR.o ?_
        refine x_iconst (v := nI 5) dX10_answerRenew_150 (by decide) ?_
        refine ld_M hR dX10_answerRenew_151 rfl (by decide) rfl (by first | (show _ < 2; omega) | (show _ < 16; omega) | (show _ < 32; omega) | (show _ < 8; omega) | (show _ < 272; omega) | (show _ < 1024; omega)) ?_
        rw [e5]
        refine x_icmp_ge (tgt := 160) dX10_answerRenew_152 (by decide) (fun c4 => ?_) (fun c4 => ?_)
        · refine x_aload_n dX10_answerRenew_160 rfl rfl ?_
          refine gf_X10_77_10 rfl dX10_answerRenew_161 hR.o ?_
          refine x_iconst (v := nI 5) dX10_answerRenew_164 (by decide) ?_
          refine ld_M hR dX10_answerRenew_165 rfl (by decide) rfl (by first | (show _ < 2; omega) | (show _ < 16; omega) | (show _ < 32; omega) | (show _ < 8; omega) | (show _ < 272; omega) | (show _ < 1024; omega)) ?_
          rw [e5]
          refine x_callV dX10_answerRenew_166 sv_X10_152_10 rfl hR.o rfl (Nat.le_of_ble_eq_true rfl) rfl ?_
          refine r_addKid ⟨_, hR, hV⟩ hp hl (fun h1 hRU hF1 => kc_n dr_10 ?_)
          refine x_vreturn dX10_answerRenew_169 rfl ?_
          rw [show mnI (md 5) (n16 (nxN (u.no p))) = n16 (nxN (u.no p)) from if_pos c4] at hq
          exact hq _ hRU (hF.trans hF1)
        · refine x_iload dX10_answerRenew_155 rfl ?_
          refine x_goto (tgt := 166) dX10_answerRenew_157 (by decide) ?_
          refine x_callV dX10_answerRenew_166 sv_X10_152_10 rfl hR.o rfl (Nat.le_of_ble_eq_true rfl) rfl ?_
          refine r_addKid ⟨_, hR, hV⟩ hp hl (fun h1 hRU hF1 => kc_n dr_10 ?_)
          refine x_vreturn dX10_answerRenew_169 rfl ?_
          rw [show mnI (md 5) (n16 (nxN (u.no p))) = md 5 from if_neg c4] at hq
          exact hq _ hRU (hF.trans hF1)
      · refine x_aload_n dX10_answerRenew_75 rfl rfl ?_
        refine gf_X10_77_10 rfl dX10_answerRenew_76 hR.o ?_
        refine x_iconst (v := nI 3) dX10_answerRenew_79 (by decide) ?_
        refine x_iconst (v := nI 0) dX10_answerRenew_80 (by decide) ?_
        refine st_M hR dX10_answerRenew_81 rfl (by decide) rfl (by first | (show _ < 2; omega) | (show _ < 16; omega) | (show _ < 32; omega) | (show _ < 8; omega) | (show _ < 272; omega) | (show _ < 1024; omega)) (fun _ hR hF1 => ?_)
        replace hF := hF.trans hF1
        refine x_vreturn dX10_answerRenew_82 rfl ?_
        have e3 : (u.ki p).length = 16 := (nI_eq (by omega) (by omega)).mp c3
        rw [if_pos (Or.inr e3)] at hq
        exact hq _ ⟨_, hR, hV.t_md⟩ hF
end REF9X
