def suM (md : Nat → Int32) (su : List Int32) (k : Nat) : Nat → Int32 := fun j => if 11 ≤ j ∧ j < 11 + k then su.getD (j - 11) 0 else md j
def opM (u : Ut) (p : Nat) (md : Nat → Int32) : Nat → Int32 := suM (upd (upd (upd md 7 (u.lo p)) 8 (u.hi p)) 10 (nI (u.su p).length)) (u.su p) (u.su p).length
def ofM (mark : Int32) (kd md : Nat → Int32) : Nat → Int32 := upd (upd (upd (upd md 6 mark) 7 (kd 3)) 8 (kd 4)) 9 (kd 2)
def frU (u : Ut) (p : Nat) : Ut := (u.w_mk p (u.mk p + nI 2)).w_no p (nxN (u.no p))
def frM (u : Ut) (p : Nat) (md : Nat → Int32) : Nat → Int32 := upd (upd md 4 (u.mk p)) 5 (n16 (nxN (u.no p)))
def nnU (u : Ut) (p : Nat) : Ut := u.w_nn p (u.nn p + 1)
def outU (u : Ut) (p : Nat) (md : Nat → Int32) : Ut := ((((u.w_ou p (some md)).w_se p (nI 1)).w_sp p (nI 4)).w_wt p (nI 4)).w_fl (1 - p) (flyL (u.fl (1 - p)) md)
section REF7X
variable {G : GT} {d : Nat} {Q : Outcome → Hp → Prop} {h : Hp} {m : Nat} {t : Int32} {u : Ut} {md : Nat → Int32}
theorem r_ask_loop {p : Nat} {kind mark c : Int32} {F0 : Nat → Nat → Int32} {h0 : Hp} (hp : p < 2) (hV : VW F0 u md) (hq : ∀ h', RU G h' m t (outU u p md) md → FrM m h0 h' → Q (.returned none) h') : ∀ (q i : Nat) (h : Hp), i + q = 16 → RM G h m t (rOut F0 p i) → FrM m h0 h → Jx G mX10_ask (d + 2) Q 192 [some (.ref m), some (.int (nI p)), some (.int kind), some (.int mark), some (.int c), some (.int (nI i))] [] h := by
  intro q
  induction q with
  | zero =>
    intro i h hi hR hF
    have hi16 : i = 16 := by omega
    subst hi16
    refine x_iload dX10_ask_192 rfl ?_
    refine x_bipush (v := nI 16) dX10_ask_194 (by decide) ?_
    refine x_icmp_ge (tgt := 224) dX10_ask_196 (by decide) (fun c1 => ?_) (fun c1 => ?_)
    · refine x_aload_n dX10_ask_224 rfl rfl ?_
      refine gf_X10_47_10 rfl dX10_ask_225 hR.o ?_
      refine x_iload_n dX10_ask_228 rfl ?_
      refine x_iconst (v := nI 1) dX10_ask_229 (by decide) ?_
      refine sz_M hR dX10_ask_230 rfl (by decide) rfl (by first | (show _ < 2; omega) | (show _ < 16; omega) | (show _ < 32; omega) | (show _ < 8; omega) | (show _ < 272; omega) | (show _ < 1024; omega)) (by decide) (fun _ hR hF1 => ?_)
      replace hF := hF.trans hF1
      refine x_aload_n dX10_ask_231 rfl rfl ?_
      refine gf_X10_53_10 rfl dX10_ask_232 hR.o ?_
      refine x_iload_n dX10_ask_235 rfl ?_
      refine x_iconst (v := nI 1) dX10_ask_236 (by decide) ?_
      refine st_M hR dX10_ask_237 rfl (by decide) rfl (by first | (show _ < 2; omega) | (show _ < 16; omega) | (show _ < 32; omega) | (show _ < 8; omega) | (show _ < 272; omega) | (show _ < 1024; omega)) (fun _ hR hF1 => ?_)
      replace hF := hF.trans hF1
      refine x_aload_n dX10_ask_238 rfl rfl ?_
      refine gf_X10_59_10 rfl dX10_ask_239 hR.o ?_
      refine x_iload_n dX10_ask_242 rfl ?_
      refine x_iconst (v := nI 4) dX10_ask_243 (by decide) ?_
      refine st_M hR dX10_ask_244 rfl (by decide) rfl (by first | (show _ < 2; omega) | (show _ < 16; omega) | (show _ < 32; omega) | (show _ < 8; omega) | (show _ < 272; omega) | (show _ < 1024; omega)) (fun _ hR hF1 => ?_)
      replace hF := hF.trans hF1
      refine x_aload_n dX10_ask_245 rfl rfl ?_
      refine gf_X10_56_10 rfl dX10_ask_246 hR.o ?_
      refine x_iload_n dX10_ask_249 rfl ?_
      refine x_iconst (v := nI 4) dX10_ask_250 (by decide) ?_
      refine st_M hR dX10_ask_251 rfl (by decide) rfl (by first | (show _ < 2; omega) | (show _ < 16; omega) | (show _ < 32; omega) | (show _ < 8; omega) | (show _ < 272; omega) | (show _ < 1024; omega)) (fun _ hR hF1 => ?_)
      replace hF := hF.trans hF1
      refine x_aload_n dX10_ask_252 rfl rfl ?_
      refine x_iconst (v := nI 1) dX10_ask_253 (by decide) ?_
      refine x_iload_n dX10_ask_254 rfl ?_
      refine x_isub dX10_ask_255 ?_
      rw [pk_sub (show p ≤ 1 by omega)]
      refine x_callV dX10_ask_256 sv_X10_121_10 rfl hR.o rfl (Nat.le_of_ble_eq_true rfl) rfl ?_
      refine r_fly ⟨_, hR, (((hV.t_ou1).t_se).t_sp).t_wt⟩ (by omega) (fun h' hR hF1 => kc_n dr_2 ?_)
      refine x_vreturn dX10_ask_259 rfl ?_
      exact hq _ hR (hF.trans hF1)
    · exact absurd (nI_le (by omega) (by omega)) c1
  | succ q ih =>
    intro i h hi hR hF
    refine x_iload dX10_ask_192 rfl ?_
    refine x_bipush (v := nI 16) dX10_ask_194 (by decide) ?_
    refine x_icmp_ge (tgt := 224) dX10_ask_196 (by decide) (fun c1 => ?_) (fun c1 => ?_)
    · exact absurd ((nI_leI (by omega) (by omega)).mp c1) (by omega)
    refine x_aload_n dX10_ask_199 rfl rfl ?_
    refine gf_X10_50_10 rfl dX10_ask_200 hR.o ?_
    refine x_bipush (v := nI 16) dX10_ask_203 (by decide) ?_
    refine x_iload_n dX10_ask_205 rfl ?_
    refine x_imul dX10_ask_206 ?_
    try simp only [pk_mul, nI_add]
    refine x_iload dX10_ask_207 rfl ?_
    refine x_iadd dX10_ask_209 ?_
    try simp only [pk_mul, nI_add]
    refine x_aload_n dX10_ask_210 rfl rfl ?_
    refine gf_X10_77_10 rfl dX10_ask_211 hR.o ?_
    refine x_iload dX10_ask_214 rfl ?_
    refine ld_M hR dX10_ask_216 rfl (by decide) rfl (by first | (show _ < 2; omega) | (show _ < 16; omega) | (show _ < 32; omega) | (show _ < 8; omega) | (show _ < 272; omega) | (show _ < 1024; omega)) ?_
    refine st_M hR dX10_ask_217 rfl (by decide) rfl (by first | (show _ < 2; omega) | (show _ < 16; omega) | (show _ < 32; omega) | (show _ < 8; omega) | (show _ < 272; omega) | (show _ < 1024; omega)) (fun _ hR hF1 => ?_)
    replace hF := hF.trans hF1
    refine y_iinc (k := nI 1) dX10_ask_218 rfl (by decide) lvs_6_5 ?_
    try simp only [pk_mul, nI_add]
    refine x_goto (tgt := 192) dX10_ask_221 (by decide) ?_
    refine ih (i + 1) _ (by omega) (hR.ext fun a b => ?_) hF
    rw [u2_at]
    simp only [rOut]
    by_cases h14 : a = 14
    · subst h14
      by_cases hb : b = 16 * p + i
      · subst hb
        rw [if_pos ⟨rfl, rfl⟩, if_neg (by omega), if_pos ⟨rfl, by omega, by omega⟩, Nat.add_sub_cancel_left]
      · rw [if_neg (fun q => hb q.2)]
        by_cases hb2 : 16 * p ≤ b ∧ b < 16 * p + i
        · rw [if_pos ⟨rfl, hb2⟩, if_pos ⟨rfl, by omega, by omega⟩]
        · rw [if_neg (by omega), if_neg (by omega)]
    · rw [if_neg (fun q => h14 q.1), if_neg (fun q => h14 q.1), if_neg (fun q => h14 q.1)]
theorem r_ask_end {p : Nat} {kind mark c : Int32} {z : Option Value} {h0 : Hp} (hR : RU G h m t u md) (hF : FrM m h0 h) (hp : p < 2) (hq : ∀ h', RU G h' m t (outU u p md) md → FrM m h0 h' → Q (.returned none) h') : Jx G mX10_ask (d + 2) Q 189 [some (.ref m), some (.int (nI p)), some (.int kind), some (.int mark), some (.int c), z] [] h := by
  obtain ⟨F, hR, hV⟩ := hR
  refine x_iconst (v := nI 0) dX10_ask_189 (by decide) ?_
  refine y_istore dX10_ask_190 rfl lvs_6_5 ?_
  exact r_ask_loop hp hV hq 16 0 h (by omega) (hR.ext fun a b => by rw [rOut, if_neg (by omega)]) hF
theorem r_ask_su {p : Nat} {kind mark c : Int32} {h0 : Hp} {md0 : Nat → Int32} (hp : p < 2) (hq : ∀ h', RU G h' m t (outU u p (suM md0 (u.su p) (u.su p).length)) (suM md0 (u.su p) (u.su p).length) → FrM m h0 h' → Q (.returned none) h') : ∀ (q i : Nat) (h : Hp), i + q = (u.su p).length → RU G h m t u (suM md0 (u.su p) i) → FrM m h0 h → Jx G mX10_ask (d + 2) Q 95 [some (.ref m), some (.int (nI p)), some (.int kind), some (.int mark), some (.int c), some (.int (nI i))] [] h := by
  intro q
  induction q with
  | zero =>
    intro i h hi hRU hF
    obtain ⟨F, hR, hV⟩ := hRU
    have h4 := (hV.su p hp).1
    refine x_iload dX10_ask_95 rfl ?_
    refine x_aload_n dX10_ask_97 rfl rfl ?_
    refine gf_X10_7_10 rfl dX10_ask_98 hR.o ?_
    refine x_iload_n dX10_ask_101 rfl ?_
    refine ld_M hR dX10_ask_102 rfl (by decide) rfl (by first | (show _ < 2; omega) | (show _ < 16; omega) | (show _ < 32; omega) | (show _ < 8; omega) | (show _ < 272; omega) | (show _ < 1024; omega)) ?_
    rw [(hV.su p hp).2.1]
    refine x_icmp_ge (tgt := 133) dX10_ask_103 (by decide) (fun c1 => ?_) (fun c1 => ?_)
    · refine x_goto (tgt := 189) dX10_ask_133 (by decide) ?_
      have : i = (u.su p).length := by omega
      subst this
      exact r_ask_end ⟨F, hR, hV⟩ hF hp hq
    · exact absurd (nI_le (by omega) (by omega)) c1
  | succ q ih =>
    intro i h hi hRU hF
    obtain ⟨F, hR, hV⟩ := hRU
    have h4 := (hV.su p hp).1
    refine x_iload dX10_ask_95 rfl ?_
    refine x_aload_n dX10_ask_97 rfl rfl ?_
    refine gf_X10_7_10 rfl dX10_ask_98 hR.o ?_
    refine x_iload_n dX10_ask_101 rfl ?_
    refine ld_M hR dX10_ask_102 rfl (by decide) rfl (by first | (show _ < 2; omega) | (show _ < 16; omega) | (show _ < 32; omega) | (show _ < 8; omega) | (show _ < 272; omega) | (show _ < 1024; omega)) ?_
    rw [(hV.su p hp).2.1]
    refine x_icmp_ge (tgt := 133) dX10_ask_103 (by decide) (fun c1 => ?_) (fun c1 => ?_)
    · exact absurd ((nI_leI (by omega) (by omega)).mp c1) (by omega)
    refine x_aload_n dX10_ask_106 rfl rfl ?_
    refine gf_X10_77_10 rfl dX10_ask_107 hR.o ?_
    refine x_bipush (v := nI 11) dX10_ask_110 (by decide) ?_
    refine x_iload dX10_ask_112 rfl ?_
    refine x_iadd dX10_ask_114 ?_
    try simp only [pk_mul, nI_add]
    refine x_aload_n dX10_ask_115 rfl rfl ?_
    refine gf_X10_13_10 rfl dX10_ask_116 hR.o ?_
    refine x_iconst (v := nI 4) dX10_ask_119 (by decide) ?_
    refine x_iload_n dX10_ask_120 rfl ?_
    refine x_imul dX10_ask_121 ?_
    try simp only [pk_mul, nI_add]
    refine x_iload dX10_ask_122 rfl ?_
    refine x_iadd dX10_ask_124 ?_
    try simp only [pk_mul, nI_add]
    refine ld_M hR dX10_ask_125 rfl (by decide) rfl (by first | (show _ < 2; omega) | (show _ < 16; omega) | (show _ < 32; omega) | (show _ < 8; omega) | (show _ < 272; omega) | (show _ < 1024; omega)) ?_
    rw [(hV.su p hp).2.2 i _ (List.getElem?_eq_getElem (by omega))]
    refine st_M hR dX10_ask_126 rfl (by decide) rfl (by first | (show _ < 2; omega) | (show _ < 16; omega) | (show _ < 32; omega) | (show _ < 8; omega) | (show _ < 272; omega) | (show _ < 1024; omega)) (fun _ hR hF1 => ?_)
    replace hF := hF.trans hF1
    refine y_iinc (k := nI 1) dX10_ask_127 rfl (by decide) lvs_6_5 ?_
    try simp only [pk_mul, nI_add]
    refine x_goto (tgt := 95) dX10_ask_130 (by decide) ?_
    refine ih (i + 1) _ (by omega) ⟨_, hR, ?_⟩ hF
    refine hV.t_md.s_md (fun _ _ _ => rfl) (fun j hj => ?_)
    rw [hV.t_md.md j hj]
    simp only [upd, suM]
    by_cases e : j = 11 + i
    · subst e
      rw [if_pos rfl, if_pos ⟨by omega, by omega⟩, Nat.add_sub_cancel_left, List.getD_eq_getElem?_getD, List.getElem?_eq_getElem (by omega)]
      rfl
    · rw [if_neg e]
      by_cases e2 : 11 ≤ j ∧ j < 11 + i
      · rw [if_pos e2, if_pos ⟨by omega, by omega⟩]
      · rw [if_neg e2, if_neg (by omega)]
theorem r_ask_open {p : Nat} {kind mark c : Int32} {z : Option Value} {h0 : Hp} (hR : RU G h m t u md) (hF : FrM m h0 h) (hp : p < 2) (hk : kind = 0) (hq : ∀ h', RU G h' m t (outU u p (opM u p md)) (opM u p md) → FrM m h0 h' → Q (.returned none) h') : Jx G mX10_ask (d + 2) Q 49 [some (.ref m), some (.int (nI p)), some (.int kind), some (.int mark), some (.int c), z] [] h := by
  obtain ⟨F, hR, hV⟩ := hR
  refine x_iload_n dX10_ask_49 rfl ?_
  refine x_if_ne (tgt := 136) dX10_ask_50 (by decide) (fun c1 => ?_) (fun c1 => ?_)
  · exact absurd hk c1
  refine x_aload_n dX10_ask_53 rfl rfl ?_
  refine gf_X10_77_10 rfl dX10_ask_54 hR.o ?_
  refine x_bipush (v := nI 7) dX10_ask_57 (by decide) ?_
  refine x_aload_n dX10_ask_59 rfl rfl ?_
  refine gf_X10_16_10 rfl dX10_ask_60 hR.o ?_
  refine x_iload_n dX10_ask_63 rfl ?_
  refine ld_M hR dX10_ask_64 rfl (by decide) rfl (by first | (show _ < 2; omega) | (show _ < 16; omega) | (show _ < 32; omega) | (show _ < 8; omega) | (show _ < 272; omega) | (show _ < 1024; omega)) ?_
  rw [hV.lo p hp]
  refine st_M hR dX10_ask_65 rfl (by decide) rfl (by first | (show _ < 2; omega) | (show _ < 16; omega) | (show _ < 32; omega) | (show _ < 8; omega) | (show _ < 272; omega) | (show _ < 1024; omega)) (fun _ hR hF1 => ?_)
  replace hF := hF.trans hF1
  replace hV := hV.t_md (j := 7) (x := u.lo p)
  refine x_aload_n dX10_ask_66 rfl rfl ?_
  refine gf_X10_77_10 rfl dX10_ask_67 hR.o ?_
  refine x_bipush (v := nI 8) dX10_ask_70 (by decide) ?_
  refine x_aload_n dX10_ask_72 rfl rfl ?_
  refine gf_X10_19_10 rfl dX10_ask_73 hR.o ?_
  refine x_iload_n dX10_ask_76 rfl ?_
  refine ld_M hR dX10_ask_77 rfl (by decide) rfl (by first | (show _ < 2; omega) | (show _ < 16; omega) | (show _ < 32; omega) | (show _ < 8; omega) | (show _ < 272; omega) | (show _ < 1024; omega)) ?_
  rw [hV.hi p hp]
  refine st_M hR dX10_ask_78 rfl (by decide) rfl (by first | (show _ < 2; omega) | (show _ < 16; omega) | (show _ < 32; omega) | (show _ < 8; omega) | (show _ < 272; omega) | (show _ < 1024; omega)) (fun _ hR hF1 => ?_)
  replace hF := hF.trans hF1
  replace hV := hV.t_md (j := 8) (x := u.hi p)
  refine x_aload_n dX10_ask_79 rfl rfl ?_
  refine gf_X10_77_10 rfl dX10_ask_80 hR.o ?_
  refine x_bipush (v := nI 10) dX10_ask_83 (by decide) ?_
  refine x_aload_n dX10_ask_85 rfl rfl ?_
  refine gf_X10_7_10 rfl dX10_ask_86 hR.o ?_
  refine x_iload_n dX10_ask_89 rfl ?_
  refine ld_M hR dX10_ask_90 rfl (by decide) rfl (by first | (show _ < 2; omega) | (show _ < 16; omega) | (show _ < 32; omega) | (show _ < 8; omega) | (show _ < 272; omega) | (show _ < 1024; omega)) ?_
  rw [(hV.su p hp).2.1]
  refine st_M hR dX10_ask_91 rfl (by decide) rfl (by first | (show _ < 2; omega) | (show _ < 16; omega) | (show _ < 32; omega) | (show _ < 8; omega) | (show _ < 272; omega) | (show _ < 1024; omega)) (fun _ hR hF1 => ?_)
  replace hF := hF.trans hF1
  replace hV := hV.t_md (j := 10) (x := nI (u.su p).length)
  refine x_iconst (v := nI 0) dX10_ask_92 (by decide) ?_
  refine y_istore dX10_ask_93 rfl lvs_6_5 ?_
  refine r_ask_su hp hq (u.su p).length 0 _ (by omega) ⟨_, hR, hV.s_md (fun _ _ _ => rfl) (fun j hj => ?_)⟩ hF
  rw [hV.md j hj, suM, if_neg (by omega)]
theorem r_ask_of {p k : Nat} {kind mark : Int32} {kd : Nat → Int32} {z : Option Value} {h0 : Hp} (hR : RU G h m t u md) (hF : FrM m h0 h) (hp : p < 2) (hk : kind ≠ 0) (hkd : (u.ki p)[k]? = some kd) (hq : ∀ h', RU G h' m t (outU u p (ofM mark kd md)) (ofM mark kd md) → FrM m h0 h' → Q (.returned none) h') : Jx G mX10_ask (d + 2) Q 49 [some (.ref m), some (.int (nI p)), some (.int kind), some (.int mark), some (.int (nI k)), z] [] h := by
  obtain ⟨F, hR, hV⟩ := hR
  refine x_iload_n dX10_ask_49 rfl ?_
  refine x_if_ne (tgt := 136) dX10_ask_50 (by decide) (fun c1 => ?_) (fun c1 => ?_)
  · refine x_aload_n dX10_ask_136 rfl rfl ?_
    refine gf_X10_77_10 rfl dX10_ask_137 hR.o ?_
    refine x_bipush (v := nI 6) dX10_ask_140 (by decide) ?_
    refine x_iload_n dX10_ask_142 rfl ?_
    refine st_M hR dX10_ask_143 rfl (by decide) rfl (by first | (show _ < 2; omega) | (show _ < 16; omega) | (show _ < 32; omega) | (show _ < 8; omega) | (show _ < 272; omega) | (show _ < 1024; omega)) (fun _ hR hF1 => ?_)
    replace hF := hF.trans hF1
    replace hV := hV.t_md (j := 6) (x := mark)
    refine x_aload_n dX10_ask_144 rfl rfl ?_
    refine gf_X10_77_10 rfl dX10_ask_145 hR.o ?_
    refine x_bipush (v := nI 7) dX10_ask_148 (by decide) ?_
    refine x_aload_n dX10_ask_150 rfl rfl ?_
    refine x_iload_n dX10_ask_151 rfl ?_
    refine x_iload dX10_ask_152 rfl ?_
    refine x_iconst (v := nI 3) dX10_ask_154 (by decide) ?_
    refine x_callV dX10_ask_155 sv_X10_96_10 rfl hR.o rfl (Nat.le_of_ble_eq_true rfl) rfl ?_
    refine r_kid ⟨_, hR, hV⟩ hp hkd (by omega) (kc_v dr_4 ?_)
    refine st_M hR dX10_ask_158 rfl (by decide) rfl (by first | (show _ < 2; omega) | (show _ < 16; omega) | (show _ < 32; omega) | (show _ < 8; omega) | (show _ < 272; omega) | (show _ < 1024; omega)) (fun _ hR hF1 => ?_)
    replace hF := hF.trans hF1
    replace hV := hV.t_md (j := 7) (x := kd 3)
    refine x_aload_n dX10_ask_159 rfl rfl ?_
    refine gf_X10_77_10 rfl dX10_ask_160 hR.o ?_
    refine x_bipush (v := nI 8) dX10_ask_163 (by decide) ?_
    refine x_aload_n dX10_ask_165 rfl rfl ?_
    refine x_iload_n dX10_ask_166 rfl ?_
    refine x_iload dX10_ask_167 rfl ?_
    refine x_iconst (v := nI 4) dX10_ask_169 (by decide) ?_
    refine x_callV dX10_ask_170 sv_X10_96_10 rfl hR.o rfl (Nat.le_of_ble_eq_true rfl) rfl ?_
    refine r_kid ⟨_, hR, hV⟩ hp hkd (by omega) (kc_v dr_4 ?_)
    refine st_M hR dX10_ask_173 rfl (by decide) rfl (by first | (show _ < 2; omega) | (show _ < 16; omega) | (show _ < 32; omega) | (show _ < 8; omega) | (show _ < 272; omega) | (show _ < 1024; omega)) (fun _ hR hF1 => ?_)
    replace hF := hF.trans hF1
    replace hV := hV.t_md (j := 8) (x := kd 4)
    refine x_aload_n dX10_ask_174 rfl rfl ?_
    refine gf_X10_77_10 rfl dX10_ask_175 hR.o ?_
    refine x_bipush (v := nI 9) dX10_ask_178 (by decide) ?_
    refine x_aload_n dX10_ask_180 rfl rfl ?_
    refine x_iload_n dX10_ask_181 rfl ?_
    refine x_iload dX10_ask_182 rfl ?_
    refine x_iconst (v := nI 2) dX10_ask_184 (by decide) ?_
    refine x_callV dX10_ask_185 sv_X10_96_10 rfl hR.o rfl (Nat.le_of_ble_eq_true rfl) rfl ?_
    refine r_kid ⟨_, hR, hV⟩ hp hkd (by omega) (kc_v dr_4 ?_)
    refine st_M hR dX10_ask_188 rfl (by decide) rfl (by first | (show _ < 2; omega) | (show _ < 16; omega) | (show _ < 32; omega) | (show _ < 8; omega) | (show _ < 272; omega) | (show _ < 1024; omega)) (fun _ hR hF1 => ?_)
    replace hF := hF.trans hF1
    replace hV := hV.t_md (j := 9) (x := kd 2)
    exact r_ask_end ⟨_, hR, hV⟩ hF hp hq
  · exact absurd c1 hk
theorem r_ask_0 {p : Nat} {kind mark c : Int32} (hR : RU G h m t u md) (hp : p < 2) (hk : ∀ h', RU G h' m t (if kind = 2 then nnU u p else frU (nnU u p) p) (if kind = 2 then blk (nI 1) (nI (u.nn p)) kind else frM u p (blk (nI 1) (nI (u.nn p)) kind)) → FrM m h h' → Jx G mX10_ask (d + 2) Q 49 [some (.ref m), some (.int (nI p)), some (.int kind), some (.int mark), some (.int c), none] [] h') : Cx G mX10_ask (d + 2) [.ref m, .int (nI p), .int kind, .int mark, .int c] h Q := by
  show Jx G mX10_ask (d + 2) Q 0 [some (.ref m), some (.int (nI p)), some (.int kind), some (.int mark), some (.int c), none] [] h
  obtain ⟨F, hR, hV⟩ := hR
  have hF := FrM.rf m h
  refine x_aload_n dX10_ask_0 rfl rfl ?_
  refine x_iconst (v := nI 1) dX10_ask_1 (by decide) ?_
  refine x_aload_n dX10_ask_2 rfl rfl ?_
  refine gf_X10_62_10 rfl dX10_ask_3 hR.o ?_
  refine x_iload_n dX10_ask_6 rfl ?_
  refine ld_M hR dX10_ask_7 rfl (by decide) rfl (by first | (show _ < 2; omega) | (show _ < 16; omega) | (show _ < 32; omega) | (show _ < 8; omega) | (show _ < 272; omega) | (show _ < 1024; omega)) ?_
  rw [hV.nn p hp]
  refine x_iload_n dX10_ask_8 rfl ?_
  refine x_callV dX10_ask_9 sv_X10_111_10 rfl hR.o rfl (Nat.le_of_ble_eq_true rfl) rfl ?_
  refine r_blank ⟨_, hR, hV⟩ (fun h1 hRU hF1 => kc_n dr_4 ?_)
  replace hF := hF.trans hF1
  obtain ⟨F, hR, hV⟩ := hRU
  refine x_aload_n dX10_ask_12 rfl rfl ?_
  refine gf_X10_62_10 rfl dX10_ask_13 hR.o ?_
  refine x_iload_n dX10_ask_16 rfl ?_
  refine x_dup2 dX10_ask_17 rfl rfl ?_
  refine ld_M hR dX10_ask_18 rfl (by decide) rfl (by first | (show _ < 2; omega) | (show _ < 16; omega) | (show _ < 32; omega) | (show _ < 8; omega) | (show _ < 272; omega) | (show _ < 1024; omega)) ?_
  rw [hV.nn p hp]
  refine x_iconst (v := nI 1) dX10_ask_19 (by decide) ?_
  refine x_iadd dX10_ask_20 ?_
  try simp only [pk_mul, nI_add]
  refine st_M hR dX10_ask_21 rfl (by decide) rfl (by first | (show _ < 2; omega) | (show _ < 16; omega) | (show _ < 32; omega) | (show _ < 8; omega) | (show _ < 272; omega) | (show _ < 1024; omega)) (fun _ hR hF1 => ?_)
  replace hF := hF.trans hF1
  replace hV := hV.t_nn (p := p) (n := u.nn p + 1)
  refine x_iload_n dX10_ask_22 rfl ?_
  refine x_iconst (v := nI 2) dX10_ask_23 (by decide) ?_
  refine x_icmp_eq (tgt := 49) dX10_ask_24 (by decide) (fun c1 => ?_) (fun c1 => ?_)
  · have e2 : kind = 2 := c1
    rw [if_pos e2, if_pos e2] at hk
    exact hk _ ⟨_, hR, hV⟩ hF
  · have e2 : ¬ kind = 2 := c1
    rw [if_neg e2, if_neg e2] at hk
    refine x_aload_n dX10_ask_27 rfl rfl ?_
    refine gf_X10_77_10 rfl dX10_ask_28 hR.o ?_
    refine x_iconst (v := nI 4) dX10_ask_31 (by decide) ?_
    refine x_aload_n dX10_ask_32 rfl rfl ?_
    refine x_iload_n dX10_ask_33 rfl ?_
    refine x_callV dX10_ask_34 sv_X10_114_10 rfl hR.o rfl (Nat.le_of_ble_eq_true rfl) rfl ?_
    refine r_nextMark ⟨_, hR, hV⟩ hp (fun h1 hRU hF1 => kc_v dr_2 ?_)
    replace hF := hF.trans hF1
    obtain ⟨F, hR, hV⟩ := hRU
    refine st_M hR dX10_ask_37 rfl (by decide) rfl (by first | (show _ < 2; omega) | (show _ < 16; omega) | (show _ < 32; omega) | (show _ < 8; omega) | (show _ < 272; omega) | (show _ < 1024; omega)) (fun _ hR hF1 => ?_)
    replace hF := hF.trans hF1
    replace hV := hV.t_md (j := 4) (x := u.mk p)
    refine x_aload_n dX10_ask_38 rfl rfl ?_
    refine gf_X10_77_10 rfl dX10_ask_39 hR.o ?_
    refine x_iconst (v := nI 5) dX10_ask_42 (by decide) ?_
    refine x_aload_n dX10_ask_43 rfl rfl ?_
    refine x_iload_n dX10_ask_44 rfl ?_
    refine x_callV dX10_ask_45 sv_X10_118_10 rfl hR.o rfl (Nat.le_of_ble_eq_true rfl) rfl ?_
    refine r_nextNonce ⟨_, hR, hV⟩ hp (fun h1 hRU hF1 => kc_v dr_2 ?_)
    replace hF := hF.trans hF1
    obtain ⟨F, hR, hV⟩ := hRU
    refine st_M hR dX10_ask_48 rfl (by decide) rfl (by first | (show _ < 2; omega) | (show _ < 16; omega) | (show _ < 32; omega) | (show _ < 8; omega) | (show _ < 272; omega) | (show _ < 1024; omega)) (fun _ hR hF1 => ?_)
    replace hF := hF.trans hF1
    replace hV := hV.t_md (j := 5) (x := n16 (nxN (u.no p)))
    exact hk _ ⟨_, hR, hV⟩ hF
def askU (u : Ut) (p : Nat) (kind mark : Int32) (kd : Nat → Int32) : Ut × (Nat → Int32) :=
  let v := if kind = 2 then nnU u p else frU (nnU u p) p
  let b := if kind = 2 then blk (nI 1) (nI (u.nn p)) kind else frM u p (blk (nI 1) (nI (u.nn p)) kind)
  let q := if kind = 0 then opM v p b else ofM mark kd b
  (outU v p q, q)
theorem r_askO {p : Nat} {kind mark c : Int32} {kd : Nat → Int32} (hR : RU G h m t u md) (hp : p < 2) (hk : kind = 0) (hq : ∀ h', RU G h' m t (askU u p kind mark kd).1 (askU u p kind mark kd).2 → FrM m h h' → Q (.returned none) h') : Cx G mX10_ask (d + 2) [.ref m, .int (nI p), .int kind, .int mark, .int c] h Q := by
  refine r_ask_0 hR hp (fun h' hR' hF => ?_)
  simp only [askU, if_pos hk] at hq
  exact r_ask_open hR' hF hp hk hq
theorem r_askR {p k : Nat} {kind mark : Int32} {kd : Nat → Int32} (hR : RU G h m t u md) (hp : p < 2) (hk : kind ≠ 0) (hkd : (u.ki p)[k]? = some kd) (hq : ∀ h', RU G h' m t (askU u p kind mark kd).1 (askU u p kind mark kd).2 → FrM m h h' → Q (.returned none) h') : Cx G mX10_ask (d + 2) [.ref m, .int (nI p), .int kind, .int mark, .int (nI k)] h Q := by
  refine r_ask_0 hR hp (fun h' hR' hF => ?_)
  simp only [askU, if_neg hk] at hq
  refine r_ask_of hR' hF hp hk ?_ hq
  split <;> exact hkd
end REF7X
