def ansV (v : Ut) (p : Nat) (md pk : Nat → Int32) (worth : Int32) : Ut := if pk 2 = nI 2 then kiOut v p ((v.ki p).findIdx? (fun kd => decide (kd 0 = pk 6))) else if md 3 = nI 1 then (if pk 2 = 0 then kiIn v p (kdL (pk 4) (md 4) (md 9) (md 7) (md 8) (nI 0) (nI 1) worth) else renU v p md pk worth) else v
def ansU (u : Ut) (p : Nat) (md : Nat → Int32) : Ut × Int32 := match u.ou p with
  | none => (u, nI 0)
  | some pk => if pk 1 = md 1 then (ansV (u.w_ou p none) p md pk (mnI (md 5) (pk 5)), nI 3) else (u, nI 0)
def agaU (u : Ut) (p : Nat) (pk : Nat → Int32) : Ut × Int32 :=
  if u.se p = nI 5 then ((u.w_ou p none).w_de p true, nI 0) else
  ((((u.w_se p (u.se p + nI 1)).w_sp p (nI 2 * u.sp p)).w_wt p (nI 2 * u.sp p)).w_fl (1 - p) (flyL (u.fl (1 - p)) pk), nI 1)
def tickP (u : Ut) (p : Nat) : Ut × Int32 := match u.ou p with
  | none => (u, nI 0)
  | some pk => if u.wt p - nI 1 = 0 then agaU (u.w_wt p (u.wt p - nI 1)) p pk else (u.w_wt p (u.wt p - nI 1), nI 0)
def tickN : Nat → Ut → Int32 → Ut × Int32
  | 0, u, n => (u, n)
  | k + 1, u, n => tickN k (tickP (tickP u 0).1 1).1 (n + (tickP u 0).2 + (tickP (tickP u 0).1 1).2)
section REF11X
variable {G : GT} {d : Nat} {Q : Outcome → Hp → Prop} {m : Nat} {t : Int32} {u : Ut} {md : Nat → Int32} {h0 : Hp} {p : Nat}
theorem r_ans_85 {pk : Nat → Int32} {F : Nat → Nat → Int32} {worth : Int32} {h : Hp} (hp : p < 2) (hR : RM G h m t F) (hV : VW F u md) (hO : ∀ j, j < 16 → F 14 (16 * p + j) = pk j) (hF : FrM m h0 h) (hw : (u.wi p).length < 15) (hq : ∀ h', RU G h' m t (ansV u p md pk worth) md → FrM m h0 h' → Q (.returned (some (.int (nI 3)))) h') : Jx G mX10_answer (d + 3) Q 85 [some (.ref m), some (.int (nI p)), some (.int (nI (16 * p))), some (.int (pk 2)), some (.int worth)] [] h := by
  have h16 := (hV.ki p hp).1
  refine x_iload_n dX10_answer_85 rfl ?_
  refine x_iconst (v := nI 2) dX10_answer_86 (by decide) ?_
  refine x_icmp_ne (tgt := 113) dX10_answer_87 (by decide) (fun c1 => ?_) (fun c1 => ?_)
  · rw [ansV, if_neg c1] at hq
    refine x_aload_n dX10_answer_113 rfl rfl ?_
    refine gf_X10_77_10 rfl dX10_answer_114 hR.o ?_
    refine x_iconst (v := nI 3) dX10_answer_117 (by decide) ?_
    refine ld_M hR dX10_answer_118 rfl (by decide) rfl (by first | (show _ < 2; omega) | (show _ < 16; omega) | (show _ < 32; omega) | (show _ < 8; omega) | (show _ < 272; omega) | (show _ < 1024; omega)) ?_
    rw [hV.md 3 (by omega)]
    refine x_iconst (v := nI 1) dX10_answer_119 (by decide) ?_
    refine x_icmp_ne (tgt := 185) dX10_answer_120 (by decide) (fun c2 => ?_) (fun c2 => ?_)
    · rw [if_neg c2] at hq
      refine x_aload_n dX10_answer_185 rfl rfl ?_
      refine gf_X10_77_10 rfl dX10_answer_186 hR.o ?_
      refine x_iconst (v := nI 3) dX10_answer_189 (by decide) ?_
      refine ld_M hR dX10_answer_190 rfl (by decide) rfl (by first | (show _ < 2; omega) | (show _ < 16; omega) | (show _ < 32; omega) | (show _ < 8; omega) | (show _ < 272; omega) | (show _ < 1024; omega)) ?_
      rw [hV.md 3 (by omega)]
      refine x_iconst (v := nI 1) dX10_answer_191 (by decide) ?_
      refine x_icmp_ne (tgt := 203) dX10_answer_192 (by decide) (fun c3 => ?_) (fun c3 => ?_)
      · refine x_iconst (v := nI 3) dX10_answer_203 (by decide) ?_
        refine x_ireturn dX10_answer_204 rfl ?_
        exact hq _ ⟨_, hR, hV⟩ hF
      · exact absurd c3 c2
    rw [if_pos c2] at hq
    refine x_iload_n dX10_answer_123 rfl ?_
    refine x_if_ne (tgt := 185) dX10_answer_124 (by decide) (fun c3 => ?_) (fun c3 => ?_)
    · rw [if_neg c3] at hq
      refine x_aload_n dX10_answer_185 rfl rfl ?_
      refine gf_X10_77_10 rfl dX10_answer_186 hR.o ?_
      refine x_iconst (v := nI 3) dX10_answer_189 (by decide) ?_
      refine ld_M hR dX10_answer_190 rfl (by decide) rfl (by first | (show _ < 2; omega) | (show _ < 16; omega) | (show _ < 32; omega) | (show _ < 8; omega) | (show _ < 272; omega) | (show _ < 1024; omega)) ?_
      rw [hV.md 3 (by omega)]
      refine x_iconst (v := nI 1) dX10_answer_191 (by decide) ?_
      refine x_icmp_ne (tgt := 203) dX10_answer_192 (by decide) (fun c4 => ?_) (fun c4 => ?_)
      · exact absurd c2 c4
      refine x_aload_n dX10_answer_195 rfl rfl ?_
      refine x_iload_n dX10_answer_196 rfl ?_
      refine x_iload_n dX10_answer_197 rfl ?_
      refine x_iload dX10_answer_198 rfl ?_
      refine x_callV dX10_answer_200 sv_X10_159_10 rfl hR.o rfl (Nat.le_of_ble_eq_true rfl) rfl ?_
      refine r_renewed hp hR hV hO hw (fun h1 hRU hF1 => kc_n dr_4 ?_)
      refine x_iconst (v := nI 3) dX10_answer_203 (by decide) ?_
      refine x_ireturn dX10_answer_204 rfl ?_
      exact hq _ hRU (hF.trans hF1)
    rw [if_pos c3] at hq
    refine x_aload_n dX10_answer_127 rfl rfl ?_
    refine gf_X10_28_10 rfl dX10_answer_128 hR.o ?_
    refine x_iload_n dX10_answer_131 rfl ?_
    refine ld_M hR dX10_answer_132 rfl (by decide) rfl (by first | (show _ < 2; omega) | (show _ < 16; omega) | (show _ < 32; omega) | (show _ < 8; omega) | (show _ < 272; omega) | (show _ < 1024; omega)) ?_
    rw [(hV.ki p hp).2.1]
    refine x_bipush (v := nI 16) dX10_answer_133 (by decide) ?_
    refine x_icmp_ge (tgt := 203) dX10_answer_135 (by decide) (fun c4 => ?_) (fun c4 => ?_)
    · have hn : ¬ (u.ki p).length < 16 := by have := (nI_leI (a := 16) (b := (u.ki p).length) (by omega) (by omega)).mp c4; omega
      rw [kiIn, if_neg hn] at hq
      refine x_iconst (v := nI 3) dX10_answer_203 (by decide) ?_
      refine x_ireturn dX10_answer_204 rfl ?_
      exact hq _ ⟨_, hR, hV⟩ hF
    · have hl : (u.ki p).length < 16 := by
        by_cases hl : (u.ki p).length < 16
        · exact hl
        · exact absurd (nI_le (by omega) (by omega)) c4
      rw [kiIn, if_pos hl] at hq
      refine x_aload_n dX10_answer_138 rfl rfl ?_
      refine x_iload_n dX10_answer_139 rfl ?_
      refine x_aload_n dX10_answer_140 rfl rfl ?_
      refine gf_X10_50_10 rfl dX10_answer_141 hR.o ?_
      refine x_iload_n dX10_answer_144 rfl ?_
      refine x_iconst (v := nI 4) dX10_answer_145 (by decide) ?_
      refine x_iadd dX10_answer_146 ?_
      try simp only [pk_mul, nI_add]
      refine ld_M hR dX10_answer_147 rfl (by decide) rfl (by first | (show _ < 2; omega) | (show _ < 16; omega) | (show _ < 32; omega) | (show _ < 8; omega) | (show _ < 272; omega) | (show _ < 1024; omega)) ?_
      rw [hO 4 (by omega)]
      refine x_aload_n dX10_answer_148 rfl rfl ?_
      refine gf_X10_77_10 rfl dX10_answer_149 hR.o ?_
      refine x_iconst (v := nI 4) dX10_answer_152 (by decide) ?_
      refine ld_M hR dX10_answer_153 rfl (by decide) rfl (by first | (show _ < 2; omega) | (show _ < 16; omega) | (show _ < 32; omega) | (show _ < 8; omega) | (show _ < 272; omega) | (show _ < 1024; omega)) ?_
      rw [hV.md 4 (by omega)]
      refine x_aload_n dX10_answer_154 rfl rfl ?_
      refine gf_X10_77_10 rfl dX10_answer_155 hR.o ?_
      refine x_bipush (v := nI 9) dX10_answer_158 (by decide) ?_
      refine ld_M hR dX10_answer_160 rfl (by decide) rfl (by first | (show _ < 2; omega) | (show _ < 16; omega) | (show _ < 32; omega) | (show _ < 8; omega) | (show _ < 272; omega) | (show _ < 1024; omega)) ?_
      rw [hV.md 9 (by omega)]
      refine x_aload_n dX10_answer_161 rfl rfl ?_
      refine gf_X10_77_10 rfl dX10_answer_162 hR.o ?_
      refine x_bipush (v := nI 7) dX10_answer_165 (by decide) ?_
      refine ld_M hR dX10_answer_167 rfl (by decide) rfl (by first | (show _ < 2; omega) | (show _ < 16; omega) | (show _ < 32; omega) | (show _ < 8; omega) | (show _ < 272; omega) | (show _ < 1024; omega)) ?_
      rw [hV.md 7 (by omega)]
      refine x_aload_n dX10_answer_168 rfl rfl ?_
      refine gf_X10_77_10 rfl dX10_answer_169 hR.o ?_
      refine x_bipush (v := nI 8) dX10_answer_172 (by decide) ?_
      refine ld_M hR dX10_answer_174 rfl (by decide) rfl (by first | (show _ < 2; omega) | (show _ < 16; omega) | (show _ < 32; omega) | (show _ < 8; omega) | (show _ < 272; omega) | (show _ < 1024; omega)) ?_
      rw [hV.md 8 (by omega)]
      refine x_iconst (v := nI 0) dX10_answer_175 (by decide) ?_
      refine x_iconst (v := nI 1) dX10_answer_176 (by decide) ?_
      refine x_iload dX10_answer_177 rfl ?_
      refine x_callV dX10_answer_179 sv_X10_152_10 rfl hR.o rfl (Nat.le_of_ble_eq_true rfl) rfl ?_
      refine r_addKid ⟨_, hR, hV⟩ hp hl (fun h1 hRU hF1 => kc_n dr_10 ?_)
      refine x_goto (tgt := 203) dX10_answer_182 (by decide) ?_
      refine x_iconst (v := nI 3) dX10_answer_203 (by decide) ?_
      refine x_ireturn dX10_answer_204 rfl ?_
      exact hq _ hRU (hF.trans hF1)
  · rw [ansV, if_pos c1] at hq
    refine x_aload_n dX10_answer_90 rfl rfl ?_
    refine x_iload_n dX10_answer_91 rfl ?_
    refine x_aload_n dX10_answer_92 rfl rfl ?_
    refine x_iload_n dX10_answer_93 rfl ?_
    refine x_iconst (v := nI 0) dX10_answer_94 (by decide) ?_
    refine x_aload_n dX10_answer_95 rfl rfl ?_
    refine gf_X10_50_10 rfl dX10_answer_96 hR.o ?_
    refine x_iload_n dX10_answer_99 rfl ?_
    refine x_bipush (v := nI 6) dX10_answer_100 (by decide) ?_
    refine x_iadd dX10_answer_102 ?_
    try simp only [pk_mul, nI_add]
    refine ld_M hR dX10_answer_103 rfl (by decide) rfl (by first | (show _ < 2; omega) | (show _ < 16; omega) | (show _ < 32; omega) | (show _ < 8; omega) | (show _ < 272; omega) | (show _ < 1024; omega)) ?_
    rw [hO 6 (by omega)]
    refine x_callV dX10_answer_104 sv_X10_104_10 rfl hR.o rfl (Nat.le_of_ble_eq_true rfl) rfl ?_
    refine r_find ⟨_, hR, hV⟩ hp (by omega) (kc_v dr_4 ?_)
    refine x_callV dX10_answer_107 sv_X10_149_10 rfl hR.o rfl (Nat.le_of_ble_eq_true rfl) rfl ?_
    refine r_drop_of ⟨_, hR, hV⟩ hp (fun k hk => findIdx_lt hk) (fun h1 hRU hF1 => kc_n dr_3 ?_)
    refine x_goto (tgt := 203) dX10_answer_110 (by decide) ?_
    refine x_iconst (v := nI 3) dX10_answer_203 (by decide) ?_
    refine x_ireturn dX10_answer_204 rfl ?_
    exact hq _ hRU (hF.trans hF1)
theorem r_answer {h : Hp} (hp : p < 2) (hR : RU G h m t u md) (hw : (u.wi p).length < 15) (hq : ∀ h', RU G h' m t (ansU u p md).1 md → FrM m h h' → Q (.returned (some (.int (ansU u p md).2))) h') : Cx G mX10_answer (d + 3) [.ref m, .int (nI p)] h Q := by
  show Jx G mX10_answer (d + 3) Q 0 [some (.ref m), some (.int (nI p)), none, none, none] [] h
  obtain ⟨F, hR, hV⟩ := hR
  have hF := FrM.rf m h
  obtain ⟨ho, hk⟩ := hV.ou p hp
  refine x_bipush (v := nI 16) dX10_answer_0 (by decide) ?_
  refine x_iload_n dX10_answer_2 rfl ?_
  refine x_imul dX10_answer_3 ?_
  try simp only [pk_mul, nI_add]
  refine y_istore_n dX10_answer_4 rfl lvs_5_2 ?_
  refine x_aload_n dX10_answer_5 rfl rfl ?_
  refine gf_X10_47_10 rfl dX10_answer_6 hR.o ?_
  refine x_iload_n dX10_answer_9 rfl ?_
  refine lz_M hR dX10_answer_10 rfl (by decide) rfl (by first | (show _ < 2; omega) | (show _ < 16; omega) | (show _ < 32; omega) | (show _ < 8; omega) | (show _ < 272; omega) | (show _ < 1024; omega)) ?_
  rw [ho]
  unfold ansU at hq
  generalize hg : u.ou p = o at hq ho hk ⊢
  cases o with
  | none =>
    refine x_if_eq (tgt := 31) dX10_answer_11 (by decide) (fun c1 => ?_) (fun c1 => ?_)
    · refine x_iconst (v := nI 0) dX10_answer_31 (by decide) ?_
      refine x_ireturn dX10_answer_32 rfl ?_
      exact hq _ ⟨_, hR, hV⟩ hF
    · exact absurd rfl c1
  | some pk =>
    have hO := hk pk rfl
    simp only at hq
    refine x_if_eq (tgt := 31) dX10_answer_11 (by decide) (fun c1 => ?_) (fun c1 => ?_)
    · exact absurd c1 (show ¬ (1 : Int32) = 0 by decide)
    refine x_aload_n dX10_answer_14 rfl rfl ?_
    refine gf_X10_50_10 rfl dX10_answer_15 hR.o ?_
    refine x_iload_n dX10_answer_18 rfl ?_
    refine x_iconst (v := nI 1) dX10_answer_19 (by decide) ?_
    refine x_iadd dX10_answer_20 ?_
    try simp only [pk_mul, nI_add]
    refine ld_M hR dX10_answer_21 rfl (by decide) rfl (by first | (show _ < 2; omega) | (show _ < 16; omega) | (show _ < 32; omega) | (show _ < 8; omega) | (show _ < 272; omega) | (show _ < 1024; omega)) ?_
    refine x_aload_n dX10_answer_22 rfl rfl ?_
    refine gf_X10_77_10 rfl dX10_answer_23 hR.o ?_
    refine x_iconst (v := nI 1) dX10_answer_26 (by decide) ?_
    refine ld_M hR dX10_answer_27 rfl (by decide) rfl (by first | (show _ < 2; omega) | (show _ < 16; omega) | (show _ < 32; omega) | (show _ < 8; omega) | (show _ < 272; omega) | (show _ < 1024; omega)) ?_
    rw [hO 1 (by omega), hV.md 1 (by omega)]
    refine x_icmp_eq (tgt := 33) dX10_answer_28 (by decide) (fun c2 => ?_) (fun c2 => ?_)
    · rw [if_pos c2] at hq
      refine x_aload_n dX10_answer_33 rfl rfl ?_
      refine gf_X10_47_10 rfl dX10_answer_34 hR.o ?_
      refine x_iload_n dX10_answer_37 rfl ?_
      refine x_iconst (v := nI 0) dX10_answer_38 (by decide) ?_
      refine sz_M hR dX10_answer_39 rfl (by decide) rfl (by first | (show _ < 2; omega) | (show _ < 16; omega) | (show _ < 32; omega) | (show _ < 8; omega) | (show _ < 272; omega) | (show _ < 1024; omega)) (by decide) (fun _ hR hF1 => ?_)
      replace hF := hF.trans hF1
      replace hV := hV.t_ou0 (p := p)
      replace hO : ∀ j, j < 16 → u2 F 13 p (nI 0) 14 (16 * p + j) = pk j := fun j hj => (u2_row _ _ _ _ (by decide)).trans (hO j hj)
      refine x_aload_n dX10_answer_40 rfl rfl ?_
      refine gf_X10_50_10 rfl dX10_answer_41 hR.o ?_
      refine x_iload_n dX10_answer_44 rfl ?_
      refine x_iconst (v := nI 2) dX10_answer_45 (by decide) ?_
      refine x_iadd dX10_answer_46 ?_
      try simp only [pk_mul, nI_add]
      refine ld_M hR dX10_answer_47 rfl (by decide) rfl (by first | (show _ < 2; omega) | (show _ < 16; omega) | (show _ < 32; omega) | (show _ < 8; omega) | (show _ < 272; omega) | (show _ < 1024; omega)) ?_
      rw [hO 2 (by omega)]
      refine y_istore_n dX10_answer_48 rfl lvs_5_3 ?_
      refine x_aload_n dX10_answer_49 rfl rfl ?_
      refine gf_X10_77_10 rfl dX10_answer_50 hR.o ?_
      refine x_iconst (v := nI 5) dX10_answer_53 (by decide) ?_
      refine ld_M hR dX10_answer_54 rfl (by decide) rfl (by first | (show _ < 2; omega) | (show _ < 16; omega) | (show _ < 32; omega) | (show _ < 8; omega) | (show _ < 272; omega) | (show _ < 1024; omega)) ?_
      refine x_aload_n dX10_answer_55 rfl rfl ?_
      refine gf_X10_50_10 rfl dX10_answer_56 hR.o ?_
      refine x_iload_n dX10_answer_59 rfl ?_
      refine x_iconst (v := nI 5) dX10_answer_60 (by decide) ?_
      refine x_iadd dX10_answer_61 ?_
      try simp only [pk_mul, nI_add]
      refine ld_M hR dX10_answer_62 rfl (by decide) rfl (by first | (show _ < 2; omega) | (show _ < 16; omega) | (show _ < 32; omega) | (show _ < 8; omega) | (show _ < 272; omega) | (show _ < 1024; omega)) ?_
      rw [hO 5 (by omega), hV.md 5 (by omega)]
      refine x_icmp_ge (tgt := 75) dX10_answer_63 (by decide) (fun c3 => ?_) (fun c3 => ?_)
      · refine x_aload_n dX10_answer_75 rfl rfl ?_
        refine gf_X10_50_10 rfl dX10_answer_76 hR.o ?_
        refine x_iload_n dX10_answer_79 rfl ?_
        refine x_iconst (v := nI 5) dX10_answer_80 (by decide) ?_
        refine x_iadd dX10_answer_81 ?_
        try simp only [pk_mul, nI_add]
        refine ld_M hR dX10_answer_82 rfl (by decide) rfl (by first | (show _ < 2; omega) | (show _ < 16; omega) | (show _ < 32; omega) | (show _ < 8; omega) | (show _ < 272; omega) | (show _ < 1024; omega)) ?_
        rw [hO 5 (by omega)]
        refine y_istore dX10_answer_83 rfl lvs_5_4 ?_
        rw [show mnI (md 5) (pk 5) = pk 5 from if_pos c3] at hq
        exact r_ans_85 hp hR hV hO hF hw hq
      · refine x_aload_n dX10_answer_66 rfl rfl ?_
        refine gf_X10_77_10 rfl dX10_answer_67 hR.o ?_
        refine x_iconst (v := nI 5) dX10_answer_70 (by decide) ?_
        refine ld_M hR dX10_answer_71 rfl (by decide) rfl (by first | (show _ < 2; omega) | (show _ < 16; omega) | (show _ < 32; omega) | (show _ < 8; omega) | (show _ < 272; omega) | (show _ < 1024; omega)) ?_
        rw [hV.md 5 (by omega)]
        refine x_goto (tgt := 83) dX10_answer_72 (by decide) ?_
        refine y_istore dX10_answer_83 rfl lvs_5_4 ?_
        rw [show mnI (md 5) (pk 5) = md 5 from if_neg c3] at hq
        exact r_ans_85 hp hR hV hO hF hw hq
    · rw [if_neg c2] at hq
      refine x_iconst (v := nI 0) dX10_answer_31 (by decide) ?_
      refine x_ireturn dX10_answer_32 rfl ?_
      exact hq _ ⟨_, hR, hV⟩ hF
theorem r_aga_get {pk : Nat → Int32} {F0 : Nat → Nat → Int32} (hp : p < 2) (hV : VW F0 u md) (hO : ∀ j, j < 16 → F0 14 (16 * p + j) = pk j) (hq : ∀ h', RU G h' m t (u.w_fl (1 - p) (flyL (u.fl (1 - p)) pk)) pk → FrM m h0 h' → Q (.returned (some (.int (nI 1)))) h') : ∀ (q i : Nat) (h : Hp), i + q = 16 → RM G h m t (rGet F0 14 p i) → FrM m h0 h → Jx G mX10_again (d + 2) Q 64 [some (.ref m), some (.int (nI p)), some (.int (nI i))] [] h := by
  intro q
  induction q with
  | zero =>
    intro i h hi hR hF
    have hi16 : i = 16 := by omega
    subst hi16
    refine x_iload_n dX10_again_64 rfl ?_
    refine x_bipush (v := nI 16) dX10_again_65 (by decide) ?_
    refine x_icmp_ge (tgt := 93) dX10_again_67 (by decide) (fun c1 => ?_) (fun c1 => ?_)
    · refine x_aload_n dX10_again_93 rfl rfl ?_
      refine x_iconst (v := nI 1) dX10_again_94 (by decide) ?_
      refine x_iload_n dX10_again_95 rfl ?_
      refine x_isub dX10_again_96 ?_
      rw [pk_sub (show p ≤ 1 by omega)]
      refine x_callV dX10_again_97 sv_X10_121_10 rfl hR.o rfl (Nat.le_of_ble_eq_true rfl) rfl ?_
      refine r_fly ⟨_, hR, hV.t_get hO⟩ (by omega) (fun h' hR hF1 => kc_n dr_2 ?_)
      refine x_iconst (v := nI 1) dX10_again_100 (by decide) ?_
      refine x_ireturn dX10_again_101 rfl ?_
      exact hq _ hR (hF.trans hF1)
    · exact absurd (nI_le (by omega) (by omega)) c1
  | succ q ih =>
    intro i h hi hR hF
    refine x_iload_n dX10_again_64 rfl ?_
    refine x_bipush (v := nI 16) dX10_again_65 (by decide) ?_
    refine x_icmp_ge (tgt := 93) dX10_again_67 (by decide) (fun c1 => ?_) (fun c1 => ?_)
    · exact absurd ((nI_leI (by omega) (by omega)).mp c1) (by omega)
    refine x_aload_n dX10_again_70 rfl rfl ?_
    refine gf_X10_77_10 rfl dX10_again_71 hR.o ?_
    refine x_iload_n dX10_again_74 rfl ?_
    refine x_aload_n dX10_again_75 rfl rfl ?_
    refine gf_X10_50_10 rfl dX10_again_76 hR.o ?_
    refine x_bipush (v := nI 16) dX10_again_79 (by decide) ?_
    refine x_iload_n dX10_again_81 rfl ?_
    refine x_imul dX10_again_82 ?_
    try simp only [pk_mul, nI_add]
    refine x_iload_n dX10_again_83 rfl ?_
    refine x_iadd dX10_again_84 ?_
    try simp only [pk_mul, nI_add]
    refine ld_M hR dX10_again_85 rfl (by decide) rfl (by first | (show _ < 2; omega) | (show _ < 16; omega) | (show _ < 32; omega) | (show _ < 8; omega) | (show _ < 272; omega) | (show _ < 1024; omega)) ?_
    refine st_M hR dX10_again_86 rfl (by decide) rfl (by first | (show _ < 2; omega) | (show _ < 16; omega) | (show _ < 32; omega) | (show _ < 8; omega) | (show _ < 272; omega) | (show _ < 1024; omega)) (fun _ hR hF1 => ?_)
    replace hF := hF.trans hF1
    refine y_iinc (k := nI 1) dX10_again_87 rfl (by decide) lvs_3_2 ?_
    try simp only [pk_mul, nI_add]
    refine x_goto (tgt := 64) dX10_again_90 (by decide) ?_
    refine ih (i + 1) _ (by omega) (hR.ext fun a b => ?_) hF
    rw [u2_at]
    simp only [rGet]
    by_cases h23 : a = 23
    · subst h23
      by_cases hb : b = i
      · subst hb
        rw [if_pos ⟨rfl, rfl⟩, if_neg (by omega), if_pos ⟨rfl, by omega⟩]
      · rw [if_neg (fun q => hb q.2)]
        by_cases hb2 : b < i
        · rw [if_pos ⟨rfl, hb2⟩, if_pos ⟨rfl, by omega⟩]
        · rw [if_neg (by omega), if_neg (by omega)]
    · rw [if_neg (fun q => h23 q.1), if_neg (fun q => h23 q.1), if_neg (fun q => h23 q.1)]
theorem r_again {pk : Nat → Int32} {h : Hp} (hp : p < 2) (hR : RU G h m t u md) (hpk : u.ou p = some pk) (hq : ∀ h' md', RU G h' m t (agaU u p pk).1 md' → FrM m h h' → Q (.returned (some (.int (agaU u p pk).2))) h') : Cx G mX10_again (d + 2) [.ref m, .int (nI p)] h Q := by
  show Jx G mX10_again (d + 2) Q 0 [some (.ref m), some (.int (nI p)), none] [] h
  obtain ⟨F, hR, hV⟩ := hR
  have hF := FrM.rf m h
  have hO := (hV.ou p hp).2 pk hpk
  refine x_aload_n dX10_again_0 rfl rfl ?_
  refine gf_X10_53_10 rfl dX10_again_1 hR.o ?_
  refine x_iload_n dX10_again_4 rfl ?_
  refine ld_M hR dX10_again_5 rfl (by decide) rfl (by first | (show _ < 2; omega) | (show _ < 16; omega) | (show _ < 32; omega) | (show _ < 8; omega) | (show _ < 272; omega) | (show _ < 1024; omega)) ?_
  rw [hV.se p hp]
  refine x_iconst (v := nI 5) dX10_again_6 (by decide) ?_
  refine x_icmp_ne (tgt := 26) dX10_again_7 (by decide) (fun c1 => ?_) (fun c1 => ?_)
  · rw [agaU, if_neg c1] at hq
    refine x_aload_n dX10_again_26 rfl rfl ?_
    refine gf_X10_53_10 rfl dX10_again_27 hR.o ?_
    refine x_iload_n dX10_again_30 rfl ?_
    refine x_dup2 dX10_again_31 rfl rfl ?_
    refine ld_M hR dX10_again_32 rfl (by decide) rfl (by first | (show _ < 2; omega) | (show _ < 16; omega) | (show _ < 32; omega) | (show _ < 8; omega) | (show _ < 272; omega) | (show _ < 1024; omega)) ?_
    rw [hV.se p hp]
    refine x_iconst (v := nI 1) dX10_again_33 (by decide) ?_
    refine x_iadd dX10_again_34 ?_
    try simp only [pk_mul, nI_add]
    refine st_M hR dX10_again_35 rfl (by decide) rfl (by first | (show _ < 2; omega) | (show _ < 16; omega) | (show _ < 32; omega) | (show _ < 8; omega) | (show _ < 272; omega) | (show _ < 1024; omega)) (fun _ hR hF1 => ?_)
    replace hF := hF.trans hF1
    replace hV := hV.t_se (p := p) (x := u.se p + nI 1)
    refine x_aload_n dX10_again_36 rfl rfl ?_
    refine gf_X10_59_10 rfl dX10_again_37 hR.o ?_
    refine x_iload_n dX10_again_40 rfl ?_
    refine x_iconst (v := nI 2) dX10_again_41 (by decide) ?_
    refine x_aload_n dX10_again_42 rfl rfl ?_
    refine gf_X10_59_10 rfl dX10_again_43 hR.o ?_
    refine x_iload_n dX10_again_46 rfl ?_
    refine ld_M hR dX10_again_47 rfl (by decide) rfl (by first | (show _ < 2; omega) | (show _ < 16; omega) | (show _ < 32; omega) | (show _ < 8; omega) | (show _ < 272; omega) | (show _ < 1024; omega)) ?_
    rw [hV.sp p hp]
    refine x_imul dX10_again_48 ?_
    try simp only [pk_mul, nI_add]
    refine st_M hR dX10_again_49 rfl (by decide) rfl (by first | (show _ < 2; omega) | (show _ < 16; omega) | (show _ < 32; omega) | (show _ < 8; omega) | (show _ < 272; omega) | (show _ < 1024; omega)) (fun _ hR hF1 => ?_)
    replace hF := hF.trans hF1
    replace hV := hV.t_sp (p := p) (x := nI 2 * u.sp p)
    refine x_aload_n dX10_again_50 rfl rfl ?_
    refine gf_X10_56_10 rfl dX10_again_51 hR.o ?_
    refine x_iload_n dX10_again_54 rfl ?_
    refine x_aload_n dX10_again_55 rfl rfl ?_
    refine gf_X10_59_10 rfl dX10_again_56 hR.o ?_
    refine x_iload_n dX10_again_59 rfl ?_
    refine ld_M hR dX10_again_60 rfl (by decide) rfl (by first | (show _ < 2; omega) | (show _ < 16; omega) | (show _ < 32; omega) | (show _ < 8; omega) | (show _ < 272; omega) | (show _ < 1024; omega)) ?_
    rw [u2_same]
    refine st_M hR dX10_again_61 rfl (by decide) rfl (by first | (show _ < 2; omega) | (show _ < 16; omega) | (show _ < 32; omega) | (show _ < 8; omega) | (show _ < 272; omega) | (show _ < 1024; omega)) (fun _ hR hF1 => ?_)
    replace hF := hF.trans hF1
    refine x_iconst (v := nI 0) dX10_again_62 (by decide) ?_
    refine y_istore_n dX10_again_63 rfl lvs_3_2 ?_
    replace hV := hV.t_wt (p := p) (x := nI 2 * u.sp p)
    refine r_aga_get hp hV (fun j hj => ?_) (fun h' hR' hF' => hq _ _ hR' hF') 16 0 _ (by omega) (hR.ext fun a b => by rw [rGet, if_neg (by omega)]; rfl) hF
    rw [u2_row _ _ _ _ (by decide), u2_row _ _ _ _ (by decide), u2_row _ _ _ _ (by decide)]
    exact hO j hj
  · rw [agaU, if_pos c1] at hq
    refine x_aload_n dX10_again_10 rfl rfl ?_
    refine gf_X10_47_10 rfl dX10_again_11 hR.o ?_
    refine x_iload_n dX10_again_14 rfl ?_
    refine x_iconst (v := nI 0) dX10_again_15 (by decide) ?_
    refine sz_M hR dX10_again_16 rfl (by decide) rfl (by first | (show _ < 2; omega) | (show _ < 16; omega) | (show _ < 32; omega) | (show _ < 8; omega) | (show _ < 272; omega) | (show _ < 1024; omega)) (by decide) (fun _ hR hF1 => ?_)
    replace hF := hF.trans hF1
    refine x_aload_n dX10_again_17 rfl rfl ?_
    refine gf_X10_43_10 rfl dX10_again_18 hR.o ?_
    refine x_iload_n dX10_again_21 rfl ?_
    refine x_iconst (v := nI 1) dX10_again_22 (by decide) ?_
    refine sz_M hR dX10_again_23 rfl (by decide) rfl (by first | (show _ < 2; omega) | (show _ < 16; omega) | (show _ < 32; omega) | (show _ < 8; omega) | (show _ < 272; omega) | (show _ < 1024; omega)) (by decide) (fun _ hR hF1 => ?_)
    replace hF := hF.trans hF1
    refine x_iconst (v := nI 0) dX10_again_24 (by decide) ?_
    refine x_ireturn dX10_again_25 rfl ?_
    exact hq _ _ ⟨_, hR, hV.t_ou0.t_de (b := true)⟩ hF
theorem r_tick_p {h : Hp} {n many T : Int32} (hp : p < 2) (hR : RU G h m t u md) (hF : FrM m h0 h) (kk : ∀ h' md', RU G h' m t (tickP u p).1 md' → FrM m h0 h' → Jx G mX10_tick (d + 3) Q 87 [some (.ref m), some (.int many), some (.int (n + (tickP u p).2)), some (.int T), some (.int (nI p))] [] h') : Jx G mX10_tick (d + 3) Q 47 [some (.ref m), some (.int many), some (.int n), some (.int T), some (.int (nI p))] [] h := by
  obtain ⟨F, hR, hV⟩ := hR
  have ho := (hV.ou p hp).1
  refine x_aload_n dX10_tick_47 rfl rfl ?_
  refine gf_X10_47_10 rfl dX10_tick_48 hR.o ?_
  refine x_iload dX10_tick_51 rfl ?_
  refine lz_M hR dX10_tick_53 rfl (by decide) rfl (by first | (show _ < 2; omega) | (show _ < 16; omega) | (show _ < 32; omega) | (show _ < 8; omega) | (show _ < 272; omega) | (show _ < 1024; omega)) ?_
  rw [ho]
  unfold tickP at kk
  generalize hg : u.ou p = o at kk ho ⊢
  cases o with
  | none =>
    refine x_if_eq (tgt := 87) dX10_tick_54 (by decide) (fun c1 => ?_) (fun c1 => ?_)
    · have := kk _ _ ⟨_, hR, hV⟩ hF
      rw [show n + (u, nI 0).2 = n from Int32.add_zero n] at this
      exact this
    · exact absurd rfl c1
  | some pk =>
    simp only at kk
    refine x_if_eq (tgt := 87) dX10_tick_54 (by decide) (fun c1 => ?_) (fun c1 => ?_)
    · exact absurd c1 (show ¬ (1 : Int32) = 0 by decide)
    refine x_aload_n dX10_tick_57 rfl rfl ?_
    refine gf_X10_56_10 rfl dX10_tick_58 hR.o ?_
    refine x_iload dX10_tick_61 rfl ?_
    refine x_dup2 dX10_tick_63 rfl rfl ?_
    refine ld_M hR dX10_tick_64 rfl (by decide) rfl (by first | (show _ < 2; omega) | (show _ < 16; omega) | (show _ < 32; omega) | (show _ < 8; omega) | (show _ < 272; omega) | (show _ < 1024; omega)) ?_
    rw [hV.wt p hp]
    refine x_iconst (v := nI 1) dX10_tick_65 (by decide) ?_
    refine x_isub dX10_tick_66 ?_
    refine st_M hR dX10_tick_67 rfl (by decide) rfl (by first | (show _ < 2; omega) | (show _ < 16; omega) | (show _ < 32; omega) | (show _ < 8; omega) | (show _ < 272; omega) | (show _ < 1024; omega)) (fun _ hR hF1 => ?_)
    replace hF := hF.trans hF1
    replace hV := hV.t_wt (p := p) (x := u.wt p - nI 1)
    refine x_aload_n dX10_tick_68 rfl rfl ?_
    refine gf_X10_56_10 rfl dX10_tick_69 hR.o ?_
    refine x_iload dX10_tick_72 rfl ?_
    refine ld_M hR dX10_tick_74 rfl (by decide) rfl (by first | (show _ < 2; omega) | (show _ < 16; omega) | (show _ < 32; omega) | (show _ < 8; omega) | (show _ < 272; omega) | (show _ < 1024; omega)) ?_
    rw [u2_same]
    refine x_if_ne (tgt := 87) dX10_tick_75 (by decide) (fun c2 => ?_) (fun c2 => ?_)
    · rw [if_neg c2] at kk
      have := kk _ _ ⟨_, hR, hV⟩ hF
      rw [show n + (u.w_wt p (u.wt p - nI 1), nI 0).2 = n from Int32.add_zero n] at this
      exact this
    rw [if_pos c2] at kk
    refine x_iload_n dX10_tick_78 rfl ?_
    refine x_aload_n dX10_tick_79 rfl rfl ?_
    refine x_iload dX10_tick_80 rfl ?_
    refine x_callV dX10_tick_82 sv_X10_162_10 rfl hR.o rfl (Nat.le_of_ble_eq_true rfl) rfl ?_
    refine r_again hp ⟨_, hR, hV⟩ hg (fun h1 md1 hRU hF1 => kc_v dr_2 ?_)
    refine x_iadd dX10_tick_85 ?_
    try simp only [pk_mul, nI_add]
    refine y_istore_n dX10_tick_86 rfl lvs_5_2 ?_
    exact kk _ _ hRU (hF.trans hF1)
theorem r_tick_loop {k : Nat} {uf : Ut} {nf : Int32} (hk : k ≤ 1000) (hq : ∀ h' md', RU G h' m t (takeU uf) md' → FrM m h0 h' → Q (.returned (some (.int nf))) h') : ∀ (q i : Nat) (n : Int32) (u : Ut) (md : Nat → Int32) (h : Hp) (z : Option Value), i + q = k → RU G h m t u md → FrM m h0 h → tickN q u n = (uf, nf) → Jx G mX10_tick (d + 4) Q 33 [some (.ref m), some (.int (nI k)), some (.int n), some (.int (nI i)), z] [] h := by
  intro q
  induction q with
  | zero =>
    intro i n u md h z hi hR hF he
    cases he
    refine x_iload_n dX10_tick_33 rfl ?_
    refine x_iload_n dX10_tick_34 rfl ?_
    refine x_icmp_ge (tgt := 99) dX10_tick_35 (by decide) (fun c1 => ?_) (fun c1 => ?_)
    · have hRU := hR
      obtain ⟨F, hR, hV⟩ := hR
      refine x_aload_n dX10_tick_99 rfl rfl ?_
      refine x_callV dX10_tick_100 sv_X10_91_10 rfl hR.o rfl (Nat.le_of_ble_eq_true rfl) rfl ?_
      refine r_takeWishes hRU (fun h' md' hR' hF' => kc_n dr_1 ?_)
      refine x_iload_n dX10_tick_103 rfl ?_
      refine x_ireturn dX10_tick_104 rfl ?_
      exact hq _ _ hR' (hF.trans hF')
    · exact absurd (nI_le (by omega) (by omega)) c1
  | succ q ih =>
    intro i n u md h z hi hR hF he
    refine x_iload_n dX10_tick_33 rfl ?_
    refine x_iload_n dX10_tick_34 rfl ?_
    refine x_icmp_ge (tgt := 99) dX10_tick_35 (by decide) (fun c1 => ?_) (fun c1 => ?_)
    · exact absurd ((nI_leI (by omega) (by omega)).mp c1) (by omega)
    refine x_iconst (v := nI 0) dX10_tick_38 (by decide) ?_
    refine y_istore dX10_tick_39 rfl lvs_5_4 ?_
    refine x_iload dX10_tick_41 rfl ?_
    refine x_iconst (v := nI 2) dX10_tick_43 (by decide) ?_
    refine x_icmp_ge (tgt := 93) dX10_tick_44 (by decide) (fun c2 => ?_) (fun c2 => ?_)
    · exact absurd c2 (by decide)
    refine r_tick_p (p := 0) (h0 := h0) (by omega) hR hF (fun h1 md1 hR1 hF1 => ?_)
    refine y_iinc (k := nI 1) dX10_tick_87 rfl (by decide) lvs_5_4 ?_
    try simp only [pk_mul, nI_add]
    refine x_goto (tgt := 41) dX10_tick_90 (by decide) ?_
    refine x_iload dX10_tick_41 rfl ?_
    refine x_iconst (v := nI 2) dX10_tick_43 (by decide) ?_
    refine x_icmp_ge (tgt := 93) dX10_tick_44 (by decide) (fun c3 => ?_) (fun c3 => ?_)
    · exact absurd c3 (by decide)
    refine r_tick_p (p := 1) (h0 := h0) (by omega) hR1 hF1 (fun h2 md2 hR2 hF2 => ?_)
    refine y_iinc (k := nI 1) dX10_tick_87 rfl (by decide) lvs_5_4 ?_
    try simp only [pk_mul, nI_add]
    refine x_goto (tgt := 41) dX10_tick_90 (by decide) ?_
    refine x_iload dX10_tick_41 rfl ?_
    refine x_iconst (v := nI 2) dX10_tick_43 (by decide) ?_
    refine x_icmp_ge (tgt := 93) dX10_tick_44 (by decide) (fun c4 => ?_) (fun c4 => ?_)
    · refine y_iinc (k := nI 1) dX10_tick_93 rfl (by decide) lvs_5_3 ?_
      try simp only [pk_mul, nI_add]
      refine x_goto (tgt := 33) dX10_tick_96 (by decide) ?_
      exact ih (i + 1) _ _ _ _ _ (by omega) hR2 hF2 he
    · exact absurd (show nI 2 ≤ nI (1 + 1) by decide) c4
end REF11X
