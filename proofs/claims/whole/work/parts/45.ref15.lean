def sameK (a b : Nat → Int32) : Bool := decide (a 0 = b 1 ∧ a 1 = b 0 ∧ a 2 = b 2 ∧ a 3 = b 3 ∧ a 4 = b 4)
def agrJ (a : Nat → Int32) (l : List (Nat → Int32)) (n : Int32) : Int32 := l.foldl (fun n b => if sameK a b = true then n + nI 1 else n) n
def agrN (l0 l1 : List (Nat → Int32)) (n : Int32) : Int32 := l0.foldl (fun n a => agrJ a l1 n) n
def sAgreed (u : Ut) : SP := (nI 0, agrN (u.ki 0) (u.ki 1) (nI 0), u)
def clrU (u : Ut) (p : Nat) : Ut := (((((((((((u.w_su p []).w_lo p (nI 0)).w_hi p (nI 1000)).w_no p (nI p)).w_mk p (nI (p + 1))).w_ki p []).w_wi p []).w_de p false).w_ou p none).w_nn p 0).w_na p 0).w_fl p []
def sClear (u : Ut) : SP := (nI 0, nI 0, clrU (clrU u 0) 1)
theorem VW.t_su0 {F : Nat → Nat → Int32} {u : Ut} {md : Nat → Int32} {p : Nat} (hV : VW F u md) : VW (u2 F 1 p (nI 0)) (u.w_su p []) md := by
  refine hV.s_su (fun j _ _ h1 h2 => u2_rowF _ _ _ _ h1) (fun q hq => ?_)
  rw [u2_rowS, u2_rowF _ _ _ _ (by decide)]
  by_cases e : q = p
  · subst e
    rw [pk_us, va_up_self]
    exact ⟨Nat.zero_le _, rfl, fun k x hx => by cases hx⟩
  · rw [pk_un e, va_up_ne _ _ e]
    exact hV.su q hq
theorem VW.t_ki0 {F : Nat → Nat → Int32} {u : Ut} {md : Nat → Int32} {p : Nat} (hV : VW F u md) : VW (u2 F 7 p (nI 0)) (u.w_ki p []) md := by
  refine hV.s_ki (fun j _ _ h1 h2 => u2_rowF _ _ _ _ h1) (fun q hq => ?_)
  rw [u2_rowS, u2_rowF _ _ _ _ (by decide)]
  by_cases e : q = p
  · subst e
    rw [pk_us, va_up_self]
    exact ⟨Nat.zero_le _, rfl, fun k x hx => by cases hx⟩
  · rw [pk_un e, va_up_ne _ _ e]
    exact hV.ki q hq
theorem VW.t_wi00 {F : Nat → Nat → Int32} {u : Ut} {md : Nat → Int32} {p : Nat} (hV : VW F u md) : VW (u2 F 9 p (nI 0)) (u.w_wi p []) md := by
  refine hV.s_wi (fun j _ _ h1 h2 h3 => u2_rowF _ _ _ _ h1) (fun q hq => ?_)
  rw [u2_rowS, u2_rowF _ _ _ _ (by decide), u2_rowF _ _ _ _ (by decide)]
  by_cases e : q = p
  · subst e
    rw [pk_us, va_up_self]
    exact ⟨Nat.zero_le _, rfl, fun k x hx => by cases hx⟩
  · rw [pk_un e, va_up_ne _ _ e]
    exact hV.wi q hq
theorem VW.t_fl0 {F : Nat → Nat → Int32} {u : Ut} {md : Nat → Int32} {p : Nat} (hV : VW F u md) : VW (u2 F 21 p (nI 0)) (u.w_fl p []) md := by
  refine hV.s_fl (fun j _ _ h1 h2 => u2_rowF _ _ _ _ h1) (fun q hq => ?_)
  rw [u2_rowS, u2_rowF _ _ _ _ (by decide)]
  by_cases e : q = p
  · subst e
    rw [pk_us, va_up_self]
    exact ⟨Nat.zero_le _, rfl, fun k x hx => by cases hx⟩
  · rw [pk_un e, va_up_ne _ _ e]
    exact hV.fl q hq
section REF15X
variable {G : GT} {d : Nat} {Q : Outcome → Hp → Prop} {m : Nat} {t : Int32} {u : Ut} {md : Nat → Int32} {h0 h : Hp} {p : Nat}
theorem r_clear_loop : ∀ (q i : Nat) (u : Ut) (h : Hp), i + q = 2 → RU G h m t u md → FrM m h0 h → (∀ h', RU G h' m t (if q = 2 then clrU (clrU u 0) 1 else if q = 1 then clrU u 1 else u) md → FrM m h0 h' → Q (.returned none) h') → Jx G mX10_clear d Q 7 [some (.ref m), some (.int (nI i))] [] h := by
  intro q
  induction q with
  | zero =>
    intro i u h hi hRU hF hq
    obtain ⟨F, hR, hV⟩ := hRU
    refine x_iload_n dX10_clear_7 rfl ?_
    refine x_iconst (v := nI 2) dX10_clear_8 (by decide) ?_
    refine x_icmp_ge (tgt := 106) dX10_clear_9 (by decide) (fun c1 => ?_) (fun c1 => ?_)
    · refine x_vreturn dX10_clear_106 rfl ?_
      exact hq _ ⟨_, hR, hV⟩ hF
    · exact absurd (nI_le (by omega) (by omega)) c1
  | succ q ih =>
    intro i u h hi hRU hF hq
    obtain ⟨F, hR, hV⟩ := hRU
    have hi2 : i < 2 := by omega
    refine x_iload_n dX10_clear_7 rfl ?_
    refine x_iconst (v := nI 2) dX10_clear_8 (by decide) ?_
    refine x_icmp_ge (tgt := 106) dX10_clear_9 (by decide) (fun c1 => ?_) (fun c1 => ?_)
    · exact absurd ((nI_leI (by omega) (by omega)).mp c1) (by omega)
    refine x_aload_n dX10_clear_12 rfl rfl ?_
    refine gf_X10_7_10 rfl dX10_clear_13 hR.o ?_
    refine x_iload_n dX10_clear_16 rfl ?_
    refine x_iconst (v := nI 0) dX10_clear_17 (by decide) ?_
    refine st_M hR dX10_clear_18 rfl (by decide) rfl (by first | (show _ < 2; omega) | (show _ < 16; omega) | (show _ < 32; omega) | (show _ < 8; omega) | (show _ < 272; omega) | (show _ < 1024; omega)) (fun _ hR hF1 => ?_)
    replace hF := hF.trans hF1
    refine x_aload_n dX10_clear_19 rfl rfl ?_
    refine gf_X10_16_10 rfl dX10_clear_20 hR.o ?_
    refine x_iload_n dX10_clear_23 rfl ?_
    refine x_iconst (v := nI 0) dX10_clear_24 (by decide) ?_
    refine st_M hR dX10_clear_25 rfl (by decide) rfl (by first | (show _ < 2; omega) | (show _ < 16; omega) | (show _ < 32; omega) | (show _ < 8; omega) | (show _ < 272; omega) | (show _ < 1024; omega)) (fun _ hR hF1 => ?_)
    replace hF := hF.trans hF1
    refine x_aload_n dX10_clear_26 rfl rfl ?_
    refine gf_X10_19_10 rfl dX10_clear_27 hR.o ?_
    refine x_iload_n dX10_clear_30 rfl ?_
    refine x_sipush (v := nI 1000) dX10_clear_31 (by decide) ?_
    refine st_M hR dX10_clear_34 rfl (by decide) rfl (by first | (show _ < 2; omega) | (show _ < 16; omega) | (show _ < 32; omega) | (show _ < 8; omega) | (show _ < 272; omega) | (show _ < 1024; omega)) (fun _ hR hF1 => ?_)
    replace hF := hF.trans hF1
    refine x_aload_n dX10_clear_35 rfl rfl ?_
    refine gf_X10_22_10 rfl dX10_clear_36 hR.o ?_
    refine x_iload_n dX10_clear_39 rfl ?_
    refine x_iload_n dX10_clear_40 rfl ?_
    refine st_M hR dX10_clear_41 rfl (by decide) rfl (by first | (show _ < 2; omega) | (show _ < 16; omega) | (show _ < 32; omega) | (show _ < 8; omega) | (show _ < 272; omega) | (show _ < 1024; omega)) (fun _ hR hF1 => ?_)
    replace hF := hF.trans hF1
    refine x_aload_n dX10_clear_42 rfl rfl ?_
    refine gf_X10_25_10 rfl dX10_clear_43 hR.o ?_
    refine x_iload_n dX10_clear_46 rfl ?_
    refine x_iload_n dX10_clear_47 rfl ?_
    refine x_iconst (v := nI 1) dX10_clear_48 (by decide) ?_
    refine x_iadd dX10_clear_49 ?_
    try simp only [pk_mul, nI_add]
    refine st_M hR dX10_clear_50 rfl (by decide) rfl (by first | (show _ < 2; omega) | (show _ < 16; omega) | (show _ < 32; omega) | (show _ < 8; omega) | (show _ < 272; omega) | (show _ < 1024; omega)) (fun _ hR hF1 => ?_)
    replace hF := hF.trans hF1
    refine x_aload_n dX10_clear_51 rfl rfl ?_
    refine gf_X10_28_10 rfl dX10_clear_52 hR.o ?_
    refine x_iload_n dX10_clear_55 rfl ?_
    refine x_iconst (v := nI 0) dX10_clear_56 (by decide) ?_
    refine st_M hR dX10_clear_57 rfl (by decide) rfl (by first | (show _ < 2; omega) | (show _ < 16; omega) | (show _ < 32; omega) | (show _ < 8; omega) | (show _ < 272; omega) | (show _ < 1024; omega)) (fun _ hR hF1 => ?_)
    replace hF := hF.trans hF1
    refine x_aload_n dX10_clear_58 rfl rfl ?_
    refine gf_X10_34_10 rfl dX10_clear_59 hR.o ?_
    refine x_iload_n dX10_clear_62 rfl ?_
    refine x_iconst (v := nI 0) dX10_clear_63 (by decide) ?_
    refine st_M hR dX10_clear_64 rfl (by decide) rfl (by first | (show _ < 2; omega) | (show _ < 16; omega) | (show _ < 32; omega) | (show _ < 8; omega) | (show _ < 272; omega) | (show _ < 1024; omega)) (fun _ hR hF1 => ?_)
    replace hF := hF.trans hF1
    refine x_aload_n dX10_clear_65 rfl rfl ?_
    refine gf_X10_43_10 rfl dX10_clear_66 hR.o ?_
    refine x_iload_n dX10_clear_69 rfl ?_
    refine x_iconst (v := nI 0) dX10_clear_70 (by decide) ?_
    refine sz_M hR dX10_clear_71 rfl (by decide) rfl (by first | (show _ < 2; omega) | (show _ < 16; omega) | (show _ < 32; omega) | (show _ < 8; omega) | (show _ < 272; omega) | (show _ < 1024; omega)) (by decide) (fun _ hR hF1 => ?_)
    replace hF := hF.trans hF1
    refine x_aload_n dX10_clear_72 rfl rfl ?_
    refine gf_X10_47_10 rfl dX10_clear_73 hR.o ?_
    refine x_iload_n dX10_clear_76 rfl ?_
    refine x_iconst (v := nI 0) dX10_clear_77 (by decide) ?_
    refine sz_M hR dX10_clear_78 rfl (by decide) rfl (by first | (show _ < 2; omega) | (show _ < 16; omega) | (show _ < 32; omega) | (show _ < 8; omega) | (show _ < 272; omega) | (show _ < 1024; omega)) (by decide) (fun _ hR hF1 => ?_)
    replace hF := hF.trans hF1
    refine x_aload_n dX10_clear_79 rfl rfl ?_
    refine gf_X10_62_10 rfl dX10_clear_80 hR.o ?_
    refine x_iload_n dX10_clear_83 rfl ?_
    refine x_iconst (v := nI 0) dX10_clear_84 (by decide) ?_
    refine st_M hR dX10_clear_85 rfl (by decide) rfl (by first | (show _ < 2; omega) | (show _ < 16; omega) | (show _ < 32; omega) | (show _ < 8; omega) | (show _ < 272; omega) | (show _ < 1024; omega)) (fun _ hR hF1 => ?_)
    replace hF := hF.trans hF1
    refine x_aload_n dX10_clear_86 rfl rfl ?_
    refine gf_X10_65_10 rfl dX10_clear_87 hR.o ?_
    refine x_iload_n dX10_clear_90 rfl ?_
    refine x_iconst (v := nI 0) dX10_clear_91 (by decide) ?_
    refine st_M hR dX10_clear_92 rfl (by decide) rfl (by first | (show _ < 2; omega) | (show _ < 16; omega) | (show _ < 32; omega) | (show _ < 8; omega) | (show _ < 272; omega) | (show _ < 1024; omega)) (fun _ hR hF1 => ?_)
    replace hF := hF.trans hF1
    refine x_aload_n dX10_clear_93 rfl rfl ?_
    refine gf_X10_71_10 rfl dX10_clear_94 hR.o ?_
    refine x_iload_n dX10_clear_97 rfl ?_
    refine x_iconst (v := nI 0) dX10_clear_98 (by decide) ?_
    refine st_M hR dX10_clear_99 rfl (by decide) rfl (by first | (show _ < 2; omega) | (show _ < 16; omega) | (show _ < 32; omega) | (show _ < 8; omega) | (show _ < 272; omega) | (show _ < 1024; omega)) (fun _ hR hF1 => ?_)
    replace hF := hF.trans hF1
    refine y_iinc (k := nI 1) dX10_clear_100 rfl (by decide) lvs_2_1 ?_
    try simp only [pk_mul, nI_add]
    refine x_goto (tgt := 7) dX10_clear_103 (by decide) ?_
    refine ih (i + 1) (clrU u i) _ (by omega) ⟨_, hR, ((hV.t_su0.t_lo.t_hi.t_no.t_mk.t_ki0.t_wi00.t_de (b := false)).t_ou0.t_nn.t_na.t_fl0)⟩ hF (fun h' hR' hF' => hq h' ?_ hF')
    rcases (show q = 0 ∨ q = 1 by omega) with rfl | rfl
    · have : i = 1 := by omega
      subst this
      exact hR'
    · have : i = 0 := by omega
      subst this
      exact hR'
theorem r_clear (hR : RU G h m t u md) (hq : ∀ h', RU G h' m (nI 0) (clrU (clrU u 0) 1) md → FrM m h h' → Q (.returned none) h') : Cx G mX10_clear d [.ref m] h Q := by
  show Jx G mX10_clear d Q 0 [some (.ref m), none] [] h
  obtain ⟨F, hR, hV⟩ := hR
  have hF := FrM.rf m h
  refine x_aload_n dX10_clear_0 rfl rfl ?_
  refine x_iconst (v := nI 0) dX10_clear_1 (by decide) ?_
  refine pt_M hR rfl dX10_clear_2 (fun _ hR hF1 => ?_)
  replace hF := hF.trans hF1
  refine x_iconst (v := nI 0) dX10_clear_5 (by decide) ?_
  refine y_istore_n dX10_clear_6 rfl lvs_2_1 ?_
  exact r_clear_loop 2 0 u _ (by omega) ⟨_, hR, hV⟩ hF (fun h' hR' hF' => hq h' hR' hF')
theorem r_agr_step {a c : Nat → Int32} {k j w : Nat} {n : Int32} {b : Bool} (hR : RU G h m t u md) (hk : (u.ki 0)[k]? = some a) (hj : (u.ki 1)[j]? = some c) (hw : w < 5) (kk : Jx G mX10_agreed (d + 1) Q 75 [some (.ref m), some (.int n), some (.int (nI k)), some (.int (nI j)), some (.int (bI (b && decide (a w = c w)))), some (.int (nI (w + 1)))] [] h) : Jx G mX10_agreed (d + 1) Q 75 [some (.ref m), some (.int n), some (.int (nI k)), some (.int (nI j)), some (.int (bI b)), some (.int (nI w))] [] h := by
  obtain ⟨F, hR, hV⟩ := hR
  refine x_iload dX10_agreed_75 rfl ?_
  refine x_iconst (v := nI 5) dX10_agreed_77 (by decide) ?_
  refine x_icmp_ge (tgt := 118) dX10_agreed_78 (by decide) (fun c1 => ?_) (fun c1 => ?_)
  · exact absurd ((nI_leI (by omega) (by omega)).mp c1) (by omega)
  refine x_iload dX10_agreed_81 rfl ?_
  cases b with
  | false =>
    refine x_if_eq (tgt := 109) dX10_agreed_83 (by decide) (fun c2 => ?_) (fun c2 => ?_)
    · refine x_iconst (v := nI 0) dX10_agreed_109 (by decide) ?_
      refine y_istore dX10_agreed_110 rfl lvs_6_4 ?_
      refine y_iinc (k := nI 1) dX10_agreed_112 rfl (by decide) lvs_6_5 ?_
      try simp only [pk_mul, nI_add]
      refine x_goto (tgt := 75) dX10_agreed_115 (by decide) ?_
      exact kk
    · exact absurd rfl c2
  | true =>
    refine x_if_eq (tgt := 109) dX10_agreed_83 (by decide) (fun c2 => ?_) (fun c2 => ?_)
    · exact absurd c2 (by decide)
    refine x_aload_n dX10_agreed_86 rfl rfl ?_
    refine x_iconst (v := nI 0) dX10_agreed_87 (by decide) ?_
    refine x_iload_n dX10_agreed_88 rfl ?_
    refine x_iload dX10_agreed_89 rfl ?_
    refine x_callV dX10_agreed_91 sv_X10_96_10 rfl hR.o rfl (Nat.le_of_ble_eq_true rfl) rfl ?_
    refine r_kid (p := 0) ⟨_, hR, hV⟩ (by omega) hk (by omega) (kc_v dr_4 ?_)
    refine x_aload_n dX10_agreed_94 rfl rfl ?_
    refine x_iconst (v := nI 1) dX10_agreed_95 (by decide) ?_
    refine x_iload_n dX10_agreed_96 rfl ?_
    refine x_iload dX10_agreed_97 rfl ?_
    refine x_callV dX10_agreed_99 sv_X10_96_10 rfl hR.o rfl (Nat.le_of_ble_eq_true rfl) rfl ?_
    refine r_kid (p := 1) ⟨_, hR, hV⟩ (by omega) hj (by omega) (kc_v dr_4 ?_)
    refine x_icmp_ne (tgt := 109) dX10_agreed_102 (by decide) (fun c3 => ?_) (fun c3 => ?_)
    · rw [decide_eq_false c3] at kk
      refine x_iconst (v := nI 0) dX10_agreed_109 (by decide) ?_
      refine y_istore dX10_agreed_110 rfl lvs_6_4 ?_
      refine y_iinc (k := nI 1) dX10_agreed_112 rfl (by decide) lvs_6_5 ?_
      try simp only [pk_mul, nI_add]
      refine x_goto (tgt := 75) dX10_agreed_115 (by decide) ?_
      exact kk
    · rw [decide_eq_true (show a w = c w from c3)] at kk
      refine x_iconst (v := nI 1) dX10_agreed_105 (by decide) ?_
      refine x_goto (tgt := 110) dX10_agreed_106 (by decide) ?_
      refine y_istore dX10_agreed_110 rfl lvs_6_4 ?_
      refine y_iinc (k := nI 1) dX10_agreed_112 rfl (by decide) lvs_6_5 ?_
      try simp only [pk_mul, nI_add]
      refine x_goto (tgt := 75) dX10_agreed_115 (by decide) ?_
      exact kk
theorem r_agr_75 {a c : Nat → Int32} {k j : Nat} {n : Int32} {b : Bool} (hR : RU G h m t u md) (hk : (u.ki 0)[k]? = some a) (hj : (u.ki 1)[j]? = some c) (hb : b = decide (a 0 = c 1 ∧ a 1 = c 0)) (kk : ∀ z4 z5, Jx G mX10_agreed (d + 1) Q 131 [some (.ref m), some (.int (if sameK a c = true then n + nI 1 else n)), some (.int (nI k)), some (.int (nI j)), z4, z5] [] h) : Jx G mX10_agreed (d + 1) Q 75 [some (.ref m), some (.int n), some (.int (nI k)), some (.int (nI j)), some (.int (bI b)), some (.int (nI 2))] [] h := by
  have hRU := hR
  refine r_agr_step hRU hk hj (by omega) ?_
  refine r_agr_step hRU hk hj (by omega) ?_
  refine r_agr_step hRU hk hj (by omega) ?_
  obtain ⟨F, hR, hV⟩ := hR
  have e : (b && decide (a 2 = c 2) && decide (a 3 = c 3) && decide (a 4 = c 4)) = sameK a c := by
    subst hb
    simp only [sameK, Bool.decide_and, Bool.and_assoc]
  rw [e]
  refine x_iload dX10_agreed_75 rfl ?_
  refine x_iconst (v := nI 5) dX10_agreed_77 (by decide) ?_
  refine x_icmp_ge (tgt := 118) dX10_agreed_78 (by decide) (fun c1 => ?_) (fun c1 => ?_)
  · refine x_iload dX10_agreed_118 rfl ?_
    generalize sameK a c = s at kk ⊢
    cases s with
    | true =>
      refine x_if_eq (tgt := 129) dX10_agreed_120 (by decide) (fun c2 => ?_) (fun c2 => ?_)
      · exact absurd c2 (by decide)
      refine x_iload_n dX10_agreed_123 rfl ?_
      refine x_iconst (v := nI 1) dX10_agreed_124 (by decide) ?_
      refine x_iadd dX10_agreed_125 ?_
      try simp only [pk_mul, nI_add]
      refine x_goto (tgt := 130) dX10_agreed_126 (by decide) ?_
      refine y_istore_n dX10_agreed_130 rfl lvs_6_1 ?_
      exact kk _ _
    | false =>
      refine x_if_eq (tgt := 129) dX10_agreed_120 (by decide) (fun c2 => ?_) (fun c2 => ?_)
      · refine x_iload_n dX10_agreed_129 rfl ?_
        refine y_istore_n dX10_agreed_130 rfl lvs_6_1 ?_
        exact kk _ _
      · exact absurd rfl c2
  · exact absurd (show nI 5 ≤ nI (2 + 1 + 1 + 1) by decide) c1
theorem r_agr_j {a : Nat → Int32} {k : Nat} (hR : RU G h m t u md) (hk : (u.ki 0)[k]? = some a) {nf : Int32} (kk : ∀ z3 z4 z5, Jx G mX10_agreed (d + 1) Q 137 [some (.ref m), some (.int nf), some (.int (nI k)), z3, z4, z5] [] h) : ∀ (q j : Nat) (n : Int32) (z4 z5 : Option Value), j + q = (u.ki 1).length → agrJ a ((u.ki 1).drop j) n = nf → Jx G mX10_agreed (d + 1) Q 21 [some (.ref m), some (.int n), some (.int (nI k)), some (.int (nI j)), z4, z5] [] h := by
  have hRU := hR
  obtain ⟨F, hR, hV⟩ := hR
  obtain ⟨h16, hc, -⟩ := hV.ki 1 (by omega)
  intro q
  induction q with
  | zero =>
    intro j n z4 z5 hj he
    refine x_iload_n dX10_agreed_21 rfl ?_
    refine x_aload_n dX10_agreed_22 rfl rfl ?_
    refine gf_X10_28_10 rfl dX10_agreed_23 hR.o ?_
    refine x_iconst (v := nI 1) dX10_agreed_26 (by decide) ?_
    refine ld_M hR dX10_agreed_27 rfl (by decide) rfl (by first | (show _ < 2; omega) | (show _ < 16; omega) | (show _ < 32; omega) | (show _ < 8; omega) | (show _ < 272; omega) | (show _ < 1024; omega)) ?_
    rw [hc]
    refine x_icmp_ge (tgt := 137) dX10_agreed_28 (by decide) (fun c1 => ?_) (fun c1 => ?_)
    · rw [List.drop_eq_nil_of_le (by omega)] at he
      subst he
      exact kk _ _ _
    · exact absurd (nI_le (by omega) (by omega)) c1
  | succ q ih =>
    intro j n z4 z5 hj he
    have hjl : j < (u.ki 1).length := by omega
    have hj2 : (u.ki 1)[j]? = some (u.ki 1)[j] := List.getElem?_eq_getElem hjl
    rw [List.drop_eq_getElem_cons hjl] at he
    simp only [agrJ, List.foldl_cons] at he
    have fin : ∀ z4 z5, Jx G mX10_agreed (d + 1) Q 131 [some (.ref m), some (.int (if sameK a (u.ki 1)[j] = true then n + nI 1 else n)), some (.int (nI k)), some (.int (nI j)), z4, z5] [] h := by
      intro z4 z5
      refine y_iinc (k := nI 1) dX10_agreed_131 rfl (by decide) lvs_6_3 ?_
      try simp only [pk_mul, nI_add]
      refine x_goto (tgt := 21) dX10_agreed_134 (by decide) ?_
      exact ih (j + 1) _ _ _ (by omega) he
    refine x_iload_n dX10_agreed_21 rfl ?_
    refine x_aload_n dX10_agreed_22 rfl rfl ?_
    refine gf_X10_28_10 rfl dX10_agreed_23 hR.o ?_
    refine x_iconst (v := nI 1) dX10_agreed_26 (by decide) ?_
    refine ld_M hR dX10_agreed_27 rfl (by decide) rfl (by first | (show _ < 2; omega) | (show _ < 16; omega) | (show _ < 32; omega) | (show _ < 8; omega) | (show _ < 272; omega) | (show _ < 1024; omega)) ?_
    rw [hc]
    refine x_icmp_ge (tgt := 137) dX10_agreed_28 (by decide) (fun c1 => ?_) (fun c1 => ?_)
    · exact absurd ((nI_leI (by omega) (by omega)).mp c1) (by omega)
    refine x_aload_n dX10_agreed_31 rfl rfl ?_
    refine x_iconst (v := nI 0) dX10_agreed_32 (by decide) ?_
    refine x_iload_n dX10_agreed_33 rfl ?_
    refine x_iconst (v := nI 0) dX10_agreed_34 (by decide) ?_
    refine x_callV dX10_agreed_35 sv_X10_96_10 rfl hR.o rfl (Nat.le_of_ble_eq_true rfl) rfl ?_
    refine r_kid (p := 0) ⟨_, hR, hV⟩ (by omega) hk (by omega) (kc_v dr_4 ?_)
    refine x_aload_n dX10_agreed_38 rfl rfl ?_
    refine x_iconst (v := nI 1) dX10_agreed_39 (by decide) ?_
    refine x_iload_n dX10_agreed_40 rfl ?_
    refine x_iconst (v := nI 1) dX10_agreed_41 (by decide) ?_
    refine x_callV dX10_agreed_42 sv_X10_96_10 rfl hR.o rfl (Nat.le_of_ble_eq_true rfl) rfl ?_
    refine r_kid (p := 1) ⟨_, hR, hV⟩ (by omega) hj2 (by omega) (kc_v dr_4 ?_)
    refine x_icmp_ne (tgt := 69) dX10_agreed_45 (by decide) (fun c2 => ?_) (fun c2 => ?_)
    · refine x_iconst (v := nI 0) dX10_agreed_69 (by decide) ?_
      refine y_istore dX10_agreed_70 rfl lvs_6_4 ?_
      refine x_iconst (v := nI 2) dX10_agreed_72 (by decide) ?_
      refine y_istore dX10_agreed_73 rfl lvs_6_5 ?_
      exact r_agr_75 (b := false) hRU hk hj2 (decide_eq_false (fun q => c2 q.1)).symm fin
    refine x_aload_n dX10_agreed_48 rfl rfl ?_
    refine x_iconst (v := nI 0) dX10_agreed_49 (by decide) ?_
    refine x_iload_n dX10_agreed_50 rfl ?_
    refine x_iconst (v := nI 1) dX10_agreed_51 (by decide) ?_
    refine x_callV dX10_agreed_52 sv_X10_96_10 rfl hR.o rfl (Nat.le_of_ble_eq_true rfl) rfl ?_
    refine r_kid (p := 0) ⟨_, hR, hV⟩ (by omega) hk (by omega) (kc_v dr_4 ?_)
    refine x_aload_n dX10_agreed_55 rfl rfl ?_
    refine x_iconst (v := nI 1) dX10_agreed_56 (by decide) ?_
    refine x_iload_n dX10_agreed_57 rfl ?_
    refine x_iconst (v := nI 0) dX10_agreed_58 (by decide) ?_
    refine x_callV dX10_agreed_59 sv_X10_96_10 rfl hR.o rfl (Nat.le_of_ble_eq_true rfl) rfl ?_
    refine r_kid (p := 1) ⟨_, hR, hV⟩ (by omega) hj2 (by omega) (kc_v dr_4 ?_)
    refine x_icmp_ne (tgt := 69) dX10_agreed_62 (by decide) (fun c3 => ?_) (fun c3 => ?_)
    · refine x_iconst (v := nI 0) dX10_agreed_69 (by decide) ?_
      refine y_istore dX10_agreed_70 rfl lvs_6_4 ?_
      refine x_iconst (v := nI 2) dX10_agreed_72 (by decide) ?_
      refine y_istore dX10_agreed_73 rfl lvs_6_5 ?_
      exact r_agr_75 (b := false) hRU hk hj2 (decide_eq_false (fun q => c3 q.2)).symm fin
    · refine x_iconst (v := nI 1) dX10_agreed_65 (by decide) ?_
      refine x_goto (tgt := 70) dX10_agreed_66 (by decide) ?_
      refine y_istore dX10_agreed_70 rfl lvs_6_4 ?_
      refine x_iconst (v := nI 2) dX10_agreed_72 (by decide) ?_
      refine y_istore dX10_agreed_73 rfl lvs_6_5 ?_
      exact r_agr_75 (b := true) hRU hk hj2 (decide_eq_true ⟨c2, c3⟩).symm fin
theorem r_agr_k {nf : Int32} (hR : RU G h m t u md) (hq : Q (.returned (some (.int nf))) h) : ∀ (q k : Nat) (n : Int32) (z3 z4 z5 : Option Value), k + q = (u.ki 0).length → agrN ((u.ki 0).drop k) (u.ki 1) n = nf → Jx G mX10_agreed (d + 1) Q 9 [some (.ref m), some (.int n), some (.int (nI k)), z3, z4, z5] [] h := by
  have hRU := hR
  obtain ⟨F, hR, hV⟩ := hR
  obtain ⟨h16, hc, -⟩ := hV.ki 0 (by omega)
  intro q
  induction q with
  | zero =>
    intro k n z3 z4 z5 hk he
    refine x_iload_n dX10_agreed_9 rfl ?_
    refine x_aload_n dX10_agreed_10 rfl rfl ?_
    refine gf_X10_28_10 rfl dX10_agreed_11 hR.o ?_
    refine x_iconst (v := nI 0) dX10_agreed_14 (by decide) ?_
    refine ld_M hR dX10_agreed_15 rfl (by decide) rfl (by first | (show _ < 2; omega) | (show _ < 16; omega) | (show _ < 32; omega) | (show _ < 8; omega) | (show _ < 272; omega) | (show _ < 1024; omega)) ?_
    rw [hc]
    refine x_icmp_ge (tgt := 143) dX10_agreed_16 (by decide) (fun c1 => ?_) (fun c1 => ?_)
    · rw [List.drop_eq_nil_of_le (by omega)] at he
      subst he
      refine x_iload_n dX10_agreed_143 rfl ?_
      refine x_ireturn dX10_agreed_144 rfl ?_
      exact hq
    · exact absurd (nI_le (by omega) (by omega)) c1
  | succ q ih =>
    intro k n z3 z4 z5 hk he
    have hkl : k < (u.ki 0).length := by omega
    rw [List.drop_eq_getElem_cons hkl] at he
    simp only [agrN, List.foldl_cons] at he
    refine x_iload_n dX10_agreed_9 rfl ?_
    refine x_aload_n dX10_agreed_10 rfl rfl ?_
    refine gf_X10_28_10 rfl dX10_agreed_11 hR.o ?_
    refine x_iconst (v := nI 0) dX10_agreed_14 (by decide) ?_
    refine ld_M hR dX10_agreed_15 rfl (by decide) rfl (by first | (show _ < 2; omega) | (show _ < 16; omega) | (show _ < 32; omega) | (show _ < 8; omega) | (show _ < 272; omega) | (show _ < 1024; omega)) ?_
    rw [hc]
    refine x_icmp_ge (tgt := 143) dX10_agreed_16 (by decide) (fun c1 => ?_) (fun c1 => ?_)
    · exact absurd ((nI_leI (by omega) (by omega)).mp c1) (by omega)
    refine x_iconst (v := nI 0) dX10_agreed_19 (by decide) ?_
    refine y_istore_n dX10_agreed_20 rfl lvs_6_3 ?_
    refine r_agr_j hRU (List.getElem?_eq_getElem hkl) (fun z3 z4 z5 => ?_) (u.ki 1).length 0 n _ _ (by omega) rfl
    refine y_iinc (k := nI 1) dX10_agreed_137 rfl (by decide) lvs_6_2 ?_
    try simp only [pk_mul, nI_add]
    refine x_goto (tgt := 9) dX10_agreed_140 (by decide) ?_
    exact ih (k + 1) _ _ _ _ (by omega) he
theorem r_agreed (hR : RU G h m t u md) (hq : ∀ h', RU G h' m (sAgreed u).1 (sAgreed u).2.2 md → FrM m h h' → Q (.returned (some (.int (sAgreed u).2.1))) h') : Cx G mX10_agreed (d + 1) [.ref m] h Q := by
  show Jx G mX10_agreed (d + 1) Q 0 [some (.ref m), none, none, none, none, none] [] h
  obtain ⟨F, hR, hV⟩ := hR
  have hF := FrM.rf m h
  refine x_aload_n dX10_agreed_0 rfl rfl ?_
  refine x_iconst (v := nI 0) dX10_agreed_1 (by decide) ?_
  refine pt_M hR rfl dX10_agreed_2 (fun _ hR hF1 => ?_)
  replace hF := hF.trans hF1
  refine x_iconst (v := nI 0) dX10_agreed_5 (by decide) ?_
  refine y_istore_n dX10_agreed_6 rfl lvs_6_1 ?_
  refine x_iconst (v := nI 0) dX10_agreed_7 (by decide) ?_
  refine y_istore_n dX10_agreed_8 rfl lvs_6_2 ?_
  exact r_agr_k ⟨_, hR, hV⟩ (hq _ ⟨_, hR, hV⟩ hF) (u.ki 0).length 0 (nI 0) _ _ _ (by omega) rfl
end REF15X
