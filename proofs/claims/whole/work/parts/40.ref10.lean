def kiOut (u : Ut) (p : Nat) (o : Option Nat) : Ut := match o with
  | none => u
  | some k => u.w_ki p ((u.ki p).eraseIdx k)
def ansDel (u : Ut) (p : Nat) (md : Nat → Int32) : Ut × (Nat → Int32) := (kiOut u p ((u.ki p).findIdx? (fun kd => decide (kd 1 = md 6))), blk (nI 0) (md 1) (nI 2))
def reqA (v : Ut) (p : Nat) (md : Nat → Int32) (off : List Int32) : Ut × (Nat → Int32) := if md 2 = 0 then ansOpen v p md off else if md 2 = nI 1 then ansRenew v p md else ansDel v p md
def laU (w : Ut) (p : Nat) (md : Nat → Int32) : Ut := (w.w_la p md).w_fl (1 - p) (flyL (w.fl (1 - p)) md)
def reqU (u : Ut) (p : Nat) (md : Nat → Int32) (off : List Int32) : Ut × Int32 :=
  if md 1 = nI (u.na p) - nI 1 then (u.w_fl (1 - p) (flyL (u.fl (1 - p)) (u.la p)), nI 2)
  else if md 1 = nI (u.na p) then (laU (reqA (u.w_na p (u.na p + 1)) p md off).1 p (reqA (u.w_na p (u.na p + 1)) p md off).2, nI 1)
  else (u, nI 0)
def rGet (F : Nat → Nat → Int32) (r p i : Nat) : Nat → Nat → Int32 := fun a b => if a = 23 ∧ b < i then F r (16 * p + b) else F a b
def rLat (F : Nat → Nat → Int32) (p i : Nat) : Nat → Nat → Int32 := fun a b => if a = 20 ∧ 16 * p ≤ b ∧ b < 16 * p + i then F 23 (b - 16 * p) else F a b
theorem VW.t_get {F : Nat → Nat → Int32} {u : Ut} {md md1 : Nat → Int32} {r p : Nat} (hV : VW F u md) (h1 : ∀ j, j < 16 → F r (16 * p + j) = md1 j) : VW (rGet F r p 16) u md1 := by
  refine hV.s_md (fun j _ h2 => ?_) (fun j hj => ?_)
  · funext b
    rw [rGet, if_neg (by omega)]
  · rw [rGet, if_pos ⟨rfl, hj⟩]
    exact h1 j hj
theorem VW.t_la {F : Nat → Nat → Int32} {u : Ut} {md : Nat → Int32} {p : Nat} (hV : VW F u md) : VW (rLat F p 16) (u.w_la p md) md := by
  refine hV.s_la (fun j _ _ h20 => ?_) (fun q hq j hj => ?_)
  · funext b
    rw [rLat, if_neg (by omega)]
  · by_cases e : q = p
    · subst e
      rw [va_up_self, rLat, if_pos ⟨rfl, by omega, by omega⟩, Nat.add_sub_cancel_left]
      exact hV.md j hj
    · rw [va_up_ne _ _ e, rLat, if_neg (by omega)]
      exact hV.la q hq j hj
theorem VW.t_ki1 {F : Nat → Nat → Int32} {u : Ut} {md kd : Nat → Int32} {p : Nat} (hV : VW F u md) (hp : p < 2) (hl : (u.ki p).length < 16) : VW (rAdd F p (u.ki p).length kd) (u.w_ki p (u.ki p ++ [kd])) md := by
  obtain ⟨h16, hc, hk⟩ := hV.ki p hp
  refine hV.s_ki (fun j _ _ h7 h8 => ?_) ?_
  · funext b
    simp [rAdd, h7, h8]
  · intro q hq2
    by_cases e : q = p
    · subst e
      rw [va_up_self]
      refine ⟨by simp; omega, by simp [rAdd], fun k kd hk2 w hw => ?_⟩
      by_cases hkl : k < (u.ki q).length
      · rw [List.getElem?_append_left hkl] at hk2
        simp only [rAdd]
        rw [if_neg (by omega), if_neg (by omega)]
        exact hk k kd hk2 w hw
      · have hkl2 := (List.getElem?_eq_some_iff.mp hk2).1
        simp at hkl2
        have : k = (u.ki q).length := by omega
        subst this
        simp at hk2
        subst hk2
        simp only [rAdd]
        rw [if_pos ⟨trivial, by omega, by omega⟩, Nat.add_sub_cancel_left]
    · rw [va_up_ne _ _ e]
      obtain ⟨g16, gc, gk⟩ := hV.ki q hq2
      refine ⟨g16, by simp [rAdd, e, gc], fun k kd hk2 w hw => ?_⟩
      have := (List.getElem?_eq_some_iff.mp hk2).1
      simp only [rAdd]
      rw [if_neg (by omega), if_neg (by omega)]
      exact gk k kd hk2 w hw
section REF10X
variable {G : GT} {d : Nat} {Q : Outcome → Hp → Prop} {m : Nat} {t : Int32} {u : Ut} {md : Nat → Int32} {h0 : Hp} {p : Nat}
theorem r_drop_of {o : Option Nat} {h : Hp} (hR : RU G h m t u md) (hp : p < 2) (ho : ∀ k, o = some k → k < (u.ki p).length) (hq : ∀ h', RU G h' m t (kiOut u p o) md → FrM m h h' → Q (.returned none) h') : Cx G mX10_dropKid d [.ref m, .int (nI p), .int (oI o)] h Q := by
  cases o with
  | none =>
    have hRU := hR
    obtain ⟨F, hR, hV⟩ := hR
    exact m_dropNone hR (hq _ hRU (FrM.rf _ _))
  | some k => exact r_dropKid hR hp (ho k rfl) hq
theorem r_req_get {z2 : Option Value} {F0 : Nat → Nat → Int32} (hp : p < 2) (hV : VW F0 u md) (hq : ∀ h', RU G h' m t (u.w_fl (1 - p) (flyL (u.fl (1 - p)) (u.la p))) (u.la p) → FrM m h0 h' → Q (.returned (some (.int (nI 2)))) h') : ∀ (q i : Nat) (h : Hp), i + q = 16 → RM G h m t (rGet F0 20 p i) → FrM m h0 h → Jx G mX10_request (d + 3) Q 21 [some (.ref m), some (.int (nI p)), z2, some (.int (nI i)), none] [] h := by
  intro q
  induction q with
  | zero =>
    intro i h hi hR hF
    have hi16 : i = 16 := by omega
    subst hi16
    refine x_iload_n dX10_request_21 rfl ?_
    refine x_bipush (v := nI 16) dX10_request_22 (by decide) ?_
    refine x_icmp_ge (tgt := 50) dX10_request_24 (by decide) (fun c1 => ?_) (fun c1 => ?_)
    · refine x_aload_n dX10_request_50 rfl rfl ?_
      refine x_iconst (v := nI 1) dX10_request_51 (by decide) ?_
      refine x_iload_n dX10_request_52 rfl ?_
      refine x_isub dX10_request_53 ?_
      rw [pk_sub (show p ≤ 1 by omega)]
      refine x_callV dX10_request_54 sv_X10_121_10 rfl hR.o rfl (Nat.le_of_ble_eq_true rfl) rfl ?_
      refine r_fly ⟨_, hR, hV.t_get (hV.la p hp)⟩ (by omega) (fun h' hR hF1 => kc_n dr_2 ?_)
      refine x_iconst (v := nI 2) dX10_request_57 (by decide) ?_
      refine x_ireturn dX10_request_58 rfl ?_
      exact hq _ hR (hF.trans hF1)
    · exact absurd (nI_le (by omega) (by omega)) c1
  | succ q ih =>
    intro i h hi hR hF
    refine x_iload_n dX10_request_21 rfl ?_
    refine x_bipush (v := nI 16) dX10_request_22 (by decide) ?_
    refine x_icmp_ge (tgt := 50) dX10_request_24 (by decide) (fun c1 => ?_) (fun c1 => ?_)
    · exact absurd ((nI_leI (by omega) (by omega)).mp c1) (by omega)
    refine x_aload_n dX10_request_27 rfl rfl ?_
    refine gf_X10_77_10 rfl dX10_request_28 hR.o ?_
    refine x_iload_n dX10_request_31 rfl ?_
    refine x_aload_n dX10_request_32 rfl rfl ?_
    refine gf_X10_68_10 rfl dX10_request_33 hR.o ?_
    refine x_bipush (v := nI 16) dX10_request_36 (by decide) ?_
    refine x_iload_n dX10_request_38 rfl ?_
    refine x_imul dX10_request_39 ?_
    try simp only [pk_mul, nI_add]
    refine x_iload_n dX10_request_40 rfl ?_
    refine x_iadd dX10_request_41 ?_
    try simp only [pk_mul, nI_add]
    refine ld_M hR dX10_request_42 rfl (by decide) rfl (by first | (show _ < 2; omega) | (show _ < 16; omega) | (show _ < 32; omega) | (show _ < 8; omega) | (show _ < 272; omega) | (show _ < 1024; omega)) ?_
    refine st_M hR dX10_request_43 rfl (by decide) rfl (by first | (show _ < 2; omega) | (show _ < 16; omega) | (show _ < 32; omega) | (show _ < 8; omega) | (show _ < 272; omega) | (show _ < 1024; omega)) (fun _ hR hF1 => ?_)
    replace hF := hF.trans hF1
    refine y_iinc (k := nI 1) dX10_request_44 rfl (by decide) lvs_5_3 ?_
    try simp only [pk_mul, nI_add]
    refine x_goto (tgt := 21) dX10_request_47 (by decide) ?_
    refine ih (i + 1) _ (by omega) (hR.ext fun a b => ?_) hF
    rw [u2_at]
    simp only [rGet]
    by_cases h23 : a = 23
    · subst h23
      by_cases hb : b = i
      · subst hb
        rw [if_pos ⟨rfl, rfl⟩, if_neg (by omega), if_pos ⟨rfl, by omega⟩]
      · rw [if_neg (fun q => hb q.2)]
        by_cases hb2 : b < i
        · rw [if_pos ⟨rfl, hb2⟩, if_pos ⟨rfl, by omega⟩]
        · rw [if_neg (by omega), if_neg (by omega)]
    · rw [if_neg (fun q => h23 q.1), if_neg (fun q => h23 q.1), if_neg (fun q => h23 q.1)]
theorem r_req_put {z2 z3 : Option Value} {F0 : Nat → Nat → Int32} (hp : p < 2) (hV : VW F0 u md) (hq : ∀ h', RU G h' m t (laU u p md) md → FrM m h0 h' → Q (.returned (some (.int (nI 1)))) h') : ∀ (q i : Nat) (h : Hp), i + q = 16 → RM G h m t (rLat F0 p i) → FrM m h0 h → Jx G mX10_request (d + 3) Q 141 [some (.ref m), some (.int (nI p)), z2, z3, some (.int (nI i))] [] h := by
  intro q
  induction q with
  | zero =>
    intro i h hi hR hF
    have hi16 : i = 16 := by omega
    subst hi16
    refine x_iload dX10_request_141 rfl ?_
    refine x_bipush (v := nI 16) dX10_request_143 (by decide) ?_
    refine x_icmp_ge (tgt := 173) dX10_request_145 (by decide) (fun c1 => ?_) (fun c1 => ?_)
    · refine x_aload_n dX10_request_173 rfl rfl ?_
      refine x_iconst (v := nI 1) dX10_request_174 (by decide) ?_
      refine x_iload_n dX10_request_175 rfl ?_
      refine x_isub dX10_request_176 ?_
      rw [pk_sub (show p ≤ 1 by omega)]
      refine x_callV dX10_request_177 sv_X10_121_10 rfl hR.o rfl (Nat.le_of_ble_eq_true rfl) rfl ?_
      refine r_fly ⟨_, hR, hV.t_la⟩ (by omega) (fun h' hR hF1 => kc_n dr_2 ?_)
      refine x_iconst (v := nI 1) dX10_request_180 (by decide) ?_
      refine x_ireturn dX10_request_181 rfl ?_
      exact hq _ hR (hF.trans hF1)
    · exact absurd (nI_le (by omega) (by omega)) c1
  | succ q ih =>
    intro i h hi hR hF
    refine x_iload dX10_request_141 rfl ?_
    refine x_bipush (v := nI 16) dX10_request_143 (by decide) ?_
    refine x_icmp_ge (tgt := 173) dX10_request_145 (by decide) (fun c1 => ?_) (fun c1 => ?_)
    · exact absurd ((nI_leI (by omega) (by omega)).mp c1) (by omega)
    refine x_aload_n dX10_request_148 rfl rfl ?_
    refine gf_X10_68_10 rfl dX10_request_149 hR.o ?_
    refine x_bipush (v := nI 16) dX10_request_152 (by decide) ?_
    refine x_iload_n dX10_request_154 rfl ?_
    refine x_imul dX10_request_155 ?_
    try simp only [pk_mul, nI_add]
    refine x_iload dX10_request_156 rfl ?_
    refine x_iadd dX10_request_158 ?_
    try simp only [pk_mul, nI_add]
    refine x_aload_n dX10_request_159 rfl rfl ?_
    refine gf_X10_77_10 rfl dX10_request_160 hR.o ?_
    refine x_iload dX10_request_163 rfl ?_
    refine ld_M hR dX10_request_165 rfl (by decide) rfl (by first | (show _ < 2; omega) | (show _ < 16; omega) | (show _ < 32; omega) | (show _ < 8; omega) | (show _ < 272; omega) | (show _ < 1024; omega)) ?_
    refine st_M hR dX10_request_166 rfl (by decide) rfl (by first | (show _ < 2; omega) | (show _ < 16; omega) | (show _ < 32; omega) | (show _ < 8; omega) | (show _ < 272; omega) | (show _ < 1024; omega)) (fun _ hR hF1 => ?_)
    replace hF := hF.trans hF1
    refine y_iinc (k := nI 1) dX10_request_167 rfl (by decide) lvs_5_4 ?_
    try simp only [pk_mul, nI_add]
    refine x_goto (tgt := 141) dX10_request_170 (by decide) ?_
    refine ih (i + 1) _ (by omega) (hR.ext fun a b => ?_) hF
    rw [u2_at]
    simp only [rLat]
    by_cases h14 : a = 20
    · subst h14
      by_cases hb : b = 16 * p + i
      · subst hb
        rw [if_pos ⟨rfl, rfl⟩, if_neg (by omega), if_pos ⟨rfl, by omega, by omega⟩, Nat.add_sub_cancel_left]
      · rw [if_neg (fun q => hb q.2)]
        by_cases hb2 : 16 * p ≤ b ∧ b < 16 * p + i
        · rw [if_pos ⟨rfl, hb2⟩, if_pos ⟨rfl, by omega, by omega⟩]
        · rw [if_neg (by omega), if_neg (by omega)]
    · rw [if_neg (fun q => h14 q.1), if_neg (fun q => h14 q.1), if_neg (fun q => h14 q.1)]
theorem r_req_end {z2 z3 : Option Value} {h : Hp} (hp : p < 2) (hR : RU G h m t u md) (hF : FrM m h0 h) (hq : ∀ h', RU G h' m t (laU u p md) md → FrM m h0 h' → Q (.returned (some (.int (nI 1)))) h') : Jx G mX10_request (d + 3) Q 138 [some (.ref m), some (.int (nI p)), z2, z3, none] [] h := by
  obtain ⟨F, hR, hV⟩ := hR
  refine x_iconst (v := nI 0) dX10_request_138 (by decide) ?_
  refine y_istore dX10_request_139 rfl lvs_5_4 ?_
  exact r_req_put hp hV hq 16 0 h (by omega) (hR.ext fun a b => by rw [rLat, if_neg (by omega)]) hF
theorem r_request {off : List Int32} {h : Hp} (hp : p < 2) (hR : RU G h m t u md) (ho : md 2 = 0 → off.length ≤ 4 ∧ md 10 = nI off.length ∧ ∀ k x, off[k]? = some x → md (11 + k) = x) (hq : ∀ h' md', RU G h' m t (reqU u p md off).1 md' → FrM m h h' → Q (.returned (some (.int (reqU u p md off).2))) h') : Cx G mX10_request (d + 3) [.ref m, .int (nI p)] h Q := by
  show Jx G mX10_request (d + 3) Q 0 [some (.ref m), some (.int (nI p)), none, none, none] [] h
  obtain ⟨F, hR, hV⟩ := hR
  have hF := FrM.rf m h
  refine x_aload_n dX10_request_0 rfl rfl ?_
  refine gf_X10_77_10 rfl dX10_request_1 hR.o ?_
  refine x_iconst (v := nI 1) dX10_request_4 (by decide) ?_
  refine ld_M hR dX10_request_5 rfl (by decide) rfl (by first | (show _ < 2; omega) | (show _ < 16; omega) | (show _ < 32; omega) | (show _ < 8; omega) | (show _ < 272; omega) | (show _ < 1024; omega)) ?_
  rw [hV.md 1 (by omega)]
  refine y_istore_n dX10_request_6 rfl lvs_5_2 ?_
  refine x_iload_n dX10_request_7 rfl ?_
  refine x_aload_n dX10_request_8 rfl rfl ?_
  refine gf_X10_65_10 rfl dX10_request_9 hR.o ?_
  refine x_iload_n dX10_request_12 rfl ?_
  refine ld_M hR dX10_request_13 rfl (by decide) rfl (by first | (show _ < 2; omega) | (show _ < 16; omega) | (show _ < 32; omega) | (show _ < 8; omega) | (show _ < 272; omega) | (show _ < 1024; omega)) ?_
  rw [hV.na p hp]
  refine x_iconst (v := nI 1) dX10_request_14 (by decide) ?_
  refine x_isub dX10_request_15 ?_
  refine x_icmp_ne (tgt := 59) dX10_request_16 (by decide) (fun c1 => ?_) (fun c1 => ?_)
  · rw [reqU, if_neg c1] at hq
    refine x_iload_n dX10_request_59 rfl ?_
    refine x_aload_n dX10_request_60 rfl rfl ?_
    refine gf_X10_65_10 rfl dX10_request_61 hR.o ?_
    refine x_iload_n dX10_request_64 rfl ?_
    refine ld_M hR dX10_request_65 rfl (by decide) rfl (by first | (show _ < 2; omega) | (show _ < 16; omega) | (show _ < 32; omega) | (show _ < 8; omega) | (show _ < 272; omega) | (show _ < 1024; omega)) ?_
    rw [hV.na p hp]
    refine x_icmp_eq (tgt := 71) dX10_request_66 (by decide) (fun c2 => ?_) (fun c2 => ?_)
    · rw [if_pos c2] at hq
      refine x_aload_n dX10_request_71 rfl rfl ?_
      refine gf_X10_65_10 rfl dX10_request_72 hR.o ?_
      refine x_iload_n dX10_request_75 rfl ?_
      refine x_dup2 dX10_request_76 rfl rfl ?_
      refine ld_M hR dX10_request_77 rfl (by decide) rfl (by first | (show _ < 2; omega) | (show _ < 16; omega) | (show _ < 32; omega) | (show _ < 8; omega) | (show _ < 272; omega) | (show _ < 1024; omega)) ?_
      rw [hV.na p hp]
      refine x_iconst (v := nI 1) dX10_request_78 (by decide) ?_
      refine x_iadd dX10_request_79 ?_
      try simp only [pk_mul, nI_add]
      refine st_M hR dX10_request_80 rfl (by decide) rfl (by first | (show _ < 2; omega) | (show _ < 16; omega) | (show _ < 32; omega) | (show _ < 8; omega) | (show _ < 272; omega) | (show _ < 1024; omega)) (fun _ hR hF1 => ?_)
      replace hF := hF.trans hF1
      replace hV := hV.t_na (p := p) (n := u.na p + 1)
      refine x_aload_n dX10_request_81 rfl rfl ?_
      refine gf_X10_77_10 rfl dX10_request_82 hR.o ?_
      refine x_iconst (v := nI 2) dX10_request_85 (by decide) ?_
      refine ld_M hR dX10_request_86 rfl (by decide) rfl (by first | (show _ < 2; omega) | (show _ < 16; omega) | (show _ < 32; omega) | (show _ < 8; omega) | (show _ < 272; omega) | (show _ < 1024; omega)) ?_
      rw [hV.md 2 (by omega)]
      refine y_istore_n dX10_request_87 rfl lvs_5_3 ?_
      refine x_iload_n dX10_request_88 rfl ?_
      refine x_if_ne (tgt := 100) dX10_request_89 (by decide) (fun c3 => ?_) (fun c3 => ?_)
      · refine x_iload_n dX10_request_100 rfl ?_
        refine x_iconst (v := nI 1) dX10_request_101 (by decide) ?_
        refine x_icmp_ne (tgt := 113) dX10_request_102 (by decide) (fun c4 => ?_) (fun c4 => ?_)
        · refine x_aload_n dX10_request_113 rfl rfl ?_
          refine x_iload_n dX10_request_114 rfl ?_
          refine x_aload_n dX10_request_115 rfl rfl ?_
          refine x_iload_n dX10_request_116 rfl ?_
          refine x_iconst (v := nI 1) dX10_request_117 (by decide) ?_
          refine x_aload_n dX10_request_118 rfl rfl ?_
          refine gf_X10_77_10 rfl dX10_request_119 hR.o ?_
          refine x_bipush (v := nI 6) dX10_request_122 (by decide) ?_
          refine ld_M hR dX10_request_124 rfl (by decide) rfl (by first | (show _ < 2; omega) | (show _ < 16; omega) | (show _ < 32; omega) | (show _ < 8; omega) | (show _ < 272; omega) | (show _ < 1024; omega)) ?_
          rw [hV.md 6 (by omega)]
          refine x_callV dX10_request_125 sv_X10_104_10 rfl hR.o rfl (Nat.le_of_ble_eq_true rfl) rfl ?_
          refine r_find ⟨_, hR, hV⟩ hp (by omega) (kc_v dr_4 ?_)
          refine x_callV dX10_request_128 sv_X10_149_10 rfl hR.o rfl (Nat.le_of_ble_eq_true rfl) rfl ?_
          refine r_drop_of ⟨_, hR, hV⟩ hp (fun k hk => findIdx_lt hk) (fun h1 hRU hF1 => kc_n dr_3 ?_)
          replace hF := hF.trans hF1
          obtain ⟨F, hR, hV⟩ := hRU
          refine x_aload_n dX10_request_131 rfl rfl ?_
          refine x_iconst (v := nI 0) dX10_request_132 (by decide) ?_
          refine x_iload_n dX10_request_133 rfl ?_
          refine x_iconst (v := nI 2) dX10_request_134 (by decide) ?_
          refine x_callV dX10_request_135 sv_X10_111_10 rfl hR.o rfl (Nat.le_of_ble_eq_true rfl) rfl ?_
          refine r_blank ⟨_, hR, hV⟩ (fun h1 hRU hF1 => kc_n dr_4 ?_)
          refine r_req_end hp hRU (hF.trans hF1) (fun h' hR' hF' => hq _ (blk (nI 0) (md 1) (nI 2)) ?_ hF')
          simp only [reqA, if_neg c3]
          rw [if_neg c4]
          exact hR'
        · refine x_aload_n dX10_request_105 rfl rfl ?_
          refine x_iload_n dX10_request_106 rfl ?_
          refine x_callV dX10_request_107 sv_X10_146_10 rfl hR.o rfl (Nat.le_of_ble_eq_true rfl) rfl ?_
          refine r_answerRenew hp ⟨_, hR, hV⟩ (fun h1 hRU hF1 => kc_n dr_2 ?_)
          refine x_goto (tgt := 138) dX10_request_110 (by decide) ?_
          refine r_req_end hp hRU (hF.trans hF1) (fun h' hR' hF' => hq _ (ansRenew (u.w_na p (u.na p + 1)) p md).2 ?_ hF')
          simp only [reqA, if_neg c3]
          rw [if_pos c4]
          exact hR'
      · obtain ⟨o1, o2, o3⟩ := ho c3
        refine x_aload_n dX10_request_92 rfl rfl ?_
        refine x_iload_n dX10_request_93 rfl ?_
        refine x_callV dX10_request_94 sv_X10_143_10 rfl hR.o rfl (Nat.le_of_ble_eq_true rfl) rfl ?_
        refine r_answerOpen hp ⟨_, hR, hV⟩ o1 o2 o3 (fun h1 hRU hF1 => kc_n dr_2 ?_)
        refine x_goto (tgt := 138) dX10_request_97 (by decide) ?_
        refine r_req_end hp hRU (hF.trans hF1) (fun h' hR' hF' => hq _ (ansOpen (u.w_na p (u.na p + 1)) p md off).2 ?_ hF')
        simp only [reqA, if_pos c3]
        exact hR'
    · rw [if_neg c2] at hq
      refine x_iconst (v := nI 0) dX10_request_69 (by decide) ?_
      refine x_ireturn dX10_request_70 rfl ?_
      exact hq _ _ ⟨_, hR, hV⟩ hF
  · rw [reqU, if_pos c1] at hq
    refine x_iconst (v := nI 0) dX10_request_19 (by decide) ?_
    refine y_istore_n dX10_request_20 rfl lvs_5_3 ?_
    exact r_req_get hp hV (fun h' hR' hF' => hq _ _ hR' hF') 16 0 h (by omega) (hR.ext fun a b => by rw [rGet, if_neg (by omega)]) hF
def mineB (p : Nat) (worth : Int32) (l : List (Nat → Int32)) (o : Option Nat) : Bool := match o with
  | none => false
  | some k => decide (worth < l.getD k (fun _ => 0) 7 ∨ worth = l.getD k (fun _ => 0) 7 ∧ p = 0)
def kiIn (u : Ut) (p : Nat) (kd : Nat → Int32) : Ut := if (u.ki p).length < 16 then u.w_ki p (u.ki p ++ [kd]) else u
def renU (u : Ut) (p : Nat) (md pk : Nat → Int32) (worth : Int32) : Ut :=
  (kiIn u p (kdL (pk 4) (md 4) (pk 9) (pk 7) (pk 8) (pk 6) (nI 1) worth)).w_wi p (u.wi p ++ [(nI 2, if mineB p worth (u.ki p) ((u.ki p).findIdx? (fun e => decide (e 5 = pk 6 ∧ e 6 = nI 0))) then pk 4 else pk 6)])
theorem r_ren_wish {b : Bool} {pk : Nat → Int32} {F : Nat → Nat → Int32} {worth : Int32} {z5 z6 : Option Value} {h : Hp} (hp : p < 2) (hR : RM G h m t F) (hV : VW F u md) (hO : ∀ j, j < 16 → F 14 (16 * p + j) = pk j) (hF : FrM m h0 h) (hw : (u.wi p).length < 15) (hq : ∀ h', RU G h' m t (u.w_wi p (u.wi p ++ [(nI 2, if b then pk 4 else pk 6)])) md → FrM m h0 h' → Q (.returned none) h') : Jx G mX10_renewed (d + 2) Q 122 [some (.ref m), some (.int (nI p)), some (.int (nI (16 * p))), some (.int worth), some (.int (pk 6)), z5, z6] [.int (bI b)] h := by
  refine y_istore dX10_renewed_122 rfl lvs_7_6 ?_
  refine x_aload_n dX10_renewed_124 rfl rfl ?_
  refine x_iload_n dX10_renewed_125 rfl ?_
  refine x_iconst (v := nI 2) dX10_renewed_126 (by decide) ?_
  refine x_iload dX10_renewed_127 rfl ?_
  cases b with
  | false =>
    refine x_if_eq (tgt := 143) dX10_renewed_129 (by decide) (fun c1 => ?_) (fun c1 => ?_)
    · refine x_iload dX10_renewed_143 rfl ?_
      refine x_callV dX10_renewed_145 sv_X10_100_10 rfl hR.o rfl (Nat.le_of_ble_eq_true rfl) rfl ?_
      refine r_addWish ⟨_, hR, hV⟩ hp hw (fun h1 hRU hF1 => kc_n dr_4 ?_)
      refine x_vreturn dX10_renewed_148 rfl ?_
      exact hq _ hRU (hF.trans hF1)
    · exact absurd rfl c1
  | true =>
    refine x_if_eq (tgt := 143) dX10_renewed_129 (by decide) (fun c1 => ?_) (fun c1 => ?_)
    · exact absurd c1 (by decide)
    · refine x_aload_n dX10_renewed_132 rfl rfl ?_
      refine gf_X10_50_10 rfl dX10_renewed_133 hR.o ?_
      refine x_iload_n dX10_renewed_136 rfl ?_
      refine x_iconst (v := nI 4) dX10_renewed_137 (by decide) ?_
      refine x_iadd dX10_renewed_138 ?_
      try simp only [pk_mul, nI_add]
      refine ld_M hR dX10_renewed_139 rfl (by decide) rfl (by first | (show _ < 2; omega) | (show _ < 16; omega) | (show _ < 32; omega) | (show _ < 8; omega) | (show _ < 272; omega) | (show _ < 1024; omega)) ?_
      rw [hO 4 (by omega)]
      refine x_goto (tgt := 145) dX10_renewed_140 (by decide) ?_
      refine x_callV dX10_renewed_145 sv_X10_100_10 rfl hR.o rfl (Nat.le_of_ble_eq_true rfl) rfl ?_
      refine r_addWish ⟨_, hR, hV⟩ hp hw (fun h1 hRU hF1 => kc_n dr_4 ?_)
      refine x_vreturn dX10_renewed_148 rfl ?_
      exact hq _ hRU (hF.trans hF1)
theorem r_ren_mine {l : List (Nat → Int32)} {o : Option Nat} {pk : Nat → Int32} {F : Nat → Nat → Int32} {worth : Int32} {h : Hp} (hp : p < 2) (hR : RM G h m t F) (hV : VW F u md) (hO : ∀ j, j < 16 → F 14 (16 * p + j) = pk j) (hF : FrM m h0 h) (hw : (u.wi p).length < 15) (ho : ∀ k, o = some k → (u.ki p)[k]? = some (l.getD k (fun _ => 0))) (hq : ∀ h', RU G h' m t (u.w_wi p (u.wi p ++ [(nI 2, if mineB p worth l o then pk 4 else pk 6)])) md → FrM m h0 h' → Q (.returned none) h') : Jx G mX10_renewed (d + 2) Q 82 [some (.ref m), some (.int (nI p)), some (.int (nI (16 * p))), some (.int worth), some (.int (pk 6)), some (.int (oI o)), none] [] h := by
  refine x_iload dX10_renewed_82 rfl ?_
  cases o with
  | none =>
    refine x_if_lt (tgt := 121) dX10_renewed_84 (by decide) (fun c1 => ?_) (fun c1 => ?_)
    · refine x_iconst (v := nI 0) dX10_renewed_121 (by decide) ?_
      exact r_ren_wish (b := false) hp hR hV hO hF hw hq
    · exact absurd (oI_neg rfl) c1
  | some k =>
    have hk := ho k rfl
    have hkl := (List.getElem?_eq_some_iff.mp hk).1
    have h16 := (hV.ki p hp).1
    simp only [oI]
    refine x_if_lt (tgt := 121) dX10_renewed_84 (by decide) (fun c1 => ?_) (fun c1 => ?_)
    · exact absurd c1 (nI_pos (by omega))
    refine x_iload_n dX10_renewed_87 rfl ?_
    refine x_aload_n dX10_renewed_88 rfl rfl ?_
    refine x_iload_n dX10_renewed_89 rfl ?_
    refine x_iload dX10_renewed_90 rfl ?_
    refine x_bipush (v := nI 7) dX10_renewed_92 (by decide) ?_
    refine x_callV dX10_renewed_94 sv_X10_96_10 rfl hR.o rfl (Nat.le_of_ble_eq_true rfl) rfl ?_
    refine r_kid ⟨_, hR, hV⟩ hp hk (by omega) (kc_v dr_4 ?_)
    refine x_icmp_lt (tgt := 117) dX10_renewed_97 (by decide) (fun c2 => ?_) (fun c2 => ?_)
    · refine x_iconst (v := nI 1) dX10_renewed_117 (by decide) ?_
      refine x_goto (tgt := 122) dX10_renewed_118 (by decide) ?_
      refine r_ren_wish (b := true) hp hR hV hO hF hw ?_
      rw [show mineB p worth l (some k) = true from decide_eq_true (Or.inl c2)] at hq
      exact hq
    refine x_iload_n dX10_renewed_100 rfl ?_
    refine x_aload_n dX10_renewed_101 rfl rfl ?_
    refine x_iload_n dX10_renewed_102 rfl ?_
    refine x_iload dX10_renewed_103 rfl ?_
    refine x_bipush (v := nI 7) dX10_renewed_105 (by decide) ?_
    refine x_callV dX10_renewed_107 sv_X10_96_10 rfl hR.o rfl (Nat.le_of_ble_eq_true rfl) rfl ?_
    refine r_kid ⟨_, hR, hV⟩ hp hk (by omega) (kc_v dr_4 ?_)
    refine x_icmp_ne (tgt := 121) dX10_renewed_110 (by decide) (fun c3 => ?_) (fun c3 => ?_)
    · refine x_iconst (v := nI 0) dX10_renewed_121 (by decide) ?_
      refine r_ren_wish (b := false) hp hR hV hO hF hw ?_
      rw [show mineB p worth l (some k) = false from decide_eq_false (fun q => q.elim c2 (fun q => c3 q.1))] at hq
      exact hq
    refine x_iload_n dX10_renewed_113 rfl ?_
    refine x_if_ne (tgt := 121) dX10_renewed_114 (by decide) (fun c4 => ?_) (fun c4 => ?_)
    · refine x_iconst (v := nI 0) dX10_renewed_121 (by decide) ?_
      refine r_ren_wish (b := false) hp hR hV hO hF hw ?_
      rw [show mineB p worth l (some k) = false from decide_eq_false (fun q => q.elim c2 (fun q => c4 (by rw [q.2]; rfl)))] at hq
      exact hq
    · refine x_iconst (v := nI 1) dX10_renewed_117 (by decide) ?_
      refine x_goto (tgt := 122) dX10_renewed_118 (by decide) ?_
      refine r_ren_wish (b := true) hp hR hV hO hF hw ?_
      have : p = 0 := (nI_eq (b := 0) (by omega) (by omega)).mp c4
      rw [show mineB p worth l (some k) = true from decide_eq_true (Or.inr ⟨c3, this⟩)] at hq
      exact hq
theorem r_renewed {pk : Nat → Int32} {F : Nat → Nat → Int32} {worth : Int32} {h : Hp} (hp : p < 2) (hR : RM G h m t F) (hV : VW F u md) (hO : ∀ j, j < 16 → F 14 (16 * p + j) = pk j) (hw : (u.wi p).length < 15) (hq : ∀ h', RU G h' m t (renU u p md pk worth) md → FrM m h h' → Q (.returned none) h') : Cx G mX10_renewed (d + 2) [.ref m, .int (nI p), .int (nI (16 * p)), .int worth] h Q := by
  show Jx G mX10_renewed (d + 2) Q 0 [some (.ref m), some (.int (nI p)), some (.int (nI (16 * p))), some (.int worth), none, none, none] [] h
  have hF := FrM.rf m h
  have h16 := (hV.ki p hp).1
  refine x_aload_n dX10_renewed_0 rfl rfl ?_
  refine gf_X10_50_10 rfl dX10_renewed_1 hR.o ?_
  refine x_iload_n dX10_renewed_4 rfl ?_
  refine x_bipush (v := nI 6) dX10_renewed_5 (by decide) ?_
  refine x_iadd dX10_renewed_7 ?_
  try simp only [pk_mul, nI_add]
  refine ld_M hR dX10_renewed_8 rfl (by decide) rfl (by first | (show _ < 2; omega) | (show _ < 16; omega) | (show _ < 32; omega) | (show _ < 8; omega) | (show _ < 272; omega) | (show _ < 1024; omega)) ?_
  rw [hO 6 (by omega)]
  refine y_istore dX10_renewed_9 rfl lvs_7_4 ?_
  refine x_aload_n dX10_renewed_11 rfl rfl ?_
  refine x_iload_n dX10_renewed_12 rfl ?_
  refine x_iload dX10_renewed_13 rfl ?_
  refine x_iconst (v := nI 0) dX10_renewed_15 (by decide) ?_
  refine x_callV dX10_renewed_16 sv_X10_156_10 rfl hR.o rfl (Nat.le_of_ble_eq_true rfl) rfl ?_
  refine r_renewing ⟨_, hR, hV⟩ hp (kc_v dr_4 ?_)
  refine y_istore dX10_renewed_19 rfl lvs_7_5 ?_
  refine x_aload_n dX10_renewed_21 rfl rfl ?_
  refine gf_X10_28_10 rfl dX10_renewed_22 hR.o ?_
  refine x_iload_n dX10_renewed_25 rfl ?_
  refine ld_M hR dX10_renewed_26 rfl (by decide) rfl (by first | (show _ < 2; omega) | (show _ < 16; omega) | (show _ < 32; omega) | (show _ < 8; omega) | (show _ < 272; omega) | (show _ < 1024; omega)) ?_
  rw [(hV.ki p hp).2.1]
  refine x_bipush (v := nI 16) dX10_renewed_27 (by decide) ?_
  refine x_icmp_ge (tgt := 82) dX10_renewed_29 (by decide) (fun c1 => ?_) (fun c1 => ?_)
  · have hn : ¬ (u.ki p).length < 16 := by have := (nI_leI (a := 16) (b := (u.ki p).length) (by omega) (by omega)).mp c1; omega
    rw [renU, kiIn, if_neg hn] at hq
    exact r_ren_mine (l := u.ki p) hp hR hV hO hF hw (fun k hk => getD_at (findIdx_lt hk)) hq
  · have hl : (u.ki p).length < 16 := by
      by_cases hl : (u.ki p).length < 16
      · exact hl
      · exact absurd (nI_le (by omega) (by omega)) c1
    rw [renU, kiIn, if_pos hl] at hq
    refine x_aload_n dX10_renewed_32 rfl rfl ?_
    refine x_iload_n dX10_renewed_33 rfl ?_
    refine x_aload_n dX10_renewed_34 rfl rfl ?_
    refine gf_X10_50_10 rfl dX10_renewed_35 hR.o ?_
    refine x_iload_n dX10_renewed_38 rfl ?_
    refine x_iconst (v := nI 4) dX10_renewed_39 (by decide) ?_
    refine x_iadd dX10_renewed_40 ?_
    try simp only [pk_mul, nI_add]
    refine ld_M hR dX10_renewed_41 rfl (by decide) rfl (by first | (show _ < 2; omega) | (show _ < 16; omega) | (show _ < 32; omega) | (show _ < 8; omega) | (show _ < 272; omega) | (show _ < 1024; omega)) ?_
    rw [hO 4 (by omega)]
    refine x_aload_n dX10_renewed_42 rfl rfl ?_
    refine gf_X10_77_10 rfl dX10_renewed_43 hR.o ?_
    refine x_iconst (v := nI 4) dX10_renewed_46 (by decide) ?_
    refine ld_M hR dX10_renewed_47 rfl (by decide) rfl (by first | (show _ < 2; omega) | (show _ < 16; omega) | (show _ < 32; omega) | (show _ < 8; omega) | (show _ < 272; omega) | (show _ < 1024; omega)) ?_
    rw [hV.md 4 (by omega)]
    refine x_aload_n dX10_renewed_48 rfl rfl ?_
    refine gf_X10_50_10 rfl dX10_renewed_49 hR.o ?_
    refine x_iload_n dX10_renewed_52 rfl ?_
    refine x_bipush (v := nI 9) dX10_renewed_53 (by decide) ?_
    refine x_iadd dX10_renewed_55 ?_
    try simp only [pk_mul, nI_add]
    refine ld_M hR dX10_renewed_56 rfl (by decide) rfl (by first | (show _ < 2; omega) | (show _ < 16; omega) | (show _ < 32; omega) | (show _ < 8; omega) | (show _ < 272; omega) | (show _ < 1024; omega)) ?_
    rw [hO 9 (by omega)]
    refine x_aload_n dX10_renewed_57 rfl rfl ?_
    refine gf_X10_50_10 rfl dX10_renewed_58 hR.o ?_
    refine x_iload_n dX10_renewed_61 rfl ?_
    refine x_bipush (v := nI 7) dX10_renewed_62 (by decide) ?_
    refine x_iadd dX10_renewed_64 ?_
    try simp only [pk_mul, nI_add]
    refine ld_M hR dX10_renewed_65 rfl (by decide) rfl (by first | (show _ < 2; omega) | (show _ < 16; omega) | (show _ < 32; omega) | (show _ < 8; omega) | (show _ < 272; omega) | (show _ < 1024; omega)) ?_
    rw [hO 7 (by omega)]
    refine x_aload_n dX10_renewed_66 rfl rfl ?_
    refine gf_X10_50_10 rfl dX10_renewed_67 hR.o ?_
    refine x_iload_n dX10_renewed_70 rfl ?_
    refine x_bipush (v := nI 8) dX10_renewed_71 (by decide) ?_
    refine x_iadd dX10_renewed_73 ?_
    try simp only [pk_mul, nI_add]
    refine ld_M hR dX10_renewed_74 rfl (by decide) rfl (by first | (show _ < 2; omega) | (show _ < 16; omega) | (show _ < 32; omega) | (show _ < 8; omega) | (show _ < 272; omega) | (show _ < 1024; omega)) ?_
    rw [hO 8 (by omega)]
    refine x_iload dX10_renewed_75 rfl ?_
    refine x_iconst (v := nI 1) dX10_renewed_77 (by decide) ?_
    refine x_iload_n dX10_renewed_78 rfl ?_
    refine x_callV dX10_renewed_79 sv_X10_152_10 rfl hR.o rfl (Nat.le_of_ble_eq_true rfl) rfl ?_
    refine m_addKid hR hp (hV.ki p hp).2.1 h16 (fun h1 hR hF1 => kc_n dr_10 ?_)
    replace hF := hF.trans hF1
    refine r_ren_mine (l := u.ki p) hp hR (hV.t_ki1 hp hl) (fun j hj => ?_) hF hw (fun k hk => ?_) hq
    · rw [rAdd, if_neg (by omega), if_neg (by omega)]
      exact hO j hj
    · show (va_up u.ki p _ p)[k]? = _
      rw [va_up_self, List.getElem?_append_left (findIdx_lt hk)]
      exact getD_at (findIdx_lt hk)
end REF10X
