def wishU (v : Ut) (p : Nat) (w : Int32 × Int32) : Ut :=
  if w.1 = 0 then (askU v p w.1 w.2 (fun _ => 0)).1 else
  match (v.ki p).findIdx? (fun kd => decide (kd 0 = w.2)) with
  | none => v
  | some k => if w.1 = 2 ∨ (v.ki p).findIdx? (fun kd => decide (kd 5 = w.2)) = none then (askU v p w.1 w.2 ((v.ki p).getD k (fun _ => 0))).1 else v
def takeN : Nat → Ut → Nat → Ut
  | 0, u, _ => u
  | n + 1, u, p => if (u.ou p).isSome = true ∨ u.de p = true then u else match u.wi p with
    | [] => u
    | w :: t => takeN n (wishU (u.w_wi p t) p w) p
def takeP (u : Ut) (p : Nat) : Ut := takeN (u.wi p).length u p
def takeU (u : Ut) : Ut := takeP (takeP u 0) 1
def rShift (F : Nat → Nat → Int32) (p i : Nat) : Nat → Nat → Int32 := fun a b => if (a = 10 ∨ a = 11) ∧ 16 * p ≤ b ∧ b < 16 * p + i then F a (b + 1) else F a b
theorem VW.t_wi0 {F : Nat → Nat → Int32} {u : Ut} {md : Nat → Int32} {p : Nat} {w : Int32 × Int32} {t : List (Int32 × Int32)} (hV : VW F u md) (hp : p < 2) (hw : u.wi p = w :: t) : VW (rShift (u2 F 9 p (nI t.length)) p t.length) (u.w_wi p t) md := by
  refine hV.s_wi (fun j _ _ h9 h10 h11 => ?_) ?_
  · funext b
    simp only [rShift]
    rw [if_neg (by omega), u2_row _ _ _ _ h9]
  · intro q hq
    obtain ⟨l15, hc, hk⟩ := hV.wi q hq
    by_cases e : q = p
    · subst e
      rw [va_up_self]
      rw [hw] at l15 hk
      simp only [List.length_cons] at l15
      refine ⟨by omega, ?_, fun k x hx => ?_⟩
      · simp only [rShift]
        rw [if_neg (by omega), u2_same]
      · have hl := (List.getElem?_eq_some_iff.mp hx).1
        have := hk (k + 1) x (by simpa using hx)
        simp only [rShift]
        rw [if_pos ⟨by simp, by omega, by omega⟩, if_pos ⟨by simp, by omega, by omega⟩, u2_row _ _ _ _ (by decide), u2_row _ _ _ _ (by decide)]
        exact this
    · rw [va_up_ne _ _ e]
      refine ⟨l15, ?_, fun k x hx => ?_⟩
      · simp only [rShift]
        rw [if_neg (by omega), u2_col _ _ _ _ e]
        exact hc
      · have hl := (List.getElem?_eq_some_iff.mp hx).1
        have := hk k x hx
        have hl2 := (hV.wi p hp).1
        rw [hw] at hl2
        simp only [List.length_cons] at hl2
        simp only [rShift]
        rw [if_neg (by omega), if_neg (by omega), u2_row _ _ _ _ (by decide), u2_row _ _ _ _ (by decide)]
        exact this
theorem findIdx_lt {α : Type} {P : α → Bool} {l : List α} {k : Nat} (h : l.findIdx? P = some k) : k < l.length := by
  have := List.findIdx?_eq_some_iff_getElem.mp h
  exact this.1
theorem getD_at {α : Type} {l : List α} {k : Nat} {z : α} (h : k < l.length) : l[k]? = some (l.getD k z) := by
  rw [List.getD_eq_getElem?_getD, List.getElem?_eq_getElem h]
  rfl
theorem oI_neg {o : Option Nat} (h : o = none) : oI o < 0 := by subst h; decide
section REF8X
variable {G : GT} {d : Nat} {Q : Outcome → Hp → Prop} {m : Nat} {t : Int32}
theorem r_take_shift {p : Nat} {F0 : Nat → Nat → Int32} {c : Nat} {h0 : Hp} {z2 z3 : Option Value} (hp : p < 2) (hc : c ≤ 14) (h9 : F0 9 p = nI c) (kk : ∀ h' z, RM G h' m t (rShift F0 p c) → FrM m h0 h' → Jx G mX10_takeWishes (d + 3) Q 136 [some (.ref m), some (.int (nI p)), z2, z3, z] [] h') : ∀ (q i : Nat) (h : Hp), i + q = c → RM G h m t (rShift F0 p i) → FrM m h0 h → Jx G mX10_takeWishes (d + 3) Q 67 [some (.ref m), some (.int (nI p)), z2, z3, some (.int (nI i))] [] h := by
  intro q
  induction q with
  | zero =>
    intro i h hi hR hF
    have hi16 : i = c := by omega
    subst hi16
    refine x_iload dX10_takeWishes_67 rfl ?_
    refine x_aload_n dX10_takeWishes_69 rfl rfl ?_
    refine gf_X10_34_10 rfl dX10_takeWishes_70 hR.o ?_
    refine x_iload_n dX10_takeWishes_73 rfl ?_
    refine ld_M hR dX10_takeWishes_74 rfl (by decide) rfl (by first | (show _ < 2; omega) | (show _ < 16; omega) | (show _ < 32; omega) | (show _ < 8; omega) | (show _ < 272; omega) | (show _ < 1024; omega)) ?_
    rw [rShift, if_neg (by omega), h9]
    refine x_icmp_ge (tgt := 136) dX10_takeWishes_75 (by decide) (fun c1 => ?_) (fun c1 => ?_)
    · exact kk _ _ hR hF
    · exact absurd (nI_le (by omega) (by omega)) c1
  | succ q ih =>
    intro i h hi hR hF
    refine x_iload dX10_takeWishes_67 rfl ?_
    refine x_aload_n dX10_takeWishes_69 rfl rfl ?_
    refine gf_X10_34_10 rfl dX10_takeWishes_70 hR.o ?_
    refine x_iload_n dX10_takeWishes_73 rfl ?_
    refine ld_M hR dX10_takeWishes_74 rfl (by decide) rfl (by first | (show _ < 2; omega) | (show _ < 16; omega) | (show _ < 32; omega) | (show _ < 8; omega) | (show _ < 272; omega) | (show _ < 1024; omega)) ?_
    rw [rShift, if_neg (by omega), h9]
    refine x_icmp_ge (tgt := 136) dX10_takeWishes_75 (by decide) (fun c1 => ?_) (fun c1 => ?_)
    · exact absurd ((nI_leI (by omega) (by omega)).mp c1) (by omega)
    refine x_aload_n dX10_takeWishes_78 rfl rfl ?_
    refine gf_X10_37_10 rfl dX10_takeWishes_79 hR.o ?_
    refine x_bipush (v := nI 16) dX10_takeWishes_82 (by decide) ?_
    refine x_iload_n dX10_takeWishes_84 rfl ?_
    refine x_imul dX10_takeWishes_85 ?_
    try simp only [pk_mul, nI_add]
    refine x_iload dX10_takeWishes_86 rfl ?_
    refine x_iadd dX10_takeWishes_88 ?_
    try simp only [pk_mul, nI_add]
    refine x_aload_n dX10_takeWishes_89 rfl rfl ?_
    refine gf_X10_37_10 rfl dX10_takeWishes_90 hR.o ?_
    refine x_bipush (v := nI 16) dX10_takeWishes_93 (by decide) ?_
    refine x_iload_n dX10_takeWishes_95 rfl ?_
    refine x_imul dX10_takeWishes_96 ?_
    try simp only [pk_mul, nI_add]
    refine x_iload dX10_takeWishes_97 rfl ?_
    refine x_iadd dX10_takeWishes_99 ?_
    try simp only [pk_mul, nI_add]
    refine x_iconst (v := nI 1) dX10_takeWishes_100 (by decide) ?_
    refine x_iadd dX10_takeWishes_101 ?_
    try simp only [pk_mul, nI_add]
    refine ld_M hR dX10_takeWishes_102 rfl (by decide) rfl (by first | (show _ < 2; omega) | (show _ < 16; omega) | (show _ < 32; omega) | (show _ < 8; omega) | (show _ < 272; omega) | (show _ < 1024; omega)) ?_
    refine st_M hR dX10_takeWishes_103 rfl (by decide) rfl (by first | (show _ < 2; omega) | (show _ < 16; omega) | (show _ < 32; omega) | (show _ < 8; omega) | (show _ < 272; omega) | (show _ < 1024; omega)) (fun _ hR hF1 => ?_)
    replace hF := hF.trans hF1
    refine x_aload_n dX10_takeWishes_104 rfl rfl ?_
    refine gf_X10_40_10 rfl dX10_takeWishes_105 hR.o ?_
    refine x_bipush (v := nI 16) dX10_takeWishes_108 (by decide) ?_
    refine x_iload_n dX10_takeWishes_110 rfl ?_
    refine x_imul dX10_takeWishes_111 ?_
    try simp only [pk_mul, nI_add]
    refine x_iload dX10_takeWishes_112 rfl ?_
    refine x_iadd dX10_takeWishes_114 ?_
    try simp only [pk_mul, nI_add]
    refine x_aload_n dX10_takeWishes_115 rfl rfl ?_
    refine gf_X10_40_10 rfl dX10_takeWishes_116 hR.o ?_
    refine x_bipush (v := nI 16) dX10_takeWishes_119 (by decide) ?_
    refine x_iload_n dX10_takeWishes_121 rfl ?_
    refine x_imul dX10_takeWishes_122 ?_
    try simp only [pk_mul, nI_add]
    refine x_iload dX10_takeWishes_123 rfl ?_
    refine x_iadd dX10_takeWishes_125 ?_
    try simp only [pk_mul, nI_add]
    refine x_iconst (v := nI 1) dX10_takeWishes_126 (by decide) ?_
    refine x_iadd dX10_takeWishes_127 ?_
    try simp only [pk_mul, nI_add]
    refine ld_M hR dX10_takeWishes_128 rfl (by decide) rfl (by first | (show _ < 2; omega) | (show _ < 16; omega) | (show _ < 32; omega) | (show _ < 8; omega) | (show _ < 272; omega) | (show _ < 1024; omega)) ?_
    refine st_M hR dX10_takeWishes_129 rfl (by decide) rfl (by first | (show _ < 2; omega) | (show _ < 16; omega) | (show _ < 32; omega) | (show _ < 8; omega) | (show _ < 272; omega) | (show _ < 1024; omega)) (fun _ hR hF1 => ?_)
    replace hF := hF.trans hF1
    refine y_iinc (k := nI 1) dX10_takeWishes_130 rfl (by decide) lvs_5_4 ?_
    try simp only [pk_mul, nI_add]
    refine x_goto (tgt := 67) dX10_takeWishes_133 (by decide) ?_
    refine ih (i + 1) _ (by omega) (hR.ext fun a b => ?_) hF
    simp only [u2_at, rShift]
    by_cases h10 : a = 10
    · subst h10
      by_cases hb : b = 16 * p + i
      · subst hb
        simp
        intro _ q
        omega
      · simp only [show ¬ ((10 : Nat) = 11) by decide, false_and, if_false, or_false, true_and, hb]
        by_cases hb2 : 16 * p ≤ b ∧ b < 16 * p + i
        · rw [if_pos hb2, if_pos ⟨by omega, by omega⟩]
        · rw [if_neg hb2, if_neg (by omega)]
    · by_cases h11 : a = 11
      · subst h11
        by_cases hb : b = 16 * p + i
        · subst hb
          simp
          intro _ q
          omega
        · simp only [show ¬ ((11 : Nat) = 10) by decide, false_and, if_false, false_or, true_and, hb]
          by_cases hb2 : 16 * p ≤ b ∧ b < 16 * p + i
          · rw [if_pos hb2, if_pos ⟨by omega, by omega⟩]
          · rw [if_neg hb2, if_neg (by omega)]
      · simp [h10, h11]
theorem r_take_wish {p : Nat} {w : Int32 × Int32} {z : Option Value} {h0 h : Hp} {v : Ut} {md : Nat → Int32} (hp : p < 2) (hR : RU G h m t v md) (hF : FrM m h0 h) (kk : ∀ h' md' z, RU G h' m t (wishU v p w) md' → FrM m h0 h' → Jx G mX10_takeWishes (d + 3) Q 7 [some (.ref m), some (.int (nI p)), some (.int w.1), some (.int w.2), z] [] h') : Jx G mX10_takeWishes (d + 3) Q 136 [some (.ref m), some (.int (nI p)), some (.int w.1), some (.int w.2), z] [] h := by
  obtain ⟨F, hR, hV⟩ := hR
  refine x_aload_n dX10_takeWishes_136 rfl rfl ?_
  refine x_iload_n dX10_takeWishes_137 rfl ?_
  refine x_iconst (v := nI 0) dX10_takeWishes_138 (by decide) ?_
  refine x_iload_n dX10_takeWishes_139 rfl ?_
  refine x_callV dX10_takeWishes_140 sv_X10_104_10 rfl hR.o rfl (Nat.le_of_ble_eq_true rfl) rfl ?_
  refine r_find ⟨_, hR, hV⟩ hp (by omega) (kc_v dr_4 ?_)
  refine y_istore dX10_takeWishes_143 rfl lvs_5_4 ?_
  refine x_iload_n dX10_takeWishes_145 rfl ?_
  refine x_if_eq (tgt := 169) dX10_takeWishes_146 (by decide) (fun c1 => ?_) (fun c1 => ?_)
  · refine x_aload_n dX10_takeWishes_169 rfl rfl ?_
    refine x_iload_n dX10_takeWishes_170 rfl ?_
    refine x_iload_n dX10_takeWishes_171 rfl ?_
    refine x_iload_n dX10_takeWishes_172 rfl ?_
    refine x_iload dX10_takeWishes_173 rfl ?_
    refine x_callV dX10_takeWishes_175 sv_X10_107_10 rfl hR.o rfl (Nat.le_of_ble_eq_true rfl) rfl ?_
    refine r_askO (kd := fun _ => 0) ⟨_, hR, hV⟩ hp c1 (fun h' hR' hF' => kc_n dr_5 ?_)
    refine x_goto (tgt := 7) dX10_takeWishes_178 (by decide) ?_
    refine kk _ (askU v p w.1 w.2 (fun _ => 0)).2 _ ?_ (hF.trans hF')
    rw [wishU, if_pos c1]
    exact hR'
  refine x_iload dX10_takeWishes_149 rfl ?_
  have h16 := (hV.ki p hp).1
  generalize hf : (v.ki p).findIdx? (fun kd => decide (kd 0 = w.2)) = o
  cases o with
  | none =>
    refine x_if_lt (tgt := 178) dX10_takeWishes_151 (by decide) (fun c2 => ?_) (fun c2 => ?_)
    · refine x_goto (tgt := 7) dX10_takeWishes_178 (by decide) ?_
      refine kk _ md _ ?_ hF
      rw [wishU, if_neg c1, hf]
      exact ⟨_, hR, hV⟩
    · exact absurd (oI_neg rfl) c2
  | some k =>
    have hkl := findIdx_lt hf
    have hkd := getD_at (z := fun _ => (0 : Int32)) hkl
    show Jx G mX10_takeWishes (d + 3) Q 151 [some (.ref m), some (.int (nI p)), some (.int w.1), some (.int w.2), some (.int (nI k))] [.int (nI k)] h
    refine x_if_lt (tgt := 178) dX10_takeWishes_151 (by decide) (fun c2 => ?_) (fun c2 => ?_)
    · exact absurd c2 (nI_pos (by omega))
    refine x_iload_n dX10_takeWishes_154 rfl ?_
    refine x_iconst (v := nI 2) dX10_takeWishes_155 (by decide) ?_
    refine x_icmp_eq (tgt := 169) dX10_takeWishes_156 (by decide) (fun c3 => ?_) (fun c3 => ?_)
    · have e2 : w.1 = 2 := c3
      refine x_aload_n dX10_takeWishes_169 rfl rfl ?_
      refine x_iload_n dX10_takeWishes_170 rfl ?_
      refine x_iload_n dX10_takeWishes_171 rfl ?_
      refine x_iload_n dX10_takeWishes_172 rfl ?_
      refine x_iload dX10_takeWishes_173 rfl ?_
      refine x_callV dX10_takeWishes_175 sv_X10_107_10 rfl hR.o rfl (Nat.le_of_ble_eq_true rfl) rfl ?_
      refine r_askR ⟨_, hR, hV⟩ hp c1 hkd (fun h' hR' hF' => kc_n dr_5 ?_)
      refine x_goto (tgt := 7) dX10_takeWishes_178 (by decide) ?_
      refine kk _ (askU v p w.1 w.2 ((v.ki p).getD k (fun _ => 0))).2 _ ?_ (hF.trans hF')
      simp only [wishU, if_neg c1, hf]
      rw [if_pos (Or.inl e2)]
      exact hR'
    · have e2 : ¬ w.1 = 2 := c3
      refine x_aload_n dX10_takeWishes_159 rfl rfl ?_
      refine x_iload_n dX10_takeWishes_160 rfl ?_
      refine x_iconst (v := nI 5) dX10_takeWishes_161 (by decide) ?_
      refine x_iload_n dX10_takeWishes_162 rfl ?_
      refine x_callV dX10_takeWishes_163 sv_X10_104_10 rfl hR.o rfl (Nat.le_of_ble_eq_true rfl) rfl ?_
      refine r_find ⟨_, hR, hV⟩ hp (by omega) (kc_v dr_4 ?_)
      generalize hg : (v.ki p).findIdx? (fun kd => decide (kd 5 = w.2)) = o2
      cases o2 with
      | none =>
        refine x_if_ge (tgt := 178) dX10_takeWishes_166 (by decide) (fun c4 => ?_) (fun c4 => ?_)
        · exact absurd c4 (by decide)
        refine x_aload_n dX10_takeWishes_169 rfl rfl ?_
        refine x_iload_n dX10_takeWishes_170 rfl ?_
        refine x_iload_n dX10_takeWishes_171 rfl ?_
        refine x_iload_n dX10_takeWishes_172 rfl ?_
        refine x_iload dX10_takeWishes_173 rfl ?_
        refine x_callV dX10_takeWishes_175 sv_X10_107_10 rfl hR.o rfl (Nat.le_of_ble_eq_true rfl) rfl ?_
        refine r_askR ⟨_, hR, hV⟩ hp c1 hkd (fun h' hR' hF' => kc_n dr_5 ?_)
        refine x_goto (tgt := 7) dX10_takeWishes_178 (by decide) ?_
        refine kk _ (askU v p w.1 w.2 ((v.ki p).getD k (fun _ => 0))).2 _ ?_ (hF.trans hF')
        simp only [wishU, if_neg c1, hf]
        rw [if_pos (Or.inr hg)]
        exact hR'
      | some k2 =>
        have hkl2 := findIdx_lt hg
        refine x_if_ge (tgt := 178) dX10_takeWishes_166 (by decide) (fun c4 => ?_) (fun c4 => ?_)
        · refine x_goto (tgt := 7) dX10_takeWishes_178 (by decide) ?_
          refine kk _ md _ ?_ hF
          simp only [wishU, if_neg c1, hf]
          rw [if_neg (by rw [hg]; simp [e2])]
          exact ⟨_, hR, hV⟩
        · exact absurd (nI_pos' (show k2 < 2 ^ 31 by omega)) c4
theorem bI_ne {b : Bool} : bI b ≠ 0 ↔ b = true := by cases b <;> decide
theorem wishU_wi (v : Ut) (p : Nat) (w : Int32 × Int32) : (wishU v p w).wi = v.wi := by
  unfold wishU
  split
  · simp only [askU]
    split <;> rfl
  · split
    · rfl
    · split
      · simp only [askU]
        split <;> rfl
      · rfl
theorem r_take_in {p : Nat} {h0 : Hp} (hp : p < 2) : ∀ (n : Nat) (u : Ut) (md : Nat → Int32) (h : Hp) (z2 z3 z4 : Option Value), (u.wi p).length = n → RU G h m t u md → FrM m h0 h → (∀ h' md' z2 z3 z4, RU G h' m t (takeN n u p) md' → FrM m h0 h' → Jx G mX10_takeWishes (d + 3) Q 181 [some (.ref m), some (.int (nI p)), z2, z3, z4] [] h') → Jx G mX10_takeWishes (d + 3) Q 7 [some (.ref m), some (.int (nI p)), z2, z3, z4] [] h := by
  intro n
  induction n with
  | zero =>
    intro u md h z2 z3 z4 hn hRU hF kk
    obtain ⟨F, hR, hV⟩ := hRU
    refine x_aload_n dX10_takeWishes_7 rfl rfl ?_
    refine gf_X10_47_10 rfl dX10_takeWishes_8 hR.o ?_
    refine x_iload_n dX10_takeWishes_11 rfl ?_
    refine lz_M hR dX10_takeWishes_12 rfl (by decide) rfl (by first | (show _ < 2; omega) | (show _ < 16; omega) | (show _ < 32; omega) | (show _ < 8; omega) | (show _ < 272; omega) | (show _ < 1024; omega)) ?_
    refine x_if_ne (tgt := 181) dX10_takeWishes_13 (by decide) (fun c1 => ?_) (fun c1 => ?_)
    · exact kk _ _ _ _ _ ⟨F, hR, hV⟩ hF
    refine x_aload_n dX10_takeWishes_16 rfl rfl ?_
    refine gf_X10_43_10 rfl dX10_takeWishes_17 hR.o ?_
    refine x_iload_n dX10_takeWishes_20 rfl ?_
    refine lz_M hR dX10_takeWishes_21 rfl (by decide) rfl (by first | (show _ < 2; omega) | (show _ < 16; omega) | (show _ < 32; omega) | (show _ < 8; omega) | (show _ < 272; omega) | (show _ < 1024; omega)) ?_
    refine x_if_ne (tgt := 181) dX10_takeWishes_22 (by decide) (fun c2 => ?_) (fun c2 => ?_)
    · exact kk _ _ _ _ _ ⟨F, hR, hV⟩ hF
    refine x_aload_n dX10_takeWishes_25 rfl rfl ?_
    refine gf_X10_34_10 rfl dX10_takeWishes_26 hR.o ?_
    refine x_iload_n dX10_takeWishes_29 rfl ?_
    refine ld_M hR dX10_takeWishes_30 rfl (by decide) rfl (by first | (show _ < 2; omega) | (show _ < 16; omega) | (show _ < 32; omega) | (show _ < 8; omega) | (show _ < 272; omega) | (show _ < 1024; omega)) ?_
    rw [(hV.wi p hp).2.1, hn]
    refine x_if_le (tgt := 181) dX10_takeWishes_31 (by decide) (fun c3 => ?_) (fun c3 => ?_)
    · exact kk _ _ _ _ _ ⟨F, hR, hV⟩ hF
    · exact absurd (show nI 0 ≤ 0 by decide) c3
  | succ n ih =>
    intro u md h z2 z3 z4 hn hRU hF kk
    obtain ⟨F, hR, hV⟩ := hRU
    have l15 := (hV.wi p hp).1
    refine x_aload_n dX10_takeWishes_7 rfl rfl ?_
    refine gf_X10_47_10 rfl dX10_takeWishes_8 hR.o ?_
    refine x_iload_n dX10_takeWishes_11 rfl ?_
    refine lz_M hR dX10_takeWishes_12 rfl (by decide) rfl (by first | (show _ < 2; omega) | (show _ < 16; omega) | (show _ < 32; omega) | (show _ < 8; omega) | (show _ < 272; omega) | (show _ < 1024; omega)) ?_
    rw [(hV.ou p hp).1]
    refine x_if_ne (tgt := 181) dX10_takeWishes_13 (by decide) (fun c1 => ?_) (fun c1 => ?_)
    · rw [takeN, if_pos (Or.inl (bI_ne.mp c1))] at kk
      exact kk _ _ _ _ _ ⟨F, hR, hV⟩ hF
    refine x_aload_n dX10_takeWishes_16 rfl rfl ?_
    refine gf_X10_43_10 rfl dX10_takeWishes_17 hR.o ?_
    refine x_iload_n dX10_takeWishes_20 rfl ?_
    refine lz_M hR dX10_takeWishes_21 rfl (by decide) rfl (by first | (show _ < 2; omega) | (show _ < 16; omega) | (show _ < 32; omega) | (show _ < 8; omega) | (show _ < 272; omega) | (show _ < 1024; omega)) ?_
    rw [hV.de p hp]
    refine x_if_ne (tgt := 181) dX10_takeWishes_22 (by decide) (fun c2 => ?_) (fun c2 => ?_)
    · rw [takeN, if_pos (Or.inr (bI_ne.mp c2))] at kk
      exact kk _ _ _ _ _ ⟨F, hR, hV⟩ hF
    rw [takeN, if_neg (fun q => q.elim (fun q => (bI_ne.mpr q) c1) (fun q => (bI_ne.mpr q) c2))] at kk
    refine x_aload_n dX10_takeWishes_25 rfl rfl ?_
    refine gf_X10_34_10 rfl dX10_takeWishes_26 hR.o ?_
    refine x_iload_n dX10_takeWishes_29 rfl ?_
    refine ld_M hR dX10_takeWishes_30 rfl (by decide) rfl (by first | (show _ < 2; omega) | (show _ < 16; omega) | (show _ < 32; omega) | (show _ < 8; omega) | (show _ < 272; omega) | (show _ < 1024; omega)) ?_
    rw [(hV.wi p hp).2.1]
    refine x_if_le (tgt := 181) dX10_takeWishes_31 (by decide) (fun c3 => ?_) (fun c3 => ?_)
    · exact absurd ((nI_leI (a := (u.wi p).length) (b := 0) (by omega) (by omega)).mp c3) (by omega)
    obtain ⟨w, tl, hw⟩ : ∃ w tl, u.wi p = w :: tl := List.exists_cons_of_length_pos (by omega)
    have hw0 := (hV.wi p hp).2.2 0 w (by rw [hw]; rfl)
    rw [Nat.add_zero] at hw0
    have htl : tl.length = n := by rw [hw] at hn; simpa using hn
    rw [hw] at kk
    refine x_aload_n dX10_takeWishes_34 rfl rfl ?_
    refine gf_X10_37_10 rfl dX10_takeWishes_35 hR.o ?_
    refine x_bipush (v := nI 16) dX10_takeWishes_38 (by decide) ?_
    refine x_iload_n dX10_takeWishes_40 rfl ?_
    refine x_imul dX10_takeWishes_41 ?_
    try simp only [pk_mul, nI_add]
    refine ld_M hR dX10_takeWishes_42 rfl (by decide) rfl (by first | (show _ < 2; omega) | (show _ < 16; omega) | (show _ < 32; omega) | (show _ < 8; omega) | (show _ < 272; omega) | (show _ < 1024; omega)) ?_
    rw [hw0.1]
    refine y_istore_n dX10_takeWishes_43 rfl lvs_5_2 ?_
    refine x_aload_n dX10_takeWishes_44 rfl rfl ?_
    refine gf_X10_40_10 rfl dX10_takeWishes_45 hR.o ?_
    refine x_bipush (v := nI 16) dX10_takeWishes_48 (by decide) ?_
    refine x_iload_n dX10_takeWishes_50 rfl ?_
    refine x_imul dX10_takeWishes_51 ?_
    try simp only [pk_mul, nI_add]
    refine ld_M hR dX10_takeWishes_52 rfl (by decide) rfl (by first | (show _ < 2; omega) | (show _ < 16; omega) | (show _ < 32; omega) | (show _ < 8; omega) | (show _ < 272; omega) | (show _ < 1024; omega)) ?_
    rw [hw0.2]
    refine y_istore_n dX10_takeWishes_53 rfl lvs_5_3 ?_
    refine x_aload_n dX10_takeWishes_54 rfl rfl ?_
    refine gf_X10_34_10 rfl dX10_takeWishes_55 hR.o ?_
    refine x_iload_n dX10_takeWishes_58 rfl ?_
    refine x_dup2 dX10_takeWishes_59 rfl rfl ?_
    refine ld_M hR dX10_takeWishes_60 rfl (by decide) rfl (by first | (show _ < 2; omega) | (show _ < 16; omega) | (show _ < 32; omega) | (show _ < 8; omega) | (show _ < 272; omega) | (show _ < 1024; omega)) ?_
    rw [(hV.wi p hp).2.1, hw, List.length_cons]
    refine x_iconst (v := nI 1) dX10_takeWishes_61 (by decide) ?_
    refine x_isub dX10_takeWishes_62 ?_
    rw [pk_sub (show 1 ≤ tl.length + 1 by omega), Nat.add_sub_cancel]
    refine st_M hR dX10_takeWishes_63 rfl (by decide) rfl (by first | (show _ < 2; omega) | (show _ < 16; omega) | (show _ < 32; omega) | (show _ < 8; omega) | (show _ < 272; omega) | (show _ < 1024; omega)) (fun _ hR hF1 => ?_)
    replace hF := hF.trans hF1
    refine x_iconst (v := nI 0) dX10_takeWishes_64 (by decide) ?_
    refine y_istore dX10_takeWishes_65 rfl lvs_5_4 ?_
    refine r_take_shift (h0 := h0) (c := tl.length) (F0 := u2 F 9 p (nI tl.length)) hp (by omega) (u2_same _ _ _ _) (fun h' z hR' hF' => ?_) tl.length 0 _ (by omega) (hR.ext fun a b => by rw [rShift, if_neg (by omega)]) hF
    refine r_take_wish hp ⟨_, hR', hV.t_wi0 hp hw⟩ hF' (fun h2 md2 z hR2 hF2 => ?_)
    refine ih _ _ _ _ _ _ ?_ hR2 hF2 kk
    rw [wishU_wi]
    show (va_up u.wi p tl p).length = n
    rw [va_up_self]
    exact htl
theorem r_takeWishes {h : Hp} {u : Ut} {md : Nat → Int32} (hR : RU G h m t u md) (hq : ∀ h' md', RU G h' m t (takeU u) md' → FrM m h h' → Q (.returned none) h') : Cx G mX10_takeWishes (d + 3) [.ref m] h Q := by
  show Jx G mX10_takeWishes (d + 3) Q 0 [some (.ref m), none, none, none, none] [] h
  refine x_iconst (v := nI 0) dX10_takeWishes_0 (by decide) ?_
  refine y_istore_n dX10_takeWishes_1 rfl lvs_5_1 ?_
  refine x_iload_n dX10_takeWishes_2 rfl ?_
  refine x_iconst (v := nI 2) dX10_takeWishes_3 (by decide) ?_
  refine x_icmp_ge (tgt := 187) dX10_takeWishes_4 (by decide) (fun c1 => ?_) (fun c1 => ?_)
  · exact absurd c1 (by decide)
  refine r_take_in (p := 0) (h0 := h) (by omega) _ _ _ _ _ _ _ rfl hR (FrM.rf _ _) (fun h1 md1 z2 z3 z4 hR1 hF1 => ?_)
  refine y_iinc (k := nI 1) dX10_takeWishes_181 rfl (by decide) lvs_5_1 ?_
  try simp only [pk_mul, nI_add]
  refine x_goto (tgt := 2) dX10_takeWishes_184 (by decide) ?_
  refine x_iload_n dX10_takeWishes_2 rfl ?_
  refine x_iconst (v := nI 2) dX10_takeWishes_3 (by decide) ?_
  refine x_icmp_ge (tgt := 187) dX10_takeWishes_4 (by decide) (fun c2 => ?_) (fun c2 => ?_)
  · exact absurd c2 (by decide)
  refine r_take_in (p := 1) (h0 := h) (by omega) _ _ _ _ _ _ _ rfl hR1 hF1 (fun h2 md2 z2 z3 z4 hR2 hF2 => ?_)
  refine y_iinc (k := nI 1) dX10_takeWishes_181 rfl (by decide) lvs_5_1 ?_
  try simp only [pk_mul, nI_add]
  refine x_goto (tgt := 2) dX10_takeWishes_184 (by decide) ?_
  refine x_iload_n dX10_takeWishes_2 rfl ?_
  refine x_iconst (v := nI 2) dX10_takeWishes_3 (by decide) ?_
  refine x_icmp_ge (tgt := 187) dX10_takeWishes_4 (by decide) (fun c3 => ?_) (fun c3 => ?_)
  · refine x_vreturn dX10_takeWishes_187 rfl ?_
    exact hq _ _ hR2 hF2
  · exact absurd (show nI 2 ≤ nI (1 + 1) by decide) c3
end REF8X
