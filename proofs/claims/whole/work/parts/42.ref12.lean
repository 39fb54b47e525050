def pN (x : Int32) : Option Nat := if x = 0 then some 0 else if x = 1 then some 1 else none
theorem pN_some {x : Int32} (h : x = 0 ∨ x = 1) : ∃ p, p < 2 ∧ x = nI p ∧ pN x = some p := by
  rcases h with h | h
  · exact ⟨0, by omega, h, if_pos h⟩
  · subst h
    exact ⟨1, by omega, rfl, rfl⟩
theorem pN_none {x : Int32} (h : ¬ (x = 0 ∨ x = 1)) : pN x = none := by
  rw [pN, if_neg (fun q => h (Or.inl q)), if_neg (fun q => h (Or.inr q))]
theorem outU_keep (w : Ut) (p : Nat) (q : Nat → Int32) : (outU w p q).su = w.su ∧ (outU w p q).lo = w.lo ∧ (outU w p q).hi = w.hi ∧ (outU w p q).ki = w.ki ∧ (outU w p q).wi = w.wi ∧ (outU w p q).de = w.de ∧ (outU w p q).na = w.na ∧ (outU w p q).la = w.la := ⟨rfl, rfl, rfl, rfl, rfl, rfl, rfl, rfl⟩
theorem askU_1 (v : Ut) (p : Nat) (a b : Int32) (kd : Nat → Int32) : (askU v p a b kd).1 = outU (if a = 2 then nnU v p else frU (nnU v p) p) p (askU v p a b kd).2 := rfl
theorem askU_keep (v : Ut) (p : Nat) (a b : Int32) (kd : Nat → Int32) : (askU v p a b kd).1.su = v.su ∧ (askU v p a b kd).1.lo = v.lo ∧ (askU v p a b kd).1.hi = v.hi ∧ (askU v p a b kd).1.ki = v.ki ∧ (askU v p a b kd).1.wi = v.wi ∧ (askU v p a b kd).1.de = v.de ∧ (askU v p a b kd).1.na = v.na ∧ (askU v p a b kd).1.la = v.la := by
  have e : ∀ (c : Prop) [Decidable c], (if c then nnU v p else frU (nnU v p) p).su = v.su ∧ (if c then nnU v p else frU (nnU v p) p).lo = v.lo ∧ (if c then nnU v p else frU (nnU v p) p).hi = v.hi ∧ (if c then nnU v p else frU (nnU v p) p).ki = v.ki ∧ (if c then nnU v p else frU (nnU v p) p).wi = v.wi ∧ (if c then nnU v p else frU (nnU v p) p).de = v.de ∧ (if c then nnU v p else frU (nnU v p) p).na = v.na ∧ (if c then nnU v p else frU (nnU v p) p).la = v.la := by
    intro c _
    by_cases hc : c
    · rw [if_pos hc]
      exact ⟨rfl, rfl, rfl, rfl, rfl, rfl, rfl, rfl⟩
    · rw [if_neg hc]
      exact ⟨rfl, rfl, rfl, rfl, rfl, rfl, rfl, rfl⟩
  rw [askU_1]
  generalize (askU v p a b kd).2 = q
  have o := outU_keep (if a = 2 then nnU v p else frU (nnU v p) p) p q
  have e2 := e (a = 2)
  exact ⟨o.1.trans e2.1, o.2.1.trans e2.2.1, o.2.2.1.trans e2.2.2.1, o.2.2.2.1.trans e2.2.2.2.1, o.2.2.2.2.1.trans e2.2.2.2.2.1, o.2.2.2.2.2.1.trans e2.2.2.2.2.2.1, o.2.2.2.2.2.2.1.trans e2.2.2.2.2.2.2.1, o.2.2.2.2.2.2.2.trans e2.2.2.2.2.2.2.2⟩
theorem wishU_keep (v : Ut) (p : Nat) (w : Int32 × Int32) : (wishU v p w).su = v.su ∧ (wishU v p w).lo = v.lo ∧ (wishU v p w).hi = v.hi ∧ (wishU v p w).ki = v.ki ∧ (wishU v p w).wi = v.wi ∧ (wishU v p w).de = v.de ∧ (wishU v p w).na = v.na ∧ (wishU v p w).la = v.la := by
  unfold wishU
  split
  · exact askU_keep _ _ _ _ _
  · split
    · exact ⟨rfl, rfl, rfl, rfl, rfl, rfl, rfl, rfl⟩
    · split
      · exact askU_keep _ _ _ _ _
      · exact ⟨rfl, rfl, rfl, rfl, rfl, rfl, rfl, rfl⟩
theorem takeN_keep : ∀ (n : Nat) (u : Ut) (p : Nat), (takeN n u p).su = u.su ∧ (takeN n u p).lo = u.lo ∧ (takeN n u p).hi = u.hi ∧ (takeN n u p).ki = u.ki ∧ (takeN n u p).de = u.de ∧ (takeN n u p).na = u.na ∧ (takeN n u p).la = u.la
  | 0, u, p => ⟨rfl, rfl, rfl, rfl, rfl, rfl, rfl⟩
  | n + 1, u, p => by
    rw [takeN]
    split
    · exact ⟨rfl, rfl, rfl, rfl, rfl, rfl, rfl⟩
    · split
      · exact ⟨rfl, rfl, rfl, rfl, rfl, rfl, rfl⟩
      · rename_i w tl hw
        have h1 := takeN_keep n (wishU (u.w_wi p tl) p w) p
        have h2 := wishU_keep (u.w_wi p tl) p w
        exact ⟨h1.1.trans h2.1, h1.2.1.trans h2.2.1, h1.2.2.1.trans h2.2.2.1, h1.2.2.2.1.trans h2.2.2.2.1, h1.2.2.2.2.1.trans h2.2.2.2.2.2.1, h1.2.2.2.2.2.1.trans h2.2.2.2.2.2.2.1, h1.2.2.2.2.2.2.trans h2.2.2.2.2.2.2.2⟩
theorem takeU_su (u : Ut) : (takeU u).su = u.su := (takeN_keep _ _ _).1.trans (takeN_keep _ _ _).1
abbrev SP : Type := Int32 × Int32 × Ut
def sSuite (u : Ut) (x s : Int32) : SP := match pN x with
  | none => (nI 1, nI 0, u)
  | some p => if s < nI 1 ∨ nI 9 < s ∨ (u.su p).any (fun y => decide (y = s)) = true then (nI 2, nI 0, u) else if (u.su p).length = 4 then (nI 3, nI 0, u) else (nI 0, nI ((u.su p).length + 1), takeU (u.w_su p (u.su p ++ [s])))
def sRange (u : Ut) (x lo hi : Int32) : SP := match pN x with
  | none => (nI 1, nI 0, u)
  | some p => if lo < 0 ∨ hi < lo ∨ nI 1000 < hi then (nI 2, nI 0, u) else (nI 0, hi - lo + nI 1, (u.w_lo p lo).w_hi p hi)
def sSeed (u : Ut) (x s : Int32) : SP := match pN x with
  | none => (nI 1, nI 0, u)
  | some p => (nI 0, nI 0, u.w_no p s)
theorem VW.t_su1 {F : Nat → Nat → Int32} {u : Ut} {md : Nat → Int32} {p : Nat} {s : Int32} (hV : VW F u md) (hl : (u.su p).length < 4) : VW (u2 (u2 F 2 (4 * p + (u.su p).length) s) 1 p (nI ((u.su p).length + 1))) (u.w_su p (u.su p ++ [s])) md := by
  refine hV.s_su (fun j _ _ h1 h2 => ?_) ?_
  · rw [u2_rowF _ _ _ _ h1, u2_rowF _ _ _ _ h2]
  · intro q hq
    obtain ⟨h4, hc, hk⟩ := hV.su q hq
    by_cases e : q = p
    · subst e
      rw [va_up_self]
      refine ⟨by simp; omega, by rw [u2_same]; simp, fun k x hx => ?_⟩
      rw [u2_row _ _ _ _ (by decide)]
      by_cases hkl : k < (u.su q).length
      · rw [List.getElem?_append_left hkl] at hx
        rw [u2_col _ _ _ _ (by omega)]
        exact hk k x hx
      · have hkl2 := (List.getElem?_eq_some_iff.mp hx).1
        simp at hkl2
        have : k = (u.su q).length := by omega
        subst this
        simp at hx
        subst hx
        rw [u2_same]
    · rw [va_up_ne _ _ e]
      refine ⟨h4, ?_, fun k x hx => ?_⟩
      · rw [u2_col _ _ _ _ e, u2_row _ _ _ _ (by decide)]
        exact hc
      · have := (List.getElem?_eq_some_iff.mp hx).1
        rw [u2_row _ _ _ _ (by decide), u2_col _ _ _ _ (by omega)]
        exact hk k x hx
section REF12X
variable {G : GT} {d : Nat} {Q : Outcome → Hp → Prop} {m : Nat} {t : Int32} {u : Ut} {md : Nat → Int32} {h0 h : Hp} {p : Nat}
theorem r_isPeer {x : Int32} (h1 : ∀ p, p < 2 → x = nI p → pN x = some p → Q (.returned (some (.int (nI 1)))) h) (h0 : pN x = none → Q (.returned (some (.int (nI 0)))) h) : Cx G mX10_isPeer d [.int x] h Q := by
  refine m_isPeer ?_
  by_cases hx : x = 0 ∨ x = 1
  · rw [if_pos hx]
    obtain ⟨p, a, b, c⟩ := pN_some hx
    exact h1 p a b c
  · rw [if_neg hx]
    exact h0 (pN_none hx)
theorem r_seed {x s : Int32} (hR : RU G h m t u md) (hq : ∀ h', RU G h' m (sSeed u x s).1 (sSeed u x s).2.2 md → FrM m h h' → Q (.returned none) h') : Cx G mX10_seed (d + 1) [.ref m, .int x, .int s] h Q := by
  show Jx G mX10_seed (d + 1) Q 0 [some (.ref m), some (.int x), some (.int s)] [] h
  obtain ⟨F, hR, hV⟩ := hR
  have hF := FrM.rf m h
  refine x_aload_n dX10_seed_0 rfl rfl ?_
  refine x_iload_n dX10_seed_1 rfl ?_
  refine x_callS dX10_seed_2 ss_X10_87 (Nat.le_of_ble_eq_true rfl) rfl (Nat.le_of_ble_eq_true rfl) rfl ?_
  refine r_isPeer (fun p hp hx hn => kc_v dr_1 ?_) (fun hn => kc_v dr_1 ?_)
  · rw [sSeed, hn] at hq
    subst hx
    refine x_if_eq (tgt := 12) dX10_seed_5 (by decide) (fun c1 => ?_) (fun c1 => ?_)
    · exact absurd c1 (by decide)
    refine x_iconst (v := nI 0) dX10_seed_8 (by decide) ?_
    refine x_goto (tgt := 13) dX10_seed_9 (by decide) ?_
    refine pt_M hR rfl dX10_seed_13 (fun _ hR hF1 => ?_)
    replace hF := hF.trans hF1
    refine x_aload_n dX10_seed_16 rfl rfl ?_
    refine gf_X10_83_10 rfl dX10_seed_17 hR.o ?_
    refine x_if_ne (tgt := 30) dX10_seed_20 (by decide) (fun c2 => ?_) (fun c2 => ?_)
    · exact absurd rfl c2
    refine x_aload_n dX10_seed_23 rfl rfl ?_
    refine gf_X10_22_10 rfl dX10_seed_24 hR.o ?_
    refine x_iload_n dX10_seed_27 rfl ?_
    refine x_iload_n dX10_seed_28 rfl ?_
    refine st_M hR dX10_seed_29 rfl (by decide) rfl (by first | (show _ < 2; omega) | (show _ < 16; omega) | (show _ < 32; omega) | (show _ < 8; omega) | (show _ < 272; omega) | (show _ < 1024; omega)) (fun _ hR hF1 => ?_)
    replace hF := hF.trans hF1
    refine x_vreturn dX10_seed_30 rfl ?_
    exact hq _ ⟨_, hR, hV.t_no⟩ hF
  · rw [sSeed, hn] at hq
    refine x_if_eq (tgt := 12) dX10_seed_5 (by decide) (fun c1 => ?_) (fun c1 => ?_)
    · refine x_iconst (v := nI 1) dX10_seed_12 (by decide) ?_
      refine pt_M hR rfl dX10_seed_13 (fun _ hR hF1 => ?_)
      replace hF := hF.trans hF1
      refine x_aload_n dX10_seed_16 rfl rfl ?_
      refine gf_X10_83_10 rfl dX10_seed_17 hR.o ?_
      refine x_if_ne (tgt := 30) dX10_seed_20 (by decide) (fun c2 => ?_) (fun c2 => ?_)
      · refine x_vreturn dX10_seed_30 rfl ?_
        exact hq _ ⟨_, hR, hV⟩ hF
      · exact absurd c2 (by decide)
    · exact absurd rfl c1
theorem r_range_33 {k low high : Int32} {x : Int32} (hR : RU G h m t u md) (hF : FrM m h0 h) (hk : 0 < k) (hq : ∀ h', RU G h' m k u md → FrM m h0 h' → Q (.returned (some (.int (nI 0)))) h') : Jx G mX10_range (d + 1) Q 33 [some (.ref m), some (.int x), some (.int low), some (.int high)] [.int k, .ref m] h := by
  obtain ⟨F, hR, hV⟩ := hR
  refine pt_M hR rfl dX10_range_33 (fun _ hR hF1 => ?_)
  replace hF := hF.trans hF1
  refine x_aload_n dX10_range_36 rfl rfl ?_
  refine gf_X10_83_10 rfl dX10_range_37 hR.o ?_
  refine x_if_le (tgt := 45) dX10_range_40 (by decide) (fun c1 => ?_) (fun c1 => ?_)
  · exact absurd hk (Int32.not_lt.mpr c1)
  refine x_iconst (v := nI 0) dX10_range_43 (by decide) ?_
  refine x_ireturn dX10_range_44 rfl ?_
  exact hq _ ⟨_, hR, hV⟩ hF
theorem r_range {x low high : Int32} (hR : RU G h m t u md) (hq : ∀ h', RU G h' m (sRange u x low high).1 (sRange u x low high).2.2 md → FrM m h h' → Q (.returned (some (.int (sRange u x low high).2.1))) h') : Cx G mX10_range (d + 1) [.ref m, .int x, .int low, .int high] h Q := by
  show Jx G mX10_range (d + 1) Q 0 [some (.ref m), some (.int x), some (.int low), some (.int high)] [] h
  have hRU := hR
  obtain ⟨F, hR, hV⟩ := hR
  have hF := FrM.rf m h
  refine x_aload_n dX10_range_0 rfl rfl ?_
  refine x_iload_n dX10_range_1 rfl ?_
  refine x_callS dX10_range_2 ss_X10_87 (Nat.le_of_ble_eq_true rfl) rfl (Nat.le_of_ble_eq_true rfl) rfl ?_
  refine r_isPeer (fun p hp hx hn => kc_v dr_1 ?_) (fun hn => kc_v dr_1 ?_)
  · rw [sRange, hn] at hq
    subst hx
    simp only at hq
    refine x_if_ne (tgt := 12) dX10_range_5 (by decide) (fun c1 => ?_) (fun c1 => ?_)
    · refine x_iload_n dX10_range_12 rfl ?_
      refine x_if_lt (tgt := 28) dX10_range_13 (by decide) (fun c2 => ?_) (fun c2 => ?_)
      · rw [if_pos (Or.inl c2)] at hq
        refine x_iconst (v := nI 2) dX10_range_28 (by decide) ?_
        refine x_goto (tgt := 33) dX10_range_29 (by decide) ?_
        exact r_range_33 hRU hF (by decide) hq
      refine x_iload_n dX10_range_16 rfl ?_
      refine x_iload_n dX10_range_17 rfl ?_
      refine x_icmp_gt (tgt := 28) dX10_range_18 (by decide) (fun c3 => ?_) (fun c3 => ?_)
      · rw [if_pos (Or.inr (Or.inl c3))] at hq
        refine x_iconst (v := nI 2) dX10_range_28 (by decide) ?_
        refine x_goto (tgt := 33) dX10_range_29 (by decide) ?_
        exact r_range_33 hRU hF (by decide) hq
      refine x_iload_n dX10_range_21 rfl ?_
      refine x_sipush (v := nI 1000) dX10_range_22 (by decide) ?_
      refine x_icmp_le (tgt := 32) dX10_range_25 (by decide) (fun c4 => ?_) (fun c4 => ?_)
      · rw [if_neg (fun q => q.elim c2 (fun q => q.elim c3 (fun q => absurd q (Int32.not_lt.mpr c4))))] at hq
        refine x_iconst (v := nI 0) dX10_range_32 (by decide) ?_
        refine pt_M hR rfl dX10_range_33 (fun _ hR hF1 => ?_)
        replace hF := hF.trans hF1
        refine x_aload_n dX10_range_36 rfl rfl ?_
        refine gf_X10_83_10 rfl dX10_range_37 hR.o ?_
        refine x_if_le (tgt := 45) dX10_range_40 (by decide) (fun c5 => ?_) (fun c5 => ?_)
        · refine x_aload_n dX10_range_45 rfl rfl ?_
          refine gf_X10_16_10 rfl dX10_range_46 hR.o ?_
          refine x_iload_n dX10_range_49 rfl ?_
          refine x_iload_n dX10_range_50 rfl ?_
          refine st_M hR dX10_range_51 rfl (by decide) rfl (by first | (show _ < 2; omega) | (show _ < 16; omega) | (show _ < 32; omega) | (show _ < 8; omega) | (show _ < 272; omega) | (show _ < 1024; omega)) (fun _ hR hF1 => ?_)
          replace hF := hF.trans hF1
          replace hV := hV.t_lo (p := p) (x := low)
          refine x_aload_n dX10_range_52 rfl rfl ?_
          refine gf_X10_19_10 rfl dX10_range_53 hR.o ?_
          refine x_iload_n dX10_range_56 rfl ?_
          refine x_iload_n dX10_range_57 rfl ?_
          refine st_M hR dX10_range_58 rfl (by decide) rfl (by first | (show _ < 2; omega) | (show _ < 16; omega) | (show _ < 32; omega) | (show _ < 8; omega) | (show _ < 272; omega) | (show _ < 1024; omega)) (fun _ hR hF1 => ?_)
          replace hF := hF.trans hF1
          replace hV := hV.t_hi (p := p) (x := high)
          refine x_iload_n dX10_range_59 rfl ?_
          refine x_iload_n dX10_range_60 rfl ?_
          refine x_isub dX10_range_61 ?_
          refine x_iconst (v := nI 1) dX10_range_62 (by decide) ?_
          refine x_iadd dX10_range_63 ?_
          try simp only [pk_mul, nI_add]
          refine x_ireturn dX10_range_64 rfl ?_
          exact hq _ ⟨_, hR, hV⟩ hF
        · exact absurd (show nI 0 ≤ 0 by decide) c5
      · rw [if_pos (Or.inr (Or.inr (Int32.not_le.mp c4)))] at hq
        refine x_iconst (v := nI 2) dX10_range_28 (by decide) ?_
        refine x_goto (tgt := 33) dX10_range_29 (by decide) ?_
        exact r_range_33 hRU hF (by decide) hq
    · exact absurd c1 (by decide)
  · rw [sRange, hn] at hq
    refine x_if_ne (tgt := 12) dX10_range_5 (by decide) (fun c1 => ?_) (fun c1 => ?_)
    · exact absurd rfl c1
    refine x_iconst (v := nI 1) dX10_range_8 (by decide) ?_
    refine x_goto (tgt := 33) dX10_range_9 (by decide) ?_
    exact r_range_33 hRU hF (by decide) hq
theorem r_suite_107 {k s : Int32} {x : Int32} {z3 z4 : Option Value} (hR : RU G h m t u md) (hF : FrM m h0 h) (hk : 0 < k) (hq : ∀ h', RU G h' m k u md → FrM m h0 h' → Q (.returned (some (.int (nI 0)))) h') : Jx G mX10_suite (d + 4) Q 107 [some (.ref m), some (.int x), some (.int s), z3, z4] [.int k, .ref m] h := by
  obtain ⟨F, hR, hV⟩ := hR
  refine pt_M hR rfl dX10_suite_107 (fun _ hR hF1 => ?_)
  replace hF := hF.trans hF1
  refine x_aload_n dX10_suite_110 rfl rfl ?_
  refine gf_X10_83_10 rfl dX10_suite_111 hR.o ?_
  refine x_if_le (tgt := 119) dX10_suite_114 (by decide) (fun c1 => ?_) (fun c1 => ?_)
  · exact absurd hk (Int32.not_lt.mpr c1)
  refine x_iconst (v := nI 0) dX10_suite_117 (by decide) ?_
  refine x_ireturn dX10_suite_118 rfl ?_
  exact hq _ ⟨_, hR, hV⟩ hF
theorem r_suite_72 {s : Int32} {z4 : Option Value} (hp : p < 2) (hn : pN (nI p) = some p) (hR : RU G h m t u md) (hF : FrM m h0 h) (hq : ∀ h' md', RU G h' m (sSuite u (nI p) s).1 (sSuite u (nI p) s).2.2 md' → FrM m h0 h' → Q (.returned (some (.int (sSuite u (nI p) s).2.1))) h') : Jx G mX10_suite (d + 4) Q 72 [some (.ref m), some (.int (nI p)), some (.int s), some (.int (bI ((u.su p).any (fun y => decide (y = s))))), z4] [] h := by
  have hRU := hR
  obtain ⟨F, hR, hV⟩ := hR
  obtain ⟨h4, hc, hk⟩ := hV.su p hp
  rw [sSuite, hn] at hq
  simp only at hq
  refine x_aload_n dX10_suite_72 rfl rfl ?_
  refine x_iload_n dX10_suite_73 rfl ?_
  refine x_iconst (v := nI 1) dX10_suite_74 (by decide) ?_
  refine x_icmp_lt (tgt := 88) dX10_suite_75 (by decide) (fun c1 => ?_) (fun c1 => ?_)
  · rw [if_pos (Or.inl c1)] at hq
    refine x_iconst (v := nI 2) dX10_suite_88 (by decide) ?_
    refine x_goto (tgt := 107) dX10_suite_89 (by decide) ?_
    exact r_suite_107 hRU hF (by decide) (fun h' => hq h' _)
  refine x_iload_n dX10_suite_78 rfl ?_
  refine x_bipush (v := nI 9) dX10_suite_79 (by decide) ?_
  refine x_icmp_gt (tgt := 88) dX10_suite_81 (by decide) (fun c2 => ?_) (fun c2 => ?_)
  · rw [if_pos (Or.inr (Or.inl c2))] at hq
    refine x_iconst (v := nI 2) dX10_suite_88 (by decide) ?_
    refine x_goto (tgt := 107) dX10_suite_89 (by decide) ?_
    exact r_suite_107 hRU hF (by decide) (fun h' => hq h' _)
  refine x_iload_n dX10_suite_84 rfl ?_
  generalize hb : (u.su p).any (fun y => decide (y = s)) = b at hq ⊢
  cases b with
  | true =>
    rw [if_pos (Or.inr (Or.inr rfl))] at hq
    refine x_if_eq (tgt := 92) dX10_suite_85 (by decide) (fun c3 => ?_) (fun c3 => ?_)
    · exact absurd c3 (by decide)
    refine x_iconst (v := nI 2) dX10_suite_88 (by decide) ?_
    refine x_goto (tgt := 107) dX10_suite_89 (by decide) ?_
    exact r_suite_107 hRU hF (by decide) (fun h' => hq h' _)
  | false =>
    rw [if_neg (fun q => q.elim c1 (fun q => q.elim c2 (fun q => by cases q)))] at hq
    refine x_if_eq (tgt := 92) dX10_suite_85 (by decide) (fun c3 => ?_) (fun c3 => ?_)
    · refine x_aload_n dX10_suite_92 rfl rfl ?_
      refine gf_X10_7_10 rfl dX10_suite_93 hR.o ?_
      refine x_iload_n dX10_suite_96 rfl ?_
      refine ld_M hR dX10_suite_97 rfl (by decide) rfl (by first | (show _ < 2; omega) | (show _ < 16; omega) | (show _ < 32; omega) | (show _ < 8; omega) | (show _ < 272; omega) | (show _ < 1024; omega)) ?_
      rw [hc]
      refine x_iconst (v := nI 4) dX10_suite_98 (by decide) ?_
      refine x_icmp_ne (tgt := 106) dX10_suite_99 (by decide) (fun c4 => ?_) (fun c4 => ?_)
      · have e4 : ¬ (u.su p).length = 4 := fun q => c4 (by rw [q])
        rw [if_neg e4] at hq
        refine x_iconst (v := nI 0) dX10_suite_106 (by decide) ?_
        refine pt_M hR rfl dX10_suite_107 (fun _ hR hF1 => ?_)
        replace hF := hF.trans hF1
        refine x_aload_n dX10_suite_110 rfl rfl ?_
        refine gf_X10_83_10 rfl dX10_suite_111 hR.o ?_
        refine x_if_le (tgt := 119) dX10_suite_114 (by decide) (fun c5 => ?_) (fun c5 => ?_)
        · refine x_aload_n dX10_suite_119 rfl rfl ?_
          refine gf_X10_13_10 rfl dX10_suite_120 hR.o ?_
          refine x_iconst (v := nI 4) dX10_suite_123 (by decide) ?_
          refine x_iload_n dX10_suite_124 rfl ?_
          refine x_imul dX10_suite_125 ?_
          try simp only [pk_mul, nI_add]
          refine x_aload_n dX10_suite_126 rfl rfl ?_
          refine gf_X10_7_10 rfl dX10_suite_127 hR.o ?_
          refine x_iload_n dX10_suite_130 rfl ?_
          refine ld_M hR dX10_suite_131 rfl (by decide) rfl (by first | (show _ < 2; omega) | (show _ < 16; omega) | (show _ < 32; omega) | (show _ < 8; omega) | (show _ < 272; omega) | (show _ < 1024; omega)) ?_
          rw [hc]
          refine x_iadd dX10_suite_132 ?_
          try simp only [pk_mul, nI_add]
          refine x_iload_n dX10_suite_133 rfl ?_
          refine st_M hR dX10_suite_134 rfl (by decide) rfl (by first | (show _ < 2; omega) | (show _ < 16; omega) | (show _ < 32; omega) | (show _ < 8; omega) | (show _ < 272; omega) | (show _ < 1024; omega)) (fun _ hR hF1 => ?_)
          replace hF := hF.trans hF1
          refine x_aload_n dX10_suite_135 rfl rfl ?_
          refine gf_X10_7_10 rfl dX10_suite_136 hR.o ?_
          refine x_iload_n dX10_suite_139 rfl ?_
          refine x_dup2 dX10_suite_140 rfl rfl ?_
          refine ld_M hR dX10_suite_141 rfl (by decide) rfl (by first | (show _ < 2; omega) | (show _ < 16; omega) | (show _ < 32; omega) | (show _ < 8; omega) | (show _ < 272; omega) | (show _ < 1024; omega)) ?_
          rw [u2_row _ _ _ _ (by decide), hc]
          refine x_iconst (v := nI 1) dX10_suite_142 (by decide) ?_
          refine x_iadd dX10_suite_143 ?_
          try simp only [pk_mul, nI_add]
          refine st_M hR dX10_suite_144 rfl (by decide) rfl (by first | (show _ < 2; omega) | (show _ < 16; omega) | (show _ < 32; omega) | (show _ < 8; omega) | (show _ < 272; omega) | (show _ < 1024; omega)) (fun _ hR hF1 => ?_)
          replace hF := hF.trans hF1
          replace hV := hV.t_su1 (p := p) (s := s) (by omega)
          refine x_aload_n dX10_suite_145 rfl rfl ?_
          refine x_callV dX10_suite_146 sv_X10_91_10 rfl hR.o rfl (Nat.le_of_ble_eq_true rfl) rfl ?_
          refine r_takeWishes ⟨_, hR, hV⟩ (fun h' md' hR' hF' => kc_n dr_1 ?_)
          have hRU' := hR'
          obtain ⟨F, hR, hV⟩ := hR'
          refine x_aload_n dX10_suite_149 rfl rfl ?_
          refine gf_X10_7_10 rfl dX10_suite_150 hR.o ?_
          refine x_iload_n dX10_suite_153 rfl ?_
          refine ld_M hR dX10_suite_154 rfl (by decide) rfl (by first | (show _ < 2; omega) | (show _ < 16; omega) | (show _ < 32; omega) | (show _ < 8; omega) | (show _ < 272; omega) | (show _ < 1024; omega)) ?_
          rw [(hV.su p hp).2.1, takeU_su, show (u.w_su p (u.su p ++ [s])).su p = u.su p ++ [s] from va_up_self _ _ _, List.length_append]
          refine x_ireturn dX10_suite_155 rfl ?_
          exact hq _ _ hRU' (hF.trans hF')
        · exact absurd (show nI 0 ≤ 0 by decide) c5
      · have e4 : (u.su p).length = 4 := (nI_eq (by omega) (by omega)).mp c4
        rw [if_pos e4] at hq
        refine x_iconst (v := nI 3) dX10_suite_102 (by decide) ?_
        refine x_goto (tgt := 107) dX10_suite_103 (by decide) ?_
        exact r_suite_107 hRU hF (by decide) (fun h' => hq h' _)
    · exact absurd rfl c3
theorem r_suite_loop {s : Int32} (hp : p < 2) (hn : pN (nI p) = some p) (hR : RU G h m t u md) (hF : FrM m h0 h) (hq : ∀ h' md', RU G h' m (sSuite u (nI p) s).1 (sSuite u (nI p) s).2.2 md' → FrM m h0 h' → Q (.returned (some (.int (sSuite u (nI p) s).2.1))) h') : ∀ (q k : Nat) (b : Bool), k + q = (u.su p).length → (b || ((u.su p).drop k).any (fun y => decide (y = s))) = (u.su p).any (fun y => decide (y = s)) → Jx G mX10_suite (d + 4) Q 30 [some (.ref m), some (.int (nI p)), some (.int s), some (.int (bI b)), some (.int (nI k))] [] h := by
  have hRU := hR
  obtain ⟨F, hR, hV⟩ := hR
  obtain ⟨h4, hc, hs⟩ := hV.su p hp
  intro q
  induction q with
  | zero =>
    intro k b hk hb
    refine x_iload dX10_suite_30 rfl ?_
    refine x_aload_n dX10_suite_32 rfl rfl ?_
    refine gf_X10_7_10 rfl dX10_suite_33 hR.o ?_
    refine x_iload_n dX10_suite_36 rfl ?_
    refine ld_M hR dX10_suite_37 rfl (by decide) rfl (by first | (show _ < 2; omega) | (show _ < 16; omega) | (show _ < 32; omega) | (show _ < 8; omega) | (show _ < 272; omega) | (show _ < 1024; omega)) ?_
    rw [hc]
    refine x_icmp_ge (tgt := 72) dX10_suite_38 (by decide) (fun c1 => ?_) (fun c1 => ?_)
    · rw [List.drop_eq_nil_of_le (by omega), List.any_nil, Bool.or_false] at hb
      subst hb
      exact r_suite_72 hp hn hRU hF hq
    · exact absurd (nI_le (by omega) (by omega)) c1
  | succ q ih =>
    intro k b hk hb
    have hkl : k < (u.su p).length := by omega
    have ek := hs k _ (List.getElem?_eq_getElem hkl)
    rw [List.drop_eq_getElem_cons hkl, List.any_cons] at hb
    refine x_iload dX10_suite_30 rfl ?_
    refine x_aload_n dX10_suite_32 rfl rfl ?_
    refine gf_X10_7_10 rfl dX10_suite_33 hR.o ?_
    refine x_iload_n dX10_suite_36 rfl ?_
    refine ld_M hR dX10_suite_37 rfl (by decide) rfl (by first | (show _ < 2; omega) | (show _ < 16; omega) | (show _ < 32; omega) | (show _ < 8; omega) | (show _ < 272; omega) | (show _ < 1024; omega)) ?_
    rw [hc]
    refine x_icmp_ge (tgt := 72) dX10_suite_38 (by decide) (fun c1 => ?_) (fun c1 => ?_)
    · exact absurd ((nI_leI (by omega) (by omega)).mp c1) (by omega)
    refine x_iload_n dX10_suite_41 rfl ?_
    refine x_if_ne (tgt := 60) dX10_suite_42 (by decide) (fun c2 => ?_) (fun c2 => ?_)
    · refine x_iconst (v := nI 1) dX10_suite_60 (by decide) ?_
      refine x_goto (tgt := 65) dX10_suite_61 (by decide) ?_
      refine y_istore_n dX10_suite_65 rfl lvs_5_3 ?_
      refine y_iinc (k := nI 1) dX10_suite_66 rfl (by decide) lvs_5_4 ?_
      try simp only [pk_mul, nI_add]
      refine x_goto (tgt := 30) dX10_suite_69 (by decide) ?_
      have := bI_ne.mp c2
      subst this
      exact ih (k + 1) true (by omega) (by rw [← hb, Bool.true_or, Bool.true_or])
    have hbf : b = false := by
      cases b
      · rfl
      · exact absurd c2 (by decide)
    subst hbf
    rw [Bool.false_or] at hb
    refine x_aload_n dX10_suite_45 rfl rfl ?_
    refine gf_X10_13_10 rfl dX10_suite_46 hR.o ?_
    refine x_iconst (v := nI 4) dX10_suite_49 (by decide) ?_
    refine x_iload_n dX10_suite_50 rfl ?_
    refine x_imul dX10_suite_51 ?_
    try simp only [pk_mul, nI_add]
    refine x_iload dX10_suite_52 rfl ?_
    refine x_iadd dX10_suite_54 ?_
    try simp only [pk_mul, nI_add]
    refine ld_M hR dX10_suite_55 rfl (by decide) rfl (by first | (show _ < 2; omega) | (show _ < 16; omega) | (show _ < 32; omega) | (show _ < 8; omega) | (show _ < 272; omega) | (show _ < 1024; omega)) ?_
    refine x_iload_n dX10_suite_56 rfl ?_
    rw [ek]
    refine x_icmp_ne (tgt := 64) dX10_suite_57 (by decide) (fun c3 => ?_) (fun c3 => ?_)
    · refine x_iconst (v := nI 0) dX10_suite_64 (by decide) ?_
      refine y_istore_n dX10_suite_65 rfl lvs_5_3 ?_
      refine y_iinc (k := nI 1) dX10_suite_66 rfl (by decide) lvs_5_4 ?_
      try simp only [pk_mul, nI_add]
      refine x_goto (tgt := 30) dX10_suite_69 (by decide) ?_
      refine ih (k + 1) false (by omega) ?_
      rw [← hb, Bool.false_or, decide_eq_false c3, Bool.false_or]
    · refine x_iconst (v := nI 1) dX10_suite_60 (by decide) ?_
      refine x_goto (tgt := 65) dX10_suite_61 (by decide) ?_
      refine y_istore_n dX10_suite_65 rfl lvs_5_3 ?_
      refine y_iinc (k := nI 1) dX10_suite_66 rfl (by decide) lvs_5_4 ?_
      try simp only [pk_mul, nI_add]
      refine x_goto (tgt := 30) dX10_suite_69 (by decide) ?_
      refine ih (k + 1) true (by omega) ?_
      rw [← hb, decide_eq_true (show (u.su p)[k] = s from c3), Bool.true_or]
theorem r_suite {x s : Int32} (hR : RU G h m t u md) (hq : ∀ h' md', RU G h' m (sSuite u x s).1 (sSuite u x s).2.2 md' → FrM m h h' → Q (.returned (some (.int (sSuite u x s).2.1))) h') : Cx G mX10_suite (d + 4) [.ref m, .int x, .int s] h Q := by
  show Jx G mX10_suite (d + 4) Q 0 [some (.ref m), some (.int x), some (.int s), none, none] [] h
  obtain ⟨F, hR, hV⟩ := hR
  have hF := FrM.rf m h
  refine x_aload_n dX10_suite_0 rfl rfl ?_
  refine x_iload_n dX10_suite_1 rfl ?_
  refine x_callS dX10_suite_2 ss_X10_87 (Nat.le_of_ble_eq_true rfl) rfl (Nat.le_of_ble_eq_true rfl) rfl ?_
  refine r_isPeer (fun p hp hx hn => kc_v dr_1 ?_) (fun hn => kc_v dr_1 ?_)
  · subst hx
    refine x_if_eq (tgt := 12) dX10_suite_5 (by decide) (fun c1 => ?_) (fun c1 => ?_)
    · exact absurd c1 (by decide)
    refine x_iconst (v := nI 0) dX10_suite_8 (by decide) ?_
    refine x_goto (tgt := 13) dX10_suite_9 (by decide) ?_
    refine pt_M hR rfl dX10_suite_13 (fun _ hR hF1 => ?_)
    replace hF := hF.trans hF1
    refine x_aload_n dX10_suite_16 rfl rfl ?_
    refine gf_X10_83_10 rfl dX10_suite_17 hR.o ?_
    refine x_if_le (tgt := 25) dX10_suite_20 (by decide) (fun c2 => ?_) (fun c2 => ?_)
    · refine x_iconst (v := nI 0) dX10_suite_25 (by decide) ?_
      refine y_istore_n dX10_suite_26 rfl lvs_5_3 ?_
      refine x_iconst (v := nI 0) dX10_suite_27 (by decide) ?_
      refine y_istore dX10_suite_28 rfl lvs_5_4 ?_
      exact r_suite_loop hp hn ⟨_, hR, hV⟩ hF hq (u.su p).length 0 false (by omega) (by simp)
    · exact absurd (show nI 0 ≤ 0 by decide) c2
  · rw [sSuite, hn] at hq
    refine x_if_eq (tgt := 12) dX10_suite_5 (by decide) (fun c1 => ?_) (fun c1 => ?_)
    · refine x_iconst (v := nI 1) dX10_suite_12 (by decide) ?_
      refine pt_M hR rfl dX10_suite_13 (fun _ hR hF1 => ?_)
      replace hF := hF.trans hF1
      refine x_aload_n dX10_suite_16 rfl rfl ?_
      refine gf_X10_83_10 rfl dX10_suite_17 hR.o ?_
      refine x_if_le (tgt := 25) dX10_suite_20 (by decide) (fun c2 => ?_) (fun c2 => ?_)
      · exact absurd c2 (by decide)
      refine x_iconst (v := nI 0) dX10_suite_23 (by decide) ?_
      refine x_ireturn dX10_suite_24 rfl ?_
      exact hq _ _ ⟨_, hR, hV⟩ hF
    · exact absurd rfl c1
end REF12X
