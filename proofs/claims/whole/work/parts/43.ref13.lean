def ixN (k : Int32) (n : Nat) : Option Nat := if k < 0 then none else if nI n ≤ k then none else some k.toNatClampNeg
theorem ixN_some {k : Int32} {n : Nat} (hn : n < 2 ^ 31) (h0 : ¬ k < 0) (h1 : ¬ nI n ≤ k) : ∃ j, j < n ∧ k = nI j ∧ ixN k n = some j := by
  obtain ⟨j, hj, e⟩ := nI_of h0
  refine ⟨j, ?_, e, ?_⟩
  · subst e
    by_cases hjn : j < n
    · exact hjn
    · exact absurd (nI_le (by omega) hj) h1
  · rw [ixN, if_neg h0, if_neg h1, e, nI_clamp hj]
theorem ixN_neg {k : Int32} {n : Nat} (h : k < 0) : ixN k n = none := if_pos h
theorem ixN_big {k : Int32} {n : Nat} (h0 : ¬ k < 0) (h : nI n ≤ k) : ixN k n = none := by rw [ixN, if_neg h0, if_pos h]
def wishS (u : Ut) (p : Nat) (kind mark : Int32) : SP := if u.de p = true then (nI 3, nI 0, u) else if (u.wi p).length = 10 then (nI 4, nI 0, u) else (nI 0, nI ((u.wi p).length + 1), takeU (u.w_wi p (u.wi p ++ [(kind, mark)])))
def sWish (u : Ut) (x kind k : Int32) : SP := match pN x with
  | none => (nI 1, nI 0, u)
  | some p => if kind = nI 1 ∨ kind = nI 2 then (match ixN k (u.ki p).length with
      | none => (nI 1, nI 0, u)
      | some j => wishS u p kind ((u.ki p).getD j (fun _ => 0) 0))
    else if kind = 0 then wishS u p kind (nI 0) else (nI 2, nI 0, u)
def offOf (pk : Nat → Int32) : List Int32 := (List.range (pk 10).toNatClampNeg).map (fun j => pk (11 + j))
def okPk (pk : Nat → Int32) : Prop := pk 0 = nI 1 → pk 2 = 0 → ∃ n, n ≤ 4 ∧ pk 10 = nI n
def gotU (u v : Ut) (p : Nat) (pk : Nat → Int32) : Ut × Int32 := if u.de p = true then (v, nI 0) else if pk 0 = nI 1 then reqU v p pk (offOf pk) else ansU v p pk
def sDeliver (u : Ut) (x k : Int32) : SP := match pN x with
  | none => (nI 1, nI 0, u)
  | some p => match ixN k (u.fl p).length with
    | none => (nI 1, nI 0, u)
    | some j => (nI 0, (gotU u (u.w_fl p ((u.fl p).eraseIdx j)) p ((u.fl p).getD j (fun _ => 0))).2, takeU (gotU u (u.w_fl p ((u.fl p).eraseIdx j)) p ((u.fl p).getD j (fun _ => 0))).1)
def sLose (u : Ut) (x k : Int32) : SP := match pN x with
  | none => (nI 1, nI 0, u)
  | some p => match ixN k (u.fl p).length with
    | none => (nI 1, nI 0, u)
    | some j => (nI 0, nI ((u.fl p).eraseIdx j).length, u.w_fl p ((u.fl p).eraseIdx j))
def sTwice (u : Ut) (x k : Int32) : SP := match pN x with
  | none => (nI 1, nI 0, u)
  | some p => match ixN k (u.fl p).length with
    | none => (nI 1, nI 0, u)
    | some j => (nI 0, nI (flyL (u.fl p) ((u.fl p).getD j (fun _ => 0))).length, u.w_fl p (flyL (u.fl p) ((u.fl p).getD j (fun _ => 0))))
def sTick (u : Ut) (many : Int32) : SP := if many < 0 ∨ nI 1000 < many then (nI 1, nI 0, u) else (nI 0, (tickN many.toNatClampNeg u (nI 0)).2, takeU (tickN many.toNatClampNeg u (nI 0)).1)
def sChildren (u : Ut) (x : Int32) : SP := match pN x with
  | none => (nI 1, nI 0, u)
  | some p => (nI 0, nI (u.ki p).length, u)
def sFlying (u : Ut) (x : Int32) : SP := match pN x with
  | none => (nI 1, nI 0, u)
  | some p => (nI 0, nI (u.fl p).length, u)
section REF13X
variable {G : GT} {d : Nat} {Q : Outcome → Hp → Prop} {m : Nat} {t : Int32} {u : Ut} {md : Nat → Int32} {h0 h : Hp} {p : Nat}
theorem r_isPacket {x k : Int32} (hR : RU G h m t u md) (h1 : ∀ p j, p < 2 → x = nI p → pN x = some p → j < (u.fl p).length → k = nI j → ixN k (u.fl p).length = some j → Q (.returned (some (.int (nI 1)))) h) (h0 : pN x = none → Q (.returned (some (.int (nI 0)))) h) (h2 : ∀ p, pN x = some p → ixN k (u.fl p).length = none → Q (.returned (some (.int (nI 0)))) h) : Cx G mX10_isPacket (d + 1) [.ref m, .int x, .int k] h Q := by
  show Jx G mX10_isPacket (d + 1) Q 0 [some (.ref m), some (.int x), some (.int k)] [] h
  obtain ⟨F, hR, hV⟩ := hR
  refine x_iload_n dX10_isPacket_0 rfl ?_
  refine x_callS dX10_isPacket_1 ss_X10_87 (Nat.le_of_ble_eq_true rfl) rfl (Nat.le_of_ble_eq_true rfl) rfl ?_
  refine r_isPeer (fun p hp hx hn => kc_v dr_1 ?_) (fun hn => kc_v dr_1 ?_)
  · have hl := (hV.fl p hp).1
    subst hx
    refine x_if_eq (tgt := 25) dX10_isPacket_4 (by decide) (fun c1 => ?_) (fun c1 => ?_)
    · exact absurd c1 (by decide)
    refine x_iload_n dX10_isPacket_7 rfl ?_
    refine x_if_lt (tgt := 25) dX10_isPacket_8 (by decide) (fun c2 => ?_) (fun c2 => ?_)
    · refine x_iconst (v := nI 0) dX10_isPacket_25 (by decide) ?_
      refine x_zreturn dX10_isPacket_26 rfl (by first | rfl | assumption) ?_
      exact h2 p hn (ixN_neg c2)
    refine x_iload_n dX10_isPacket_11 rfl ?_
    refine x_aload_n dX10_isPacket_12 rfl rfl ?_
    refine gf_X10_71_10 rfl dX10_isPacket_13 hR.o ?_
    refine x_iload_n dX10_isPacket_16 rfl ?_
    refine ld_M hR dX10_isPacket_17 rfl (by decide) rfl (by first | (show _ < 2; omega) | (show _ < 16; omega) | (show _ < 32; omega) | (show _ < 8; omega) | (show _ < 272; omega) | (show _ < 1024; omega)) ?_
    rw [(hV.fl p hp).2.1]
    refine x_icmp_ge (tgt := 25) dX10_isPacket_18 (by decide) (fun c3 => ?_) (fun c3 => ?_)
    · refine x_iconst (v := nI 0) dX10_isPacket_25 (by decide) ?_
      refine x_zreturn dX10_isPacket_26 rfl (by first | rfl | assumption) ?_
      exact h2 p hn (ixN_big c2 c3)
    · obtain ⟨j, hj, ek, ej⟩ := ixN_some (by omega) c2 c3
      refine x_iconst (v := nI 1) dX10_isPacket_21 (by decide) ?_
      refine x_goto (tgt := 26) dX10_isPacket_22 (by decide) ?_
      refine x_zreturn dX10_isPacket_26 rfl (by first | rfl | assumption) ?_
      exact h1 p j hp rfl hn hj ek ej
  · refine x_if_eq (tgt := 25) dX10_isPacket_4 (by decide) (fun c1 => ?_) (fun c1 => ?_)
    · refine x_iconst (v := nI 0) dX10_isPacket_25 (by decide) ?_
      refine x_zreturn dX10_isPacket_26 rfl (by first | rfl | assumption) ?_
      exact h0 hn
    · exact absurd rfl c1
theorem r_lose {x k : Int32} (hR : RU G h m t u md) (hq : ∀ h' md', RU G h' m (sLose u x k).1 (sLose u x k).2.2 md' → FrM m h h' → Q (.returned (some (.int (sLose u x k).2.1))) h') : Cx G mX10_lose (d + 2) [.ref m, .int x, .int k] h Q := by
  show Jx G mX10_lose (d + 2) Q 0 [some (.ref m), some (.int x), some (.int k)] [] h
  have no : ∀ h, RU G h m t u md → (∀ h' md', RU G h' m (nI 1) u md' → FrM m h h' → Q (.returned (some (.int (nI 0)))) h') → Jx G mX10_lose (d + 2) Q 7 [some (.ref m), some (.int x), some (.int k)] [.int (nI 0), .ref m] h := by
    intro h hR hq
    obtain ⟨F, hR, hV⟩ := hR
    have hF := FrM.rf m h
    refine x_if_eq (tgt := 14) dX10_lose_7 (by decide) (fun c1 => ?_) (fun c1 => ?_)
    · refine x_iconst (v := nI 1) dX10_lose_14 (by decide) ?_
      refine pt_M hR rfl dX10_lose_15 (fun _ hR hF1 => ?_)
      replace hF := hF.trans hF1
      refine x_aload_n dX10_lose_18 rfl rfl ?_
      refine gf_X10_83_10 rfl dX10_lose_19 hR.o ?_
      refine x_if_le (tgt := 27) dX10_lose_22 (by decide) (fun c2 => ?_) (fun c2 => ?_)
      · exact absurd c2 (by decide)
      refine x_iconst (v := nI 0) dX10_lose_25 (by decide) ?_
      refine x_ireturn dX10_lose_26 rfl ?_
      exact hq _ _ ⟨_, hR, hV⟩ hF
    · exact absurd rfl c1
  have hRU := hR
  obtain ⟨F, hR, hV⟩ := hR
  have hF := FrM.rf m h
  refine x_aload_n dX10_lose_0 rfl rfl ?_
  refine x_aload_n dX10_lose_1 rfl rfl ?_
  refine x_iload_n dX10_lose_2 rfl ?_
  refine x_iload_n dX10_lose_3 rfl ?_
  refine x_callV dX10_lose_4 sv_X10_129_10 rfl hR.o rfl (Nat.le_of_ble_eq_true rfl) rfl ?_
  refine r_isPacket hRU (fun p j hp hx hn hj hk he => kc_v dr_3 ?_) (fun hn => kc_v dr_3 ?_) (fun p hn he => kc_v dr_3 ?_)
  · simp only [sLose, hn, he] at hq
    subst hx hk
    refine x_if_eq (tgt := 14) dX10_lose_7 (by decide) (fun c1 => ?_) (fun c1 => ?_)
    · exact absurd c1 (by decide)
    refine x_iconst (v := nI 0) dX10_lose_10 (by decide) ?_
    refine x_goto (tgt := 15) dX10_lose_11 (by decide) ?_
    refine pt_M hR rfl dX10_lose_15 (fun _ hR hF1 => ?_)
    replace hF := hF.trans hF1
    refine x_aload_n dX10_lose_18 rfl rfl ?_
    refine gf_X10_83_10 rfl dX10_lose_19 hR.o ?_
    refine x_if_le (tgt := 27) dX10_lose_22 (by decide) (fun c2 => ?_) (fun c2 => ?_)
    · refine x_aload_n dX10_lose_27 rfl rfl ?_
      refine x_iload_n dX10_lose_28 rfl ?_
      refine x_iload_n dX10_lose_29 rfl ?_
      refine x_callV dX10_lose_30 sv_X10_133_10 rfl hR.o rfl (Nat.le_of_ble_eq_true rfl) rfl ?_
      refine r_land ⟨_, hR, hV⟩ hp (getD_at (z := fun _ => 0) hj) (fun h1 hRU hF1 => kc_n dr_3 ?_)
      have hRU' := hRU
      obtain ⟨F, hR, hV⟩ := hRU
      refine x_aload_n dX10_lose_33 rfl rfl ?_
      refine gf_X10_71_10 rfl dX10_lose_34 hR.o ?_
      refine x_iload_n dX10_lose_37 rfl ?_
      refine ld_M hR dX10_lose_38 rfl (by decide) rfl (by first | (show _ < 2; omega) | (show _ < 16; omega) | (show _ < 32; omega) | (show _ < 8; omega) | (show _ < 272; omega) | (show _ < 1024; omega)) ?_
      rw [(hV.fl p hp).2.1, show (u.w_fl p ((u.fl p).eraseIdx j)).fl p = (u.fl p).eraseIdx j from va_up_self _ _ _]
      refine x_ireturn dX10_lose_39 rfl ?_
      exact hq _ _ hRU' (hF.trans hF1)
    · exact absurd (show nI 0 ≤ 0 by decide) c2
  · simp only [sLose, hn] at hq
    exact no _ hRU hq
  · simp only [sLose, hn, he] at hq
    exact no _ hRU hq
theorem r_twice_loop {F0 : Nat → Nat → Int32} {j : Nat} (hp : p < 2) (hV : VW F0 u md) (hj : j < (u.fl p).length) (hq : ∀ h' md', RU G h' m t (u.w_fl p (flyL (u.fl p) ((u.fl p).getD j (fun _ => 0)))) md' → FrM m h0 h' → Q (.returned (some (.int (nI (flyL (u.fl p) ((u.fl p).getD j (fun _ => 0))).length)))) h') : ∀ (q i : Nat) (h : Hp), i + q = 16 → RM G h m t (rGet F0 22 (32 * p + j) i) → FrM m h0 h → Jx G mX10_twice (d + 2) Q 29 [some (.ref m), some (.int (nI p)), some (.int (nI j)), some (.int (nI i))] [] h := by
  have h30 := (hV.fl p hp).1
  intro q
  induction q with
  | zero =>
    intro i h hi hR hF
    have hi16 : i = 16 := by omega
    subst hi16
    refine x_iload_n dX10_twice_29 rfl ?_
    refine x_bipush (v := nI 16) dX10_twice_30 (by decide) ?_
    refine x_icmp_ge (tgt := 60) dX10_twice_32 (by decide) (fun c1 => ?_) (fun c1 => ?_)
    · refine x_aload_n dX10_twice_60 rfl rfl ?_
      refine x_iload_n dX10_twice_61 rfl ?_
      refine x_callV dX10_twice_62 sv_X10_121_10 rfl hR.o rfl (Nat.le_of_ble_eq_true rfl) rfl ?_
      refine r_fly ⟨_, hR, hV.t_get (fun w hw => (hV.fl p hp).2.2 j _ (getD_at (z := fun _ => 0) hj) w hw)⟩ hp (fun h' hRU hF1 => kc_n dr_2 ?_)
      have hRU' := hRU
      obtain ⟨F, hR, hV⟩ := hRU
      refine x_aload_n dX10_twice_65 rfl rfl ?_
      refine gf_X10_71_10 rfl dX10_twice_66 hR.o ?_
      refine x_iload_n dX10_twice_69 rfl ?_
      refine ld_M hR dX10_twice_70 rfl (by decide) rfl (by first | (show _ < 2; omega) | (show _ < 16; omega) | (show _ < 32; omega) | (show _ < 8; omega) | (show _ < 272; omega) | (show _ < 1024; omega)) ?_
      rw [(hV.fl p hp).2.1, show (u.w_fl p (flyL (u.fl p) ((u.fl p).getD j (fun _ => 0)))).fl p = flyL (u.fl p) ((u.fl p).getD j (fun _ => 0)) from va_up_self _ _ _]
      refine x_ireturn dX10_twice_71 rfl ?_
      exact hq _ _ hRU' (hF.trans hF1)
    · exact absurd (nI_le (by omega) (by omega)) c1
  | succ q ih =>
    intro i h hi hR hF
    refine x_iload_n dX10_twice_29 rfl ?_
    refine x_bipush (v := nI 16) dX10_twice_30 (by decide) ?_
    refine x_icmp_ge (tgt := 60) dX10_twice_32 (by decide) (fun c1 => ?_) (fun c1 => ?_)
    · exact absurd ((nI_leI (by omega) (by omega)).mp c1) (by omega)
    refine x_aload_n dX10_twice_35 rfl rfl ?_
    refine gf_X10_77_10 rfl dX10_twice_36 hR.o ?_
    refine x_iload_n dX10_twice_39 rfl ?_
    refine x_aload_n dX10_twice_40 rfl rfl ?_
    refine gf_X10_74_10 rfl dX10_twice_41 hR.o ?_
    refine x_aload_n dX10_twice_44 rfl rfl ?_
    refine x_iload_n dX10_twice_45 rfl ?_
    refine x_iload_n dX10_twice_46 rfl ?_
    refine x_callV dX10_twice_47 sv_X10_125_10 rfl hR.o rfl (Nat.le_of_ble_eq_true rfl) rfl ?_
    refine m_place (kc_v dr_3 ?_)
    refine x_iload_n dX10_twice_50 rfl ?_
    refine x_iadd dX10_twice_51 ?_
    try simp only [pk_mul, nI_add]
    refine ld_M hR dX10_twice_52 rfl (by decide) rfl (by first | (show _ < 2; omega) | (show _ < 16; omega) | (show _ < 32; omega) | (show _ < 8; omega) | (show _ < 272; omega) | (show _ < 1024; omega)) ?_
    refine st_M hR dX10_twice_53 rfl (by decide) rfl (by first | (show _ < 2; omega) | (show _ < 16; omega) | (show _ < 32; omega) | (show _ < 8; omega) | (show _ < 272; omega) | (show _ < 1024; omega)) (fun _ hR hF1 => ?_)
    replace hF := hF.trans hF1
    refine y_iinc (k := nI 1) dX10_twice_54 rfl (by decide) lvs_4_3 ?_
    try simp only [pk_mul, nI_add]
    refine x_goto (tgt := 29) dX10_twice_57 (by decide) ?_
    refine ih (i + 1) _ (by omega) (hR.ext fun a b => ?_) hF
    rw [u2_at]
    simp only [rGet]
    by_cases h23 : a = 23
    · subst h23
      by_cases hb : b = i
      · subst hb
        rw [if_pos ⟨rfl, rfl⟩, if_neg (by omega), if_pos ⟨rfl, by omega⟩]
      · rw [if_neg (fun q => hb q.2)]
        by_cases hb2 : b < i
        · rw [if_pos ⟨rfl, hb2⟩, if_pos ⟨rfl, by omega⟩]
        · rw [if_neg (by omega), if_neg (by omega)]
    · rw [if_neg (fun q => h23 q.1), if_neg (fun q => h23 q.1), if_neg (fun q => h23 q.1)]
theorem r_twice {x k : Int32} (hR : RU G h m t u md) (hq : ∀ h' md', RU G h' m (sTwice u x k).1 (sTwice u x k).2.2 md' → FrM m h h' → Q (.returned (some (.int (sTwice u x k).2.1))) h') : Cx G mX10_twice (d + 2) [.ref m, .int x, .int k] h Q := by
  show Jx G mX10_twice (d + 2) Q 0 [some (.ref m), some (.int x), some (.int k), none] [] h
  have no : ∀ h, RU G h m t u md → (∀ h' md', RU G h' m (nI 1) u md' → FrM m h h' → Q (.returned (some (.int (nI 0)))) h') → Jx G mX10_twice (d + 2) Q 7 [some (.ref m), some (.int x), some (.int k), none] [.int (nI 0), .ref m] h := by
    intro h hR hq
    obtain ⟨F, hR, hV⟩ := hR
    have hF := FrM.rf m h
    refine x_if_eq (tgt := 14) dX10_twice_7 (by decide) (fun c1 => ?_) (fun c1 => ?_)
    · refine x_iconst (v := nI 1) dX10_twice_14 (by decide) ?_
      refine pt_M hR rfl dX10_twice_15 (fun _ hR hF1 => ?_)
      replace hF := hF.trans hF1
      refine x_aload_n dX10_twice_18 rfl rfl ?_
      refine gf_X10_83_10 rfl dX10_twice_19 hR.o ?_
      refine x_if_le (tgt := 27) dX10_twice_22 (by decide) (fun c2 => ?_) (fun c2 => ?_)
      · exact absurd c2 (by decide)
      refine x_iconst (v := nI 0) dX10_twice_25 (by decide) ?_
      refine x_ireturn dX10_twice_26 rfl ?_
      exact hq _ _ ⟨_, hR, hV⟩ hF
    · exact absurd rfl c1
  have hRU := hR
  obtain ⟨F, hR, hV⟩ := hR
  have hF := FrM.rf m h
  refine x_aload_n dX10_twice_0 rfl rfl ?_
  refine x_aload_n dX10_twice_1 rfl rfl ?_
  refine x_iload_n dX10_twice_2 rfl ?_
  refine x_iload_n dX10_twice_3 rfl ?_
  refine x_callV dX10_twice_4 sv_X10_129_10 rfl hR.o rfl (Nat.le_of_ble_eq_true rfl) rfl ?_
  refine r_isPacket hRU (fun p j hp hx hn hj hk he => kc_v dr_3 ?_) (fun hn => kc_v dr_3 ?_) (fun p hn he => kc_v dr_3 ?_)
  · simp only [sTwice, hn, he] at hq
    subst hx hk
    refine x_if_eq (tgt := 14) dX10_twice_7 (by decide) (fun c1 => ?_) (fun c1 => ?_)
    · exact absurd c1 (by decide)
    refine x_iconst (v := nI 0) dX10_twice_10 (by decide) ?_
    refine x_goto (tgt := 15) dX10_twice_11 (by decide) ?_
    refine pt_M hR rfl dX10_twice_15 (fun _ hR hF1 => ?_)
    replace hF := hF.trans hF1
    refine x_aload_n dX10_twice_18 rfl rfl ?_
    refine gf_X10_83_10 rfl dX10_twice_19 hR.o ?_
    refine x_if_le (tgt := 27) dX10_twice_22 (by decide) (fun c2 => ?_) (fun c2 => ?_)
    · refine x_iconst (v := nI 0) dX10_twice_27 (by decide) ?_
      refine y_istore_n dX10_twice_28 rfl lvs_4_3 ?_
      exact r_twice_loop hp hV hj hq 16 0 _ (by omega) (hR.ext fun a b => by rw [rGet, if_neg (by omega)]) hF
    · exact absurd (show nI 0 ≤ 0 by decide) c2
  · simp only [sTwice, hn] at hq
    exact no _ hRU hq
  · simp only [sTwice, hn, he] at hq
    exact no _ hRU hq
theorem offOf_ok {pk : Nat → Int32} (h1 : okPk pk) (h2 : pk 0 = nI 1) : pk 2 = 0 → (offOf pk).length ≤ 4 ∧ pk 10 = nI (offOf pk).length ∧ ∀ k x, (offOf pk)[k]? = some x → pk (11 + k) = x := by
  intro h3
  obtain ⟨n, hn, e⟩ := h1 h2 h3
  have : (pk 10).toNatClampNeg = n := by rw [e, nI_clamp (by omega)]
  simp only [offOf, this, List.length_map, List.length_range]
  refine ⟨hn, e, fun k x hx => ?_⟩
  rw [List.getElem?_map] at hx
  by_cases hk : k < n
  · rw [List.getElem?_range hk] at hx
    simpa using hx
  · rw [List.getElem?_eq_none (by simpa using hk)] at hx
    cases hx
theorem r_deliver {x k : Int32} (hR : RU G h m t u md) (hok : ∀ p, p < 2 → ∀ pk ∈ u.fl p, okPk pk) (hw : ∀ p, p < 2 → (u.wi p).length < 15) (hq : ∀ h' md', RU G h' m (sDeliver u x k).1 (sDeliver u x k).2.2 md' → FrM m h h' → Q (.returned (some (.int (sDeliver u x k).2.1))) h') : Cx G mX10_deliver (d + 4) [.ref m, .int x, .int k] h Q := by
  show Jx G mX10_deliver (d + 4) Q 0 [some (.ref m), some (.int x), some (.int k), none] [] h
  have no : ∀ h, RU G h m t u md → (∀ h' md', RU G h' m (nI 1) u md' → FrM m h h' → Q (.returned (some (.int (nI 0)))) h') → Jx G mX10_deliver (d + 4) Q 7 [some (.ref m), some (.int x), some (.int k), none] [.int (nI 0), .ref m] h := by
    intro h hR hq
    obtain ⟨F, hR, hV⟩ := hR
    have hF := FrM.rf m h
    refine x_if_eq (tgt := 14) dX10_deliver_7 (by decide) (fun c1 => ?_) (fun c1 => ?_)
    · refine x_iconst (v := nI 1) dX10_deliver_14 (by decide) ?_
      refine pt_M hR rfl dX10_deliver_15 (fun _ hR hF1 => ?_)
      replace hF := hF.trans hF1
      refine x_aload_n dX10_deliver_18 rfl rfl ?_
      refine gf_X10_83_10 rfl dX10_deliver_19 hR.o ?_
      refine x_if_le (tgt := 27) dX10_deliver_22 (by decide) (fun c2 => ?_) (fun c2 => ?_)
      · exact absurd c2 (by decide)
      refine x_iconst (v := nI 0) dX10_deliver_25 (by decide) ?_
      refine x_ireturn dX10_deliver_26 rfl ?_
      exact hq _ _ ⟨_, hR, hV⟩ hF
    · exact absurd rfl c1
  have hRU := hR
  obtain ⟨F, hR, hV⟩ := hR
  have hF := FrM.rf m h
  refine x_aload_n dX10_deliver_0 rfl rfl ?_
  refine x_aload_n dX10_deliver_1 rfl rfl ?_
  refine x_iload_n dX10_deliver_2 rfl ?_
  refine x_iload_n dX10_deliver_3 rfl ?_
  refine x_callV dX10_deliver_4 sv_X10_129_10 rfl hR.o rfl (Nat.le_of_ble_eq_true rfl) rfl ?_
  refine r_isPacket hRU (fun p j hp hx hn hj hk he => kc_v dr_3 ?_) (fun hn => kc_v dr_3 ?_) (fun p hn he => kc_v dr_3 ?_)
  · simp only [sDeliver, hn, he] at hq
    subst hx hk
    have hpk : (u.fl p)[j]? = some ((u.fl p).getD j (fun _ => 0)) := getD_at hj
    have hO := hok p hp _ (List.mem_of_getElem? hpk)
    generalize (u.fl p).getD j (fun _ => 0) = pk at hpk hO hq
    refine x_if_eq (tgt := 14) dX10_deliver_7 (by decide) (fun c1 => ?_) (fun c1 => ?_)
    · exact absurd c1 (by decide)
    refine x_iconst (v := nI 0) dX10_deliver_10 (by decide) ?_
    refine x_goto (tgt := 15) dX10_deliver_11 (by decide) ?_
    refine pt_M hR rfl dX10_deliver_15 (fun _ hR hF1 => ?_)
    replace hF := hF.trans hF1
    refine x_aload_n dX10_deliver_18 rfl rfl ?_
    refine gf_X10_83_10 rfl dX10_deliver_19 hR.o ?_
    refine x_if_le (tgt := 27) dX10_deliver_22 (by decide) (fun c2 => ?_) (fun c2 => ?_)
    · refine x_aload_n dX10_deliver_27 rfl rfl ?_
      refine x_iload_n dX10_deliver_28 rfl ?_
      refine x_iload_n dX10_deliver_29 rfl ?_
      refine x_callV dX10_deliver_30 sv_X10_133_10 rfl hR.o rfl (Nat.le_of_ble_eq_true rfl) rfl ?_
      refine r_land ⟨_, hR, hV⟩ hp hpk (fun h1 hRU hF1 => kc_n dr_3 ?_)
      replace hF := hF.trans hF1
      have tail : ∀ h2 md2 (r : Ut × Int32), r = gotU u (u.w_fl p ((u.fl p).eraseIdx j)) p pk → RU G h2 m (nI 0) r.1 md2 → FrM m h h2 → Jx G mX10_deliver (d + 4) Q 68 [some (.ref m), some (.int (nI p)), some (.int (nI j)), some (.int r.2)] [] h2 := by
        intro h2 md2 r hr hRU hF
        subst hr
        have hRU' := hRU
        obtain ⟨F, hR, hV⟩ := hRU
        refine x_aload_n dX10_deliver_68 rfl rfl ?_
        refine x_callV dX10_deliver_69 sv_X10_91_10 rfl hR.o rfl (Nat.le_of_ble_eq_true rfl) rfl ?_
        refine r_takeWishes hRU' (fun h' md' hR' hF' => kc_n dr_1 ?_)
        refine x_iload_n dX10_deliver_72 rfl ?_
        refine x_ireturn dX10_deliver_73 rfl ?_
        exact hq _ _ hR' (hF.trans hF')
      have hRU' := hRU
      obtain ⟨F, hR, hV⟩ := hRU
      refine x_iconst (v := nI 0) dX10_deliver_33 (by decide) ?_
      refine y_istore_n dX10_deliver_34 rfl lvs_4_3 ?_
      refine x_aload_n dX10_deliver_35 rfl rfl ?_
      refine gf_X10_43_10 rfl dX10_deliver_36 hR.o ?_
      refine x_iload_n dX10_deliver_39 rfl ?_
      refine lz_M hR dX10_deliver_40 rfl (by decide) rfl (by first | (show _ < 2; omega) | (show _ < 16; omega) | (show _ < 32; omega) | (show _ < 8; omega) | (show _ < 272; omega) | (show _ < 1024; omega)) ?_
      rw [hV.de p hp]
      refine x_if_ne (tgt := 68) dX10_deliver_41 (by decide) (fun c3 => ?_) (fun c3 => ?_)
      · refine tail _ _ (u.w_fl p ((u.fl p).eraseIdx j), nI 0) ?_ hRU' hF
        rw [gotU, if_pos (show u.de p = true from bI_ne.mp c3)]
      have hde : ¬ u.de p = true := fun q => (bI_ne.mpr q) c3
      refine x_aload_n dX10_deliver_44 rfl rfl ?_
      refine gf_X10_77_10 rfl dX10_deliver_45 hR.o ?_
      refine x_iconst (v := nI 0) dX10_deliver_48 (by decide) ?_
      refine ld_M hR dX10_deliver_49 rfl (by decide) rfl (by first | (show _ < 2; omega) | (show _ < 16; omega) | (show _ < 32; omega) | (show _ < 8; omega) | (show _ < 272; omega) | (show _ < 1024; omega)) ?_
      rw [hV.md 0 (by omega)]
      refine x_iconst (v := nI 1) dX10_deliver_50 (by decide) ?_
      refine x_icmp_ne (tgt := 62) dX10_deliver_51 (by decide) (fun c4 => ?_) (fun c4 => ?_)
      · refine x_aload_n dX10_deliver_62 rfl rfl ?_
        refine x_iload_n dX10_deliver_63 rfl ?_
        refine x_callV dX10_deliver_64 sv_X10_140_10 rfl hR.o rfl (Nat.le_of_ble_eq_true rfl) rfl ?_
        refine r_answer hp hRU' (hw p hp) (fun h2 hRU hF1 => kc_v dr_2 ?_)
        refine y_istore_n dX10_deliver_67 rfl lvs_4_3 ?_
        refine tail _ _ _ ?_ hRU (hF.trans hF1)
        rw [gotU, if_neg hde, if_neg c4]
      · refine x_aload_n dX10_deliver_54 rfl rfl ?_
        refine x_iload_n dX10_deliver_55 rfl ?_
        refine x_callV dX10_deliver_56 sv_X10_137_10 rfl hR.o rfl (Nat.le_of_ble_eq_true rfl) rfl ?_
        refine r_request (off := offOf pk) hp hRU' (offOf_ok hO c4) (fun h2 md2 hRU hF1 => kc_v dr_2 ?_)
        refine x_goto (tgt := 67) dX10_deliver_59 (by decide) ?_
        refine y_istore_n dX10_deliver_67 rfl lvs_4_3 ?_
        refine tail _ _ _ ?_ hRU (hF.trans hF1)
        rw [gotU, if_neg hde, if_pos c4]
    · exact absurd (show nI 0 ≤ 0 by decide) c2
  · simp only [sDeliver, hn] at hq
    exact no _ hRU hq
  · simp only [sDeliver, hn, he] at hq
    exact no _ hRU hq
theorem r_tick {many : Int32} (hR : RU G h m t u md) (hq : ∀ h' md', RU G h' m (sTick u many).1 (sTick u many).2.2 md' → FrM m h h' → Q (.returned (some (.int (sTick u many).2.1))) h') : Cx G mX10_tick (d + 4) [.ref m, .int many] h Q := by
  show Jx G mX10_tick (d + 4) Q 0 [some (.ref m), some (.int many), none, none, none] [] h
  have hRU := hR
  obtain ⟨F, hR, hV⟩ := hR
  have hF := FrM.rf m h
  have no : ∀ h, RU G h m t u md → (∀ h' md', RU G h' m (nI 1) u md' → FrM m h h' → Q (.returned (some (.int (nI 0)))) h') → Jx G mX10_tick (d + 4) Q 12 [some (.ref m), some (.int many), none, none, none] [.ref m] h := by
    intro h hR hq
    obtain ⟨F, hR, hV⟩ := hR
    have hF := FrM.rf m h
    refine x_iconst (v := nI 1) dX10_tick_12 (by decide) ?_
    refine x_goto (tgt := 17) dX10_tick_13 (by decide) ?_
    refine pt_M hR rfl dX10_tick_17 (fun _ hR hF1 => ?_)
    replace hF := hF.trans hF1
    refine x_aload_n dX10_tick_20 rfl rfl ?_
    refine gf_X10_83_10 rfl dX10_tick_21 hR.o ?_
    refine x_if_le (tgt := 29) dX10_tick_24 (by decide) (fun c2 => ?_) (fun c2 => ?_)
    · exact absurd c2 (by decide)
    refine x_iconst (v := nI 0) dX10_tick_27 (by decide) ?_
    refine x_ireturn dX10_tick_28 rfl ?_
    exact hq _ _ ⟨_, hR, hV⟩ hF
  refine x_aload_n dX10_tick_0 rfl rfl ?_
  refine x_iload_n dX10_tick_1 rfl ?_
  refine x_if_lt (tgt := 12) dX10_tick_2 (by decide) (fun c1 => ?_) (fun c1 => ?_)
  · rw [sTick, if_pos (Or.inl c1)] at hq
    exact no _ hRU hq
  refine x_iload_n dX10_tick_5 rfl ?_
  refine x_sipush (v := nI 1000) dX10_tick_6 (by decide) ?_
  refine x_icmp_le (tgt := 16) dX10_tick_9 (by decide) (fun c2 => ?_) (fun c2 => ?_)
  · rw [sTick, if_neg (fun q => q.elim c1 (fun q => absurd q (Int32.not_lt.mpr c2)))] at hq
    obtain ⟨k, hk, e⟩ := nI_of2 (n := 1000) (M := nI 1000) (by decide) c1 c2
    subst e
    rw [nI_clamp (by omega)] at hq
    refine x_iconst (v := nI 0) dX10_tick_16 (by decide) ?_
    refine pt_M hR rfl dX10_tick_17 (fun _ hR hF1 => ?_)
    replace hF := hF.trans hF1
    refine x_aload_n dX10_tick_20 rfl rfl ?_
    refine gf_X10_83_10 rfl dX10_tick_21 hR.o ?_
    refine x_if_le (tgt := 29) dX10_tick_24 (by decide) (fun c3 => ?_) (fun c3 => ?_)
    · refine x_iconst (v := nI 0) dX10_tick_29 (by decide) ?_
      refine y_istore_n dX10_tick_30 rfl lvs_5_2 ?_
      refine x_iconst (v := nI 0) dX10_tick_31 (by decide) ?_
      refine y_istore_n dX10_tick_32 rfl lvs_5_3 ?_
      exact r_tick_loop hk hq k 0 (nI 0) _ _ _ _ (by omega) ⟨_, hR, hV⟩ hF rfl
    · exact absurd (show nI 0 ≤ 0 by decide) c3
  · rw [sTick, if_pos (Or.inr (Int32.not_le.mp c2))] at hq
    exact no _ hRU hq
theorem r_children {x : Int32} (hR : RU G h m t u md) (hq : ∀ h' md', RU G h' m (sChildren u x).1 (sChildren u x).2.2 md' → FrM m h h' → Q (.returned (some (.int (sChildren u x).2.1))) h') : Cx G mX10_children (d + 1) [.ref m, .int x] h Q := by
  show Jx G mX10_children (d + 1) Q 0 [some (.ref m), some (.int x)] [] h
  obtain ⟨F, hR, hV⟩ := hR
  have hF := FrM.rf m h
  refine x_aload_n dX10_children_0 rfl rfl ?_
  refine x_iload_n dX10_children_1 rfl ?_
  refine x_callS dX10_children_2 ss_X10_87 (Nat.le_of_ble_eq_true rfl) rfl (Nat.le_of_ble_eq_true rfl) rfl ?_
  refine r_isPeer (fun p hp hx hn => kc_v dr_1 ?_) (fun hn => kc_v dr_1 ?_)
  · simp only [sChildren, hn] at hq
    subst hx
    refine x_if_eq (tgt := 12) dX10_children_5 (by decide) (fun c1 => ?_) (fun c1 => ?_)
    · exact absurd c1 (by decide)
    refine x_iconst (v := nI 0) dX10_children_8 (by decide) ?_
    refine x_goto (tgt := 13) dX10_children_9 (by decide) ?_
    refine pt_M hR rfl dX10_children_13 (fun _ hR hF1 => ?_)
    replace hF := hF.trans hF1
    refine x_aload_n dX10_children_16 rfl rfl ?_
    refine gf_X10_83_10 rfl dX10_children_17 hR.o ?_
    refine x_if_le (tgt := 27) dX10_children_20 (by decide) (fun c2 => ?_) (fun c2 => ?_)
    · refine x_aload_n dX10_children_27 rfl rfl ?_
      refine gf_X10_28_10 rfl dX10_children_28 hR.o ?_
      refine x_iload_n dX10_children_31 rfl ?_
      refine ld_M hR dX10_children_32 rfl (by decide) rfl (by first | (show _ < 2; omega) | (show _ < 16; omega) | (show _ < 32; omega) | (show _ < 8; omega) | (show _ < 272; omega) | (show _ < 1024; omega)) ?_
      rw [(hV.ki p hp).2.1]
      refine x_ireturn dX10_children_33 rfl ?_
      exact hq _ _ ⟨_, hR, hV⟩ hF
    · exact absurd (show nI 0 ≤ 0 by decide) c2
  · simp only [sChildren, hn] at hq
    refine x_if_eq (tgt := 12) dX10_children_5 (by decide) (fun c1 => ?_) (fun c1 => ?_)
    · refine x_iconst (v := nI 1) dX10_children_12 (by decide) ?_
      refine pt_M hR rfl dX10_children_13 (fun _ hR hF1 => ?_)
      replace hF := hF.trans hF1
      refine x_aload_n dX10_children_16 rfl rfl ?_
      refine gf_X10_83_10 rfl dX10_children_17 hR.o ?_
      refine x_if_le (tgt := 27) dX10_children_20 (by decide) (fun c2 => ?_) (fun c2 => ?_)
      · exact absurd c2 (by decide)
      refine x_iconst (v := nI 0) dX10_children_23 (by decide) ?_
      refine x_goto (tgt := 33) dX10_children_24 (by decide) ?_
      refine x_ireturn dX10_children_33 rfl ?_
      exact hq _ _ ⟨_, hR, hV⟩ hF
    · exact absurd rfl c1
theorem r_flying {x : Int32} (hR : RU G h m t u md) (hq : ∀ h' md', RU G h' m (sFlying u x).1 (sFlying u x).2.2 md' → FrM m h h' → Q (.returned (some (.int (sFlying u x).2.1))) h') : Cx G mX10_flying (d + 1) [.ref m, .int x] h Q := by
  show Jx G mX10_flying (d + 1) Q 0 [some (.ref m), some (.int x)] [] h
  obtain ⟨F, hR, hV⟩ := hR
  have hF := FrM.rf m h
  refine x_aload_n dX10_flying_0 rfl rfl ?_
  refine x_iload_n dX10_flying_1 rfl ?_
  refine x_callS dX10_flying_2 ss_X10_87 (Nat.le_of_ble_eq_true rfl) rfl (Nat.le_of_ble_eq_true rfl) rfl ?_
  refine r_isPeer (fun p hp hx hn => kc_v dr_1 ?_) (fun hn => kc_v dr_1 ?_)
  · simp only [sFlying, hn] at hq
    subst hx
    refine x_if_eq (tgt := 12) dX10_flying_5 (by decide) (fun c1 => ?_) (fun c1 => ?_)
    · exact absurd c1 (by decide)
    refine x_iconst (v := nI 0) dX10_flying_8 (by decide) ?_
    refine x_goto (tgt := 13) dX10_flying_9 (by decide) ?_
    refine pt_M hR rfl dX10_flying_13 (fun _ hR hF1 => ?_)
    replace hF := hF.trans hF1
    refine x_aload_n dX10_flying_16 rfl rfl ?_
    refine gf_X10_83_10 rfl dX10_flying_17 hR.o ?_
    refine x_if_le (tgt := 27) dX10_flying_20 (by decide) (fun c2 => ?_) (fun c2 => ?_)
    · refine x_aload_n dX10_flying_27 rfl rfl ?_
      refine gf_X10_71_10 rfl dX10_flying_28 hR.o ?_
      refine x_iload_n dX10_flying_31 rfl ?_
      refine ld_M hR dX10_flying_32 rfl (by decide) rfl (by first | (show _ < 2; omega) | (show _ < 16; omega) | (show _ < 32; omega) | (show _ < 8; omega) | (show _ < 272; omega) | (show _ < 1024; omega)) ?_
      rw [(hV.fl p hp).2.1]
      refine x_ireturn dX10_flying_33 rfl ?_
      exact hq _ _ ⟨_, hR, hV⟩ hF
    · exact absurd (show nI 0 ≤ 0 by decide) c2
  · simp only [sFlying, hn] at hq
    refine x_if_eq (tgt := 12) dX10_flying_5 (by decide) (fun c1 => ?_) (fun c1 => ?_)
    · refine x_iconst (v := nI 1) dX10_flying_12 (by decide) ?_
      refine pt_M hR rfl dX10_flying_13 (fun _ hR hF1 => ?_)
      replace hF := hF.trans hF1
      refine x_aload_n dX10_flying_16 rfl rfl ?_
      refine gf_X10_83_10 rfl dX10_flying_17 hR.o ?_
      refine x_if_le (tgt := 27) dX10_flying_20 (by decide) (fun c2 => ?_) (fun c2 => ?_)
      · exact absurd c2 (by decide)
      refine x_iconst (v := nI 0) dX10_flying_23 (by decide) ?_
      refine x_goto (tgt := 33) dX10_flying_24 (by decide) ?_
      refine x_ireturn dX10_flying_33 rfl ?_
      exact hq _ _ ⟨_, hR, hV⟩ hF
    · exact absurd rfl c1
end REF13X
