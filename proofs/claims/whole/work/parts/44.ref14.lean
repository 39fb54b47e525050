def sChild (u : Ut) (x k w : Int32) : SP := match pN x with
  | none => (nI 1, nI 0, u)
  | some p => match ixN k (u.ki p).length with
    | none => (nI 1, nI 0, u)
    | some j => if w < 0 ∨ nI 7 < w then (nI 2, nI 0, u) else (nI 0, (u.ki p).getD j (fun _ => 0) w.toNatClampNeg, u)
def sPacket (u : Ut) (x k w : Int32) : SP := match pN x with
  | none => (nI 1, nI 0, u)
  | some p => match ixN k (u.fl p).length with
    | none => (nI 1, nI 0, u)
    | some j => if w < 0 ∨ nI 6 < w then (nI 2, nI 0, u) else (nI 0, (u.fl p).getD j (fun _ => 0) w.toNatClampNeg, u)
def ouV (o : Option (Nat → Int32)) (j : Nat) : Int32 := match o with
  | none => -1
  | some pk => pk j
def toldV (u : Ut) (p : Nat) : Nat → Int32
  | 0 => ouV (u.ou p) 1
  | 1 => ouV (u.ou p) 2
  | 2 => if (u.ou p).isSome then u.se p else nI 0
  | 3 => if (u.ou p).isSome then u.wt p else nI 0
  | 4 => nI (u.wi p).length
  | 5 => bI (u.de p)
  | 6 => nI (u.nn p)
  | _ => nI (u.na p)
def sTold (u : Ut) (x w : Int32) : SP := match pN x with
  | none => (nI 1, nI 0, u)
  | some p => if w < 0 ∨ nI 7 < w then (nI 2, nI 0, u) else (nI 0, toldV u p w.toNatClampNeg, u)
section REF14X
variable {G : GT} {d : Nat} {Q : Outcome → Hp → Prop} {m : Nat} {t : Int32} {u : Ut} {md : Nat → Int32} {h0 h : Hp} {p : Nat}
theorem r_wish_94 {c x kind k : Int32} {z4 : Option Value} (hR : RU G h m t u md) (hF : FrM m h0 h) (hk : 0 < c) (hq : ∀ h' md', RU G h' m c u md' → FrM m h0 h' → Q (.returned (some (.int (nI 0)))) h') : Jx G mX10_wish (d + 4) Q 94 [some (.ref m), some (.int x), some (.int kind), some (.int k), z4, none] [.int c, .ref m] h := by
  obtain ⟨F, hR, hV⟩ := hR
  refine pt_M hR rfl dX10_wish_94 (fun _ hR hF1 => ?_)
  replace hF := hF.trans hF1
  refine x_aload_n dX10_wish_97 rfl rfl ?_
  refine gf_X10_83_10 rfl dX10_wish_98 hR.o ?_
  refine x_if_le (tgt := 106) dX10_wish_101 (by decide) (fun c1 => ?_) (fun c1 => ?_)
  · exact absurd hk (Int32.not_lt.mpr c1)
  refine x_iconst (v := nI 0) dX10_wish_104 (by decide) ?_
  refine x_ireturn dX10_wish_105 rfl ?_
  exact hq _ _ ⟨_, hR, hV⟩ hF
theorem r_wish_125 {kind mark k : Int32} {z4 : Option Value} (hp : p < 2) (hR : RU G h m t u md) (hF : FrM m h0 h) (hw : (u.wi p).length < 15) (hq : ∀ h' md', RU G h' m t (takeU (u.w_wi p (u.wi p ++ [(kind, mark)]))) md' → FrM m h0 h' → Q (.returned (some (.int (nI ((u.wi p).length + 1))))) h') : Jx G mX10_wish (d + 4) Q 125 [some (.ref m), some (.int (nI p)), some (.int kind), some (.int k), z4, none] [.int mark, .int kind, .int (nI p), .ref m] h := by
  have hRU := hR
  obtain ⟨F, hR, hV⟩ := hR
  refine x_callV dX10_wish_125 sv_X10_100_10 rfl hR.o rfl (Nat.le_of_ble_eq_true rfl) rfl ?_
  refine r_addWish hRU hp hw (fun h1 hRU hF1 => kc_n dr_4 ?_)
  replace hF := hF.trans hF1
  have hRU' := hRU
  obtain ⟨F, hR, hV⟩ := hRU
  refine x_aload_n dX10_wish_128 rfl rfl ?_
  refine gf_X10_34_10 rfl dX10_wish_129 hR.o ?_
  refine x_iload_n dX10_wish_132 rfl ?_
  refine ld_M hR dX10_wish_133 rfl (by decide) rfl (by first | (show _ < 2; omega) | (show _ < 16; omega) | (show _ < 32; omega) | (show _ < 8; omega) | (show _ < 272; omega) | (show _ < 1024; omega)) ?_
  rw [(hV.wi p hp).2.1, show (u.w_wi p (u.wi p ++ [(kind, mark)])).wi p = u.wi p ++ [(kind, mark)] from va_up_self _ _ _, List.length_append]
  refine y_istore dX10_wish_134 rfl lvs_6_5 ?_
  refine x_aload_n dX10_wish_136 rfl rfl ?_
  refine x_callV dX10_wish_137 sv_X10_91_10 rfl hR.o rfl (Nat.le_of_ble_eq_true rfl) rfl ?_
  refine r_takeWishes hRU' (fun h' md' hR' hF' => kc_n dr_1 ?_)
  refine x_iload dX10_wish_140 rfl ?_
  refine x_ireturn dX10_wish_142 rfl ?_
  exact hq _ _ hR' (hF.trans hF')
theorem r_wish_65 {b : Bool} {kind mark k : Int32} (hp : p < 2) (hR : RU G h m t u md) (hF : FrM m h0 h) (hw : (u.wi p).length ≤ 10) (hb1 : b = true → ∃ j kd, k = nI j ∧ (u.ki p)[j]? = some kd ∧ mark = kd 0) (hb0 : b = false → mark = nI 0) (hq : ∀ h' md', RU G h' m (wishS u p kind mark).1 (wishS u p kind mark).2.2 md' → FrM m h0 h' → Q (.returned (some (.int (wishS u p kind mark).2.1))) h') : Jx G mX10_wish (d + 4) Q 65 [some (.ref m), some (.int (nI p)), some (.int kind), some (.int k), some (.int (bI b)), none] [.ref m] h := by
  have hRU := hR
  obtain ⟨F, hR, hV⟩ := hR
  refine x_aload_n dX10_wish_65 rfl rfl ?_
  refine gf_X10_43_10 rfl dX10_wish_66 hR.o ?_
  refine x_iload_n dX10_wish_69 rfl ?_
  refine lz_M hR dX10_wish_70 rfl (by decide) rfl (by first | (show _ < 2; omega) | (show _ < 16; omega) | (show _ < 32; omega) | (show _ < 8; omega) | (show _ < 272; omega) | (show _ < 1024; omega)) ?_
  rw [hV.de p hp]
  refine x_if_eq (tgt := 78) dX10_wish_71 (by decide) (fun c1 => ?_) (fun c1 => ?_)
  · have hde : ¬ u.de p = true := fun q => (bI_ne.mpr q) c1
    rw [wishS, if_neg hde] at hq
    refine x_aload_n dX10_wish_78 rfl rfl ?_
    refine gf_X10_34_10 rfl dX10_wish_79 hR.o ?_
    refine x_iload_n dX10_wish_82 rfl ?_
    refine ld_M hR dX10_wish_83 rfl (by decide) rfl (by first | (show _ < 2; omega) | (show _ < 16; omega) | (show _ < 32; omega) | (show _ < 8; omega) | (show _ < 272; omega) | (show _ < 1024; omega)) ?_
    rw [(hV.wi p hp).2.1]
    refine x_bipush (v := nI 10) dX10_wish_84 (by decide) ?_
    refine x_icmp_ne (tgt := 93) dX10_wish_86 (by decide) (fun c2 => ?_) (fun c2 => ?_)
    · have e10 : ¬ (u.wi p).length = 10 := fun q => c2 (by rw [q])
      rw [if_neg e10] at hq
      refine x_iconst (v := nI 0) dX10_wish_93 (by decide) ?_
      refine pt_M hR rfl dX10_wish_94 (fun _ hR hF1 => ?_)
      replace hF := hF.trans hF1
      refine x_aload_n dX10_wish_97 rfl rfl ?_
      refine gf_X10_83_10 rfl dX10_wish_98 hR.o ?_
      refine x_if_le (tgt := 106) dX10_wish_101 (by decide) (fun c3 => ?_) (fun c3 => ?_)
      · refine x_aload_n dX10_wish_106 rfl rfl ?_
        refine x_iload_n dX10_wish_107 rfl ?_
        refine x_iload_n dX10_wish_108 rfl ?_
        refine x_iload dX10_wish_109 rfl ?_
        cases b with
        | true =>
          obtain ⟨j, kd, e1, e2, e3⟩ := hb1 rfl
          subst e1 e3
          refine x_if_eq (tgt := 124) dX10_wish_111 (by decide) (fun c4 => ?_) (fun c4 => ?_)
          · exact absurd c4 (by decide)
          refine x_aload_n dX10_wish_114 rfl rfl ?_
          refine x_iload_n dX10_wish_115 rfl ?_
          refine x_iload_n dX10_wish_116 rfl ?_
          refine x_iconst (v := nI 0) dX10_wish_117 (by decide) ?_
          refine x_callV dX10_wish_118 sv_X10_96_10 rfl hR.o rfl (Nat.le_of_ble_eq_true rfl) rfl ?_
          refine r_kid ⟨_, hR, hV⟩ hp e2 (by omega) (kc_v dr_4 ?_)
          refine x_goto (tgt := 125) dX10_wish_121 (by decide) ?_
          exact r_wish_125 hp ⟨_, hR, hV⟩ hF (by omega) hq
        | false =>
          have e3 := hb0 rfl
          subst e3
          refine x_if_eq (tgt := 124) dX10_wish_111 (by decide) (fun c4 => ?_) (fun c4 => ?_)
          · refine x_iconst (v := nI 0) dX10_wish_124 (by decide) ?_
            exact r_wish_125 hp ⟨_, hR, hV⟩ hF (by omega) hq
          · exact absurd rfl c4
      · exact absurd (show nI 0 ≤ 0 by decide) c3
    · have e10 : (u.wi p).length = 10 := (nI_eq (by omega) (by omega)).mp c2
      rw [if_pos e10] at hq
      refine x_iconst (v := nI 4) dX10_wish_89 (by decide) ?_
      refine x_goto (tgt := 94) dX10_wish_90 (by decide) ?_
      exact r_wish_94 hRU hF (by decide) hq
  · rw [wishS, if_pos (bI_ne.mp c1)] at hq
    refine x_iconst (v := nI 3) dX10_wish_74 (by decide) ?_
    refine x_goto (tgt := 94) dX10_wish_75 (by decide) ?_
    exact r_wish_94 hRU hF (by decide) hq
theorem r_wish_17 {b : Bool} {x kind k : Int32} (hb : b = true ↔ (kind = nI 1 ∨ kind = nI 2)) (hR : RU G h m t u md) (hw : ∀ p, p < 2 → (u.wi p).length ≤ 10) (hq : ∀ h' md', RU G h' m (sWish u x kind k).1 (sWish u x kind k).2.2 md' → FrM m h h' → Q (.returned (some (.int (sWish u x kind k).2.1))) h') : Jx G mX10_wish (d + 4) Q 17 [some (.ref m), some (.int x), some (.int kind), some (.int k), some (.int (bI b)), none] [] h := by
  have hRU := hR
  obtain ⟨F, hR, hV⟩ := hR
  have hF := FrM.rf m h
  refine x_aload_n dX10_wish_17 rfl rfl ?_
  refine x_iload_n dX10_wish_18 rfl ?_
  refine x_callS dX10_wish_19 ss_X10_87 (Nat.le_of_ble_eq_true rfl) rfl (Nat.le_of_ble_eq_true rfl) rfl ?_
  refine r_isPeer (fun p hp hx hn => kc_v dr_1 ?_) (fun hn => kc_v dr_1 ?_)
  · simp only [sWish, hn] at hq
    subst hx
    have hl := (hV.ki p hp).1
    refine x_if_ne (tgt := 29) dX10_wish_22 (by decide) (fun c1 => ?_) (fun c1 => ?_)
    · refine x_iload dX10_wish_29 rfl ?_
      cases b with
      | true =>
        have hof := hb.mp rfl
        rw [if_pos hof] at hq
        have hk0 : kind ≠ 0 := by rcases hof with e | e <;> rw [e] <;> decide
        refine x_if_eq (tgt := 52) dX10_wish_31 (by decide) (fun c2 => ?_) (fun c2 => ?_)
        · exact absurd c2 (by decide)
        refine x_iload_n dX10_wish_34 rfl ?_
        refine x_if_lt (tgt := 48) dX10_wish_35 (by decide) (fun c3 => ?_) (fun c3 => ?_)
        · rw [ixN_neg c3] at hq
          refine x_iconst (v := nI 1) dX10_wish_48 (by decide) ?_
          refine x_goto (tgt := 94) dX10_wish_49 (by decide) ?_
          exact r_wish_94 hRU hF (by decide) hq
        refine x_iload_n dX10_wish_38 rfl ?_
        refine x_aload_n dX10_wish_39 rfl rfl ?_
        refine gf_X10_28_10 rfl dX10_wish_40 hR.o ?_
        refine x_iload_n dX10_wish_43 rfl ?_
        refine ld_M hR dX10_wish_44 rfl (by decide) rfl (by first | (show _ < 2; omega) | (show _ < 16; omega) | (show _ < 32; omega) | (show _ < 8; omega) | (show _ < 272; omega) | (show _ < 1024; omega)) ?_
        rw [(hV.ki p hp).2.1]
        refine x_icmp_lt (tgt := 52) dX10_wish_45 (by decide) (fun c4 => ?_) (fun c4 => ?_)
        · obtain ⟨j, hj, ek, ej⟩ := ixN_some (n := (u.ki p).length) (by omega) c3 (Int32.not_le.mpr c4)
          simp only [ej] at hq
          subst ek
          refine x_iload_n dX10_wish_52 rfl ?_
          refine x_if_eq (tgt := 65) dX10_wish_53 (by decide) (fun c5 => ?_) (fun c5 => ?_)
          · exact absurd c5 hk0
          refine x_iload dX10_wish_56 rfl ?_
          refine x_if_ne (tgt := 65) dX10_wish_58 (by decide) (fun c6 => ?_) (fun c6 => ?_)
          · exact r_wish_65 (b := true) hp hRU hF (hw p hp) (fun _ => ⟨j, _, rfl, getD_at hj, rfl⟩) (fun q => by cases q) hq
          · exact absurd c6 (by decide)
        · rw [ixN_big c3 (Int32.not_lt.mp c4)] at hq
          refine x_iconst (v := nI 1) dX10_wish_48 (by decide) ?_
          refine x_goto (tgt := 94) dX10_wish_49 (by decide) ?_
          exact r_wish_94 hRU hF (by decide) hq
      | false =>
        have hof : ¬ (kind = nI 1 ∨ kind = nI 2) := fun q => by have := hb.mpr q; cases this
        rw [if_neg hof] at hq
        refine x_if_eq (tgt := 52) dX10_wish_31 (by decide) (fun c2 => ?_) (fun c2 => ?_)
        · refine x_iload_n dX10_wish_52 rfl ?_
          refine x_if_eq (tgt := 65) dX10_wish_53 (by decide) (fun c5 => ?_) (fun c5 => ?_)
          · rw [if_pos c5] at hq
            exact r_wish_65 (b := false) hp hRU hF (hw p hp) (fun q => by cases q) (fun _ => rfl) hq
          rw [if_neg c5] at hq
          refine x_iload dX10_wish_56 rfl ?_
          refine x_if_ne (tgt := 65) dX10_wish_58 (by decide) (fun c6 => ?_) (fun c6 => ?_)
          · exact absurd rfl c6
          · refine x_iconst (v := nI 2) dX10_wish_61 (by decide) ?_
            refine x_goto (tgt := 94) dX10_wish_62 (by decide) ?_
            exact r_wish_94 hRU hF (by decide) hq
        · exact absurd rfl c2
    · exact absurd c1 (by decide)
  · simp only [sWish, hn] at hq
    refine x_if_ne (tgt := 29) dX10_wish_22 (by decide) (fun c1 => ?_) (fun c1 => ?_)
    · exact absurd rfl c1
    refine x_iconst (v := nI 1) dX10_wish_25 (by decide) ?_
    refine x_goto (tgt := 94) dX10_wish_26 (by decide) ?_
    exact r_wish_94 hRU hF (by decide) hq
theorem r_wish {x kind k : Int32} (hR : RU G h m t u md) (hw : ∀ p, p < 2 → (u.wi p).length ≤ 10) (hq : ∀ h' md', RU G h' m (sWish u x kind k).1 (sWish u x kind k).2.2 md' → FrM m h h' → Q (.returned (some (.int (sWish u x kind k).2.1))) h') : Cx G mX10_wish (d + 4) [.ref m, .int x, .int kind, .int k] h Q := by
  show Jx G mX10_wish (d + 4) Q 0 [some (.ref m), some (.int x), some (.int kind), some (.int k), none, none] [] h
  refine x_iload_n dX10_wish_0 rfl ?_
  refine x_iconst (v := nI 1) dX10_wish_1 (by decide) ?_
  refine x_icmp_eq (tgt := 10) dX10_wish_2 (by decide) (fun c1 => ?_) (fun c1 => ?_)
  · refine x_iconst (v := nI 1) dX10_wish_10 (by decide) ?_
    refine x_goto (tgt := 15) dX10_wish_11 (by decide) ?_
    refine y_istore dX10_wish_15 rfl lvs_6_4 ?_
    exact r_wish_17 (b := true) ⟨fun _ => Or.inl c1, fun _ => rfl⟩ hR hw hq
  refine x_iload_n dX10_wish_5 rfl ?_
  refine x_iconst (v := nI 2) dX10_wish_6 (by decide) ?_
  refine x_icmp_ne (tgt := 14) dX10_wish_7 (by decide) (fun c2 => ?_) (fun c2 => ?_)
  · refine x_iconst (v := nI 0) dX10_wish_14 (by decide) ?_
    refine y_istore dX10_wish_15 rfl lvs_6_4 ?_
    exact r_wish_17 (b := false) ⟨fun q => (by cases q), fun q => q.elim (fun q => absurd q c1) (fun q => absurd q c2)⟩ hR hw hq
  · refine x_iconst (v := nI 1) dX10_wish_10 (by decide) ?_
    refine x_goto (tgt := 15) dX10_wish_11 (by decide) ?_
    refine y_istore dX10_wish_15 rfl lvs_6_4 ?_
    exact r_wish_17 (b := true) ⟨fun _ => Or.inr c2, fun _ => rfl⟩ hR hw hq
theorem r_child {x k w : Int32} (hR : RU G h m t u md) (hq : ∀ h' md', RU G h' m (sChild u x k w).1 (sChild u x k w).2.2 md' → FrM m h h' → Q (.returned (some (.int (sChild u x k w).2.1))) h') : Cx G mX10_child (d + 1) [.ref m, .int x, .int k, .int w] h Q := by
  show Jx G mX10_child (d + 1) Q 0 [some (.ref m), some (.int x), some (.int k), some (.int w)] [] h
  have no : ∀ (c : Int32) h, 0 < c → RU G h m t u md → (∀ h' md', RU G h' m c u md' → FrM m h h' → Q (.returned (some (.int (nI 0)))) h') → Jx G mX10_child (d + 1) Q 41 [some (.ref m), some (.int x), some (.int k), some (.int w)] [.int c, .ref m] h := by
    intro c h hc hR hq
    obtain ⟨F, hR, hV⟩ := hR
    have hF := FrM.rf m h
    refine pt_M hR rfl dX10_child_41 (fun _ hR hF1 => ?_)
    replace hF := hF.trans hF1
    refine x_aload_n dX10_child_44 rfl rfl ?_
    refine gf_X10_83_10 rfl dX10_child_45 hR.o ?_
    refine x_if_le (tgt := 55) dX10_child_48 (by decide) (fun c2 => ?_) (fun c2 => ?_)
    · exact absurd hc (Int32.not_lt.mpr c2)
    refine x_iconst (v := nI 0) dX10_child_51 (by decide) ?_
    refine x_goto (tgt := 62) dX10_child_52 (by decide) ?_
    refine x_ireturn dX10_child_62 rfl ?_
    exact hq _ _ ⟨_, hR, hV⟩ hF
  have hRU := hR
  obtain ⟨F, hR, hV⟩ := hR
  have hF := FrM.rf m h
  refine x_aload_n dX10_child_0 rfl rfl ?_
  refine x_iload_n dX10_child_1 rfl ?_
  refine x_callS dX10_child_2 ss_X10_87 (Nat.le_of_ble_eq_true rfl) rfl (Nat.le_of_ble_eq_true rfl) rfl ?_
  refine r_isPeer (fun p hp hx hn => kc_v dr_1 ?_) (fun hn => kc_v dr_1 ?_)
  · simp only [sChild, hn] at hq
    have hl := (hV.ki p hp).1
    subst hx
    refine x_if_eq (tgt := 22) dX10_child_5 (by decide) (fun c1 => ?_) (fun c1 => ?_)
    · exact absurd c1 (by decide)
    refine x_iload_n dX10_child_8 rfl ?_
    refine x_if_lt (tgt := 22) dX10_child_9 (by decide) (fun c2 => ?_) (fun c2 => ?_)
    · rw [ixN_neg c2] at hq
      refine x_iconst (v := nI 1) dX10_child_22 (by decide) ?_
      refine x_goto (tgt := 41) dX10_child_23 (by decide) ?_
      exact no _ _ (by decide) hRU hq
    refine x_iload_n dX10_child_12 rfl ?_
    refine x_aload_n dX10_child_13 rfl rfl ?_
    refine gf_X10_28_10 rfl dX10_child_14 hR.o ?_
    refine x_iload_n dX10_child_17 rfl ?_
    refine ld_M hR dX10_child_18 rfl (by decide) rfl (by first | (show _ < 2; omega) | (show _ < 16; omega) | (show _ < 32; omega) | (show _ < 8; omega) | (show _ < 272; omega) | (show _ < 1024; omega)) ?_
    rw [(hV.ki p hp).2.1]
    refine x_icmp_lt (tgt := 26) dX10_child_19 (by decide) (fun c3 => ?_) (fun c3 => ?_)
    · obtain ⟨j, hj, ek, ej⟩ := ixN_some (n := (u.ki p).length) (by omega) c2 (Int32.not_le.mpr c3)
      simp only [ej] at hq
      subst ek
      refine x_iload_n dX10_child_26 rfl ?_
      refine x_if_lt (tgt := 36) dX10_child_27 (by decide) (fun c4 => ?_) (fun c4 => ?_)
      · rw [if_pos (Or.inl c4)] at hq
        refine x_iconst (v := nI 2) dX10_child_36 (by decide) ?_
        refine x_goto (tgt := 41) dX10_child_37 (by decide) ?_
        exact no _ _ (by decide) hRU hq
      refine x_iload_n dX10_child_30 rfl ?_
      refine x_bipush (v := nI 7) dX10_child_31 (by decide) ?_
      refine x_icmp_le (tgt := 40) dX10_child_33 (by decide) (fun c5 => ?_) (fun c5 => ?_)
      · rw [if_neg (fun q => q.elim c4 (fun q => absurd q (Int32.not_lt.mpr c5)))] at hq
        obtain ⟨i, hi, e⟩ := nI_of2 (n := 7) (M := nI 7) (by decide) c4 c5
        subst e
        rw [nI_clamp (by omega)] at hq
        refine x_iconst (v := nI 0) dX10_child_40 (by decide) ?_
        refine pt_M hR rfl dX10_child_41 (fun _ hR hF1 => ?_)
        replace hF := hF.trans hF1
        refine x_aload_n dX10_child_44 rfl rfl ?_
        refine gf_X10_83_10 rfl dX10_child_45 hR.o ?_
        refine x_if_le (tgt := 55) dX10_child_48 (by decide) (fun c6 => ?_) (fun c6 => ?_)
        · refine x_aload_n dX10_child_55 rfl rfl ?_
          refine x_iload_n dX10_child_56 rfl ?_
          refine x_iload_n dX10_child_57 rfl ?_
          refine x_iload_n dX10_child_58 rfl ?_
          refine x_callV dX10_child_59 sv_X10_96_10 rfl hR.o rfl (Nat.le_of_ble_eq_true rfl) rfl ?_
          refine r_kid ⟨_, hR, hV⟩ hp (getD_at (z := fun _ => 0) hj) (by omega) (kc_v dr_4 ?_)
          refine x_ireturn dX10_child_62 rfl ?_
          exact hq _ _ ⟨_, hR, hV⟩ hF
        · exact absurd (show nI 0 ≤ 0 by decide) c6
      · rw [if_pos (Or.inr (Int32.not_le.mp c5))] at hq
        refine x_iconst (v := nI 2) dX10_child_36 (by decide) ?_
        refine x_goto (tgt := 41) dX10_child_37 (by decide) ?_
        exact no _ _ (by decide) hRU hq
    · rw [ixN_big c2 (Int32.not_lt.mp c3)] at hq
      refine x_iconst (v := nI 1) dX10_child_22 (by decide) ?_
      refine x_goto (tgt := 41) dX10_child_23 (by decide) ?_
      exact no _ _ (by decide) hRU hq
  · simp only [sChild, hn] at hq
    refine x_if_eq (tgt := 22) dX10_child_5 (by decide) (fun c1 => ?_) (fun c1 => ?_)
    · refine x_iconst (v := nI 1) dX10_child_22 (by decide) ?_
      refine x_goto (tgt := 41) dX10_child_23 (by decide) ?_
      exact no _ _ (by decide) hRU hq
    · exact absurd rfl c1
theorem r_packet {x k w : Int32} (hR : RU G h m t u md) (hq : ∀ h' md', RU G h' m (sPacket u x k w).1 (sPacket u x k w).2.2 md' → FrM m h h' → Q (.returned (some (.int (sPacket u x k w).2.1))) h') : Cx G mX10_packet (d + 2) [.ref m, .int x, .int k, .int w] h Q := by
  show Jx G mX10_packet (d + 2) Q 0 [some (.ref m), some (.int x), some (.int k), some (.int w)] [] h
  have no : ∀ (c : Int32) h, 0 < c → RU G h m t u md → (∀ h' md', RU G h' m c u md' → FrM m h h' → Q (.returned (some (.int (nI 0)))) h') → Jx G mX10_packet (d + 2) Q 29 [some (.ref m), some (.int x), some (.int k), some (.int w)] [.int c, .ref m] h := by
    intro c h hc hR hq
    obtain ⟨F, hR, hV⟩ := hR
    have hF := FrM.rf m h
    refine pt_M hR rfl dX10_packet_29 (fun _ hR hF1 => ?_)
    replace hF := hF.trans hF1
    refine x_aload_n dX10_packet_32 rfl rfl ?_
    refine gf_X10_83_10 rfl dX10_packet_33 hR.o ?_
    refine x_if_le (tgt := 43) dX10_packet_36 (by decide) (fun c2 => ?_) (fun c2 => ?_)
    · exact absurd hc (Int32.not_lt.mpr c2)
    refine x_iconst (v := nI 0) dX10_packet_39 (by decide) ?_
    refine x_goto (tgt := 56) dX10_packet_40 (by decide) ?_
    refine x_ireturn dX10_packet_56 rfl ?_
    exact hq _ _ ⟨_, hR, hV⟩ hF
  have hRU := hR
  obtain ⟨F, hR, hV⟩ := hR
  have hF := FrM.rf m h
  refine x_aload_n dX10_packet_0 rfl rfl ?_
  refine x_aload_n dX10_packet_1 rfl rfl ?_
  refine x_iload_n dX10_packet_2 rfl ?_
  refine x_iload_n dX10_packet_3 rfl ?_
  refine x_callV dX10_packet_4 sv_X10_129_10 rfl hR.o rfl (Nat.le_of_ble_eq_true rfl) rfl ?_
  refine r_isPacket hRU (fun p j hp hx hn hj hk he => kc_v dr_3 ?_) (fun hn => kc_v dr_3 ?_) (fun p hn he => kc_v dr_3 ?_)
  · simp only [sPacket, hn, he] at hq
    have hl := (hV.fl p hp).1
    subst hx hk
    refine x_if_ne (tgt := 14) dX10_packet_7 (by decide) (fun c1 => ?_) (fun c1 => ?_)
    · refine x_iload_n dX10_packet_14 rfl ?_
      refine x_if_lt (tgt := 24) dX10_packet_15 (by decide) (fun c4 => ?_) (fun c4 => ?_)
      · rw [if_pos (Or.inl c4)] at hq
        refine x_iconst (v := nI 2) dX10_packet_24 (by decide) ?_
        refine x_goto (tgt := 29) dX10_packet_25 (by decide) ?_
        exact no _ _ (by decide) hRU hq
      refine x_iload_n dX10_packet_18 rfl ?_
      refine x_bipush (v := nI 6) dX10_packet_19 (by decide) ?_
      refine x_icmp_le (tgt := 28) dX10_packet_21 (by decide) (fun c5 => ?_) (fun c5 => ?_)
      · rw [if_neg (fun q => q.elim c4 (fun q => absurd q (Int32.not_lt.mpr c5)))] at hq
        obtain ⟨i, hi, e⟩ := nI_of2 (n := 6) (M := nI 6) (by decide) c4 c5
        subst e
        rw [nI_clamp (by omega)] at hq
        refine x_iconst (v := nI 0) dX10_packet_28 (by decide) ?_
        refine pt_M hR rfl dX10_packet_29 (fun _ hR hF1 => ?_)
        replace hF := hF.trans hF1
        refine x_aload_n dX10_packet_32 rfl rfl ?_
        refine gf_X10_83_10 rfl dX10_packet_33 hR.o ?_
        refine x_if_le (tgt := 43) dX10_packet_36 (by decide) (fun c6 => ?_) (fun c6 => ?_)
        · refine x_aload_n dX10_packet_43 rfl rfl ?_
          refine gf_X10_74_10 rfl dX10_packet_44 hR.o ?_
          refine x_aload_n dX10_packet_47 rfl rfl ?_
          refine x_iload_n dX10_packet_48 rfl ?_
          refine x_iload_n dX10_packet_49 rfl ?_
          refine x_callV dX10_packet_50 sv_X10_125_10 rfl hR.o rfl (Nat.le_of_ble_eq_true rfl) rfl ?_
          refine m_place (kc_v dr_3 ?_)
          refine x_iload_n dX10_packet_53 rfl ?_
          refine x_iadd dX10_packet_54 ?_
          try simp only [pk_mul, nI_add]
          refine ld_M hR dX10_packet_55 rfl (by decide) rfl (by first | (show _ < 2; omega) | (show _ < 16; omega) | (show _ < 32; omega) | (show _ < 8; omega) | (show _ < 272; omega) | (show _ < 1024; omega)) ?_
          rw [(hV.fl p hp).2.2 j _ (getD_at (z := fun _ => 0) hj) i (by omega)]
          refine x_ireturn dX10_packet_56 rfl ?_
          exact hq _ _ ⟨_, hR, hV⟩ hF
        · exact absurd (show nI 0 ≤ 0 by decide) c6
      · rw [if_pos (Or.inr (Int32.not_le.mp c5))] at hq
        refine x_iconst (v := nI 2) dX10_packet_24 (by decide) ?_
        refine x_goto (tgt := 29) dX10_packet_25 (by decide) ?_
        exact no _ _ (by decide) hRU hq
    · exact absurd c1 (by decide)
  · simp only [sPacket, hn] at hq
    refine x_if_ne (tgt := 14) dX10_packet_7 (by decide) (fun c1 => ?_) (fun c1 => ?_)
    · exact absurd rfl c1
    refine x_iconst (v := nI 1) dX10_packet_10 (by decide) ?_
    refine x_goto (tgt := 29) dX10_packet_11 (by decide) ?_
    exact no _ _ (by decide) hRU hq
  · simp only [sPacket, hn, he] at hq
    refine x_if_ne (tgt := 14) dX10_packet_7 (by decide) (fun c1 => ?_) (fun c1 => ?_)
    · exact absurd rfl c1
    refine x_iconst (v := nI 1) dX10_packet_10 (by decide) ?_
    refine x_goto (tgt := 29) dX10_packet_11 (by decide) ?_
    exact no _ _ (by decide) hRU hq
theorem r_told {x w : Int32} (hR : RU G h m t u md) (hq : ∀ h' md', RU G h' m (sTold u x w).1 (sTold u x w).2.2 md' → FrM m h h' → Q (.returned (some (.int (sTold u x w).2.1))) h') : Cx G mX10_told (d + 1) [.ref m, .int x, .int w] h Q := by
  show Jx G mX10_told (d + 1) Q 0 [some (.ref m), some (.int x), some (.int w)] [] h
  have no : ∀ (c : Int32) h, 0 < c → RU G h m t u md → (∀ h' md', RU G h' m c u md' → FrM m h h' → Q (.returned (some (.int (nI 0)))) h') → Jx G mX10_told (d + 1) Q 27 [some (.ref m), some (.int x), some (.int w)] [.int c, .ref m] h := by
    intro c h hc hR hq
    obtain ⟨F, hR, hV⟩ := hR
    have hF := FrM.rf m h
    refine pt_M hR rfl dX10_told_27 (fun _ hR hF1 => ?_)
    replace hF := hF.trans hF1
    refine x_aload_n dX10_told_30 rfl rfl ?_
    refine gf_X10_83_10 rfl dX10_told_31 hR.o ?_
    refine x_if_le (tgt := 39) dX10_told_34 (by decide) (fun c2 => ?_) (fun c2 => ?_)
    · exact absurd hc (Int32.not_lt.mpr c2)
    refine x_iconst (v := nI 0) dX10_told_37 (by decide) ?_
    refine x_ireturn dX10_told_38 rfl ?_
    exact hq _ _ ⟨_, hR, hV⟩ hF
  have hRU := hR
  obtain ⟨F, hR, hV⟩ := hR
  have hF := FrM.rf m h
  refine x_aload_n dX10_told_0 rfl rfl ?_
  refine x_iload_n dX10_told_1 rfl ?_
  refine x_callS dX10_told_2 ss_X10_87 (Nat.le_of_ble_eq_true rfl) rfl (Nat.le_of_ble_eq_true rfl) rfl ?_
  refine r_isPeer (fun p hp hx hn => kc_v dr_1 ?_) (fun hn => kc_v dr_1 ?_)
  · simp only [sTold, hn] at hq
    subst hx
    refine x_if_ne (tgt := 12) dX10_told_5 (by decide) (fun c1 => ?_) (fun c1 => ?_)
    · refine x_iload_n dX10_told_12 rfl ?_
      refine x_if_lt (tgt := 22) dX10_told_13 (by decide) (fun c4 => ?_) (fun c4 => ?_)
      · rw [if_pos (Or.inl c4)] at hq
        refine x_iconst (v := nI 2) dX10_told_22 (by decide) ?_
        refine x_goto (tgt := 27) dX10_told_23 (by decide) ?_
        exact no _ _ (by decide) hRU hq
      refine x_iload_n dX10_told_16 rfl ?_
      refine x_bipush (v := nI 7) dX10_told_17 (by decide) ?_
      refine x_icmp_le (tgt := 26) dX10_told_19 (by decide) (fun c5 => ?_) (fun c5 => ?_)
      · rw [if_neg (fun q => q.elim c4 (fun q => absurd q (Int32.not_lt.mpr c5)))] at hq
        obtain ⟨i, hi, e⟩ := nI_of2 (n := 7) (M := nI 7) (by decide) c4 c5
        subst e
        rw [nI_clamp (by omega)] at hq
        refine x_iconst (v := nI 0) dX10_told_26 (by decide) ?_
        refine pt_M hR rfl dX10_told_27 (fun _ hR hF1 => ?_)
        replace hF := hF.trans hF1
        refine x_aload_n dX10_told_30 rfl rfl ?_
        refine gf_X10_83_10 rfl dX10_told_31 hR.o ?_
        refine x_if_le (tgt := 39) dX10_told_34 (by decide) (fun c6 => ?_) (fun c6 => ?_)
        · refine x_iload_n dX10_told_39 rfl ?_
          obtain ⟨ho, hpk⟩ := hV.ou p hp
          rcases (show i = 0 ∨ i = 1 ∨ i = 2 ∨ i = 3 ∨ i = 4 ∨ i = 5 ∨ i = 6 ∨ i = 7 by omega) with rfl | rfl | rfl | rfl | rfl | rfl | rfl | rfl
          · refine x_tableIn (off := 44) (tgt := 84) dX10_told_40 (by decide) (by decide) (by decide) (by decide) ?_
            refine x_aload_n dX10_told_84 rfl rfl ?_
            refine gf_X10_47_10 rfl dX10_told_85 hR.o ?_
            refine x_iload_n dX10_told_88 rfl ?_
            refine lz_M hR dX10_told_89 rfl (by decide) rfl (by first | (show _ < 2; omega) | (show _ < 16; omega) | (show _ < 32; omega) | (show _ < 8; omega) | (show _ < 272; omega) | (show _ < 1024; omega)) ?_
            rw [ho]
            simp only [toldV] at hq
            generalize hg : u.ou p = o at hq ho hpk ⊢
            cases o with
            | none =>
              refine x_if_eq (tgt := 107) dX10_told_90 (by decide) (fun c7 => ?_) (fun c7 => ?_)
              · refine x_iconst (v := (-1)) dX10_told_107 (by decide) ?_
                refine x_ireturn dX10_told_108 rfl ?_
                exact hq _ _ ⟨_, hR, hV⟩ hF
              · exact absurd rfl c7
            | some pk =>
              refine x_if_eq (tgt := 107) dX10_told_90 (by decide) (fun c7 => ?_) (fun c7 => ?_)
              · exact absurd c7 (show ¬ (1 : Int32) = 0 by decide)
              refine x_aload_n dX10_told_93 rfl rfl ?_
              refine gf_X10_50_10 rfl dX10_told_94 hR.o ?_
              refine x_bipush (v := nI 16) dX10_told_97 (by decide) ?_
              refine x_iload_n dX10_told_99 rfl ?_
              refine x_imul dX10_told_100 ?_
              try simp only [pk_mul, nI_add]
              refine x_iconst (v := nI 1) dX10_told_101 (by decide) ?_
              refine x_iadd dX10_told_102 ?_
              try simp only [pk_mul, nI_add]
              refine ld_M hR dX10_told_103 rfl (by decide) rfl (by first | (show _ < 2; omega) | (show _ < 16; omega) | (show _ < 32; omega) | (show _ < 8; omega) | (show _ < 272; omega) | (show _ < 1024; omega)) ?_
              rw [hpk pk rfl 1 (by omega)]
              refine x_goto (tgt := 108) dX10_told_104 (by decide) ?_
              refine x_ireturn dX10_told_108 rfl ?_
              exact hq _ _ ⟨_, hR, hV⟩ hF
          · refine x_tableIn (off := 69) (tgt := 109) dX10_told_40 (by decide) (by decide) (by decide) (by decide) ?_
            refine x_aload_n dX10_told_109 rfl rfl ?_
            refine gf_X10_47_10 rfl dX10_told_110 hR.o ?_
            refine x_iload_n dX10_told_113 rfl ?_
            refine lz_M hR dX10_told_114 rfl (by decide) rfl (by first | (show _ < 2; omega) | (show _ < 16; omega) | (show _ < 32; omega) | (show _ < 8; omega) | (show _ < 272; omega) | (show _ < 1024; omega)) ?_
            rw [ho]
            simp only [toldV] at hq
            generalize hg : u.ou p = o at hq ho hpk ⊢
            cases o with
            | none =>
              refine x_if_eq (tgt := 132) dX10_told_115 (by decide) (fun c7 => ?_) (fun c7 => ?_)
              · refine x_iconst (v := (-1)) dX10_told_132 (by decide) ?_
                refine x_ireturn dX10_told_133 rfl ?_
                exact hq _ _ ⟨_, hR, hV⟩ hF
              · exact absurd rfl c7
            | some pk =>
              refine x_if_eq (tgt := 132) dX10_told_115 (by decide) (fun c7 => ?_) (fun c7 => ?_)
              · exact absurd c7 (show ¬ (1 : Int32) = 0 by decide)
              refine x_aload_n dX10_told_118 rfl rfl ?_
              refine gf_X10_50_10 rfl dX10_told_119 hR.o ?_
              refine x_bipush (v := nI 16) dX10_told_122 (by decide) ?_
              refine x_iload_n dX10_told_124 rfl ?_
              refine x_imul dX10_told_125 ?_
              try simp only [pk_mul, nI_add]
              refine x_iconst (v := nI 2) dX10_told_126 (by decide) ?_
              refine x_iadd dX10_told_127 ?_
              try simp only [pk_mul, nI_add]
              refine ld_M hR dX10_told_128 rfl (by decide) rfl (by first | (show _ < 2; omega) | (show _ < 16; omega) | (show _ < 32; omega) | (show _ < 8; omega) | (show _ < 272; omega) | (show _ < 1024; omega)) ?_
              rw [hpk pk rfl 2 (by omega)]
              refine x_goto (tgt := 133) dX10_told_129 (by decide) ?_
              refine x_ireturn dX10_told_133 rfl ?_
              exact hq _ _ ⟨_, hR, hV⟩ hF
          · refine x_tableIn (off := 94) (tgt := 134) dX10_told_40 (by decide) (by decide) (by decide) (by decide) ?_
            refine x_aload_n dX10_told_134 rfl rfl ?_
            refine gf_X10_47_10 rfl dX10_told_135 hR.o ?_
            refine x_iload_n dX10_told_138 rfl ?_
            refine lz_M hR dX10_told_139 rfl (by decide) rfl (by first | (show _ < 2; omega) | (show _ < 16; omega) | (show _ < 32; omega) | (show _ < 8; omega) | (show _ < 272; omega) | (show _ < 1024; omega)) ?_
            rw [ho]
            simp only [toldV] at hq
            refine x_if_eq (tgt := 152) dX10_told_140 (by decide) (fun c7 => ?_) (fun c7 => ?_)
            · rw [if_neg (fun q => (bI_ne.mpr q) c7)] at hq
              refine x_iconst (v := nI 0) dX10_told_152 (by decide) ?_
              refine x_ireturn dX10_told_153 rfl ?_
              exact hq _ _ ⟨_, hR, hV⟩ hF
            · rw [if_pos (bI_ne.mp c7)] at hq
              refine x_aload_n dX10_told_143 rfl rfl ?_
              refine gf_X10_53_10 rfl dX10_told_144 hR.o ?_
              refine x_iload_n dX10_told_147 rfl ?_
              refine ld_M hR dX10_told_148 rfl (by decide) rfl (by first | (show _ < 2; omega) | (show _ < 16; omega) | (show _ < 32; omega) | (show _ < 8; omega) | (show _ < 272; omega) | (show _ < 1024; omega)) ?_
              rw [hV.se p hp]
              refine x_goto (tgt := 153) dX10_told_149 (by decide) ?_
              refine x_ireturn dX10_told_153 rfl ?_
              exact hq _ _ ⟨_, hR, hV⟩ hF
          · refine x_tableIn (off := 114) (tgt := 154) dX10_told_40 (by decide) (by decide) (by decide) (by decide) ?_
            refine x_aload_n dX10_told_154 rfl rfl ?_
            refine gf_X10_47_10 rfl dX10_told_155 hR.o ?_
            refine x_iload_n dX10_told_158 rfl ?_
            refine lz_M hR dX10_told_159 rfl (by decide) rfl (by first | (show _ < 2; omega) | (show _ < 16; omega) | (show _ < 32; omega) | (show _ < 8; omega) | (show _ < 272; omega) | (show _ < 1024; omega)) ?_
            rw [ho]
            simp only [toldV] at hq
            refine x_if_eq (tgt := 172) dX10_told_160 (by decide) (fun c7 => ?_) (fun c7 => ?_)
            · rw [if_neg (fun q => (bI_ne.mpr q) c7)] at hq
              refine x_iconst (v := nI 0) dX10_told_172 (by decide) ?_
              refine x_ireturn dX10_told_173 rfl ?_
              exact hq _ _ ⟨_, hR, hV⟩ hF
            · rw [if_pos (bI_ne.mp c7)] at hq
              refine x_aload_n dX10_told_163 rfl rfl ?_
              refine gf_X10_56_10 rfl dX10_told_164 hR.o ?_
              refine x_iload_n dX10_told_167 rfl ?_
              refine ld_M hR dX10_told_168 rfl (by decide) rfl (by first | (show _ < 2; omega) | (show _ < 16; omega) | (show _ < 32; omega) | (show _ < 8; omega) | (show _ < 272; omega) | (show _ < 1024; omega)) ?_
              rw [hV.wt p hp]
              refine x_goto (tgt := 173) dX10_told_169 (by decide) ?_
              refine x_ireturn dX10_told_173 rfl ?_
              exact hq _ _ ⟨_, hR, hV⟩ hF
          · refine x_tableIn (off := 134) (tgt := 174) dX10_told_40 (by decide) (by decide) (by decide) (by decide) ?_
            refine x_aload_n dX10_told_174 rfl rfl ?_
            refine gf_X10_34_10 rfl dX10_told_175 hR.o ?_
            refine x_iload_n dX10_told_178 rfl ?_
            refine ld_M hR dX10_told_179 rfl (by decide) rfl (by first | (show _ < 2; omega) | (show _ < 16; omega) | (show _ < 32; omega) | (show _ < 8; omega) | (show _ < 272; omega) | (show _ < 1024; omega)) ?_
            rw [(hV.wi p hp).2.1]
            refine x_ireturn dX10_told_180 rfl ?_
            exact hq _ _ ⟨_, hR, hV⟩ hF
          · refine x_tableIn (off := 141) (tgt := 181) dX10_told_40 (by decide) (by decide) (by decide) (by decide) ?_
            refine x_aload_n dX10_told_181 rfl rfl ?_
            refine gf_X10_43_10 rfl dX10_told_182 hR.o ?_
            refine x_iload_n dX10_told_185 rfl ?_
            refine lz_M hR dX10_told_186 rfl (by decide) rfl (by first | (show _ < 2; omega) | (show _ < 16; omega) | (show _ < 32; omega) | (show _ < 8; omega) | (show _ < 272; omega) | (show _ < 1024; omega)) ?_
            rw [hV.de p hp]
            simp only [toldV] at hq
            generalize u.de p = b at hq ⊢
            cases b with
            | true =>
              refine x_if_eq (tgt := 194) dX10_told_187 (by decide) (fun c7 => ?_) (fun c7 => ?_)
              · exact absurd c7 (by decide)
              refine x_iconst (v := nI 1) dX10_told_190 (by decide) ?_
              refine x_goto (tgt := 195) dX10_told_191 (by decide) ?_
              refine x_ireturn dX10_told_195 rfl ?_
              exact hq _ _ ⟨_, hR, hV⟩ hF
            | false =>
              refine x_if_eq (tgt := 194) dX10_told_187 (by decide) (fun c7 => ?_) (fun c7 => ?_)
              · refine x_iconst (v := nI 0) dX10_told_194 (by decide) ?_
                refine x_ireturn dX10_told_195 rfl ?_
                exact hq _ _ ⟨_, hR, hV⟩ hF
              · exact absurd rfl c7
          · refine x_tableIn (off := 156) (tgt := 196) dX10_told_40 (by decide) (by decide) (by decide) (by decide) ?_
            refine x_aload_n dX10_told_196 rfl rfl ?_
            refine gf_X10_62_10 rfl dX10_told_197 hR.o ?_
            refine x_iload_n dX10_told_200 rfl ?_
            refine ld_M hR dX10_told_201 rfl (by decide) rfl (by first | (show _ < 2; omega) | (show _ < 16; omega) | (show _ < 32; omega) | (show _ < 8; omega) | (show _ < 272; omega) | (show _ < 1024; omega)) ?_
            rw [hV.nn p hp]
            refine x_ireturn dX10_told_202 rfl ?_
            exact hq _ _ ⟨_, hR, hV⟩ hF
          · refine x_tableOut (tgt := 203) dX10_told_40 (Or.inr (by decide)) (by decide) ?_
            refine x_aload_n dX10_told_203 rfl rfl ?_
            refine gf_X10_65_10 rfl dX10_told_204 hR.o ?_
            refine x_iload_n dX10_told_207 rfl ?_
            refine ld_M hR dX10_told_208 rfl (by decide) rfl (by first | (show _ < 2; omega) | (show _ < 16; omega) | (show _ < 32; omega) | (show _ < 8; omega) | (show _ < 272; omega) | (show _ < 1024; omega)) ?_
            rw [hV.na p hp]
            refine x_ireturn dX10_told_209 rfl ?_
            exact hq _ _ ⟨_, hR, hV⟩ hF
        · exact absurd (show nI 0 ≤ 0 by decide) c6
      · rw [if_pos (Or.inr (Int32.not_le.mp c5))] at hq
        refine x_iconst (v := nI 2) dX10_told_22 (by decide) ?_
        refine x_goto (tgt := 27) dX10_told_23 (by decide) ?_
        exact no _ _ (by decide) hRU hq
    · exact absurd c1 (by decide)
  · simp only [sTold, hn] at hq
    refine x_if_ne (tgt := 12) dX10_told_5 (by decide) (fun c1 => ?_) (fun c1 => ?_)
    · exact absurd rfl c1
    refine x_iconst (v := nI 1) dX10_told_8 (by decide) ?_
    refine x_goto (tgt := 27) dX10_told_9 (by decide) ?_
    exact no _ _ (by decide) hRU hq
end REF14X
