theorem fi_app {α : Type} {P : α → Bool} {l : List α} {b : α} (hb : P b = false) : (l ++ [b]).findIdx? P = l.findIdx? P := by
  generalize hf : l.findIdx? P = o
  cases o with
  | none =>
    rw [fi_no] at hf ⊢
    intro a ha
    rcases List.mem_append.mp ha with q | q
    · exact hf a q
    · rw [List.mem_singleton.mp q]
      exact hb
  | some k =>
    have := List.findIdx?_eq_some_iff_getElem.mp hf
    obtain ⟨h1, h2, h3⟩ := this
    refine fi_some (by simp; omega) (by rw [List.getElem_append_left h1]; exact h2) (fun j hj hjk => ?_)
    rw [List.getElem_append_left (by omega)]
    have := h3 j hjk
    simpa using this
section K11X
variable {G : GT} {d : Nat} {Q : Outcome → Hp → Prop} {h : Hp} {x z p : Nat} {u : Ut} {E : Nat → Nat → Nat} {X : Nat → Nat → List Nat} {ov lv : Nat → Option Nat} {sf : Nat → Nat → Int32}
theorem k_loses {a b : Nat} {w1 w2 : Int32} {f0 f1 f2 f3 f4 g0 g1 g2 g3 g4 : Value} (hA : RA G h x z u E X ov lv sf) (hp : p < 2) (ha : h.1 a = some (.inr (2, [f0, f1, f2, f3, f4, .int w1]))) (hb : h.1 b = some (.inr (2, [g0, g1, g2, g3, g4, .int w2]))) (hq : Q (.returned (some (.int (bI (decide (w1 < w2 ∨ w1 = w2 ∧ p = 0)))))) h) : Cx G mX6_losesAgainst d [.ref (aP x p), .ref a, .ref b] h Q := by
  show Jx G mX6_losesAgainst d Q 0 [some (.ref (aP x p)), some (.ref a), some (.ref b)] [] h
  refine x_aload_n dX6_losesAgainst_0 rfl rfl ?_
  refine gf_X6_273_2 rfl dX6_losesAgainst_1 ha ?_
  refine x_aload_n dX6_losesAgainst_4 rfl rfl ?_
  refine gf_X6_273_2 rfl dX6_losesAgainst_5 hb ?_
  refine x_icmp_ne (tgt := 24) dX6_losesAgainst_8 (by decide) (fun c1 => ?_) (fun c1 => ?_)
  · refine x_aload_n dX6_losesAgainst_24 rfl rfl ?_
    refine gf_X6_273_2 rfl dX6_losesAgainst_25 ha ?_
    refine x_aload_n dX6_losesAgainst_28 rfl rfl ?_
    refine gf_X6_273_2 rfl dX6_losesAgainst_29 hb ?_
    refine x_icmp_ge (tgt := 39) dX6_losesAgainst_32 (by decide) (fun c2 => ?_) (fun c2 => ?_)
    · rw [decide_eq_false (fun q => q.elim (fun q => absurd q (Int32.not_lt.mpr c2)) (fun q => c1 q.1))] at hq
      refine x_iconst (v := nI 0) dX6_losesAgainst_39 (by decide) ?_
      refine x_zreturn dX6_losesAgainst_40 rfl (by first | rfl | assumption) ?_
      exact hq
    · rw [decide_eq_true (Or.inl (Int32.not_le.mp c2))] at hq
      refine x_iconst (v := nI 1) dX6_losesAgainst_35 (by decide) ?_
      refine x_goto (tgt := 40) dX6_losesAgainst_36 (by decide) ?_
      refine x_zreturn dX6_losesAgainst_40 rfl (by first | rfl | assumption) ?_
      exact hq
  · have e : w1 = w2 := c1
    refine x_aload_n dX6_losesAgainst_11 rfl rfl ?_
    refine gf_X6_25_6 rfl dX6_losesAgainst_12 (by first | exact hA.pe hp | exact hA.f (by omega) | exact hA.ob | first | assumption | exact hput_self _ _ _ | exact hnew_self _ _ _ | (rw [hput_ne _ _ _ (by first | assumption | omega | (apply Ne.symm; assumption))]; first | assumption | exact hput_self _ _ _ | exact hnew_self _ _ _ | (rw [hput_ne _ _ _ (by first | assumption | omega | (apply Ne.symm; assumption))]; first | assumption | exact hput_self _ _ _ | exact hnew_self _ _ _) | (rw [hnew_ne _ _ _ (by first | assumption | omega | (apply Ne.symm; assumption))]; first | assumption | exact hput_self _ _ _ | exact hnew_self _ _ _)) | (rw [hnew_ne _ _ _ (by first | assumption | omega | (apply Ne.symm; assumption))]; first | assumption | exact hput_self _ _ _ | exact hnew_self _ _ _ | (rw [hput_ne _ _ _ (by first | assumption | omega | (apply Ne.symm; assumption))]; first | assumption | exact hput_self _ _ _ | exact hnew_self _ _ _) | (rw [hnew_ne _ _ _ (by first | assumption | omega | (apply Ne.symm; assumption))]; first | assumption | exact hput_self _ _ _ | exact hnew_self _ _ _))) ?_
    refine x_if_ne (tgt := 22) dX6_losesAgainst_15 (by decide) (fun c2 => ?_) (fun c2 => ?_)
    · rw [decide_eq_false (fun q => q.elim (fun q => by rw [e] at q; exact absurd q Int32.lt_irrefl) (fun q => c2 (by rw [q.2]; rfl)))] at hq
      refine x_iconst (v := nI 0) dX6_losesAgainst_22 (by decide) ?_
      refine x_zreturn dX6_losesAgainst_23 rfl (by first | rfl | assumption) ?_
      exact hq
    · have hp0 : p = 0 := (nI_eq (b := 0) (by omega) (by omega)).mp c2
      rw [decide_eq_true (Or.inr ⟨e, hp0⟩)] at hq
      refine x_iconst (v := nI 1) dX6_losesAgainst_18 (by decide) ?_
      refine x_goto (tgt := 23) dX6_losesAgainst_19 (by decide) ?_
      refine x_zreturn dX6_losesAgainst_23 rfl (by first | rfl | assumption) ?_
      exact hq
theorem k_sr_wish {r a sb fr : Nat} {b : Bool} {mk1 mk0 : Int32} {z6 z7 : Option Value} {f1 f2 f3 f4 f5 g1 g2 g3 g4 g5 : Value} {zw : Option Value} (hA : RA G h x z u E X ov lv sf) (hp : p < 2) (hfr : h.1 fr = some (.inr (2, [.int mk1, f1, f2, f3, f4, f5]))) (hsb : h.1 sb = some (.inr (2, [.int mk0, g1, g2, g3, g4, g5]))) (hw : (u.wi p).length ≤ 30) (hr : Rm G 2 h) (hq : ∀ h' E' X', RA G h' x z (u.w_wi p (u.wi p ++ [(nI 2, if b then mk1 else mk0)])) E' X' ov lv sf → KC x z 2 h h' → Q (.returned none) h') : Jx G mX6_settleRenew (d + 8) Q 79 [some (.ref (aP x p)), some (.ref r), some (.ref a), some (.ref sb), zw, some (.ref fr), z6, z7] [.int (bI b)] h := by
  refine x_wf (fun hwf hob hbn => ?_)
  have hfl := hwf _ _ hfr
  have hsl := hwf _ _ hsb
  have hzh := hA.zh
  refine y_istore dX6_settleRenew_79 rfl lvs_8_7 ?_
  refine x_aload_n dX6_settleRenew_81 rfl rfl ?_
  refine gf_X6_22_6 rfl dX6_settleRenew_82 (by first | exact hA.pe hp | exact hA.f (by omega) | exact hA.ob | first | assumption | exact hput_self _ _ _ | exact hnew_self _ _ _ | (rw [hput_ne _ _ _ (by first | assumption | omega | (apply Ne.symm; assumption))]; first | assumption | exact hput_self _ _ _ | exact hnew_self _ _ _ | (rw [hput_ne _ _ _ (by first | assumption | omega | (apply Ne.symm; assumption))]; first | assumption | exact hput_self _ _ _ | exact hnew_self _ _ _) | (rw [hnew_ne _ _ _ (by first | assumption | omega | (apply Ne.symm; assumption))]; first | assumption | exact hput_self _ _ _ | exact hnew_self _ _ _)) | (rw [hnew_ne _ _ _ (by first | assumption | omega | (apply Ne.symm; assumption))]; first | assumption | exact hput_self _ _ _ | exact hnew_self _ _ _ | (rw [hput_ne _ _ _ (by first | assumption | omega | (apply Ne.symm; assumption))]; first | assumption | exact hput_self _ _ _ | exact hnew_self _ _ _) | (rw [hnew_ne _ _ _ (by first | assumption | omega | (apply Ne.symm; assumption))]; first | assumption | exact hput_self _ _ _ | exact hnew_self _ _ _))) ?_
  refine nw_X6_117 rfl dX6_settleRenew_85 (hr.c (by omega)) (hr.s (by omega)) ?_
  refine x_dup dX6_settleRenew_88 rfl ?_
  refine x_iconst (v := nI 2) dX6_settleRenew_89 (by decide) ?_
  refine x_iload dX6_settleRenew_90 rfl ?_
  have tail : ∀ v, v = (if b then mk1 else mk0) → Jx G mX6_settleRenew (d + 8) Q 107 [some (.ref (aP x p)), some (.ref r), some (.ref a), some (.ref sb), zw, some (.ref fr), z6, some (.int (bI b))] [.int v, .int (nI 2), .ref h.2.1, .ref h.2.1, .ref (aL x 2 p)] (hnew h (.inr (8, [.int 0, .int 0])) 2) := by
    intro v hv
    refine x_callI dX6_settleRenew_107 si_X6_266 rfl rfl (Nat.le_of_ble_eq_true rfl) rfl ?_
    refine c_wishInit (hnew_self _ _ _) (kc_n dr_3 ?_)
    rw [hput_hnew]
    obtain ⟨hA1, hK1⟩ := hA.mk1 hwf (.inr (8, [.int (nI 2), .int v])) 2 (by omega)
    replace hA := hA1
    obtain ⟨m1, hm1⟩ := (hA.l (c := 2) (by omega) hp).sh
    refine x_callF dX6_settleRenew_110 sf_X6_269_0 rfl (by first | exact hA.pe hp | exact hA.f (by omega) | exact hA.ob | first | assumption | exact hput_self _ _ _ | exact hnew_self _ _ _ | (rw [hput_ne _ _ _ (by first | assumption | omega | (apply Ne.symm; assumption))]; first | assumption | exact hput_self _ _ _ | exact hnew_self _ _ _ | (rw [hput_ne _ _ _ (by first | assumption | omega | (apply Ne.symm; assumption))]; first | assumption | exact hput_self _ _ _ | exact hnew_self _ _ _) | (rw [hnew_ne _ _ _ (by first | assumption | omega | (apply Ne.symm; assumption))]; first | assumption | exact hput_self _ _ _ | exact hnew_self _ _ _)) | (rw [hnew_ne _ _ _ (by first | assumption | omega | (apply Ne.symm; assumption))]; first | assumption | exact hput_self _ _ _ | exact hnew_self _ _ _ | (rw [hput_ne _ _ _ (by first | assumption | omega | (apply Ne.symm; assumption))]; first | assumption | exact hput_self _ _ _ | exact hnew_self _ _ _) | (rw [hnew_ne _ _ _ (by first | assumption | omega | (apply Ne.symm; assumption))]; first | assumption | exact hput_self _ _ _ | exact hnew_self _ _ _))) rfl (Nat.le_of_ble_eq_true rfl) rfl ?_
    refine k_addW (w := (nI 2, v)) hA hp ⟨hzh, hnew_self _ _ _, Or.inr (Or.inr rfl)⟩ hw (hr.after hK1 (by omega)) (fun h' E' X' hA' hK' => kc_v dr_2 ?_)
    refine x_pop dX6_settleRenew_115 rfl ?_
    refine x_vreturn dX6_settleRenew_116 rfl ?_
    rw [← hv] at hq
    exact hq _ _ _ hA' (hK1.trans hK')
  cases b with
  | true =>
    refine x_if_eq (tgt := 103) dX6_settleRenew_92 (by decide) (fun c1 => ?_) (fun c1 => ?_)
    · exact absurd c1 (by decide)
    refine x_aload dX6_settleRenew_95 rfl rfl ?_
    refine gf_X6_98_2 rfl dX6_settleRenew_97 (by rw [hnew_ne _ _ _ (by omega)]; exact hfr) ?_
    refine x_goto (tgt := 107) dX6_settleRenew_100 (by decide) ?_
    exact tail _ rfl
  | false =>
    refine x_if_eq (tgt := 103) dX6_settleRenew_92 (by decide) (fun c1 => ?_) (fun c1 => ?_)
    · refine x_aload_n dX6_settleRenew_103 rfl rfl ?_
      refine gf_X6_98_2 rfl dX6_settleRenew_104 (by rw [hnew_ne _ _ _ (by omega)]; exact hsb) ?_
      exact tail _ rfl
    · exact absurd rfl c1
theorem k_settleRenew {r a sb : Nat} {pk md kd : Nat → Int32} (hA : RA G h x z u E X ov lv sf) (hp : p < 2) (hreq : reqO h z r pk) (hkd : kidO h z sb kd) (e6 : pk 6 = kd 0) (e7 : pk 7 = kd 3) (e8 : pk 8 = kd 4) (e9 : pk 9 = kd 2) (hans : ansW h z a md) (hl : (u.ki p).length ≤ 16) (hw : (u.wi p).length ≤ 30) (hr : Rm G 4 h) (hq : ∀ h' E' X', RA G h' x z (renU u p md pk (mnI (md 5) (pk 5))) E' X' ov lv sf → KC x z 4 h h' → Q (.returned none) h') : Cx G mX6_settleRenew (d + 8) [.ref (aP x p), .ref r, .ref a, .ref sb] h Q := by
  show Jx G mX6_settleRenew (d + 8) Q 0 [some (.ref (aP x p)), some (.ref r), some (.ref a), some (.ref sb), none, none, none, none] [] h
  refine x_wf (fun hwf hob hbn => ?_)
  obtain ⟨so, oo, hrc⟩ := hreq.cell
  obtain ⟨-, ⟨da, hkc, hd⟩, -⟩ := id hkd
  obtain ⟨-, -, -, b, dv, -, hac, -⟩ := id hans
  have hrl := hwf _ _ hrc
  have hkl := hwf _ _ hkc
  have hal := hwf _ _ hac
  have hzh := hA.zh
  generalize hwo : mnI (md 5) (pk 5) = worth at hq
  refine x_aload_n dX6_settleRenew_0 rfl rfl ?_
  refine gf_X6_203_7 rfl dX6_settleRenew_1 (by first | exact hA.pe hp | exact hA.f (by omega) | exact hA.ob | first | assumption | exact hput_self _ _ _ | exact hnew_self _ _ _ | (rw [hput_ne _ _ _ (by first | assumption | omega | (apply Ne.symm; assumption))]; first | assumption | exact hput_self _ _ _ | exact hnew_self _ _ _ | (rw [hput_ne _ _ _ (by first | assumption | omega | (apply Ne.symm; assumption))]; first | assumption | exact hput_self _ _ _ | exact hnew_self _ _ _) | (rw [hnew_ne _ _ _ (by first | assumption | omega | (apply Ne.symm; assumption))]; first | assumption | exact hput_self _ _ _ | exact hnew_self _ _ _)) | (rw [hnew_ne _ _ _ (by first | assumption | omega | (apply Ne.symm; assumption))]; first | assumption | exact hput_self _ _ _ | exact hnew_self _ _ _ | (rw [hput_ne _ _ _ (by first | assumption | omega | (apply Ne.symm; assumption))]; first | assumption | exact hput_self _ _ _ | exact hnew_self _ _ _) | (rw [hnew_ne _ _ _ (by first | assumption | omega | (apply Ne.symm; assumption))]; first | assumption | exact hput_self _ _ _ | exact hnew_self _ _ _))) ?_
  refine x_aload_n dX6_settleRenew_4 rfl rfl ?_
  refine gf_X6_252_1 rfl dX6_settleRenew_5 (by first | exact hA.pe hp | exact hA.f (by omega) | exact hA.ob | first | assumption | exact hput_self _ _ _ | exact hnew_self _ _ _ | (rw [hput_ne _ _ _ (by first | assumption | omega | (apply Ne.symm; assumption))]; first | assumption | exact hput_self _ _ _ | exact hnew_self _ _ _ | (rw [hput_ne _ _ _ (by first | assumption | omega | (apply Ne.symm; assumption))]; first | assumption | exact hput_self _ _ _ | exact hnew_self _ _ _) | (rw [hnew_ne _ _ _ (by first | assumption | omega | (apply Ne.symm; assumption))]; first | assumption | exact hput_self _ _ _ | exact hnew_self _ _ _)) | (rw [hnew_ne _ _ _ (by first | assumption | omega | (apply Ne.symm; assumption))]; first | assumption | exact hput_self _ _ _ | exact hnew_self _ _ _ | (rw [hput_ne _ _ _ (by first | assumption | omega | (apply Ne.symm; assumption))]; first | assumption | exact hput_self _ _ _ | exact hnew_self _ _ _) | (rw [hnew_ne _ _ _ (by first | assumption | omega | (apply Ne.symm; assumption))]; first | assumption | exact hput_self _ _ _ | exact hnew_self _ _ _))) ?_
  refine x_callS dX6_settleRenew_8 ss_X6_206 (Nat.le_of_ble_eq_true rfl) rfl (Nat.le_of_ble_eq_true rfl) rfl ?_
  refine c_min (kc_v dr_2 ?_)
  rw [mn_eq', hwo]
  refine y_istore dX6_settleRenew_11 rfl lvs_8_4 ?_
  refine nw_X6_96 rfl dX6_settleRenew_13 (hr.c (by omega)) (hr.s (by omega)) ?_
  refine x_dup dX6_settleRenew_16 rfl ?_
  refine x_aload_n dX6_settleRenew_17 rfl rfl ?_
  refine gf_X6_202_7 rfl dX6_settleRenew_18 (by first | exact hA.pe hp | exact hA.f (by omega) | exact hA.ob | first | assumption | exact hput_self _ _ _ | exact hnew_self _ _ _ | (rw [hput_ne _ _ _ (by first | assumption | omega | (apply Ne.symm; assumption))]; first | assumption | exact hput_self _ _ _ | exact hnew_self _ _ _ | (rw [hput_ne _ _ _ (by first | assumption | omega | (apply Ne.symm; assumption))]; first | assumption | exact hput_self _ _ _ | exact hnew_self _ _ _) | (rw [hnew_ne _ _ _ (by first | assumption | omega | (apply Ne.symm; assumption))]; first | assumption | exact hput_self _ _ _ | exact hnew_self _ _ _)) | (rw [hnew_ne _ _ _ (by first | assumption | omega | (apply Ne.symm; assumption))]; first | assumption | exact hput_self _ _ _ | exact hnew_self _ _ _ | (rw [hput_ne _ _ _ (by first | assumption | omega | (apply Ne.symm; assumption))]; first | assumption | exact hput_self _ _ _ | exact hnew_self _ _ _) | (rw [hnew_ne _ _ _ (by first | assumption | omega | (apply Ne.symm; assumption))]; first | assumption | exact hput_self _ _ _ | exact hnew_self _ _ _))) ?_
  refine x_aload_n dX6_settleRenew_21 rfl rfl ?_
  refine gf_X6_253_1 rfl dX6_settleRenew_22 (by first | exact hA.pe hp | exact hA.f (by omega) | exact hA.ob | first | assumption | exact hput_self _ _ _ | exact hnew_self _ _ _ | (rw [hput_ne _ _ _ (by first | assumption | omega | (apply Ne.symm; assumption))]; first | assumption | exact hput_self _ _ _ | exact hnew_self _ _ _ | (rw [hput_ne _ _ _ (by first | assumption | omega | (apply Ne.symm; assumption))]; first | assumption | exact hput_self _ _ _ | exact hnew_self _ _ _) | (rw [hnew_ne _ _ _ (by first | assumption | omega | (apply Ne.symm; assumption))]; first | assumption | exact hput_self _ _ _ | exact hnew_self _ _ _)) | (rw [hnew_ne _ _ _ (by first | assumption | omega | (apply Ne.symm; assumption))]; first | assumption | exact hput_self _ _ _ | exact hnew_self _ _ _ | (rw [hput_ne _ _ _ (by first | assumption | omega | (apply Ne.symm; assumption))]; first | assumption | exact hput_self _ _ _ | exact hnew_self _ _ _) | (rw [hnew_ne _ _ _ (by first | assumption | omega | (apply Ne.symm; assumption))]; first | assumption | exact hput_self _ _ _ | exact hnew_self _ _ _))) ?_
  refine x_aload_n dX6_settleRenew_25 rfl rfl ?_
  refine gf_X6_104_2 rfl dX6_settleRenew_26 (by first | exact hA.pe hp | exact hA.f (by omega) | exact hA.ob | first | assumption | exact hput_self _ _ _ | exact hnew_self _ _ _ | (rw [hput_ne _ _ _ (by first | assumption | omega | (apply Ne.symm; assumption))]; first | assumption | exact hput_self _ _ _ | exact hnew_self _ _ _ | (rw [hput_ne _ _ _ (by first | assumption | omega | (apply Ne.symm; assumption))]; first | assumption | exact hput_self _ _ _ | exact hnew_self _ _ _) | (rw [hnew_ne _ _ _ (by first | assumption | omega | (apply Ne.symm; assumption))]; first | assumption | exact hput_self _ _ _ | exact hnew_self _ _ _)) | (rw [hnew_ne _ _ _ (by first | assumption | omega | (apply Ne.symm; assumption))]; first | assumption | exact hput_self _ _ _ | exact hnew_self _ _ _ | (rw [hput_ne _ _ _ (by first | assumption | omega | (apply Ne.symm; assumption))]; first | assumption | exact hput_self _ _ _ | exact hnew_self _ _ _) | (rw [hnew_ne _ _ _ (by first | assumption | omega | (apply Ne.symm; assumption))]; first | assumption | exact hput_self _ _ _ | exact hnew_self _ _ _))) ?_
  refine x_aload_n dX6_settleRenew_29 rfl rfl ?_
  refine gf_X6_98_2 rfl dX6_settleRenew_30 (by first | exact hA.pe hp | exact hA.f (by omega) | exact hA.ob | first | assumption | exact hput_self _ _ _ | exact hnew_self _ _ _ | (rw [hput_ne _ _ _ (by first | assumption | omega | (apply Ne.symm; assumption))]; first | assumption | exact hput_self _ _ _ | exact hnew_self _ _ _ | (rw [hput_ne _ _ _ (by first | assumption | omega | (apply Ne.symm; assumption))]; first | assumption | exact hput_self _ _ _ | exact hnew_self _ _ _) | (rw [hnew_ne _ _ _ (by first | assumption | omega | (apply Ne.symm; assumption))]; first | assumption | exact hput_self _ _ _ | exact hnew_self _ _ _)) | (rw [hnew_ne _ _ _ (by first | assumption | omega | (apply Ne.symm; assumption))]; first | assumption | exact hput_self _ _ _ | exact hnew_self _ _ _ | (rw [hput_ne _ _ _ (by first | assumption | omega | (apply Ne.symm; assumption))]; first | assumption | exact hput_self _ _ _ | exact hnew_self _ _ _) | (rw [hnew_ne _ _ _ (by first | assumption | omega | (apply Ne.symm; assumption))]; first | assumption | exact hput_self _ _ _ | exact hnew_self _ _ _))) ?_
  refine x_iconst (v := nI 1) dX6_settleRenew_33 (by decide) ?_
  refine x_iload dX6_settleRenew_34 rfl ?_
  refine x_callI dX6_settleRenew_36 si_X6_212 rfl rfl (Nat.le_of_ble_eq_true rfl) rfl ?_
  refine c_childInit (b := true) (hnew_self _ _ _) (kc_n dr_7 ?_)
  rw [hput_hnew]
  obtain ⟨hA1, hK1⟩ := hA.mk1 hwf (.inr (2, [.int (pk 4), .int (md 4), .ref da, .int (kd 0), .int (bI true), .int worth])) 6 (by omega)
  have hA0 := hA
  replace hA := hA1
  refine y_astore dX6_settleRenew_39 rfl rfl lvs_8_5 ?_
  refine x_aload_n dX6_settleRenew_41 rfl rfl ?_
  refine x_aload dX6_settleRenew_42 rfl rfl ?_
  refine x_callV dX6_settleRenew_44 sv_X6_215_6 rfl (by first | exact hA.pe hp | exact hA.f (by omega) | exact hA.ob | first | assumption | exact hput_self _ _ _ | exact hnew_self _ _ _ | (rw [hput_ne _ _ _ (by first | assumption | omega | (apply Ne.symm; assumption))]; first | assumption | exact hput_self _ _ _ | exact hnew_self _ _ _ | (rw [hput_ne _ _ _ (by first | assumption | omega | (apply Ne.symm; assumption))]; first | assumption | exact hput_self _ _ _ | exact hnew_self _ _ _) | (rw [hnew_ne _ _ _ (by first | assumption | omega | (apply Ne.symm; assumption))]; first | assumption | exact hput_self _ _ _ | exact hnew_self _ _ _)) | (rw [hnew_ne _ _ _ (by first | assumption | omega | (apply Ne.symm; assumption))]; first | assumption | exact hput_self _ _ _ | exact hnew_self _ _ _ | (rw [hput_ne _ _ _ (by first | assumption | omega | (apply Ne.symm; assumption))]; first | assumption | exact hput_self _ _ _ | exact hnew_self _ _ _) | (rw [hnew_ne _ _ _ (by first | assumption | omega | (apply Ne.symm; assumption))]; first | assumption | exact hput_self _ _ _ | exact hnew_self _ _ _))) rfl (Nat.le_of_ble_eq_true rfl) rfl ?_
  have hkid : kidO (hnew h (.inr (2, [.int (pk 4), .int (md 4), .ref da, .int (kd 0), .int (bI true), .int worth])) 6) z h.2.1 (kdL (pk 4) (md 4) (pk 9) (pk 7) (pk 8) (pk 6) (nI 1) worth) := by
    refine ⟨hzh, ⟨da, ?_, ?_⟩, true, rfl⟩
    · rw [e6]
      exact hnew_self _ _ _
    · rw [e7, e8, e9]
      exact hd.kept hK1.kp
  refine k_keep hA hp hkid hl (hr.after hK1 (by omega)) (fun h2 E2 X2 hA2 hK2 => kc_n dr_2 ?_)
  have hK := hK1.trans hK2
  replace hkd := hkd.kept hK.kp
  replace hkid := hkid.kept hK2.kp
  obtain ⟨-, ⟨da2, hkc2, -⟩, -⟩ := id hkd
  obtain ⟨-, ⟨da3, hfc, -⟩, -⟩ := id hkid
  have hki : ∀ k : Nat, k < (u.ki p).length → ((kiIn u p (kdL (pk 4) (md 4) (pk 9) (pk 7) (pk 8) (pk 6) (nI 1) worth)).ki p)[k]? = (u.ki p)[k]? := by
    intro k hk
    unfold kiIn
    split
    · show (va_up u.ki p _ p)[k]? = _
      rw [va_up_self, List.getElem?_append_left hk]
    · rfl
  have hfi : ((kiIn u p (kdL (pk 4) (md 4) (pk 9) (pk 7) (pk 8) (pk 6) (nI 1) worth)).ki p).findIdx? (fun e => decide (e 5 = pk 6 ∧ e 6 = nI 0)) = (u.ki p).findIdx? (fun e => decide (e 5 = pk 6 ∧ e 6 = nI 0)) := by
    unfold kiIn
    split
    · rw [show (u.w_ki p (u.ki p ++ [kdL (pk 4) (md 4) (pk 9) (pk 7) (pk 8) (pk 6) (nI 1) worth])).ki p = u.ki p ++ [kdL (pk 4) (md 4) (pk 9) (pk 7) (pk 8) (pk 6) (nI 1) worth] from va_up_self _ _ _]
      exact fi_app (decide_eq_false (fun q => absurd (show nI 1 = nI 0 from q.2) (by decide)))
    · rfl
  have hl2 : ((kiIn u p (kdL (pk 4) (md 4) (pk 9) (pk 7) (pk 8) (pk 6) (nI 1) worth)).ki p).length ≤ 16 := by
    unfold kiIn
    split
    · show (va_up u.ki p _ p).length ≤ 16
      rw [va_up_self, List.length_append, List.length_singleton]
      omega
    · exact hl
  have hwi2 : (kiIn u p (kdL (pk 4) (md 4) (pk 9) (pk 7) (pk 8) (pk 6) (nI 1) worth)).wi = u.wi := by
    unfold kiIn
    split <;> rfl
  unfold renU at hq
  generalize kiIn u p (kdL (pk 4) (md 4) (pk 9) (pk 7) (pk 8) (pk 6) (nI 1) worth) = v at hq hA2 hki hfi hl2 hwi2
  rw [← hwi2] at hq hw
  replace hA := hA2
  have hr2 := hr.after hK (k2 := 2) (by omega)
  refine x_aload_n dX6_settleRenew_47 rfl rfl ?_
  refine x_aload_n dX6_settleRenew_48 rfl rfl ?_
  refine gf_X6_98_2 rfl dX6_settleRenew_49 (by first | exact hA.pe hp | exact hA.f (by omega) | exact hA.ob | first | assumption | exact hput_self _ _ _ | exact hnew_self _ _ _ | (rw [hput_ne _ _ _ (by first | assumption | omega | (apply Ne.symm; assumption))]; first | assumption | exact hput_self _ _ _ | exact hnew_self _ _ _ | (rw [hput_ne _ _ _ (by first | assumption | omega | (apply Ne.symm; assumption))]; first | assumption | exact hput_self _ _ _ | exact hnew_self _ _ _) | (rw [hnew_ne _ _ _ (by first | assumption | omega | (apply Ne.symm; assumption))]; first | assumption | exact hput_self _ _ _ | exact hnew_self _ _ _)) | (rw [hnew_ne _ _ _ (by first | assumption | omega | (apply Ne.symm; assumption))]; first | assumption | exact hput_self _ _ _ | exact hnew_self _ _ _ | (rw [hput_ne _ _ _ (by first | assumption | omega | (apply Ne.symm; assumption))]; first | assumption | exact hput_self _ _ _ | exact hnew_self _ _ _) | (rw [hnew_ne _ _ _ (by first | assumption | omega | (apply Ne.symm; assumption))]; first | assumption | exact hput_self _ _ _ | exact hnew_self _ _ _))) ?_
  refine x_iconst (v := nI 0) dX6_settleRenew_52 (by decide) ?_
  refine x_callV dX6_settleRenew_53 sv_X6_153_6 rfl (by first | exact hA.pe hp | exact hA.f (by omega) | exact hA.ob | first | assumption | exact hput_self _ _ _ | exact hnew_self _ _ _ | (rw [hput_ne _ _ _ (by first | assumption | omega | (apply Ne.symm; assumption))]; first | assumption | exact hput_self _ _ _ | exact hnew_self _ _ _ | (rw [hput_ne _ _ _ (by first | assumption | omega | (apply Ne.symm; assumption))]; first | assumption | exact hput_self _ _ _ | exact hnew_self _ _ _) | (rw [hnew_ne _ _ _ (by first | assumption | omega | (apply Ne.symm; assumption))]; first | assumption | exact hput_self _ _ _ | exact hnew_self _ _ _)) | (rw [hnew_ne _ _ _ (by first | assumption | omega | (apply Ne.symm; assumption))]; first | assumption | exact hput_self _ _ _ | exact hnew_self _ _ _ | (rw [hput_ne _ _ _ (by first | assumption | omega | (apply Ne.symm; assumption))]; first | assumption | exact hput_self _ _ _ | exact hnew_self _ _ _) | (rw [hnew_ne _ _ _ (by first | assumption | omega | (apply Ne.symm; assumption))]; first | assumption | exact hput_self _ _ _ | exact hnew_self _ _ _))) rfl (Nat.le_of_ble_eq_true rfl) rfl ?_
  refine k_renewalOf hA hp hl2 (kc_v dr_3 ?_)
  rw [show kd 0 = pk 6 from e6.symm, show (List.findIdx? (fun kd => decide (kd 5 = pk 6 ∧ kd 6 = nI 0)) (v.ki p)) = _ from hfi]
  generalize hg : (u.ki p).findIdx? (fun e => decide (e 5 = pk 6 ∧ e 6 = nI 0)) = o at hq ⊢
  cases o with
  | none =>
    show Jx _ _ _ _ _ _ [.null] _
    refine y_astore dX6_settleRenew_56 rfl rfl lvs_8_6 ?_
    refine x_aload (v := va_rf none) dX6_settleRenew_58 rfl rfl ?_
    refine x_ifnull (tgt := 78) dX6_settleRenew_60 (by decide) (fun c1 => ?_) (fun c1a c1 => ?_)
    · refine x_iconst (v := nI 0) dX6_settleRenew_78 (by decide) ?_
      refine k_sr_wish (b := false) hA hp hfc hkc2 hw hr2 (fun h' E' X' q1 q2 => hq h' E' X' ?_ ((hK.trans q2).mono (by omega)))
      rw [show kd 0 = pk 6 from e6.symm] at q1
      exact q1
    · cases c1
  | some k =>
    obtain ⟨hkl2, -⟩ := fi_at hg
    have hkv : (v.ki p)[k]? = some (u.ki p)[k] := by rw [hki k hkl2, List.getElem?_eq_getElem hkl2]
    have hkx : k < (X2 1 p).length := by
      rw [(hA.ki hp).1]
      exact (List.getElem?_eq_some_iff.mp hkv).1
    have hrv := (hA.ki hp).at hkx hkv
    obtain ⟨-, ⟨da4, hvc, -⟩, -⟩ := id hrv
    have hgd : (u.ki p).getD k (fun _ => 0) = (u.ki p)[k] := by rw [List.getD_eq_getElem?_getD, List.getElem?_eq_getElem hkl2]; rfl
    simp only [adr, List.getElem?_eq_getElem hkx]
    simp only [mineB, hgd] at hq
    show Jx _ _ _ _ _ _ [.ref (X2 1 p)[k]] _
    refine y_astore dX6_settleRenew_56 rfl rfl lvs_8_6 ?_
    refine x_aload (v := va_rf (some (X2 1 p)[k])) dX6_settleRenew_58 rfl rfl ?_
    refine x_ifnull (tgt := 78) dX6_settleRenew_60 (by decide) (fun c1 => ?_) (fun c1a c1 => ?_)
    · cases c1
    refine x_aload_n dX6_settleRenew_63 rfl rfl ?_
    refine x_aload dX6_settleRenew_64 rfl rfl ?_
    refine x_aload dX6_settleRenew_66 rfl rfl ?_
    refine x_callV dX6_settleRenew_68 sv_X6_262_6 rfl (by first | exact hA.pe hp | exact hA.f (by omega) | exact hA.ob | first | assumption | exact hput_self _ _ _ | exact hnew_self _ _ _ | (rw [hput_ne _ _ _ (by first | assumption | omega | (apply Ne.symm; assumption))]; first | assumption | exact hput_self _ _ _ | exact hnew_self _ _ _ | (rw [hput_ne _ _ _ (by first | assumption | omega | (apply Ne.symm; assumption))]; first | assumption | exact hput_self _ _ _ | exact hnew_self _ _ _) | (rw [hnew_ne _ _ _ (by first | assumption | omega | (apply Ne.symm; assumption))]; first | assumption | exact hput_self _ _ _ | exact hnew_self _ _ _)) | (rw [hnew_ne _ _ _ (by first | assumption | omega | (apply Ne.symm; assumption))]; first | assumption | exact hput_self _ _ _ | exact hnew_self _ _ _ | (rw [hput_ne _ _ _ (by first | assumption | omega | (apply Ne.symm; assumption))]; first | assumption | exact hput_self _ _ _ | exact hnew_self _ _ _) | (rw [hnew_ne _ _ _ (by first | assumption | omega | (apply Ne.symm; assumption))]; first | assumption | exact hput_self _ _ _ | exact hnew_self _ _ _))) rfl (Nat.le_of_ble_eq_true rfl) rfl ?_
    refine k_loses hA hp hfc hvc (kc_v dr_3 ?_)
    show Jx _ _ _ _ _ _ [.int (bI (decide (worth < (u.ki p)[k] 7 ∨ worth = (u.ki p)[k] 7 ∧ p = 0)))] _
    generalize decide (worth < (u.ki p)[k] 7 ∨ worth = (u.ki p)[k] 7 ∧ p = 0) = c at hq ⊢
    cases c with
    | true =>
      refine x_if_eq (tgt := 78) dX6_settleRenew_71 (by decide) (fun c2 => ?_) (fun c2 => ?_)
      · exact absurd c2 (by decide)
      refine x_iconst (v := nI 1) dX6_settleRenew_74 (by decide) ?_
      refine x_goto (tgt := 79) dX6_settleRenew_75 (by decide) ?_
      refine k_sr_wish (b := true) hA hp hfc hkc2 hw hr2 (fun h' E' X' q1 q2 => hq _ _ _ q1 ((hK.trans q2).mono (by omega)))
    | false =>
      refine x_if_eq (tgt := 78) dX6_settleRenew_71 (by decide) (fun c2 => ?_) (fun c2 => ?_)
      · refine x_iconst (v := nI 0) dX6_settleRenew_78 (by decide) ?_
        refine k_sr_wish (b := false) hA hp hfc hkc2 hw hr2 (fun h' E' X' q1 q2 => hq h' E' X' ?_ ((hK.trans q2).mono (by omega)))
        rw [show kd 0 = pk 6 from e6.symm] at q1
        exact q1
      · exact absurd rfl c2
end K11X
