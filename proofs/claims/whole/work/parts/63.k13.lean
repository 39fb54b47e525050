def clrP (u : Ut) (p : Nat) : Ut := ((((((((((u.w_su p []).w_lo p (nI 0)).w_hi p (nI 1000)).w_no p (nI p)).w_mk p (nI (p + 1))).w_ki p []).w_wi p []).w_ou p none).w_nn p 0).w_na p 0).w_de p false
theorem w_la_self (u : Ut) (p : Nat) : u.w_la p (u.la p) = u := by
  have : va_up u.la p (u.la p) = u.la := by
    funext q
    by_cases e : q = p
    · subst e
      rw [va_up_self]
    · rw [va_up_ne _ _ e]
  show (u.su, u.lo, u.hi, u.no, u.mk, u.ki, u.wi, u.de, u.ou, u.se, u.wt, u.sp, u.nn, u.na, va_up u.la p (u.la p), u.fl) = u
  rw [this]
section K13X
variable {G : GT} {d : Nat} {Q : Outcome → Hp → Prop} {h : Hp} {x z p : Nat} {u : Ut} {E : Nat → Nat → Nat} {X : Nat → Nat → List Nat} {ov lv : Nat → Option Nat} {sf : Nat → Nat → Int32}
theorem k_isLike {a b : Nat} {s l g s' l' g' : Int32} (ha : dealO h z a s l g) (hb : dealO h z b s' l' g') (hq : Q (.returned (some (.int (bI (decide (s = s' ∧ l = l' ∧ g = g')))))) h) : Cx G mX2_isLike d [.ref a, .ref b] h Q := by
  show Jx G mX2_isLike d Q 0 [some (.ref a), some (.ref b)] [] h
  have hac := ha.2
  have hbc := hb.2
  refine x_aload_n dX2_isLike_0 rfl rfl ?_
  refine gf_X2_7_3 rfl dX2_isLike_1 hac ?_
  refine x_aload_n dX2_isLike_4 rfl rfl ?_
  refine gf_X2_7_3 rfl dX2_isLike_5 hbc ?_
  refine x_icmp_ne (tgt := 37) dX2_isLike_8 (by decide) (fun c1 => ?_) (fun c1 => ?_)
  · rw [decide_eq_false (fun q => c1 q.1)] at hq
    refine x_iconst (v := nI 0) dX2_isLike_37 (by decide) ?_
    refine x_zreturn dX2_isLike_38 rfl (by first | rfl | assumption) ?_
    exact hq
  refine x_aload_n dX2_isLike_11 rfl rfl ?_
  refine gf_X2_13_3 rfl dX2_isLike_12 hac ?_
  refine x_aload_n dX2_isLike_15 rfl rfl ?_
  refine gf_X2_13_3 rfl dX2_isLike_16 hbc ?_
  refine x_icmp_ne (tgt := 37) dX2_isLike_19 (by decide) (fun c2 => ?_) (fun c2 => ?_)
  · rw [decide_eq_false (fun q => c2 q.2.1)] at hq
    refine x_iconst (v := nI 0) dX2_isLike_37 (by decide) ?_
    refine x_zreturn dX2_isLike_38 rfl (by first | rfl | assumption) ?_
    exact hq
  refine x_aload_n dX2_isLike_22 rfl rfl ?_
  refine gf_X2_16_3 rfl dX2_isLike_23 hac ?_
  refine x_aload_n dX2_isLike_26 rfl rfl ?_
  refine gf_X2_16_3 rfl dX2_isLike_27 hbc ?_
  refine x_icmp_ne (tgt := 37) dX2_isLike_30 (by decide) (fun c3 => ?_) (fun c3 => ?_)
  · rw [decide_eq_false (fun q => c3 q.2.2)] at hq
    refine x_iconst (v := nI 0) dX2_isLike_37 (by decide) ?_
    refine x_zreturn dX2_isLike_38 rfl (by first | rfl | assumption) ?_
    exact hq
  · rw [decide_eq_true ⟨c1, c2, c3⟩] at hq
    refine x_iconst (v := nI 1) dX2_isLike_33 (by decide) ?_
    refine x_goto (tgt := 38) dX2_isLike_34 (by decide) ?_
    refine x_zreturn dX2_isLike_38 rfl (by first | rfl | assumption) ?_
    exact hq
theorem k_sh_loop {ca : Nat} {a : Nat → Int32} (hA : RA G h x z u E X ov lv sf) (hp : p < 2) (hca : kidO h z ca a) (hl : (u.ki p).length ≤ 16) (hq : Q (.returned (some (.int (bI ((u.ki p).any (fun b => sameK a b)))))) h) : ∀ (q k : Nat) (z3 : Option Value), k + q = (u.ki p).length → ((u.ki p).drop k).any (fun b => sameK a b) = (u.ki p).any (fun b => sameK a b) → Jx G mX6_sharesChild (d + 3) Q 2 [some (.ref (aP x p)), some (.ref ca), some (.int (nI k)), z3] [] h := by
  have hL := hA.l (c := 1) (by omega) hp
  obtain ⟨m1, hm1⟩ := hL.sh
  have hx := (hA.ki hp).1
  obtain ⟨-, ⟨da, hac, hda⟩, -⟩ := id hca
  intro q
  induction q with
  | zero =>
    intro k z3 hk hn
    refine x_iload_n dX6_sharesChild_2 rfl ?_
    refine x_aload_n dX6_sharesChild_3 rfl rfl ?_
    refine gf_X6_18_6 rfl dX6_sharesChild_4 (by first | exact hA.pe hp | exact hA.f (by omega) | exact hA.ob | first | assumption | exact hput_self _ _ _ | exact hnew_self _ _ _ | (rw [hput_ne _ _ _ (by first | assumption | omega | (apply Ne.symm; assumption))]; first | assumption | exact hput_self _ _ _ | exact hnew_self _ _ _ | (rw [hput_ne _ _ _ (by first | assumption | omega | (apply Ne.symm; assumption))]; first | assumption | exact hput_self _ _ _ | exact hnew_self _ _ _) | (rw [hnew_ne _ _ _ (by first | assumption | omega | (apply Ne.symm; assumption))]; first | assumption | exact hput_self _ _ _ | exact hnew_self _ _ _)) | (rw [hnew_ne _ _ _ (by first | assumption | omega | (apply Ne.symm; assumption))]; first | assumption | exact hput_self _ _ _ | exact hnew_self _ _ _ | (rw [hput_ne _ _ _ (by first | assumption | omega | (apply Ne.symm; assumption))]; first | assumption | exact hput_self _ _ _ | exact hnew_self _ _ _) | (rw [hnew_ne _ _ _ (by first | assumption | omega | (apply Ne.symm; assumption))]; first | assumption | exact hput_self _ _ _ | exact hnew_self _ _ _))) ?_
    refine x_callF dX6_sharesChild_7 sf_X6_88_0 rfl (by first | exact hA.pe hp | exact hA.f (by omega) | exact hA.ob | first | assumption | exact hput_self _ _ _ | exact hnew_self _ _ _ | (rw [hput_ne _ _ _ (by first | assumption | omega | (apply Ne.symm; assumption))]; first | assumption | exact hput_self _ _ _ | exact hnew_self _ _ _ | (rw [hput_ne _ _ _ (by first | assumption | omega | (apply Ne.symm; assumption))]; first | assumption | exact hput_self _ _ _ | exact hnew_self _ _ _) | (rw [hnew_ne _ _ _ (by first | assumption | omega | (apply Ne.symm; assumption))]; first | assumption | exact hput_self _ _ _ | exact hnew_self _ _ _)) | (rw [hnew_ne _ _ _ (by first | assumption | omega | (apply Ne.symm; assumption))]; first | assumption | exact hput_self _ _ _ | exact hnew_self _ _ _ | (rw [hput_ne _ _ _ (by first | assumption | omega | (apply Ne.symm; assumption))]; first | assumption | exact hput_self _ _ _ | exact hnew_self _ _ _) | (rw [hnew_ne _ _ _ (by first | assumption | omega | (apply Ne.symm; assumption))]; first | assumption | exact hput_self _ _ _ | exact hnew_self _ _ _))) rfl (Nat.le_of_ble_eq_true rfl) rfl ?_
    refine c_sizeL hL (kc_v dr_1 ?_)
    rw [hx]
    refine x_icmp_ge (tgt := 73) dX6_sharesChild_12 (by decide) (fun c1 => ?_) (fun c1 => ?_)
    · rw [List.drop_eq_nil_of_le (by omega), List.any_nil] at hn
      rw [← hn] at hq
      refine x_iconst (v := nI 0) dX6_sharesChild_73 (by decide) ?_
      refine x_zreturn dX6_sharesChild_74 rfl (by first | rfl | assumption) ?_
      exact hq
    · exact absurd (nI_le (by omega) (by omega)) c1
  | succ q ih =>
    intro k z3 hk hn
    have hkl : k < (u.ki p).length := by omega
    have hkx : k < (X 1 p).length := by omega
    obtain ⟨-, ⟨db, hbc, hdb⟩, -⟩ := (hA.ki hp).at hkx (List.getElem?_eq_getElem hkl)
    rw [List.drop_eq_getElem_cons hkl, List.any_cons] at hn
    have next : sameK a (u.ki p)[k] = false → Jx G mX6_sharesChild (d + 3) Q 67 [some (.ref (aP x p)), some (.ref ca), some (.int (nI k)), some (.ref (X 1 p)[k])] [] h := by
      intro e
      rw [e, Bool.false_or] at hn
      refine y_iinc (k := nI 1) dX6_sharesChild_67 rfl (by decide) lvs_4_2 ?_
      try simp only [pk_mul, nI_add]
      refine x_goto (tgt := 2) dX6_sharesChild_70 (by decide) ?_
      exact ih (k + 1) _ (by omega) hn
    refine x_iload_n dX6_sharesChild_2 rfl ?_
    refine x_aload_n dX6_sharesChild_3 rfl rfl ?_
    refine gf_X6_18_6 rfl dX6_sharesChild_4 (by first | exact hA.pe hp | exact hA.f (by omega) | exact hA.ob | first | assumption | exact hput_self _ _ _ | exact hnew_self _ _ _ | (rw [hput_ne _ _ _ (by first | assumption | omega | (apply Ne.symm; assumption))]; first | assumption | exact hput_self _ _ _ | exact hnew_self _ _ _ | (rw [hput_ne _ _ _ (by first | assumption | omega | (apply Ne.symm; assumption))]; first | assumption | exact hput_self _ _ _ | exact hnew_self _ _ _) | (rw [hnew_ne _ _ _ (by first | assumption | omega | (apply Ne.symm; assumption))]; first | assumption | exact hput_self _ _ _ | exact hnew_self _ _ _)) | (rw [hnew_ne _ _ _ (by first | assumption | omega | (apply Ne.symm; assumption))]; first | assumption | exact hput_self _ _ _ | exact hnew_self _ _ _ | (rw [hput_ne _ _ _ (by first | assumption | omega | (apply Ne.symm; assumption))]; first | assumption | exact hput_self _ _ _ | exact hnew_self _ _ _) | (rw [hnew_ne _ _ _ (by first | assumption | omega | (apply Ne.symm; assumption))]; first | assumption | exact hput_self _ _ _ | exact hnew_self _ _ _))) ?_
    refine x_callF dX6_sharesChild_7 sf_X6_88_0 rfl (by first | exact hA.pe hp | exact hA.f (by omega) | exact hA.ob | first | assumption | exact hput_self _ _ _ | exact hnew_self _ _ _ | (rw [hput_ne _ _ _ (by first | assumption | omega | (apply Ne.symm; assumption))]; first | assumption | exact hput_self _ _ _ | exact hnew_self _ _ _ | (rw [hput_ne _ _ _ (by first | assumption | omega | (apply Ne.symm; assumption))]; first | assumption | exact hput_self _ _ _ | exact hnew_self _ _ _) | (rw [hnew_ne _ _ _ (by first | assumption | omega | (apply Ne.symm; assumption))]; first | assumption | exact hput_self _ _ _ | exact hnew_self _ _ _)) | (rw [hnew_ne _ _ _ (by first | assumption | omega | (apply Ne.symm; assumption))]; first | assumption | exact hput_self _ _ _ | exact hnew_self _ _ _ | (rw [hput_ne _ _ _ (by first | assumption | omega | (apply Ne.symm; assumption))]; first | assumption | exact hput_self _ _ _ | exact hnew_self _ _ _) | (rw [hnew_ne _ _ _ (by first | assumption | omega | (apply Ne.symm; assumption))]; first | assumption | exact hput_self _ _ _ | exact hnew_self _ _ _))) rfl (Nat.le_of_ble_eq_true rfl) rfl ?_
    refine c_sizeL hL (kc_v dr_1 ?_)
    rw [hx]
    refine x_icmp_ge (tgt := 73) dX6_sharesChild_12 (by decide) (fun c1 => ?_) (fun c1 => ?_)
    · exact absurd ((nI_leI (by omega) (by omega)).mp c1) (by omega)
    refine x_aload_n dX6_sharesChild_15 rfl rfl ?_
    refine gf_X6_18_6 rfl dX6_sharesChild_16 (by first | exact hA.pe hp | exact hA.f (by omega) | exact hA.ob | first | assumption | exact hput_self _ _ _ | exact hnew_self _ _ _ | (rw [hput_ne _ _ _ (by first | assumption | omega | (apply Ne.symm; assumption))]; first | assumption | exact hput_self _ _ _ | exact hnew_self _ _ _ | (rw [hput_ne _ _ _ (by first | assumption | omega | (apply Ne.symm; assumption))]; first | assumption | exact hput_self _ _ _ | exact hnew_self _ _ _) | (rw [hnew_ne _ _ _ (by first | assumption | omega | (apply Ne.symm; assumption))]; first | assumption | exact hput_self _ _ _ | exact hnew_self _ _ _)) | (rw [hnew_ne _ _ _ (by first | assumption | omega | (apply Ne.symm; assumption))]; first | assumption | exact hput_self _ _ _ | exact hnew_self _ _ _ | (rw [hput_ne _ _ _ (by first | assumption | omega | (apply Ne.symm; assumption))]; first | assumption | exact hput_self _ _ _ | exact hnew_self _ _ _) | (rw [hnew_ne _ _ _ (by first | assumption | omega | (apply Ne.symm; assumption))]; first | assumption | exact hput_self _ _ _ | exact hnew_self _ _ _))) ?_
    refine x_iload_n dX6_sharesChild_19 rfl ?_
    refine x_callF dX6_sharesChild_20 sf_X6_92_0 rfl (by first | exact hA.pe hp | exact hA.f (by omega) | exact hA.ob | first | assumption | exact hput_self _ _ _ | exact hnew_self _ _ _ | (rw [hput_ne _ _ _ (by first | assumption | omega | (apply Ne.symm; assumption))]; first | assumption | exact hput_self _ _ _ | exact hnew_self _ _ _ | (rw [hput_ne _ _ _ (by first | assumption | omega | (apply Ne.symm; assumption))]; first | assumption | exact hput_self _ _ _ | exact hnew_self _ _ _) | (rw [hnew_ne _ _ _ (by first | assumption | omega | (apply Ne.symm; assumption))]; first | assumption | exact hput_self _ _ _ | exact hnew_self _ _ _)) | (rw [hnew_ne _ _ _ (by first | assumption | omega | (apply Ne.symm; assumption))]; first | assumption | exact hput_self _ _ _ | exact hnew_self _ _ _ | (rw [hput_ne _ _ _ (by first | assumption | omega | (apply Ne.symm; assumption))]; first | assumption | exact hput_self _ _ _ | exact hnew_self _ _ _) | (rw [hnew_ne _ _ _ (by first | assumption | omega | (apply Ne.symm; assumption))]; first | assumption | exact hput_self _ _ _ | exact hnew_self _ _ _))) rfl (Nat.le_of_ble_eq_true rfl) rfl ?_
    refine c_getL hL hkx (kc_v dr_2 ?_)
    refine x_castObj dX6_sharesChild_25 hbc ck_X6_96 ca_2_Child ?_
    refine y_astore_n dX6_sharesChild_28 rfl rfl lvs_4_3 ?_
    refine x_aload_n dX6_sharesChild_29 rfl rfl ?_
    refine gf_X6_98_2 rfl dX6_sharesChild_30 hbc ?_
    refine x_aload_n dX6_sharesChild_33 rfl rfl ?_
    refine gf_X6_101_2 rfl dX6_sharesChild_34 hac ?_
    refine x_icmp_ne (tgt := 67) dX6_sharesChild_37 (by decide) (fun c2 => ?_) (fun c2 => ?_)
    · exact next (decide_eq_false (fun q => c2 q.2.1.symm))
    refine x_aload_n dX6_sharesChild_40 rfl rfl ?_
    refine gf_X6_101_2 rfl dX6_sharesChild_41 hbc ?_
    refine x_aload_n dX6_sharesChild_44 rfl rfl ?_
    refine gf_X6_98_2 rfl dX6_sharesChild_45 hac ?_
    refine x_icmp_ne (tgt := 67) dX6_sharesChild_48 (by decide) (fun c3 => ?_) (fun c3 => ?_)
    · exact next (decide_eq_false (fun q => c3 q.1.symm))
    refine x_aload_n dX6_sharesChild_51 rfl rfl ?_
    refine gf_X6_104_2 rfl dX6_sharesChild_52 hbc ?_
    refine x_aload_n dX6_sharesChild_55 rfl rfl ?_
    refine gf_X6_104_2 rfl dX6_sharesChild_56 hac ?_
    refine x_callV dX6_sharesChild_59 sv_X6_108_3 rfl hdb.2 rfl (Nat.le_of_ble_eq_true rfl) rfl ?_
    refine k_isLike hdb hda (kc_v dr_2 ?_)
    by_cases e : (u.ki p)[k] 2 = a 2 ∧ (u.ki p)[k] 3 = a 3 ∧ (u.ki p)[k] 4 = a 4
    · rw [decide_eq_true e]
      refine x_if_eq (tgt := 67) dX6_sharesChild_62 (by decide) (fun c4 => ?_) (fun c4 => ?_)
      · exact absurd c4 (by decide)
      refine x_iconst (v := nI 1) dX6_sharesChild_65 (by decide) ?_
      refine x_zreturn dX6_sharesChild_66 rfl (by first | rfl | assumption) ?_
      rw [show sameK a (u.ki p)[k] = true from decide_eq_true ⟨(show (u.ki p)[k] 1 = a 0 from c3).symm, (show (u.ki p)[k] 0 = a 1 from c2).symm, e.1.symm, e.2.1.symm, e.2.2.symm⟩, Bool.true_or] at hn
      rw [← hn] at hq
      exact hq
    · rw [decide_eq_false e]
      refine x_if_eq (tgt := 67) dX6_sharesChild_62 (by decide) (fun c4 => ?_) (fun c4 => ?_)
      · exact next (decide_eq_false (fun q => e ⟨q.2.2.1.symm, q.2.2.2.1.symm, q.2.2.2.2.symm⟩))
      · exact absurd rfl c4
theorem k_sharesChild {ca : Nat} {a : Nat → Int32} (hA : RA G h x z u E X ov lv sf) (hp : p < 2) (hca : kidO h z ca a) (hl : (u.ki p).length ≤ 16) (hq : Q (.returned (some (.int (bI ((u.ki p).any (fun b => sameK a b)))))) h) : Cx G mX6_sharesChild (d + 3) [.ref (aP x p), .ref ca] h Q := by
  show Jx G mX6_sharesChild (d + 3) Q 0 [some (.ref (aP x p)), some (.ref ca), none, none] [] h
  refine x_iconst (v := nI 0) dX6_sharesChild_0 (by decide) ?_
  refine y_istore_n dX6_sharesChild_1 rfl lvs_4_2 ?_
  exact k_sh_loop hA hp hca hl hq _ 0 _ (Nat.zero_add _) rfl
theorem k_childFact {a w : Nat} {kd : Nat → Int32} (hk : kidO h z a kd) (hw : w ≤ 7) (hq : Q (.returned (some (.int (kd w)))) h) : Cx G mX1_fact d [.ref a, .int (nI w)] h Q := by
  show Jx G mX1_fact d Q 0 [some (.ref a), some (.int (nI w))] [] h
  obtain ⟨-, ⟨da, hc, -, hd⟩, b, hb⟩ := hk
  refine x_iload_n dX1_fact_0 rfl ?_
  rcases (show w = 0 ∨ w = 1 ∨ w = 2 ∨ w = 3 ∨ w = 4 ∨ w = 5 ∨ w = 6 ∨ w = 7 by omega) with rfl | rfl | rfl | rfl | rfl | rfl | rfl | rfl
  · refine x_tableIn (off := 43) (tgt := 44) dX1_fact_1 (by decide) (by decide) (by decide) (by decide) ?_
    refine x_aload_n dX1_fact_44 rfl rfl ?_
    refine gf_X1_7_2 rfl dX1_fact_45 (by first | exact hA.pe hp | exact hA.f (by omega) | exact hA.ob | first | assumption | exact hput_self _ _ _ | exact hnew_self _ _ _ | (rw [hput_ne _ _ _ (by first | assumption | omega | (apply Ne.symm; assumption))]; first | assumption | exact hput_self _ _ _ | exact hnew_self _ _ _ | (rw [hput_ne _ _ _ (by first | assumption | omega | (apply Ne.symm; assumption))]; first | assumption | exact hput_self _ _ _ | exact hnew_self _ _ _) | (rw [hnew_ne _ _ _ (by first | assumption | omega | (apply Ne.symm; assumption))]; first | assumption | exact hput_self _ _ _ | exact hnew_self _ _ _)) | (rw [hnew_ne _ _ _ (by first | assumption | omega | (apply Ne.symm; assumption))]; first | assumption | exact hput_self _ _ _ | exact hnew_self _ _ _ | (rw [hput_ne _ _ _ (by first | assumption | omega | (apply Ne.symm; assumption))]; first | assumption | exact hput_self _ _ _ | exact hnew_self _ _ _) | (rw [hnew_ne _ _ _ (by first | assumption | omega | (apply Ne.symm; assumption))]; first | assumption | exact hput_self _ _ _ | exact hnew_self _ _ _))) ?_
    refine x_ireturn dX1_fact_48 rfl ?_
    exact hq
  · refine x_tableIn (off := 48) (tgt := 49) dX1_fact_1 (by decide) (by decide) (by decide) (by decide) ?_
    refine x_aload_n dX1_fact_49 rfl rfl ?_
    refine gf_X1_13_2 rfl dX1_fact_50 (by first | exact hA.pe hp | exact hA.f (by omega) | exact hA.ob | first | assumption | exact hput_self _ _ _ | exact hnew_self _ _ _ | (rw [hput_ne _ _ _ (by first | assumption | omega | (apply Ne.symm; assumption))]; first | assumption | exact hput_self _ _ _ | exact hnew_self _ _ _ | (rw [hput_ne _ _ _ (by first | assumption | omega | (apply Ne.symm; assumption))]; first | assumption | exact hput_self _ _ _ | exact hnew_self _ _ _) | (rw [hnew_ne _ _ _ (by first | assumption | omega | (apply Ne.symm; assumption))]; first | assumption | exact hput_self _ _ _ | exact hnew_self _ _ _)) | (rw [hnew_ne _ _ _ (by first | assumption | omega | (apply Ne.symm; assumption))]; first | assumption | exact hput_self _ _ _ | exact hnew_self _ _ _ | (rw [hput_ne _ _ _ (by first | assumption | omega | (apply Ne.symm; assumption))]; first | assumption | exact hput_self _ _ _ | exact hnew_self _ _ _) | (rw [hnew_ne _ _ _ (by first | assumption | omega | (apply Ne.symm; assumption))]; first | assumption | exact hput_self _ _ _ | exact hnew_self _ _ _))) ?_
    refine x_ireturn dX1_fact_53 rfl ?_
    exact hq
  · refine x_tableIn (off := 53) (tgt := 54) dX1_fact_1 (by decide) (by decide) (by decide) (by decide) ?_
    refine x_aload_n dX1_fact_54 rfl rfl ?_
    refine gf_X1_16_2 rfl dX1_fact_55 (by first | exact hA.pe hp | exact hA.f (by omega) | exact hA.ob | first | assumption | exact hput_self _ _ _ | exact hnew_self _ _ _ | (rw [hput_ne _ _ _ (by first | assumption | omega | (apply Ne.symm; assumption))]; first | assumption | exact hput_self _ _ _ | exact hnew_self _ _ _ | (rw [hput_ne _ _ _ (by first | assumption | omega | (apply Ne.symm; assumption))]; first | assumption | exact hput_self _ _ _ | exact hnew_self _ _ _) | (rw [hnew_ne _ _ _ (by first | assumption | omega | (apply Ne.symm; assumption))]; first | assumption | exact hput_self _ _ _ | exact hnew_self _ _ _)) | (rw [hnew_ne _ _ _ (by first | assumption | omega | (apply Ne.symm; assumption))]; first | assumption | exact hput_self _ _ _ | exact hnew_self _ _ _ | (rw [hput_ne _ _ _ (by first | assumption | omega | (apply Ne.symm; assumption))]; first | assumption | exact hput_self _ _ _ | exact hnew_self _ _ _) | (rw [hnew_ne _ _ _ (by first | assumption | omega | (apply Ne.symm; assumption))]; first | assumption | exact hput_self _ _ _ | exact hnew_self _ _ _))) ?_
    refine gf_X1_30_3 rfl dX1_fact_58 (by first | exact hA.pe hp | exact hA.f (by omega) | exact hA.ob | first | assumption | exact hput_self _ _ _ | exact hnew_self _ _ _ | (rw [hput_ne _ _ _ (by first | assumption | omega | (apply Ne.symm; assumption))]; first | assumption | exact hput_self _ _ _ | exact hnew_self _ _ _ | (rw [hput_ne _ _ _ (by first | assumption | omega | (apply Ne.symm; assumption))]; first | assumption | exact hput_self _ _ _ | exact hnew_self _ _ _) | (rw [hnew_ne _ _ _ (by first | assumption | omega | (apply Ne.symm; assumption))]; first | assumption | exact hput_self _ _ _ | exact hnew_self _ _ _)) | (rw [hnew_ne _ _ _ (by first | assumption | omega | (apply Ne.symm; assumption))]; first | assumption | exact hput_self _ _ _ | exact hnew_self _ _ _ | (rw [hput_ne _ _ _ (by first | assumption | omega | (apply Ne.symm; assumption))]; first | assumption | exact hput_self _ _ _ | exact hnew_self _ _ _) | (rw [hnew_ne _ _ _ (by first | assumption | omega | (apply Ne.symm; assumption))]; first | assumption | exact hput_self _ _ _ | exact hnew_self _ _ _))) ?_
    refine x_ireturn dX1_fact_61 rfl ?_
    exact hq
  · refine x_tableIn (off := 61) (tgt := 62) dX1_fact_1 (by decide) (by decide) (by decide) (by decide) ?_
    refine x_aload_n dX1_fact_62 rfl rfl ?_
    refine gf_X1_16_2 rfl dX1_fact_63 (by first | exact hA.pe hp | exact hA.f (by omega) | exact hA.ob | first | assumption | exact hput_self _ _ _ | exact hnew_self _ _ _ | (rw [hput_ne _ _ _ (by first | assumption | omega | (apply Ne.symm; assumption))]; first | assumption | exact hput_self _ _ _ | exact hnew_self _ _ _ | (rw [hput_ne _ _ _ (by first | assumption | omega | (apply Ne.symm; assumption))]; first | assumption | exact hput_self _ _ _ | exact hnew_self _ _ _) | (rw [hnew_ne _ _ _ (by first | assumption | omega | (apply Ne.symm; assumption))]; first | assumption | exact hput_self _ _ _ | exact hnew_self _ _ _)) | (rw [hnew_ne _ _ _ (by first | assumption | omega | (apply Ne.symm; assumption))]; first | assumption | exact hput_self _ _ _ | exact hnew_self _ _ _ | (rw [hput_ne _ _ _ (by first | assumption | omega | (apply Ne.symm; assumption))]; first | assumption | exact hput_self _ _ _ | exact hnew_self _ _ _) | (rw [hnew_ne _ _ _ (by first | assumption | omega | (apply Ne.symm; assumption))]; first | assumption | exact hput_self _ _ _ | exact hnew_self _ _ _))) ?_
    refine gf_X1_35_3 rfl dX1_fact_66 (by first | exact hA.pe hp | exact hA.f (by omega) | exact hA.ob | first | assumption | exact hput_self _ _ _ | exact hnew_self _ _ _ | (rw [hput_ne _ _ _ (by first | assumption | omega | (apply Ne.symm; assumption))]; first | assumption | exact hput_self _ _ _ | exact hnew_self _ _ _ | (rw [hput_ne _ _ _ (by first | assumption | omega | (apply Ne.symm; assumption))]; first | assumption | exact hput_self _ _ _ | exact hnew_self _ _ _) | (rw [hnew_ne _ _ _ (by first | assumption | omega | (apply Ne.symm; assumption))]; first | assumption | exact hput_self _ _ _ | exact hnew_self _ _ _)) | (rw [hnew_ne _ _ _ (by first | assumption | omega | (apply Ne.symm; assumption))]; first | assumption | exact hput_self _ _ _ | exact hnew_self _ _ _ | (rw [hput_ne _ _ _ (by first | assumption | omega | (apply Ne.symm; assumption))]; first | assumption | exact hput_self _ _ _ | exact hnew_self _ _ _) | (rw [hnew_ne _ _ _ (by first | assumption | omega | (apply Ne.symm; assumption))]; first | assumption | exact hput_self _ _ _ | exact hnew_self _ _ _))) ?_
    refine x_ireturn dX1_fact_69 rfl ?_
    exact hq
  · refine x_tableIn (off := 69) (tgt := 70) dX1_fact_1 (by decide) (by decide) (by decide) (by decide) ?_
    refine x_aload_n dX1_fact_70 rfl rfl ?_
    refine gf_X1_16_2 rfl dX1_fact_71 (by first | exact hA.pe hp | exact hA.f (by omega) | exact hA.ob | first | assumption | exact hput_self _ _ _ | exact hnew_self _ _ _ | (rw [hput_ne _ _ _ (by first | assumption | omega | (apply Ne.symm; assumption))]; first | assumption | exact hput_self _ _ _ | exact hnew_self _ _ _ | (rw [hput_ne _ _ _ (by first | assumption | omega | (apply Ne.symm; assumption))]; first | assumption | exact hput_self _ _ _ | exact hnew_self _ _ _) | (rw [hnew_ne _ _ _ (by first | assumption | omega | (apply Ne.symm; assumption))]; first | assumption | exact hput_self _ _ _ | exact hnew_self _ _ _)) | (rw [hnew_ne _ _ _ (by first | assumption | omega | (apply Ne.symm; assumption))]; first | assumption | exact hput_self _ _ _ | exact hnew_self _ _ _ | (rw [hput_ne _ _ _ (by first | assumption | omega | (apply Ne.symm; assumption))]; first | assumption | exact hput_self _ _ _ | exact hnew_self _ _ _) | (rw [hnew_ne _ _ _ (by first | assumption | omega | (apply Ne.symm; assumption))]; first | assumption | exact hput_self _ _ _ | exact hnew_self _ _ _))) ?_
    refine gf_X1_38_3 rfl dX1_fact_74 (by first | exact hA.pe hp | exact hA.f (by omega) | exact hA.ob | first | assumption | exact hput_self _ _ _ | exact hnew_self _ _ _ | (rw [hput_ne _ _ _ (by first | assumption | omega | (apply Ne.symm; assumption))]; first | assumption | exact hput_self _ _ _ | exact hnew_self _ _ _ | (rw [hput_ne _ _ _ (by first | assumption | omega | (apply Ne.symm; assumption))]; first | assumption | exact hput_self _ _ _ | exact hnew_self _ _ _) | (rw [hnew_ne _ _ _ (by first | assumption | omega | (apply Ne.symm; assumption))]; first | assumption | exact hput_self _ _ _ | exact hnew_self _ _ _)) | (rw [hnew_ne _ _ _ (by first | assumption | omega | (apply Ne.symm; assumption))]; first | assumption | exact hput_self _ _ _ | exact hnew_self _ _ _ | (rw [hput_ne _ _ _ (by first | assumption | omega | (apply Ne.symm; assumption))]; first | assumption | exact hput_self _ _ _ | exact hnew_self _ _ _) | (rw [hnew_ne _ _ _ (by first | assumption | omega | (apply Ne.symm; assumption))]; first | assumption | exact hput_self _ _ _ | exact hnew_self _ _ _))) ?_
    refine x_ireturn dX1_fact_77 rfl ?_
    exact hq
  · refine x_tableIn (off := 77) (tgt := 78) dX1_fact_1 (by decide) (by decide) (by decide) (by decide) ?_
    refine x_aload_n dX1_fact_78 rfl rfl ?_
    refine gf_X1_20_2 rfl dX1_fact_79 (by first | exact hA.pe hp | exact hA.f (by omega) | exact hA.ob | first | assumption | exact hput_self _ _ _ | exact hnew_self _ _ _ | (rw [hput_ne _ _ _ (by first | assumption | omega | (apply Ne.symm; assumption))]; first | assumption | exact hput_self _ _ _ | exact hnew_self _ _ _ | (rw [hput_ne _ _ _ (by first | assumption | omega | (apply Ne.symm; assumption))]; first | assumption | exact hput_self _ _ _ | exact hnew_self _ _ _) | (rw [hnew_ne _ _ _ (by first | assumption | omega | (apply Ne.symm; assumption))]; first | assumption | exact hput_self _ _ _ | exact hnew_self _ _ _)) | (rw [hnew_ne _ _ _ (by first | assumption | omega | (apply Ne.symm; assumption))]; first | assumption | exact hput_self _ _ _ | exact hnew_self _ _ _ | (rw [hput_ne _ _ _ (by first | assumption | omega | (apply Ne.symm; assumption))]; first | assumption | exact hput_self _ _ _ | exact hnew_self _ _ _) | (rw [hnew_ne _ _ _ (by first | assumption | omega | (apply Ne.symm; assumption))]; first | assumption | exact hput_self _ _ _ | exact hnew_self _ _ _))) ?_
    refine x_ireturn dX1_fact_82 rfl ?_
    exact hq
  · refine x_tableIn (off := 82) (tgt := 83) dX1_fact_1 (by decide) (by decide) (by decide) (by decide) ?_
    refine x_aload_n dX1_fact_83 rfl rfl ?_
    refine gf_X1_23_2 rfl dX1_fact_84 (by first | exact hA.pe hp | exact hA.f (by omega) | exact hA.ob | first | assumption | exact hput_self _ _ _ | exact hnew_self _ _ _ | (rw [hput_ne _ _ _ (by first | assumption | omega | (apply Ne.symm; assumption))]; first | assumption | exact hput_self _ _ _ | exact hnew_self _ _ _ | (rw [hput_ne _ _ _ (by first | assumption | omega | (apply Ne.symm; assumption))]; first | assumption | exact hput_self _ _ _ | exact hnew_self _ _ _) | (rw [hnew_ne _ _ _ (by first | assumption | omega | (apply Ne.symm; assumption))]; first | assumption | exact hput_self _ _ _ | exact hnew_self _ _ _)) | (rw [hnew_ne _ _ _ (by first | assumption | omega | (apply Ne.symm; assumption))]; first | assumption | exact hput_self _ _ _ | exact hnew_self _ _ _ | (rw [hput_ne _ _ _ (by first | assumption | omega | (apply Ne.symm; assumption))]; first | assumption | exact hput_self _ _ _ | exact hnew_self _ _ _) | (rw [hnew_ne _ _ _ (by first | assumption | omega | (apply Ne.symm; assumption))]; first | assumption | exact hput_self _ _ _ | exact hnew_self _ _ _))) ?_
    rw [hb] at hq ⊢
    cases b with
    | true =>
      refine x_if_eq (tgt := 94) dX1_fact_87 (by decide) (fun c1 => ?_) (fun c1 => ?_)
      · exact absurd c1 (by decide)
      refine x_iconst (v := nI 1) dX1_fact_90 (by decide) ?_
      refine x_goto (tgt := 95) dX1_fact_91 (by decide) ?_
      refine x_ireturn dX1_fact_95 rfl ?_
      exact hq
    | false =>
      refine x_if_eq (tgt := 94) dX1_fact_87 (by decide) (fun c1 => ?_) (fun c1 => ?_)
      · refine x_iconst (v := nI 0) dX1_fact_94 (by decide) ?_
        refine x_ireturn dX1_fact_95 rfl ?_
        exact hq
      · exact absurd rfl c1
  · refine x_tableOut (tgt := 96) dX1_fact_1 (Or.inr (by decide)) (by decide) ?_
    refine x_aload_n dX1_fact_96 rfl rfl ?_
    refine gf_X1_27_2 rfl dX1_fact_97 (by first | exact hA.pe hp | exact hA.f (by omega) | exact hA.ob | first | assumption | exact hput_self _ _ _ | exact hnew_self _ _ _ | (rw [hput_ne _ _ _ (by first | assumption | omega | (apply Ne.symm; assumption))]; first | assumption | exact hput_self _ _ _ | exact hnew_self _ _ _ | (rw [hput_ne _ _ _ (by first | assumption | omega | (apply Ne.symm; assumption))]; first | assumption | exact hput_self _ _ _ | exact hnew_self _ _ _) | (rw [hnew_ne _ _ _ (by first | assumption | omega | (apply Ne.symm; assumption))]; first | assumption | exact hput_self _ _ _ | exact hnew_self _ _ _)) | (rw [hnew_ne _ _ _ (by first | assumption | omega | (apply Ne.symm; assumption))]; first | assumption | exact hput_self _ _ _ | exact hnew_self _ _ _ | (rw [hput_ne _ _ _ (by first | assumption | omega | (apply Ne.symm; assumption))]; first | assumption | exact hput_self _ _ _ | exact hnew_self _ _ _) | (rw [hnew_ne _ _ _ (by first | assumption | omega | (apply Ne.symm; assumption))]; first | assumption | exact hput_self _ _ _ | exact hnew_self _ _ _))) ?_
    refine x_ireturn dX1_fact_100 rfl ?_
    exact hq
theorem k_peerFact {w : Nat} (hA : RA G h x z u E X ov lv sf) (hp : p < 2) (hw : w ≤ 7) (hq : Q (.returned (some (.int (toldV u p w)))) h) : Cx G mX6_fact (d + 1) [.ref (aP x p), .int (nI w)] h Q := by
  show Jx G mX6_fact (d + 1) Q 0 [some (.ref (aP x p)), some (.int (nI w))] [] h
  refine x_iload_n dX6_fact_0 rfl ?_
  have hou := hA.ou hp
  obtain ⟨m1, hm1⟩ := (hA.l (c := 2) (by omega) hp).sh
  rcases (show w = 0 ∨ w = 1 ∨ w = 2 ∨ w = 3 ∨ w = 4 ∨ w = 5 ∨ w = 6 ∨ w = 7 by omega) with rfl | rfl | rfl | rfl | rfl | rfl | rfl | rfl
  · refine x_tableIn (off := 43) (tgt := 44) dX6_fact_1 (by decide) (by decide) (by decide) (by decide) ?_
    refine x_aload_n dX6_fact_44 rfl rfl ?_
    refine gf_X6_56_6 rfl dX6_fact_45 (by first | exact hA.pe hp | exact hA.f (by omega) | exact hA.ob | first | assumption | exact hput_self _ _ _ | exact hnew_self _ _ _ | (rw [hput_ne _ _ _ (by first | assumption | omega | (apply Ne.symm; assumption))]; first | assumption | exact hput_self _ _ _ | exact hnew_self _ _ _ | (rw [hput_ne _ _ _ (by first | assumption | omega | (apply Ne.symm; assumption))]; first | assumption | exact hput_self _ _ _ | exact hnew_self _ _ _) | (rw [hnew_ne _ _ _ (by first | assumption | omega | (apply Ne.symm; assumption))]; first | assumption | exact hput_self _ _ _ | exact hnew_self _ _ _)) | (rw [hnew_ne _ _ _ (by first | assumption | omega | (apply Ne.symm; assumption))]; first | assumption | exact hput_self _ _ _ | exact hnew_self _ _ _ | (rw [hput_ne _ _ _ (by first | assumption | omega | (apply Ne.symm; assumption))]; first | assumption | exact hput_self _ _ _ | exact hnew_self _ _ _) | (rw [hnew_ne _ _ _ (by first | assumption | omega | (apply Ne.symm; assumption))]; first | assumption | exact hput_self _ _ _ | exact hnew_self _ _ _))) ?_
    simp only [toldV] at hq
    rcases hou with ⟨q1, q2⟩ | ⟨r, pk, q1, q2, hreq⟩
    · rw [q1]
      rw [q2] at hq
      refine x_ifnonnull (tgt := 55) dX6_fact_48 (by decide) (fun c1a c1 => ?_) (fun c1 => ?_)
      · cases c1
      refine x_iconst (v := (-1)) dX6_fact_51 (by decide) ?_
      refine x_goto (tgt := 62) dX6_fact_52 (by decide) ?_
      refine x_ireturn dX6_fact_62 rfl ?_
      exact hq
    · obtain ⟨so, oo, hrc⟩ := hreq.cell
      rw [q1]
      rw [q2] at hq
      refine x_ifnonnull (tgt := 55) dX6_fact_48 (by decide) (fun c1a c1 => ?_) (fun c1 => ?_)
      · refine x_aload_n dX6_fact_55 rfl rfl ?_
        refine gf_X6_56_6 rfl dX6_fact_56 (by first | exact hA.pe hp | exact hA.f (by omega) | exact hA.ob | first | assumption | exact hput_self _ _ _ | exact hnew_self _ _ _ | (rw [hput_ne _ _ _ (by first | assumption | omega | (apply Ne.symm; assumption))]; first | assumption | exact hput_self _ _ _ | exact hnew_self _ _ _ | (rw [hput_ne _ _ _ (by first | assumption | omega | (apply Ne.symm; assumption))]; first | assumption | exact hput_self _ _ _ | exact hnew_self _ _ _) | (rw [hnew_ne _ _ _ (by first | assumption | omega | (apply Ne.symm; assumption))]; first | assumption | exact hput_self _ _ _ | exact hnew_self _ _ _)) | (rw [hnew_ne _ _ _ (by first | assumption | omega | (apply Ne.symm; assumption))]; first | assumption | exact hput_self _ _ _ | exact hnew_self _ _ _ | (rw [hput_ne _ _ _ (by first | assumption | omega | (apply Ne.symm; assumption))]; first | assumption | exact hput_self _ _ _ | exact hnew_self _ _ _) | (rw [hnew_ne _ _ _ (by first | assumption | omega | (apply Ne.symm; assumption))]; first | assumption | exact hput_self _ _ _ | exact hnew_self _ _ _))) ?_
        rw [q1]
        refine gf_X6_74_7 rfl dX6_fact_59 (by first | exact hA.pe hp | exact hA.f (by omega) | exact hA.ob | first | assumption | exact hput_self _ _ _ | exact hnew_self _ _ _ | (rw [hput_ne _ _ _ (by first | assumption | omega | (apply Ne.symm; assumption))]; first | assumption | exact hput_self _ _ _ | exact hnew_self _ _ _ | (rw [hput_ne _ _ _ (by first | assumption | omega | (apply Ne.symm; assumption))]; first | assumption | exact hput_self _ _ _ | exact hnew_self _ _ _) | (rw [hnew_ne _ _ _ (by first | assumption | omega | (apply Ne.symm; assumption))]; first | assumption | exact hput_self _ _ _ | exact hnew_self _ _ _)) | (rw [hnew_ne _ _ _ (by first | assumption | omega | (apply Ne.symm; assumption))]; first | assumption | exact hput_self _ _ _ | exact hnew_self _ _ _ | (rw [hput_ne _ _ _ (by first | assumption | omega | (apply Ne.symm; assumption))]; first | assumption | exact hput_self _ _ _ | exact hnew_self _ _ _) | (rw [hnew_ne _ _ _ (by first | assumption | omega | (apply Ne.symm; assumption))]; first | assumption | exact hput_self _ _ _ | exact hnew_self _ _ _))) ?_
        refine x_ireturn dX6_fact_62 rfl ?_
        exact hq
      · cases c1
  · refine x_tableIn (off := 62) (tgt := 63) dX6_fact_1 (by decide) (by decide) (by decide) (by decide) ?_
    refine x_aload_n dX6_fact_63 rfl rfl ?_
    refine gf_X6_56_6 rfl dX6_fact_64 (by first | exact hA.pe hp | exact hA.f (by omega) | exact hA.ob | first | assumption | exact hput_self _ _ _ | exact hnew_self _ _ _ | (rw [hput_ne _ _ _ (by first | assumption | omega | (apply Ne.symm; assumption))]; first | assumption | exact hput_self _ _ _ | exact hnew_self _ _ _ | (rw [hput_ne _ _ _ (by first | assumption | omega | (apply Ne.symm; assumption))]; first | assumption | exact hput_self _ _ _ | exact hnew_self _ _ _) | (rw [hnew_ne _ _ _ (by first | assumption | omega | (apply Ne.symm; assumption))]; first | assumption | exact hput_self _ _ _ | exact hnew_self _ _ _)) | (rw [hnew_ne _ _ _ (by first | assumption | omega | (apply Ne.symm; assumption))]; first | assumption | exact hput_self _ _ _ | exact hnew_self _ _ _ | (rw [hput_ne _ _ _ (by first | assumption | omega | (apply Ne.symm; assumption))]; first | assumption | exact hput_self _ _ _ | exact hnew_self _ _ _) | (rw [hnew_ne _ _ _ (by first | assumption | omega | (apply Ne.symm; assumption))]; first | assumption | exact hput_self _ _ _ | exact hnew_self _ _ _))) ?_
    simp only [toldV] at hq
    rcases hou with ⟨q1, q2⟩ | ⟨r, pk, q1, q2, hreq⟩
    · rw [q1]
      rw [q2] at hq
      refine x_ifnonnull (tgt := 74) dX6_fact_67 (by decide) (fun c1a c1 => ?_) (fun c1 => ?_)
      · cases c1
      refine x_iconst (v := (-1)) dX6_fact_70 (by decide) ?_
      refine x_goto (tgt := 81) dX6_fact_71 (by decide) ?_
      refine x_ireturn dX6_fact_81 rfl ?_
      exact hq
    · obtain ⟨so, oo, hrc⟩ := hreq.cell
      rw [q1]
      rw [q2] at hq
      refine x_ifnonnull (tgt := 74) dX6_fact_67 (by decide) (fun c1a c1 => ?_) (fun c1 => ?_)
      · refine x_aload_n dX6_fact_74 rfl rfl ?_
        refine gf_X6_56_6 rfl dX6_fact_75 (by first | exact hA.pe hp | exact hA.f (by omega) | exact hA.ob | first | assumption | exact hput_self _ _ _ | exact hnew_self _ _ _ | (rw [hput_ne _ _ _ (by first | assumption | omega | (apply Ne.symm; assumption))]; first | assumption | exact hput_self _ _ _ | exact hnew_self _ _ _ | (rw [hput_ne _ _ _ (by first | assumption | omega | (apply Ne.symm; assumption))]; first | assumption | exact hput_self _ _ _ | exact hnew_self _ _ _) | (rw [hnew_ne _ _ _ (by first | assumption | omega | (apply Ne.symm; assumption))]; first | assumption | exact hput_self _ _ _ | exact hnew_self _ _ _)) | (rw [hnew_ne _ _ _ (by first | assumption | omega | (apply Ne.symm; assumption))]; first | assumption | exact hput_self _ _ _ | exact hnew_self _ _ _ | (rw [hput_ne _ _ _ (by first | assumption | omega | (apply Ne.symm; assumption))]; first | assumption | exact hput_self _ _ _ | exact hnew_self _ _ _) | (rw [hnew_ne _ _ _ (by first | assumption | omega | (apply Ne.symm; assumption))]; first | assumption | exact hput_self _ _ _ | exact hnew_self _ _ _))) ?_
        rw [q1]
        refine gf_X6_79_7 rfl dX6_fact_78 (by first | exact hA.pe hp | exact hA.f (by omega) | exact hA.ob | first | assumption | exact hput_self _ _ _ | exact hnew_self _ _ _ | (rw [hput_ne _ _ _ (by first | assumption | omega | (apply Ne.symm; assumption))]; first | assumption | exact hput_self _ _ _ | exact hnew_self _ _ _ | (rw [hput_ne _ _ _ (by first | assumption | omega | (apply Ne.symm; assumption))]; first | assumption | exact hput_self _ _ _ | exact hnew_self _ _ _) | (rw [hnew_ne _ _ _ (by first | assumption | omega | (apply Ne.symm; assumption))]; first | assumption | exact hput_self _ _ _ | exact hnew_self _ _ _)) | (rw [hnew_ne _ _ _ (by first | assumption | omega | (apply Ne.symm; assumption))]; first | assumption | exact hput_self _ _ _ | exact hnew_self _ _ _ | (rw [hput_ne _ _ _ (by first | assumption | omega | (apply Ne.symm; assumption))]; first | assumption | exact hput_self _ _ _ | exact hnew_self _ _ _) | (rw [hnew_ne _ _ _ (by first | assumption | omega | (apply Ne.symm; assumption))]; first | assumption | exact hput_self _ _ _ | exact hnew_self _ _ _))) ?_
        refine x_ireturn dX6_fact_81 rfl ?_
        exact hq
      · cases c1
  · refine x_tableIn (off := 81) (tgt := 82) dX6_fact_1 (by decide) (by decide) (by decide) (by decide) ?_
    refine x_aload_n dX6_fact_82 rfl rfl ?_
    refine gf_X6_56_6 rfl dX6_fact_83 (by first | exact hA.pe hp | exact hA.f (by omega) | exact hA.ob | first | assumption | exact hput_self _ _ _ | exact hnew_self _ _ _ | (rw [hput_ne _ _ _ (by first | assumption | omega | (apply Ne.symm; assumption))]; first | assumption | exact hput_self _ _ _ | exact hnew_self _ _ _ | (rw [hput_ne _ _ _ (by first | assumption | omega | (apply Ne.symm; assumption))]; first | assumption | exact hput_self _ _ _ | exact hnew_self _ _ _) | (rw [hnew_ne _ _ _ (by first | assumption | omega | (apply Ne.symm; assumption))]; first | assumption | exact hput_self _ _ _ | exact hnew_self _ _ _)) | (rw [hnew_ne _ _ _ (by first | assumption | omega | (apply Ne.symm; assumption))]; first | assumption | exact hput_self _ _ _ | exact hnew_self _ _ _ | (rw [hput_ne _ _ _ (by first | assumption | omega | (apply Ne.symm; assumption))]; first | assumption | exact hput_self _ _ _ | exact hnew_self _ _ _) | (rw [hnew_ne _ _ _ (by first | assumption | omega | (apply Ne.symm; assumption))]; first | assumption | exact hput_self _ _ _ | exact hnew_self _ _ _))) ?_
    simp only [toldV] at hq
    rcases hou with ⟨q1, q2⟩ | ⟨r, pk, q1, q2, hreq⟩
    · rw [q1]
      rw [q2] at hq
      refine x_ifnonnull (tgt := 93) dX6_fact_86 (by decide) (fun c1a c1 => ?_) (fun c1 => ?_)
      · cases c1
      refine x_iconst (v := nI 0) dX6_fact_89 (by decide) ?_
      refine x_goto (tgt := 97) dX6_fact_90 (by decide) ?_
      refine x_ireturn dX6_fact_97 rfl ?_
      exact hq
    · rw [q1]
      rw [q2] at hq
      refine x_ifnonnull (tgt := 93) dX6_fact_86 (by decide) (fun c1a c1 => ?_) (fun c1 => ?_)
      · refine x_aload_n dX6_fact_93 rfl rfl ?_
        refine gf_X6_82_6 rfl dX6_fact_94 (by first | exact hA.pe hp | exact hA.f (by omega) | exact hA.ob | first | assumption | exact hput_self _ _ _ | exact hnew_self _ _ _ | (rw [hput_ne _ _ _ (by first | assumption | omega | (apply Ne.symm; assumption))]; first | assumption | exact hput_self _ _ _ | exact hnew_self _ _ _ | (rw [hput_ne _ _ _ (by first | assumption | omega | (apply Ne.symm; assumption))]; first | assumption | exact hput_self _ _ _ | exact hnew_self _ _ _) | (rw [hnew_ne _ _ _ (by first | assumption | omega | (apply Ne.symm; assumption))]; first | assumption | exact hput_self _ _ _ | exact hnew_self _ _ _)) | (rw [hnew_ne _ _ _ (by first | assumption | omega | (apply Ne.symm; assumption))]; first | assumption | exact hput_self _ _ _ | exact hnew_self _ _ _ | (rw [hput_ne _ _ _ (by first | assumption | omega | (apply Ne.symm; assumption))]; first | assumption | exact hput_self _ _ _ | exact hnew_self _ _ _) | (rw [hnew_ne _ _ _ (by first | assumption | omega | (apply Ne.symm; assumption))]; first | assumption | exact hput_self _ _ _ | exact hnew_self _ _ _))) ?_
        refine x_ireturn dX6_fact_97 rfl ?_
        exact hq
      · cases c1
  · refine x_tableIn (off := 97) (tgt := 98) dX6_fact_1 (by decide) (by decide) (by decide) (by decide) ?_
    refine x_aload_n dX6_fact_98 rfl rfl ?_
    refine gf_X6_56_6 rfl dX6_fact_99 (by first | exact hA.pe hp | exact hA.f (by omega) | exact hA.ob | first | assumption | exact hput_self _ _ _ | exact hnew_self _ _ _ | (rw [hput_ne _ _ _ (by first | assumption | omega | (apply Ne.symm; assumption))]; first | assumption | exact hput_self _ _ _ | exact hnew_self _ _ _ | (rw [hput_ne _ _ _ (by first | assumption | omega | (apply Ne.symm; assumption))]; first | assumption | exact hput_self _ _ _ | exact hnew_self _ _ _) | (rw [hnew_ne _ _ _ (by first | assumption | omega | (apply Ne.symm; assumption))]; first | assumption | exact hput_self _ _ _ | exact hnew_self _ _ _)) | (rw [hnew_ne _ _ _ (by first | assumption | omega | (apply Ne.symm; assumption))]; first | assumption | exact hput_self _ _ _ | exact hnew_self _ _ _ | (rw [hput_ne _ _ _ (by first | assumption | omega | (apply Ne.symm; assumption))]; first | assumption | exact hput_self _ _ _ | exact hnew_self _ _ _) | (rw [hnew_ne _ _ _ (by first | assumption | omega | (apply Ne.symm; assumption))]; first | assumption | exact hput_self _ _ _ | exact hnew_self _ _ _))) ?_
    simp only [toldV] at hq
    rcases hou with ⟨q1, q2⟩ | ⟨r, pk, q1, q2, hreq⟩
    · rw [q1]
      rw [q2] at hq
      refine x_ifnonnull (tgt := 109) dX6_fact_102 (by decide) (fun c1a c1 => ?_) (fun c1 => ?_)
      · cases c1
      refine x_iconst (v := nI 0) dX6_fact_105 (by decide) ?_
      refine x_goto (tgt := 113) dX6_fact_106 (by decide) ?_
      refine x_ireturn dX6_fact_113 rfl ?_
      exact hq
    · rw [q1]
      rw [q2] at hq
      refine x_ifnonnull (tgt := 109) dX6_fact_102 (by decide) (fun c1a c1 => ?_) (fun c1 => ?_)
      · refine x_aload_n dX6_fact_109 rfl rfl ?_
        refine gf_X6_85_6 rfl dX6_fact_110 (by first | exact hA.pe hp | exact hA.f (by omega) | exact hA.ob | first | assumption | exact hput_self _ _ _ | exact hnew_self _ _ _ | (rw [hput_ne _ _ _ (by first | assumption | omega | (apply Ne.symm; assumption))]; first | assumption | exact hput_self _ _ _ | exact hnew_self _ _ _ | (rw [hput_ne _ _ _ (by first | assumption | omega | (apply Ne.symm; assumption))]; first | assumption | exact hput_self _ _ _ | exact hnew_self _ _ _) | (rw [hnew_ne _ _ _ (by first | assumption | omega | (apply Ne.symm; assumption))]; first | assumption | exact hput_self _ _ _ | exact hnew_self _ _ _)) | (rw [hnew_ne _ _ _ (by first | assumption | omega | (apply Ne.symm; assumption))]; first | assumption | exact hput_self _ _ _ | exact hnew_self _ _ _ | (rw [hput_ne _ _ _ (by first | assumption | omega | (apply Ne.symm; assumption))]; first | assumption | exact hput_self _ _ _ | exact hnew_self _ _ _) | (rw [hnew_ne _ _ _ (by first | assumption | omega | (apply Ne.symm; assumption))]; first | assumption | exact hput_self _ _ _ | exact hnew_self _ _ _))) ?_
        refine x_ireturn dX6_fact_113 rfl ?_
        exact hq
      · cases c1
  · refine x_tableIn (off := 113) (tgt := 114) dX6_fact_1 (by decide) (by decide) (by decide) (by decide) ?_
    refine x_aload_n dX6_fact_114 rfl rfl ?_
    refine gf_X6_22_6 rfl dX6_fact_115 (by first | exact hA.pe hp | exact hA.f (by omega) | exact hA.ob | first | assumption | exact hput_self _ _ _ | exact hnew_self _ _ _ | (rw [hput_ne _ _ _ (by first | assumption | omega | (apply Ne.symm; assumption))]; first | assumption | exact hput_self _ _ _ | exact hnew_self _ _ _ | (rw [hput_ne _ _ _ (by first | assumption | omega | (apply Ne.symm; assumption))]; first | assumption | exact hput_self _ _ _ | exact hnew_self _ _ _) | (rw [hnew_ne _ _ _ (by first | assumption | omega | (apply Ne.symm; assumption))]; first | assumption | exact hput_self _ _ _ | exact hnew_self _ _ _)) | (rw [hnew_ne _ _ _ (by first | assumption | omega | (apply Ne.symm; assumption))]; first | assumption | exact hput_self _ _ _ | exact hnew_self _ _ _ | (rw [hput_ne _ _ _ (by first | assumption | omega | (apply Ne.symm; assumption))]; first | assumption | exact hput_self _ _ _ | exact hnew_self _ _ _) | (rw [hnew_ne _ _ _ (by first | assumption | omega | (apply Ne.symm; assumption))]; first | assumption | exact hput_self _ _ _ | exact hnew_self _ _ _))) ?_
    refine x_callF dX6_fact_118 sf_X6_88_0 rfl (by first | exact hA.pe hp | exact hA.f (by omega) | exact hA.ob | first | assumption | exact hput_self _ _ _ | exact hnew_self _ _ _ | (rw [hput_ne _ _ _ (by first | assumption | omega | (apply Ne.symm; assumption))]; first | assumption | exact hput_self _ _ _ | exact hnew_self _ _ _ | (rw [hput_ne _ _ _ (by first | assumption | omega | (apply Ne.symm; assumption))]; first | assumption | exact hput_self _ _ _ | exact hnew_self _ _ _) | (rw [hnew_ne _ _ _ (by first | assumption | omega | (apply Ne.symm; assumption))]; first | assumption | exact hput_self _ _ _ | exact hnew_self _ _ _)) | (rw [hnew_ne _ _ _ (by first | assumption | omega | (apply Ne.symm; assumption))]; first | assumption | exact hput_self _ _ _ | exact hnew_self _ _ _ | (rw [hput_ne _ _ _ (by first | assumption | omega | (apply Ne.symm; assumption))]; first | assumption | exact hput_self _ _ _ | exact hnew_self _ _ _) | (rw [hnew_ne _ _ _ (by first | assumption | omega | (apply Ne.symm; assumption))]; first | assumption | exact hput_self _ _ _ | exact hnew_self _ _ _))) rfl (Nat.le_of_ble_eq_true rfl) rfl ?_
    refine c_sizeL (hA.l (c := 2) (by omega) hp) (kc_v dr_1 ?_)
    rw [(hA.wi hp).1]
    refine x_ireturn dX6_fact_123 rfl ?_
    exact hq
  · refine x_tableIn (off := 123) (tgt := 124) dX6_fact_1 (by decide) (by decide) (by decide) (by decide) ?_
    refine x_aload_n dX6_fact_124 rfl rfl ?_
    refine gf_X6_70_6 rfl dX6_fact_125 (by first | exact hA.pe hp | exact hA.f (by omega) | exact hA.ob | first | assumption | exact hput_self _ _ _ | exact hnew_self _ _ _ | (rw [hput_ne _ _ _ (by first | assumption | omega | (apply Ne.symm; assumption))]; first | assumption | exact hput_self _ _ _ | exact hnew_self _ _ _ | (rw [hput_ne _ _ _ (by first | assumption | omega | (apply Ne.symm; assumption))]; first | assumption | exact hput_self _ _ _ | exact hnew_self _ _ _) | (rw [hnew_ne _ _ _ (by first | assumption | omega | (apply Ne.symm; assumption))]; first | assumption | exact hput_self _ _ _ | exact hnew_self _ _ _)) | (rw [hnew_ne _ _ _ (by first | assumption | omega | (apply Ne.symm; assumption))]; first | assumption | exact hput_self _ _ _ | exact hnew_self _ _ _ | (rw [hput_ne _ _ _ (by first | assumption | omega | (apply Ne.symm; assumption))]; first | assumption | exact hput_self _ _ _ | exact hnew_self _ _ _) | (rw [hnew_ne _ _ _ (by first | assumption | omega | (apply Ne.symm; assumption))]; first | assumption | exact hput_self _ _ _ | exact hnew_self _ _ _))) ?_
    simp only [toldV] at hq
    generalize u.de p = b at hq ⊢
    cases b with
    | true =>
      refine x_if_eq (tgt := 135) dX6_fact_128 (by decide) (fun c1 => ?_) (fun c1 => ?_)
      · exact absurd c1 (by decide)
      refine x_iconst (v := nI 1) dX6_fact_131 (by decide) ?_
      refine x_goto (tgt := 136) dX6_fact_132 (by decide) ?_
      refine x_ireturn dX6_fact_136 rfl ?_
      exact hq
    | false =>
      refine x_if_eq (tgt := 135) dX6_fact_128 (by decide) (fun c1 => ?_) (fun c1 => ?_)
      · refine x_iconst (v := nI 0) dX6_fact_135 (by decide) ?_
        refine x_ireturn dX6_fact_136 rfl ?_
        exact hq
      · exact absurd rfl c1
  · refine x_tableIn (off := 136) (tgt := 137) dX6_fact_1 (by decide) (by decide) (by decide) (by decide) ?_
    refine x_aload_n dX6_fact_137 rfl rfl ?_
    refine gf_X6_60_6 rfl dX6_fact_138 (by first | exact hA.pe hp | exact hA.f (by omega) | exact hA.ob | first | assumption | exact hput_self _ _ _ | exact hnew_self _ _ _ | (rw [hput_ne _ _ _ (by first | assumption | omega | (apply Ne.symm; assumption))]; first | assumption | exact hput_self _ _ _ | exact hnew_self _ _ _ | (rw [hput_ne _ _ _ (by first | assumption | omega | (apply Ne.symm; assumption))]; first | assumption | exact hput_self _ _ _ | exact hnew_self _ _ _) | (rw [hnew_ne _ _ _ (by first | assumption | omega | (apply Ne.symm; assumption))]; first | assumption | exact hput_self _ _ _ | exact hnew_self _ _ _)) | (rw [hnew_ne _ _ _ (by first | assumption | omega | (apply Ne.symm; assumption))]; first | assumption | exact hput_self _ _ _ | exact hnew_self _ _ _ | (rw [hput_ne _ _ _ (by first | assumption | omega | (apply Ne.symm; assumption))]; first | assumption | exact hput_self _ _ _ | exact hnew_self _ _ _) | (rw [hnew_ne _ _ _ (by first | assumption | omega | (apply Ne.symm; assumption))]; first | assumption | exact hput_self _ _ _ | exact hnew_self _ _ _))) ?_
    refine x_ireturn dX6_fact_141 rfl ?_
    exact hq
  · refine x_tableOut (tgt := 142) dX6_fact_1 (Or.inr (by decide)) (by decide) ?_
    refine x_aload_n dX6_fact_142 rfl rfl ?_
    refine gf_X6_63_6 rfl dX6_fact_143 (by first | exact hA.pe hp | exact hA.f (by omega) | exact hA.ob | first | assumption | exact hput_self _ _ _ | exact hnew_self _ _ _ | (rw [hput_ne _ _ _ (by first | assumption | omega | (apply Ne.symm; assumption))]; first | assumption | exact hput_self _ _ _ | exact hnew_self _ _ _ | (rw [hput_ne _ _ _ (by first | assumption | omega | (apply Ne.symm; assumption))]; first | assumption | exact hput_self _ _ _ | exact hnew_self _ _ _) | (rw [hnew_ne _ _ _ (by first | assumption | omega | (apply Ne.symm; assumption))]; first | assumption | exact hput_self _ _ _ | exact hnew_self _ _ _)) | (rw [hnew_ne _ _ _ (by first | assumption | omega | (apply Ne.symm; assumption))]; first | assumption | exact hput_self _ _ _ | exact hnew_self _ _ _ | (rw [hput_ne _ _ _ (by first | assumption | omega | (apply Ne.symm; assumption))]; first | assumption | exact hput_self _ _ _ | exact hnew_self _ _ _) | (rw [hnew_ne _ _ _ (by first | assumption | omega | (apply Ne.symm; assumption))]; first | assumption | exact hput_self _ _ _ | exact hnew_self _ _ _))) ?_
    refine x_ireturn dX6_fact_146 rfl ?_
    exact hq
theorem k_clrF (hA : RA G h x z u E X ov lv sf) (hp : p < 2) (hq : ∀ h' E' X', RA G h' x z (u.w_fl p []) E' X' ov lv sf → KC x z 0 h h' → Q (.returned none) h') : Cx G mJx4a65c_clear_da8c8 d [.ref (aL x 0 p)] h Q := by
  refine x_wf (fun hwf hob hbn => ?_)
  refine c_clearL (hA.l (c := 0) (by omega) hp) (fun h' hL hfr h2 => ?_)
  obtain ⟨r1, r2⟩ := hA.rem (u' := u.w_fl p []) hwf (by omega) hp hL hfr h2 (fun q hq => rfl) rfl rfl rfl (fun hK q hq => by
    by_cases e : q = p
    · subst e
      rw [up2_self, show (u.w_fl q []).fl q = [] from va_up_self _ _ _]
      exact L2.nil
    · rw [up2_ne _ _ (Or.inr e), show (u.w_fl p []).fl q = u.fl q from va_up_ne _ _ e]
      exact (hA.fl hq).mono (fun a b q => q.kept hK)) (fun hK q hq => by
    rw [up2_ne _ _ (Or.inl (by decide))]
    exact (hA.ki hq).mono (fun a b q => q.kept hK)) (fun hK q hq => by
    rw [up2_ne _ _ (Or.inl (by decide))]
    exact (hA.wi hq).mono (fun a b q => q.kept hK))
  exact hq h' _ _ r1 r2
theorem k_clrK (hA : RA G h x z u E X ov lv sf) (hp : p < 2) (hq : ∀ h' E' X', RA G h' x z (u.w_ki p []) E' X' ov lv sf → KC x z 0 h h' → Q (.returned none) h') : Cx G mJx4a65c_clear_da8c8 d [.ref (aL x 1 p)] h Q := by
  refine x_wf (fun hwf hob hbn => ?_)
  refine c_clearL (hA.l (c := 1) (by omega) hp) (fun h' hL hfr h2 => ?_)
  obtain ⟨r1, r2⟩ := hA.rem (u' := u.w_ki p []) hwf (by omega) hp hL hfr h2 (fun q hq => rfl) rfl rfl rfl (fun hK q hq => by
    rw [up2_ne _ _ (Or.inl (by decide))]
    exact (hA.fl hq).mono (fun a b q => q.kept hK)) (fun hK q hq => by
    by_cases e : q = p
    · subst e
      rw [up2_self, show (u.w_ki q []).ki q = [] from va_up_self _ _ _]
      exact L2.nil
    · rw [up2_ne _ _ (Or.inr e), show (u.w_ki p []).ki q = u.ki q from va_up_ne _ _ e]
      exact (hA.ki hq).mono (fun a b q => q.kept hK)) (fun hK q hq => by
    rw [up2_ne _ _ (Or.inl (by decide))]
    exact (hA.wi hq).mono (fun a b q => q.kept hK))
  exact hq h' _ _ r1 r2
theorem k_clrW (hA : RA G h x z u E X ov lv sf) (hp : p < 2) (hq : ∀ h' E' X', RA G h' x z (u.w_wi p []) E' X' ov lv sf → KC x z 0 h h' → Q (.returned none) h') : Cx G mJx4a65c_clear_da8c8 d [.ref (aL x 2 p)] h Q := by
  refine x_wf (fun hwf hob hbn => ?_)
  refine c_clearL (hA.l (c := 2) (by omega) hp) (fun h' hL hfr h2 => ?_)
  obtain ⟨r1, r2⟩ := hA.rem (u' := u.w_wi p []) hwf (by omega) hp hL hfr h2 (fun q hq => rfl) rfl rfl rfl (fun hK q hq => by
    rw [up2_ne _ _ (Or.inl (by decide))]
    exact (hA.fl hq).mono (fun a b q => q.kept hK)) (fun hK q hq => by
    rw [up2_ne _ _ (Or.inl (by decide))]
    exact (hA.ki hq).mono (fun a b q => q.kept hK)) (fun hK q hq => by
    by_cases e : q = p
    · subst e
      rw [up2_self, show (u.w_wi q []).wi q = [] from va_up_self _ _ _]
      exact L2.nil
    · rw [up2_ne _ _ (Or.inr e), show (u.w_wi p []).wi q = u.wi q from va_up_ne _ _ e]
      exact (hA.wi hq).mono (fun a b q => q.kept hK))
  exact hq h' _ _ r1 r2
end K13X
