theorem wf_new {h : Hp} {e : Ee} {n : Nat} (hwf : ∀ a e, h.1 a = some e → a < h.2.1) : ∀ a e', (hnew h e n).1 a = some e' → a < (hnew h e n).2.1 := by
  intro a e' ha
  show a < h.2.1 + 1
  by_cases q : a = h.2.1
  · omega
  · rw [hnew_ne _ _ _ q] at ha
    have := hwf a e' ha
    omega
theorem wf_put {h : Hp} {b : Nat} {c c' : Ee} (hwf : ∀ a e, h.1 a = some e → a < h.2.1) (hb : h.1 b = some c') : ∀ a e', (hput h b c).1 a = some e' → a < (hput h b c).2.1 := by
  intro a e' ha
  show a < h.2.1
  by_cases q : a = b
  · subst q
    exact hwf _ _ hb
  · rw [hput_ne _ _ _ q] at ha
    exact hwf a e' ha
section K6X
variable {G : GT} {d : Nat} {Q : Outcome → Hp → Prop} {h : Hp} {x z p : Nat} {u : Ut} {E : Nat → Nat → Nat} {X : Nat → Nat → List Nat} {ov lv : Nat → Option Nat} {sf : Nat → Nat → Int32}
abbrev cM (x p : Nat) (u : Ut) (ov lv : Nat → Option Nat) : Ee := .inr (6, [.int (nI p), .ref (aF x (1 - p)), .ref (aS x p), .int (nI (u.su p).length), .int (u.lo p), .int (u.hi p), .int (u.no p), .int (u.mk p + nI 2), .ref (aL x 1 p), .ref (aL x 2 p), va_rf (ov p), .int (u.se p), .int (u.sp p), .int (u.wt p), .int (nI (u.nn p)), .int (nI (u.na p)), va_rf (lv p), .int (bI (u.de p))])
abbrev cN (x p : Nat) (u : Ut) (ov lv : Nat → Option Nat) : Ee := .inr (6, [.int (nI p), .ref (aF x (1 - p)), .ref (aS x p), .int (nI (u.su p).length), .int (u.lo p), .int (u.hi p), .int (nxN (u.no p)), .int (u.mk p + nI 2), .ref (aL x 1 p), .ref (aL x 2 p), va_rf (ov p), .int (u.se p), .int (u.sp p), .int (u.wt p), .int (nI (u.nn p)), .int (nI (u.na p)), va_rf (lv p), .int (bI (u.de p))])
theorem RA.apl (hA : RA G h x z u E X ov lv sf) (hp : p < 2) : aP x p ≠ h.2.1 := by
  have h1 := hA.xz
  have h2 := hA.zh
  have h3 := (aP_in (x := x) hp).2
  omega
theorem RA.rq (hA : RA G h x z u E X ov lv sf) (hwf : ∀ a e, h.1 a = some e → a < h.2.1) (hp : p < 2) (r : Ee) : RA G (hnew (hput (hput h (aP x p) (cM x p u ov lv)) (aP x p) (cN x p u ov lv)) r 6) x z (frU u p) E X ov lv sf ∧ KC x z 1 h (hnew (hput (hput h (aP x p) (cM x p u ov lv)) (aP x p) (cN x p u ov lv)) r 6) := by
  obtain ⟨a1, k1⟩ := hA.v_mk hp (u.mk p + nI 2)
  obtain ⟨a2, k2⟩ := a1.v_no hp (nxN (u.no p))
  have e : (u.w_mk p (u.mk p + nI 2)).mk p = u.mk p + nI 2 := va_up_self _ _ _
  rw [e] at a2 k2
  have w1 := wf_put (c := cM x p u ov lv) hwf (hA.pe hp)
  have w2 := wf_put (c := cN x p u ov lv) w1 (hput_self _ _ _)
  obtain ⟨a3, k3⟩ := a2.mk1 w2 r 6 (by omega)
  exact ⟨a3, (k1.trans k2).trans k3⟩
theorem rq_heap {h : Hp} {b : Nat} {c1 c2 r0 r1 : Ee} (hb : b ≠ h.2.1) : hput (hput (hput (hnew h r0 6) b c1) b c2) h.2.1 r1 = hnew (hput (hput h b c1) b c2) r1 6 := by
  rw [hput_hnew_ne _ _ _ hb, hput_hnew_ne (h := hput h b c1) _ _ _ hb]
  exact hput_hnew (hput (hput h b c1) b c2) r0 r1 6
theorem k_rq_renew {wa sb : Nat} {w : Int32 × Int32} {kd : Nat → Int32} (hA : RA G h x z u E X ov lv sf) (hp : p < 2) (hkd : kidO h z sb kd) (hw1 : w.1 = nI 1) (hw2 : w.2 = kd 0) (hr : Rm G 1 h) (hq : ∀ h' a, RA G h' x z (frU u p) E X ov lv sf → KC x z 1 h h' → reqO h' z a (askU u p w.1 w.2 kd).2 → Q (.returned (some (.ref a))) h') : Jx G mX6_requestFor (d + 3) Q 123 [some (.ref (aP x p)), some (.ref wa), some (.ref sb)] [] h := by
  refine x_wf (fun hwf hob hbn => ?_)
  have hap := hA.apl hp
  have hzh := hA.zh
  refine nw_X6_75 rfl dX6_requestFor_123 (hr.c (by omega)) (hr.s (by omega)) ?_
  have hA0 := hA
  obtain ⟨hA, hK1⟩ := hA.mk1 hwf (.inr (7, [.int 0, .int 0, .int 0, .int 0, .null, .null])) 6 (by omega)
  refine x_dup dX6_requestFor_126 rfl ?_
  refine x_aload_n dX6_requestFor_127 rfl rfl ?_
  refine gf_X6_60_6 rfl dX6_requestFor_128 (by first | exact hA.pe hp | exact hA.f (by omega) | exact hA.ob | first | assumption | exact hput_self _ _ _ | exact hnew_self _ _ _ | (rw [hput_ne _ _ _ (by first | assumption | omega | (apply Ne.symm; assumption))]; first | assumption | exact hput_self _ _ _ | exact hnew_self _ _ _ | (rw [hput_ne _ _ _ (by first | assumption | omega | (apply Ne.symm; assumption))]; first | assumption | exact hput_self _ _ _ | exact hnew_self _ _ _) | (rw [hnew_ne _ _ _ (by first | assumption | omega | (apply Ne.symm; assumption))]; first | assumption | exact hput_self _ _ _ | exact hnew_self _ _ _)) | (rw [hnew_ne _ _ _ (by first | assumption | omega | (apply Ne.symm; assumption))]; first | assumption | exact hput_self _ _ _ | exact hnew_self _ _ _ | (rw [hput_ne _ _ _ (by first | assumption | omega | (apply Ne.symm; assumption))]; first | assumption | exact hput_self _ _ _ | exact hnew_self _ _ _) | (rw [hnew_ne _ _ _ (by first | assumption | omega | (apply Ne.symm; assumption))]; first | assumption | exact hput_self _ _ _ | exact hnew_self _ _ _))) ?_
  refine x_iconst (v := nI 1) dX6_requestFor_131 (by decide) ?_
  refine x_aload_n dX6_requestFor_132 rfl rfl ?_
  refine x_callV dX6_requestFor_133 sv_X6_139_6 rfl (by first | exact hA.pe hp | exact hA.f (by omega) | exact hA.ob | first | assumption | exact hput_self _ _ _ | exact hnew_self _ _ _ | (rw [hput_ne _ _ _ (by first | assumption | omega | (apply Ne.symm; assumption))]; first | assumption | exact hput_self _ _ _ | exact hnew_self _ _ _ | (rw [hput_ne _ _ _ (by first | assumption | omega | (apply Ne.symm; assumption))]; first | assumption | exact hput_self _ _ _ | exact hnew_self _ _ _) | (rw [hnew_ne _ _ _ (by first | assumption | omega | (apply Ne.symm; assumption))]; first | assumption | exact hput_self _ _ _ | exact hnew_self _ _ _)) | (rw [hnew_ne _ _ _ (by first | assumption | omega | (apply Ne.symm; assumption))]; first | assumption | exact hput_self _ _ _ | exact hnew_self _ _ _ | (rw [hput_ne _ _ _ (by first | assumption | omega | (apply Ne.symm; assumption))]; first | assumption | exact hput_self _ _ _ | exact hnew_self _ _ _) | (rw [hnew_ne _ _ _ (by first | assumption | omega | (apply Ne.symm; assumption))]; first | assumption | exact hput_self _ _ _ | exact hnew_self _ _ _))) rfl (Nat.le_of_ble_eq_true rfl) rfl ?_
  refine k_newMarkX hA hp (kc_v dr_1 ?_)
  have hA1 := hA.t_mk hp (u.mk p + nI 2)
  replace hA := hA1
  refine x_aload_n dX6_requestFor_136 rfl rfl ?_
  refine x_callV dX6_requestFor_137 sv_X6_142_6 rfl (by first | exact hA.pe hp | exact hA.f (by omega) | exact hA.ob | first | assumption | exact hput_self _ _ _ | exact hnew_self _ _ _ | (rw [hput_ne _ _ _ (by first | assumption | omega | (apply Ne.symm; assumption))]; first | assumption | exact hput_self _ _ _ | exact hnew_self _ _ _ | (rw [hput_ne _ _ _ (by first | assumption | omega | (apply Ne.symm; assumption))]; first | assumption | exact hput_self _ _ _ | exact hnew_self _ _ _) | (rw [hnew_ne _ _ _ (by first | assumption | omega | (apply Ne.symm; assumption))]; first | assumption | exact hput_self _ _ _ | exact hnew_self _ _ _)) | (rw [hnew_ne _ _ _ (by first | assumption | omega | (apply Ne.symm; assumption))]; first | assumption | exact hput_self _ _ _ | exact hnew_self _ _ _ | (rw [hput_ne _ _ _ (by first | assumption | omega | (apply Ne.symm; assumption))]; first | assumption | exact hput_self _ _ _ | exact hnew_self _ _ _) | (rw [hnew_ne _ _ _ (by first | assumption | omega | (apply Ne.symm; assumption))]; first | assumption | exact hput_self _ _ _ | exact hnew_self _ _ _))) rfl (Nat.le_of_ble_eq_true rfl) rfl ?_
  refine k_newNonceX hA hp (kc_v dr_1 ?_)
  rw [show (u.w_mk p (u.mk p + nI 2)).mk p = u.mk p + nI 2 from va_up_self _ _ _]
  have hA2 := hA.t_no hp (nxN (u.no p))
  replace hA := hA2
  refine x_aload_n dX6_requestFor_140 rfl rfl ?_
  refine x_null dX6_requestFor_141 ?_
  refine x_callI dX6_requestFor_142 si_X6_145 rfl rfl (Nat.le_of_ble_eq_true rfl) rfl ?_
  refine c_reqInit (so := some sb) (oo := none) (by rw [hput_ne _ _ _ hap.symm, hput_ne _ _ _ hap.symm]; exact hnew_self _ _ _) (kc_n dr_7 ?_)
  rw [rq_heap hap]
  refine x_areturn dX6_requestFor_145 rfl (Or.inl ⟨_, rfl⟩) (Or.inr ⟨_, rfl⟩) ?_
  obtain ⟨f1, f2⟩ := hA0.rq hwf hp (.inr (7, [.int (nI (u.nn p)), .int (nI 1), .int (u.mk p), .int (n16 (nxN (u.no p))), .ref sb, .null]))
  refine hq _ _ f1 f2 ?_
  generalize hpk : (askU u p w.1 w.2 kd).2 = pk
  rw [hw1] at hpk
  obtain ⟨e0, e1, e2, e3, e4, e5, e6, e7, e8, e9⟩ := askU_pk1 u p w.2 kd pk hpk.symm
  refine ⟨hzh, e0, e3, Or.inr ⟨Or.inl e2, sb, kd, ?_, hkd.kept f2.kp, by rw [e6, hw2], e7, e8, e9⟩⟩
  rw [e1, e2, e4, e5]
  exact hnew_self _ _ _
theorem k_rq_delete {wa sb : Nat} {w : Int32 × Int32} {kd : Nat → Int32} (hA : RA G h x z u E X ov lv sf) (hp : p < 2) (hkd : kidO h z sb kd) (hw1 : w.1 = nI 2) (hw2 : w.2 = kd 0) (hr : Rm G 1 h) (hq : ∀ h' a, RA G h' x z u E X ov lv sf → KC x z 1 h h' → reqO h' z a (askU u p w.1 w.2 kd).2 → Q (.returned (some (.ref a))) h') : Jx G mX6_requestFor (d + 3) Q 80 [some (.ref (aP x p)), some (.ref wa), some (.ref sb)] [] h := by
  refine x_wf (fun hwf hob hbn => ?_)
  have hzh := hA.zh
  refine nw_X6_75 rfl dX6_requestFor_80 (hr.c (by omega)) (hr.s (by omega)) ?_
  have hA0 := hA
  obtain ⟨hA, hK1⟩ := hA.mk1 hwf (.inr (7, [.int 0, .int 0, .int 0, .int 0, .null, .null])) 6 (by omega)
  refine x_dup dX6_requestFor_83 rfl ?_
  refine x_aload_n dX6_requestFor_84 rfl rfl ?_
  refine gf_X6_60_6 rfl dX6_requestFor_85 (by first | exact hA.pe hp | exact hA.f (by omega) | exact hA.ob | first | assumption | exact hput_self _ _ _ | exact hnew_self _ _ _ | (rw [hput_ne _ _ _ (by first | assumption | omega | (apply Ne.symm; assumption))]; first | assumption | exact hput_self _ _ _ | exact hnew_self _ _ _ | (rw [hput_ne _ _ _ (by first | assumption | omega | (apply Ne.symm; assumption))]; first | assumption | exact hput_self _ _ _ | exact hnew_self _ _ _) | (rw [hnew_ne _ _ _ (by first | assumption | omega | (apply Ne.symm; assumption))]; first | assumption | exact hput_self _ _ _ | exact hnew_self _ _ _)) | (rw [hnew_ne _ _ _ (by first | assumption | omega | (apply Ne.symm; assumption))]; first | assumption | exact hput_self _ _ _ | exact hnew_self _ _ _ | (rw [hput_ne _ _ _ (by first | assumption | omega | (apply Ne.symm; assumption))]; first | assumption | exact hput_self _ _ _ | exact hnew_self _ _ _) | (rw [hnew_ne _ _ _ (by first | assumption | omega | (apply Ne.symm; assumption))]; first | assumption | exact hput_self _ _ _ | exact hnew_self _ _ _))) ?_
  refine x_iconst (v := nI 2) dX6_requestFor_88 (by decide) ?_
  refine x_iconst (v := nI 0) dX6_requestFor_89 (by decide) ?_
  refine x_iconst (v := nI 0) dX6_requestFor_90 (by decide) ?_
  refine x_aload_n dX6_requestFor_91 rfl rfl ?_
  refine x_null dX6_requestFor_92 ?_
  refine x_callI dX6_requestFor_93 si_X6_145 rfl rfl (Nat.le_of_ble_eq_true rfl) rfl ?_
  refine c_reqInit (so := some sb) (oo := none) (hnew_self _ _ _) (kc_n dr_7 ?_)
  rw [hput_hnew]
  refine x_areturn dX6_requestFor_96 rfl (Or.inl ⟨_, rfl⟩) (Or.inr ⟨_, rfl⟩) ?_
  obtain ⟨f1, f2⟩ := hA0.mk1 hwf (.inr (7, [.int (nI (u.nn p)), .int (nI 2), .int (nI 0), .int (nI 0), .ref sb, .null])) 6 (by omega)
  refine hq _ _ f1 f2 ?_
  generalize hpk : (askU u p w.1 w.2 kd).2 = pk
  rw [hw1] at hpk
  obtain ⟨e0, e1, e2, e3, e4, e5, e6, e7, e8, e9⟩ := askU_pk2 u p w.2 kd pk hpk.symm
  refine ⟨hzh, e0, e3, Or.inr ⟨Or.inr e2, sb, kd, ?_, hkd.kept f2.kp, by rw [e6, hw2], e7, e8, e9⟩⟩
  rw [e1, e2, e4, e5]
  exact hnew_self _ _ _
theorem k_rq_34 {wa oa : Nat} {w : Int32 × Int32} {kd : Nat → Int32} (hA : RA G h x z u E X ov lv sf) (hp : p < 2) (hof : offO h z oa (askU u p w.1 w.2 kd).2) (hw1 : w.1 = 0) (hr : Rm G 1 h) (hq : ∀ h' a, RA G h' x z (frU u p) E X ov lv sf → KC x z 1 h h' → reqO h' z a (askU u p w.1 w.2 kd).2 → Q (.returned (some (.ref a))) h') : Jx G mX6_requestFor (d + 3) Q 34 [some (.ref (aP x p)), some (.ref wa), some (.ref oa)] [] h := by
  refine x_wf (fun hwf hob hbn => ?_)
  have hap := hA.apl hp
  have hzh := hA.zh
  refine nw_X6_75 rfl dX6_requestFor_34 (hr.c (by omega)) (hr.s (by omega)) ?_
  have hA0 := hA
  obtain ⟨hA, hK1⟩ := hA.mk1 hwf (.inr (7, [.int 0, .int 0, .int 0, .int 0, .null, .null])) 6 (by omega)
  refine x_dup dX6_requestFor_37 rfl ?_
  refine x_aload_n dX6_requestFor_38 rfl rfl ?_
  refine gf_X6_60_6 rfl dX6_requestFor_39 (by first | exact hA.pe hp | exact hA.f (by omega) | exact hA.ob | first | assumption | exact hput_self _ _ _ | exact hnew_self _ _ _ | (rw [hput_ne _ _ _ (by first | assumption | omega | (apply Ne.symm; assumption))]; first | assumption | exact hput_self _ _ _ | exact hnew_self _ _ _ | (rw [hput_ne _ _ _ (by first | assumption | omega | (apply Ne.symm; assumption))]; first | assumption | exact hput_self _ _ _ | exact hnew_self _ _ _) | (rw [hnew_ne _ _ _ (by first | assumption | omega | (apply Ne.symm; assumption))]; first | assumption | exact hput_self _ _ _ | exact hnew_self _ _ _)) | (rw [hnew_ne _ _ _ (by first | assumption | omega | (apply Ne.symm; assumption))]; first | assumption | exact hput_self _ _ _ | exact hnew_self _ _ _ | (rw [hput_ne _ _ _ (by first | assumption | omega | (apply Ne.symm; assumption))]; first | assumption | exact hput_self _ _ _ | exact hnew_self _ _ _) | (rw [hnew_ne _ _ _ (by first | assumption | omega | (apply Ne.symm; assumption))]; first | assumption | exact hput_self _ _ _ | exact hnew_self _ _ _))) ?_
  refine x_iconst (v := nI 0) dX6_requestFor_42 (by decide) ?_
  refine x_aload_n dX6_requestFor_43 rfl rfl ?_
  refine x_callV dX6_requestFor_44 sv_X6_139_6 rfl (by first | exact hA.pe hp | exact hA.f (by omega) | exact hA.ob | first | assumption | exact hput_self _ _ _ | exact hnew_self _ _ _ | (rw [hput_ne _ _ _ (by first | assumption | omega | (apply Ne.symm; assumption))]; first | assumption | exact hput_self _ _ _ | exact hnew_self _ _ _ | (rw [hput_ne _ _ _ (by first | assumption | omega | (apply Ne.symm; assumption))]; first | assumption | exact hput_self _ _ _ | exact hnew_self _ _ _) | (rw [hnew_ne _ _ _ (by first | assumption | omega | (apply Ne.symm; assumption))]; first | assumption | exact hput_self _ _ _ | exact hnew_self _ _ _)) | (rw [hnew_ne _ _ _ (by first | assumption | omega | (apply Ne.symm; assumption))]; first | assumption | exact hput_self _ _ _ | exact hnew_self _ _ _ | (rw [hput_ne _ _ _ (by first | assumption | omega | (apply Ne.symm; assumption))]; first | assumption | exact hput_self _ _ _ | exact hnew_self _ _ _) | (rw [hnew_ne _ _ _ (by first | assumption | omega | (apply Ne.symm; assumption))]; first | assumption | exact hput_self _ _ _ | exact hnew_self _ _ _))) rfl (Nat.le_of_ble_eq_true rfl) rfl ?_
  refine k_newMarkX hA hp (kc_v dr_1 ?_)
  have hA1 := hA.t_mk hp (u.mk p + nI 2)
  replace hA := hA1
  refine x_aload_n dX6_requestFor_47 rfl rfl ?_
  refine x_callV dX6_requestFor_48 sv_X6_142_6 rfl (by first | exact hA.pe hp | exact hA.f (by omega) | exact hA.ob | first | assumption | exact hput_self _ _ _ | exact hnew_self _ _ _ | (rw [hput_ne _ _ _ (by first | assumption | omega | (apply Ne.symm; assumption))]; first | assumption | exact hput_self _ _ _ | exact hnew_self _ _ _ | (rw [hput_ne _ _ _ (by first | assumption | omega | (apply Ne.symm; assumption))]; first | assumption | exact hput_self _ _ _ | exact hnew_self _ _ _) | (rw [hnew_ne _ _ _ (by first | assumption | omega | (apply Ne.symm; assumption))]; first | assumption | exact hput_self _ _ _ | exact hnew_self _ _ _)) | (rw [hnew_ne _ _ _ (by first | assumption | omega | (apply Ne.symm; assumption))]; first | assumption | exact hput_self _ _ _ | exact hnew_self _ _ _ | (rw [hput_ne _ _ _ (by first | assumption | omega | (apply Ne.symm; assumption))]; first | assumption | exact hput_self _ _ _ | exact hnew_self _ _ _) | (rw [hnew_ne _ _ _ (by first | assumption | omega | (apply Ne.symm; assumption))]; first | assumption | exact hput_self _ _ _ | exact hnew_self _ _ _))) rfl (Nat.le_of_ble_eq_true rfl) rfl ?_
  refine k_newNonceX hA hp (kc_v dr_1 ?_)
  rw [show (u.w_mk p (u.mk p + nI 2)).mk p = u.mk p + nI 2 from va_up_self _ _ _]
  have hA2 := hA.t_no hp (nxN (u.no p))
  replace hA := hA2
  refine x_null dX6_requestFor_51 ?_
  refine x_aload_n dX6_requestFor_52 rfl rfl ?_
  refine x_callI dX6_requestFor_53 si_X6_145 rfl rfl (Nat.le_of_ble_eq_true rfl) rfl ?_
  refine c_reqInit (so := none) (oo := some oa) (by rw [hput_ne _ _ _ hap.symm, hput_ne _ _ _ hap.symm]; exact hnew_self _ _ _) (kc_n dr_7 ?_)
  rw [rq_heap hap]
  refine x_areturn dX6_requestFor_56 rfl (Or.inl ⟨_, rfl⟩) (Or.inr ⟨_, rfl⟩) ?_
  obtain ⟨f1, f2⟩ := hA0.rq hwf hp (.inr (7, [.int (nI (u.nn p)), .int (nI 0), .int (u.mk p), .int (n16 (nxN (u.no p))), .null, .ref oa]))
  refine hq _ _ f1 f2 ?_
  generalize hpk : (askU u p w.1 w.2 kd).2 = pk at hof ⊢
  rw [hw1] at hpk
  obtain ⟨e0, e1, e2, e3, e4, e5, e6, e7, e8, -⟩ := askU_pk0 u p w.2 kd pk hpk.symm (hA0.su hp).1
  refine ⟨hzh, e0, e3, Or.inl ⟨e2, e6, oa, ?_, hof.kept f2.kp⟩⟩
  rw [e1, e2, e4, e5]
  exact hnew_self _ _ _
theorem k_rq_open {wa : Nat} {w : Int32 × Int32} {kd : Nat → Int32} (hA : RA G h x z u E X ov lv sf) (hp : p < 2) (hw1 : w.1 = 0) (hr : Rm G 3 h) (hq : ∀ h' a, RA G h' x z (frU u p) E X ov lv sf → KC x z 3 h h' → reqO h' z a (askU u p w.1 w.2 kd).2 → Q (.returned (some (.ref a))) h') : Jx G mX6_requestFor (d + 3) Q 7 [some (.ref (aP x p)), some (.ref wa), none] [] h := by
  refine x_wf (fun hwf hob hbn => ?_)
  have hzh := hA.zh
  have hgx := hA.gx
  obtain ⟨h4, hsu⟩ := hA.su hp
  refine nw_X6_128 rfl dX6_requestFor_7 (hr.c (by omega)) (hr.s (by omega)) ?_
  have hA0 := hA
  obtain ⟨hA, hK1⟩ := hA.mk1 hwf (.inr (5, [.null, .int 0, .int 0])) 3 (by omega)
  have hwf1 := wf_new (e := .inr (5, [.null, .int 0, .int 0])) (n := 3) hwf
  refine x_dup dX6_requestFor_10 rfl ?_
  refine x_aload_n dX6_requestFor_11 rfl rfl ?_
  refine gf_X6_9_6 rfl dX6_requestFor_12 (by first | exact hA.pe hp | exact hA.f (by omega) | exact hA.ob | first | assumption | exact hput_self _ _ _ | exact hnew_self _ _ _ | (rw [hput_ne _ _ _ (by first | assumption | omega | (apply Ne.symm; assumption))]; first | assumption | exact hput_self _ _ _ | exact hnew_self _ _ _ | (rw [hput_ne _ _ _ (by first | assumption | omega | (apply Ne.symm; assumption))]; first | assumption | exact hput_self _ _ _ | exact hnew_self _ _ _) | (rw [hnew_ne _ _ _ (by first | assumption | omega | (apply Ne.symm; assumption))]; first | assumption | exact hput_self _ _ _ | exact hnew_self _ _ _)) | (rw [hnew_ne _ _ _ (by first | assumption | omega | (apply Ne.symm; assumption))]; first | assumption | exact hput_self _ _ _ | exact hnew_self _ _ _ | (rw [hput_ne _ _ _ (by first | assumption | omega | (apply Ne.symm; assumption))]; first | assumption | exact hput_self _ _ _ | exact hnew_self _ _ _) | (rw [hnew_ne _ _ _ (by first | assumption | omega | (apply Ne.symm; assumption))]; first | assumption | exact hput_self _ _ _ | exact hnew_self _ _ _))) ?_
  refine x_aload_n dX6_requestFor_15 rfl rfl ?_
  refine gf_X6_36_6 rfl dX6_requestFor_16 (by first | exact hA.pe hp | exact hA.f (by omega) | exact hA.ob | first | assumption | exact hput_self _ _ _ | exact hnew_self _ _ _ | (rw [hput_ne _ _ _ (by first | assumption | omega | (apply Ne.symm; assumption))]; first | assumption | exact hput_self _ _ _ | exact hnew_self _ _ _ | (rw [hput_ne _ _ _ (by first | assumption | omega | (apply Ne.symm; assumption))]; first | assumption | exact hput_self _ _ _ | exact hnew_self _ _ _) | (rw [hnew_ne _ _ _ (by first | assumption | omega | (apply Ne.symm; assumption))]; first | assumption | exact hput_self _ _ _ | exact hnew_self _ _ _)) | (rw [hnew_ne _ _ _ (by first | assumption | omega | (apply Ne.symm; assumption))]; first | assumption | exact hput_self _ _ _ | exact hnew_self _ _ _ | (rw [hput_ne _ _ _ (by first | assumption | omega | (apply Ne.symm; assumption))]; first | assumption | exact hput_self _ _ _ | exact hnew_self _ _ _) | (rw [hnew_ne _ _ _ (by first | assumption | omega | (apply Ne.symm; assumption))]; first | assumption | exact hput_self _ _ _ | exact hnew_self _ _ _))) ?_
  refine x_callS dX6_requestFor_19 ss_X6_130 (Nat.le_of_ble_eq_true rfl) rfl (Nat.le_of_ble_eq_true rfl) rfl ?_
  refine c_copyOfI (hA.s hp) (by have := (aS_in (x := x) hp).1; omega) h4 ((hr.after hK1 (k2 := 2) (by omega)).c (by omega)) ((hr.after hK1 (k2 := 2) (by omega)).s (by omega)) (fun f' hf' => kc_v dr_2 ?_)
  obtain ⟨hA, hK2⟩ := hA.mk1 hwf1 (.inl (0, (u.su p).length, .inl f')) (u.su p).length (by omega)
  refine x_aload_n dX6_requestFor_22 rfl rfl ?_
  refine gf_X6_39_6 rfl dX6_requestFor_23 (by first | exact hA.pe hp | exact hA.f (by omega) | exact hA.ob | first | assumption | exact hput_self _ _ _ | exact hnew_self _ _ _ | (rw [hput_ne _ _ _ (by first | assumption | omega | (apply Ne.symm; assumption))]; first | assumption | exact hput_self _ _ _ | exact hnew_self _ _ _ | (rw [hput_ne _ _ _ (by first | assumption | omega | (apply Ne.symm; assumption))]; first | assumption | exact hput_self _ _ _ | exact hnew_self _ _ _) | (rw [hnew_ne _ _ _ (by first | assumption | omega | (apply Ne.symm; assumption))]; first | assumption | exact hput_self _ _ _ | exact hnew_self _ _ _)) | (rw [hnew_ne _ _ _ (by first | assumption | omega | (apply Ne.symm; assumption))]; first | assumption | exact hput_self _ _ _ | exact hnew_self _ _ _ | (rw [hput_ne _ _ _ (by first | assumption | omega | (apply Ne.symm; assumption))]; first | assumption | exact hput_self _ _ _ | exact hnew_self _ _ _) | (rw [hnew_ne _ _ _ (by first | assumption | omega | (apply Ne.symm; assumption))]; first | assumption | exact hput_self _ _ _ | exact hnew_self _ _ _))) ?_
  refine x_aload_n dX6_requestFor_26 rfl rfl ?_
  refine gf_X6_42_6 rfl dX6_requestFor_27 (by first | exact hA.pe hp | exact hA.f (by omega) | exact hA.ob | first | assumption | exact hput_self _ _ _ | exact hnew_self _ _ _ | (rw [hput_ne _ _ _ (by first | assumption | omega | (apply Ne.symm; assumption))]; first | assumption | exact hput_self _ _ _ | exact hnew_self _ _ _ | (rw [hput_ne _ _ _ (by first | assumption | omega | (apply Ne.symm; assumption))]; first | assumption | exact hput_self _ _ _ | exact hnew_self _ _ _) | (rw [hnew_ne _ _ _ (by first | assumption | omega | (apply Ne.symm; assumption))]; first | assumption | exact hput_self _ _ _ | exact hnew_self _ _ _)) | (rw [hnew_ne _ _ _ (by first | assumption | omega | (apply Ne.symm; assumption))]; first | assumption | exact hput_self _ _ _ | exact hnew_self _ _ _ | (rw [hput_ne _ _ _ (by first | assumption | omega | (apply Ne.symm; assumption))]; first | assumption | exact hput_self _ _ _ | exact hnew_self _ _ _) | (rw [hnew_ne _ _ _ (by first | assumption | omega | (apply Ne.symm; assumption))]; first | assumption | exact hput_self _ _ _ | exact hnew_self _ _ _))) ?_
  refine x_callI dX6_requestFor_30 si_X6_136 rfl rfl (Nat.le_of_ble_eq_true rfl) rfl ?_
  refine c_offerInit (by rw [hnew_ne _ _ _ (show h.2.1 ≠ h.2.1 + 1 by omega)]; exact hnew_self _ _ _) (kc_n dr_4 ?_)
  rw [hput_hnew_ne _ _ _ (show h.2.1 ≠ h.2.1 + 1 by omega), hput_hnew]
  obtain ⟨hB, hK3⟩ := hA0.mk1 hwf (.inr (5, [.ref (h.2.1 + 1), .int (u.lo p), .int (u.hi p)])) 3 (by omega)
  obtain ⟨hC, hK4⟩ := hB.mk1 (wf_new hwf) (.inl (0, (u.su p).length, .inl f')) (u.su p).length (by omega)
  replace hA := hC
  refine y_astore_n dX6_requestFor_33 rfl rfl lvs_3_2 ?_
  have hKK := hK3.trans hK4
  refine k_rq_34 (kd := kd) hA hp ?_ hw1 (hr.after hKK (by omega)) (fun h' a q1 q2 q3 => hq h' a q1 ((hKK.trans q2).mono (by omega)) q3)
  generalize hpk : (askU u p w.1 w.2 kd).2 = pk
  rw [hw1] at hpk
  obtain ⟨e0, e1, e2, e3, e4, e5, e6, e7, e8, e10, e11⟩ := askU_pk0 u p w.2 kd pk hpk.symm h4
  have ho := offOf_is h4 e10 e11
  refine ⟨hzh, h.2.1 + 1, f', ?_, by omega, ?_, by rw [ho]; exact h4, by rw [ho]; exact e10, fun k y hy => ?_⟩
  · rw [hnew_ne _ _ _ (show h.2.1 ≠ h.2.1 + 1 by omega), e7, e8]
    exact hnew_self _ _ _
  · rw [ho]
    exact hnew_self (hnew h (.inr (5, [.ref (h.2.1 + 1), .int (u.lo p), .int (u.hi p)])) 3) _ _
  · rw [ho] at hy
    have hk := (List.getElem?_eq_some_iff.mp hy).1
    obtain ⟨g1, g2⟩ := hsu k y hy
    exact ⟨(hf' k hk).trans g1, g2⟩
end K6X
