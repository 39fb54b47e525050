def lvOK (lv : Nat → Option Nat) (u : Ut) : Prop := ∀ q, q < 2 → (lv q = none ↔ u.na q = 0)
section K9X
variable {G : GT} {d : Nat} {Q : Outcome → Hp → Prop} {h : Hp} {x z p : Nat} {u : Ut} {E : Nat → Nat → Nat} {X : Nat → Nat → List Nat} {ov lv : Nat → Option Nat} {sf : Nat → Nat → Int32}
theorem k_subjectMark {r : Nat} {pk : Nat → Int32} (hreq : reqO h z r pk) (hq : Q (.returned (some (.int (pk 6)))) h) : Cx G mX7_subjectMark d [.ref r] h Q := by
  show Jx G mX7_subjectMark d Q 0 [some (.ref r)] [] h
  obtain ⟨-, -, -, ⟨-, h6, oa, hc, -⟩ | ⟨-, sb, kd, hc, ⟨-, ⟨da, hkc, -⟩, -⟩, h6, -⟩⟩ := hreq
  · refine x_aload_n dX7_subjectMark_0 rfl rfl ?_
    refine gf_X7_9_7 (f4 := va_rf none) rfl dX7_subjectMark_1 hc ?_
    refine x_ifnonnull (tgt := 11) dX7_subjectMark_4 (by decide) (fun c1a c1 => ?_) (fun c1 => ?_)
    · cases c1
    refine x_iconst (v := nI 0) dX7_subjectMark_7 (by decide) ?_
    refine x_goto (tgt := 18) dX7_subjectMark_8 (by decide) ?_
    refine x_ireturn dX7_subjectMark_18 rfl ?_
    rw [h6] at hq
    exact hq
  · refine x_aload_n dX7_subjectMark_0 rfl rfl ?_
    refine gf_X7_9_7 (f4 := va_rf (some sb)) rfl dX7_subjectMark_1 hc ?_
    refine x_ifnonnull (tgt := 11) dX7_subjectMark_4 (by decide) (fun c1a c1 => ?_) (fun c1 => ?_)
    · refine x_aload_n dX7_subjectMark_11 rfl rfl ?_
      refine gf_X7_9_7 rfl dX7_subjectMark_12 (by first | exact hA.pe hp | exact hA.f (by omega) | exact hA.ob | first | assumption | exact hput_self _ _ _ | exact hnew_self _ _ _ | (rw [hput_ne _ _ _ (by first | assumption | omega | (apply Ne.symm; assumption))]; first | assumption | exact hput_self _ _ _ | exact hnew_self _ _ _ | (rw [hput_ne _ _ _ (by first | assumption | omega | (apply Ne.symm; assumption))]; first | assumption | exact hput_self _ _ _ | exact hnew_self _ _ _) | (rw [hnew_ne _ _ _ (by first | assumption | omega | (apply Ne.symm; assumption))]; first | assumption | exact hput_self _ _ _ | exact hnew_self _ _ _)) | (rw [hnew_ne _ _ _ (by first | assumption | omega | (apply Ne.symm; assumption))]; first | assumption | exact hput_self _ _ _ | exact hnew_self _ _ _ | (rw [hput_ne _ _ _ (by first | assumption | omega | (apply Ne.symm; assumption))]; first | assumption | exact hput_self _ _ _ | exact hnew_self _ _ _) | (rw [hnew_ne _ _ _ (by first | assumption | omega | (apply Ne.symm; assumption))]; first | assumption | exact hput_self _ _ _ | exact hnew_self _ _ _))) ?_
      refine gf_X7_19_2 rfl dX7_subjectMark_15 (by first | exact hA.pe hp | exact hA.f (by omega) | exact hA.ob | first | assumption | exact hput_self _ _ _ | exact hnew_self _ _ _ | (rw [hput_ne _ _ _ (by first | assumption | omega | (apply Ne.symm; assumption))]; first | assumption | exact hput_self _ _ _ | exact hnew_self _ _ _ | (rw [hput_ne _ _ _ (by first | assumption | omega | (apply Ne.symm; assumption))]; first | assumption | exact hput_self _ _ _ | exact hnew_self _ _ _) | (rw [hnew_ne _ _ _ (by first | assumption | omega | (apply Ne.symm; assumption))]; first | assumption | exact hput_self _ _ _ | exact hnew_self _ _ _)) | (rw [hnew_ne _ _ _ (by first | assumption | omega | (apply Ne.symm; assumption))]; first | assumption | exact hput_self _ _ _ | exact hnew_self _ _ _ | (rw [hput_ne _ _ _ (by first | assumption | omega | (apply Ne.symm; assumption))]; first | assumption | exact hput_self _ _ _ | exact hnew_self _ _ _) | (rw [hnew_ne _ _ _ (by first | assumption | omega | (apply Ne.symm; assumption))]; first | assumption | exact hput_self _ _ _ | exact hnew_self _ _ _))) ?_
      refine x_ireturn dX7_subjectMark_18 rfl ?_
      rw [h6] at hq
      exact hq
    · cases c1
theorem k_ar_yes {r sb : Nat} {pk kd : Nat → Int32} {z3 z4 : Option Value} (hA : RA G h x z u E X ov lv sf) (hp : p < 2) (hreq : reqO h z r pk) (hk2 : pk 2 = nI 1) (hkd : kidO h z sb kd) (hl : (u.ki p).length < 16) (hr : Rm G 3 h) (hq : ∀ h' E' X' a, RA G h' x z ((frU u p).w_ki p (u.ki p ++ [kdL (u.mk p) (pk 4) (kd 2) (kd 3) (kd 4) (kd 0) (nI 0) (mnI (pk 5) (n16 (nxN (u.no p))))])) E' X' ov lv sf → KC x z 3 h h' → ansW h' z a (frM u p (blk (nI 0) (pk 1) (nI 1))) → Q (.returned (some (.ref a))) h') : Jx G mX6_answerToRenew (d + 9) Q 37 [some (.ref (aP x p)), some (.ref r), some (.ref sb), z3, z4] [] h := by
  refine x_aload_n dX6_answerToRenew_37 rfl rfl ?_
  refine x_callV dX6_answerToRenew_38 sv_X6_139_6 rfl (by first | exact hA.pe hp | exact hA.f (by omega) | exact hA.ob | first | assumption | exact hput_self _ _ _ | exact hnew_self _ _ _ | (rw [hput_ne _ _ _ (by first | assumption | omega | (apply Ne.symm; assumption))]; first | assumption | exact hput_self _ _ _ | exact hnew_self _ _ _ | (rw [hput_ne _ _ _ (by first | assumption | omega | (apply Ne.symm; assumption))]; first | assumption | exact hput_self _ _ _ | exact hnew_self _ _ _) | (rw [hnew_ne _ _ _ (by first | assumption | omega | (apply Ne.symm; assumption))]; first | assumption | exact hput_self _ _ _ | exact hnew_self _ _ _)) | (rw [hnew_ne _ _ _ (by first | assumption | omega | (apply Ne.symm; assumption))]; first | assumption | exact hput_self _ _ _ | exact hnew_self _ _ _ | (rw [hput_ne _ _ _ (by first | assumption | omega | (apply Ne.symm; assumption))]; first | assumption | exact hput_self _ _ _ | exact hnew_self _ _ _) | (rw [hnew_ne _ _ _ (by first | assumption | omega | (apply Ne.symm; assumption))]; first | assumption | exact hput_self _ _ _ | exact hnew_self _ _ _))) rfl (Nat.le_of_ble_eq_true rfl) rfl ?_
  refine k_newMark hA hp (fun h1 hA1 hK1 => kc_v dr_1 ?_)
  replace hA := hA1
  refine y_istore_n dX6_answerToRenew_41 rfl lvs_5_3 ?_
  refine x_aload_n dX6_answerToRenew_42 rfl rfl ?_
  refine x_callV dX6_answerToRenew_43 sv_X6_142_6 rfl (by first | exact hA.pe hp | exact hA.f (by omega) | exact hA.ob | first | assumption | exact hput_self _ _ _ | exact hnew_self _ _ _ | (rw [hput_ne _ _ _ (by first | assumption | omega | (apply Ne.symm; assumption))]; first | assumption | exact hput_self _ _ _ | exact hnew_self _ _ _ | (rw [hput_ne _ _ _ (by first | assumption | omega | (apply Ne.symm; assumption))]; first | assumption | exact hput_self _ _ _ | exact hnew_self _ _ _) | (rw [hnew_ne _ _ _ (by first | assumption | omega | (apply Ne.symm; assumption))]; first | assumption | exact hput_self _ _ _ | exact hnew_self _ _ _)) | (rw [hnew_ne _ _ _ (by first | assumption | omega | (apply Ne.symm; assumption))]; first | assumption | exact hput_self _ _ _ | exact hnew_self _ _ _ | (rw [hput_ne _ _ _ (by first | assumption | omega | (apply Ne.symm; assumption))]; first | assumption | exact hput_self _ _ _ | exact hnew_self _ _ _) | (rw [hnew_ne _ _ _ (by first | assumption | omega | (apply Ne.symm; assumption))]; first | assumption | exact hput_self _ _ _ | exact hnew_self _ _ _))) rfl (Nat.le_of_ble_eq_true rfl) rfl ?_
  refine k_newNonce hA hp (fun h2 hA2 hK2 => kc_v dr_1 ?_)
  replace hA : RA G h2 x z (frU u p) E X ov lv sf := hA2
  have hK := hK1.trans hK2
  refine y_istore dX6_answerToRenew_46 rfl lvs_5_4 ?_
  refine x_aload_n dX6_answerToRenew_48 rfl rfl ?_
  replace hreq := hreq.kept hK.kp
  replace hkd := hkd.kept hK.kp
  refine x_wf (fun hwf hob hbn => ?_)
  obtain ⟨so, oo, hrc⟩ := hreq.cell
  obtain ⟨-, ⟨da, hkc, hd⟩, -⟩ := id hkd
  have hrl := hwf _ _ hrc
  have hkl := hwf _ _ hkc
  have hzh := hA.zh
  have hr2 := hr.after hK (k2 := 3) (by omega)
  refine nw_X6_96 rfl dX6_answerToRenew_49 (hr2.c (by omega)) (hr2.s (by omega)) ?_
  refine x_dup dX6_answerToRenew_52 rfl ?_
  refine x_iload_n dX6_answerToRenew_53 rfl ?_
  refine x_aload_n dX6_answerToRenew_54 rfl rfl ?_
  refine gf_X6_202_7 rfl dX6_answerToRenew_55 (by first | exact hA.pe hp | exact hA.f (by omega) | exact hA.ob | first | assumption | exact hput_self _ _ _ | exact hnew_self _ _ _ | (rw [hput_ne _ _ _ (by first | assumption | omega | (apply Ne.symm; assumption))]; first | assumption | exact hput_self _ _ _ | exact hnew_self _ _ _ | (rw [hput_ne _ _ _ (by first | assumption | omega | (apply Ne.symm; assumption))]; first | assumption | exact hput_self _ _ _ | exact hnew_self _ _ _) | (rw [hnew_ne _ _ _ (by first | assumption | omega | (apply Ne.symm; assumption))]; first | assumption | exact hput_self _ _ _ | exact hnew_self _ _ _)) | (rw [hnew_ne _ _ _ (by first | assumption | omega | (apply Ne.symm; assumption))]; first | assumption | exact hput_self _ _ _ | exact hnew_self _ _ _ | (rw [hput_ne _ _ _ (by first | assumption | omega | (apply Ne.symm; assumption))]; first | assumption | exact hput_self _ _ _ | exact hnew_self _ _ _) | (rw [hnew_ne _ _ _ (by first | assumption | omega | (apply Ne.symm; assumption))]; first | assumption | exact hput_self _ _ _ | exact hnew_self _ _ _))) ?_
  refine x_aload_n dX6_answerToRenew_58 rfl rfl ?_
  refine gf_X6_104_2 rfl dX6_answerToRenew_59 (by first | exact hA.pe hp | exact hA.f (by omega) | exact hA.ob | first | assumption | exact hput_self _ _ _ | exact hnew_self _ _ _ | (rw [hput_ne _ _ _ (by first | assumption | omega | (apply Ne.symm; assumption))]; first | assumption | exact hput_self _ _ _ | exact hnew_self _ _ _ | (rw [hput_ne _ _ _ (by first | assumption | omega | (apply Ne.symm; assumption))]; first | assumption | exact hput_self _ _ _ | exact hnew_self _ _ _) | (rw [hnew_ne _ _ _ (by first | assumption | omega | (apply Ne.symm; assumption))]; first | assumption | exact hput_self _ _ _ | exact hnew_self _ _ _)) | (rw [hnew_ne _ _ _ (by first | assumption | omega | (apply Ne.symm; assumption))]; first | assumption | exact hput_self _ _ _ | exact hnew_self _ _ _ | (rw [hput_ne _ _ _ (by first | assumption | omega | (apply Ne.symm; assumption))]; first | assumption | exact hput_self _ _ _ | exact hnew_self _ _ _) | (rw [hnew_ne _ _ _ (by first | assumption | omega | (apply Ne.symm; assumption))]; first | assumption | exact hput_self _ _ _ | exact hnew_self _ _ _))) ?_
  refine x_aload_n dX6_answerToRenew_62 rfl rfl ?_
  refine gf_X6_98_2 rfl dX6_answerToRenew_63 (by first | exact hA.pe hp | exact hA.f (by omega) | exact hA.ob | first | assumption | exact hput_self _ _ _ | exact hnew_self _ _ _ | (rw [hput_ne _ _ _ (by first | assumption | omega | (apply Ne.symm; assumption))]; first | assumption | exact hput_self _ _ _ | exact hnew_self _ _ _ | (rw [hput_ne _ _ _ (by first | assumption | omega | (apply Ne.symm; assumption))]; first | assumption | exact hput_self _ _ _ | exact hnew_self _ _ _) | (rw [hnew_ne _ _ _ (by first | assumption | omega | (apply Ne.symm; assumption))]; first | assumption | exact hput_self _ _ _ | exact hnew_self _ _ _)) | (rw [hnew_ne _ _ _ (by first | assumption | omega | (apply Ne.symm; assumption))]; first | assumption | exact hput_self _ _ _ | exact hnew_self _ _ _ | (rw [hput_ne _ _ _ (by first | assumption | omega | (apply Ne.symm; assumption))]; first | assumption | exact hput_self _ _ _ | exact hnew_self _ _ _) | (rw [hnew_ne _ _ _ (by first | assumption | omega | (apply Ne.symm; assumption))]; first | assumption | exact hput_self _ _ _ | exact hnew_self _ _ _))) ?_
  refine x_iconst (v := nI 0) dX6_answerToRenew_66 (by decide) ?_
  refine x_aload_n dX6_answerToRenew_67 rfl rfl ?_
  refine gf_X6_203_7 rfl dX6_answerToRenew_68 (by first | exact hA.pe hp | exact hA.f (by omega) | exact hA.ob | first | assumption | exact hput_self _ _ _ | exact hnew_self _ _ _ | (rw [hput_ne _ _ _ (by first | assumption | omega | (apply Ne.symm; assumption))]; first | assumption | exact hput_self _ _ _ | exact hnew_self _ _ _ | (rw [hput_ne _ _ _ (by first | assumption | omega | (apply Ne.symm; assumption))]; first | assumption | exact hput_self _ _ _ | exact hnew_self _ _ _) | (rw [hnew_ne _ _ _ (by first | assumption | omega | (apply Ne.symm; assumption))]; first | assumption | exact hput_self _ _ _ | exact hnew_self _ _ _)) | (rw [hnew_ne _ _ _ (by first | assumption | omega | (apply Ne.symm; assumption))]; first | assumption | exact hput_self _ _ _ | exact hnew_self _ _ _ | (rw [hput_ne _ _ _ (by first | assumption | omega | (apply Ne.symm; assumption))]; first | assumption | exact hput_self _ _ _ | exact hnew_self _ _ _) | (rw [hnew_ne _ _ _ (by first | assumption | omega | (apply Ne.symm; assumption))]; first | assumption | exact hput_self _ _ _ | exact hnew_self _ _ _))) ?_
  refine x_iload dX6_answerToRenew_71 rfl ?_
  refine x_callS dX6_answerToRenew_73 ss_X6_206 (Nat.le_of_ble_eq_true rfl) rfl (Nat.le_of_ble_eq_true rfl) rfl ?_
  refine c_min (kc_v dr_2 ?_)
  rw [mn_eq]
  refine x_callI dX6_answerToRenew_76 si_X6_212 rfl rfl (Nat.le_of_ble_eq_true rfl) rfl ?_
  refine c_childInit (b := false) (hnew_self _ _ _) (kc_n dr_7 ?_)
  rw [hput_hnew]
  obtain ⟨hA3, hK3⟩ := hA.mk1 hwf (.inr (2, [.int (u.mk p), .int (pk 4), .ref da, .int (kd 0), .int (bI false), .int (mnI (pk 5) (n16 (nxN (u.no p))))])) 6 (by omega)
  replace hA := hA3
  replace hK := hK.trans hK3
  refine x_callV dX6_answerToRenew_79 sv_X6_215_6 rfl (by first | exact hA.pe hp | exact hA.f (by omega) | exact hA.ob | first | assumption | exact hput_self _ _ _ | exact hnew_self _ _ _ | (rw [hput_ne _ _ _ (by first | assumption | omega | (apply Ne.symm; assumption))]; first | assumption | exact hput_self _ _ _ | exact hnew_self _ _ _ | (rw [hput_ne _ _ _ (by first | assumption | omega | (apply Ne.symm; assumption))]; first | assumption | exact hput_self _ _ _ | exact hnew_self _ _ _) | (rw [hnew_ne _ _ _ (by first | assumption | omega | (apply Ne.symm; assumption))]; first | assumption | exact hput_self _ _ _ | exact hnew_self _ _ _)) | (rw [hnew_ne _ _ _ (by first | assumption | omega | (apply Ne.symm; assumption))]; first | assumption | exact hput_self _ _ _ | exact hnew_self _ _ _ | (rw [hput_ne _ _ _ (by first | assumption | omega | (apply Ne.symm; assumption))]; first | assumption | exact hput_self _ _ _ | exact hnew_self _ _ _) | (rw [hnew_ne _ _ _ (by first | assumption | omega | (apply Ne.symm; assumption))]; first | assumption | exact hput_self _ _ _ | exact hnew_self _ _ _))) rfl (Nat.le_of_ble_eq_true rfl) rfl ?_
  refine k_keep (kd := kdL (u.mk p) (pk 4) (kd 2) (kd 3) (kd 4) (kd 0) (nI 0) (mnI (pk 5) (n16 (nxN (u.no p))))) hA hp ⟨hzh, ⟨da, hnew_self _ _ _, hd.kept hK3.kp⟩, false, rfl⟩ (Nat.le_of_lt hl) (hr.after hK (by omega)) (fun h4 E4 X4 hA4 hK4 => kc_n dr_2 ?_)
  rw [kiIn, if_pos (show ((frU u p).ki p).length < 16 from hl)] at hA4
  replace hA := hA4
  replace hreq := hreq.kept (hK3.trans hK4).kp
  replace hK := hK.trans hK4
  refine x_wf (fun hwf hob hbn => ?_)
  obtain ⟨so, oo, hrc⟩ := hreq.cell
  have hrl := hwf _ _ hrc
  have hzh := hA.zh
  have hr4 := hr.after hK (k2 := 1) (by omega)
  refine nw_X6_170 rfl dX6_answerToRenew_82 (hr4.c (by omega)) (hr4.s (by omega)) ?_
  refine x_dup dX6_answerToRenew_85 rfl ?_
  refine x_aload_n dX6_answerToRenew_86 rfl rfl ?_
  refine x_iconst (v := nI 0) dX6_answerToRenew_87 (by decide) ?_
  refine x_iload_n dX6_answerToRenew_88 rfl ?_
  refine x_iload dX6_answerToRenew_89 rfl ?_
  refine x_null dX6_answerToRenew_91 ?_
  refine x_callI dX6_answerToRenew_92 si_X6_219 rfl rfl (Nat.le_of_ble_eq_true rfl) rfl ?_
  refine c_ansInit (b := false) (dv := none) (hnew_self _ _ _) (by rw [hnew_ne _ _ _ (by omega)]; exact hrc) (kc_n dr_6 ?_)
  rw [hput_hnew]
  refine x_areturn dX6_answerToRenew_95 rfl (by first | exact Or.inl ⟨_, rfl⟩ | exact Or.inr ⟨_, rfl⟩) (by first | exact Or.inr ⟨_, rfl⟩ | exact Or.inl rfl | assumption) ?_
  obtain ⟨f1, f2⟩ := hA.mk1 hwf (.inr (1, [.int (pk 1), .int (pk 2), .int (u.mk p), .int (n16 (nxN (u.no p))), .int (bI false), .null])) 6 (by omega)
  refine hq _ _ _ _ f1 ((hK.trans f2).mono (by omega)) ⟨hzh, rfl, rfl, false, none, rfl, ?_, (fun q _ => absurd (show nI 1 = 0 from q) (by decide)), fun _ => rfl⟩
  rw [hk2]
  exact hnew_self _ _ _
theorem k_answerToRenew {r : Nat} {pk : Nat → Int32} (hA : RA G h x z u E X ov lv sf) (hp : p < 2) (hreq : reqO h z r pk) (hk2 : pk 2 = nI 1) (hl : (u.ki p).length ≤ 16) (hr : Rm G 4 h) (hq : ∀ h' E' X' a, RA G h' x z (ansRenew u p pk).1 E' X' ov lv sf → KC x z 4 h h' → ansW h' z a (ansRenew u p pk).2 → Q (.returned (some (.ref a))) h') : Cx G mX6_answerToRenew (d + 9) [.ref (aP x p), .ref r] h Q := by
  show Jx G mX6_answerToRenew (d + 9) Q 0 [some (.ref (aP x p)), some (.ref r), none, none, none] [] h
  have hno : pk 2 ≠ nI 2 := by rw [hk2]; decide
  obtain ⟨so, oo, hrc⟩ := hreq.cell
  have no : ∀ (s2 : Option Value), (∀ h' a, RA G h' x z u E X ov lv sf → KC x z 4 h h' → ansW h' z a (noR pk) → Q (.returned (some (.ref a))) h') → Jx G mX6_answerToRenew (d + 9) Q 32 [some (.ref (aP x p)), some (.ref r), s2, none, none] [] h := by
    intro s2 hq
    refine x_aload_n dX6_answerToRenew_32 rfl rfl ?_
    refine x_callS dX6_answerToRenew_33 ss_X6_199 (Nat.le_of_ble_eq_true rfl) rfl (Nat.le_of_ble_eq_true rfl) rfl ?_
    refine k_no hA hreq hno (hr.after (KC.rf x z h) (by omega)) (fun h3 a q3 q4 q5 => kc_v dr_1 ?_)
    refine x_areturn dX6_answerToRenew_36 rfl (by first | exact Or.inl ⟨_, rfl⟩ | exact Or.inr ⟨_, rfl⟩) (by first | exact Or.inr ⟨_, rfl⟩ | exact Or.inl rfl | assumption) ?_
    rw [hk2] at q5
    exact hq _ _ q3 (q4.mono (by omega)) q5
  unfold ansRenew at hq
  refine x_aload_n dX6_answerToRenew_0 rfl rfl ?_
  refine x_aload_n dX6_answerToRenew_1 rfl rfl ?_
  refine x_callV dX6_answerToRenew_2 sv_X6_222_7 rfl (by first | exact hA.pe hp | exact hA.f (by omega) | exact hA.ob | first | assumption | exact hput_self _ _ _ | exact hnew_self _ _ _ | (rw [hput_ne _ _ _ (by first | assumption | omega | (apply Ne.symm; assumption))]; first | assumption | exact hput_self _ _ _ | exact hnew_self _ _ _ | (rw [hput_ne _ _ _ (by first | assumption | omega | (apply Ne.symm; assumption))]; first | assumption | exact hput_self _ _ _ | exact hnew_self _ _ _) | (rw [hnew_ne _ _ _ (by first | assumption | omega | (apply Ne.symm; assumption))]; first | assumption | exact hput_self _ _ _ | exact hnew_self _ _ _)) | (rw [hnew_ne _ _ _ (by first | assumption | omega | (apply Ne.symm; assumption))]; first | assumption | exact hput_self _ _ _ | exact hnew_self _ _ _ | (rw [hput_ne _ _ _ (by first | assumption | omega | (apply Ne.symm; assumption))]; first | assumption | exact hput_self _ _ _ | exact hnew_self _ _ _) | (rw [hnew_ne _ _ _ (by first | assumption | omega | (apply Ne.symm; assumption))]; first | assumption | exact hput_self _ _ _ | exact hnew_self _ _ _))) rfl (Nat.le_of_ble_eq_true rfl) rfl ?_
  refine k_subjectMark hreq (kc_v dr_1 ?_)
  refine x_callV dX6_answerToRenew_5 sv_X6_225_6 rfl (by first | exact hA.pe hp | exact hA.f (by omega) | exact hA.ob | first | assumption | exact hput_self _ _ _ | exact hnew_self _ _ _ | (rw [hput_ne _ _ _ (by first | assumption | omega | (apply Ne.symm; assumption))]; first | assumption | exact hput_self _ _ _ | exact hnew_self _ _ _ | (rw [hput_ne _ _ _ (by first | assumption | omega | (apply Ne.symm; assumption))]; first | assumption | exact hput_self _ _ _ | exact hnew_self _ _ _) | (rw [hnew_ne _ _ _ (by first | assumption | omega | (apply Ne.symm; assumption))]; first | assumption | exact hput_self _ _ _ | exact hnew_self _ _ _)) | (rw [hnew_ne _ _ _ (by first | assumption | omega | (apply Ne.symm; assumption))]; first | assumption | exact hput_self _ _ _ | exact hnew_self _ _ _ | (rw [hput_ne _ _ _ (by first | assumption | omega | (apply Ne.symm; assumption))]; first | assumption | exact hput_self _ _ _ | exact hnew_self _ _ _) | (rw [hnew_ne _ _ _ (by first | assumption | omega | (apply Ne.symm; assumption))]; first | assumption | exact hput_self _ _ _ | exact hnew_self _ _ _))) rfl (Nat.le_of_ble_eq_true rfl) rfl ?_
  refine k_childOfOtherMark hA hp hl (kc_v dr_2 ?_)
  generalize hf : (u.ki p).findIdx? (fun kd => decide (kd 1 = pk 6)) = o at hq ⊢
  cases o with
  | none =>
    show Jx _ _ _ _ _ _ [.null] _
    refine y_astore_n dX6_answerToRenew_8 rfl rfl lvs_5_2 ?_
    refine x_aload_n (v := va_rf none) dX6_answerToRenew_9 rfl rfl ?_
    refine x_ifnull (tgt := 32) dX6_answerToRenew_10 (by decide) (fun c1 => ?_) (fun c1a c1 => ?_)
    · exact no _ (fun h' a q1 q2 q3 => hq _ _ _ _ q1 q2 q3)
    · cases c1
  | some k =>
    obtain ⟨hkl, -⟩ := fi_at hf
    have hkx : k < (X 1 p).length := by rw [(hA.ki hp).1]; exact hkl
    have hkid := (hA.ki hp).at hkx (List.getElem?_eq_getElem hkl)
    have hgd : (u.ki p).getD k (fun _ => 0) = (u.ki p)[k] := by rw [List.getD_eq_getElem?_getD, List.getElem?_eq_getElem hkl]; rfl
    obtain ⟨-, ⟨da, hc, -⟩, -⟩ := id hkid
    simp only [adr, List.getElem?_eq_getElem hkx]
    simp only [hgd] at hq
    show Jx _ _ _ _ _ _ [.ref (X 1 p)[k]] _
    refine y_astore_n dX6_answerToRenew_8 rfl rfl lvs_5_2 ?_
    refine x_aload_n (v := va_rf (some (X 1 p)[k])) dX6_answerToRenew_9 rfl rfl ?_
    refine x_ifnull (tgt := 32) dX6_answerToRenew_10 (by decide) (fun c1 => ?_) (fun c1a c1 => ?_)
    · cases c1
    refine x_aload_n dX6_answerToRenew_13 rfl rfl ?_
    refine x_aload_n dX6_answerToRenew_14 rfl rfl ?_
    refine gf_X6_98_2 rfl dX6_answerToRenew_15 (by first | exact hA.pe hp | exact hA.f (by omega) | exact hA.ob | first | assumption | exact hput_self _ _ _ | exact hnew_self _ _ _ | (rw [hput_ne _ _ _ (by first | assumption | omega | (apply Ne.symm; assumption))]; first | assumption | exact hput_self _ _ _ | exact hnew_self _ _ _ | (rw [hput_ne _ _ _ (by first | assumption | omega | (apply Ne.symm; assumption))]; first | assumption | exact hput_self _ _ _ | exact hnew_self _ _ _) | (rw [hnew_ne _ _ _ (by first | assumption | omega | (apply Ne.symm; assumption))]; first | assumption | exact hput_self _ _ _ | exact hnew_self _ _ _)) | (rw [hnew_ne _ _ _ (by first | assumption | omega | (apply Ne.symm; assumption))]; first | assumption | exact hput_self _ _ _ | exact hnew_self _ _ _ | (rw [hput_ne _ _ _ (by first | assumption | omega | (apply Ne.symm; assumption))]; first | assumption | exact hput_self _ _ _ | exact hnew_self _ _ _) | (rw [hnew_ne _ _ _ (by first | assumption | omega | (apply Ne.symm; assumption))]; first | assumption | exact hput_self _ _ _ | exact hnew_self _ _ _))) ?_
    refine x_iconst (v := nI 1) dX6_answerToRenew_18 (by decide) ?_
    refine x_callV dX6_answerToRenew_19 sv_X6_153_6 rfl (by first | exact hA.pe hp | exact hA.f (by omega) | exact hA.ob | first | assumption | exact hput_self _ _ _ | exact hnew_self _ _ _ | (rw [hput_ne _ _ _ (by first | assumption | omega | (apply Ne.symm; assumption))]; first | assumption | exact hput_self _ _ _ | exact hnew_self _ _ _ | (rw [hput_ne _ _ _ (by first | assumption | omega | (apply Ne.symm; assumption))]; first | assumption | exact hput_self _ _ _ | exact hnew_self _ _ _) | (rw [hnew_ne _ _ _ (by first | assumption | omega | (apply Ne.symm; assumption))]; first | assumption | exact hput_self _ _ _ | exact hnew_self _ _ _)) | (rw [hnew_ne _ _ _ (by first | assumption | omega | (apply Ne.symm; assumption))]; first | assumption | exact hput_self _ _ _ | exact hnew_self _ _ _ | (rw [hput_ne _ _ _ (by first | assumption | omega | (apply Ne.symm; assumption))]; first | assumption | exact hput_self _ _ _ | exact hnew_self _ _ _) | (rw [hnew_ne _ _ _ (by first | assumption | omega | (apply Ne.symm; assumption))]; first | assumption | exact hput_self _ _ _ | exact hnew_self _ _ _))) rfl (Nat.le_of_ble_eq_true rfl) rfl ?_
    refine k_renewalOf hA hp hl (kc_v dr_3 ?_)
    generalize hg : (u.ki p).findIdx? (fun e => decide (e 5 = (u.ki p)[k] 0 ∧ e 6 = nI 1)) = o2 at hq ⊢
    cases o2 with
    | some j =>
      obtain ⟨hj, -⟩ := fi_at hg
      rw [if_pos (Or.inl (by simp))] at hq
      simp only [adr]
      rw [List.getElem?_eq_getElem (show j < (X 1 p).length by rw [(hA.ki hp).1]; exact hj)]
      refine x_ifnonnull (tgt := 32) dX6_answerToRenew_22 (by decide) (fun c2a c2 => ?_) (fun c2 => ?_)
      · exact no _ (fun h' a q1 q2 q3 => hq _ _ _ _ q1 q2 q3)
      · cases c2
    | none =>
      simp only [adr]
      refine x_ifnonnull (tgt := 32) dX6_answerToRenew_22 (by decide) (fun c2a c2 => ?_) (fun c2 => ?_)
      · cases c2
      refine x_aload_n dX6_answerToRenew_25 rfl rfl ?_
      refine x_callV dX6_answerToRenew_26 sv_X6_195_6 rfl (by first | exact hA.pe hp | exact hA.f (by omega) | exact hA.ob | first | assumption | exact hput_self _ _ _ | exact hnew_self _ _ _ | (rw [hput_ne _ _ _ (by first | assumption | omega | (apply Ne.symm; assumption))]; first | assumption | exact hput_self _ _ _ | exact hnew_self _ _ _ | (rw [hput_ne _ _ _ (by first | assumption | omega | (apply Ne.symm; assumption))]; first | assumption | exact hput_self _ _ _ | exact hnew_self _ _ _) | (rw [hnew_ne _ _ _ (by first | assumption | omega | (apply Ne.symm; assumption))]; first | assumption | exact hput_self _ _ _ | exact hnew_self _ _ _)) | (rw [hnew_ne _ _ _ (by first | assumption | omega | (apply Ne.symm; assumption))]; first | assumption | exact hput_self _ _ _ | exact hnew_self _ _ _ | (rw [hput_ne _ _ _ (by first | assumption | omega | (apply Ne.symm; assumption))]; first | assumption | exact hput_self _ _ _ | exact hnew_self _ _ _) | (rw [hnew_ne _ _ _ (by first | assumption | omega | (apply Ne.symm; assumption))]; first | assumption | exact hput_self _ _ _ | exact hnew_self _ _ _))) rfl (Nat.le_of_ble_eq_true rfl) rfl ?_
      refine k_isFull hA hp hl (kc_v dr_1 ?_)
      by_cases h16 : (u.ki p).length = 16
      · rw [decide_eq_true h16]
        rw [if_pos (Or.inr h16)] at hq
        refine x_if_eq (tgt := 37) dX6_answerToRenew_29 (by decide) (fun c3 => ?_) (fun c3 => ?_)
        · exact absurd c3 (by decide)
        · exact no _ (fun h' a q1 q2 q3 => hq _ _ _ _ q1 q2 q3)
      · rw [decide_eq_false h16]
        rw [if_neg (by simp [h16])] at hq
        refine x_if_eq (tgt := 37) dX6_answerToRenew_29 (by decide) (fun c3 => ?_) (fun c3 => ?_)
        · exact k_ar_yes hA hp hreq hk2 hkid (by omega) (hr.after (KC.rf x z h) (by omega)) (fun h3 E3 X3 a q3 q4 q5 => hq _ _ _ _ q3 (q4.mono (by omega)) q5)
        · exact absurd rfl c3
theorem k_ad_21 {r : Nat} {pk : Nat → Int32} {s2 : Option Value} (hA : RA G h x z u E X ov lv sf) (hreq : reqO h z r pk) (hk2 : pk 2 = nI 2) (hr : Rm G 1 h) (hq : ∀ h' a, RA G h' x z u E X ov lv sf → KC x z 1 h h' → ansW h' z a (blk (nI 0) (pk 1) (nI 2)) → Q (.returned (some (.ref a))) h') : Jx G mX6_answerToDelete (d + 4) Q 21 [some (.ref (aP x p)), some (.ref r), s2] [] h := by
  refine x_wf (fun hwf hob hbn => ?_)
  obtain ⟨so, oo, hrc⟩ := hreq.cell
  have hrl := hwf _ _ hrc
  have hzh := hA.zh
  refine nw_X6_170 rfl dX6_answerToDelete_21 (hr.c (by omega)) (hr.s (by omega)) ?_
  refine x_dup dX6_answerToDelete_24 rfl ?_
  refine x_aload_n dX6_answerToDelete_25 rfl rfl ?_
  refine x_iconst (v := nI 0) dX6_answerToDelete_26 (by decide) ?_
  refine x_iconst (v := nI 0) dX6_answerToDelete_27 (by decide) ?_
  refine x_iconst (v := nI 0) dX6_answerToDelete_28 (by decide) ?_
  refine x_null dX6_answerToDelete_29 ?_
  refine x_callI dX6_answerToDelete_30 si_X6_219 rfl rfl (Nat.le_of_ble_eq_true rfl) rfl ?_
  refine c_ansInit (b := false) (dv := none) (hnew_self _ _ _) (by rw [hnew_ne _ _ _ (by omega)]; exact hrc) (kc_n dr_6 ?_)
  rw [hput_hnew]
  refine x_areturn dX6_answerToDelete_33 rfl (by first | exact Or.inl ⟨_, rfl⟩ | exact Or.inr ⟨_, rfl⟩) (by first | exact Or.inr ⟨_, rfl⟩ | exact Or.inl rfl | assumption) ?_
  obtain ⟨f1, f2⟩ := hA.mk1 hwf (.inr (1, [.int (pk 1), .int (pk 2), .int (nI 0), .int (nI 0), .int (bI false), .null])) 6 (by omega)
  refine hq _ _ f1 f2 ⟨hzh, rfl, rfl, false, none, rfl, ?_, (fun q _ => absurd (show nI 2 = 0 from q) (by decide)), fun _ => rfl⟩
  rw [hk2]
  exact hnew_self _ _ _
theorem k_answerToDelete {r : Nat} {pk : Nat → Int32} (hA : RA G h x z u E X ov lv sf) (hp : p < 2) (hreq : reqO h z r pk) (hk2 : pk 2 = nI 2) (hl : (u.ki p).length ≤ 16) (hmk : ∀ i j (hi : i < (u.ki p).length) (hj : j < (u.ki p).length), (u.ki p)[i] 0 = (u.ki p)[j] 0 → i = j) (hr : Rm G 1 h) (hq : ∀ h' E' X' a, RA G h' x z (ansDel u p pk).1 E' X' ov lv sf → KC x z 1 h h' → ansW h' z a (ansDel u p pk).2 → Q (.returned (some (.ref a))) h') : Cx G mX6_answerToDelete (d + 4) [.ref (aP x p), .ref r] h Q := by
  show Jx G mX6_answerToDelete (d + 4) Q 0 [some (.ref (aP x p)), some (.ref r), none] [] h
  obtain ⟨so, oo, hrc⟩ := hreq.cell
  unfold ansDel at hq
  refine x_aload_n dX6_answerToDelete_0 rfl rfl ?_
  refine x_aload_n dX6_answerToDelete_1 rfl rfl ?_
  refine x_callV dX6_answerToDelete_2 sv_X6_222_7 rfl (by first | exact hA.pe hp | exact hA.f (by omega) | exact hA.ob | first | assumption | exact hput_self _ _ _ | exact hnew_self _ _ _ | (rw [hput_ne _ _ _ (by first | assumption | omega | (apply Ne.symm; assumption))]; first | assumption | exact hput_self _ _ _ | exact hnew_self _ _ _ | (rw [hput_ne _ _ _ (by first | assumption | omega | (apply Ne.symm; assumption))]; first | assumption | exact hput_self _ _ _ | exact hnew_self _ _ _) | (rw [hnew_ne _ _ _ (by first | assumption | omega | (apply Ne.symm; assumption))]; first | assumption | exact hput_self _ _ _ | exact hnew_self _ _ _)) | (rw [hnew_ne _ _ _ (by first | assumption | omega | (apply Ne.symm; assumption))]; first | assumption | exact hput_self _ _ _ | exact hnew_self _ _ _ | (rw [hput_ne _ _ _ (by first | assumption | omega | (apply Ne.symm; assumption))]; first | assumption | exact hput_self _ _ _ | exact hnew_self _ _ _) | (rw [hnew_ne _ _ _ (by first | assumption | omega | (apply Ne.symm; assumption))]; first | assumption | exact hput_self _ _ _ | exact hnew_self _ _ _))) rfl (Nat.le_of_ble_eq_true rfl) rfl ?_
  refine k_subjectMark hreq (kc_v dr_1 ?_)
  refine x_callV dX6_answerToDelete_5 sv_X6_225_6 rfl (by first | exact hA.pe hp | exact hA.f (by omega) | exact hA.ob | first | assumption | exact hput_self _ _ _ | exact hnew_self _ _ _ | (rw [hput_ne _ _ _ (by first | assumption | omega | (apply Ne.symm; assumption))]; first | assumption | exact hput_self _ _ _ | exact hnew_self _ _ _ | (rw [hput_ne _ _ _ (by first | assumption | omega | (apply Ne.symm; assumption))]; first | assumption | exact hput_self _ _ _ | exact hnew_self _ _ _) | (rw [hnew_ne _ _ _ (by first | assumption | omega | (apply Ne.symm; assumption))]; first | assumption | exact hput_self _ _ _ | exact hnew_self _ _ _)) | (rw [hnew_ne _ _ _ (by first | assumption | omega | (apply Ne.symm; assumption))]; first | assumption | exact hput_self _ _ _ | exact hnew_self _ _ _ | (rw [hput_ne _ _ _ (by first | assumption | omega | (apply Ne.symm; assumption))]; first | assumption | exact hput_self _ _ _ | exact hnew_self _ _ _) | (rw [hnew_ne _ _ _ (by first | assumption | omega | (apply Ne.symm; assumption))]; first | assumption | exact hput_self _ _ _ | exact hnew_self _ _ _))) rfl (Nat.le_of_ble_eq_true rfl) rfl ?_
  refine k_childOfOtherMark hA hp hl (kc_v dr_2 ?_)
  generalize hf : (u.ki p).findIdx? (fun kd => decide (kd 1 = pk 6)) = o at hq ⊢
  cases o with
  | none =>
    show Jx _ _ _ _ _ _ [.null] _
    refine y_astore_n dX6_answerToDelete_8 rfl rfl lvs_3_2 ?_
    refine x_aload_n (v := va_rf none) dX6_answerToDelete_9 rfl rfl ?_
    refine x_ifnull (tgt := 21) dX6_answerToDelete_10 (by decide) (fun c1 => ?_) (fun c1a c1 => ?_)
    · exact k_ad_21 hA hreq hk2 hr (fun h' a q1 q2 q3 => hq _ _ _ _ q1 q2 q3)
    · cases c1
  | some k =>
    obtain ⟨hkl, -⟩ := fi_at hf
    have hkx : k < (X 1 p).length := by rw [(hA.ki hp).1]; exact hkl
    have hkid := (hA.ki hp).at hkx (List.getElem?_eq_getElem hkl)
    obtain ⟨-, ⟨da, hc, -⟩, -⟩ := id hkid
    simp only [adr, List.getElem?_eq_getElem hkx]
    show Jx _ _ _ _ _ _ [.ref (X 1 p)[k]] _
    refine y_astore_n dX6_answerToDelete_8 rfl rfl lvs_3_2 ?_
    refine x_aload_n (v := va_rf (some (X 1 p)[k])) dX6_answerToDelete_9 rfl rfl ?_
    refine x_ifnull (tgt := 21) dX6_answerToDelete_10 (by decide) (fun c1 => ?_) (fun c1a c1 => ?_)
    · cases c1
    refine x_aload_n dX6_answerToDelete_13 rfl rfl ?_
    refine x_aload_n dX6_answerToDelete_14 rfl rfl ?_
    refine gf_X6_98_2 rfl dX6_answerToDelete_15 (by first | exact hA.pe hp | exact hA.f (by omega) | exact hA.ob | first | assumption | exact hput_self _ _ _ | exact hnew_self _ _ _ | (rw [hput_ne _ _ _ (by first | assumption | omega | (apply Ne.symm; assumption))]; first | assumption | exact hput_self _ _ _ | exact hnew_self _ _ _ | (rw [hput_ne _ _ _ (by first | assumption | omega | (apply Ne.symm; assumption))]; first | assumption | exact hput_self _ _ _ | exact hnew_self _ _ _) | (rw [hnew_ne _ _ _ (by first | assumption | omega | (apply Ne.symm; assumption))]; first | assumption | exact hput_self _ _ _ | exact hnew_self _ _ _)) | (rw [hnew_ne _ _ _ (by first | assumption | omega | (apply Ne.symm; assumption))]; first | assumption | exact hput_self _ _ _ | exact hnew_self _ _ _ | (rw [hput_ne _ _ _ (by first | assumption | omega | (apply Ne.symm; assumption))]; first | assumption | exact hput_self _ _ _ | exact hnew_self _ _ _) | (rw [hnew_ne _ _ _ (by first | assumption | omega | (apply Ne.symm; assumption))]; first | assumption | exact hput_self _ _ _ | exact hnew_self _ _ _))) ?_
    refine x_callV dX6_answerToDelete_18 sv_X6_228_6 rfl (by first | exact hA.pe hp | exact hA.f (by omega) | exact hA.ob | first | assumption | exact hput_self _ _ _ | exact hnew_self _ _ _ | (rw [hput_ne _ _ _ (by first | assumption | omega | (apply Ne.symm; assumption))]; first | assumption | exact hput_self _ _ _ | exact hnew_self _ _ _ | (rw [hput_ne _ _ _ (by first | assumption | omega | (apply Ne.symm; assumption))]; first | assumption | exact hput_self _ _ _ | exact hnew_self _ _ _) | (rw [hnew_ne _ _ _ (by first | assumption | omega | (apply Ne.symm; assumption))]; first | assumption | exact hput_self _ _ _ | exact hnew_self _ _ _)) | (rw [hnew_ne _ _ _ (by first | assumption | omega | (apply Ne.symm; assumption))]; first | assumption | exact hput_self _ _ _ | exact hnew_self _ _ _ | (rw [hput_ne _ _ _ (by first | assumption | omega | (apply Ne.symm; assumption))]; first | assumption | exact hput_self _ _ _ | exact hnew_self _ _ _) | (rw [hnew_ne _ _ _ (by first | assumption | omega | (apply Ne.symm; assumption))]; first | assumption | exact hput_self _ _ _ | exact hnew_self _ _ _))) rfl (Nat.le_of_ble_eq_true rfl) rfl ?_
    refine k_drop hA hp hl (fun h1 E1 X1 hA1 hK1 => kc_n dr_2 ?_)
    rw [fi_some (P := fun kd => decide (kd 0 = (u.ki p)[k] 0)) hkl (decide_eq_true rfl) (fun j hj hjk => decide_eq_false (fun e => by have := hmk j k hj hkl e; omega))] at hA1
    refine k_ad_21 hA1 (hreq.kept hK1.kp) hk2 (hr.after hK1 (by omega)) (fun h' a q1 q2 q3 => hq _ _ _ _ q1 ((hK1.trans q2).mono (by omega)) q3)
end K9X
