theorem kiIn_na (u : Ut) (p : Nat) (kd : Nat → Int32) : (kiIn u p kd).na = u.na := by
  unfold kiIn
  split <;> rfl
theorem ansU_na (u : Ut) (p : Nat) (md : Nat → Int32) : (ansU u p md).1.na = u.na := by
  unfold ansU
  split
  · rfl
  · split
    · unfold ansV
      split
      · exact (kiOut_na _ _ _).1
      · split
        · split
          · exact kiIn_na _ _ _
          · exact kiIn_na _ _ _
        · rfl
    · rfl
section K12X
variable {G : GT} {d : Nat} {Q : Outcome → Hp → Prop} {h : Hp} {x z p : Nat} {u : Ut} {E : Nat → Nat → Nat} {X : Nat → Nat → List Nat} {ov lv : Nat → Option Nat} {sf : Nat → Nat → Int32}
theorem k_settle {r a : Nat} {pk md : Nat → Int32} (hA : RA G h x z u E X ov lv sf) (hp : p < 2) (hreq : reqO h z r pk) (hans : ansW h z a md) (hmk : md 2 = pk 2) (h3 : md 3 = nI 1) (hl : (u.ki p).length ≤ 16) (hw : (u.wi p).length ≤ 30) (hr : Rm G 4 h) (hq : ∀ h' E' X', RA G h' x z (ansV u p md pk (mnI (md 5) (pk 5))) E' X' ov lv sf → KC x z 4 h h' → Q (.returned none) h') : Cx G mX6_settle (d + 9) [.ref (aP x p), .ref r, .ref a] h Q := by
  show Jx G mX6_settle (d + 9) Q 0 [some (.ref (aP x p)), some (.ref r), some (.ref a), none] [] h
  obtain ⟨-, -, -, b, dv, hb3, hac, hdl, hb2⟩ := id hans
  have hbf : b = false := by
    cases b
    · rfl
    · rw [h3] at hb3
      exact absurd hb3 (by decide)
  subst hbf
  obtain ⟨-, -, -, ⟨hk2, -, oa, hrc, -⟩ | ⟨hk2, sb, kd, hrc, hkd, e6, e7, e8, e9⟩⟩ := id hreq
  · obtain ⟨da, hdv, hd⟩ := hdl (hmk.trans hk2) rfl
    subst hdv
    rw [ansV, if_neg (by rw [hk2]; decide), if_pos h3, if_pos hk2] at hq
    generalize hwo : mnI (md 5) (pk 5) = worth at hq
    refine x_aload_n dX6_settle_0 rfl rfl ?_
    refine gf_X6_79_7 rfl dX6_settle_1 (by first | exact hA.pe hp | exact hA.f (by omega) | exact hA.ob | first | assumption | exact hput_self _ _ _ | exact hnew_self _ _ _ | (rw [hput_ne _ _ _ (by first | assumption | omega | (apply Ne.symm; assumption))]; first | assumption | exact hput_self _ _ _ | exact hnew_self _ _ _ | (rw [hput_ne _ _ _ (by first | assumption | omega | (apply Ne.symm; assumption))]; first | assumption | exact hput_self _ _ _ | exact hnew_self _ _ _) | (rw [hnew_ne _ _ _ (by first | assumption | omega | (apply Ne.symm; assumption))]; first | assumption | exact hput_self _ _ _ | exact hnew_self _ _ _)) | (rw [hnew_ne _ _ _ (by first | assumption | omega | (apply Ne.symm; assumption))]; first | assumption | exact hput_self _ _ _ | exact hnew_self _ _ _ | (rw [hput_ne _ _ _ (by first | assumption | omega | (apply Ne.symm; assumption))]; first | assumption | exact hput_self _ _ _ | exact hnew_self _ _ _) | (rw [hnew_ne _ _ _ (by first | assumption | omega | (apply Ne.symm; assumption))]; first | assumption | exact hput_self _ _ _ | exact hnew_self _ _ _))) ?_
    refine x_if_ne (tgt := 55) dX6_settle_4 (by decide) (fun c1 => ?_) (fun c1 => ?_)
    · exact absurd hk2 c1
    refine x_aload_n dX6_settle_7 rfl rfl ?_
    refine gf_X6_251_1 (f5 := va_rf (some da)) rfl dX6_settle_8 hac ?_
    refine x_ifnull (tgt := 55) dX6_settle_11 (by decide) (fun c2 => ?_) (fun c2a c2 => ?_)
    · cases c2
    refine x_aload_n dX6_settle_14 rfl rfl ?_
    refine gf_X6_203_7 rfl dX6_settle_15 (by first | exact hA.pe hp | exact hA.f (by omega) | exact hA.ob | first | assumption | exact hput_self _ _ _ | exact hnew_self _ _ _ | (rw [hput_ne _ _ _ (by first | assumption | omega | (apply Ne.symm; assumption))]; first | assumption | exact hput_self _ _ _ | exact hnew_self _ _ _ | (rw [hput_ne _ _ _ (by first | assumption | omega | (apply Ne.symm; assumption))]; first | assumption | exact hput_self _ _ _ | exact hnew_self _ _ _) | (rw [hnew_ne _ _ _ (by first | assumption | omega | (apply Ne.symm; assumption))]; first | assumption | exact hput_self _ _ _ | exact hnew_self _ _ _)) | (rw [hnew_ne _ _ _ (by first | assumption | omega | (apply Ne.symm; assumption))]; first | assumption | exact hput_self _ _ _ | exact hnew_self _ _ _ | (rw [hput_ne _ _ _ (by first | assumption | omega | (apply Ne.symm; assumption))]; first | assumption | exact hput_self _ _ _ | exact hnew_self _ _ _) | (rw [hnew_ne _ _ _ (by first | assumption | omega | (apply Ne.symm; assumption))]; first | assumption | exact hput_self _ _ _ | exact hnew_self _ _ _))) ?_
    refine x_aload_n dX6_settle_18 rfl rfl ?_
    refine gf_X6_252_1 rfl dX6_settle_19 (by first | exact hA.pe hp | exact hA.f (by omega) | exact hA.ob | first | assumption | exact hput_self _ _ _ | exact hnew_self _ _ _ | (rw [hput_ne _ _ _ (by first | assumption | omega | (apply Ne.symm; assumption))]; first | assumption | exact hput_self _ _ _ | exact hnew_self _ _ _ | (rw [hput_ne _ _ _ (by first | assumption | omega | (apply Ne.symm; assumption))]; first | assumption | exact hput_self _ _ _ | exact hnew_self _ _ _) | (rw [hnew_ne _ _ _ (by first | assumption | omega | (apply Ne.symm; assumption))]; first | assumption | exact hput_self _ _ _ | exact hnew_self _ _ _)) | (rw [hnew_ne _ _ _ (by first | assumption | omega | (apply Ne.symm; assumption))]; first | assumption | exact hput_self _ _ _ | exact hnew_self _ _ _ | (rw [hput_ne _ _ _ (by first | assumption | omega | (apply Ne.symm; assumption))]; first | assumption | exact hput_self _ _ _ | exact hnew_self _ _ _) | (rw [hnew_ne _ _ _ (by first | assumption | omega | (apply Ne.symm; assumption))]; first | assumption | exact hput_self _ _ _ | exact hnew_self _ _ _))) ?_
    refine x_callS dX6_settle_22 ss_X6_206 (Nat.le_of_ble_eq_true rfl) rfl (Nat.le_of_ble_eq_true rfl) rfl ?_
    refine c_min (kc_v dr_2 ?_)
    rw [mn_eq', hwo]
    refine y_istore_n dX6_settle_25 rfl lvs_4_3 ?_
    refine x_aload_n dX6_settle_26 rfl rfl ?_
    refine x_wf (fun hwf hob hbn => ?_)
    have hrl := hwf _ _ hrc
    have hal := hwf _ _ hac
    have hzh := hA.zh
    refine nw_X6_96 rfl dX6_settle_27 (hr.c (by omega)) (hr.s (by omega)) ?_
    refine x_dup dX6_settle_30 rfl ?_
    refine x_aload_n dX6_settle_31 rfl rfl ?_
    refine gf_X6_202_7 rfl dX6_settle_32 (by first | exact hA.pe hp | exact hA.f (by omega) | exact hA.ob | first | assumption | exact hput_self _ _ _ | exact hnew_self _ _ _ | (rw [hput_ne _ _ _ (by first | assumption | omega | (apply Ne.symm; assumption))]; first | assumption | exact hput_self _ _ _ | exact hnew_self _ _ _ | (rw [hput_ne _ _ _ (by first | assumption | omega | (apply Ne.symm; assumption))]; first | assumption | exact hput_self _ _ _ | exact hnew_self _ _ _) | (rw [hnew_ne _ _ _ (by first | assumption | omega | (apply Ne.symm; assumption))]; first | assumption | exact hput_self _ _ _ | exact hnew_self _ _ _)) | (rw [hnew_ne _ _ _ (by first | assumption | omega | (apply Ne.symm; assumption))]; first | assumption | exact hput_self _ _ _ | exact hnew_self _ _ _ | (rw [hput_ne _ _ _ (by first | assumption | omega | (apply Ne.symm; assumption))]; first | assumption | exact hput_self _ _ _ | exact hnew_self _ _ _) | (rw [hnew_ne _ _ _ (by first | assumption | omega | (apply Ne.symm; assumption))]; first | assumption | exact hput_self _ _ _ | exact hnew_self _ _ _))) ?_
    refine x_aload_n dX6_settle_35 rfl rfl ?_
    refine gf_X6_253_1 rfl dX6_settle_36 (by first | exact hA.pe hp | exact hA.f (by omega) | exact hA.ob | first | assumption | exact hput_self _ _ _ | exact hnew_self _ _ _ | (rw [hput_ne _ _ _ (by first | assumption | omega | (apply Ne.symm; assumption))]; first | assumption | exact hput_self _ _ _ | exact hnew_self _ _ _ | (rw [hput_ne _ _ _ (by first | assumption | omega | (apply Ne.symm; assumption))]; first | assumption | exact hput_self _ _ _ | exact hnew_self _ _ _) | (rw [hnew_ne _ _ _ (by first | assumption | omega | (apply Ne.symm; assumption))]; first | assumption | exact hput_self _ _ _ | exact hnew_self _ _ _)) | (rw [hnew_ne _ _ _ (by first | assumption | omega | (apply Ne.symm; assumption))]; first | assumption | exact hput_self _ _ _ | exact hnew_self _ _ _ | (rw [hput_ne _ _ _ (by first | assumption | omega | (apply Ne.symm; assumption))]; first | assumption | exact hput_self _ _ _ | exact hnew_self _ _ _) | (rw [hnew_ne _ _ _ (by first | assumption | omega | (apply Ne.symm; assumption))]; first | assumption | exact hput_self _ _ _ | exact hnew_self _ _ _))) ?_
    refine x_aload_n dX6_settle_39 rfl rfl ?_
    refine gf_X6_251_1 (f5 := va_rf (some da)) rfl dX6_settle_40 (by rw [hnew_ne _ _ _ (by omega)]; exact hac) ?_
    refine x_iconst (v := nI 0) dX6_settle_43 (by decide) ?_
    refine x_iconst (v := nI 1) dX6_settle_44 (by decide) ?_
    refine x_iload_n dX6_settle_45 rfl ?_
    refine x_callI dX6_settle_46 si_X6_212 rfl rfl (Nat.le_of_ble_eq_true rfl) rfl ?_
    refine c_childInit (b := true) (hnew_self _ _ _) (kc_n dr_7 ?_)
    rw [hput_hnew]
    obtain ⟨hA1, hK1⟩ := hA.mk1 hwf (.inr (2, [.int (pk 4), .int (md 4), .ref da, .int (nI 0), .int (bI true), .int worth])) 6 (by omega)
    replace hA := hA1
    refine x_callV dX6_settle_49 sv_X6_215_6 rfl (by first | exact hA.pe hp | exact hA.f (by omega) | exact hA.ob | first | assumption | exact hput_self _ _ _ | exact hnew_self _ _ _ | (rw [hput_ne _ _ _ (by first | assumption | omega | (apply Ne.symm; assumption))]; first | assumption | exact hput_self _ _ _ | exact hnew_self _ _ _ | (rw [hput_ne _ _ _ (by first | assumption | omega | (apply Ne.symm; assumption))]; first | assumption | exact hput_self _ _ _ | exact hnew_self _ _ _) | (rw [hnew_ne _ _ _ (by first | assumption | omega | (apply Ne.symm; assumption))]; first | assumption | exact hput_self _ _ _ | exact hnew_self _ _ _)) | (rw [hnew_ne _ _ _ (by first | assumption | omega | (apply Ne.symm; assumption))]; first | assumption | exact hput_self _ _ _ | exact hnew_self _ _ _ | (rw [hput_ne _ _ _ (by first | assumption | omega | (apply Ne.symm; assumption))]; first | assumption | exact hput_self _ _ _ | exact hnew_self _ _ _) | (rw [hnew_ne _ _ _ (by first | assumption | omega | (apply Ne.symm; assumption))]; first | assumption | exact hput_self _ _ _ | exact hnew_self _ _ _))) rfl (Nat.le_of_ble_eq_true rfl) rfl ?_
    refine k_keep (kd := kdL (pk 4) (md 4) (md 9) (md 7) (md 8) (nI 0) (nI 1) worth) hA hp ⟨hzh, ⟨da, hnew_self _ _ _, hd.kept hK1.kp⟩, true, rfl⟩ hl (hr.after hK1 (by omega)) (fun h2 E2 X2 hA2 hK2 => kc_n dr_2 ?_)
    refine x_goto (tgt := 99) dX6_settle_52 (by decide) ?_
    refine x_vreturn dX6_settle_99 rfl ?_
    exact hq _ _ _ hA2 ((hK1.trans hK2).mono (by omega))
  · have hk0 : ¬ pk 2 = 0 := by rcases hk2 with q | q <;> rw [q] <;> decide
    refine x_aload_n dX6_settle_0 rfl rfl ?_
    refine gf_X6_79_7 rfl dX6_settle_1 (by first | exact hA.pe hp | exact hA.f (by omega) | exact hA.ob | first | assumption | exact hput_self _ _ _ | exact hnew_self _ _ _ | (rw [hput_ne _ _ _ (by first | assumption | omega | (apply Ne.symm; assumption))]; first | assumption | exact hput_self _ _ _ | exact hnew_self _ _ _ | (rw [hput_ne _ _ _ (by first | assumption | omega | (apply Ne.symm; assumption))]; first | assumption | exact hput_self _ _ _ | exact hnew_self _ _ _) | (rw [hnew_ne _ _ _ (by first | assumption | omega | (apply Ne.symm; assumption))]; first | assumption | exact hput_self _ _ _ | exact hnew_self _ _ _)) | (rw [hnew_ne _ _ _ (by first | assumption | omega | (apply Ne.symm; assumption))]; first | assumption | exact hput_self _ _ _ | exact hnew_self _ _ _ | (rw [hput_ne _ _ _ (by first | assumption | omega | (apply Ne.symm; assumption))]; first | assumption | exact hput_self _ _ _ | exact hnew_self _ _ _) | (rw [hnew_ne _ _ _ (by first | assumption | omega | (apply Ne.symm; assumption))]; first | assumption | exact hput_self _ _ _ | exact hnew_self _ _ _))) ?_
    refine x_if_ne (tgt := 55) dX6_settle_4 (by decide) (fun c1 => ?_) (fun c1 => ?_)
    · refine x_aload_n dX6_settle_55 rfl rfl ?_
      refine gf_X6_79_7 rfl dX6_settle_56 (by first | exact hA.pe hp | exact hA.f (by omega) | exact hA.ob | first | assumption | exact hput_self _ _ _ | exact hnew_self _ _ _ | (rw [hput_ne _ _ _ (by first | assumption | omega | (apply Ne.symm; assumption))]; first | assumption | exact hput_self _ _ _ | exact hnew_self _ _ _ | (rw [hput_ne _ _ _ (by first | assumption | omega | (apply Ne.symm; assumption))]; first | assumption | exact hput_self _ _ _ | exact hnew_self _ _ _) | (rw [hnew_ne _ _ _ (by first | assumption | omega | (apply Ne.symm; assumption))]; first | assumption | exact hput_self _ _ _ | exact hnew_self _ _ _)) | (rw [hnew_ne _ _ _ (by first | assumption | omega | (apply Ne.symm; assumption))]; first | assumption | exact hput_self _ _ _ | exact hnew_self _ _ _ | (rw [hput_ne _ _ _ (by first | assumption | omega | (apply Ne.symm; assumption))]; first | assumption | exact hput_self _ _ _ | exact hnew_self _ _ _) | (rw [hnew_ne _ _ _ (by first | assumption | omega | (apply Ne.symm; assumption))]; first | assumption | exact hput_self _ _ _ | exact hnew_self _ _ _))) ?_
      refine x_iconst (v := nI 1) dX6_settle_59 (by decide) ?_
      refine x_icmp_ne (tgt := 83) dX6_settle_60 (by decide) (fun c2 => ?_) (fun c2 => ?_)
      · have hk22 : pk 2 = nI 2 := by
          rcases hk2 with q | q
          · exact absurd q c2
          · exact q
        rw [ansV, if_pos hk22] at hq
        refine x_aload_n dX6_settle_83 rfl rfl ?_
        refine gf_X6_79_7 rfl dX6_settle_84 (by first | exact hA.pe hp | exact hA.f (by omega) | exact hA.ob | first | assumption | exact hput_self _ _ _ | exact hnew_self _ _ _ | (rw [hput_ne _ _ _ (by first | assumption | omega | (apply Ne.symm; assumption))]; first | assumption | exact hput_self _ _ _ | exact hnew_self _ _ _ | (rw [hput_ne _ _ _ (by first | assumption | omega | (apply Ne.symm; assumption))]; first | assumption | exact hput_self _ _ _ | exact hnew_self _ _ _) | (rw [hnew_ne _ _ _ (by first | assumption | omega | (apply Ne.symm; assumption))]; first | assumption | exact hput_self _ _ _ | exact hnew_self _ _ _)) | (rw [hnew_ne _ _ _ (by first | assumption | omega | (apply Ne.symm; assumption))]; first | assumption | exact hput_self _ _ _ | exact hnew_self _ _ _ | (rw [hput_ne _ _ _ (by first | assumption | omega | (apply Ne.symm; assumption))]; first | assumption | exact hput_self _ _ _ | exact hnew_self _ _ _) | (rw [hnew_ne _ _ _ (by first | assumption | omega | (apply Ne.symm; assumption))]; first | assumption | exact hput_self _ _ _ | exact hnew_self _ _ _))) ?_
        refine x_iconst (v := nI 2) dX6_settle_87 (by decide) ?_
        refine x_icmp_ne (tgt := 99) dX6_settle_88 (by decide) (fun c3 => ?_) (fun c3 => ?_)
        · exact absurd hk22 c3
        refine x_aload_n dX6_settle_91 rfl rfl ?_
        refine x_aload_n dX6_settle_92 rfl rfl ?_
        refine x_callV dX6_settle_93 sv_X6_222_7 rfl (by first | exact hA.pe hp | exact hA.f (by omega) | exact hA.ob | first | assumption | exact hput_self _ _ _ | exact hnew_self _ _ _ | (rw [hput_ne _ _ _ (by first | assumption | omega | (apply Ne.symm; assumption))]; first | assumption | exact hput_self _ _ _ | exact hnew_self _ _ _ | (rw [hput_ne _ _ _ (by first | assumption | omega | (apply Ne.symm; assumption))]; first | assumption | exact hput_self _ _ _ | exact hnew_self _ _ _) | (rw [hnew_ne _ _ _ (by first | assumption | omega | (apply Ne.symm; assumption))]; first | assumption | exact hput_self _ _ _ | exact hnew_self _ _ _)) | (rw [hnew_ne _ _ _ (by first | assumption | omega | (apply Ne.symm; assumption))]; first | assumption | exact hput_self _ _ _ | exact hnew_self _ _ _ | (rw [hput_ne _ _ _ (by first | assumption | omega | (apply Ne.symm; assumption))]; first | assumption | exact hput_self _ _ _ | exact hnew_self _ _ _) | (rw [hnew_ne _ _ _ (by first | assumption | omega | (apply Ne.symm; assumption))]; first | assumption | exact hput_self _ _ _ | exact hnew_self _ _ _))) rfl (Nat.le_of_ble_eq_true rfl) rfl ?_
        refine k_subjectMark hreq (kc_v dr_1 ?_)
        refine x_callV dX6_settle_96 sv_X6_228_6 rfl (by first | exact hA.pe hp | exact hA.f (by omega) | exact hA.ob | first | assumption | exact hput_self _ _ _ | exact hnew_self _ _ _ | (rw [hput_ne _ _ _ (by first | assumption | omega | (apply Ne.symm; assumption))]; first | assumption | exact hput_self _ _ _ | exact hnew_self _ _ _ | (rw [hput_ne _ _ _ (by first | assumption | omega | (apply Ne.symm; assumption))]; first | assumption | exact hput_self _ _ _ | exact hnew_self _ _ _) | (rw [hnew_ne _ _ _ (by first | assumption | omega | (apply Ne.symm; assumption))]; first | assumption | exact hput_self _ _ _ | exact hnew_self _ _ _)) | (rw [hnew_ne _ _ _ (by first | assumption | omega | (apply Ne.symm; assumption))]; first | assumption | exact hput_self _ _ _ | exact hnew_self _ _ _ | (rw [hput_ne _ _ _ (by first | assumption | omega | (apply Ne.symm; assumption))]; first | assumption | exact hput_self _ _ _ | exact hnew_self _ _ _) | (rw [hnew_ne _ _ _ (by first | assumption | omega | (apply Ne.symm; assumption))]; first | assumption | exact hput_self _ _ _ | exact hnew_self _ _ _))) rfl (Nat.le_of_ble_eq_true rfl) rfl ?_
        refine k_drop hA hp hl (fun h2 E2 X2 hA2 hK2 => kc_n dr_2 ?_)
        refine x_vreturn dX6_settle_99 rfl ?_
        exact hq _ _ _ hA2 (hK2.mono (by omega))
      · have hk21 : pk 2 = nI 1 := c2
        rw [ansV, if_neg (by rw [hk21]; decide), if_pos h3, if_neg hk0] at hq
        refine x_aload_n dX6_settle_63 rfl rfl ?_
        refine gf_X6_254_7 (f4 := va_rf (some sb)) rfl dX6_settle_64 hrc ?_
        refine x_ifnull (tgt := 83) dX6_settle_67 (by decide) (fun c3 => ?_) (fun c3a c3 => ?_)
        · cases c3
        refine x_aload_n dX6_settle_70 rfl rfl ?_
        refine x_aload_n dX6_settle_71 rfl rfl ?_
        refine x_aload_n dX6_settle_72 rfl rfl ?_
        refine x_aload_n dX6_settle_73 rfl rfl ?_
        refine gf_X6_254_7 rfl dX6_settle_74 (by first | exact hA.pe hp | exact hA.f (by omega) | exact hA.ob | first | assumption | exact hput_self _ _ _ | exact hnew_self _ _ _ | (rw [hput_ne _ _ _ (by first | assumption | omega | (apply Ne.symm; assumption))]; first | assumption | exact hput_self _ _ _ | exact hnew_self _ _ _ | (rw [hput_ne _ _ _ (by first | assumption | omega | (apply Ne.symm; assumption))]; first | assumption | exact hput_self _ _ _ | exact hnew_self _ _ _) | (rw [hnew_ne _ _ _ (by first | assumption | omega | (apply Ne.symm; assumption))]; first | assumption | exact hput_self _ _ _ | exact hnew_self _ _ _)) | (rw [hnew_ne _ _ _ (by first | assumption | omega | (apply Ne.symm; assumption))]; first | assumption | exact hput_self _ _ _ | exact hnew_self _ _ _ | (rw [hput_ne _ _ _ (by first | assumption | omega | (apply Ne.symm; assumption))]; first | assumption | exact hput_self _ _ _ | exact hnew_self _ _ _) | (rw [hnew_ne _ _ _ (by first | assumption | omega | (apply Ne.symm; assumption))]; first | assumption | exact hput_self _ _ _ | exact hnew_self _ _ _))) ?_
        refine x_callV dX6_settle_77 sv_X6_258_6 rfl (by first | exact hA.pe hp | exact hA.f (by omega) | exact hA.ob | first | assumption | exact hput_self _ _ _ | exact hnew_self _ _ _ | (rw [hput_ne _ _ _ (by first | assumption | omega | (apply Ne.symm; assumption))]; first | assumption | exact hput_self _ _ _ | exact hnew_self _ _ _ | (rw [hput_ne _ _ _ (by first | assumption | omega | (apply Ne.symm; assumption))]; first | assumption | exact hput_self _ _ _ | exact hnew_self _ _ _) | (rw [hnew_ne _ _ _ (by first | assumption | omega | (apply Ne.symm; assumption))]; first | assumption | exact hput_self _ _ _ | exact hnew_self _ _ _)) | (rw [hnew_ne _ _ _ (by first | assumption | omega | (apply Ne.symm; assumption))]; first | assumption | exact hput_self _ _ _ | exact hnew_self _ _ _ | (rw [hput_ne _ _ _ (by first | assumption | omega | (apply Ne.symm; assumption))]; first | assumption | exact hput_self _ _ _ | exact hnew_self _ _ _) | (rw [hnew_ne _ _ _ (by first | assumption | omega | (apply Ne.symm; assumption))]; first | assumption | exact hput_self _ _ _ | exact hnew_self _ _ _))) rfl (Nat.le_of_ble_eq_true rfl) rfl ?_
        refine k_settleRenew hA hp hreq hkd e6 e7 e8 e9 hans hl hw hr (fun h2 E2 X2 hA2 hK2 => kc_n dr_4 ?_)
        refine x_goto (tgt := 99) dX6_settle_80 (by decide) ?_
        refine x_vreturn dX6_settle_99 rfl ?_
        exact hq _ _ _ hA2 hK2
    · exact absurd c1 hk0
theorem k_receiveAnswer {a : Nat} {md : Nat → Int32} (hA : RA G h x z u E X ov lv sf) (hp : p < 2) (hans : ansW h z a md) (hmk : ∀ pk, u.ou p = some pk → pk 1 = md 1 → md 2 = pk 2) (hl : (u.ki p).length ≤ 16) (hw : (u.wi p).length ≤ 30) (hr : Rm G 4 h) (hq : ∀ h' E' X' ov', RA G h' x z (ansU u p md).1 E' X' ov' lv sf → KC x z 4 h h' → Q (.returned (some (.int (ansU u p md).2))) h') : Cx G mX6_receiveAnswer (d + 10) [.ref (aP x p), .ref a] h Q := by
  show Jx G mX6_receiveAnswer (d + 10) Q 0 [some (.ref (aP x p)), some (.ref a), none] [] h
  obtain ⟨-, -, -, b, dv, hb3, hac, hdl, hb2⟩ := id hans
  unfold ansU at hq
  refine x_aload_n dX6_receiveAnswer_0 rfl rfl ?_
  refine gf_X6_56_6 rfl dX6_receiveAnswer_1 (by first | exact hA.pe hp | exact hA.f (by omega) | exact hA.ob | first | assumption | exact hput_self _ _ _ | exact hnew_self _ _ _ | (rw [hput_ne _ _ _ (by first | assumption | omega | (apply Ne.symm; assumption))]; first | assumption | exact hput_self _ _ _ | exact hnew_self _ _ _ | (rw [hput_ne _ _ _ (by first | assumption | omega | (apply Ne.symm; assumption))]; first | assumption | exact hput_self _ _ _ | exact hnew_self _ _ _) | (rw [hnew_ne _ _ _ (by first | assumption | omega | (apply Ne.symm; assumption))]; first | assumption | exact hput_self _ _ _ | exact hnew_self _ _ _)) | (rw [hnew_ne _ _ _ (by first | assumption | omega | (apply Ne.symm; assumption))]; first | assumption | exact hput_self _ _ _ | exact hnew_self _ _ _ | (rw [hput_ne _ _ _ (by first | assumption | omega | (apply Ne.symm; assumption))]; first | assumption | exact hput_self _ _ _ | exact hnew_self _ _ _) | (rw [hnew_ne _ _ _ (by first | assumption | omega | (apply Ne.symm; assumption))]; first | assumption | exact hput_self _ _ _ | exact hnew_self _ _ _))) ?_
  rcases hA.ou hp with ⟨q1, q2⟩ | ⟨r, pk, q1, q2, hreq⟩
  · rw [q1]
    rw [q2] at hq
    refine y_astore_n dX6_receiveAnswer_4 rfl rfl lvs_3_2 ?_
    refine x_aload_n (v := va_rf none) dX6_receiveAnswer_5 rfl rfl ?_
    refine x_ifnull (tgt := 20) dX6_receiveAnswer_6 (by decide) (fun c1 => ?_) (fun c1a c1 => ?_)
    · refine x_iconst (v := nI 0) dX6_receiveAnswer_20 (by decide) ?_
      refine x_ireturn dX6_receiveAnswer_21 rfl ?_
      exact hq _ _ _ _ hA ((KC.rf x z h).mono (by omega))
    · cases c1
  · rw [q1]
    rw [q2] at hq
    simp only at hq
    obtain ⟨so, oo, hrc⟩ := hreq.cell
    refine y_astore_n dX6_receiveAnswer_4 rfl rfl lvs_3_2 ?_
    refine x_aload_n (v := va_rf (some r)) dX6_receiveAnswer_5 rfl rfl ?_
    refine x_ifnull (tgt := 20) dX6_receiveAnswer_6 (by decide) (fun c1 => ?_) (fun c1a c1 => ?_)
    · cases c1
    refine x_aload_n dX6_receiveAnswer_9 rfl rfl ?_
    refine gf_X6_74_7 rfl dX6_receiveAnswer_10 (by first | exact hA.pe hp | exact hA.f (by omega) | exact hA.ob | first | assumption | exact hput_self _ _ _ | exact hnew_self _ _ _ | (rw [hput_ne _ _ _ (by first | assumption | omega | (apply Ne.symm; assumption))]; first | assumption | exact hput_self _ _ _ | exact hnew_self _ _ _ | (rw [hput_ne _ _ _ (by first | assumption | omega | (apply Ne.symm; assumption))]; first | assumption | exact hput_self _ _ _ | exact hnew_self _ _ _) | (rw [hnew_ne _ _ _ (by first | assumption | omega | (apply Ne.symm; assumption))]; first | assumption | exact hput_self _ _ _ | exact hnew_self _ _ _)) | (rw [hnew_ne _ _ _ (by first | assumption | omega | (apply Ne.symm; assumption))]; first | assumption | exact hput_self _ _ _ | exact hnew_self _ _ _ | (rw [hput_ne _ _ _ (by first | assumption | omega | (apply Ne.symm; assumption))]; first | assumption | exact hput_self _ _ _ | exact hnew_self _ _ _) | (rw [hnew_ne _ _ _ (by first | assumption | omega | (apply Ne.symm; assumption))]; first | assumption | exact hput_self _ _ _ | exact hnew_self _ _ _))) ?_
    refine x_aload_n dX6_receiveAnswer_13 rfl rfl ?_
    refine gf_X6_176_1 rfl dX6_receiveAnswer_14 (by first | exact hA.pe hp | exact hA.f (by omega) | exact hA.ob | first | assumption | exact hput_self _ _ _ | exact hnew_self _ _ _ | (rw [hput_ne _ _ _ (by first | assumption | omega | (apply Ne.symm; assumption))]; first | assumption | exact hput_self _ _ _ | exact hnew_self _ _ _ | (rw [hput_ne _ _ _ (by first | assumption | omega | (apply Ne.symm; assumption))]; first | assumption | exact hput_self _ _ _ | exact hnew_self _ _ _) | (rw [hnew_ne _ _ _ (by first | assumption | omega | (apply Ne.symm; assumption))]; first | assumption | exact hput_self _ _ _ | exact hnew_self _ _ _)) | (rw [hnew_ne _ _ _ (by first | assumption | omega | (apply Ne.symm; assumption))]; first | assumption | exact hput_self _ _ _ | exact hnew_self _ _ _ | (rw [hput_ne _ _ _ (by first | assumption | omega | (apply Ne.symm; assumption))]; first | assumption | exact hput_self _ _ _ | exact hnew_self _ _ _) | (rw [hnew_ne _ _ _ (by first | assumption | omega | (apply Ne.symm; assumption))]; first | assumption | exact hput_self _ _ _ | exact hnew_self _ _ _))) ?_
    refine x_icmp_eq (tgt := 22) dX6_receiveAnswer_17 (by decide) (fun c2 => ?_) (fun c2 => ?_)
    · have e1 : pk 1 = md 1 := c2
      have hm := hmk pk q2 e1
      rw [if_pos e1] at hq
      refine x_aload_n dX6_receiveAnswer_22 rfl rfl ?_
      refine x_null dX6_receiveAnswer_23 ?_
      refine pf_X6_56_6 rfl dX6_receiveAnswer_24 (hA.pe hp) rfl rfl ?_
      obtain ⟨hA1, hK1⟩ := hA.v_ou hp none none (Or.inl ⟨rfl, rfl⟩)
      replace hA := hA1
      replace hreq := hreq.kept hK1.kp
      replace hans := hans.kept hK1.kp
      obtain ⟨-, -, -, b1, dv1, hb31, hac1, -, hb21⟩ := id hans
      refine x_aload_n dX6_receiveAnswer_27 rfl rfl ?_
      refine gf_X6_245_1 rfl dX6_receiveAnswer_28 (by first | exact hA.pe hp | exact hA.f (by omega) | exact hA.ob | first | assumption | exact hput_self _ _ _ | exact hnew_self _ _ _ | (rw [hput_ne _ _ _ (by first | assumption | omega | (apply Ne.symm; assumption))]; first | assumption | exact hput_self _ _ _ | exact hnew_self _ _ _ | (rw [hput_ne _ _ _ (by first | assumption | omega | (apply Ne.symm; assumption))]; first | assumption | exact hput_self _ _ _ | exact hnew_self _ _ _) | (rw [hnew_ne _ _ _ (by first | assumption | omega | (apply Ne.symm; assumption))]; first | assumption | exact hput_self _ _ _ | exact hnew_self _ _ _)) | (rw [hnew_ne _ _ _ (by first | assumption | omega | (apply Ne.symm; assumption))]; first | assumption | exact hput_self _ _ _ | exact hnew_self _ _ _ | (rw [hput_ne _ _ _ (by first | assumption | omega | (apply Ne.symm; assumption))]; first | assumption | exact hput_self _ _ _ | exact hnew_self _ _ _) | (rw [hnew_ne _ _ _ (by first | assumption | omega | (apply Ne.symm; assumption))]; first | assumption | exact hput_self _ _ _ | exact hnew_self _ _ _))) ?_
      cases b1 with
      | true =>
        refine x_if_ne (tgt := 40) dX6_receiveAnswer_31 (by decide) (fun c3 => ?_) (fun c3 => ?_)
        · refine x_iconst (v := nI 3) dX6_receiveAnswer_40 (by decide) ?_
          refine x_ireturn dX6_receiveAnswer_41 rfl ?_
          rw [ansV, if_neg (fun q => by have := hb21 (hm.trans q); cases this), if_neg (by rw [hb31]; decide)] at hq
          exact hq _ _ _ _ hA (hK1.mono (by omega))
        · exact absurd c3 (by decide)
      | false =>
        refine x_if_ne (tgt := 40) dX6_receiveAnswer_31 (by decide) (fun c3 => ?_) (fun c3 => ?_)
        · exact absurd rfl c3
        refine x_aload_n dX6_receiveAnswer_34 rfl rfl ?_
        refine x_aload_n dX6_receiveAnswer_35 rfl rfl ?_
        refine x_aload_n dX6_receiveAnswer_36 rfl rfl ?_
        refine x_callV dX6_receiveAnswer_37 sv_X6_247_6 rfl (by first | exact hA.pe hp | exact hA.f (by omega) | exact hA.ob | first | assumption | exact hput_self _ _ _ | exact hnew_self _ _ _ | (rw [hput_ne _ _ _ (by first | assumption | omega | (apply Ne.symm; assumption))]; first | assumption | exact hput_self _ _ _ | exact hnew_self _ _ _ | (rw [hput_ne _ _ _ (by first | assumption | omega | (apply Ne.symm; assumption))]; first | assumption | exact hput_self _ _ _ | exact hnew_self _ _ _) | (rw [hnew_ne _ _ _ (by first | assumption | omega | (apply Ne.symm; assumption))]; first | assumption | exact hput_self _ _ _ | exact hnew_self _ _ _)) | (rw [hnew_ne _ _ _ (by first | assumption | omega | (apply Ne.symm; assumption))]; first | assumption | exact hput_self _ _ _ | exact hnew_self _ _ _ | (rw [hput_ne _ _ _ (by first | assumption | omega | (apply Ne.symm; assumption))]; first | assumption | exact hput_self _ _ _ | exact hnew_self _ _ _) | (rw [hnew_ne _ _ _ (by first | assumption | omega | (apply Ne.symm; assumption))]; first | assumption | exact hput_self _ _ _ | exact hnew_self _ _ _))) rfl (Nat.le_of_ble_eq_true rfl) rfl ?_
        refine k_settle hA hp hreq hans hm hb31 hl hw (hr.after hK1 (by omega)) (fun h2 E2 X2 hA2 hK2 => kc_n dr_3 ?_)
        refine x_iconst (v := nI 3) dX6_receiveAnswer_40 (by decide) ?_
        refine x_ireturn dX6_receiveAnswer_41 rfl ?_
        exact hq _ _ _ _ hA2 ((hK1.trans hK2).mono (by omega))
    · have e1 : ¬ pk 1 = md 1 := c2
      rw [if_neg e1] at hq
      refine x_iconst (v := nI 0) dX6_receiveAnswer_20 (by decide) ?_
      refine x_ireturn dX6_receiveAnswer_21 rfl ?_
      exact hq _ _ _ _ hA ((KC.rf x z h).mono (by omega))
theorem k_receive {a n : Nat} {pk : Nat → Int32} {v : Ut} (hA : RA G h x z u E X ov lv sf) (hp : p < 2) (hpk : pktO h z a pk) (hn : pk 1 = nI n) (hn31 : n < 2 ^ 31) (hlv : lvOK lv u) (hla : 0 < u.na p → u.la p 1 = nI (u.na p - 1)) (hna31 : u.na p < 2 ^ 31) (hl : (u.ki p).length ≤ 16) (hfl : (u.fl (1 - p)).length ≤ 30) (hw : (u.wi p).length ≤ 30) (hmk : ∀ i j (hi : i < (u.ki p).length) (hj : j < (u.ki p).length), (u.ki p)[i] 0 = (u.ki p)[j] 0 → i = j) (hkk : pk 0 = nI 0 → ∀ q, u.ou p = some q → q 1 = pk 1 → pk 2 = q 2) (hr : Rm G 5 h)
    (hq : ∀ h' E' X' ov' lv', RA G h' x z (gotU u u p pk).1 E' X' ov' lv' sf → KC x z 5 h h' → lvOK lv' (gotU u u p pk).1 → Q (.returned (some (.int (gotU u u p pk).2))) h') : Cx G mX6_receive (d + 11) [.ref (aP x p), .ref a] h Q := by
  show Jx G mX6_receive (d + 11) Q 0 [some (.ref (aP x p)), some (.ref a), none] [] h
  unfold gotU at hq
  refine x_aload_n dX6_receive_0 rfl rfl ?_
  refine gf_X6_70_6 rfl dX6_receive_1 (by first | exact hA.pe hp | exact hA.f (by omega) | exact hA.ob | first | assumption | exact hput_self _ _ _ | exact hnew_self _ _ _ | (rw [hput_ne _ _ _ (by first | assumption | omega | (apply Ne.symm; assumption))]; first | assumption | exact hput_self _ _ _ | exact hnew_self _ _ _ | (rw [hput_ne _ _ _ (by first | assumption | omega | (apply Ne.symm; assumption))]; first | assumption | exact hput_self _ _ _ | exact hnew_self _ _ _) | (rw [hnew_ne _ _ _ (by first | assumption | omega | (apply Ne.symm; assumption))]; first | assumption | exact hput_self _ _ _ | exact hnew_self _ _ _)) | (rw [hnew_ne _ _ _ (by first | assumption | omega | (apply Ne.symm; assumption))]; first | assumption | exact hput_self _ _ _ | exact hnew_self _ _ _ | (rw [hput_ne _ _ _ (by first | assumption | omega | (apply Ne.symm; assumption))]; first | assumption | exact hput_self _ _ _ | exact hnew_self _ _ _) | (rw [hnew_ne _ _ _ (by first | assumption | omega | (apply Ne.symm; assumption))]; first | assumption | exact hput_self _ _ _ | exact hnew_self _ _ _))) ?_
  refine x_if_eq (tgt := 9) dX6_receive_4 (by decide) (fun c1 => ?_) (fun c1 => ?_)
  · have hde : ¬ u.de p = true := fun q => (bI_ne.mpr q) c1
    rw [if_neg hde] at hq
    rcases hpk with hreq | hans
    · have h0 : pk 0 = nI 1 := hreq.2.1
      rw [if_pos h0] at hq
      obtain ⟨so, oo, hrc⟩ := hreq.cell
      refine x_aload_n dX6_receive_9 rfl rfl ?_
      refine x_instY dX6_receive_10 hrc ck_X6_75 ca_7_Request ?_
      refine x_if_eq (tgt := 27) dX6_receive_13 (by decide) (fun c2 => ?_) (fun c2 => ?_)
      · exact absurd c2 (by decide)
      refine x_aload_n dX6_receive_16 rfl rfl ?_
      refine x_castObj dX6_receive_17 (by first | exact hA.pe hp | exact hA.f (by omega) | exact hA.ob | first | assumption | exact hput_self _ _ _ | exact hnew_self _ _ _ | (rw [hput_ne _ _ _ (by first | assumption | omega | (apply Ne.symm; assumption))]; first | assumption | exact hput_self _ _ _ | exact hnew_self _ _ _ | (rw [hput_ne _ _ _ (by first | assumption | omega | (apply Ne.symm; assumption))]; first | assumption | exact hput_self _ _ _ | exact hnew_self _ _ _) | (rw [hnew_ne _ _ _ (by first | assumption | omega | (apply Ne.symm; assumption))]; first | assumption | exact hput_self _ _ _ | exact hnew_self _ _ _)) | (rw [hnew_ne _ _ _ (by first | assumption | omega | (apply Ne.symm; assumption))]; first | assumption | exact hput_self _ _ _ | exact hnew_self _ _ _ | (rw [hput_ne _ _ _ (by first | assumption | omega | (apply Ne.symm; assumption))]; first | assumption | exact hput_self _ _ _ | exact hnew_self _ _ _) | (rw [hnew_ne _ _ _ (by first | assumption | omega | (apply Ne.symm; assumption))]; first | assumption | exact hput_self _ _ _ | exact hnew_self _ _ _))) ck_X6_75 ca_7_Request ?_
      refine y_astore_n dX6_receive_20 rfl rfl lvs_3_2 ?_
      refine x_aload_n dX6_receive_21 rfl rfl ?_
      refine x_aload_n dX6_receive_22 rfl rfl ?_
      refine x_callV dX6_receive_23 sv_X6_166_6 rfl (by first | exact hA.pe hp | exact hA.f (by omega) | exact hA.ob | first | assumption | exact hput_self _ _ _ | exact hnew_self _ _ _ | (rw [hput_ne _ _ _ (by first | assumption | omega | (apply Ne.symm; assumption))]; first | assumption | exact hput_self _ _ _ | exact hnew_self _ _ _ | (rw [hput_ne _ _ _ (by first | assumption | omega | (apply Ne.symm; assumption))]; first | assumption | exact hput_self _ _ _ | exact hnew_self _ _ _) | (rw [hnew_ne _ _ _ (by first | assumption | omega | (apply Ne.symm; assumption))]; first | assumption | exact hput_self _ _ _ | exact hnew_self _ _ _)) | (rw [hnew_ne _ _ _ (by first | assumption | omega | (apply Ne.symm; assumption))]; first | assumption | exact hput_self _ _ _ | exact hnew_self _ _ _ | (rw [hput_ne _ _ _ (by first | assumption | omega | (apply Ne.symm; assumption))]; first | assumption | exact hput_self _ _ _ | exact hnew_self _ _ _) | (rw [hnew_ne _ _ _ (by first | assumption | omega | (apply Ne.symm; assumption))]; first | assumption | exact hput_self _ _ _ | exact hnew_self _ _ _))) rfl (Nat.le_of_ble_eq_true rfl) rfl ?_
      refine k_receiveRequest hA hp hreq hn hn31 hlv hla hna31 hl hfl hmk hr (fun h' E' X' lv' q1 q2 q3 => kc_v dr_2 ?_)
      refine x_ireturn dX6_receive_26 rfl ?_
      exact hq _ _ _ _ _ q1 q2 q3
    · have h0 : pk 0 = nI 0 := hans.2.1
      have h0' : ¬ pk 0 = nI 1 := by rw [h0]; decide
      rw [if_neg h0'] at hq
      obtain ⟨-, -, -, b, dv, hb3, hac, hdl, hb2⟩ := id hans
      refine x_aload_n dX6_receive_9 rfl rfl ?_
      refine x_instN dX6_receive_10 hac ck_X6_75 nc_1_Request ?_
      refine x_if_eq (tgt := 27) dX6_receive_13 (by decide) (fun c2 => ?_) (fun c2 => ?_)
      · refine x_aload_n dX6_receive_27 rfl rfl ?_
        refine x_instY dX6_receive_28 hac ck_X6_170 ca_1_Answer ?_
        refine x_if_eq (tgt := 45) dX6_receive_31 (by decide) (fun c3 => ?_) (fun c3 => ?_)
        · exact absurd c3 (by decide)
        refine x_aload_n dX6_receive_34 rfl rfl ?_
        refine x_castObj dX6_receive_35 (by first | exact hA.pe hp | exact hA.f (by omega) | exact hA.ob | first | assumption | exact hput_self _ _ _ | exact hnew_self _ _ _ | (rw [hput_ne _ _ _ (by first | assumption | omega | (apply Ne.symm; assumption))]; first | assumption | exact hput_self _ _ _ | exact hnew_self _ _ _ | (rw [hput_ne _ _ _ (by first | assumption | omega | (apply Ne.symm; assumption))]; first | assumption | exact hput_self _ _ _ | exact hnew_self _ _ _) | (rw [hnew_ne _ _ _ (by first | assumption | omega | (apply Ne.symm; assumption))]; first | assumption | exact hput_self _ _ _ | exact hnew_self _ _ _)) | (rw [hnew_ne _ _ _ (by first | assumption | omega | (apply Ne.symm; assumption))]; first | assumption | exact hput_self _ _ _ | exact hnew_self _ _ _ | (rw [hput_ne _ _ _ (by first | assumption | omega | (apply Ne.symm; assumption))]; first | assumption | exact hput_self _ _ _ | exact hnew_self _ _ _) | (rw [hnew_ne _ _ _ (by first | assumption | omega | (apply Ne.symm; assumption))]; first | assumption | exact hput_self _ _ _ | exact hnew_self _ _ _))) ck_X6_170 ca_1_Answer ?_
        refine y_astore_n dX6_receive_38 rfl rfl lvs_3_2 ?_
        refine x_aload_n dX6_receive_39 rfl rfl ?_
        refine x_aload_n dX6_receive_40 rfl rfl ?_
        refine x_callV dX6_receive_41 sv_X6_172_6 rfl (by first | exact hA.pe hp | exact hA.f (by omega) | exact hA.ob | first | assumption | exact hput_self _ _ _ | exact hnew_self _ _ _ | (rw [hput_ne _ _ _ (by first | assumption | omega | (apply Ne.symm; assumption))]; first | assumption | exact hput_self _ _ _ | exact hnew_self _ _ _ | (rw [hput_ne _ _ _ (by first | assumption | omega | (apply Ne.symm; assumption))]; first | assumption | exact hput_self _ _ _ | exact hnew_self _ _ _) | (rw [hnew_ne _ _ _ (by first | assumption | omega | (apply Ne.symm; assumption))]; first | assumption | exact hput_self _ _ _ | exact hnew_self _ _ _)) | (rw [hnew_ne _ _ _ (by first | assumption | omega | (apply Ne.symm; assumption))]; first | assumption | exact hput_self _ _ _ | exact hnew_self _ _ _ | (rw [hput_ne _ _ _ (by first | assumption | omega | (apply Ne.symm; assumption))]; first | assumption | exact hput_self _ _ _ | exact hnew_self _ _ _) | (rw [hnew_ne _ _ _ (by first | assumption | omega | (apply Ne.symm; assumption))]; first | assumption | exact hput_self _ _ _ | exact hnew_self _ _ _))) rfl (Nat.le_of_ble_eq_true rfl) rfl ?_
        refine k_receiveAnswer hA hp hans (fun q q1 q2 => hkk h0 q q1 q2) hl hw (hr.after (KC.rf x z h) (by omega)) (fun h' E' X' ov' q1 q2 => kc_v dr_2 ?_)
        refine x_ireturn dX6_receive_44 rfl ?_
        refine hq _ _ _ _ _ q1 (q2.mono (by omega)) (fun q hq2 => ?_)
        rw [show (ansU u p pk).1.na = u.na from ansU_na u p pk]
        exact hlv q hq2
      · exact absurd rfl c2
  · rw [if_pos (bI_ne.mp c1)] at hq
    refine x_iconst (v := nI 0) dX6_receive_7 (by decide) ?_
    refine x_ireturn dX6_receive_8 rfl ?_
    exact hq _ _ _ _ _ hA ((KC.rf x z h).mono (by omega)) hlv
theorem k_waitOneTick (hA : RA G h x z u E X ov lv sf) (hp : p < 2) {w s : Nat} (hwt : (u.ou p).isSome = true → u.wt p = nI w ∧ 0 < w ∧ w < 2 ^ 31 ∧ u.se p = nI s ∧ s ≤ 5) (hfl : (u.fl (1 - p)).length ≤ 30) (hr : (u.ou p).isSome = true → s < 5 → Rm G 1 h) (hq : ∀ h' E' X' ov' k, RA G h' x z (tickP u p).1 E' X' ov' lv sf → KC x z k h h' → (k = 0 ∨ (k = 1 ∧ (tickP u p).2 = nI 1)) → Q (.returned (some (.int (tickP u p).2))) h') : Cx G mX6_waitOneTick (d + 8) [.ref (aP x p)] h Q := by
  show Jx G mX6_waitOneTick (d + 8) Q 0 [some (.ref (aP x p))] [] h
  unfold tickP at hq
  refine x_aload_n dX6_waitOneTick_0 rfl rfl ?_
  refine gf_X6_56_6 rfl dX6_waitOneTick_1 (by first | exact hA.pe hp | exact hA.f (by omega) | exact hA.ob | first | assumption | exact hput_self _ _ _ | exact hnew_self _ _ _ | (rw [hput_ne _ _ _ (by first | assumption | omega | (apply Ne.symm; assumption))]; first | assumption | exact hput_self _ _ _ | exact hnew_self _ _ _ | (rw [hput_ne _ _ _ (by first | assumption | omega | (apply Ne.symm; assumption))]; first | assumption | exact hput_self _ _ _ | exact hnew_self _ _ _) | (rw [hnew_ne _ _ _ (by first | assumption | omega | (apply Ne.symm; assumption))]; first | assumption | exact hput_self _ _ _ | exact hnew_self _ _ _)) | (rw [hnew_ne _ _ _ (by first | assumption | omega | (apply Ne.symm; assumption))]; first | assumption | exact hput_self _ _ _ | exact hnew_self _ _ _ | (rw [hput_ne _ _ _ (by first | assumption | omega | (apply Ne.symm; assumption))]; first | assumption | exact hput_self _ _ _ | exact hnew_self _ _ _) | (rw [hnew_ne _ _ _ (by first | assumption | omega | (apply Ne.symm; assumption))]; first | assumption | exact hput_self _ _ _ | exact hnew_self _ _ _))) ?_
  rcases hA.ou hp with ⟨q1, q2⟩ | ⟨r, pk, q1, q2, hreq⟩
  · rw [q1]
    rw [q2] at hq
    refine x_ifnonnull (tgt := 9) dX6_waitOneTick_4 (by decide) (fun c1a c1 => ?_) (fun c1 => ?_)
    · cases c1
    refine x_iconst (v := nI 0) dX6_waitOneTick_7 (by decide) ?_
    refine x_ireturn dX6_waitOneTick_8 rfl ?_
    exact hq _ _ _ _ _ hA (KC.rf x z h) (Or.inl rfl)
  · rw [q1]
    rw [q2] at hq hwt hr
    simp only at hq
    obtain ⟨hw1, hw2, hw3, hs1, hs2⟩ := hwt rfl
    refine x_ifnonnull (tgt := 9) dX6_waitOneTick_4 (by decide) (fun c1a c1 => ?_) (fun c1 => ?_)
    · refine x_aload_n dX6_waitOneTick_9 rfl rfl ?_
      refine x_dup dX6_waitOneTick_10 rfl ?_
      refine gf_X6_85_6 rfl dX6_waitOneTick_11 (by first | exact hA.pe hp | exact hA.f (by omega) | exact hA.ob | first | assumption | exact hput_self _ _ _ | exact hnew_self _ _ _ | (rw [hput_ne _ _ _ (by first | assumption | omega | (apply Ne.symm; assumption))]; first | assumption | exact hput_self _ _ _ | exact hnew_self _ _ _ | (rw [hput_ne _ _ _ (by first | assumption | omega | (apply Ne.symm; assumption))]; first | assumption | exact hput_self _ _ _ | exact hnew_self _ _ _) | (rw [hnew_ne _ _ _ (by first | assumption | omega | (apply Ne.symm; assumption))]; first | assumption | exact hput_self _ _ _ | exact hnew_self _ _ _)) | (rw [hnew_ne _ _ _ (by first | assumption | omega | (apply Ne.symm; assumption))]; first | assumption | exact hput_self _ _ _ | exact hnew_self _ _ _ | (rw [hput_ne _ _ _ (by first | assumption | omega | (apply Ne.symm; assumption))]; first | assumption | exact hput_self _ _ _ | exact hnew_self _ _ _) | (rw [hnew_ne _ _ _ (by first | assumption | omega | (apply Ne.symm; assumption))]; first | assumption | exact hput_self _ _ _ | exact hnew_self _ _ _))) ?_
      refine x_iconst (v := nI 1) dX6_waitOneTick_14 (by decide) ?_
      refine x_isub dX6_waitOneTick_15 ?_
      refine pf_X6_85_6 rfl dX6_waitOneTick_16 (by first | exact hA.pe hp | exact hA.f (by omega) | exact hA.ob | first | assumption | exact hput_self _ _ _ | exact hnew_self _ _ _ | (rw [hput_ne _ _ _ (by first | assumption | omega | (apply Ne.symm; assumption))]; first | assumption | exact hput_self _ _ _ | exact hnew_self _ _ _ | (rw [hput_ne _ _ _ (by first | assumption | omega | (apply Ne.symm; assumption))]; first | assumption | exact hput_self _ _ _ | exact hnew_self _ _ _) | (rw [hnew_ne _ _ _ (by first | assumption | omega | (apply Ne.symm; assumption))]; first | assumption | exact hput_self _ _ _ | exact hnew_self _ _ _)) | (rw [hnew_ne _ _ _ (by first | assumption | omega | (apply Ne.symm; assumption))]; first | assumption | exact hput_self _ _ _ | exact hnew_self _ _ _ | (rw [hput_ne _ _ _ (by first | assumption | omega | (apply Ne.symm; assumption))]; first | assumption | exact hput_self _ _ _ | exact hnew_self _ _ _) | (rw [hnew_ne _ _ _ (by first | assumption | omega | (apply Ne.symm; assumption))]; first | assumption | exact hput_self _ _ _ | exact hnew_self _ _ _))) rfl rfl ?_
      obtain ⟨hA1, hK1⟩ := hA.v_wt hp (u.wt p - nI 1)
      replace hA := hA1
      have ewt : (u.w_wt p (u.wt p - nI 1)).wt p = u.wt p - nI 1 := va_up_self _ _ _
      have ewn : u.wt p - nI 1 = nI (w - 1) := by rw [hw1, pk_sub (by omega)]
      refine x_aload_n dX6_waitOneTick_19 rfl rfl ?_
      refine gf_X6_85_6 rfl dX6_waitOneTick_20 (by first | exact hA.pe hp | exact hA.f (by omega) | exact hA.ob | first | assumption | exact hput_self _ _ _ | exact hnew_self _ _ _ | (rw [hput_ne _ _ _ (by first | assumption | omega | (apply Ne.symm; assumption))]; first | assumption | exact hput_self _ _ _ | exact hnew_self _ _ _ | (rw [hput_ne _ _ _ (by first | assumption | omega | (apply Ne.symm; assumption))]; first | assumption | exact hput_self _ _ _ | exact hnew_self _ _ _) | (rw [hnew_ne _ _ _ (by first | assumption | omega | (apply Ne.symm; assumption))]; first | assumption | exact hput_self _ _ _ | exact hnew_self _ _ _)) | (rw [hnew_ne _ _ _ (by first | assumption | omega | (apply Ne.symm; assumption))]; first | assumption | exact hput_self _ _ _ | exact hnew_self _ _ _ | (rw [hput_ne _ _ _ (by first | assumption | omega | (apply Ne.symm; assumption))]; first | assumption | exact hput_self _ _ _ | exact hnew_self _ _ _) | (rw [hnew_ne _ _ _ (by first | assumption | omega | (apply Ne.symm; assumption))]; first | assumption | exact hput_self _ _ _ | exact hnew_self _ _ _))) ?_
      rw [ewt]
      refine x_if_le (tgt := 28) dX6_waitOneTick_23 (by decide) (fun c2 => ?_) (fun c2 => ?_)
      · have h0 : u.wt p - nI 1 = 0 := by
          rw [ewn] at c2 ⊢
          have := (nI_leI (a := w - 1) (b := 0) (by omega) (by omega)).mp c2
          rw [show w - 1 = 0 by omega]
          rfl
        rw [if_pos h0] at hq
        unfold agaU at hq
        refine x_aload_n dX6_waitOneTick_28 rfl rfl ?_
        refine gf_X6_82_6 rfl dX6_waitOneTick_29 (by first | exact hA.pe hp | exact hA.f (by omega) | exact hA.ob | first | assumption | exact hput_self _ _ _ | exact hnew_self _ _ _ | (rw [hput_ne _ _ _ (by first | assumption | omega | (apply Ne.symm; assumption))]; first | assumption | exact hput_self _ _ _ | exact hnew_self _ _ _ | (rw [hput_ne _ _ _ (by first | assumption | omega | (apply Ne.symm; assumption))]; first | assumption | exact hput_self _ _ _ | exact hnew_self _ _ _) | (rw [hnew_ne _ _ _ (by first | assumption | omega | (apply Ne.symm; assumption))]; first | assumption | exact hput_self _ _ _ | exact hnew_self _ _ _)) | (rw [hnew_ne _ _ _ (by first | assumption | omega | (apply Ne.symm; assumption))]; first | assumption | exact hput_self _ _ _ | exact hnew_self _ _ _ | (rw [hput_ne _ _ _ (by first | assumption | omega | (apply Ne.symm; assumption))]; first | assumption | exact hput_self _ _ _ | exact hnew_self _ _ _) | (rw [hnew_ne _ _ _ (by first | assumption | omega | (apply Ne.symm; assumption))]; first | assumption | exact hput_self _ _ _ | exact hnew_self _ _ _))) ?_
        refine x_iconst (v := nI 5) dX6_waitOneTick_32 (by decide) ?_
        refine x_icmp_lt (tgt := 48) dX6_waitOneTick_33 (by decide) (fun c3 => ?_) (fun c3 => ?_)
        · have hs5 : s < 5 := by
            have c3' : u.se p < nI 5 := c3
            rw [hs1] at c3'
            exact (nI_ltI (by omega) (by omega)).mp c3'
          have hne : ¬ (u.w_wt p (u.wt p - nI 1)).se p = nI 5 := by
            intro q
            have q' : u.se p = nI 5 := q
            rw [hs1] at q'
            have := (nI_eq (by omega) (by omega)).mp q'
            omega
          rw [if_neg hne] at hq
          refine x_aload_n dX6_waitOneTick_48 rfl rfl ?_
          refine x_dup dX6_waitOneTick_49 rfl ?_
          refine gf_X6_82_6 rfl dX6_waitOneTick_50 (by first | exact hA.pe hp | exact hA.f (by omega) | exact hA.ob | first | assumption | exact hput_self _ _ _ | exact hnew_self _ _ _ | (rw [hput_ne _ _ _ (by first | assumption | omega | (apply Ne.symm; assumption))]; first | assumption | exact hput_self _ _ _ | exact hnew_self _ _ _ | (rw [hput_ne _ _ _ (by first | assumption | omega | (apply Ne.symm; assumption))]; first | assumption | exact hput_self _ _ _ | exact hnew_self _ _ _) | (rw [hnew_ne _ _ _ (by first | assumption | omega | (apply Ne.symm; assumption))]; first | assumption | exact hput_self _ _ _ | exact hnew_self _ _ _)) | (rw [hnew_ne _ _ _ (by first | assumption | omega | (apply Ne.symm; assumption))]; first | assumption | exact hput_self _ _ _ | exact hnew_self _ _ _ | (rw [hput_ne _ _ _ (by first | assumption | omega | (apply Ne.symm; assumption))]; first | assumption | exact hput_self _ _ _ | exact hnew_self _ _ _) | (rw [hnew_ne _ _ _ (by first | assumption | omega | (apply Ne.symm; assumption))]; first | assumption | exact hput_self _ _ _ | exact hnew_self _ _ _))) ?_
          refine x_iconst (v := nI 1) dX6_waitOneTick_53 (by decide) ?_
          refine x_iadd dX6_waitOneTick_54 ?_
          try simp only [pk_mul, nI_add]
          refine pf_X6_82_6 rfl dX6_waitOneTick_55 (by first | exact hA.pe hp | exact hA.f (by omega) | exact hA.ob | first | assumption | exact hput_self _ _ _ | exact hnew_self _ _ _ | (rw [hput_ne _ _ _ (by first | assumption | omega | (apply Ne.symm; assumption))]; first | assumption | exact hput_self _ _ _ | exact hnew_self _ _ _ | (rw [hput_ne _ _ _ (by first | assumption | omega | (apply Ne.symm; assumption))]; first | assumption | exact hput_self _ _ _ | exact hnew_self _ _ _) | (rw [hnew_ne _ _ _ (by first | assumption | omega | (apply Ne.symm; assumption))]; first | assumption | exact hput_self _ _ _ | exact hnew_self _ _ _)) | (rw [hnew_ne _ _ _ (by first | assumption | omega | (apply Ne.symm; assumption))]; first | assumption | exact hput_self _ _ _ | exact hnew_self _ _ _ | (rw [hput_ne _ _ _ (by first | assumption | omega | (apply Ne.symm; assumption))]; first | assumption | exact hput_self _ _ _ | exact hnew_self _ _ _) | (rw [hnew_ne _ _ _ (by first | assumption | omega | (apply Ne.symm; assumption))]; first | assumption | exact hput_self _ _ _ | exact hnew_self _ _ _))) rfl rfl ?_
          obtain ⟨hA2, hK2⟩ := hA.v_se hp (u.se p + nI 1)
          replace hA := hA2
          refine x_aload_n dX6_waitOneTick_58 rfl rfl ?_
          refine x_dup dX6_waitOneTick_59 rfl ?_
          refine gf_X6_157_6 rfl dX6_waitOneTick_60 (by first | exact hA.pe hp | exact hA.f (by omega) | exact hA.ob | first | assumption | exact hput_self _ _ _ | exact hnew_self _ _ _ | (rw [hput_ne _ _ _ (by first | assumption | omega | (apply Ne.symm; assumption))]; first | assumption | exact hput_self _ _ _ | exact hnew_self _ _ _ | (rw [hput_ne _ _ _ (by first | assumption | omega | (apply Ne.symm; assumption))]; first | assumption | exact hput_self _ _ _ | exact hnew_self _ _ _) | (rw [hnew_ne _ _ _ (by first | assumption | omega | (apply Ne.symm; assumption))]; first | assumption | exact hput_self _ _ _ | exact hnew_self _ _ _)) | (rw [hnew_ne _ _ _ (by first | assumption | omega | (apply Ne.symm; assumption))]; first | assumption | exact hput_self _ _ _ | exact hnew_self _ _ _ | (rw [hput_ne _ _ _ (by first | assumption | omega | (apply Ne.symm; assumption))]; first | assumption | exact hput_self _ _ _ | exact hnew_self _ _ _) | (rw [hnew_ne _ _ _ (by first | assumption | omega | (apply Ne.symm; assumption))]; first | assumption | exact hput_self _ _ _ | exact hnew_self _ _ _))) ?_
          refine x_iconst (v := nI 2) dX6_waitOneTick_63 (by decide) ?_
          refine x_imul dX6_waitOneTick_64 ?_
          try simp only [pk_mul, nI_add]
          refine pf_X6_157_6 rfl dX6_waitOneTick_65 (by first | exact hA.pe hp | exact hA.f (by omega) | exact hA.ob | first | assumption | exact hput_self _ _ _ | exact hnew_self _ _ _ | (rw [hput_ne _ _ _ (by first | assumption | omega | (apply Ne.symm; assumption))]; first | assumption | exact hput_self _ _ _ | exact hnew_self _ _ _ | (rw [hput_ne _ _ _ (by first | assumption | omega | (apply Ne.symm; assumption))]; first | assumption | exact hput_self _ _ _ | exact hnew_self _ _ _) | (rw [hnew_ne _ _ _ (by first | assumption | omega | (apply Ne.symm; assumption))]; first | assumption | exact hput_self _ _ _ | exact hnew_self _ _ _)) | (rw [hnew_ne _ _ _ (by first | assumption | omega | (apply Ne.symm; assumption))]; first | assumption | exact hput_self _ _ _ | exact hnew_self _ _ _ | (rw [hput_ne _ _ _ (by first | assumption | omega | (apply Ne.symm; assumption))]; first | assumption | exact hput_self _ _ _ | exact hnew_self _ _ _) | (rw [hnew_ne _ _ _ (by first | assumption | omega | (apply Ne.symm; assumption))]; first | assumption | exact hput_self _ _ _ | exact hnew_self _ _ _))) rfl rfl ?_
          rw [Int32.mul_comm]
          obtain ⟨hA3, hK3⟩ := hA.v_sp hp (nI 2 * u.sp p)
          replace hA := hA3
          refine x_aload_n dX6_waitOneTick_68 rfl rfl ?_
          refine x_aload_n dX6_waitOneTick_69 rfl rfl ?_
          refine gf_X6_157_6 rfl dX6_waitOneTick_70 (by first | exact hA.pe hp | exact hA.f (by omega) | exact hA.ob | first | assumption | exact hput_self _ _ _ | exact hnew_self _ _ _ | (rw [hput_ne _ _ _ (by first | assumption | omega | (apply Ne.symm; assumption))]; first | assumption | exact hput_self _ _ _ | exact hnew_self _ _ _ | (rw [hput_ne _ _ _ (by first | assumption | omega | (apply Ne.symm; assumption))]; first | assumption | exact hput_self _ _ _ | exact hnew_self _ _ _) | (rw [hnew_ne _ _ _ (by first | assumption | omega | (apply Ne.symm; assumption))]; first | assumption | exact hput_self _ _ _ | exact hnew_self _ _ _)) | (rw [hnew_ne _ _ _ (by first | assumption | omega | (apply Ne.symm; assumption))]; first | assumption | exact hput_self _ _ _ | exact hnew_self _ _ _ | (rw [hput_ne _ _ _ (by first | assumption | omega | (apply Ne.symm; assumption))]; first | assumption | exact hput_self _ _ _ | exact hnew_self _ _ _) | (rw [hnew_ne _ _ _ (by first | assumption | omega | (apply Ne.symm; assumption))]; first | assumption | exact hput_self _ _ _ | exact hnew_self _ _ _))) ?_
          rw [show (((u.w_wt p (u.wt p - nI 1)).w_se p (u.se p + nI 1)).w_sp p (nI 2 * u.sp p)).sp p = nI 2 * u.sp p from va_up_self _ _ _]
          refine pf_X6_85_6 rfl dX6_waitOneTick_73 (by first | exact hA.pe hp | exact hA.f (by omega) | exact hA.ob | first | assumption | exact hput_self _ _ _ | exact hnew_self _ _ _ | (rw [hput_ne _ _ _ (by first | assumption | omega | (apply Ne.symm; assumption))]; first | assumption | exact hput_self _ _ _ | exact hnew_self _ _ _ | (rw [hput_ne _ _ _ (by first | assumption | omega | (apply Ne.symm; assumption))]; first | assumption | exact hput_self _ _ _ | exact hnew_self _ _ _) | (rw [hnew_ne _ _ _ (by first | assumption | omega | (apply Ne.symm; assumption))]; first | assumption | exact hput_self _ _ _ | exact hnew_self _ _ _)) | (rw [hnew_ne _ _ _ (by first | assumption | omega | (apply Ne.symm; assumption))]; first | assumption | exact hput_self _ _ _ | exact hnew_self _ _ _ | (rw [hput_ne _ _ _ (by first | assumption | omega | (apply Ne.symm; assumption))]; first | assumption | exact hput_self _ _ _ | exact hnew_self _ _ _) | (rw [hnew_ne _ _ _ (by first | assumption | omega | (apply Ne.symm; assumption))]; first | assumption | exact hput_self _ _ _ | exact hnew_self _ _ _))) rfl rfl ?_
          obtain ⟨hA4, hK4⟩ := hA.v_wt hp (nI 2 * u.sp p)
          replace hA := hA4
          have hK := ((hK1.trans hK2).trans hK3).trans hK4
          have hpp : 1 - p < 2 := by omega
          refine x_aload_n dX6_waitOneTick_76 rfl rfl ?_
          refine gf_X6_29_6 rfl dX6_waitOneTick_77 (by first | exact hA.pe hp | exact hA.f (by omega) | exact hA.ob | first | assumption | exact hput_self _ _ _ | exact hnew_self _ _ _ | (rw [hput_ne _ _ _ (by first | assumption | omega | (apply Ne.symm; assumption))]; first | assumption | exact hput_self _ _ _ | exact hnew_self _ _ _ | (rw [hput_ne _ _ _ (by first | assumption | omega | (apply Ne.symm; assumption))]; first | assumption | exact hput_self _ _ _ | exact hnew_self _ _ _) | (rw [hnew_ne _ _ _ (by first | assumption | omega | (apply Ne.symm; assumption))]; first | assumption | exact hput_self _ _ _ | exact hnew_self _ _ _)) | (rw [hnew_ne _ _ _ (by first | assumption | omega | (apply Ne.symm; assumption))]; first | assumption | exact hput_self _ _ _ | exact hnew_self _ _ _ | (rw [hput_ne _ _ _ (by first | assumption | omega | (apply Ne.symm; assumption))]; first | assumption | exact hput_self _ _ _ | exact hnew_self _ _ _) | (rw [hnew_ne _ _ _ (by first | assumption | omega | (apply Ne.symm; assumption))]; first | assumption | exact hput_self _ _ _ | exact hnew_self _ _ _))) ?_
          refine x_aload_n dX6_waitOneTick_80 rfl rfl ?_
          refine gf_X6_56_6 rfl dX6_waitOneTick_81 (by first | exact hA.pe hp | exact hA.f (by omega) | exact hA.ob | first | assumption | exact hput_self _ _ _ | exact hnew_self _ _ _ | (rw [hput_ne _ _ _ (by first | assumption | omega | (apply Ne.symm; assumption))]; first | assumption | exact hput_self _ _ _ | exact hnew_self _ _ _ | (rw [hput_ne _ _ _ (by first | assumption | omega | (apply Ne.symm; assumption))]; first | assumption | exact hput_self _ _ _ | exact hnew_self _ _ _) | (rw [hnew_ne _ _ _ (by first | assumption | omega | (apply Ne.symm; assumption))]; first | assumption | exact hput_self _ _ _ | exact hnew_self _ _ _)) | (rw [hnew_ne _ _ _ (by first | assumption | omega | (apply Ne.symm; assumption))]; first | assumption | exact hput_self _ _ _ | exact hnew_self _ _ _ | (rw [hput_ne _ _ _ (by first | assumption | omega | (apply Ne.symm; assumption))]; first | assumption | exact hput_self _ _ _ | exact hnew_self _ _ _) | (rw [hnew_ne _ _ _ (by first | assumption | omega | (apply Ne.symm; assumption))]; first | assumption | exact hput_self _ _ _ | exact hnew_self _ _ _))) ?_
          rw [q1] at hA hK ⊢
          refine x_callV dX6_waitOneTick_84 sv_X6_160_4 rfl (hA.f hpp) rfl (Nat.le_of_ble_eq_true rfl) rfl ?_
          refine k_launch hA hpp (Or.inl (hreq.kept hK.kp)) hfl ((hr rfl hs5).after hK (by omega)) (fun h' E' X' hA' hK' => kc_n dr_2 ?_)
          refine x_iconst (v := nI 1) dX6_waitOneTick_87 (by decide) ?_
          refine x_ireturn dX6_waitOneTick_88 rfl ?_
          exact hq _ _ _ _ 1 hA' (hK.trans hK') (Or.inr ⟨rfl, rfl⟩)
        · have hs5 : u.se p = nI 5 := by
            have c3' : ¬ u.se p < nI 5 := c3
            rw [hs1] at c3' ⊢
            rcases Nat.lt_or_ge s 5 with q | q
            · exact absurd (nI_lt q (by omega)) c3'
            · rw [show s = 5 by omega]
          rw [if_pos (show (u.w_wt p (u.wt p - nI 1)).se p = nI 5 from hs5)] at hq
          refine x_aload_n dX6_waitOneTick_36 rfl rfl ?_
          refine x_null dX6_waitOneTick_37 ?_
          refine pf_X6_56_6 rfl dX6_waitOneTick_38 (hA.pe hp) rfl rfl ?_
          obtain ⟨hA2, hK2⟩ := hA.v_ou hp none none (Or.inl ⟨rfl, rfl⟩)
          replace hA := hA2
          refine x_aload_n dX6_waitOneTick_41 rfl rfl ?_
          refine x_iconst (v := nI 1) dX6_waitOneTick_42 (by decide) ?_
          refine pf_X6_70_6 rfl dX6_waitOneTick_43 (by first | exact hA.pe hp | exact hA.f (by omega) | exact hA.ob | first | assumption | exact hput_self _ _ _ | exact hnew_self _ _ _ | (rw [hput_ne _ _ _ (by first | assumption | omega | (apply Ne.symm; assumption))]; first | assumption | exact hput_self _ _ _ | exact hnew_self _ _ _ | (rw [hput_ne _ _ _ (by first | assumption | omega | (apply Ne.symm; assumption))]; first | assumption | exact hput_self _ _ _ | exact hnew_self _ _ _) | (rw [hnew_ne _ _ _ (by first | assumption | omega | (apply Ne.symm; assumption))]; first | assumption | exact hput_self _ _ _ | exact hnew_self _ _ _)) | (rw [hnew_ne _ _ _ (by first | assumption | omega | (apply Ne.symm; assumption))]; first | assumption | exact hput_self _ _ _ | exact hnew_self _ _ _ | (rw [hput_ne _ _ _ (by first | assumption | omega | (apply Ne.symm; assumption))]; first | assumption | exact hput_self _ _ _ | exact hnew_self _ _ _) | (rw [hnew_ne _ _ _ (by first | assumption | omega | (apply Ne.symm; assumption))]; first | assumption | exact hput_self _ _ _ | exact hnew_self _ _ _))) rfl rfl ?_
          obtain ⟨hA3, hK3⟩ := hA.v_de hp true
          refine x_iconst (v := nI 0) dX6_waitOneTick_46 (by decide) ?_
          refine x_ireturn dX6_waitOneTick_47 rfl ?_
          exact hq _ _ _ _ _ hA3 ((hK1.trans hK2).trans hK3) (Or.inl rfl)
      · have h0 : ¬ u.wt p - nI 1 = 0 := fun q => c2 (by rw [q]; decide)
        rw [if_neg h0] at hq
        refine x_iconst (v := nI 0) dX6_waitOneTick_26 (by decide) ?_
        refine x_ireturn dX6_waitOneTick_27 rfl ?_
        exact hq _ _ _ _ _ hA hK1 (Or.inl rfl)
    · cases c1
end K12X
