def zRow : vp_A := (0, .inr (.inr (.inr (.inr (fun _ => none)))))
section I1X
variable {G : GT} {d : Nat} {Q : Outcome → Hp → Prop} {h : Hp}
theorem Lx.fresh {h : Hp} {lo : Nat} {fz : Nat → Option Nat} (h1 : h.1 lo = some (.inr (0, [.int 0, .ref (gZ G), .int 0]))) (h2 : h.1 (gZ G) = some (.inl (3, 0, .inr (.inr (.inr (.inr fz)))))) : Lx G h lo (gZ G) [] := ⟨0, 0, fz, h1, h2, Nat.le_refl _, by omega, fun i hi => absurd hi (Nat.not_lt_zero _), Or.inl ⟨rfl, rfl⟩⟩
theorem i_flight {ff : Nat} {f0 : Value} {fz : Nat → Option Nat} (hc : h.1 ff = some (.inr (4, [f0]))) (hff : ff < h.2.1) (hg : gb G ≤ ff) (hZ : h.1 (gZ G) = some (.inl (3, 0, .inr (.inr (.inr (.inr fz)))))) (hzb : gZ G < gb G) (hr : Rm G 1 h) (hq : ∀ h', h'.1 ff = some (.inr (4, [.ref h.2.1])) → Lx G h' h.2.1 (gZ G) [] → (∀ a, a < h.2.1 → a ≠ ff → h'.1 a = h.1 a) → h'.2.1 = h.2.1 + 1 → h'.2.2 = h.2.2 + 3 → Q (.returned none) h') : Cx G mX3_init (d + 4) [.ref ff] h Q := by
  show Jx G mX3_init (d + 4) Q 0 [some (.ref ff)] [] h
  refine x_aload_n dX3_init_0 rfl rfl ?_
  refine x_objInit dX3_init_1 so_X3_3 wo_inst wo_code (by omega) (Nat.le_of_ble_eq_true rfl) ?_
  refine x_aload_n dX3_init_4 rfl rfl ?_
  refine nw_X3_9 rfl dX3_init_5 (hr.c (by omega)) (hr.s (by omega)) ?_
  refine x_dup dX3_init_8 rfl ?_
  refine x_callI dX3_init_9 si_X3_11 rfl rfl (Nat.le_of_ble_eq_true rfl) rfl ?_
  refine c_listInit (hnew_self _ _ _) (kc_n dr_1 ?_)
  rw [hput_hnew]
  refine pf_X3_12_4 rfl dX3_init_12 (by rw [hnew_ne _ _ _ (by omega)]; exact hc) rfl rfl rfl ?_
  refine x_vreturn dX3_init_15 rfl ?_
  have e1 : ∀ a, a < h.2.1 → a ≠ ff → (hput (hnew h (.inr (0, [.int 0, .ref (gZ G), .int 0])) 3) ff (.inr (4, [.ref h.2.1]))).1 a = h.1 a := fun a h1 h2 => by rw [hput_ne _ _ _ h2, hnew_ne _ _ _ (by omega)]
  refine hq _ (hput_self _ _ _) (Lx.fresh (fz := fz) ?_ ((e1 _ (by omega) (by omega)).trans hZ)) e1 rfl rfl
  rw [hput_ne _ _ _ (by omega), hnew_self]
theorem i_afresh {pp fa sa l1 l2 p : Nat} (hc : h.1 pp = some (.inr (6, [.int (nI p), .ref fa, .ref sa, .int 0, .int 0, .int 0, .int 0, .int 0, .ref l1, .ref l2, .null, .int 0, .int 0, .int 0, .int 0, .int 0, .null, .int 0]))) (hL1 : Lx G h l1 (gZ G) []) (hL2 : Lx G h l2 (gZ G) []) (h12 : l1 ≠ l2) (h1 : pp ≠ l1) (h2 : pp ≠ l2) (hg : gb G ≤ pp) (hg1 : gb G ≤ l1) (hg2 : gb G ≤ l2) (hzb : gZ G < gb G) (hq : ∀ h', h'.1 pp = some (.inr (6, [.int (nI p), .ref fa, .ref sa, .int (nI 0), .int (nI 0), .int (nI 1000), .int (nI p), .int (nI (p + 1)), .ref l1, .ref l2, .null, .int 0, .int 0, .int 0, .int (nI 0), .int (nI 0), .null, .int (nI 0)])) → Lx G h' l1 (gZ G) [] → Lx G h' l2 (gZ G) [] → (∀ a, a ≠ pp → a ≠ l1 → a ≠ l2 → h'.1 a = h.1 a) → h'.2 = h.2 → Q (.returned none) h') : Cx G mX6_startAfresh (d + 1) [.ref pp] h Q := by
  show Jx G mX6_startAfresh (d + 1) Q 0 [some (.ref pp)] [] h
  refine x_aload_n dX6_startAfresh_0 rfl rfl ?_
  refine x_iconst (v := nI 0) dX6_startAfresh_1 (by decide) ?_
  refine pf_X6_36_6 rfl dX6_startAfresh_2 (by first | exact hA.pe hp | exact hA.f (by omega) | exact hA.ob | first | assumption | exact hput_self _ _ _ | exact hnew_self _ _ _ | (rw [hput_ne _ _ _ (by first | assumption | omega | (apply Ne.symm; assumption))]; first | assumption | exact hput_self _ _ _ | exact hnew_self _ _ _ | (rw [hput_ne _ _ _ (by first | assumption | omega | (apply Ne.symm; assumption))]; first | assumption | exact hput_self _ _ _ | exact hnew_self _ _ _) | (rw [hnew_ne _ _ _ (by first | assumption | omega | (apply Ne.symm; assumption))]; first | assumption | exact hput_self _ _ _ | exact hnew_self _ _ _)) | (rw [hnew_ne _ _ _ (by first | assumption | omega | (apply Ne.symm; assumption))]; first | assumption | exact hput_self _ _ _ | exact hnew_self _ _ _ | (rw [hput_ne _ _ _ (by first | assumption | omega | (apply Ne.symm; assumption))]; first | assumption | exact hput_self _ _ _ | exact hnew_self _ _ _) | (rw [hnew_ne _ _ _ (by first | assumption | omega | (apply Ne.symm; assumption))]; first | assumption | exact hput_self _ _ _ | exact hnew_self _ _ _))) rfl rfl ?_
  refine x_aload_n dX6_startAfresh_5 rfl rfl ?_
  refine x_iconst (v := nI 0) dX6_startAfresh_6 (by decide) ?_
  refine pf_X6_39_6 rfl dX6_startAfresh_7 (by first | exact hA.pe hp | exact hA.f (by omega) | exact hA.ob | first | assumption | exact hput_self _ _ _ | exact hnew_self _ _ _ | (rw [hput_ne _ _ _ (by first | assumption | omega | (apply Ne.symm; assumption))]; first | assumption | exact hput_self _ _ _ | exact hnew_self _ _ _ | (rw [hput_ne _ _ _ (by first | assumption | omega | (apply Ne.symm; assumption))]; first | assumption | exact hput_self _ _ _ | exact hnew_self _ _ _) | (rw [hnew_ne _ _ _ (by first | assumption | omega | (apply Ne.symm; assumption))]; first | assumption | exact hput_self _ _ _ | exact hnew_self _ _ _)) | (rw [hnew_ne _ _ _ (by first | assumption | omega | (apply Ne.symm; assumption))]; first | assumption | exact hput_self _ _ _ | exact hnew_self _ _ _ | (rw [hput_ne _ _ _ (by first | assumption | omega | (apply Ne.symm; assumption))]; first | assumption | exact hput_self _ _ _ | exact hnew_self _ _ _) | (rw [hnew_ne _ _ _ (by first | assumption | omega | (apply Ne.symm; assumption))]; first | assumption | exact hput_self _ _ _ | exact hnew_self _ _ _))) rfl rfl ?_
  refine x_aload_n dX6_startAfresh_10 rfl rfl ?_
  refine x_sipush (v := nI 1000) dX6_startAfresh_11 (by decide) ?_
  refine pf_X6_42_6 rfl dX6_startAfresh_14 (by first | exact hA.pe hp | exact hA.f (by omega) | exact hA.ob | first | assumption | exact hput_self _ _ _ | exact hnew_self _ _ _ | (rw [hput_ne _ _ _ (by first | assumption | omega | (apply Ne.symm; assumption))]; first | assumption | exact hput_self _ _ _ | exact hnew_self _ _ _ | (rw [hput_ne _ _ _ (by first | assumption | omega | (apply Ne.symm; assumption))]; first | assumption | exact hput_self _ _ _ | exact hnew_self _ _ _) | (rw [hnew_ne _ _ _ (by first | assumption | omega | (apply Ne.symm; assumption))]; first | assumption | exact hput_self _ _ _ | exact hnew_self _ _ _)) | (rw [hnew_ne _ _ _ (by first | assumption | omega | (apply Ne.symm; assumption))]; first | assumption | exact hput_self _ _ _ | exact hnew_self _ _ _ | (rw [hput_ne _ _ _ (by first | assumption | omega | (apply Ne.symm; assumption))]; first | assumption | exact hput_self _ _ _ | exact hnew_self _ _ _) | (rw [hnew_ne _ _ _ (by first | assumption | omega | (apply Ne.symm; assumption))]; first | assumption | exact hput_self _ _ _ | exact hnew_self _ _ _))) rfl rfl ?_
  refine x_aload_n dX6_startAfresh_17 rfl rfl ?_
  refine x_aload_n dX6_startAfresh_18 rfl rfl ?_
  refine gf_X6_25_6 rfl dX6_startAfresh_19 (by first | exact hA.pe hp | exact hA.f (by omega) | exact hA.ob | first | assumption | exact hput_self _ _ _ | exact hnew_self _ _ _ | (rw [hput_ne _ _ _ (by first | assumption | omega | (apply Ne.symm; assumption))]; first | assumption | exact hput_self _ _ _ | exact hnew_self _ _ _ | (rw [hput_ne _ _ _ (by first | assumption | omega | (apply Ne.symm; assumption))]; first | assumption | exact hput_self _ _ _ | exact hnew_self _ _ _) | (rw [hnew_ne _ _ _ (by first | assumption | omega | (apply Ne.symm; assumption))]; first | assumption | exact hput_self _ _ _ | exact hnew_self _ _ _)) | (rw [hnew_ne _ _ _ (by first | assumption | omega | (apply Ne.symm; assumption))]; first | assumption | exact hput_self _ _ _ | exact hnew_self _ _ _ | (rw [hput_ne _ _ _ (by first | assumption | omega | (apply Ne.symm; assumption))]; first | assumption | exact hput_self _ _ _ | exact hnew_self _ _ _) | (rw [hnew_ne _ _ _ (by first | assumption | omega | (apply Ne.symm; assumption))]; first | assumption | exact hput_self _ _ _ | exact hnew_self _ _ _))) ?_
  refine pf_X6_45_6 rfl dX6_startAfresh_22 (by first | exact hA.pe hp | exact hA.f (by omega) | exact hA.ob | first | assumption | exact hput_self _ _ _ | exact hnew_self _ _ _ | (rw [hput_ne _ _ _ (by first | assumption | omega | (apply Ne.symm; assumption))]; first | assumption | exact hput_self _ _ _ | exact hnew_self _ _ _ | (rw [hput_ne _ _ _ (by first | assumption | omega | (apply Ne.symm; assumption))]; first | assumption | exact hput_self _ _ _ | exact hnew_self _ _ _) | (rw [hnew_ne _ _ _ (by first | assumption | omega | (apply Ne.symm; assumption))]; first | assumption | exact hput_self _ _ _ | exact hnew_self _ _ _)) | (rw [hnew_ne _ _ _ (by first | assumption | omega | (apply Ne.symm; assumption))]; first | assumption | exact hput_self _ _ _ | exact hnew_self _ _ _ | (rw [hput_ne _ _ _ (by first | assumption | omega | (apply Ne.symm; assumption))]; first | assumption | exact hput_self _ _ _ | exact hnew_self _ _ _) | (rw [hnew_ne _ _ _ (by first | assumption | omega | (apply Ne.symm; assumption))]; first | assumption | exact hput_self _ _ _ | exact hnew_self _ _ _))) rfl rfl ?_
  refine x_aload_n dX6_startAfresh_25 rfl rfl ?_
  refine x_aload_n dX6_startAfresh_26 rfl rfl ?_
  refine gf_X6_25_6 rfl dX6_startAfresh_27 (by first | exact hA.pe hp | exact hA.f (by omega) | exact hA.ob | first | assumption | exact hput_self _ _ _ | exact hnew_self _ _ _ | (rw [hput_ne _ _ _ (by first | assumption | omega | (apply Ne.symm; assumption))]; first | assumption | exact hput_self _ _ _ | exact hnew_self _ _ _ | (rw [hput_ne _ _ _ (by first | assumption | omega | (apply Ne.symm; assumption))]; first | assumption | exact hput_self _ _ _ | exact hnew_self _ _ _) | (rw [hnew_ne _ _ _ (by first | assumption | omega | (apply Ne.symm; assumption))]; first | assumption | exact hput_self _ _ _ | exact hnew_self _ _ _)) | (rw [hnew_ne _ _ _ (by first | assumption | omega | (apply Ne.symm; assumption))]; first | assumption | exact hput_self _ _ _ | exact hnew_self _ _ _ | (rw [hput_ne _ _ _ (by first | assumption | omega | (apply Ne.symm; assumption))]; first | assumption | exact hput_self _ _ _ | exact hnew_self _ _ _) | (rw [hnew_ne _ _ _ (by first | assumption | omega | (apply Ne.symm; assumption))]; first | assumption | exact hput_self _ _ _ | exact hnew_self _ _ _))) ?_
  refine x_iconst (v := nI 1) dX6_startAfresh_30 (by decide) ?_
  refine x_iadd dX6_startAfresh_31 ?_
  try simp only [pk_mul, nI_add]
  refine pf_X6_48_6 rfl dX6_startAfresh_32 (by first | exact hA.pe hp | exact hA.f (by omega) | exact hA.ob | first | assumption | exact hput_self _ _ _ | exact hnew_self _ _ _ | (rw [hput_ne _ _ _ (by first | assumption | omega | (apply Ne.symm; assumption))]; first | assumption | exact hput_self _ _ _ | exact hnew_self _ _ _ | (rw [hput_ne _ _ _ (by first | assumption | omega | (apply Ne.symm; assumption))]; first | assumption | exact hput_self _ _ _ | exact hnew_self _ _ _) | (rw [hnew_ne _ _ _ (by first | assumption | omega | (apply Ne.symm; assumption))]; first | assumption | exact hput_self _ _ _ | exact hnew_self _ _ _)) | (rw [hnew_ne _ _ _ (by first | assumption | omega | (apply Ne.symm; assumption))]; first | assumption | exact hput_self _ _ _ | exact hnew_self _ _ _ | (rw [hput_ne _ _ _ (by first | assumption | omega | (apply Ne.symm; assumption))]; first | assumption | exact hput_self _ _ _ | exact hnew_self _ _ _) | (rw [hnew_ne _ _ _ (by first | assumption | omega | (apply Ne.symm; assumption))]; first | assumption | exact hput_self _ _ _ | exact hnew_self _ _ _))) rfl rfl ?_
  simp only [hput_hput]
  generalize hD : hput h pp (.inr (6, [.int (nI p), .ref fa, .ref sa, .int (nI 0), .int (nI 0), .int (nI 1000), .int (nI p), .int (nI (p + 1)), .ref l1, .ref l2, .null, .int 0, .int 0, .int 0, .int 0, .int 0, .null, .int 0])) = hh
  have c0 : hh.1 pp = some (.inr (6, [.int (nI p), .ref fa, .ref sa, .int (nI 0), .int (nI 0), .int (nI 1000), .int (nI p), .int (nI (p + 1)), .ref l1, .ref l2, .null, .int 0, .int 0, .int 0, .int 0, .int 0, .null, .int 0])) := by rw [← hD]; exact hput_self _ _ _
  have cf : ∀ a, a ≠ pp → hh.1 a = h.1 a := fun a ha => by rw [← hD]; exact hput_ne _ _ _ ha
  have c2 : hh.2 = h.2 := by rw [← hD]; rfl
  replace hL1 := hL1.kept (cf l1 (Ne.symm h1)) (cf (gZ G) (by omega))
  replace hL2 := hL2.kept (cf l2 (Ne.symm h2)) (cf (gZ G) (by omega))
  clear hc hD
  obtain ⟨m1, hm1⟩ := hL1.sh
  refine x_aload_n dX6_startAfresh_35 rfl rfl ?_
  refine gf_X6_18_6 rfl dX6_startAfresh_36 (by first | exact hA.pe hp | exact hA.f (by omega) | exact hA.ob | first | assumption | exact hput_self _ _ _ | exact hnew_self _ _ _ | (rw [hput_ne _ _ _ (by first | assumption | omega | (apply Ne.symm; assumption))]; first | assumption | exact hput_self _ _ _ | exact hnew_self _ _ _ | (rw [hput_ne _ _ _ (by first | assumption | omega | (apply Ne.symm; assumption))]; first | assumption | exact hput_self _ _ _ | exact hnew_self _ _ _) | (rw [hnew_ne _ _ _ (by first | assumption | omega | (apply Ne.symm; assumption))]; first | assumption | exact hput_self _ _ _ | exact hnew_self _ _ _)) | (rw [hnew_ne _ _ _ (by first | assumption | omega | (apply Ne.symm; assumption))]; first | assumption | exact hput_self _ _ _ | exact hnew_self _ _ _ | (rw [hput_ne _ _ _ (by first | assumption | omega | (apply Ne.symm; assumption))]; first | assumption | exact hput_self _ _ _ | exact hnew_self _ _ _) | (rw [hnew_ne _ _ _ (by first | assumption | omega | (apply Ne.symm; assumption))]; first | assumption | exact hput_self _ _ _ | exact hnew_self _ _ _))) ?_
  refine x_callF dX6_startAfresh_39 sf_X6_51_0 rfl (by first | exact hA.pe hp | exact hA.f (by omega) | exact hA.ob | first | assumption | exact hput_self _ _ _ | exact hnew_self _ _ _ | (rw [hput_ne _ _ _ (by first | assumption | omega | (apply Ne.symm; assumption))]; first | assumption | exact hput_self _ _ _ | exact hnew_self _ _ _ | (rw [hput_ne _ _ _ (by first | assumption | omega | (apply Ne.symm; assumption))]; first | assumption | exact hput_self _ _ _ | exact hnew_self _ _ _) | (rw [hnew_ne _ _ _ (by first | assumption | omega | (apply Ne.symm; assumption))]; first | assumption | exact hput_self _ _ _ | exact hnew_self _ _ _)) | (rw [hnew_ne _ _ _ (by first | assumption | omega | (apply Ne.symm; assumption))]; first | assumption | exact hput_self _ _ _ | exact hnew_self _ _ _ | (rw [hput_ne _ _ _ (by first | assumption | omega | (apply Ne.symm; assumption))]; first | assumption | exact hput_self _ _ _ | exact hnew_self _ _ _) | (rw [hnew_ne _ _ _ (by first | assumption | omega | (apply Ne.symm; assumption))]; first | assumption | exact hput_self _ _ _ | exact hnew_self _ _ _))) rfl (Nat.le_of_ble_eq_true rfl) rfl ?_
  refine c_clearL hL1 (fun ha hLa hfa ha2 => kc_n dr_1 ?_)
  have c1 := (hfa pp h1 (Or.inl (by omega))).trans c0
  replace hL2 := hL2.kept (hfa l2 (Ne.symm h12) (Or.inl (by omega))) (hfa (gZ G) (by omega) (Or.inr hzb))
  obtain ⟨m2, hm2⟩ := hL2.sh
  clear c0 hm1
  refine x_aload_n dX6_startAfresh_44 rfl rfl ?_
  refine gf_X6_22_6 rfl dX6_startAfresh_45 (by first | exact hA.pe hp | exact hA.f (by omega) | exact hA.ob | first | assumption | exact hput_self _ _ _ | exact hnew_self _ _ _ | (rw [hput_ne _ _ _ (by first | assumption | omega | (apply Ne.symm; assumption))]; first | assumption | exact hput_self _ _ _ | exact hnew_self _ _ _ | (rw [hput_ne _ _ _ (by first | assumption | omega | (apply Ne.symm; assumption))]; first | assumption | exact hput_self _ _ _ | exact hnew_self _ _ _) | (rw [hnew_ne _ _ _ (by first | assumption | omega | (apply Ne.symm; assumption))]; first | assumption | exact hput_self _ _ _ | exact hnew_self _ _ _)) | (rw [hnew_ne _ _ _ (by first | assumption | omega | (apply Ne.symm; assumption))]; first | assumption | exact hput_self _ _ _ | exact hnew_self _ _ _ | (rw [hput_ne _ _ _ (by first | assumption | omega | (apply Ne.symm; assumption))]; first | assumption | exact hput_self _ _ _ | exact hnew_self _ _ _) | (rw [hnew_ne _ _ _ (by first | assumption | omega | (apply Ne.symm; assumption))]; first | assumption | exact hput_self _ _ _ | exact hnew_self _ _ _))) ?_
  refine x_callF dX6_startAfresh_48 sf_X6_51_0 rfl (by first | exact hA.pe hp | exact hA.f (by omega) | exact hA.ob | first | assumption | exact hput_self _ _ _ | exact hnew_self _ _ _ | (rw [hput_ne _ _ _ (by first | assumption | omega | (apply Ne.symm; assumption))]; first | assumption | exact hput_self _ _ _ | exact hnew_self _ _ _ | (rw [hput_ne _ _ _ (by first | assumption | omega | (apply Ne.symm; assumption))]; first | assumption | exact hput_self _ _ _ | exact hnew_self _ _ _) | (rw [hnew_ne _ _ _ (by first | assumption | omega | (apply Ne.symm; assumption))]; first | assumption | exact hput_self _ _ _ | exact hnew_self _ _ _)) | (rw [hnew_ne _ _ _ (by first | assumption | omega | (apply Ne.symm; assumption))]; first | assumption | exact hput_self _ _ _ | exact hnew_self _ _ _ | (rw [hput_ne _ _ _ (by first | assumption | omega | (apply Ne.symm; assumption))]; first | assumption | exact hput_self _ _ _ | exact hnew_self _ _ _) | (rw [hnew_ne _ _ _ (by first | assumption | omega | (apply Ne.symm; assumption))]; first | assumption | exact hput_self _ _ _ | exact hnew_self _ _ _))) rfl (Nat.le_of_ble_eq_true rfl) rfl ?_
  refine c_clearL hL2 (fun hb hLb hfb hb2 => kc_n dr_1 ?_)
  have c3 := (hfb pp h2 (Or.inl (by omega))).trans c1
  replace hLa := hLa.kept (hfb l1 h12 (Or.inl (by omega))) (hfb (gZ G) (by omega) (Or.inr hzb))
  clear c1 hm2
  refine x_aload_n dX6_startAfresh_53 rfl rfl ?_
  refine x_null dX6_startAfresh_54 ?_
  refine pf_X6_56_6 rfl dX6_startAfresh_55 c3 rfl rfl ?_
  refine x_aload_n dX6_startAfresh_58 rfl rfl ?_
  refine x_iconst (v := nI 0) dX6_startAfresh_59 (by decide) ?_
  refine pf_X6_60_6 rfl dX6_startAfresh_60 (by first | exact hA.pe hp | exact hA.f (by omega) | exact hA.ob | first | assumption | exact hput_self _ _ _ | exact hnew_self _ _ _ | (rw [hput_ne _ _ _ (by first | assumption | omega | (apply Ne.symm; assumption))]; first | assumption | exact hput_self _ _ _ | exact hnew_self _ _ _ | (rw [hput_ne _ _ _ (by first | assumption | omega | (apply Ne.symm; assumption))]; first | assumption | exact hput_self _ _ _ | exact hnew_self _ _ _) | (rw [hnew_ne _ _ _ (by first | assumption | omega | (apply Ne.symm; assumption))]; first | assumption | exact hput_self _ _ _ | exact hnew_self _ _ _)) | (rw [hnew_ne _ _ _ (by first | assumption | omega | (apply Ne.symm; assumption))]; first | assumption | exact hput_self _ _ _ | exact hnew_self _ _ _ | (rw [hput_ne _ _ _ (by first | assumption | omega | (apply Ne.symm; assumption))]; first | assumption | exact hput_self _ _ _ | exact hnew_self _ _ _) | (rw [hnew_ne _ _ _ (by first | assumption | omega | (apply Ne.symm; assumption))]; first | assumption | exact hput_self _ _ _ | exact hnew_self _ _ _))) rfl rfl ?_
  refine x_aload_n dX6_startAfresh_63 rfl rfl ?_
  refine x_iconst (v := nI 0) dX6_startAfresh_64 (by decide) ?_
  refine pf_X6_63_6 rfl dX6_startAfresh_65 (by first | exact hA.pe hp | exact hA.f (by omega) | exact hA.ob | first | assumption | exact hput_self _ _ _ | exact hnew_self _ _ _ | (rw [hput_ne _ _ _ (by first | assumption | omega | (apply Ne.symm; assumption))]; first | assumption | exact hput_self _ _ _ | exact hnew_self _ _ _ | (rw [hput_ne _ _ _ (by first | assumption | omega | (apply Ne.symm; assumption))]; first | assumption | exact hput_self _ _ _ | exact hnew_self _ _ _) | (rw [hnew_ne _ _ _ (by first | assumption | omega | (apply Ne.symm; assumption))]; first | assumption | exact hput_self _ _ _ | exact hnew_self _ _ _)) | (rw [hnew_ne _ _ _ (by first | assumption | omega | (apply Ne.symm; assumption))]; first | assumption | exact hput_self _ _ _ | exact hnew_self _ _ _ | (rw [hput_ne _ _ _ (by first | assumption | omega | (apply Ne.symm; assumption))]; first | assumption | exact hput_self _ _ _ | exact hnew_self _ _ _) | (rw [hnew_ne _ _ _ (by first | assumption | omega | (apply Ne.symm; assumption))]; first | assumption | exact hput_self _ _ _ | exact hnew_self _ _ _))) rfl rfl ?_
  refine x_aload_n dX6_startAfresh_68 rfl rfl ?_
  refine x_null dX6_startAfresh_69 ?_
  refine pf_X6_66_6 rfl dX6_startAfresh_70 (hput_self _ _ _) rfl rfl ?_
  refine x_aload_n dX6_startAfresh_73 rfl rfl ?_
  refine x_iconst (v := nI 0) dX6_startAfresh_74 (by decide) ?_
  refine pf_X6_70_6 rfl dX6_startAfresh_75 (by first | exact hA.pe hp | exact hA.f (by omega) | exact hA.ob | first | assumption | exact hput_self _ _ _ | exact hnew_self _ _ _ | (rw [hput_ne _ _ _ (by first | assumption | omega | (apply Ne.symm; assumption))]; first | assumption | exact hput_self _ _ _ | exact hnew_self _ _ _ | (rw [hput_ne _ _ _ (by first | assumption | omega | (apply Ne.symm; assumption))]; first | assumption | exact hput_self _ _ _ | exact hnew_self _ _ _) | (rw [hnew_ne _ _ _ (by first | assumption | omega | (apply Ne.symm; assumption))]; first | assumption | exact hput_self _ _ _ | exact hnew_self _ _ _)) | (rw [hnew_ne _ _ _ (by first | assumption | omega | (apply Ne.symm; assumption))]; first | assumption | exact hput_self _ _ _ | exact hnew_self _ _ _ | (rw [hput_ne _ _ _ (by first | assumption | omega | (apply Ne.symm; assumption))]; first | assumption | exact hput_self _ _ _ | exact hnew_self _ _ _) | (rw [hnew_ne _ _ _ (by first | assumption | omega | (apply Ne.symm; assumption))]; first | assumption | exact hput_self _ _ _ | exact hnew_self _ _ _))) rfl rfl ?_
  refine x_vreturn dX6_startAfresh_78 rfl ?_
  simp only [hput_hput]
  refine hq _ (hput_self _ _ _) (hLa.kept (hput_ne _ _ _ (Ne.symm h1)) (hput_ne _ _ _ (by omega))) (hLb.kept (hput_ne _ _ _ (Ne.symm h2)) (hput_ne _ _ _ (by omega))) (fun a a1 a2 a3 => ?_) ?_
  · rw [hput_ne _ _ _ a1, hfb a a3 (by omega), hfa a a2 (by omega), cf a a1]
  · show hb.2 = h.2
    rw [hb2, ha2, c2]
theorem i_peer {pp fa p : Nat} {fz : Nat → Option Nat} (hc : h.1 pp = some (.inr (6, [.int 0, .null, .null, .int 0, .int 0, .int 0, .int 0, .int 0, .null, .null, .null, .int 0, .int 0, .int 0, .int 0, .int 0, .null, .int 0]))) (hpp : pp < h.2.1) (hg : gb G ≤ pp) (hZ : h.1 (gZ G) = some (.inl (3, 0, .inr (.inr (.inr (.inr fz)))))) (hzb : gZ G < gb G) (hr : Rm G 3 h) (hq : ∀ h', h'.1 pp = some (.inr (6, [.int (nI p), .ref fa, .ref h.2.1, .int (nI 0), .int (nI 0), .int (nI 1000), .int (nI p), .int (nI (p + 1)), .ref (h.2.1 + 1), .ref (h.2.1 + 2), .null, .int 0, .int 0, .int 0, .int (nI 0), .int (nI 0), .null, .int (nI 0)])) → h'.1 h.2.1 = some (.inl (0, 4, .inl (fun _ => 0))) → Lx G h' (h.2.1 + 1) (gZ G) [] → Lx G h' (h.2.1 + 2) (gZ G) [] → (∀ a, a < h.2.1 → a ≠ pp → h'.1 a = h.1 a) → h'.2.1 = h.2.1 + 3 → h'.2.2 = h.2.2 + 10 → Q (.returned none) h') : Cx G mX6_init (d + 4) [.ref pp, .int (nI p), .ref fa] h Q := by
  show Jx G mX6_init (d + 4) Q 0 [some (.ref pp), some (.int (nI p)), some (.ref fa)] [] h
  obtain ⟨r1, r2⟩ := hr
  refine x_aload_n dX6_init_0 rfl rfl ?_
  refine x_objInit dX6_init_1 so_X6_3 wo_inst wo_code (by omega) (Nat.le_of_ble_eq_true rfl) ?_
  refine x_aload_n dX6_init_4 rfl rfl ?_
  refine x_iconst (v := nI 4) dX6_init_5 (by decide) ?_
  refine x_newarray (tg := 0) (N := 4) (x := (4, .inl (fun _ => 0))) dX6_init_6 (by decide) rfl wo_ints ⟨rfl, fun _ => rfl⟩ (nI_pos (by omega)) (nI_clamp (by omega)) (by omega) (by omega) (by omega) ?_
  refine pf_X6_9_6 rfl dX6_init_8 (by rw [hnew_ne _ _ _ (by omega)]; exact hc) rfl rfl rfl ?_
  generalize hD1 : hput (hnew h (.inl (0, 4, .inl (fun _ => 0))) 4) pp (.inr (6, [.int 0, .null, .ref h.2.1, .int 0, .int 0, .int 0, .int 0, .int 0, .null, .null, .null, .int 0, .int 0, .int 0, .int 0, .int 0, .null, .int 0])) = g1
  have g1p : g1.1 pp = some (.inr (6, [.int 0, .null, .ref h.2.1, .int 0, .int 0, .int 0, .int 0, .int 0, .null, .null, .null, .int 0, .int 0, .int 0, .int 0, .int 0, .null, .int 0])) := by rw [← hD1]; exact hput_self _ _ _
  have g1s : g1.1 h.2.1 = some (.inl (0, 4, .inl (fun _ => 0))) := by rw [← hD1, hput_ne _ _ _ (by omega)]; exact hnew_self _ _ _
  have g1f : ∀ a, a < h.2.1 → a ≠ pp → g1.1 a = h.1 a := fun a a1 a2 => by rw [← hD1, hput_ne _ _ _ a2, hnew_ne _ _ _ (by omega)]
  have g1z : g1.2.1 = h.2.1 + 1 := by rw [← hD1]; rfl
  have g1y : g1.2.2 = h.2.2 + 4 := by rw [← hD1]; rfl
  clear hD1
  refine x_aload_n dX6_init_11 rfl rfl ?_
  refine nw_X6_15 rfl dX6_init_12 (by omega) (by omega) ?_
  refine x_dup dX6_init_15 rfl ?_
  refine x_callI dX6_init_16 si_X6_17 rfl rfl (Nat.le_of_ble_eq_true rfl) rfl ?_
  refine c_listInit (hnew_self _ _ _) (kc_n dr_1 ?_)
  rw [hput_hnew, g1z]
  refine pf_X6_18_6 rfl dX6_init_19 (by rw [hnew_ne _ _ _ (by omega)]; exact g1p) rfl rfl rfl ?_
  generalize hD2 : hput (hnew g1 (.inr (0, [.int 0, .ref (gZ G), .int 0])) 3) pp (.inr (6, [.int 0, .null, .ref h.2.1, .int 0, .int 0, .int 0, .int 0, .int 0, .ref (h.2.1 + 1), .null, .null, .int 0, .int 0, .int 0, .int 0, .int 0, .null, .int 0])) = g2
  have g2p : g2.1 pp = some (.inr (6, [.int 0, .null, .ref h.2.1, .int 0, .int 0, .int 0, .int 0, .int 0, .ref (h.2.1 + 1), .null, .null, .int 0, .int 0, .int 0, .int 0, .int 0, .null, .int 0])) := by rw [← hD2]; exact hput_self _ _ _
  have g2f : ∀ a, a < h.2.1 + 1 → a ≠ pp → g2.1 a = g1.1 a := fun a a1 a2 => by rw [← hD2, hput_ne _ _ _ a2, hnew_ne _ _ _ (by omega)]
  have g2l : g2.1 (h.2.1 + 1) = some (.inr (0, [.int 0, .ref (gZ G), .int 0])) := by
    rw [← hD2, hput_ne _ _ _ (by omega), ← g1z]
    exact hnew_self _ _ _
  have g2z : g2.2.1 = h.2.1 + 2 := by rw [← hD2]; show g1.2.1 + 1 = _; omega
  have g2y : g2.2.2 = h.2.2 + 7 := by rw [← hD2]; show g1.2.2 + 3 = _; omega
  clear hD2
  refine x_aload_n dX6_init_22 rfl rfl ?_
  refine nw_X6_15 rfl dX6_init_23 (by omega) (by omega) ?_
  refine x_dup dX6_init_26 rfl ?_
  refine x_callI dX6_init_27 si_X6_17 rfl rfl (Nat.le_of_ble_eq_true rfl) rfl ?_
  refine c_listInit (hnew_self _ _ _) (kc_n dr_1 ?_)
  rw [hput_hnew, g2z]
  refine pf_X6_22_6 rfl dX6_init_30 (by rw [hnew_ne _ _ _ (by omega)]; exact g2p) rfl rfl rfl ?_
  refine x_aload_n dX6_init_33 rfl rfl ?_
  refine x_iload_n dX6_init_34 rfl ?_
  refine pf_X6_25_6 rfl dX6_init_35 (by first | exact hA.pe hp | exact hA.f (by omega) | exact hA.ob | first | assumption | exact hput_self _ _ _ | exact hnew_self _ _ _ | (rw [hput_ne _ _ _ (by first | assumption | omega | (apply Ne.symm; assumption))]; first | assumption | exact hput_self _ _ _ | exact hnew_self _ _ _ | (rw [hput_ne _ _ _ (by first | assumption | omega | (apply Ne.symm; assumption))]; first | assumption | exact hput_self _ _ _ | exact hnew_self _ _ _) | (rw [hnew_ne _ _ _ (by first | assumption | omega | (apply Ne.symm; assumption))]; first | assumption | exact hput_self _ _ _ | exact hnew_self _ _ _)) | (rw [hnew_ne _ _ _ (by first | assumption | omega | (apply Ne.symm; assumption))]; first | assumption | exact hput_self _ _ _ | exact hnew_self _ _ _ | (rw [hput_ne _ _ _ (by first | assumption | omega | (apply Ne.symm; assumption))]; first | assumption | exact hput_self _ _ _ | exact hnew_self _ _ _) | (rw [hnew_ne _ _ _ (by first | assumption | omega | (apply Ne.symm; assumption))]; first | assumption | exact hput_self _ _ _ | exact hnew_self _ _ _))) rfl rfl rfl ?_
  refine x_aload_n dX6_init_38 rfl rfl ?_
  refine x_aload_n dX6_init_39 rfl rfl ?_
  refine pf_X6_29_6 rfl dX6_init_40 (by first | exact hA.pe hp | exact hA.f (by omega) | exact hA.ob | first | assumption | exact hput_self _ _ _ | exact hnew_self _ _ _ | (rw [hput_ne _ _ _ (by first | assumption | omega | (apply Ne.symm; assumption))]; first | assumption | exact hput_self _ _ _ | exact hnew_self _ _ _ | (rw [hput_ne _ _ _ (by first | assumption | omega | (apply Ne.symm; assumption))]; first | assumption | exact hput_self _ _ _ | exact hnew_self _ _ _) | (rw [hnew_ne _ _ _ (by first | assumption | omega | (apply Ne.symm; assumption))]; first | assumption | exact hput_self _ _ _ | exact hnew_self _ _ _)) | (rw [hnew_ne _ _ _ (by first | assumption | omega | (apply Ne.symm; assumption))]; first | assumption | exact hput_self _ _ _ | exact hnew_self _ _ _ | (rw [hput_ne _ _ _ (by first | assumption | omega | (apply Ne.symm; assumption))]; first | assumption | exact hput_self _ _ _ | exact hnew_self _ _ _) | (rw [hnew_ne _ _ _ (by first | assumption | omega | (apply Ne.symm; assumption))]; first | assumption | exact hput_self _ _ _ | exact hnew_self _ _ _))) rfl rfl rfl ?_
  simp only [hput_hput]
  generalize hD3 : hput (hnew g2 (.inr (0, [.int 0, .ref (gZ G), .int 0])) 3) pp (.inr (6, [.int (nI p), .ref fa, .ref h.2.1, .int 0, .int 0, .int 0, .int 0, .int 0, .ref (h.2.1 + 1), .ref (h.2.1 + 2), .null, .int 0, .int 0, .int 0, .int 0, .int 0, .null, .int 0])) = g3
  have g3p : g3.1 pp = some (.inr (6, [.int (nI p), .ref fa, .ref h.2.1, .int 0, .int 0, .int 0, .int 0, .int 0, .ref (h.2.1 + 1), .ref (h.2.1 + 2), .null, .int 0, .int 0, .int 0, .int 0, .int 0, .null, .int 0])) := by rw [← hD3]; exact hput_self _ _ _
  have g3f : ∀ a, a < h.2.1 + 2 → a ≠ pp → g3.1 a = g2.1 a := fun a a1 a2 => by rw [← hD3, hput_ne _ _ _ a2, hnew_ne _ _ _ (by omega)]
  have g3l : g3.1 (h.2.1 + 2) = some (.inr (0, [.int 0, .ref (gZ G), .int 0])) := by
    rw [← hD3, hput_ne _ _ _ (by omega), ← g2z]
    exact hnew_self _ _ _
  have g3z : g3.2.1 = h.2.1 + 3 := by rw [← hD3]; show g2.2.1 + 1 = _; omega
  have g3y : g3.2.2 = h.2.2 + 10 := by rw [← hD3]; show g2.2.2 + 3 = _; omega
  clear hD3
  have hZ3 : g3.1 (gZ G) = some (.inl (3, 0, .inr (.inr (.inr (.inr fz))))) := ((g3f _ (by omega) (by omega)).trans ((g2f _ (by omega) (by omega)).trans (g1f _ (by omega) (by omega)))).trans hZ
  refine x_aload_n dX6_init_43 rfl rfl ?_
  refine x_callV dX6_init_44 sv_X6_33_6 rfl g3p rfl (Nat.le_of_ble_eq_true rfl) rfl ?_
  refine i_afresh g3p (Lx.fresh ((g3f _ (by omega) (by omega)).trans g2l) hZ3) (Lx.fresh g3l hZ3) (by omega) (by omega) (by omega) hg (by omega) (by omega) hzb (fun h' q1 q2 q3 q4 q5 => kc_n dr_1 ?_)
  refine x_vreturn dX6_init_47 rfl ?_
  refine hq h' q1 ?_ q2 q3 (fun a a1 a2 => ?_) ?_ ?_
  · rw [q4 _ (by omega) (by omega) (by omega), g3f _ (by omega) (by omega), g2f _ (by omega) (by omega)]
    exact g1s
  · rw [q4 a a2 (by omega) (by omega), g3f a (by omega) a2, g2f a (by omega) a2]
    exact g1f a a1 a2
  · rw [q5]; exact g3z
  · rw [q5]; exact g3y
end I1X
