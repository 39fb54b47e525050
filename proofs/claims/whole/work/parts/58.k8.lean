theorem pick_in_keep {x s : Int32} (hs : s ≠ 0) : ∀ (su : List Int32), su.foldl (fun s y => if s = 0 ∧ x = y then x else s) s = s
  | [] => rfl
  | y :: t => by
    rw [List.foldl_cons, if_neg (fun q => hs q.1)]
    exact pick_in_keep hs t
theorem pick_in {x : Int32} (hx : x ≠ 0) : ∀ (su : List Int32), su.foldl (fun s y => if s = 0 ∧ x = y then x else s) 0 = if su.any (fun y => decide (y = x)) = true then x else 0
  | [] => rfl
  | y :: t => by
    rw [List.foldl_cons, List.any_cons]
    by_cases e : x = y
    · rw [if_pos ⟨rfl, e⟩, pick_in_keep hx, decide_eq_true e.symm, Bool.true_or, if_pos rfl]
    · rw [if_neg (fun q => e q.2), pick_in hx t, decide_eq_false (fun q => e q.symm), Bool.false_or]
theorem pick_keep {s : Int32} (su : List Int32) (hs : s ≠ 0) : ∀ (off : List Int32), off.foldl (fun s x => su.foldl (fun s y => if s = 0 ∧ x = y then x else s) s) s = s
  | [] => rfl
  | y :: t => by
    rw [List.foldl_cons, pick_in_keep hs]
    exact pick_keep su hs t
theorem pick_cons {x : Int32} (hx : x ≠ 0) (t su : List Int32) : pickU (x :: t) su = if su.any (fun y => decide (y = x)) = true then x else pickU t su := by
  unfold pickU
  rw [List.foldl_cons, pick_in hx]
  by_cases e : su.any (fun y => decide (y = x)) = true
  · rw [if_pos e, if_pos e, pick_keep su hx]
  · rw [if_neg e, if_neg e]
theorem mn_eq (a b : Int32) : (if b < a then b else a) = mnI a b := by
  unfold mnI
  by_cases h1 : b < a
  · rw [if_pos h1, if_pos (Int32.le_of_lt h1)]
  · rw [if_neg h1]
    by_cases h2 : b ≤ a
    · rw [if_pos h2]
      exact Int32.le_antisymm (Int32.not_lt.mp h1) h2
    · rw [if_neg h2]
theorem mx_eq (a b : Int32) : (if b < a then a else b) = mxI a b := by
  unfold mxI
  by_cases h1 : b < a
  · rw [if_pos h1, if_neg (Int32.not_le.mpr h1)]
  · rw [if_neg h1, if_pos (Int32.not_lt.mp h1)]
theorem mn_eq' (a b : Int32) : (if a < b then a else b) = mnI a b := by
  unfold mnI
  by_cases h1 : a < b
  · rw [if_pos h1, if_neg (Int32.not_le.mpr h1)]
  · rw [if_neg h1, if_pos (Int32.not_lt.mp h1)]
theorem reqO.cell {h : Hp} {z a : Nat} {pk : Nat → Int32} (hk : reqO h z a pk) : ∃ so oo, h.1 a = some (.inr (7, [.int (pk 1), .int (pk 2), .int (pk 4), .int (pk 5), va_rf so, va_rf oo])) := by
  obtain ⟨-, -, -, ⟨-, -, oa, h1, -⟩ | ⟨-, sb, kd, h1, -⟩⟩ := hk
  · exact ⟨none, some oa, h1⟩
  · exact ⟨some sb, none, h1⟩
section K8X
variable {G : GT} {d : Nat} {Q : Outcome → Hp → Prop} {h : Hp} {x z p : Nat} {u : Ut} {E : Nat → Nat → Nat} {X : Nat → Nat → List Nat} {ov lv : Nat → Option Nat} {sf : Nat → Nat → Int32}
theorem k_deal_loop {oa aa : Nat} {f : Nat → Int32} {off : List Int32} {l7 l8 lo hi : Int32} (hA : RA G h x z u E X ov lv sf) (hp : p < 2) (hoc : h.1 oa = some (.inr (5, [.ref aa, .int l7, .int l8]))) (hac : h.1 aa = some (.inl (0, off.length, .inl f))) (h4 : off.length ≤ 4) (hof : ∀ k y, off[k]? = some y → f k = y ∧ y ≠ 0) (hr : Rm G 1 h)
    (hq1 : ∀ h' da, pickU off (u.su p) ≠ 0 → RA G h' x z u E X ov lv sf → KC x z 1 h h' → dealO h' z da (pickU off (u.su p)) lo hi → Q (.returned (some (.ref da))) h') (hq0 : pickU off (u.su p) = 0 → Q (.returned (some .null)) h) : ∀ (q k : Nat), k + q = off.length → pickU (off.drop k) (u.su p) = pickU off (u.su p) → Jx G mX6_dealOn (d + 2) Q 40 [some (.ref (aP x p)), some (.ref oa), some (.int lo), some (.int hi), some (.int (nI k))] [] h := by
  intro q
  induction q with
  | zero =>
    intro k hk he
    refine x_iload dX6_dealOn_40 rfl ?_
    refine x_aload_n dX6_dealOn_42 rfl rfl ?_
    refine gf_X6_237_5 rfl dX6_dealOn_43 (by first | exact hA.pe hp | exact hA.f (by omega) | exact hA.ob | first | assumption | exact hput_self _ _ _ | exact hnew_self _ _ _ | (rw [hput_ne _ _ _ (by first | assumption | omega | (apply Ne.symm; assumption))]; first | assumption | exact hput_self _ _ _ | exact hnew_self _ _ _ | (rw [hput_ne _ _ _ (by first | assumption | omega | (apply Ne.symm; assumption))]; first | assumption | exact hput_self _ _ _ | exact hnew_self _ _ _) | (rw [hnew_ne _ _ _ (by first | assumption | omega | (apply Ne.symm; assumption))]; first | assumption | exact hput_self _ _ _ | exact hnew_self _ _ _)) | (rw [hnew_ne _ _ _ (by first | assumption | omega | (apply Ne.symm; assumption))]; first | assumption | exact hput_self _ _ _ | exact hnew_self _ _ _ | (rw [hput_ne _ _ _ (by first | assumption | omega | (apply Ne.symm; assumption))]; first | assumption | exact hput_self _ _ _ | exact hnew_self _ _ _) | (rw [hnew_ne _ _ _ (by first | assumption | omega | (apply Ne.symm; assumption))]; first | assumption | exact hput_self _ _ _ | exact hnew_self _ _ _))) ?_
    refine x_alen dX6_dealOn_46 hac (by decide) ?_
    refine x_icmp_ge (tgt := 87) dX6_dealOn_47 (by decide) (fun c1 => ?_) (fun c1 => ?_)
    · rw [List.drop_eq_nil_of_le (by omega)] at he
      refine x_null dX6_dealOn_87 ?_
      refine x_areturn dX6_dealOn_88 rfl (by first | exact Or.inl ⟨_, rfl⟩ | exact Or.inr ⟨_, rfl⟩) (by first | exact Or.inr ⟨_, rfl⟩ | exact Or.inl rfl | assumption) ?_
      exact hq0 he.symm
    · exact absurd (nI_le (by omega) (by omega)) c1
  | succ q ih =>
    intro k hk he
    have hkl : k < off.length := by omega
    obtain ⟨g1, g2⟩ := hof k _ (List.getElem?_eq_getElem hkl)
    rw [List.drop_eq_getElem_cons hkl, pick_cons g2] at he
    refine x_iload dX6_dealOn_40 rfl ?_
    refine x_aload_n dX6_dealOn_42 rfl rfl ?_
    refine gf_X6_237_5 rfl dX6_dealOn_43 (by first | exact hA.pe hp | exact hA.f (by omega) | exact hA.ob | first | assumption | exact hput_self _ _ _ | exact hnew_self _ _ _ | (rw [hput_ne _ _ _ (by first | assumption | omega | (apply Ne.symm; assumption))]; first | assumption | exact hput_self _ _ _ | exact hnew_self _ _ _ | (rw [hput_ne _ _ _ (by first | assumption | omega | (apply Ne.symm; assumption))]; first | assumption | exact hput_self _ _ _ | exact hnew_self _ _ _) | (rw [hnew_ne _ _ _ (by first | assumption | omega | (apply Ne.symm; assumption))]; first | assumption | exact hput_self _ _ _ | exact hnew_self _ _ _)) | (rw [hnew_ne _ _ _ (by first | assumption | omega | (apply Ne.symm; assumption))]; first | assumption | exact hput_self _ _ _ | exact hnew_self _ _ _ | (rw [hput_ne _ _ _ (by first | assumption | omega | (apply Ne.symm; assumption))]; first | assumption | exact hput_self _ _ _ | exact hnew_self _ _ _) | (rw [hnew_ne _ _ _ (by first | assumption | omega | (apply Ne.symm; assumption))]; first | assumption | exact hput_self _ _ _ | exact hnew_self _ _ _))) ?_
    refine x_alen dX6_dealOn_46 hac (by decide) ?_
    refine x_icmp_ge (tgt := 87) dX6_dealOn_47 (by decide) (fun c1 => ?_) (fun c1 => ?_)
    · exact absurd ((nI_leI (by omega) (by omega)).mp c1) (by omega)
    refine x_aload_n dX6_dealOn_50 rfl rfl ?_
    refine x_aload_n dX6_dealOn_51 rfl rfl ?_
    refine gf_X6_237_5 rfl dX6_dealOn_52 (by first | exact hA.pe hp | exact hA.f (by omega) | exact hA.ob | first | assumption | exact hput_self _ _ _ | exact hnew_self _ _ _ | (rw [hput_ne _ _ _ (by first | assumption | omega | (apply Ne.symm; assumption))]; first | assumption | exact hput_self _ _ _ | exact hnew_self _ _ _ | (rw [hput_ne _ _ _ (by first | assumption | omega | (apply Ne.symm; assumption))]; first | assumption | exact hput_self _ _ _ | exact hnew_self _ _ _) | (rw [hnew_ne _ _ _ (by first | assumption | omega | (apply Ne.symm; assumption))]; first | assumption | exact hput_self _ _ _ | exact hnew_self _ _ _)) | (rw [hnew_ne _ _ _ (by first | assumption | omega | (apply Ne.symm; assumption))]; first | assumption | exact hput_self _ _ _ | exact hnew_self _ _ _ | (rw [hput_ne _ _ _ (by first | assumption | omega | (apply Ne.symm; assumption))]; first | assumption | exact hput_self _ _ _ | exact hnew_self _ _ _) | (rw [hnew_ne _ _ _ (by first | assumption | omega | (apply Ne.symm; assumption))]; first | assumption | exact hput_self _ _ _ | exact hnew_self _ _ _))) ?_
    refine x_iload dX6_dealOn_55 rfl ?_
    refine x_iaload dX6_dealOn_57 hac (vp_in_nI hkl (by omega)) ?_
    rw [nI_clamp (by omega), g1]
    refine x_callV dX6_dealOn_58 sv_X6_238_6 rfl (by first | exact hA.pe hp | exact hA.f (by omega) | exact hA.ob | first | assumption | exact hput_self _ _ _ | exact hnew_self _ _ _ | (rw [hput_ne _ _ _ (by first | assumption | omega | (apply Ne.symm; assumption))]; first | assumption | exact hput_self _ _ _ | exact hnew_self _ _ _ | (rw [hput_ne _ _ _ (by first | assumption | omega | (apply Ne.symm; assumption))]; first | assumption | exact hput_self _ _ _ | exact hnew_self _ _ _) | (rw [hnew_ne _ _ _ (by first | assumption | omega | (apply Ne.symm; assumption))]; first | assumption | exact hput_self _ _ _ | exact hnew_self _ _ _)) | (rw [hnew_ne _ _ _ (by first | assumption | omega | (apply Ne.symm; assumption))]; first | assumption | exact hput_self _ _ _ | exact hnew_self _ _ _ | (rw [hput_ne _ _ _ (by first | assumption | omega | (apply Ne.symm; assumption))]; first | assumption | exact hput_self _ _ _ | exact hnew_self _ _ _) | (rw [hnew_ne _ _ _ (by first | assumption | omega | (apply Ne.symm; assumption))]; first | assumption | exact hput_self _ _ _ | exact hnew_self _ _ _))) rfl (Nat.le_of_ble_eq_true rfl) rfl ?_
    refine k_hasSuite hA hp (kc_v dr_2 ?_)
    generalize hb : (u.su p).any (fun y => decide (y = off[k])) = b at he ⊢
    cases b with
    | false =>
      rw [if_neg (by decide)] at he
      refine x_if_eq (tgt := 81) dX6_dealOn_61 (by decide) (fun c2 => ?_) (fun c2 => ?_)
      · refine y_iinc (k := nI 1) dX6_dealOn_81 rfl (by decide) lvs_5_4 ?_
        try simp only [pk_mul, nI_add]
        refine x_goto (tgt := 40) dX6_dealOn_84 (by decide) ?_
        exact ih (k + 1) (by omega) he
      · exact absurd rfl c2
    | true =>
      rw [if_pos rfl] at he
      refine x_if_eq (tgt := 81) dX6_dealOn_61 (by decide) (fun c2 => ?_) (fun c2 => ?_)
      · exact absurd c2 (by decide)
      refine x_wf (fun hwf hob hbn => ?_)
      have hol := hwf _ _ hoc
      have hal := hwf _ _ hac
      have hzh := hA.zh
      refine nw_X6_109 rfl dX6_dealOn_64 (hr.c (by omega)) (hr.s (by omega)) ?_
      refine x_dup dX6_dealOn_67 rfl ?_
      refine x_aload_n dX6_dealOn_68 rfl rfl ?_
      refine gf_X6_237_5 rfl dX6_dealOn_69 (by first | exact hA.pe hp | exact hA.f (by omega) | exact hA.ob | first | assumption | exact hput_self _ _ _ | exact hnew_self _ _ _ | (rw [hput_ne _ _ _ (by first | assumption | omega | (apply Ne.symm; assumption))]; first | assumption | exact hput_self _ _ _ | exact hnew_self _ _ _ | (rw [hput_ne _ _ _ (by first | assumption | omega | (apply Ne.symm; assumption))]; first | assumption | exact hput_self _ _ _ | exact hnew_self _ _ _) | (rw [hnew_ne _ _ _ (by first | assumption | omega | (apply Ne.symm; assumption))]; first | assumption | exact hput_self _ _ _ | exact hnew_self _ _ _)) | (rw [hnew_ne _ _ _ (by first | assumption | omega | (apply Ne.symm; assumption))]; first | assumption | exact hput_self _ _ _ | exact hnew_self _ _ _ | (rw [hput_ne _ _ _ (by first | assumption | omega | (apply Ne.symm; assumption))]; first | assumption | exact hput_self _ _ _ | exact hnew_self _ _ _) | (rw [hnew_ne _ _ _ (by first | assumption | omega | (apply Ne.symm; assumption))]; first | assumption | exact hput_self _ _ _ | exact hnew_self _ _ _))) ?_
      refine x_iload dX6_dealOn_72 rfl ?_
      refine x_iaload dX6_dealOn_74 (by rw [hnew_ne _ _ _ (by omega)]; exact hac) (vp_in_nI hkl (by omega)) ?_
      rw [nI_clamp (by omega), g1]
      refine x_iload_n dX6_dealOn_75 rfl ?_
      refine x_iload_n dX6_dealOn_76 rfl ?_
      refine x_callI dX6_dealOn_77 si_X6_242 rfl rfl (Nat.le_of_ble_eq_true rfl) rfl ?_
      refine c_dealInit (hnew_self _ _ _) (kc_n dr_4 ?_)
      rw [hput_hnew]
      refine x_areturn dX6_dealOn_80 rfl (by first | exact Or.inl ⟨_, rfl⟩ | exact Or.inr ⟨_, rfl⟩) (by first | exact Or.inr ⟨_, rfl⟩ | exact Or.inl rfl | assumption) ?_
      obtain ⟨f1, f2⟩ := hA.mk1 hwf (.inr (3, [.int off[k], .int lo, .int hi])) 3 (by omega)
      refine hq1 _ _ (by rw [← he]; exact g2) f1 f2 ⟨hzh, ?_⟩
      rw [← he]
      exact hnew_self _ _ _
theorem k_dealOn {oa : Nat} {pk : Nat → Int32} (hA : RA G h x z u E X ov lv sf) (hp : p < 2) (ho : offO h z oa pk) (hr : Rm G 1 h)
    (hq1 : ∀ h' da, pickU (offOf pk) (u.su p) ≠ 0 → ¬ mnI (pk 8) (u.hi p) < mxI (pk 7) (u.lo p) → RA G h' x z u E X ov lv sf → KC x z 1 h h' → dealO h' z da (pickU (offOf pk) (u.su p)) (mxI (pk 7) (u.lo p)) (mnI (pk 8) (u.hi p)) → Q (.returned (some (.ref da))) h') (hq0 : pickU (offOf pk) (u.su p) = 0 ∨ mnI (pk 8) (u.hi p) < mxI (pk 7) (u.lo p) → Q (.returned (some .null)) h) : Cx G mX6_dealOn (d + 2) [.ref (aP x p), .ref oa] h Q := by
  show Jx G mX6_dealOn (d + 2) Q 0 [some (.ref (aP x p)), some (.ref oa), none, none, none] [] h
  obtain ⟨hoz, aa, f, hoc, haz, hac, h4, h10, hof⟩ := ho
  refine x_aload_n (v := va_rf (some oa)) dX6_dealOn_0 rfl rfl ?_
  refine x_ifnonnull (tgt := 6) dX6_dealOn_1 (by decide) (fun c0a c0 => ?_) (fun c0 => ?_)
  · refine x_aload_n dX6_dealOn_6 rfl rfl ?_
    refine gf_X6_39_6 rfl dX6_dealOn_7 (by first | exact hA.pe hp | exact hA.f (by omega) | exact hA.ob | first | assumption | exact hput_self _ _ _ | exact hnew_self _ _ _ | (rw [hput_ne _ _ _ (by first | assumption | omega | (apply Ne.symm; assumption))]; first | assumption | exact hput_self _ _ _ | exact hnew_self _ _ _ | (rw [hput_ne _ _ _ (by first | assumption | omega | (apply Ne.symm; assumption))]; first | assumption | exact hput_self _ _ _ | exact hnew_self _ _ _) | (rw [hnew_ne _ _ _ (by first | assumption | omega | (apply Ne.symm; assumption))]; first | assumption | exact hput_self _ _ _ | exact hnew_self _ _ _)) | (rw [hnew_ne _ _ _ (by first | assumption | omega | (apply Ne.symm; assumption))]; first | assumption | exact hput_self _ _ _ | exact hnew_self _ _ _ | (rw [hput_ne _ _ _ (by first | assumption | omega | (apply Ne.symm; assumption))]; first | assumption | exact hput_self _ _ _ | exact hnew_self _ _ _) | (rw [hnew_ne _ _ _ (by first | assumption | omega | (apply Ne.symm; assumption))]; first | assumption | exact hput_self _ _ _ | exact hnew_self _ _ _))) ?_
    refine x_aload_n dX6_dealOn_10 rfl rfl ?_
    refine gf_X6_232_5 rfl dX6_dealOn_11 (by first | exact hA.pe hp | exact hA.f (by omega) | exact hA.ob | first | assumption | exact hput_self _ _ _ | exact hnew_self _ _ _ | (rw [hput_ne _ _ _ (by first | assumption | omega | (apply Ne.symm; assumption))]; first | assumption | exact hput_self _ _ _ | exact hnew_self _ _ _ | (rw [hput_ne _ _ _ (by first | assumption | omega | (apply Ne.symm; assumption))]; first | assumption | exact hput_self _ _ _ | exact hnew_self _ _ _) | (rw [hnew_ne _ _ _ (by first | assumption | omega | (apply Ne.symm; assumption))]; first | assumption | exact hput_self _ _ _ | exact hnew_self _ _ _)) | (rw [hnew_ne _ _ _ (by first | assumption | omega | (apply Ne.symm; assumption))]; first | assumption | exact hput_self _ _ _ | exact hnew_self _ _ _ | (rw [hput_ne _ _ _ (by first | assumption | omega | (apply Ne.symm; assumption))]; first | assumption | exact hput_self _ _ _ | exact hnew_self _ _ _) | (rw [hnew_ne _ _ _ (by first | assumption | omega | (apply Ne.symm; assumption))]; first | assumption | exact hput_self _ _ _ | exact hnew_self _ _ _))) ?_
    refine x_callS dX6_dealOn_14 ss_X6_233 (Nat.le_of_ble_eq_true rfl) rfl (Nat.le_of_ble_eq_true rfl) rfl ?_
    refine c_max (kc_v dr_2 ?_)
    rw [mx_eq]
    refine y_istore_n dX6_dealOn_17 rfl lvs_5_2 ?_
    refine x_aload_n dX6_dealOn_18 rfl rfl ?_
    refine gf_X6_42_6 rfl dX6_dealOn_19 (by first | exact hA.pe hp | exact hA.f (by omega) | exact hA.ob | first | assumption | exact hput_self _ _ _ | exact hnew_self _ _ _ | (rw [hput_ne _ _ _ (by first | assumption | omega | (apply Ne.symm; assumption))]; first | assumption | exact hput_self _ _ _ | exact hnew_self _ _ _ | (rw [hput_ne _ _ _ (by first | assumption | omega | (apply Ne.symm; assumption))]; first | assumption | exact hput_self _ _ _ | exact hnew_self _ _ _) | (rw [hnew_ne _ _ _ (by first | assumption | omega | (apply Ne.symm; assumption))]; first | assumption | exact hput_self _ _ _ | exact hnew_self _ _ _)) | (rw [hnew_ne _ _ _ (by first | assumption | omega | (apply Ne.symm; assumption))]; first | assumption | exact hput_self _ _ _ | exact hnew_self _ _ _ | (rw [hput_ne _ _ _ (by first | assumption | omega | (apply Ne.symm; assumption))]; first | assumption | exact hput_self _ _ _ | exact hnew_self _ _ _) | (rw [hnew_ne _ _ _ (by first | assumption | omega | (apply Ne.symm; assumption))]; first | assumption | exact hput_self _ _ _ | exact hnew_self _ _ _))) ?_
    refine x_aload_n dX6_dealOn_22 rfl rfl ?_
    refine gf_X6_236_5 rfl dX6_dealOn_23 (by first | exact hA.pe hp | exact hA.f (by omega) | exact hA.ob | first | assumption | exact hput_self _ _ _ | exact hnew_self _ _ _ | (rw [hput_ne _ _ _ (by first | assumption | omega | (apply Ne.symm; assumption))]; first | assumption | exact hput_self _ _ _ | exact hnew_self _ _ _ | (rw [hput_ne _ _ _ (by first | assumption | omega | (apply Ne.symm; assumption))]; first | assumption | exact hput_self _ _ _ | exact hnew_self _ _ _) | (rw [hnew_ne _ _ _ (by first | assumption | omega | (apply Ne.symm; assumption))]; first | assumption | exact hput_self _ _ _ | exact hnew_self _ _ _)) | (rw [hnew_ne _ _ _ (by first | assumption | omega | (apply Ne.symm; assumption))]; first | assumption | exact hput_self _ _ _ | exact hnew_self _ _ _ | (rw [hput_ne _ _ _ (by first | assumption | omega | (apply Ne.symm; assumption))]; first | assumption | exact hput_self _ _ _ | exact hnew_self _ _ _) | (rw [hnew_ne _ _ _ (by first | assumption | omega | (apply Ne.symm; assumption))]; first | assumption | exact hput_self _ _ _ | exact hnew_self _ _ _))) ?_
    refine x_callS dX6_dealOn_26 ss_X6_206 (Nat.le_of_ble_eq_true rfl) rfl (Nat.le_of_ble_eq_true rfl) rfl ?_
    refine c_min (kc_v dr_2 ?_)
    rw [mn_eq']
    refine y_istore_n dX6_dealOn_29 rfl lvs_5_3 ?_
    refine x_iload_n dX6_dealOn_30 rfl ?_
    refine x_iload_n dX6_dealOn_31 rfl ?_
    refine x_icmp_le (tgt := 37) dX6_dealOn_32 (by decide) (fun c1 => ?_) (fun c1 => ?_)
    · refine x_iconst (v := nI 0) dX6_dealOn_37 (by decide) ?_
      refine y_istore dX6_dealOn_38 rfl lvs_5_4 ?_
      exact k_deal_loop hA hp hoc hac h4 hof hr (fun h' da q1 q2 q3 q4 => hq1 h' da q1 (Int32.not_lt.mpr c1) q2 q3 q4) (fun q => hq0 (Or.inl q)) _ 0 (Nat.zero_add _) rfl
    · refine x_null dX6_dealOn_35 ?_
      refine x_areturn dX6_dealOn_36 rfl (by first | exact Or.inl ⟨_, rfl⟩ | exact Or.inr ⟨_, rfl⟩) (by first | exact Or.inr ⟨_, rfl⟩ | exact Or.inl rfl | assumption) ?_
      exact hq0 (Or.inr (Int32.not_le.mp c1))
  · cases c0
theorem k_no {r : Nat} {pk : Nat → Int32} (hA : RA G h x z u E X ov lv sf) (hreq : reqO h z r pk) (h2 : pk 2 ≠ nI 2) (hr : Rm G 1 h) (hq : ∀ h' a, RA G h' x z u E X ov lv sf → KC x z 1 h h' → ansW h' z a (upd (blk (nI 0) (pk 1) (pk 2)) 3 (nI 0)) → Q (.returned (some (.ref a))) h') : Cx G mX6_no (d + 3) [.ref r] h Q := by
  show Jx G mX6_no (d + 3) Q 0 [some (.ref r)] [] h
  refine x_wf (fun hwf hob hbn => ?_)
  obtain ⟨so, oo, hrc⟩ := hreq.cell
  have hrl := hwf _ _ hrc
  have hzh := hA.zh
  refine nw_X6_170 rfl dX6_no_0 (hr.c (by omega)) (hr.s (by omega)) ?_
  refine x_dup dX6_no_3 rfl ?_
  refine x_aload_n dX6_no_4 rfl rfl ?_
  refine x_iconst (v := nI 1) dX6_no_5 (by decide) ?_
  refine x_iconst (v := nI 0) dX6_no_6 (by decide) ?_
  refine x_iconst (v := nI 0) dX6_no_7 (by decide) ?_
  refine x_null dX6_no_8 ?_
  refine x_callI dX6_no_9 si_X6_219 rfl rfl (Nat.le_of_ble_eq_true rfl) rfl ?_
  refine c_ansInit (b := true) (dv := none) (hnew_self _ _ _) (by rw [hnew_ne _ _ _ (by omega)]; exact hrc) (kc_n dr_6 ?_)
  rw [hput_hnew]
  refine x_areturn dX6_no_12 rfl (by first | exact Or.inl ⟨_, rfl⟩ | exact Or.inr ⟨_, rfl⟩) (by first | exact Or.inr ⟨_, rfl⟩ | exact Or.inl rfl | assumption) ?_
  obtain ⟨f1, f2⟩ := hA.mk1 hwf (.inr (1, [.int (pk 1), .int (pk 2), .int (nI 0), .int (nI 0), .int (bI true), va_rf none])) 6 (by omega)
  refine hq _ _ f1 f2 ⟨hzh, rfl, rfl, true, none, rfl, hnew_self _ _ _, (fun _ q => by cases q), fun q => absurd q h2⟩
theorem k_ao_yes {r da : Nat} {pk : Nat → Int32} {s lo hi : Int32} {z3 z4 : Option Value} (hA : RA G h x z u E X ov lv sf) (hp : p < 2) (hreq : reqO h z r pk) (hk2 : pk 2 = 0) (hd : dealO h z da s lo hi) (hl : (u.ki p).length < 16) (hr : Rm G 3 h) (hq : ∀ h' E' X' a, RA G h' x z ((frU u p).w_ki p (u.ki p ++ [kdL (u.mk p) (pk 4) s lo hi (nI 0) (nI 0) (mnI (pk 5) (n16 (nxN (u.no p))))])) E' X' ov lv sf → KC x z 3 h h' → ansW h' z a (upd (upd (upd (frM u p (blk (nI 0) (pk 1) (nI 0))) 7 lo) 8 hi) 9 s) → Q (.returned (some (.ref a))) h') : Jx G mX6_answerToOpen (d + 9) Q 25 [some (.ref (aP x p)), some (.ref r), some (.ref da), z3, z4] [] h := by
  refine x_aload_n dX6_answerToOpen_25 rfl rfl ?_
  refine x_callV dX6_answerToOpen_26 sv_X6_139_6 rfl (by first | exact hA.pe hp | exact hA.f (by omega) | exact hA.ob | first | assumption | exact hput_self _ _ _ | exact hnew_self _ _ _ | (rw [hput_ne _ _ _ (by first | assumption | omega | (apply Ne.symm; assumption))]; first | assumption | exact hput_self _ _ _ | exact hnew_self _ _ _ | (rw [hput_ne _ _ _ (by first | assumption | omega | (apply Ne.symm; assumption))]; first | assumption | exact hput_self _ _ _ | exact hnew_self _ _ _) | (rw [hnew_ne _ _ _ (by first | assumption | omega | (apply Ne.symm; assumption))]; first | assumption | exact hput_self _ _ _ | exact hnew_self _ _ _)) | (rw [hnew_ne _ _ _ (by first | assumption | omega | (apply Ne.symm; assumption))]; first | assumption | exact hput_self _ _ _ | exact hnew_self _ _ _ | (rw [hput_ne _ _ _ (by first | assumption | omega | (apply Ne.symm; assumption))]; first | assumption | exact hput_self _ _ _ | exact hnew_self _ _ _) | (rw [hnew_ne _ _ _ (by first | assumption | omega | (apply Ne.symm; assumption))]; first | assumption | exact hput_self _ _ _ | exact hnew_self _ _ _))) rfl (Nat.le_of_ble_eq_true rfl) rfl ?_
  refine k_newMark hA hp (fun h1 hA1 hK1 => kc_v dr_1 ?_)
  replace hA := hA1
  refine y_istore_n dX6_answerToOpen_29 rfl lvs_5_3 ?_
  refine x_aload_n dX6_answerToOpen_30 rfl rfl ?_
  refine x_callV dX6_answerToOpen_31 sv_X6_142_6 rfl (by first | exact hA.pe hp | exact hA.f (by omega) | exact hA.ob | first | assumption | exact hput_self _ _ _ | exact hnew_self _ _ _ | (rw [hput_ne _ _ _ (by first | assumption | omega | (apply Ne.symm; assumption))]; first | assumption | exact hput_self _ _ _ | exact hnew_self _ _ _ | (rw [hput_ne _ _ _ (by first | assumption | omega | (apply Ne.symm; assumption))]; first | assumption | exact hput_self _ _ _ | exact hnew_self _ _ _) | (rw [hnew_ne _ _ _ (by first | assumption | omega | (apply Ne.symm; assumption))]; first | assumption | exact hput_self _ _ _ | exact hnew_self _ _ _)) | (rw [hnew_ne _ _ _ (by first | assumption | omega | (apply Ne.symm; assumption))]; first | assumption | exact hput_self _ _ _ | exact hnew_self _ _ _ | (rw [hput_ne _ _ _ (by first | assumption | omega | (apply Ne.symm; assumption))]; first | assumption | exact hput_self _ _ _ | exact hnew_self _ _ _) | (rw [hnew_ne _ _ _ (by first | assumption | omega | (apply Ne.symm; assumption))]; first | assumption | exact hput_self _ _ _ | exact hnew_self _ _ _))) rfl (Nat.le_of_ble_eq_true rfl) rfl ?_
  refine k_newNonce hA hp (fun h2 hA2 hK2 => kc_v dr_1 ?_)
  replace hA : RA G h2 x z (frU u p) E X ov lv sf := hA2
  have hK := hK1.trans hK2
  refine y_istore dX6_answerToOpen_34 rfl lvs_5_4 ?_
  refine x_aload_n dX6_answerToOpen_36 rfl rfl ?_
  replace hreq := hreq.kept hK.kp
  replace hd := hd.kept hK.kp
  refine x_wf (fun hwf hob hbn => ?_)
  obtain ⟨so, oo, hrc⟩ := hreq.cell
  have hrl := hwf _ _ hrc
  have hzh := hA.zh
  have hr2 := hr.after hK (k2 := 3) (by omega)
  refine nw_X6_96 rfl dX6_answerToOpen_37 (hr2.c (by omega)) (hr2.s (by omega)) ?_
  refine x_dup dX6_answerToOpen_40 rfl ?_
  refine x_iload_n dX6_answerToOpen_41 rfl ?_
  refine x_aload_n dX6_answerToOpen_42 rfl rfl ?_
  refine gf_X6_202_7 rfl dX6_answerToOpen_43 (by first | exact hA.pe hp | exact hA.f (by omega) | exact hA.ob | first | assumption | exact hput_self _ _ _ | exact hnew_self _ _ _ | (rw [hput_ne _ _ _ (by first | assumption | omega | (apply Ne.symm; assumption))]; first | assumption | exact hput_self _ _ _ | exact hnew_self _ _ _ | (rw [hput_ne _ _ _ (by first | assumption | omega | (apply Ne.symm; assumption))]; first | assumption | exact hput_self _ _ _ | exact hnew_self _ _ _) | (rw [hnew_ne _ _ _ (by first | assumption | omega | (apply Ne.symm; assumption))]; first | assumption | exact hput_self _ _ _ | exact hnew_self _ _ _)) | (rw [hnew_ne _ _ _ (by first | assumption | omega | (apply Ne.symm; assumption))]; first | assumption | exact hput_self _ _ _ | exact hnew_self _ _ _ | (rw [hput_ne _ _ _ (by first | assumption | omega | (apply Ne.symm; assumption))]; first | assumption | exact hput_self _ _ _ | exact hnew_self _ _ _) | (rw [hnew_ne _ _ _ (by first | assumption | omega | (apply Ne.symm; assumption))]; first | assumption | exact hput_self _ _ _ | exact hnew_self _ _ _))) ?_
  refine x_aload_n dX6_answerToOpen_46 rfl rfl ?_
  refine x_iconst (v := nI 0) dX6_answerToOpen_47 (by decide) ?_
  refine x_iconst (v := nI 0) dX6_answerToOpen_48 (by decide) ?_
  refine x_aload_n dX6_answerToOpen_49 rfl rfl ?_
  refine gf_X6_203_7 rfl dX6_answerToOpen_50 (by first | exact hA.pe hp | exact hA.f (by omega) | exact hA.ob | first | assumption | exact hput_self _ _ _ | exact hnew_self _ _ _ | (rw [hput_ne _ _ _ (by first | assumption | omega | (apply Ne.symm; assumption))]; first | assumption | exact hput_self _ _ _ | exact hnew_self _ _ _ | (rw [hput_ne _ _ _ (by first | assumption | omega | (apply Ne.symm; assumption))]; first | assumption | exact hput_self _ _ _ | exact hnew_self _ _ _) | (rw [hnew_ne _ _ _ (by first | assumption | omega | (apply Ne.symm; assumption))]; first | assumption | exact hput_self _ _ _ | exact hnew_self _ _ _)) | (rw [hnew_ne _ _ _ (by first | assumption | omega | (apply Ne.symm; assumption))]; first | assumption | exact hput_self _ _ _ | exact hnew_self _ _ _ | (rw [hput_ne _ _ _ (by first | assumption | omega | (apply Ne.symm; assumption))]; first | assumption | exact hput_self _ _ _ | exact hnew_self _ _ _) | (rw [hnew_ne _ _ _ (by first | assumption | omega | (apply Ne.symm; assumption))]; first | assumption | exact hput_self _ _ _ | exact hnew_self _ _ _))) ?_
  refine x_iload dX6_answerToOpen_53 rfl ?_
  refine x_callS dX6_answerToOpen_55 ss_X6_206 (Nat.le_of_ble_eq_true rfl) rfl (Nat.le_of_ble_eq_true rfl) rfl ?_
  refine c_min (kc_v dr_2 ?_)
  rw [mn_eq]
  refine x_callI dX6_answerToOpen_58 si_X6_212 rfl rfl (Nat.le_of_ble_eq_true rfl) rfl ?_
  refine c_childInit (b := false) (hnew_self _ _ _) (kc_n dr_7 ?_)
  rw [hput_hnew]
  obtain ⟨hA3, hK3⟩ := hA.mk1 hwf (.inr (2, [.int (u.mk p), .int (pk 4), .ref da, .int (nI 0), .int (bI false), .int (mnI (pk 5) (n16 (nxN (u.no p))))])) 6 (by omega)
  replace hA := hA3
  replace hK := hK.trans hK3
  refine x_callV dX6_answerToOpen_61 sv_X6_215_6 rfl (by first | exact hA.pe hp | exact hA.f (by omega) | exact hA.ob | first | assumption | exact hput_self _ _ _ | exact hnew_self _ _ _ | (rw [hput_ne _ _ _ (by first | assumption | omega | (apply Ne.symm; assumption))]; first | assumption | exact hput_self _ _ _ | exact hnew_self _ _ _ | (rw [hput_ne _ _ _ (by first | assumption | omega | (apply Ne.symm; assumption))]; first | assumption | exact hput_self _ _ _ | exact hnew_self _ _ _) | (rw [hnew_ne _ _ _ (by first | assumption | omega | (apply Ne.symm; assumption))]; first | assumption | exact hput_self _ _ _ | exact hnew_self _ _ _)) | (rw [hnew_ne _ _ _ (by first | assumption | omega | (apply Ne.symm; assumption))]; first | assumption | exact hput_self _ _ _ | exact hnew_self _ _ _ | (rw [hput_ne _ _ _ (by first | assumption | omega | (apply Ne.symm; assumption))]; first | assumption | exact hput_self _ _ _ | exact hnew_self _ _ _) | (rw [hnew_ne _ _ _ (by first | assumption | omega | (apply Ne.symm; assumption))]; first | assumption | exact hput_self _ _ _ | exact hnew_self _ _ _))) rfl (Nat.le_of_ble_eq_true rfl) rfl ?_
  refine k_keep (kd := kdL (u.mk p) (pk 4) s lo hi (nI 0) (nI 0) (mnI (pk 5) (n16 (nxN (u.no p))))) hA hp ⟨hzh, ⟨da, hnew_self _ _ _, hd.kept hK3.kp⟩, false, rfl⟩ (Nat.le_of_lt hl) (hr.after hK (by omega)) (fun h4 E4 X4 hA4 hK4 => kc_n dr_2 ?_)
  rw [kiIn, if_pos (show ((frU u p).ki p).length < 16 from hl)] at hA4
  replace hA := hA4
  replace hreq := hreq.kept (hK3.trans hK4).kp
  replace hd := hd.kept (hK3.trans hK4).kp
  replace hK := hK.trans hK4
  refine x_wf (fun hwf hob hbn => ?_)
  obtain ⟨so, oo, hrc⟩ := hreq.cell
  have hrl := hwf _ _ hrc
  have hzh := hA.zh
  have hr4 := hr.after hK (k2 := 1) (by omega)
  refine nw_X6_170 rfl dX6_answerToOpen_64 (hr4.c (by omega)) (hr4.s (by omega)) ?_
  refine x_dup dX6_answerToOpen_67 rfl ?_
  refine x_aload_n dX6_answerToOpen_68 rfl rfl ?_
  refine x_iconst (v := nI 0) dX6_answerToOpen_69 (by decide) ?_
  refine x_iload_n dX6_answerToOpen_70 rfl ?_
  refine x_iload dX6_answerToOpen_71 rfl ?_
  refine x_aload_n dX6_answerToOpen_73 rfl rfl ?_
  refine x_callI dX6_answerToOpen_74 si_X6_219 rfl rfl (Nat.le_of_ble_eq_true rfl) rfl ?_
  refine c_ansInit (b := false) (dv := some da) (hnew_self _ _ _) (by rw [hnew_ne _ _ _ (by omega)]; exact hrc) (kc_n dr_6 ?_)
  rw [hput_hnew]
  refine x_areturn dX6_answerToOpen_77 rfl (by first | exact Or.inl ⟨_, rfl⟩ | exact Or.inr ⟨_, rfl⟩) (by first | exact Or.inr ⟨_, rfl⟩ | exact Or.inl rfl | assumption) ?_
  obtain ⟨f1, f2⟩ := hA.mk1 hwf (.inr (1, [.int (pk 1), .int (pk 2), .int (u.mk p), .int (n16 (nxN (u.no p))), .int (bI false), .ref da])) 6 (by omega)
  refine hq _ _ _ _ f1 ((hK.trans f2).mono (by omega)) ⟨hzh, rfl, rfl, false, some da, rfl, ?_, (fun _ _ => ⟨da, rfl, hd.kept f2.kp⟩), fun _ => rfl⟩
  rw [hk2]
  exact hnew_self _ _ _
theorem k_answerToOpen {r : Nat} {pk : Nat → Int32} (hA : RA G h x z u E X ov lv sf) (hp : p < 2) (hreq : reqO h z r pk) (h2 : pk 2 = 0) (hl : (u.ki p).length ≤ 16) (hr : Rm G 4 h) (hq : ∀ h' E' X' a, RA G h' x z (ansOpen u p pk (offOf pk)).1 E' X' ov lv sf → KC x z 4 h h' → ansW h' z a (ansOpen u p pk (offOf pk)).2 → Q (.returned (some (.ref a))) h') : Cx G mX6_answerToOpen (d + 9) [.ref (aP x p), .ref r] h Q := by
  show Jx G mX6_answerToOpen (d + 9) Q 0 [some (.ref (aP x p)), some (.ref r), none, none, none] [] h
  obtain ⟨oa, hrc, hof⟩ : ∃ oa, h.1 r = some (.inr (7, [.int (pk 1), .int (pk 2), .int (pk 4), .int (pk 5), .null, .ref oa])) ∧ offO h z oa pk := by
    obtain ⟨-, -, -, ⟨-, -, oa, h1, h3⟩ | ⟨q, -⟩⟩ := hreq
    · exact ⟨oa, h1, h3⟩
    · rw [h2] at q
      rcases q with q | q
      · exact absurd q (by decide)
      · exact absurd q (by decide)
  have hno : pk 2 ≠ nI 2 := by rw [h2]; decide
  unfold ansOpen ansO at hq
  refine x_aload_n dX6_answerToOpen_0 rfl rfl ?_
  refine x_aload_n dX6_answerToOpen_1 rfl rfl ?_
  refine gf_X6_187_7 rfl dX6_answerToOpen_2 (by first | exact hA.pe hp | exact hA.f (by omega) | exact hA.ob | first | assumption | exact hput_self _ _ _ | exact hnew_self _ _ _ | (rw [hput_ne _ _ _ (by first | assumption | omega | (apply Ne.symm; assumption))]; first | assumption | exact hput_self _ _ _ | exact hnew_self _ _ _ | (rw [hput_ne _ _ _ (by first | assumption | omega | (apply Ne.symm; assumption))]; first | assumption | exact hput_self _ _ _ | exact hnew_self _ _ _) | (rw [hnew_ne _ _ _ (by first | assumption | omega | (apply Ne.symm; assumption))]; first | assumption | exact hput_self _ _ _ | exact hnew_self _ _ _)) | (rw [hnew_ne _ _ _ (by first | assumption | omega | (apply Ne.symm; assumption))]; first | assumption | exact hput_self _ _ _ | exact hnew_self _ _ _ | (rw [hput_ne _ _ _ (by first | assumption | omega | (apply Ne.symm; assumption))]; first | assumption | exact hput_self _ _ _ | exact hnew_self _ _ _) | (rw [hnew_ne _ _ _ (by first | assumption | omega | (apply Ne.symm; assumption))]; first | assumption | exact hput_self _ _ _ | exact hnew_self _ _ _))) ?_
  refine x_callV dX6_answerToOpen_5 sv_X6_191_6 rfl (by first | exact hA.pe hp | exact hA.f (by omega) | exact hA.ob | first | assumption | exact hput_self _ _ _ | exact hnew_self _ _ _ | (rw [hput_ne _ _ _ (by first | assumption | omega | (apply Ne.symm; assumption))]; first | assumption | exact hput_self _ _ _ | exact hnew_self _ _ _ | (rw [hput_ne _ _ _ (by first | assumption | omega | (apply Ne.symm; assumption))]; first | assumption | exact hput_self _ _ _ | exact hnew_self _ _ _) | (rw [hnew_ne _ _ _ (by first | assumption | omega | (apply Ne.symm; assumption))]; first | assumption | exact hput_self _ _ _ | exact hnew_self _ _ _)) | (rw [hnew_ne _ _ _ (by first | assumption | omega | (apply Ne.symm; assumption))]; first | assumption | exact hput_self _ _ _ | exact hnew_self _ _ _ | (rw [hput_ne _ _ _ (by first | assumption | omega | (apply Ne.symm; assumption))]; first | assumption | exact hput_self _ _ _ | exact hnew_self _ _ _) | (rw [hnew_ne _ _ _ (by first | assumption | omega | (apply Ne.symm; assumption))]; first | assumption | exact hput_self _ _ _ | exact hnew_self _ _ _))) rfl (Nat.le_of_ble_eq_true rfl) rfl ?_
  refine k_dealOn hA hp hof (hr.after (KC.rf x z h) (by omega)) (fun h1 da q1 q2 hA1 hK1 hd => kc_v dr_2 ?_) (fun q => kc_v dr_2 ?_)
  · replace hA := hA1
    refine y_astore_n dX6_answerToOpen_8 rfl rfl lvs_5_2 ?_
    refine x_aload_n (v := va_rf (some da)) dX6_answerToOpen_9 rfl rfl ?_
    refine x_ifnull (tgt := 20) dX6_answerToOpen_10 (by decide) (fun c1 => ?_) (fun c1a c1 => ?_)
    · cases c1
    refine x_aload_n dX6_answerToOpen_13 rfl rfl ?_
    refine x_callV dX6_answerToOpen_14 sv_X6_195_6 rfl (by first | exact hA.pe hp | exact hA.f (by omega) | exact hA.ob | first | assumption | exact hput_self _ _ _ | exact hnew_self _ _ _ | (rw [hput_ne _ _ _ (by first | assumption | omega | (apply Ne.symm; assumption))]; first | assumption | exact hput_self _ _ _ | exact hnew_self _ _ _ | (rw [hput_ne _ _ _ (by first | assumption | omega | (apply Ne.symm; assumption))]; first | assumption | exact hput_self _ _ _ | exact hnew_self _ _ _) | (rw [hnew_ne _ _ _ (by first | assumption | omega | (apply Ne.symm; assumption))]; first | assumption | exact hput_self _ _ _ | exact hnew_self _ _ _)) | (rw [hnew_ne _ _ _ (by first | assumption | omega | (apply Ne.symm; assumption))]; first | assumption | exact hput_self _ _ _ | exact hnew_self _ _ _ | (rw [hput_ne _ _ _ (by first | assumption | omega | (apply Ne.symm; assumption))]; first | assumption | exact hput_self _ _ _ | exact hnew_self _ _ _) | (rw [hnew_ne _ _ _ (by first | assumption | omega | (apply Ne.symm; assumption))]; first | assumption | exact hput_self _ _ _ | exact hnew_self _ _ _))) rfl (Nat.le_of_ble_eq_true rfl) rfl ?_
    refine k_isFull hA hp hl (kc_v dr_1 ?_)
    by_cases h16 : (u.ki p).length = 16
    · rw [decide_eq_true h16]
      refine x_if_eq (tgt := 25) dX6_answerToOpen_17 (by decide) (fun c2 => ?_) (fun c2 => ?_)
      · exact absurd c2 (by decide)
      refine x_aload_n dX6_answerToOpen_20 rfl rfl ?_
      refine x_callS dX6_answerToOpen_21 ss_X6_199 (Nat.le_of_ble_eq_true rfl) rfl (Nat.le_of_ble_eq_true rfl) rfl ?_
      refine k_no hA (hreq.kept hK1.kp) hno (hr.after hK1 (by omega)) (fun h3 a q3 q4 q5 => kc_v dr_1 ?_)
      refine x_areturn dX6_answerToOpen_24 rfl (by first | exact Or.inl ⟨_, rfl⟩ | exact Or.inr ⟨_, rfl⟩) (by first | exact Or.inr ⟨_, rfl⟩ | exact Or.inl rfl | assumption) ?_
      rw [if_pos (Or.inr (Or.inr h16))] at hq
      rw [h2] at q5
      exact hq _ _ _ _ q3 ((hK1.trans q4).mono (by omega)) q5
    · rw [decide_eq_false h16]
      refine x_if_eq (tgt := 25) dX6_answerToOpen_17 (by decide) (fun c2 => ?_) (fun c2 => ?_)
      · rw [if_neg (by simp [q1, q2, h16])] at hq
        exact k_ao_yes hA hp (hreq.kept hK1.kp) h2 hd (by omega) (hr.after hK1 (by omega)) (fun h3 E3 X3 a q3 q4 q5 => hq _ _ _ _ q3 ((hK1.trans q4).mono (by omega)) q5)
      · exact absurd rfl c2
  · refine y_astore_n dX6_answerToOpen_8 rfl rfl lvs_5_2 ?_
    refine x_aload_n (v := va_rf none) dX6_answerToOpen_9 rfl rfl ?_
    refine x_ifnull (tgt := 20) dX6_answerToOpen_10 (by decide) (fun c1 => ?_) (fun c1a c1 => ?_)
    · refine x_aload_n dX6_answerToOpen_20 rfl rfl ?_
      refine x_callS dX6_answerToOpen_21 ss_X6_199 (Nat.le_of_ble_eq_true rfl) rfl (Nat.le_of_ble_eq_true rfl) rfl ?_
      refine k_no hA hreq hno (hr.after (KC.rf x z h) (by omega)) (fun h3 a q3 q4 q5 => kc_v dr_1 ?_)
      refine x_areturn dX6_answerToOpen_24 rfl (by first | exact Or.inl ⟨_, rfl⟩ | exact Or.inr ⟨_, rfl⟩) (by first | exact Or.inr ⟨_, rfl⟩ | exact Or.inl rfl | assumption) ?_
      rw [if_pos (by rcases q with q | q <;> simp [q])] at hq
      rw [h2] at q5
      exact hq _ _ _ _ q3 (q4.mono (by omega)) q5
    · cases c1
end K8X
