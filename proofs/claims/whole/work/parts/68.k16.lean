theorem J1.len {u : Ut} {B p : Nat} (h : J1 u B) (hp : p < 2) : (u.ki p).length ≤ 16 ∧ (u.fl p).length ≤ 30 := by
  obtain ⟨K, c, h1, h2⟩ := h
  exact ⟨(h1 p hp).2.1.1, (h1 p hp).2.2.2.1.1⟩
theorem Rm.mono {G : GT} {k k2 : Nat} {h : Hp} (hr : Rm G k h) (hk : k2 ≤ k) : Rm G k2 h := by
  obtain ⟨r1, r2⟩ := hr
  exact ⟨by omega, by omega⟩
theorem TiOK.ex {o : Option (Nat → Int32)} {wt se sp : Int32} (h : TiOK o wt se sp) : ∃ w s, o.isSome = true → wt = nI w ∧ 0 < w ∧ w < 2 ^ 31 ∧ se = nI s ∧ s ≤ 5 := by
  by_cases e : o.isSome = true
  · obtain ⟨w, s, e1, e2, e3, e4, e5, e6, e7⟩ := h e
    exact ⟨w, s, fun _ => ⟨e1, e2, by omega, e4, e6⟩⟩
  · exact ⟨0, 0, fun q => absurd q e⟩
theorem agrJ_no {a : Nat → Int32} : ∀ (l : List (Nat → Int32)) (n : Int32), (∀ c ∈ l, sameK a c = false) → agrJ a l n = n
  | [], n, _ => rfl
  | b :: t, n, h => by
    show agrJ a t (if sameK a b = true then n + nI 1 else n) = n
    rw [h b (List.mem_cons_self ..)]
    exact agrJ_no t n (fun c hc => h c (List.mem_cons_of_mem _ hc))
theorem agrJ_one {a : Nat → Int32} : ∀ (l : List (Nat → Int32)) (n : Int32), l.Pairwise (fun a b => a 0 ≠ b 0) → agrJ a l n = if l.any (fun b => sameK a b) = true then n + nI 1 else n
  | [], n, _ => rfl
  | b :: t, n, h => by
    obtain ⟨h1, h2⟩ := List.pairwise_cons.mp h
    show agrJ a t (if sameK a b = true then n + nI 1 else n) = _
    rw [List.any_cons]
    by_cases e : sameK a b = true
    · rw [if_pos e, e, Bool.true_or, if_pos rfl]
      refine agrJ_no t _ (fun c hc => ?_)
      have e1 := of_decide_eq_true e
      refine decide_eq_false (fun q => h1 c hc ?_)
      exact e1.2.1.symm.trans q.2.1
    · rw [if_neg e, Bool.eq_false_iff.mpr e, Bool.false_or]
      exact agrJ_one t n h2
theorem clrP_is (u : Ut) (p : Nat) : clrP u p = (va_up u.su p [], va_up u.lo p (nI 0), va_up u.hi p (nI 1000), va_up u.no p (nI p), va_up u.mk p (nI (p + 1)), va_up u.ki p [], va_up u.wi p [], va_up u.de p false, va_up u.ou p none, u.se, u.wt, u.sp, va_up u.nn p 0, va_up u.na p 0, u.la, u.fl) := by
  rcases u with ⟨a1, a2, a3, a4, a5, a6, a7, a8, a9, a10, a11, a12, a13, a14, a15, a16⟩
  simp only [clrP, Ut.w_su, Ut.w_lo, Ut.w_hi, Ut.w_no, Ut.w_mk, Ut.w_ki, Ut.w_wi, Ut.w_de, Ut.w_ou, Ut.w_nn, Ut.w_na]
theorem clrU_is (u : Ut) (p : Nat) : clrU u p = (va_up u.su p [], va_up u.lo p (nI 0), va_up u.hi p (nI 1000), va_up u.no p (nI p), va_up u.mk p (nI (p + 1)), va_up u.ki p [], va_up u.wi p [], va_up u.de p false, va_up u.ou p none, u.se, u.wt, u.sp, va_up u.nn p 0, va_up u.na p 0, u.la, va_up u.fl p []) := by
  rcases u with ⟨a1, a2, a3, a4, a5, a6, a7, a8, a9, a10, a11, a12, a13, a14, a15, a16⟩
  simp only [clrU, Ut.w_su, Ut.w_lo, Ut.w_hi, Ut.w_no, Ut.w_mk, Ut.w_ki, Ut.w_wi, Ut.w_de, Ut.w_ou, Ut.w_nn, Ut.w_na, Ut.w_fl]
theorem clr_eq (u : Ut) : clrP (clrP ((u.w_fl 0 []).w_fl 1 []) 0) 1 = clrU (clrU u 0) 1 := by
  rcases u with ⟨a1, a2, a3, a4, a5, a6, a7, a8, a9, a10, a11, a12, a13, a14, a15, a16⟩
  have e0 : Ut.w_fl (a1, a2, a3, a4, a5, a6, a7, a8, a9, a10, a11, a12, a13, a14, a15, a16) 0 [] = (a1, a2, a3, a4, a5, a6, a7, a8, a9, a10, a11, a12, a13, a14, a15, va_up a16 0 []) := rfl
  have e1 : Ut.w_fl (a1, a2, a3, a4, a5, a6, a7, a8, a9, a10, a11, a12, a13, a14, a15, va_up a16 0 []) 1 [] = (a1, a2, a3, a4, a5, a6, a7, a8, a9, a10, a11, a12, a13, a14, a15, va_up (va_up a16 0 []) 1 []) := rfl
  have e2 := clrP_is (a1, a2, a3, a4, a5, a6, a7, a8, a9, a10, a11, a12, a13, a14, a15, va_up (va_up a16 0 []) 1 []) 0
  have e4 := clrU_is (a1, a2, a3, a4, a5, a6, a7, a8, a9, a10, a11, a12, a13, a14, a15, a16) 0
  dsimp only [Ut.su, Ut.lo, Ut.hi, Ut.no, Ut.mk, Ut.ki, Ut.wi, Ut.de, Ut.ou, Ut.se, Ut.wt, Ut.sp, Ut.nn, Ut.na, Ut.la, Ut.fl] at e2 e4
  have e3 := clrP_is (va_up a1 0 [], va_up a2 0 (nI 0), va_up a3 0 (nI 1000), va_up a4 0 (nI 0), va_up a5 0 (nI (0 + 1)), va_up a6 0 [], va_up a7 0 [], va_up a8 0 false, va_up a9 0 none, a10, a11, a12, va_up a13 0 0, va_up a14 0 0, a15, va_up (va_up a16 0 []) 1 []) 1
  have e5 := clrU_is (va_up a1 0 [], va_up a2 0 (nI 0), va_up a3 0 (nI 1000), va_up a4 0 (nI 0), va_up a5 0 (nI (0 + 1)), va_up a6 0 [], va_up a7 0 [], va_up a8 0 false, va_up a9 0 none, a10, a11, a12, va_up a13 0 0, va_up a14 0 0, a15, va_up a16 0 []) 1
  dsimp only [Ut.su, Ut.lo, Ut.hi, Ut.no, Ut.mk, Ut.ki, Ut.wi, Ut.de, Ut.ou, Ut.se, Ut.wt, Ut.sp, Ut.nn, Ut.na, Ut.la, Ut.fl] at e3 e5
  rw [e0, e1, e2, e3, e4, e5]
theorem clr_na (u : Ut) (q : Nat) (hq : q < 2) : (clrU (clrU u 0) 1).na q = 0 := by
  rw [clrU_is, clrU_is]
  show va_up (va_up u.na 0 0) 1 0 q = 0
  rcases (show q = 0 ∨ q = 1 by omega) with rfl | rfl <;> rfl
section K16X
variable {G : GT} {d B : Nat} {Q : Outcome → Hp → Prop} {h : Hp} {x z p : Nat} {u : Ut} {E : Nat → Nat → Nat} {X : Nat → Nat → List Nat} {ov lv : Nat → Option Nat} {sf : Nat → Nat → Int32}
theorem k_takeWishes (hA : RA G h x z u E X ov lv sf) (hJ : J1 u B) (hB : B < 2 ^ 27) (hw : ∀ p, p < 2 → (u.wi p).length ≤ 10 ∨ ((u.wi p).length ≤ 11 ∧ u.ou p = none ∧ u.de p = false)) (hr : Rm G 8 h) (hq : ∀ h' E' X' ov', RA G h' x z (takeU u) E' X' ov' lv sf → KC x z 8 h h' → Q (.returned none) h') : Cx G mX9_takeWishes (d + 10) [.ref x] h Q := by
  show Jx G mX9_takeWishes (d + 10) Q 0 [some (.ref x)] [] h
  obtain ⟨-, hJ1, hw1⟩ := Inv.take hJ hB hw
  have hw0 : (u.wi 0).length ≤ 30 := by rcases hw 0 (by omega) with e | e <;> omega
  have hc0 := hA.pe (p := 0) (by omega)
  refine x_aload_n dX9_takeWishes_0 rfl rfl ?_
  refine gf_X9_24_9 rfl dX9_takeWishes_1 (by first | exact hA.pe hp | exact hA.f (by omega) | exact hA.ob | first | assumption | exact hput_self _ _ _ | exact hnew_self _ _ _ | (rw [hput_ne _ _ _ (by first | assumption | omega | (apply Ne.symm; assumption))]; first | assumption | exact hput_self _ _ _ | exact hnew_self _ _ _ | (rw [hput_ne _ _ _ (by first | assumption | omega | (apply Ne.symm; assumption))]; first | assumption | exact hput_self _ _ _ | exact hnew_self _ _ _) | (rw [hnew_ne _ _ _ (by first | assumption | omega | (apply Ne.symm; assumption))]; first | assumption | exact hput_self _ _ _ | exact hnew_self _ _ _)) | (rw [hnew_ne _ _ _ (by first | assumption | omega | (apply Ne.symm; assumption))]; first | assumption | exact hput_self _ _ _ | exact hnew_self _ _ _ | (rw [hput_ne _ _ _ (by first | assumption | omega | (apply Ne.symm; assumption))]; first | assumption | exact hput_self _ _ _ | exact hnew_self _ _ _) | (rw [hnew_ne _ _ _ (by first | assumption | omega | (apply Ne.symm; assumption))]; first | assumption | exact hput_self _ _ _ | exact hnew_self _ _ _))) ?_
  refine x_callV dX9_takeWishes_4 sv_X9_153_6 rfl (by first | exact hA.pe hp | exact hA.f (by omega) | exact hA.ob | first | assumption | exact hput_self _ _ _ | exact hnew_self _ _ _ | (rw [hput_ne _ _ _ (by first | assumption | omega | (apply Ne.symm; assumption))]; first | assumption | exact hput_self _ _ _ | exact hnew_self _ _ _ | (rw [hput_ne _ _ _ (by first | assumption | omega | (apply Ne.symm; assumption))]; first | assumption | exact hput_self _ _ _ | exact hnew_self _ _ _) | (rw [hnew_ne _ _ _ (by first | assumption | omega | (apply Ne.symm; assumption))]; first | assumption | exact hput_self _ _ _ | exact hnew_self _ _ _)) | (rw [hnew_ne _ _ _ (by first | assumption | omega | (apply Ne.symm; assumption))]; first | assumption | exact hput_self _ _ _ | exact hnew_self _ _ _ | (rw [hput_ne _ _ _ (by first | assumption | omega | (apply Ne.symm; assumption))]; first | assumption | exact hput_self _ _ _ | exact hnew_self _ _ _) | (rw [hnew_ne _ _ _ (by first | assumption | omega | (apply Ne.symm; assumption))]; first | assumption | exact hput_self _ _ _ | exact hnew_self _ _ _))) rfl (Nat.le_of_ble_eq_true rfl) rfl ?_
  refine k_takeTill hA (by omega) hw0 (hJ.len (by omega)).1 (hJ.len (by omega)).2 (hr.mono (by omega)) (fun h1 E1 X1 ov1 hA1 hK1 => kc_n dr_1 ?_)
  replace hA := hA1
  have hc1 := hA.pe (p := 1) (by omega)
  refine x_aload_n dX9_takeWishes_7 rfl rfl ?_
  refine gf_X9_28_9 rfl dX9_takeWishes_8 (by first | exact hA.pe hp | exact hA.f (by omega) | exact hA.ob | first | assumption | exact hput_self _ _ _ | exact hnew_self _ _ _ | (rw [hput_ne _ _ _ (by first | assumption | omega | (apply Ne.symm; assumption))]; first | assumption | exact hput_self _ _ _ | exact hnew_self _ _ _ | (rw [hput_ne _ _ _ (by first | assumption | omega | (apply Ne.symm; assumption))]; first | assumption | exact hput_self _ _ _ | exact hnew_self _ _ _) | (rw [hnew_ne _ _ _ (by first | assumption | omega | (apply Ne.symm; assumption))]; first | assumption | exact hput_self _ _ _ | exact hnew_self _ _ _)) | (rw [hnew_ne _ _ _ (by first | assumption | omega | (apply Ne.symm; assumption))]; first | assumption | exact hput_self _ _ _ | exact hnew_self _ _ _ | (rw [hput_ne _ _ _ (by first | assumption | omega | (apply Ne.symm; assumption))]; first | assumption | exact hput_self _ _ _ | exact hnew_self _ _ _) | (rw [hnew_ne _ _ _ (by first | assumption | omega | (apply Ne.symm; assumption))]; first | assumption | exact hput_self _ _ _ | exact hnew_self _ _ _))) ?_
  refine x_callV dX9_takeWishes_11 sv_X9_153_6 rfl (by first | exact hA.pe hp | exact hA.f (by omega) | exact hA.ob | first | assumption | exact hput_self _ _ _ | exact hnew_self _ _ _ | (rw [hput_ne _ _ _ (by first | assumption | omega | (apply Ne.symm; assumption))]; first | assumption | exact hput_self _ _ _ | exact hnew_self _ _ _ | (rw [hput_ne _ _ _ (by first | assumption | omega | (apply Ne.symm; assumption))]; first | assumption | exact hput_self _ _ _ | exact hnew_self _ _ _) | (rw [hnew_ne _ _ _ (by first | assumption | omega | (apply Ne.symm; assumption))]; first | assumption | exact hput_self _ _ _ | exact hnew_self _ _ _)) | (rw [hnew_ne _ _ _ (by first | assumption | omega | (apply Ne.symm; assumption))]; first | assumption | exact hput_self _ _ _ | exact hnew_self _ _ _ | (rw [hput_ne _ _ _ (by first | assumption | omega | (apply Ne.symm; assumption))]; first | assumption | exact hput_self _ _ _ | exact hnew_self _ _ _) | (rw [hnew_ne _ _ _ (by first | assumption | omega | (apply Ne.symm; assumption))]; first | assumption | exact hput_self _ _ _ | exact hnew_self _ _ _))) rfl (Nat.le_of_ble_eq_true rfl) rfl ?_
  refine k_takeTill hA (by omega) (by omega) (hJ1.len (by omega)).1 (hJ1.len (by omega)).2 (hr.after hK1 (by omega)) (fun h2 E2 X2 ov2 hA2 hK2 => kc_n dr_1 ?_)
  refine x_vreturn dX9_takeWishes_14 rfl ?_
  exact hq _ _ _ _ hA2 (hK1.trans hK2)
theorem k_wish_88 {a kind k mark : Int32} (hA : RA G h x z u E X ov lv sf) (hlv : lvOK lv u) (hp : p < 2) (hI : Inv u B) (hB : B < 2 ^ 26) (hk : kind = 0 ∨ kind = nI 1 ∨ kind = nI 2) (hl : (u.wi p).length < 10) (hr : Rm G 10 h) (hq : ∀ h' E' X' ov' lv' sf', RA G h' x z (takeU (u.w_wi p (u.wi p ++ [(kind, mark)]))) E' X' ov' lv' sf' → lvOK lv' (takeU (u.w_wi p (u.wi p ++ [(kind, mark)]))) → KC x z 10 h h' → Q (.returned (some (.int (nI ((u.wi p).length + 1))))) h') : Jx G mX9_wish (d + 11) Q 88 [some (.ref x), some (.int a), some (.int kind), some (.int k), some (.ref (aP x p)), some (.int mark), none] [] h := by
  refine x_wf (fun hwf hob hbn => ?_)
  have hzh := hA.zh
  refine x_aload dX9_wish_88 rfl rfl ?_
  refine gf_X9_78_6 rfl dX9_wish_90 (by first | exact hA.pe hp | exact hA.f (by omega) | exact hA.ob | first | assumption | exact hput_self _ _ _ | exact hnew_self _ _ _ | (rw [hput_ne _ _ _ (by first | assumption | omega | (apply Ne.symm; assumption))]; first | assumption | exact hput_self _ _ _ | exact hnew_self _ _ _ | (rw [hput_ne _ _ _ (by first | assumption | omega | (apply Ne.symm; assumption))]; first | assumption | exact hput_self _ _ _ | exact hnew_self _ _ _) | (rw [hnew_ne _ _ _ (by first | assumption | omega | (apply Ne.symm; assumption))]; first | assumption | exact hput_self _ _ _ | exact hnew_self _ _ _)) | (rw [hnew_ne _ _ _ (by first | assumption | omega | (apply Ne.symm; assumption))]; first | assumption | exact hput_self _ _ _ | exact hnew_self _ _ _ | (rw [hput_ne _ _ _ (by first | assumption | omega | (apply Ne.symm; assumption))]; first | assumption | exact hput_self _ _ _ | exact hnew_self _ _ _) | (rw [hnew_ne _ _ _ (by first | assumption | omega | (apply Ne.symm; assumption))]; first | assumption | exact hput_self _ _ _ | exact hnew_self _ _ _))) ?_
  refine nw_X9_88 rfl dX9_wish_93 (hr.c (by omega)) (hr.s (by omega)) ?_
  refine x_dup dX9_wish_96 rfl ?_
  refine x_iload_n dX9_wish_97 rfl ?_
  refine x_iload dX9_wish_98 rfl ?_
  refine x_callI dX9_wish_100 si_X9_90 rfl rfl (Nat.le_of_ble_eq_true rfl) rfl ?_
  refine c_wishInit (hnew_self _ _ _) (kc_n dr_3 ?_)
  rw [hput_hnew]
  obtain ⟨hA1, hK1⟩ := hA.mk1 hwf (.inr (8, [.int kind, .int mark])) 2 (by omega)
  replace hA := hA1
  obtain ⟨m1, hm1⟩ := (hA.l (c := 2) (by omega) hp).sh
  refine x_callF dX9_wish_103 sf_X9_93_0 rfl (by first | exact hA.pe hp | exact hA.f (by omega) | exact hA.ob | first | assumption | exact hput_self _ _ _ | exact hnew_self _ _ _ | (rw [hput_ne _ _ _ (by first | assumption | omega | (apply Ne.symm; assumption))]; first | assumption | exact hput_self _ _ _ | exact hnew_self _ _ _ | (rw [hput_ne _ _ _ (by first | assumption | omega | (apply Ne.symm; assumption))]; first | assumption | exact hput_self _ _ _ | exact hnew_self _ _ _) | (rw [hnew_ne _ _ _ (by first | assumption | omega | (apply Ne.symm; assumption))]; first | assumption | exact hput_self _ _ _ | exact hnew_self _ _ _)) | (rw [hnew_ne _ _ _ (by first | assumption | omega | (apply Ne.symm; assumption))]; first | assumption | exact hput_self _ _ _ | exact hnew_self _ _ _ | (rw [hput_ne _ _ _ (by first | assumption | omega | (apply Ne.symm; assumption))]; first | assumption | exact hput_self _ _ _ | exact hnew_self _ _ _) | (rw [hnew_ne _ _ _ (by first | assumption | omega | (apply Ne.symm; assumption))]; first | assumption | exact hput_self _ _ _ | exact hnew_self _ _ _))) rfl (Nat.le_of_ble_eq_true rfl) rfl ?_
  refine k_addW (w := (kind, mark)) hA hp ⟨hzh, hnew_self _ _ _, hk⟩ (by omega) (hr.after hK1 (by omega)) (fun h2 E2 X2 hA2 hK2 => kc_v dr_2 ?_)
  replace hA := hA2
  replace hK2 := hK1.trans hK2
  obtain ⟨m2, hm2⟩ := (hA.l (c := 2) (by omega) hp).sh
  refine x_pop dX9_wish_108 rfl ?_
  refine x_aload dX9_wish_109 rfl rfl ?_
  refine gf_X9_78_6 rfl dX9_wish_111 (by first | exact hA.pe hp | exact hA.f (by omega) | exact hA.ob | first | assumption | exact hput_self _ _ _ | exact hnew_self _ _ _ | (rw [hput_ne _ _ _ (by first | assumption | omega | (apply Ne.symm; assumption))]; first | assumption | exact hput_self _ _ _ | exact hnew_self _ _ _ | (rw [hput_ne _ _ _ (by first | assumption | omega | (apply Ne.symm; assumption))]; first | assumption | exact hput_self _ _ _ | exact hnew_self _ _ _) | (rw [hnew_ne _ _ _ (by first | assumption | omega | (apply Ne.symm; assumption))]; first | assumption | exact hput_self _ _ _ | exact hnew_self _ _ _)) | (rw [hnew_ne _ _ _ (by first | assumption | omega | (apply Ne.symm; assumption))]; first | assumption | exact hput_self _ _ _ | exact hnew_self _ _ _ | (rw [hput_ne _ _ _ (by first | assumption | omega | (apply Ne.symm; assumption))]; first | assumption | exact hput_self _ _ _ | exact hnew_self _ _ _) | (rw [hnew_ne _ _ _ (by first | assumption | omega | (apply Ne.symm; assumption))]; first | assumption | exact hput_self _ _ _ | exact hnew_self _ _ _))) ?_
  refine x_callF dX9_wish_114 sf_X9_82_0 rfl (by first | exact hA.pe hp | exact hA.f (by omega) | exact hA.ob | first | assumption | exact hput_self _ _ _ | exact hnew_self _ _ _ | (rw [hput_ne _ _ _ (by first | assumption | omega | (apply Ne.symm; assumption))]; first | assumption | exact hput_self _ _ _ | exact hnew_self _ _ _ | (rw [hput_ne _ _ _ (by first | assumption | omega | (apply Ne.symm; assumption))]; first | assumption | exact hput_self _ _ _ | exact hnew_self _ _ _) | (rw [hnew_ne _ _ _ (by first | assumption | omega | (apply Ne.symm; assumption))]; first | assumption | exact hput_self _ _ _ | exact hnew_self _ _ _)) | (rw [hnew_ne _ _ _ (by first | assumption | omega | (apply Ne.symm; assumption))]; first | assumption | exact hput_self _ _ _ | exact hnew_self _ _ _ | (rw [hput_ne _ _ _ (by first | assumption | omega | (apply Ne.symm; assumption))]; first | assumption | exact hput_self _ _ _ | exact hnew_self _ _ _) | (rw [hnew_ne _ _ _ (by first | assumption | omega | (apply Ne.symm; assumption))]; first | assumption | exact hput_self _ _ _ | exact hnew_self _ _ _))) rfl (Nat.le_of_ble_eq_true rfl) rfl ?_
  refine c_sizeL (hA.l (c := 2) (by omega) hp) (kc_v dr_1 ?_)
  rw [(hA.wi hp).1, show (u.w_wi p (u.wi p ++ [(kind, mark)])).wi p = u.wi p ++ [(kind, mark)] from va_up_self _ _ _, List.length_append]
  refine y_istore dX9_wish_119 rfl lvs_7_6 ?_
  refine x_aload_n dX9_wish_121 rfl rfl ?_
  refine x_callV dX9_wish_122 sv_X9_97_9 rfl (by first | exact hA.pe hp | exact hA.f (by omega) | exact hA.ob | first | assumption | exact hput_self _ _ _ | exact hnew_self _ _ _ | (rw [hput_ne _ _ _ (by first | assumption | omega | (apply Ne.symm; assumption))]; first | assumption | exact hput_self _ _ _ | exact hnew_self _ _ _ | (rw [hput_ne _ _ _ (by first | assumption | omega | (apply Ne.symm; assumption))]; first | assumption | exact hput_self _ _ _ | exact hnew_self _ _ _) | (rw [hnew_ne _ _ _ (by first | assumption | omega | (apply Ne.symm; assumption))]; first | assumption | exact hput_self _ _ _ | exact hnew_self _ _ _)) | (rw [hnew_ne _ _ _ (by first | assumption | omega | (apply Ne.symm; assumption))]; first | assumption | exact hput_self _ _ _ | exact hnew_self _ _ _ | (rw [hput_ne _ _ _ (by first | assumption | omega | (apply Ne.symm; assumption))]; first | assumption | exact hput_self _ _ _ | exact hnew_self _ _ _) | (rw [hnew_ne _ _ _ (by first | assumption | omega | (apply Ne.symm; assumption))]; first | assumption | exact hput_self _ _ _ | exact hnew_self _ _ _))) rfl (Nat.le_of_ble_eq_true rfl) rfl ?_
  refine k_takeWishes (B := B) hA hI.1 (by omega) (fun q hq => Or.inl ?_) (hr.after hK2 (by omega)) (fun h3 E3 X3 ov3 hA3 hK3 => kc_n dr_1 ?_)
  · show (va_up u.wi p (u.wi p ++ [(kind, mark)]) q).length ≤ 10
    by_cases e : q = p
    · subst e
      rw [va_up_self, List.length_append]
      simp only [List.length_singleton]
      omega
    · rw [va_up_ne _ _ e]
      exact (hI.2 q hq).1
  · refine x_iload dX9_wish_125 rfl ?_
    refine x_ireturn dX9_wish_127 rfl ?_
    refine hq _ _ _ _ _ _ hA3 ?_ (hK2.trans hK3)
    intro q hq2
    rw [show (takeU (u.w_wi p (u.wi p ++ [(kind, mark)]))).na = u.na from ((takeN_keep _ _ _).2.2.2.2.2.1.trans (takeN_keep _ _ _).2.2.2.2.2.1)]
    exact hlv q hq2
theorem k_wish_32 {a kind k mark : Int32} (hA : RA G h x z u E X ov lv sf) (hlv : lvOK lv u) (hp : p < 2) (hI : Inv u B) (hB : B < 2 ^ 26) (hr : Rm G 10 h) (hq : Kq G x z 10 h u (if kind = 0 ∨ kind = nI 1 ∨ kind = nI 2 then wishS u p kind mark else (nI 2, nI 0, u)) [11, 12, 13, 14] Q) : Jx G mX9_wish (d + 11) Q 32 [some (.ref x), some (.int a), some (.int kind), some (.int k), some (.ref (aP x p)), some (.int mark), none] [] h := by
  refine x_iload_n dX9_wish_32 rfl ?_
  refine x_if_lt (tgt := 41) dX9_wish_33 (by decide) (fun c1 => ?_) (fun c1 => ?_)
  · rw [if_neg (fun q => by rcases q with q | q | q <;> rw [q] at c1 <;> exact absurd c1 (by decide))] at hq
    exact th_X9_39 rfl dX9_wish_41 dX9_wish_44 dX9_wish_45 dX9_wish_48 rfl (by omega) (by decide) (hr.c (by omega)) (hr.s (by omega)) (hq.2 1 12 rfl rfl)
  obtain ⟨j, hj, e⟩ := nI_of c1
  refine x_iload_n dX9_wish_36 rfl ?_
  refine x_iconst (v := nI 2) dX9_wish_37 (by decide) ?_
  refine x_icmp_le (tgt := 49) dX9_wish_38 (by decide) (fun c2 => ?_) (fun c2 => ?_)
  · have hk : kind = 0 ∨ kind = nI 1 ∨ kind = nI 2 := by
      rw [e] at c2 ⊢
      have := (nI_leI hj (by omega)).mp c2
      rcases (show j = 0 ∨ j = 1 ∨ j = 2 by omega) with rfl | rfl | rfl
      · exact Or.inl rfl
      · exact Or.inr (Or.inl rfl)
      · exact Or.inr (Or.inr rfl)
    rw [if_pos hk, wishS] at hq
    refine x_aload dX9_wish_49 rfl rfl ?_
    refine gf_X9_71_6 rfl dX9_wish_51 (by first | exact hA.pe hp | exact hA.f (by omega) | exact hA.ob | first | assumption | exact hput_self _ _ _ | exact hnew_self _ _ _ | (rw [hput_ne _ _ _ (by first | assumption | omega | (apply Ne.symm; assumption))]; first | assumption | exact hput_self _ _ _ | exact hnew_self _ _ _ | (rw [hput_ne _ _ _ (by first | assumption | omega | (apply Ne.symm; assumption))]; first | assumption | exact hput_self _ _ _ | exact hnew_self _ _ _) | (rw [hnew_ne _ _ _ (by first | assumption | omega | (apply Ne.symm; assumption))]; first | assumption | exact hput_self _ _ _ | exact hnew_self _ _ _)) | (rw [hnew_ne _ _ _ (by first | assumption | omega | (apply Ne.symm; assumption))]; first | assumption | exact hput_self _ _ _ | exact hnew_self _ _ _ | (rw [hput_ne _ _ _ (by first | assumption | omega | (apply Ne.symm; assumption))]; first | assumption | exact hput_self _ _ _ | exact hnew_self _ _ _) | (rw [hnew_ne _ _ _ (by first | assumption | omega | (apply Ne.symm; assumption))]; first | assumption | exact hput_self _ _ _ | exact hnew_self _ _ _))) ?_
    refine x_if_eq (tgt := 65) dX9_wish_54 (by decide) (fun c3 => ?_) (fun c3 => ?_)
    · have hde : ¬ u.de p = true := fun q => (bI_ne.mpr q) c3
      rw [if_neg hde] at hq
      obtain ⟨m1, hm1⟩ := (hA.l (c := 2) (by omega) hp).sh
      have hw10 := (hI.2 p hp).1
      refine x_aload dX9_wish_65 rfl rfl ?_
      refine gf_X9_78_6 rfl dX9_wish_67 (by first | exact hA.pe hp | exact hA.f (by omega) | exact hA.ob | first | assumption | exact hput_self _ _ _ | exact hnew_self _ _ _ | (rw [hput_ne _ _ _ (by first | assumption | omega | (apply Ne.symm; assumption))]; first | assumption | exact hput_self _ _ _ | exact hnew_self _ _ _ | (rw [hput_ne _ _ _ (by first | assumption | omega | (apply Ne.symm; assumption))]; first | assumption | exact hput_self _ _ _ | exact hnew_self _ _ _) | (rw [hnew_ne _ _ _ (by first | assumption | omega | (apply Ne.symm; assumption))]; first | assumption | exact hput_self _ _ _ | exact hnew_self _ _ _)) | (rw [hnew_ne _ _ _ (by first | assumption | omega | (apply Ne.symm; assumption))]; first | assumption | exact hput_self _ _ _ | exact hnew_self _ _ _ | (rw [hput_ne _ _ _ (by first | assumption | omega | (apply Ne.symm; assumption))]; first | assumption | exact hput_self _ _ _ | exact hnew_self _ _ _) | (rw [hnew_ne _ _ _ (by first | assumption | omega | (apply Ne.symm; assumption))]; first | assumption | exact hput_self _ _ _ | exact hnew_self _ _ _))) ?_
      refine x_callF dX9_wish_70 sf_X9_82_0 rfl (by first | exact hA.pe hp | exact hA.f (by omega) | exact hA.ob | first | assumption | exact hput_self _ _ _ | exact hnew_self _ _ _ | (rw [hput_ne _ _ _ (by first | assumption | omega | (apply Ne.symm; assumption))]; first | assumption | exact hput_self _ _ _ | exact hnew_self _ _ _ | (rw [hput_ne _ _ _ (by first | assumption | omega | (apply Ne.symm; assumption))]; first | assumption | exact hput_self _ _ _ | exact hnew_self _ _ _) | (rw [hnew_ne _ _ _ (by first | assumption | omega | (apply Ne.symm; assumption))]; first | assumption | exact hput_self _ _ _ | exact hnew_self _ _ _)) | (rw [hnew_ne _ _ _ (by first | assumption | omega | (apply Ne.symm; assumption))]; first | assumption | exact hput_self _ _ _ | exact hnew_self _ _ _ | (rw [hput_ne _ _ _ (by first | assumption | omega | (apply Ne.symm; assumption))]; first | assumption | exact hput_self _ _ _ | exact hnew_self _ _ _) | (rw [hnew_ne _ _ _ (by first | assumption | omega | (apply Ne.symm; assumption))]; first | assumption | exact hput_self _ _ _ | exact hnew_self _ _ _))) rfl (Nat.le_of_ble_eq_true rfl) rfl ?_
      refine c_sizeL (hA.l (c := 2) (by omega) hp) (kc_v dr_1 ?_)
      rw [(hA.wi hp).1]
      refine x_bipush (v := nI 10) dX9_wish_75 (by decide) ?_
      refine x_icmp_lt (tgt := 88) dX9_wish_77 (by decide) (fun c4 => ?_) (fun c4 => ?_)
      · have l4 : (u.wi p).length < 10 := (nI_ltI (by omega) (by omega)).mp c4
        rw [if_neg (show ¬ (u.wi p).length = 10 by omega)] at hq
        exact k_wish_88 hA hlv hp hI hB hk l4 hr (hq.1 rfl)
      · rw [if_pos (show (u.wi p).length = 10 by
          by_cases e : (u.wi p).length < 10
          · exact absurd ((nI_ltI (by omega) (by omega)).mpr e) c4
          · omega)] at hq
        exact th_X9_46 rfl dX9_wish_80 dX9_wish_83 dX9_wish_84 dX9_wish_87 rfl (by omega) (by decide) (hr.c (by omega)) (hr.s (by omega)) (hq.2 3 14 rfl rfl)
    · have hde : u.de p = true := bI_ne.mp c3
      rw [if_pos hde] at hq
      exact th_X9_75 rfl dX9_wish_57 dX9_wish_60 dX9_wish_61 dX9_wish_64 rfl (by omega) (by decide) (hr.c (by omega)) (hr.s (by omega)) (hq.2 2 13 rfl rfl)
  · rw [if_neg (fun q => by rcases q with q | q | q <;> rw [q] at c2 <;> exact absurd (by decide) c2)] at hq
    exact th_X9_39 rfl dX9_wish_41 dX9_wish_44 dX9_wish_45 dX9_wish_48 rfl (by omega) (by decide) (hr.c (by omega)) (hr.s (by omega)) (hq.2 1 12 rfl rfl)
theorem k_wish {a kind k : Int32} (hA : RA G h x z u E X ov lv sf) (hlv : lvOK lv u) (hI : Inv u B) (hB : B < 2 ^ 26) (hr : Rm G 10 h) (hq : Kq G x z 10 h u (sWish u a kind k) [11, 12, 13, 14] Q) : Cx G mX9_wish (d + 11) [.ref x, .int a, .int kind, .int k] h Q := by
  show Jx G mX9_wish (d + 11) Q 0 [some (.ref x), some (.int a), some (.int kind), some (.int k), none, none, none] [] h
  refine x_aload_n dX9_wish_0 rfl rfl ?_
  refine x_iload_n dX9_wish_1 rfl ?_
  refine x_callV dX9_wish_2 sv_X9_31_9 rfl (by first | exact hA.pe hp | exact hA.f (by omega) | exact hA.ob | first | assumption | exact hput_self _ _ _ | exact hnew_self _ _ _ | (rw [hput_ne _ _ _ (by first | assumption | omega | (apply Ne.symm; assumption))]; first | assumption | exact hput_self _ _ _ | exact hnew_self _ _ _ | (rw [hput_ne _ _ _ (by first | assumption | omega | (apply Ne.symm; assumption))]; first | assumption | exact hput_self _ _ _ | exact hnew_self _ _ _) | (rw [hnew_ne _ _ _ (by first | assumption | omega | (apply Ne.symm; assumption))]; first | assumption | exact hput_self _ _ _ | exact hnew_self _ _ _)) | (rw [hnew_ne _ _ _ (by first | assumption | omega | (apply Ne.symm; assumption))]; first | assumption | exact hput_self _ _ _ | exact hnew_self _ _ _ | (rw [hput_ne _ _ _ (by first | assumption | omega | (apply Ne.symm; assumption))]; first | assumption | exact hput_self _ _ _ | exact hnew_self _ _ _) | (rw [hnew_ne _ _ _ (by first | assumption | omega | (apply Ne.symm; assumption))]; first | assumption | exact hput_self _ _ _ | exact hnew_self _ _ _))) rfl (Nat.le_of_ble_eq_true rfl) rfl ?_
  refine k_peerAt hA (hr.mono (by omega)) (fun p hp hx hn => kc_v dr_2 ?_) (fun hn => kc_t (hq.2 0 11 rfl (by rw [sWish, hn])))
  have of12 : (kind = nI 1 ∨ kind = nI 2) → Jx G mX9_wish (d + 11) Q 17 [some (.ref x), some (.int a), some (.int kind), some (.int k), some (.ref (aP x p)), none, none] [] h := by
    intro hk
    refine x_aload dX9_wish_17 rfl rfl ?_
    refine x_iload_n dX9_wish_19 rfl ?_
    refine x_callS dX9_wish_20 ss_X9_62 (Nat.le_of_ble_eq_true rfl) rfl (Nat.le_of_ble_eq_true rfl) rfl ?_
    refine k_childAt hA hp (hI.1.len hp).1 (hr.mono (by omega)) (fun j hjx hj e hi => kc_v dr_2 ?_) (fun hi => kc_t (hq.2 0 11 rfl (by rw [sWish, hn]; simp only; rw [if_pos hk, hi])))
    rw [sWish, hn] at hq
    simp only at hq
    rw [if_pos hk, hi] at hq
    simp only at hq
    rw [getD_lt hj] at hq
    obtain ⟨-, ⟨db, hbc, hdb⟩, -⟩ := (hA.ki hp).at hjx (List.getElem?_eq_getElem hj)
    refine gf_X9_66_2 rfl dX9_wish_23 (by first | exact hA.pe hp | exact hA.f (by omega) | exact hA.ob | first | assumption | exact hput_self _ _ _ | exact hnew_self _ _ _ | (rw [hput_ne _ _ _ (by first | assumption | omega | (apply Ne.symm; assumption))]; first | assumption | exact hput_self _ _ _ | exact hnew_self _ _ _ | (rw [hput_ne _ _ _ (by first | assumption | omega | (apply Ne.symm; assumption))]; first | assumption | exact hput_self _ _ _ | exact hnew_self _ _ _) | (rw [hnew_ne _ _ _ (by first | assumption | omega | (apply Ne.symm; assumption))]; first | assumption | exact hput_self _ _ _ | exact hnew_self _ _ _)) | (rw [hnew_ne _ _ _ (by first | assumption | omega | (apply Ne.symm; assumption))]; first | assumption | exact hput_self _ _ _ | exact hnew_self _ _ _ | (rw [hput_ne _ _ _ (by first | assumption | omega | (apply Ne.symm; assumption))]; first | assumption | exact hput_self _ _ _ | exact hnew_self _ _ _) | (rw [hnew_ne _ _ _ (by first | assumption | omega | (apply Ne.symm; assumption))]; first | assumption | exact hput_self _ _ _ | exact hnew_self _ _ _))) ?_
    refine x_goto (tgt := 30) dX9_wish_26 (by decide) ?_
    refine y_istore dX9_wish_30 rfl lvs_7_5 ?_
    refine k_wish_32 hA hlv hp hI hB hr ?_
    rw [if_pos (Or.inr hk)]
    exact hq
  refine y_astore dX9_wish_5 rfl rfl lvs_7_4 ?_
  refine x_iload_n dX9_wish_7 rfl ?_
  refine x_iconst (v := nI 1) dX9_wish_8 (by decide) ?_
  refine x_icmp_eq (tgt := 17) dX9_wish_9 (by decide) (fun c1 => ?_) (fun c1 => ?_)
  · exact of12 (Or.inl c1)
  refine x_iload_n dX9_wish_12 rfl ?_
  refine x_iconst (v := nI 2) dX9_wish_13 (by decide) ?_
  refine x_icmp_ne (tgt := 29) dX9_wish_14 (by decide) (fun c2 => ?_) (fun c2 => ?_)
  · refine x_iconst (v := nI 0) dX9_wish_29 (by decide) ?_
    refine y_istore dX9_wish_30 rfl lvs_7_5 ?_
    refine k_wish_32 hA hlv hp hI hB hr ?_
    rw [sWish, hn] at hq
    simp only at hq
    rw [if_neg (fun q => q.elim c1 c2)] at hq
    by_cases h0 : kind = 0
    · rw [if_pos h0] at hq
      rw [if_pos (Or.inl h0)]
      exact hq
    · rw [if_neg h0] at hq
      rw [if_neg (fun q => q.elim h0 (fun q => q.elim c1 c2))]
      exact hq
  · exact of12 (Or.inr c2)
theorem k_deliver {a k : Int32} (hA : RA G h x z u E X ov lv sf) (hlv : lvOK lv u) (hI : Inv u B) (hB : B < 2 ^ 26) (hr : Rm G 13 h) (hq : Kq G x z 13 h u (sDeliver u a k) [11] Q) : Cx G mX9_deliver (d + 12) [.ref x, .int a, .int k] h Q := by
  show Jx G mX9_deliver (d + 12) Q 0 [some (.ref x), some (.int a), some (.int k), none, none, none, none] [] h
  refine x_aload_n dX9_deliver_0 rfl rfl ?_
  refine x_iload_n dX9_deliver_1 rfl ?_
  refine x_callV dX9_deliver_2 sv_X9_31_9 rfl (by first | exact hA.pe hp | exact hA.f (by omega) | exact hA.ob | first | assumption | exact hput_self _ _ _ | exact hnew_self _ _ _ | (rw [hput_ne _ _ _ (by first | assumption | omega | (apply Ne.symm; assumption))]; first | assumption | exact hput_self _ _ _ | exact hnew_self _ _ _ | (rw [hput_ne _ _ _ (by first | assumption | omega | (apply Ne.symm; assumption))]; first | assumption | exact hput_self _ _ _ | exact hnew_self _ _ _) | (rw [hnew_ne _ _ _ (by first | assumption | omega | (apply Ne.symm; assumption))]; first | assumption | exact hput_self _ _ _ | exact hnew_self _ _ _)) | (rw [hnew_ne _ _ _ (by first | assumption | omega | (apply Ne.symm; assumption))]; first | assumption | exact hput_self _ _ _ | exact hnew_self _ _ _ | (rw [hput_ne _ _ _ (by first | assumption | omega | (apply Ne.symm; assumption))]; first | assumption | exact hput_self _ _ _ | exact hnew_self _ _ _) | (rw [hnew_ne _ _ _ (by first | assumption | omega | (apply Ne.symm; assumption))]; first | assumption | exact hput_self _ _ _ | exact hnew_self _ _ _))) rfl (Nat.le_of_ble_eq_true rfl) rfl ?_
  refine k_peerAt hA (hr.mono (by omega)) (fun p hp hx hn => kc_v dr_2 ?_) (fun hn => kc_t (hq.2 0 11 rfl (by rw [sDeliver, hn])))
  refine y_astore_n dX9_deliver_5 rfl rfl lvs_7_3 ?_
  refine x_aload_n dX9_deliver_6 rfl rfl ?_
  refine x_iload_n dX9_deliver_7 rfl ?_
  refine x_callV dX9_deliver_8 sv_X9_100_9 rfl (by first | exact hA.pe hp | exact hA.f (by omega) | exact hA.ob | first | assumption | exact hput_self _ _ _ | exact hnew_self _ _ _ | (rw [hput_ne _ _ _ (by first | assumption | omega | (apply Ne.symm; assumption))]; first | assumption | exact hput_self _ _ _ | exact hnew_self _ _ _ | (rw [hput_ne _ _ _ (by first | assumption | omega | (apply Ne.symm; assumption))]; first | assumption | exact hput_self _ _ _ | exact hnew_self _ _ _) | (rw [hnew_ne _ _ _ (by first | assumption | omega | (apply Ne.symm; assumption))]; first | assumption | exact hput_self _ _ _ | exact hnew_self _ _ _)) | (rw [hnew_ne _ _ _ (by first | assumption | omega | (apply Ne.symm; assumption))]; first | assumption | exact hput_self _ _ _ | exact hnew_self _ _ _ | (rw [hput_ne _ _ _ (by first | assumption | omega | (apply Ne.symm; assumption))]; first | assumption | exact hput_self _ _ _ | exact hnew_self _ _ _) | (rw [hnew_ne _ _ _ (by first | assumption | omega | (apply Ne.symm; assumption))]; first | assumption | exact hput_self _ _ _ | exact hnew_self _ _ _))) rfl (Nat.le_of_ble_eq_true rfl) rfl ?_
  refine k_flightTo hA (hr.mono (by omega)) (fun p' hp' hx' hn' => kc_v dr_2 ?_) (fun hn' => by rw [hn] at hn'; cases hn')
  rw [hn] at hn'
  cases hn'
  refine y_astore dX9_deliver_11 rfl rfl lvs_7_4 ?_
  refine x_aload dX9_deliver_13 rfl rfl ?_
  refine x_iload_n dX9_deliver_15 rfl ?_
  refine x_callS dX9_deliver_16 ss_X9_104 (Nat.le_of_ble_eq_true rfl) rfl (Nat.le_of_ble_eq_true rfl) rfl ?_
  refine k_packetAt hA hp (hI.1.len hp).2 (hr.mono (by omega)) (fun j hjx hj e hi => kc_v dr_2 ?_) (fun hi => kc_t (hq.2 0 11 rfl (by rw [sDeliver, hn]; simp only; rw [hi])))
  rw [sDeliver, hn] at hq
  simp only at hq
  rw [hi] at hq
  simp only at hq
  rw [getD_lt hj] at hq
  subst e
  have hpk := (hA.fl hp).at hjx (List.getElem?_eq_getElem hj)
  have hg := hI.t_got hB hp hj rfl (fun h0 => by
    rcases hpk with hreq | hans
    · rcases hreq.2.2.2 with q | q
      · exact Or.inl q.1
      · exact Or.inr q.1
    · have := hans.2.1
      rw [h0] at this
      exact absurd this (by decide))
  obtain ⟨m1, hm1⟩ := (hA.l (c := 0) (by omega) hp).sh
  refine y_astore dX9_deliver_19 rfl rfl lvs_7_5 ?_
  refine x_aload dX9_deliver_21 rfl rfl ?_
  refine gf_X9_108_4 rfl dX9_deliver_23 (by first | exact hA.pe hp | exact hA.f (by omega) | exact hA.ob | first | assumption | exact hput_self _ _ _ | exact hnew_self _ _ _ | (rw [hput_ne _ _ _ (by first | assumption | omega | (apply Ne.symm; assumption))]; first | assumption | exact hput_self _ _ _ | exact hnew_self _ _ _ | (rw [hput_ne _ _ _ (by first | assumption | omega | (apply Ne.symm; assumption))]; first | assumption | exact hput_self _ _ _ | exact hnew_self _ _ _) | (rw [hnew_ne _ _ _ (by first | assumption | omega | (apply Ne.symm; assumption))]; first | assumption | exact hput_self _ _ _ | exact hnew_self _ _ _)) | (rw [hnew_ne _ _ _ (by first | assumption | omega | (apply Ne.symm; assumption))]; first | assumption | exact hput_self _ _ _ | exact hnew_self _ _ _ | (rw [hput_ne _ _ _ (by first | assumption | omega | (apply Ne.symm; assumption))]; first | assumption | exact hput_self _ _ _ | exact hnew_self _ _ _) | (rw [hnew_ne _ _ _ (by first | assumption | omega | (apply Ne.symm; assumption))]; first | assumption | exact hput_self _ _ _ | exact hnew_self _ _ _))) ?_
  refine x_iload_n dX9_deliver_26 rfl ?_
  refine x_callF dX9_deliver_27 sf_X9_111_0 rfl (by first | exact hA.pe hp | exact hA.f (by omega) | exact hA.ob | first | assumption | exact hput_self _ _ _ | exact hnew_self _ _ _ | (rw [hput_ne _ _ _ (by first | assumption | omega | (apply Ne.symm; assumption))]; first | assumption | exact hput_self _ _ _ | exact hnew_self _ _ _ | (rw [hput_ne _ _ _ (by first | assumption | omega | (apply Ne.symm; assumption))]; first | assumption | exact hput_self _ _ _ | exact hnew_self _ _ _) | (rw [hnew_ne _ _ _ (by first | assumption | omega | (apply Ne.symm; assumption))]; first | assumption | exact hput_self _ _ _ | exact hnew_self _ _ _)) | (rw [hnew_ne _ _ _ (by first | assumption | omega | (apply Ne.symm; assumption))]; first | assumption | exact hput_self _ _ _ | exact hnew_self _ _ _ | (rw [hput_ne _ _ _ (by first | assumption | omega | (apply Ne.symm; assumption))]; first | assumption | exact hput_self _ _ _ | exact hnew_self _ _ _) | (rw [hnew_ne _ _ _ (by first | assumption | omega | (apply Ne.symm; assumption))]; first | assumption | exact hput_self _ _ _ | exact hnew_self _ _ _))) rfl (Nat.le_of_ble_eq_true rfl) rfl ?_
  refine k_remF hA hp hjx (fun h1 E1 X1 hA1 hK1 => kc_v dr_2 ?_)
  have hpk1 := hpk.kept hK1.kp
  generalize hpkv : (u.fl p)[j] = pk at *
  rw [gotU_same (u := u) (v := u.w_fl p ((u.fl p).eraseIdx j)) rfl] at hq
  replace hA := hA1
  obtain ⟨⟨K, c, i1, i2⟩, hI2⟩ := hI
  have hPk : PkOK pk u.nn K p := by
    rw [← hpkv]
    exact (i1 p hp).2.2.2.1.2 _ (List.getElem_mem hj)
  have hnn := (i1 p hp).1.2.2
  have hnn1 := (i1 (1 - p) (by omega)).1.2.2
  obtain ⟨n, hn1, hn31⟩ : ∃ n, pk 1 = nI n ∧ n < 2 ^ 31 := by
    rcases hPk with ⟨-, m, e1, e2, -⟩ | ⟨-, m, e1, e2, -⟩
    · exact ⟨m, e2, by omega⟩
    · exact ⟨m, e2, by omega⟩
  have hna := (i2 p hp).1
  have hw10 := (hI2 p hp).1
  have hl16 := (i1 p hp).2.1.1
  have hf1 : ((u.w_fl p ((u.fl p).eraseIdx j)).fl (1 - p)).length ≤ 30 := by
    rw [show (u.w_fl p ((u.fl p).eraseIdx j)).fl (1 - p) = u.fl (1 - p) from va_up_ne _ _ (by omega)]
    exact (i1 (1 - p) (by omega)).2.2.2.1.1
  refine x_pop dX9_deliver_32 rfl ?_
  refine x_aload_n dX9_deliver_33 rfl rfl ?_
  refine x_aload dX9_deliver_34 rfl rfl ?_
  refine x_callV dX9_deliver_36 sv_X9_115_6 rfl (by first | exact hA.pe hp | exact hA.f (by omega) | exact hA.ob | first | assumption | exact hput_self _ _ _ | exact hnew_self _ _ _ | (rw [hput_ne _ _ _ (by first | assumption | omega | (apply Ne.symm; assumption))]; first | assumption | exact hput_self _ _ _ | exact hnew_self _ _ _ | (rw [hput_ne _ _ _ (by first | assumption | omega | (apply Ne.symm; assumption))]; first | assumption | exact hput_self _ _ _ | exact hnew_self _ _ _) | (rw [hnew_ne _ _ _ (by first | assumption | omega | (apply Ne.symm; assumption))]; first | assumption | exact hput_self _ _ _ | exact hnew_self _ _ _)) | (rw [hnew_ne _ _ _ (by first | assumption | omega | (apply Ne.symm; assumption))]; first | assumption | exact hput_self _ _ _ | exact hnew_self _ _ _ | (rw [hput_ne _ _ _ (by first | assumption | omega | (apply Ne.symm; assumption))]; first | assumption | exact hput_self _ _ _ | exact hnew_self _ _ _) | (rw [hnew_ne _ _ _ (by first | assumption | omega | (apply Ne.symm; assumption))]; first | assumption | exact hput_self _ _ _ | exact hnew_self _ _ _))) rfl (Nat.le_of_ble_eq_true rfl) rfl ?_
  refine k_receive (n := n) (v := u) hA hp hpk1 hn1 hn31 hlv (fun q => ((i2 p hp).2 q).2.1) (show u.na p < 2 ^ 31 by omega) hl16 hf1 (show (u.wi p).length ≤ 30 by omega) (i1.hmk hp) (fun h0 q hq1 hq2 => ?_) (hr.after hK1 (by omega)) (fun h2 E2 X2 ov2 lv2 hA2 hK2 hlv2 => kc_v dr_2 ?_)
  · rcases hPk with ⟨e0, -⟩ | ⟨-, m, e1, e2, e3⟩
    · rw [h0] at e0
      exact absurd e0 (by decide)
    · obtain ⟨-, m', f1, f2, f3, -⟩ := (i1 p hp).2.2.1 q hq1
      have : m' = m := (nI_eq (by omega) (by omega)).mp (f2.symm.trans (hq2.trans e2))
      subst this
      rw [e3, f3]
  · refine y_istore dX9_deliver_39 rfl lvs_7_6 ?_
    refine x_aload_n dX9_deliver_41 rfl rfl ?_
    replace hA := hA2
    replace hK2 := hK1.trans hK2
    refine x_callV dX9_deliver_42 sv_X9_97_9 rfl (by first | exact hA.pe hp | exact hA.f (by omega) | exact hA.ob | first | assumption | exact hput_self _ _ _ | exact hnew_self _ _ _ | (rw [hput_ne _ _ _ (by first | assumption | omega | (apply Ne.symm; assumption))]; first | assumption | exact hput_self _ _ _ | exact hnew_self _ _ _ | (rw [hput_ne _ _ _ (by first | assumption | omega | (apply Ne.symm; assumption))]; first | assumption | exact hput_self _ _ _ | exact hnew_self _ _ _) | (rw [hnew_ne _ _ _ (by first | assumption | omega | (apply Ne.symm; assumption))]; first | assumption | exact hput_self _ _ _ | exact hnew_self _ _ _)) | (rw [hnew_ne _ _ _ (by first | assumption | omega | (apply Ne.symm; assumption))]; first | assumption | exact hput_self _ _ _ | exact hnew_self _ _ _ | (rw [hput_ne _ _ _ (by first | assumption | omega | (apply Ne.symm; assumption))]; first | assumption | exact hput_self _ _ _ | exact hnew_self _ _ _) | (rw [hnew_ne _ _ _ (by first | assumption | omega | (apply Ne.symm; assumption))]; first | assumption | exact hput_self _ _ _ | exact hnew_self _ _ _))) rfl (Nat.le_of_ble_eq_true rfl) rfl ?_
    refine k_takeWishes (B := B + 1) hA hg.1 (by omega) hg.2 (hr.after hK2 (by omega)) (fun h3 E3 X3 ov3 hA3 hK3 => kc_n dr_1 ?_)
    refine x_iload dX9_deliver_45 rfl ?_
    refine x_ireturn dX9_deliver_47 rfl ?_
    refine hq.1 rfl _ _ _ _ _ _ hA3 ?_ (hK2.trans hK3)
    intro q hq2
    show lv2 q = none ↔ (takeU _).na q = 0
    rw [show (takeU (gotU (u.w_fl p ((u.fl p).eraseIdx j)) (u.w_fl p ((u.fl p).eraseIdx j)) p pk).1).na = (gotU (u.w_fl p ((u.fl p).eraseIdx j)) (u.w_fl p ((u.fl p).eraseIdx j)) p pk).1.na from ((takeN_keep _ _ _).2.2.2.2.2.1.trans (takeN_keep _ _ _).2.2.2.2.2.1)]
    exact hlv2 q hq2
theorem k_tick_loop {many : Nat} (hm : many ≤ 1000) : ∀ (q i : Nat) (u : Ut) (h : Hp) (E : Nat → Nat → Nat) (X : Nat → Nat → List Nat) (ov : Nat → Option Nat) (n : Int32), i + q = many → RA G h x z u E X ov lv sf → Inv u B → Rm G (pot u 0 + pot u 1) h → (∀ h' E' X' ov' k, RA G h' x z (tickN q u n).1 E' X' ov' lv sf → KC x z k h h' → k ≤ pot u 0 + pot u 1 → (tickN q u n).1.na = u.na → Q (.returned (some (.int (tickN q u n).2))) h') → Jx G mX9_tick (d + 9) Q 23 [some (.ref x), some (.int (nI many)), some (.int n), some (.int (nI i))] [] h := by
  intro q
  induction q with
  | zero =>
    intro i u h E X ov n hi hA hI hr hq
    refine x_iload_n dX9_tick_23 rfl ?_
    refine x_iload_n dX9_tick_24 rfl ?_
    refine x_icmp_ge (tgt := 54) dX9_tick_25 (by decide) (fun c1 => ?_) (fun c1 => ?_)
    · refine x_iload_n dX9_tick_54 rfl ?_
      refine x_ireturn dX9_tick_55 rfl ?_
      exact hq _ _ _ _ 0 hA (KC.rf x z h) (Nat.zero_le _) rfl
    · exact absurd (nI_le (by omega) (by omega)) c1
  | succ q ih =>
    intro i u h E X ov n hi hA hI hr hq
    refine x_iload_n dX9_tick_23 rfl ?_
    refine x_iload_n dX9_tick_24 rfl ?_
    refine x_icmp_ge (tgt := 54) dX9_tick_25 (by decide) (fun c1 => ?_) (fun c1 => ?_)
    · exact absurd ((nI_leI (by omega) (by omega)).mp c1) (by omega)
    have hc0 := hA.pe (p := 0) (by omega)
    refine x_iload_n dX9_tick_28 rfl ?_
    refine x_aload_n dX9_tick_29 rfl rfl ?_
    refine gf_X9_24_9 rfl dX9_tick_30 (by first | exact hA.pe hp | exact hA.f (by omega) | exact hA.ob | first | assumption | exact hput_self _ _ _ | exact hnew_self _ _ _ | (rw [hput_ne _ _ _ (by first | assumption | omega | (apply Ne.symm; assumption))]; first | assumption | exact hput_self _ _ _ | exact hnew_self _ _ _ | (rw [hput_ne _ _ _ (by first | assumption | omega | (apply Ne.symm; assumption))]; first | assumption | exact hput_self _ _ _ | exact hnew_self _ _ _) | (rw [hnew_ne _ _ _ (by first | assumption | omega | (apply Ne.symm; assumption))]; first | assumption | exact hput_self _ _ _ | exact hnew_self _ _ _)) | (rw [hnew_ne _ _ _ (by first | assumption | omega | (apply Ne.symm; assumption))]; first | assumption | exact hput_self _ _ _ | exact hnew_self _ _ _ | (rw [hput_ne _ _ _ (by first | assumption | omega | (apply Ne.symm; assumption))]; first | assumption | exact hput_self _ _ _ | exact hnew_self _ _ _) | (rw [hnew_ne _ _ _ (by first | assumption | omega | (apply Ne.symm; assumption))]; first | assumption | exact hput_self _ _ _ | exact hnew_self _ _ _))) ?_
    refine x_callV dX9_tick_33 sv_X9_123_6 rfl (by first | exact hA.pe hp | exact hA.f (by omega) | exact hA.ob | first | assumption | exact hput_self _ _ _ | exact hnew_self _ _ _ | (rw [hput_ne _ _ _ (by first | assumption | omega | (apply Ne.symm; assumption))]; first | assumption | exact hput_self _ _ _ | exact hnew_self _ _ _ | (rw [hput_ne _ _ _ (by first | assumption | omega | (apply Ne.symm; assumption))]; first | assumption | exact hput_self _ _ _ | exact hnew_self _ _ _) | (rw [hnew_ne _ _ _ (by first | assumption | omega | (apply Ne.symm; assumption))]; first | assumption | exact hput_self _ _ _ | exact hnew_self _ _ _)) | (rw [hnew_ne _ _ _ (by first | assumption | omega | (apply Ne.symm; assumption))]; first | assumption | exact hput_self _ _ _ | exact hnew_self _ _ _ | (rw [hput_ne _ _ _ (by first | assumption | omega | (apply Ne.symm; assumption))]; first | assumption | exact hput_self _ _ _ | exact hnew_self _ _ _) | (rw [hnew_ne _ _ _ (by first | assumption | omega | (apply Ne.symm; assumption))]; first | assumption | exact hput_self _ _ _ | exact hnew_self _ _ _))) rfl (Nat.le_of_ble_eq_true rfl) rfl ?_
    obtain ⟨K, c, i1, i2⟩ := id hI.1
    obtain ⟨w, s, hwt⟩ := (i1 0 (by omega)).2.2.2.2.ex
    obtain ⟨t1, t2, t3, t4, t5, t6, t7⟩ := hI.1.t_tick (p := 0) (by omega)
    obtain ⟨v1, v2⟩ := hI.t_tick2
    have hp1 : pot (tickP u 0).1 1 = pot u 1 := pot_of (t3 1 (by omega)).1 (t3 1 (by omega)).2.2
    refine k_waitOneTick hA (p := 0) (by omega) hwt (hI.1.len (by omega)).2 (fun e hs => hr.mono ?_) (fun h1 E1 X1 ov1 k1 hA1 hK1 hk1 => kc_v dr_1 ?_)
    · have e4 := (hwt e).2.2.2.1
      have : pot u 0 = 5 - s := by
        rw [pot, if_pos e, e4, nI_clamp (by omega)]
      omega
    have hr1 : Rm G (pot (tickP u 0).1 0 + pot (tickP u 0).1 1) h1 := by
      refine hr.after hK1 ?_
      rcases hk1 with e | ⟨e, e2⟩
      · omega
      · have := t7 e2
        omega
    have hk1' : k1 + (pot (tickP u 0).1 0 + pot (tickP u 0).1 1) ≤ pot u 0 + pot u 1 := by
      rcases hk1 with e | ⟨e, e2⟩
      · omega
      · have := t7 e2
        omega
    replace hA := hA1
    have hc1 := hA.pe (p := 1) (by omega)
    refine x_iadd dX9_tick_36 ?_
    try simp only [pk_mul, nI_add]
    refine y_istore_n dX9_tick_37 rfl lvs_4_2 ?_
    refine x_iload_n dX9_tick_38 rfl ?_
    refine x_aload_n dX9_tick_39 rfl rfl ?_
    refine gf_X9_28_9 rfl dX9_tick_40 (by first | exact hA.pe hp | exact hA.f (by omega) | exact hA.ob | first | assumption | exact hput_self _ _ _ | exact hnew_self _ _ _ | (rw [hput_ne _ _ _ (by first | assumption | omega | (apply Ne.symm; assumption))]; first | assumption | exact hput_self _ _ _ | exact hnew_self _ _ _ | (rw [hput_ne _ _ _ (by first | assumption | omega | (apply Ne.symm; assumption))]; first | assumption | exact hput_self _ _ _ | exact hnew_self _ _ _) | (rw [hnew_ne _ _ _ (by first | assumption | omega | (apply Ne.symm; assumption))]; first | assumption | exact hput_self _ _ _ | exact hnew_self _ _ _)) | (rw [hnew_ne _ _ _ (by first | assumption | omega | (apply Ne.symm; assumption))]; first | assumption | exact hput_self _ _ _ | exact hnew_self _ _ _ | (rw [hput_ne _ _ _ (by first | assumption | omega | (apply Ne.symm; assumption))]; first | assumption | exact hput_self _ _ _ | exact hnew_self _ _ _) | (rw [hnew_ne _ _ _ (by first | assumption | omega | (apply Ne.symm; assumption))]; first | assumption | exact hput_self _ _ _ | exact hnew_self _ _ _))) ?_
    refine x_callV dX9_tick_43 sv_X9_123_6 rfl (by first | exact hA.pe hp | exact hA.f (by omega) | exact hA.ob | first | assumption | exact hput_self _ _ _ | exact hnew_self _ _ _ | (rw [hput_ne _ _ _ (by first | assumption | omega | (apply Ne.symm; assumption))]; first | assumption | exact hput_self _ _ _ | exact hnew_self _ _ _ | (rw [hput_ne _ _ _ (by first | assumption | omega | (apply Ne.symm; assumption))]; first | assumption | exact hput_self _ _ _ | exact hnew_self _ _ _) | (rw [hnew_ne _ _ _ (by first | assumption | omega | (apply Ne.symm; assumption))]; first | assumption | exact hput_self _ _ _ | exact hnew_self _ _ _)) | (rw [hnew_ne _ _ _ (by first | assumption | omega | (apply Ne.symm; assumption))]; first | assumption | exact hput_self _ _ _ | exact hnew_self _ _ _ | (rw [hput_ne _ _ _ (by first | assumption | omega | (apply Ne.symm; assumption))]; first | assumption | exact hput_self _ _ _ | exact hnew_self _ _ _) | (rw [hnew_ne _ _ _ (by first | assumption | omega | (apply Ne.symm; assumption))]; first | assumption | exact hput_self _ _ _ | exact hnew_self _ _ _))) rfl (Nat.le_of_ble_eq_true rfl) rfl ?_
    obtain ⟨K1, c1', j1, j2⟩ := id v1.1
    obtain ⟨w1, s1, hwt1⟩ := (j1 1 (by omega)).2.2.2.2.ex
    obtain ⟨s1', s2, s3, s4, s5, s6, s7⟩ := v1.1.t_tick (p := 1) (by omega)
    have hp0 : pot (tickP (tickP u 0).1 1).1 0 = pot (tickP u 0).1 0 := pot_of (s3 0 (by omega)).1 (s3 0 (by omega)).2.2
    refine k_waitOneTick hA (p := 1) (by omega) hwt1 (v1.1.len (by omega)).2 (fun e hs => hr1.mono ?_) (fun h2 E2 X2 ov2 k2 hA2 hK2 hk2 => kc_v dr_1 ?_)
    · have e4 := (hwt1 e).2.2.2.1
      have : pot (tickP u 0).1 1 = 5 - s1 := by
        rw [pot, if_pos e, e4, nI_clamp (by omega)]
      omega
    have hr2 : Rm G (pot (tickP (tickP u 0).1 1).1 0 + pot (tickP (tickP u 0).1 1).1 1) h2 := by
      refine hr1.after hK2 ?_
      rcases hk2 with e | ⟨e, e2⟩
      · omega
      · have := s7 e2
        omega
    have hk2' : k2 + (pot (tickP (tickP u 0).1 1).1 0 + pot (tickP (tickP u 0).1 1).1 1) ≤ pot (tickP u 0).1 0 + pot (tickP u 0).1 1 := by
      rcases hk2 with e | ⟨e, e2⟩
      · omega
      · have := s7 e2
        omega
    refine x_iadd dX9_tick_46 ?_
    try simp only [pk_mul, nI_add]
    refine y_istore_n dX9_tick_47 rfl lvs_4_2 ?_
    refine y_iinc (k := nI 1) dX9_tick_48 rfl (by decide) lvs_4_3 ?_
    try simp only [pk_mul, nI_add]
    refine x_goto (tgt := 23) dX9_tick_51 (by decide) ?_
    refine ih (i + 1) _ _ _ _ _ _ (by omega) hA2 v2 hr2 (fun h3 E3 X3 ov3 k3 hA3 hK3 hk3 hn3 => ?_)
    exact hq _ _ _ _ _ hA3 ((hK1.trans hK2).trans hK3) (by omega) (hn3.trans (s5.trans t5))
theorem pot_le (u : Ut) (p : Nat) : pot u p ≤ 5 := by
  rw [pot]
  split <;> omega
theorem k_tick {many : Int32} (hA : RA G h x z u E X ov lv sf) (hlv : lvOK lv u) (hI : Inv u B) (hr : Rm G 10 h) (hq : Kq G x z 10 h u (sTick u many) [12] Q) : Cx G mX9_tick (d + 9) [.ref x, .int many] h Q := by
  show Jx G mX9_tick (d + 9) Q 0 [some (.ref x), some (.int many), none, none] [] h
  rw [sTick] at hq
  refine x_iload_n dX9_tick_0 rfl ?_
  refine x_if_lt (tgt := 11) dX9_tick_1 (by decide) (fun c1 => ?_) (fun c1 => ?_)
  · rw [if_pos (Or.inl c1)] at hq
    exact th_X9_39 rfl dX9_tick_11 dX9_tick_14 dX9_tick_15 dX9_tick_18 rfl (by omega) (by decide) (hr.c (by omega)) (hr.s (by omega)) (hq.2 0 12 rfl rfl)
  refine x_iload_n dX9_tick_4 rfl ?_
  refine x_sipush (v := nI 1000) dX9_tick_5 (by decide) ?_
  refine x_icmp_le (tgt := 19) dX9_tick_8 (by decide) (fun c2 => ?_) (fun c2 => ?_)
  · obtain ⟨j, hj, e⟩ := nI_of c1
    rw [if_neg (fun q => q.elim c1 (Int32.not_lt.mpr c2))] at hq
    subst e
    have hj2 : j ≤ 1000 := (nI_leI hj (by omega)).mp c2
    rw [nI_clamp hj] at hq
    have hIn := Inv.t_tickN j u (nI 0) hI
    rw [takeU_idl (hIn.2 0 (by omega)).2 (hIn.2 1 (by omega)).2] at hq
    refine x_iconst (v := nI 0) dX9_tick_19 (by decide) ?_
    refine y_istore_n dX9_tick_20 rfl lvs_4_2 ?_
    refine x_iconst (v := nI 0) dX9_tick_21 (by decide) ?_
    refine y_istore_n dX9_tick_22 rfl lvs_4_3 ?_
    have b0 := pot_le u 0
    have b1 := pot_le u 1
    refine k_tick_loop hj2 j 0 u h E X ov (nI 0) (by omega) hA hI (hr.mono (by omega)) (fun h3 E3 X3 ov3 k3 hA3 hK3 hk3 hn3 => ?_)
    refine hq.1 rfl _ _ _ _ _ _ hA3 ?_ (hK3.mono (by omega))
    intro q hq2
    show lv q = none ↔ (tickN j u (nI 0)).1.na q = 0
    rw [hn3]
    exact hlv q hq2
  · rw [if_pos (Or.inr (Int32.not_le.mp c2))] at hq
    exact th_X9_39 rfl dX9_tick_11 dX9_tick_14 dX9_tick_15 dX9_tick_18 rfl (by omega) (by decide) (hr.c (by omega)) (hr.s (by omega)) (hq.2 0 12 rfl rfl)
theorem k_agr_loop {nf : Int32} (hA : RA G h x z u E X ov lv sf) (hI : Inv u B) (hq : Q (.returned (some (.int nf))) h) : ∀ (q k : Nat) (n : Int32), k + q = (u.ki 0).length → agrN ((u.ki 0).drop k) (u.ki 1) n = nf → Jx G mX9_agreed (d + 5) Q 4 [some (.ref x), some (.int n), some (.int (nI k))] [] h := by
  have hL := hA.l (c := 1) (p := 0) (by omega) (by omega)
  obtain ⟨m1, hm1⟩ := hL.sh
  have hx := (hA.ki (p := 0) (by omega)).1
  have hc0 := hA.pe (p := 0) (by omega)
  have hc1 := hA.pe (p := 1) (by omega)
  have h16 := (hI.1.len (p := 0) (by omega)).1
  have h161 := (hI.1.len (p := 1) (by omega)).1
  obtain ⟨K, c, i1, i2⟩ := id hI.1
  have hP := (i1 1 (by omega)).2.1.2.2
  intro q
  induction q with
  | zero =>
    intro k n hk hn
    refine x_iload_n dX9_agreed_4 rfl ?_
    refine x_aload_n dX9_agreed_5 rfl rfl ?_
    refine gf_X9_24_9 rfl dX9_agreed_6 (by first | exact hA.pe hp | exact hA.f (by omega) | exact hA.ob | first | assumption | exact hput_self _ _ _ | exact hnew_self _ _ _ | (rw [hput_ne _ _ _ (by first | assumption | omega | (apply Ne.symm; assumption))]; first | assumption | exact hput_self _ _ _ | exact hnew_self _ _ _ | (rw [hput_ne _ _ _ (by first | assumption | omega | (apply Ne.symm; assumption))]; first | assumption | exact hput_self _ _ _ | exact hnew_self _ _ _) | (rw [hnew_ne _ _ _ (by first | assumption | omega | (apply Ne.symm; assumption))]; first | assumption | exact hput_self _ _ _ | exact hnew_self _ _ _)) | (rw [hnew_ne _ _ _ (by first | assumption | omega | (apply Ne.symm; assumption))]; first | assumption | exact hput_self _ _ _ | exact hnew_self _ _ _ | (rw [hput_ne _ _ _ (by first | assumption | omega | (apply Ne.symm; assumption))]; first | assumption | exact hput_self _ _ _ | exact hnew_self _ _ _) | (rw [hnew_ne _ _ _ (by first | assumption | omega | (apply Ne.symm; assumption))]; first | assumption | exact hput_self _ _ _ | exact hnew_self _ _ _))) ?_
    refine gf_X9_126_6 rfl dX9_agreed_9 (by first | exact hA.pe hp | exact hA.f (by omega) | exact hA.ob | first | assumption | exact hput_self _ _ _ | exact hnew_self _ _ _ | (rw [hput_ne _ _ _ (by first | assumption | omega | (apply Ne.symm; assumption))]; first | assumption | exact hput_self _ _ _ | exact hnew_self _ _ _ | (rw [hput_ne _ _ _ (by first | assumption | omega | (apply Ne.symm; assumption))]; first | assumption | exact hput_self _ _ _ | exact hnew_self _ _ _) | (rw [hnew_ne _ _ _ (by first | assumption | omega | (apply Ne.symm; assumption))]; first | assumption | exact hput_self _ _ _ | exact hnew_self _ _ _)) | (rw [hnew_ne _ _ _ (by first | assumption | omega | (apply Ne.symm; assumption))]; first | assumption | exact hput_self _ _ _ | exact hnew_self _ _ _ | (rw [hput_ne _ _ _ (by first | assumption | omega | (apply Ne.symm; assumption))]; first | assumption | exact hput_self _ _ _ | exact hnew_self _ _ _) | (rw [hnew_ne _ _ _ (by first | assumption | omega | (apply Ne.symm; assumption))]; first | assumption | exact hput_self _ _ _ | exact hnew_self _ _ _))) ?_
    refine x_callF dX9_agreed_12 sf_X9_82_0 rfl (by first | exact hA.pe hp | exact hA.f (by omega) | exact hA.ob | first | assumption | exact hput_self _ _ _ | exact hnew_self _ _ _ | (rw [hput_ne _ _ _ (by first | assumption | omega | (apply Ne.symm; assumption))]; first | assumption | exact hput_self _ _ _ | exact hnew_self _ _ _ | (rw [hput_ne _ _ _ (by first | assumption | omega | (apply Ne.symm; assumption))]; first | assumption | exact hput_self _ _ _ | exact hnew_self _ _ _) | (rw [hnew_ne _ _ _ (by first | assumption | omega | (apply Ne.symm; assumption))]; first | assumption | exact hput_self _ _ _ | exact hnew_self _ _ _)) | (rw [hnew_ne _ _ _ (by first | assumption | omega | (apply Ne.symm; assumption))]; first | assumption | exact hput_self _ _ _ | exact hnew_self _ _ _ | (rw [hput_ne _ _ _ (by first | assumption | omega | (apply Ne.symm; assumption))]; first | assumption | exact hput_self _ _ _ | exact hnew_self _ _ _) | (rw [hnew_ne _ _ _ (by first | assumption | omega | (apply Ne.symm; assumption))]; first | assumption | exact hput_self _ _ _ | exact hnew_self _ _ _))) rfl (Nat.le_of_ble_eq_true rfl) rfl ?_
    refine c_sizeL hL (kc_v dr_1 ?_)
    rw [hx]
    refine x_icmp_ge (tgt := 55) dX9_agreed_17 (by decide) (fun c1 => ?_) (fun c1 => ?_)
    · rw [List.drop_eq_nil_of_le (by omega)] at hn
      refine x_iload_n dX9_agreed_55 rfl ?_
      refine x_ireturn dX9_agreed_56 rfl ?_
      rw [show n = nf from hn]
      exact hq
    · exact absurd (nI_le (by omega) (by omega)) c1
  | succ q ih =>
    intro k n hk hn
    have hkl : k < (u.ki 0).length := by omega
    have hkx : k < (X 1 0).length := by omega
    have hkid := (hA.ki (p := 0) (by omega)).at hkx (List.getElem?_eq_getElem hkl)
    obtain ⟨-, ⟨db, hbc, hdb⟩, -⟩ := id hkid
    rw [List.drop_eq_getElem_cons hkl] at hn
    have hn' : agrN ((u.ki 0).drop (k + 1)) (u.ki 1) (agrJ (u.ki 0)[k] (u.ki 1) n) = nf := hn
    rw [agrJ_one _ _ hP] at hn'
    refine x_iload_n dX9_agreed_4 rfl ?_
    refine x_aload_n dX9_agreed_5 rfl rfl ?_
    refine gf_X9_24_9 rfl dX9_agreed_6 (by first | exact hA.pe hp | exact hA.f (by omega) | exact hA.ob | first | assumption | exact hput_self _ _ _ | exact hnew_self _ _ _ | (rw [hput_ne _ _ _ (by first | assumption | omega | (apply Ne.symm; assumption))]; first | assumption | exact hput_self _ _ _ | exact hnew_self _ _ _ | (rw [hput_ne _ _ _ (by first | assumption | omega | (apply Ne.symm; assumption))]; first | assumption | exact hput_self _ _ _ | exact hnew_self _ _ _) | (rw [hnew_ne _ _ _ (by first | assumption | omega | (apply Ne.symm; assumption))]; first | assumption | exact hput_self _ _ _ | exact hnew_self _ _ _)) | (rw [hnew_ne _ _ _ (by first | assumption | omega | (apply Ne.symm; assumption))]; first | assumption | exact hput_self _ _ _ | exact hnew_self _ _ _ | (rw [hput_ne _ _ _ (by first | assumption | omega | (apply Ne.symm; assumption))]; first | assumption | exact hput_self _ _ _ | exact hnew_self _ _ _) | (rw [hnew_ne _ _ _ (by first | assumption | omega | (apply Ne.symm; assumption))]; first | assumption | exact hput_self _ _ _ | exact hnew_self _ _ _))) ?_
    refine gf_X9_126_6 rfl dX9_agreed_9 (by first | exact hA.pe hp | exact hA.f (by omega) | exact hA.ob | first | assumption | exact hput_self _ _ _ | exact hnew_self _ _ _ | (rw [hput_ne _ _ _ (by first | assumption | omega | (apply Ne.symm; assumption))]; first | assumption | exact hput_self _ _ _ | exact hnew_self _ _ _ | (rw [hput_ne _ _ _ (by first | assumption | omega | (apply Ne.symm; assumption))]; first | assumption | exact hput_self _ _ _ | exact hnew_self _ _ _) | (rw [hnew_ne _ _ _ (by first | assumption | omega | (apply Ne.symm; assumption))]; first | assumption | exact hput_self _ _ _ | exact hnew_self _ _ _)) | (rw [hnew_ne _ _ _ (by first | assumption | omega | (apply Ne.symm; assumption))]; first | assumption | exact hput_self _ _ _ | exact hnew_self _ _ _ | (rw [hput_ne _ _ _ (by first | assumption | omega | (apply Ne.symm; assumption))]; first | assumption | exact hput_self _ _ _ | exact hnew_self _ _ _) | (rw [hnew_ne _ _ _ (by first | assumption | omega | (apply Ne.symm; assumption))]; first | assumption | exact hput_self _ _ _ | exact hnew_self _ _ _))) ?_
    refine x_callF dX9_agreed_12 sf_X9_82_0 rfl (by first | exact hA.pe hp | exact hA.f (by omega) | exact hA.ob | first | assumption | exact hput_self _ _ _ | exact hnew_self _ _ _ | (rw [hput_ne _ _ _ (by first | assumption | omega | (apply Ne.symm; assumption))]; first | assumption | exact hput_self _ _ _ | exact hnew_self _ _ _ | (rw [hput_ne _ _ _ (by first | assumption | omega | (apply Ne.symm; assumption))]; first | assumption | exact hput_self _ _ _ | exact hnew_self _ _ _) | (rw [hnew_ne _ _ _ (by first | assumption | omega | (apply Ne.symm; assumption))]; first | assumption | exact hput_self _ _ _ | exact hnew_self _ _ _)) | (rw [hnew_ne _ _ _ (by first | assumption | omega | (apply Ne.symm; assumption))]; first | assumption | exact hput_self _ _ _ | exact hnew_self _ _ _ | (rw [hput_ne _ _ _ (by first | assumption | omega | (apply Ne.symm; assumption))]; first | assumption | exact hput_self _ _ _ | exact hnew_self _ _ _) | (rw [hnew_ne _ _ _ (by first | assumption | omega | (apply Ne.symm; assumption))]; first | assumption | exact hput_self _ _ _ | exact hnew_self _ _ _))) rfl (Nat.le_of_ble_eq_true rfl) rfl ?_
    refine c_sizeL hL (kc_v dr_1 ?_)
    rw [hx]
    refine x_icmp_ge (tgt := 55) dX9_agreed_17 (by decide) (fun c1 => ?_) (fun c1 => ?_)
    · exact absurd ((nI_leI (by omega) (by omega)).mp c1) (by omega)
    refine x_aload_n dX9_agreed_20 rfl rfl ?_
    refine gf_X9_28_9 rfl dX9_agreed_21 (by first | exact hA.pe hp | exact hA.f (by omega) | exact hA.ob | first | assumption | exact hput_self _ _ _ | exact hnew_self _ _ _ | (rw [hput_ne _ _ _ (by first | assumption | omega | (apply Ne.symm; assumption))]; first | assumption | exact hput_self _ _ _ | exact hnew_self _ _ _ | (rw [hput_ne _ _ _ (by first | assumption | omega | (apply Ne.symm; assumption))]; first | assumption | exact hput_self _ _ _ | exact hnew_self _ _ _) | (rw [hnew_ne _ _ _ (by first | assumption | omega | (apply Ne.symm; assumption))]; first | assumption | exact hput_self _ _ _ | exact hnew_self _ _ _)) | (rw [hnew_ne _ _ _ (by first | assumption | omega | (apply Ne.symm; assumption))]; first | assumption | exact hput_self _ _ _ | exact hnew_self _ _ _ | (rw [hput_ne _ _ _ (by first | assumption | omega | (apply Ne.symm; assumption))]; first | assumption | exact hput_self _ _ _ | exact hnew_self _ _ _) | (rw [hnew_ne _ _ _ (by first | assumption | omega | (apply Ne.symm; assumption))]; first | assumption | exact hput_self _ _ _ | exact hnew_self _ _ _))) ?_
    refine x_aload_n dX9_agreed_24 rfl rfl ?_
    refine gf_X9_24_9 rfl dX9_agreed_25 (by first | exact hA.pe hp | exact hA.f (by omega) | exact hA.ob | first | assumption | exact hput_self _ _ _ | exact hnew_self _ _ _ | (rw [hput_ne _ _ _ (by first | assumption | omega | (apply Ne.symm; assumption))]; first | assumption | exact hput_self _ _ _ | exact hnew_self _ _ _ | (rw [hput_ne _ _ _ (by first | assumption | omega | (apply Ne.symm; assumption))]; first | assumption | exact hput_self _ _ _ | exact hnew_self _ _ _) | (rw [hnew_ne _ _ _ (by first | assumption | omega | (apply Ne.symm; assumption))]; first | assumption | exact hput_self _ _ _ | exact hnew_self _ _ _)) | (rw [hnew_ne _ _ _ (by first | assumption | omega | (apply Ne.symm; assumption))]; first | assumption | exact hput_self _ _ _ | exact hnew_self _ _ _ | (rw [hput_ne _ _ _ (by first | assumption | omega | (apply Ne.symm; assumption))]; first | assumption | exact hput_self _ _ _ | exact hnew_self _ _ _) | (rw [hnew_ne _ _ _ (by first | assumption | omega | (apply Ne.symm; assumption))]; first | assumption | exact hput_self _ _ _ | exact hnew_self _ _ _))) ?_
    refine gf_X9_126_6 rfl dX9_agreed_28 (by first | exact hA.pe hp | exact hA.f (by omega) | exact hA.ob | first | assumption | exact hput_self _ _ _ | exact hnew_self _ _ _ | (rw [hput_ne _ _ _ (by first | assumption | omega | (apply Ne.symm; assumption))]; first | assumption | exact hput_self _ _ _ | exact hnew_self _ _ _ | (rw [hput_ne _ _ _ (by first | assumption | omega | (apply Ne.symm; assumption))]; first | assumption | exact hput_self _ _ _ | exact hnew_self _ _ _) | (rw [hnew_ne _ _ _ (by first | assumption | omega | (apply Ne.symm; assumption))]; first | assumption | exact hput_self _ _ _ | exact hnew_self _ _ _)) | (rw [hnew_ne _ _ _ (by first | assumption | omega | (apply Ne.symm; assumption))]; first | assumption | exact hput_self _ _ _ | exact hnew_self _ _ _ | (rw [hput_ne _ _ _ (by first | assumption | omega | (apply Ne.symm; assumption))]; first | assumption | exact hput_self _ _ _ | exact hnew_self _ _ _) | (rw [hnew_ne _ _ _ (by first | assumption | omega | (apply Ne.symm; assumption))]; first | assumption | exact hput_self _ _ _ | exact hnew_self _ _ _))) ?_
    refine x_iload_n dX9_agreed_31 rfl ?_
    refine x_callF dX9_agreed_32 sf_X9_140_0 rfl (by first | exact hA.pe hp | exact hA.f (by omega) | exact hA.ob | first | assumption | exact hput_self _ _ _ | exact hnew_self _ _ _ | (rw [hput_ne _ _ _ (by first | assumption | omega | (apply Ne.symm; assumption))]; first | assumption | exact hput_self _ _ _ | exact hnew_self _ _ _ | (rw [hput_ne _ _ _ (by first | assumption | omega | (apply Ne.symm; assumption))]; first | assumption | exact hput_self _ _ _ | exact hnew_self _ _ _) | (rw [hnew_ne _ _ _ (by first | assumption | omega | (apply Ne.symm; assumption))]; first | assumption | exact hput_self _ _ _ | exact hnew_self _ _ _)) | (rw [hnew_ne _ _ _ (by first | assumption | omega | (apply Ne.symm; assumption))]; first | assumption | exact hput_self _ _ _ | exact hnew_self _ _ _ | (rw [hput_ne _ _ _ (by first | assumption | omega | (apply Ne.symm; assumption))]; first | assumption | exact hput_self _ _ _ | exact hnew_self _ _ _) | (rw [hnew_ne _ _ _ (by first | assumption | omega | (apply Ne.symm; assumption))]; first | assumption | exact hput_self _ _ _ | exact hnew_self _ _ _))) rfl (Nat.le_of_ble_eq_true rfl) rfl ?_
    refine c_getL hL hkx (kc_v dr_2 ?_)
    refine x_castObj dX9_agreed_37 hbc ck_X9_67 ca_2_Child ?_
    refine x_callV dX9_agreed_40 sv_X9_143_6 rfl (by first | exact hA.pe hp | exact hA.f (by omega) | exact hA.ob | first | assumption | exact hput_self _ _ _ | exact hnew_self _ _ _ | (rw [hput_ne _ _ _ (by first | assumption | omega | (apply Ne.symm; assumption))]; first | assumption | exact hput_self _ _ _ | exact hnew_self _ _ _ | (rw [hput_ne _ _ _ (by first | assumption | omega | (apply Ne.symm; assumption))]; first | assumption | exact hput_self _ _ _ | exact hnew_self _ _ _) | (rw [hnew_ne _ _ _ (by first | assumption | omega | (apply Ne.symm; assumption))]; first | assumption | exact hput_self _ _ _ | exact hnew_self _ _ _)) | (rw [hnew_ne _ _ _ (by first | assumption | omega | (apply Ne.symm; assumption))]; first | assumption | exact hput_self _ _ _ | exact hnew_self _ _ _ | (rw [hput_ne _ _ _ (by first | assumption | omega | (apply Ne.symm; assumption))]; first | assumption | exact hput_self _ _ _ | exact hnew_self _ _ _) | (rw [hnew_ne _ _ _ (by first | assumption | omega | (apply Ne.symm; assumption))]; first | assumption | exact hput_self _ _ _ | exact hnew_self _ _ _))) rfl (Nat.le_of_ble_eq_true rfl) rfl ?_
    refine k_sharesChild hA (p := 1) (by omega) hkid h161 (kc_v dr_2 ?_)
    generalize (u.ki 1).any (fun b => sameK (u.ki 0)[k] b) = b at hn' ⊢
    cases b with
    | true =>
      rw [if_pos rfl] at hn'
      refine x_if_eq (tgt := 49) dX9_agreed_43 (by decide) (fun c2 => ?_) (fun c2 => ?_)
      · exact absurd c2 (by decide)
      refine y_iinc (k := nI 1) dX9_agreed_46 rfl (by decide) lvs_3_1 ?_
      try simp only [pk_mul, nI_add]
      refine y_iinc (k := nI 1) dX9_agreed_49 rfl (by decide) lvs_3_2 ?_
      try simp only [pk_mul, nI_add]
      refine x_goto (tgt := 4) dX9_agreed_52 (by decide) ?_
      exact ih (k + 1) _ (by omega) hn'
    | false =>
      rw [if_neg (by decide)] at hn'
      refine x_if_eq (tgt := 49) dX9_agreed_43 (by decide) (fun c2 => ?_) (fun c2 => ?_)
      · refine y_iinc (k := nI 1) dX9_agreed_49 rfl (by decide) lvs_3_2 ?_
        try simp only [pk_mul, nI_add]
        refine x_goto (tgt := 4) dX9_agreed_52 (by decide) ?_
        exact ih (k + 1) _ (by omega) hn'
      · exact absurd rfl c2
theorem k_agreed (hA : RA G h x z u E X ov lv sf) (hI : Inv u B) (hq : Q (.returned (some (.int (sAgreed u).2.1))) h) : Cx G mX9_agreed (d + 5) [.ref x] h Q := by
  show Jx G mX9_agreed (d + 5) Q 0 [some (.ref x), none, none] [] h
  refine x_iconst (v := nI 0) dX9_agreed_0 (by decide) ?_
  refine y_istore_n dX9_agreed_1 rfl lvs_3_1 ?_
  refine x_iconst (v := nI 0) dX9_agreed_2 (by decide) ?_
  refine y_istore_n dX9_agreed_3 rfl lvs_3_2 ?_
  exact k_agr_loop hA hI hq _ 0 _ (Nat.zero_add _) rfl
theorem k_clear (hA : RA G h x z u E X ov lv sf) (hq : ∀ h' E' X' ov' lv', RA G h' x z (clrU (clrU u 0) 1) E' X' ov' lv' sf → lvOK lv' (clrU (clrU u 0) 1) → KC x z 0 h h' → Q (.returned none) h') : Cx G mX9_clear (d + 2) [.ref x] h Q := by
  show Jx G mX9_clear (d + 2) Q 0 [some (.ref x)] [] h
  obtain ⟨m0, hm0⟩ := (hA.l (c := 0) (p := 0) (by omega) (by omega)).sh
  have hc0 := hA.f (p := 0) (by omega)
  refine x_aload_n dX9_clear_0 rfl rfl ?_
  refine gf_X9_10_9 rfl dX9_clear_1 (by first | exact hA.pe hp | exact hA.f (by omega) | exact hA.ob | first | assumption | exact hput_self _ _ _ | exact hnew_self _ _ _ | (rw [hput_ne _ _ _ (by first | assumption | omega | (apply Ne.symm; assumption))]; first | assumption | exact hput_self _ _ _ | exact hnew_self _ _ _ | (rw [hput_ne _ _ _ (by first | assumption | omega | (apply Ne.symm; assumption))]; first | assumption | exact hput_self _ _ _ | exact hnew_self _ _ _) | (rw [hnew_ne _ _ _ (by first | assumption | omega | (apply Ne.symm; assumption))]; first | assumption | exact hput_self _ _ _ | exact hnew_self _ _ _)) | (rw [hnew_ne _ _ _ (by first | assumption | omega | (apply Ne.symm; assumption))]; first | assumption | exact hput_self _ _ _ | exact hnew_self _ _ _ | (rw [hput_ne _ _ _ (by first | assumption | omega | (apply Ne.symm; assumption))]; first | assumption | exact hput_self _ _ _ | exact hnew_self _ _ _) | (rw [hnew_ne _ _ _ (by first | assumption | omega | (apply Ne.symm; assumption))]; first | assumption | exact hput_self _ _ _ | exact hnew_self _ _ _))) ?_
  refine gf_X9_108_4 rfl dX9_clear_4 (by first | exact hA.pe hp | exact hA.f (by omega) | exact hA.ob | first | assumption | exact hput_self _ _ _ | exact hnew_self _ _ _ | (rw [hput_ne _ _ _ (by first | assumption | omega | (apply Ne.symm; assumption))]; first | assumption | exact hput_self _ _ _ | exact hnew_self _ _ _ | (rw [hput_ne _ _ _ (by first | assumption | omega | (apply Ne.symm; assumption))]; first | assumption | exact hput_self _ _ _ | exact hnew_self _ _ _) | (rw [hnew_ne _ _ _ (by first | assumption | omega | (apply Ne.symm; assumption))]; first | assumption | exact hput_self _ _ _ | exact hnew_self _ _ _)) | (rw [hnew_ne _ _ _ (by first | assumption | omega | (apply Ne.symm; assumption))]; first | assumption | exact hput_self _ _ _ | exact hnew_self _ _ _ | (rw [hput_ne _ _ _ (by first | assumption | omega | (apply Ne.symm; assumption))]; first | assumption | exact hput_self _ _ _ | exact hnew_self _ _ _) | (rw [hnew_ne _ _ _ (by first | assumption | omega | (apply Ne.symm; assumption))]; first | assumption | exact hput_self _ _ _ | exact hnew_self _ _ _))) ?_
  refine x_callF dX9_clear_7 sf_X9_147_0 rfl (by first | exact hA.pe hp | exact hA.f (by omega) | exact hA.ob | first | assumption | exact hput_self _ _ _ | exact hnew_self _ _ _ | (rw [hput_ne _ _ _ (by first | assumption | omega | (apply Ne.symm; assumption))]; first | assumption | exact hput_self _ _ _ | exact hnew_self _ _ _ | (rw [hput_ne _ _ _ (by first | assumption | omega | (apply Ne.symm; assumption))]; first | assumption | exact hput_self _ _ _ | exact hnew_self _ _ _) | (rw [hnew_ne _ _ _ (by first | assumption | omega | (apply Ne.symm; assumption))]; first | assumption | exact hput_self _ _ _ | exact hnew_self _ _ _)) | (rw [hnew_ne _ _ _ (by first | assumption | omega | (apply Ne.symm; assumption))]; first | assumption | exact hput_self _ _ _ | exact hnew_self _ _ _ | (rw [hput_ne _ _ _ (by first | assumption | omega | (apply Ne.symm; assumption))]; first | assumption | exact hput_self _ _ _ | exact hnew_self _ _ _) | (rw [hnew_ne _ _ _ (by first | assumption | omega | (apply Ne.symm; assumption))]; first | assumption | exact hput_self _ _ _ | exact hnew_self _ _ _))) rfl (Nat.le_of_ble_eq_true rfl) rfl ?_
  refine k_clrF hA (p := 0) (by omega) (fun h1 E1 X1 hA1 hK1 => kc_n dr_1 ?_)
  replace hA := hA1
  obtain ⟨m1, hm1⟩ := (hA.l (c := 0) (p := 1) (by omega) (by omega)).sh
  have hc1 := hA.f (p := 1) (by omega)
  refine x_aload_n dX9_clear_12 rfl rfl ?_
  refine gf_X9_16_9 rfl dX9_clear_13 (by first | exact hA.pe hp | exact hA.f (by omega) | exact hA.ob | first | assumption | exact hput_self _ _ _ | exact hnew_self _ _ _ | (rw [hput_ne _ _ _ (by first | assumption | omega | (apply Ne.symm; assumption))]; first | assumption | exact hput_self _ _ _ | exact hnew_self _ _ _ | (rw [hput_ne _ _ _ (by first | assumption | omega | (apply Ne.symm; assumption))]; first | assumption | exact hput_self _ _ _ | exact hnew_self _ _ _) | (rw [hnew_ne _ _ _ (by first | assumption | omega | (apply Ne.symm; assumption))]; first | assumption | exact hput_self _ _ _ | exact hnew_self _ _ _)) | (rw [hnew_ne _ _ _ (by first | assumption | omega | (apply Ne.symm; assumption))]; first | assumption | exact hput_self _ _ _ | exact hnew_self _ _ _ | (rw [hput_ne _ _ _ (by first | assumption | omega | (apply Ne.symm; assumption))]; first | assumption | exact hput_self _ _ _ | exact hnew_self _ _ _) | (rw [hnew_ne _ _ _ (by first | assumption | omega | (apply Ne.symm; assumption))]; first | assumption | exact hput_self _ _ _ | exact hnew_self _ _ _))) ?_
  refine gf_X9_108_4 rfl dX9_clear_16 (by first | exact hA.pe hp | exact hA.f (by omega) | exact hA.ob | first | assumption | exact hput_self _ _ _ | exact hnew_self _ _ _ | (rw [hput_ne _ _ _ (by first | assumption | omega | (apply Ne.symm; assumption))]; first | assumption | exact hput_self _ _ _ | exact hnew_self _ _ _ | (rw [hput_ne _ _ _ (by first | assumption | omega | (apply Ne.symm; assumption))]; first | assumption | exact hput_self _ _ _ | exact hnew_self _ _ _) | (rw [hnew_ne _ _ _ (by first | assumption | omega | (apply Ne.symm; assumption))]; first | assumption | exact hput_self _ _ _ | exact hnew_self _ _ _)) | (rw [hnew_ne _ _ _ (by first | assumption | omega | (apply Ne.symm; assumption))]; first | assumption | exact hput_self _ _ _ | exact hnew_self _ _ _ | (rw [hput_ne _ _ _ (by first | assumption | omega | (apply Ne.symm; assumption))]; first | assumption | exact hput_self _ _ _ | exact hnew_self _ _ _) | (rw [hnew_ne _ _ _ (by first | assumption | omega | (apply Ne.symm; assumption))]; first | assumption | exact hput_self _ _ _ | exact hnew_self _ _ _))) ?_
  refine x_callF dX9_clear_19 sf_X9_147_0 rfl (by first | exact hA.pe hp | exact hA.f (by omega) | exact hA.ob | first | assumption | exact hput_self _ _ _ | exact hnew_self _ _ _ | (rw [hput_ne _ _ _ (by first | assumption | omega | (apply Ne.symm; assumption))]; first | assumption | exact hput_self _ _ _ | exact hnew_self _ _ _ | (rw [hput_ne _ _ _ (by first | assumption | omega | (apply Ne.symm; assumption))]; first | assumption | exact hput_self _ _ _ | exact hnew_self _ _ _) | (rw [hnew_ne _ _ _ (by first | assumption | omega | (apply Ne.symm; assumption))]; first | assumption | exact hput_self _ _ _ | exact hnew_self _ _ _)) | (rw [hnew_ne _ _ _ (by first | assumption | omega | (apply Ne.symm; assumption))]; first | assumption | exact hput_self _ _ _ | exact hnew_self _ _ _ | (rw [hput_ne _ _ _ (by first | assumption | omega | (apply Ne.symm; assumption))]; first | assumption | exact hput_self _ _ _ | exact hnew_self _ _ _) | (rw [hnew_ne _ _ _ (by first | assumption | omega | (apply Ne.symm; assumption))]; first | assumption | exact hput_self _ _ _ | exact hnew_self _ _ _))) rfl (Nat.le_of_ble_eq_true rfl) rfl ?_
  refine k_clrF hA (p := 1) (by omega) (fun h2 E2 X2 hA2 hK2 => kc_n dr_1 ?_)
  replace hA := hA2
  replace hK1 := hK1.trans hK2
  have hc2 := hA.pe (p := 0) (by omega)
  refine x_aload_n dX9_clear_24 rfl rfl ?_
  refine gf_X9_24_9 rfl dX9_clear_25 (by first | exact hA.pe hp | exact hA.f (by omega) | exact hA.ob | first | assumption | exact hput_self _ _ _ | exact hnew_self _ _ _ | (rw [hput_ne _ _ _ (by first | assumption | omega | (apply Ne.symm; assumption))]; first | assumption | exact hput_self _ _ _ | exact hnew_self _ _ _ | (rw [hput_ne _ _ _ (by first | assumption | omega | (apply Ne.symm; assumption))]; first | assumption | exact hput_self _ _ _ | exact hnew_self _ _ _) | (rw [hnew_ne _ _ _ (by first | assumption | omega | (apply Ne.symm; assumption))]; first | assumption | exact hput_self _ _ _ | exact hnew_self _ _ _)) | (rw [hnew_ne _ _ _ (by first | assumption | omega | (apply Ne.symm; assumption))]; first | assumption | exact hput_self _ _ _ | exact hnew_self _ _ _ | (rw [hput_ne _ _ _ (by first | assumption | omega | (apply Ne.symm; assumption))]; first | assumption | exact hput_self _ _ _ | exact hnew_self _ _ _) | (rw [hnew_ne _ _ _ (by first | assumption | omega | (apply Ne.symm; assumption))]; first | assumption | exact hput_self _ _ _ | exact hnew_self _ _ _))) ?_
  refine x_callV dX9_clear_28 sv_X9_150_6 rfl (by first | exact hA.pe hp | exact hA.f (by omega) | exact hA.ob | first | assumption | exact hput_self _ _ _ | exact hnew_self _ _ _ | (rw [hput_ne _ _ _ (by first | assumption | omega | (apply Ne.symm; assumption))]; first | assumption | exact hput_self _ _ _ | exact hnew_self _ _ _ | (rw [hput_ne _ _ _ (by first | assumption | omega | (apply Ne.symm; assumption))]; first | assumption | exact hput_self _ _ _ | exact hnew_self _ _ _) | (rw [hnew_ne _ _ _ (by first | assumption | omega | (apply Ne.symm; assumption))]; first | assumption | exact hput_self _ _ _ | exact hnew_self _ _ _)) | (rw [hnew_ne _ _ _ (by first | assumption | omega | (apply Ne.symm; assumption))]; first | assumption | exact hput_self _ _ _ | exact hnew_self _ _ _ | (rw [hput_ne _ _ _ (by first | assumption | omega | (apply Ne.symm; assumption))]; first | assumption | exact hput_self _ _ _ | exact hnew_self _ _ _) | (rw [hnew_ne _ _ _ (by first | assumption | omega | (apply Ne.symm; assumption))]; first | assumption | exact hput_self _ _ _ | exact hnew_self _ _ _))) rfl (Nat.le_of_ble_eq_true rfl) rfl ?_
  refine k_startAfresh hA (p := 0) (by omega) (fun h3 E3 X3 ov3 hA3 hK3 => kc_n dr_1 ?_)
  replace hA := hA3
  replace hK1 := hK1.trans hK3
  have hc3 := hA.pe (p := 1) (by omega)
  refine x_aload_n dX9_clear_31 rfl rfl ?_
  refine gf_X9_28_9 rfl dX9_clear_32 (by first | exact hA.pe hp | exact hA.f (by omega) | exact hA.ob | first | assumption | exact hput_self _ _ _ | exact hnew_self _ _ _ | (rw [hput_ne _ _ _ (by first | assumption | omega | (apply Ne.symm; assumption))]; first | assumption | exact hput_self _ _ _ | exact hnew_self _ _ _ | (rw [hput_ne _ _ _ (by first | assumption | omega | (apply Ne.symm; assumption))]; first | assumption | exact hput_self _ _ _ | exact hnew_self _ _ _) | (rw [hnew_ne _ _ _ (by first | assumption | omega | (apply Ne.symm; assumption))]; first | assumption | exact hput_self _ _ _ | exact hnew_self _ _ _)) | (rw [hnew_ne _ _ _ (by first | assumption | omega | (apply Ne.symm; assumption))]; first | assumption | exact hput_self _ _ _ | exact hnew_self _ _ _ | (rw [hput_ne _ _ _ (by first | assumption | omega | (apply Ne.symm; assumption))]; first | assumption | exact hput_self _ _ _ | exact hnew_self _ _ _) | (rw [hnew_ne _ _ _ (by first | assumption | omega | (apply Ne.symm; assumption))]; first | assumption | exact hput_self _ _ _ | exact hnew_self _ _ _))) ?_
  refine x_callV dX9_clear_35 sv_X9_150_6 rfl (by first | exact hA.pe hp | exact hA.f (by omega) | exact hA.ob | first | assumption | exact hput_self _ _ _ | exact hnew_self _ _ _ | (rw [hput_ne _ _ _ (by first | assumption | omega | (apply Ne.symm; assumption))]; first | assumption | exact hput_self _ _ _ | exact hnew_self _ _ _ | (rw [hput_ne _ _ _ (by first | assumption | omega | (apply Ne.symm; assumption))]; first | assumption | exact hput_self _ _ _ | exact hnew_self _ _ _) | (rw [hnew_ne _ _ _ (by first | assumption | omega | (apply Ne.symm; assumption))]; first | assumption | exact hput_self _ _ _ | exact hnew_self _ _ _)) | (rw [hnew_ne _ _ _ (by first | assumption | omega | (apply Ne.symm; assumption))]; first | assumption | exact hput_self _ _ _ | exact hnew_self _ _ _ | (rw [hput_ne _ _ _ (by first | assumption | omega | (apply Ne.symm; assumption))]; first | assumption | exact hput_self _ _ _ | exact hnew_self _ _ _) | (rw [hnew_ne _ _ _ (by first | assumption | omega | (apply Ne.symm; assumption))]; first | assumption | exact hput_self _ _ _ | exact hnew_self _ _ _))) rfl (Nat.le_of_ble_eq_true rfl) rfl ?_
  refine k_startAfresh hA (p := 1) (by omega) (fun h4 E4 X4 ov4 hA4 hK4 => kc_n dr_1 ?_)
  refine x_vreturn dX9_clear_38 rfl ?_
  rw [clr_eq] at hA4
  refine hq _ _ _ _ _ hA4 ?_ (hK1.trans hK4)
  intro q hq2
  rw [clr_na u q hq2]
  refine ⟨fun _ => rfl, fun _ => ?_⟩
  rcases (show q = 0 ∨ q = 1 by omega) with rfl | rfl <;> rfl
end K16X
