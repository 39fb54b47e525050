theorem askU_pk0 (u : Ut) (p : Nat) (mark : Int32) (kd : Nat → Int32) (pk : Nat → Int32) (h : pk = (askU u p 0 mark kd).2) (h4 : (u.su p).length ≤ 4) : pk 0 = nI 1 ∧ pk 1 = nI (u.nn p) ∧ pk 2 = 0 ∧ pk 3 = nI 1 ∧ pk 4 = u.mk p ∧ pk 5 = n16 (nxN (u.no p)) ∧ pk 6 = 0 ∧ pk 7 = u.lo p ∧ pk 8 = u.hi p ∧ pk 10 = nI (u.su p).length ∧ ∀ k, k < (u.su p).length → pk (11 + k) = (u.su p).getD k 0 := by
  subst h
  have e : (askU u p 0 mark kd).2 = opM (frU (nnU u p) p) p (frM u p (blk (nI 1) (nI (u.nn p)) 0)) := rfl
  rw [e]
  refine ⟨?_, ?_, ?_, ?_, ?_, ?_, ?_, ?_, ?_, ?_, fun k hk => ?_⟩
  all_goals simp only [opM, suM, frM, blk, upd]
  all_goals first | rfl | skip
  have : (frU (nnU u p) p).su p = u.su p := rfl
  rw [this, if_pos ⟨by omega, by omega⟩, Nat.add_sub_cancel_left]
theorem askU_pk1 (u : Ut) (p : Nat) (mark : Int32) (kd : Nat → Int32) (pk : Nat → Int32) (h : pk = (askU u p (nI 1) mark kd).2) : pk 0 = nI 1 ∧ pk 1 = nI (u.nn p) ∧ pk 2 = nI 1 ∧ pk 3 = nI 1 ∧ pk 4 = u.mk p ∧ pk 5 = n16 (nxN (u.no p)) ∧ pk 6 = mark ∧ pk 7 = kd 3 ∧ pk 8 = kd 4 ∧ pk 9 = kd 2 := by
  subst h
  have e : (askU u p (nI 1) mark kd).2 = ofM mark kd (frM u p (blk (nI 1) (nI (u.nn p)) (nI 1))) := rfl
  rw [e]
  refine ⟨rfl, rfl, rfl, rfl, rfl, rfl, rfl, rfl, rfl, rfl⟩
theorem askU_pk2 (u : Ut) (p : Nat) (mark : Int32) (kd : Nat → Int32) (pk : Nat → Int32) (h : pk = (askU u p (nI 2) mark kd).2) : pk 0 = nI 1 ∧ pk 1 = nI (u.nn p) ∧ pk 2 = nI 2 ∧ pk 3 = nI 1 ∧ pk 4 = nI 0 ∧ pk 5 = nI 0 ∧ pk 6 = mark ∧ pk 7 = kd 3 ∧ pk 8 = kd 4 ∧ pk 9 = kd 2 := by
  subst h
  have e : (askU u p (nI 2) mark kd).2 = ofM mark kd (blk (nI 1) (nI (u.nn p)) (nI 2)) := rfl
  rw [e]
  refine ⟨rfl, rfl, rfl, rfl, rfl, rfl, rfl, rfl, rfl, rfl⟩
theorem offOf_is {pk : Nat → Int32} {l : List Int32} (h4 : l.length ≤ 4) (h10 : pk 10 = nI l.length) (h11 : ∀ k, k < l.length → pk (11 + k) = l.getD k 0) : offOf pk = l := by
  have : (pk 10).toNatClampNeg = l.length := by rw [h10, nI_clamp (by omega)]
  apply List.ext_getElem
  · simp [offOf, this]
  · intro i h1 h2
    simp only [offOf, List.getElem_map, List.getElem_range]
    rw [h11 i h2, List.getD_eq_getElem?_getD, List.getElem?_eq_getElem h2]
    rfl
section K5X
variable {G : GT} {d : Nat} {Q : Outcome → Hp → Prop} {h : Hp} {x z p : Nat} {u : Ut} {E : Nat → Nat → Nat} {X : Nat → Nat → List Nat} {ov lv : Nat → Option Nat} {sf : Nat → Nat → Int32}
theorem c_copyOfI {a n : Nat} {f : Nat → Int32} (hc : h.1 a = some (.inl (0, 4, .inl f))) (hb : gb G ≤ a) (hn : n ≤ 4) (hroom : h.2.1 < gC G) (hsl : h.2.2 + 4 ≤ gS G) (hq : ∀ f', (∀ k, k < n → f' k = f k) → Q (.returned (some (.ref h.2.1))) (hnew h (.inl (0, n, .inl f')) n)) : Cx G mJ7_copyOf_59c91 (d + 2) [.ref a, .int (nI n)] h Q := by
  show Jx G mJ7_copyOf_59c91 (d + 2) Q 0 [some (.ref a), some (.int (nI n)), none] [] h
  refine x_wf (fun hwf hob hbn => ?_)
  have hal := hwf _ _ hc
  have hane : a ≠ h.2.1 := by omega
  refine x_iload_n dJ7_copyOf_59c91_0 rfl ?_
  refine x_aload_n dJ7_copyOf_59c91_1 rfl rfl ?_
  refine x_alen dJ7_copyOf_59c91_2 hc (by decide) ?_
  refine x_icmp_ne (tgt := 14) dJ7_copyOf_59c91_3 (by decide) (fun c1 => ?_) (fun c1 => ?_)
  · have hn4 : n < 4 := by
      rcases Nat.lt_or_ge n 4 with q | q
      · exact q
      · exact absurd (show nI n = nI 4 by rw [show n = 4 by omega]) c1
    refine x_iload_n dJ7_copyOf_59c91_14 rfl ?_
    refine x_newarray (tg := 0) (N := n) (x := (n, .inl (fun _ => 0))) dJ7_copyOf_59c91_15 (by decide) rfl wo_ints ⟨rfl, fun _ => rfl⟩ (nI_pos (by omega)) (nI_clamp (by omega)) (by omega) hroom (by omega) ?_
    refine y_astore_n dJ7_copyOf_59c91_17 rfl rfl lvs_3_2 ?_
    refine x_aload_n dJ7_copyOf_59c91_18 rfl rfl ?_
    refine x_iconst (v := nI 0) dJ7_copyOf_59c91_19 (by decide) ?_
    refine x_aload_n dJ7_copyOf_59c91_20 rfl rfl ?_
    refine x_iconst (v := nI 0) dJ7_copyOf_59c91_21 (by decide) ?_
    refine x_aload_n dJ7_copyOf_59c91_22 rfl rfl ?_
    refine x_alen dJ7_copyOf_59c91_23 (by rw [hnew_ne _ _ _ hane]; exact hc) (by decide) ?_
    refine x_iload_n dJ7_copyOf_59c91_24 rfl ?_
    refine x_callS dJ7_copyOf_59c91_25 ss_J7_304 (Nat.le_of_ble_eq_true rfl) rfl (Nat.le_of_ble_eq_true rfl) rfl ?_
    refine c_min (kc_v dr_2 ?_)
    rw [show (if nI n < nI 4 then nI n else nI 4) = nI n from if_pos (nI_lt hn4 (by omega))]
    refine x_copyI dJ7_copyOf_59c91_28 ss_J7_150 hb hbn (by rw [hnew_ne _ _ _ hane]; exact hc) (hnew_self _ _ _) (by decide) (by decide) (nI_pos (by omega)) (by rw [nI_clamp (n := n) (by omega)]; show 0 + n ≤ 4; omega) (by rw [nI_clamp (n := n) (by omega)]; show 0 + n ≤ n; omega) (by omega) (Nat.le_of_ble_eq_true rfl) ?_
    rw [hput_hnew]
    refine x_aload_n dJ7_copyOf_59c91_31 rfl rfl ?_
    refine x_areturn dJ7_copyOf_59c91_32 rfl (by first | exact Or.inl ⟨_, rfl⟩ | exact Or.inr ⟨_, rfl⟩) (by first | exact Or.inr ⟨_, rfl⟩ | exact Or.inl rfl | assumption) ?_
    refine hq _ (fun k hk => ?_)
    rw [nI_clamp (n := n) (by omega)]
    show va_cpy f (fun _ => 0) 0 0 n k = f k
    rw [pk_cpy_in (by omega) (by omega)]
    congr 1
    omega
  · have hn4 : n = 4 := (nI_eq (by omega) (by omega)).mp c1
    subst hn4
    refine x_aload_n dJ7_copyOf_59c91_6 rfl rfl ?_
    refine x_cloneI dJ7_copyOf_59c91_7 cn_J7_316 hb hc (by omega) (Nat.le_of_ble_eq_true rfl) hroom hsl ?_
    refine x_castInts dJ7_copyOf_59c91_10 hbn (hnew_self _ _ _) ck_J7_317 ?_
    refine x_areturn dJ7_copyOf_59c91_13 rfl (by first | exact Or.inl ⟨_, rfl⟩ | exact Or.inr ⟨_, rfl⟩) (by first | exact Or.inr ⟨_, rfl⟩ | exact Or.inl rfl | assumption) ?_
    exact hq f (fun _ _ => rfl)
theorem k_newMarkX (hA : RA G h x z u E X ov lv sf) (hp : p < 2) (hq : Q (.returned (some (.int (u.mk p)))) (hput h (aP x p) (.inr (6, [.int (nI p), .ref (aF x (1 - p)), .ref (aS x p), .int (nI (u.su p).length), .int (u.lo p), .int (u.hi p), .int (u.no p), .int (u.mk p + nI 2), .ref (aL x 1 p), .ref (aL x 2 p), va_rf (ov p), .int (u.se p), .int (u.sp p), .int (u.wt p), .int (nI (u.nn p)), .int (nI (u.na p)), va_rf (lv p), .int (bI (u.de p))])))) : Cx G mX6_newMark d [.ref (aP x p)] h Q := by
  show Jx G mX6_newMark d Q 0 [some (.ref (aP x p)), none] [] h
  refine x_aload_n dX6_newMark_0 rfl rfl ?_
  refine gf_X6_48_6 rfl dX6_newMark_1 (by first | exact hA.pe hp | exact hA.f (by omega) | exact hA.ob | first | assumption | exact hput_self _ _ _ | exact hnew_self _ _ _ | (rw [hput_ne _ _ _ (by first | assumption | omega | (apply Ne.symm; assumption))]; first | assumption | exact hput_self _ _ _ | exact hnew_self _ _ _ | (rw [hput_ne _ _ _ (by first | assumption | omega | (apply Ne.symm; assumption))]; first | assumption | exact hput_self _ _ _ | exact hnew_self _ _ _) | (rw [hnew_ne _ _ _ (by first | assumption | omega | (apply Ne.symm; assumption))]; first | assumption | exact hput_self _ _ _ | exact hnew_self _ _ _)) | (rw [hnew_ne _ _ _ (by first | assumption | omega | (apply Ne.symm; assumption))]; first | assumption | exact hput_self _ _ _ | exact hnew_self _ _ _ | (rw [hput_ne _ _ _ (by first | assumption | omega | (apply Ne.symm; assumption))]; first | assumption | exact hput_self _ _ _ | exact hnew_self _ _ _) | (rw [hnew_ne _ _ _ (by first | assumption | omega | (apply Ne.symm; assumption))]; first | assumption | exact hput_self _ _ _ | exact hnew_self _ _ _))) ?_
  refine y_istore_n dX6_newMark_4 rfl lvs_2_1 ?_
  refine x_aload_n dX6_newMark_5 rfl rfl ?_
  refine x_dup dX6_newMark_6 rfl ?_
  refine gf_X6_48_6 rfl dX6_newMark_7 (by first | exact hA.pe hp | exact hA.f (by omega) | exact hA.ob | first | assumption | exact hput_self _ _ _ | exact hnew_self _ _ _ | (rw [hput_ne _ _ _ (by first | assumption | omega | (apply Ne.symm; assumption))]; first | assumption | exact hput_self _ _ _ | exact hnew_self _ _ _ | (rw [hput_ne _ _ _ (by first | assumption | omega | (apply Ne.symm; assumption))]; first | assumption | exact hput_self _ _ _ | exact hnew_self _ _ _) | (rw [hnew_ne _ _ _ (by first | assumption | omega | (apply Ne.symm; assumption))]; first | assumption | exact hput_self _ _ _ | exact hnew_self _ _ _)) | (rw [hnew_ne _ _ _ (by first | assumption | omega | (apply Ne.symm; assumption))]; first | assumption | exact hput_self _ _ _ | exact hnew_self _ _ _ | (rw [hput_ne _ _ _ (by first | assumption | omega | (apply Ne.symm; assumption))]; first | assumption | exact hput_self _ _ _ | exact hnew_self _ _ _) | (rw [hnew_ne _ _ _ (by first | assumption | omega | (apply Ne.symm; assumption))]; first | assumption | exact hput_self _ _ _ | exact hnew_self _ _ _))) ?_
  refine x_iconst (v := nI 2) dX6_newMark_10 (by decide) ?_
  refine x_iadd dX6_newMark_11 ?_
  try simp only [pk_mul, nI_add]
  refine pf_X6_48_6 rfl dX6_newMark_12 (by first | exact hA.pe hp | exact hA.f (by omega) | exact hA.ob | first | assumption | exact hput_self _ _ _ | exact hnew_self _ _ _ | (rw [hput_ne _ _ _ (by first | assumption | omega | (apply Ne.symm; assumption))]; first | assumption | exact hput_self _ _ _ | exact hnew_self _ _ _ | (rw [hput_ne _ _ _ (by first | assumption | omega | (apply Ne.symm; assumption))]; first | assumption | exact hput_self _ _ _ | exact hnew_self _ _ _) | (rw [hnew_ne _ _ _ (by first | assumption | omega | (apply Ne.symm; assumption))]; first | assumption | exact hput_self _ _ _ | exact hnew_self _ _ _)) | (rw [hnew_ne _ _ _ (by first | assumption | omega | (apply Ne.symm; assumption))]; first | assumption | exact hput_self _ _ _ | exact hnew_self _ _ _ | (rw [hput_ne _ _ _ (by first | assumption | omega | (apply Ne.symm; assumption))]; first | assumption | exact hput_self _ _ _ | exact hnew_self _ _ _) | (rw [hnew_ne _ _ _ (by first | assumption | omega | (apply Ne.symm; assumption))]; first | assumption | exact hput_self _ _ _ | exact hnew_self _ _ _))) rfl rfl ?_
  refine x_iload_n dX6_newMark_15 rfl ?_
  refine x_ireturn dX6_newMark_16 rfl ?_
  exact hq
theorem k_newNonceX (hA : RA G h x z u E X ov lv sf) (hp : p < 2) (hq : Q (.returned (some (.int (n16 (nxN (u.no p)))))) (hput h (aP x p) (.inr (6, [.int (nI p), .ref (aF x (1 - p)), .ref (aS x p), .int (nI (u.su p).length), .int (u.lo p), .int (u.hi p), .int (nxN (u.no p)), .int (u.mk p), .ref (aL x 1 p), .ref (aL x 2 p), va_rf (ov p), .int (u.se p), .int (u.sp p), .int (u.wt p), .int (nI (u.nn p)), .int (nI (u.na p)), va_rf (lv p), .int (bI (u.de p))])))) : Cx G mX6_newNonce d [.ref (aP x p)] h Q := by
  show Jx G mX6_newNonce d Q 0 [some (.ref (aP x p))] [] h
  refine x_aload_n dX6_newNonce_0 rfl rfl ?_
  refine x_aload_n dX6_newNonce_1 rfl rfl ?_
  refine gf_X6_45_6 rfl dX6_newNonce_2 (by first | exact hA.pe hp | exact hA.f (by omega) | exact hA.ob | first | assumption | exact hput_self _ _ _ | exact hnew_self _ _ _ | (rw [hput_ne _ _ _ (by first | assumption | omega | (apply Ne.symm; assumption))]; first | assumption | exact hput_self _ _ _ | exact hnew_self _ _ _ | (rw [hput_ne _ _ _ (by first | assumption | omega | (apply Ne.symm; assumption))]; first | assumption | exact hput_self _ _ _ | exact hnew_self _ _ _) | (rw [hnew_ne _ _ _ (by first | assumption | omega | (apply Ne.symm; assumption))]; first | assumption | exact hput_self _ _ _ | exact hnew_self _ _ _)) | (rw [hnew_ne _ _ _ (by first | assumption | omega | (apply Ne.symm; assumption))]; first | assumption | exact hput_self _ _ _ | exact hnew_self _ _ _ | (rw [hput_ne _ _ _ (by first | assumption | omega | (apply Ne.symm; assumption))]; first | assumption | exact hput_self _ _ _ | exact hnew_self _ _ _) | (rw [hnew_ne _ _ _ (by first | assumption | omega | (apply Ne.symm; assumption))]; first | assumption | exact hput_self _ _ _ | exact hnew_self _ _ _))) ?_
  refine x_ldcw (v := 1664525) dX6_newNonce_5 kw_X6_276 ?_
  refine x_imul dX6_newNonce_8 ?_
  try simp only [pk_mul, nI_add]
  refine x_ldcw (v := 1013904223) dX6_newNonce_9 kw_X6_277 ?_
  refine x_iadd dX6_newNonce_12 ?_
  try simp only [pk_mul, nI_add]
  refine pf_X6_45_6 rfl dX6_newNonce_13 (by first | exact hA.pe hp | exact hA.f (by omega) | exact hA.ob | first | assumption | exact hput_self _ _ _ | exact hnew_self _ _ _ | (rw [hput_ne _ _ _ (by first | assumption | omega | (apply Ne.symm; assumption))]; first | assumption | exact hput_self _ _ _ | exact hnew_self _ _ _ | (rw [hput_ne _ _ _ (by first | assumption | omega | (apply Ne.symm; assumption))]; first | assumption | exact hput_self _ _ _ | exact hnew_self _ _ _) | (rw [hnew_ne _ _ _ (by first | assumption | omega | (apply Ne.symm; assumption))]; first | assumption | exact hput_self _ _ _ | exact hnew_self _ _ _)) | (rw [hnew_ne _ _ _ (by first | assumption | omega | (apply Ne.symm; assumption))]; first | assumption | exact hput_self _ _ _ | exact hnew_self _ _ _ | (rw [hput_ne _ _ _ (by first | assumption | omega | (apply Ne.symm; assumption))]; first | assumption | exact hput_self _ _ _ | exact hnew_self _ _ _) | (rw [hnew_ne _ _ _ (by first | assumption | omega | (apply Ne.symm; assumption))]; first | assumption | exact hput_self _ _ _ | exact hnew_self _ _ _))) rfl rfl ?_
  refine x_aload_n dX6_newNonce_16 rfl rfl ?_
  refine gf_X6_45_6 rfl dX6_newNonce_17 (by first | exact hA.pe hp | exact hA.f (by omega) | exact hA.ob | first | assumption | exact hput_self _ _ _ | exact hnew_self _ _ _ | (rw [hput_ne _ _ _ (by first | assumption | omega | (apply Ne.symm; assumption))]; first | assumption | exact hput_self _ _ _ | exact hnew_self _ _ _ | (rw [hput_ne _ _ _ (by first | assumption | omega | (apply Ne.symm; assumption))]; first | assumption | exact hput_self _ _ _ | exact hnew_self _ _ _) | (rw [hnew_ne _ _ _ (by first | assumption | omega | (apply Ne.symm; assumption))]; first | assumption | exact hput_self _ _ _ | exact hnew_self _ _ _)) | (rw [hnew_ne _ _ _ (by first | assumption | omega | (apply Ne.symm; assumption))]; first | assumption | exact hput_self _ _ _ | exact hnew_self _ _ _ | (rw [hput_ne _ _ _ (by first | assumption | omega | (apply Ne.symm; assumption))]; first | assumption | exact hput_self _ _ _ | exact hnew_self _ _ _) | (rw [hnew_ne _ _ _ (by first | assumption | omega | (apply Ne.symm; assumption))]; first | assumption | exact hput_self _ _ _ | exact hnew_self _ _ _))) ?_
  refine x_bipush (v := nI 16) dX6_newNonce_20 (by decide) ?_
  refine x_iushr dX6_newNonce_22 rfl ?_
  refine x_ireturn dX6_newNonce_23 rfl ?_
  exact hq
theorem k_sendFirst {a : Nat} {pk : Nat → Int32} (hA : RA G h x z u E X ov lv sf) (hp : p < 2) (hk : reqO h z a pk) (hl : (u.fl (1 - p)).length ≤ 30) (hr : Rm G 1 h) (hq : ∀ h' E' X' ov', RA G h' x z (outU (nnU u p) p pk) E' X' ov' lv sf → KC x z 1 h h' → Q (.returned none) h') : Cx G mX6_sendFirst (d + 8) [.ref (aP x p), .ref a] h Q := by
  show Jx G mX6_sendFirst (d + 8) Q 0 [some (.ref (aP x p)), some (.ref a)] [] h
  have hK := KC.rf x z h
  refine x_aload_n dX6_sendFirst_0 rfl rfl ?_
  refine x_aload_n dX6_sendFirst_1 rfl rfl ?_
  refine pf_X6_56_6 rfl dX6_sendFirst_2 (by first | exact hA.pe hp | exact hA.f (by omega) | exact hA.ob | first | assumption | exact hput_self _ _ _ | exact hnew_self _ _ _ | (rw [hput_ne _ _ _ (by first | assumption | omega | (apply Ne.symm; assumption))]; first | assumption | exact hput_self _ _ _ | exact hnew_self _ _ _ | (rw [hput_ne _ _ _ (by first | assumption | omega | (apply Ne.symm; assumption))]; first | assumption | exact hput_self _ _ _ | exact hnew_self _ _ _) | (rw [hnew_ne _ _ _ (by first | assumption | omega | (apply Ne.symm; assumption))]; first | assumption | exact hput_self _ _ _ | exact hnew_self _ _ _)) | (rw [hnew_ne _ _ _ (by first | assumption | omega | (apply Ne.symm; assumption))]; first | assumption | exact hput_self _ _ _ | exact hnew_self _ _ _ | (rw [hput_ne _ _ _ (by first | assumption | omega | (apply Ne.symm; assumption))]; first | assumption | exact hput_self _ _ _ | exact hnew_self _ _ _) | (rw [hnew_ne _ _ _ (by first | assumption | omega | (apply Ne.symm; assumption))]; first | assumption | exact hput_self _ _ _ | exact hnew_self _ _ _))) rfl rfl ?_
  obtain ⟨hA, hK1⟩ := hA.v_ou hp (some a) (some pk) (Or.inr ⟨a, pk, rfl, rfl, hk⟩)
  replace hK := hK.trans hK1
  refine x_aload_n dX6_sendFirst_5 rfl rfl ?_
  refine x_dup dX6_sendFirst_6 rfl ?_
  refine gf_X6_60_6 rfl dX6_sendFirst_7 (by first | exact hA.pe hp | exact hA.f (by omega) | exact hA.ob | first | assumption | exact hput_self _ _ _ | exact hnew_self _ _ _ | (rw [hput_ne _ _ _ (by first | assumption | omega | (apply Ne.symm; assumption))]; first | assumption | exact hput_self _ _ _ | exact hnew_self _ _ _ | (rw [hput_ne _ _ _ (by first | assumption | omega | (apply Ne.symm; assumption))]; first | assumption | exact hput_self _ _ _ | exact hnew_self _ _ _) | (rw [hnew_ne _ _ _ (by first | assumption | omega | (apply Ne.symm; assumption))]; first | assumption | exact hput_self _ _ _ | exact hnew_self _ _ _)) | (rw [hnew_ne _ _ _ (by first | assumption | omega | (apply Ne.symm; assumption))]; first | assumption | exact hput_self _ _ _ | exact hnew_self _ _ _ | (rw [hput_ne _ _ _ (by first | assumption | omega | (apply Ne.symm; assumption))]; first | assumption | exact hput_self _ _ _ | exact hnew_self _ _ _) | (rw [hnew_ne _ _ _ (by first | assumption | omega | (apply Ne.symm; assumption))]; first | assumption | exact hput_self _ _ _ | exact hnew_self _ _ _))) ?_
  refine x_iconst (v := nI 1) dX6_sendFirst_10 (by decide) ?_
  refine x_iadd dX6_sendFirst_11 ?_
  try simp only [pk_mul, nI_add]
  refine pf_X6_60_6 rfl dX6_sendFirst_12 (by first | exact hA.pe hp | exact hA.f (by omega) | exact hA.ob | first | assumption | exact hput_self _ _ _ | exact hnew_self _ _ _ | (rw [hput_ne _ _ _ (by first | assumption | omega | (apply Ne.symm; assumption))]; first | assumption | exact hput_self _ _ _ | exact hnew_self _ _ _ | (rw [hput_ne _ _ _ (by first | assumption | omega | (apply Ne.symm; assumption))]; first | assumption | exact hput_self _ _ _ | exact hnew_self _ _ _) | (rw [hnew_ne _ _ _ (by first | assumption | omega | (apply Ne.symm; assumption))]; first | assumption | exact hput_self _ _ _ | exact hnew_self _ _ _)) | (rw [hnew_ne _ _ _ (by first | assumption | omega | (apply Ne.symm; assumption))]; first | assumption | exact hput_self _ _ _ | exact hnew_self _ _ _ | (rw [hput_ne _ _ _ (by first | assumption | omega | (apply Ne.symm; assumption))]; first | assumption | exact hput_self _ _ _ | exact hnew_self _ _ _) | (rw [hnew_ne _ _ _ (by first | assumption | omega | (apply Ne.symm; assumption))]; first | assumption | exact hput_self _ _ _ | exact hnew_self _ _ _))) rfl rfl ?_
  obtain ⟨hA, hK1⟩ := hA.v_nn hp (u.nn p + 1)
  replace hK := hK.trans hK1
  refine x_aload_n dX6_sendFirst_15 rfl rfl ?_
  refine x_iconst (v := nI 1) dX6_sendFirst_16 (by decide) ?_
  refine pf_X6_82_6 rfl dX6_sendFirst_17 (by first | exact hA.pe hp | exact hA.f (by omega) | exact hA.ob | first | assumption | exact hput_self _ _ _ | exact hnew_self _ _ _ | (rw [hput_ne _ _ _ (by first | assumption | omega | (apply Ne.symm; assumption))]; first | assumption | exact hput_self _ _ _ | exact hnew_self _ _ _ | (rw [hput_ne _ _ _ (by first | assumption | omega | (apply Ne.symm; assumption))]; first | assumption | exact hput_self _ _ _ | exact hnew_self _ _ _) | (rw [hnew_ne _ _ _ (by first | assumption | omega | (apply Ne.symm; assumption))]; first | assumption | exact hput_self _ _ _ | exact hnew_self _ _ _)) | (rw [hnew_ne _ _ _ (by first | assumption | omega | (apply Ne.symm; assumption))]; first | assumption | exact hput_self _ _ _ | exact hnew_self _ _ _ | (rw [hput_ne _ _ _ (by first | assumption | omega | (apply Ne.symm; assumption))]; first | assumption | exact hput_self _ _ _ | exact hnew_self _ _ _) | (rw [hnew_ne _ _ _ (by first | assumption | omega | (apply Ne.symm; assumption))]; first | assumption | exact hput_self _ _ _ | exact hnew_self _ _ _))) rfl rfl ?_
  obtain ⟨hA, hK1⟩ := hA.v_se hp (nI 1)
  replace hK := hK.trans hK1
  refine x_aload_n dX6_sendFirst_20 rfl rfl ?_
  refine x_iconst (v := nI 4) dX6_sendFirst_21 (by decide) ?_
  refine pf_X6_157_6 rfl dX6_sendFirst_22 (by first | exact hA.pe hp | exact hA.f (by omega) | exact hA.ob | first | assumption | exact hput_self _ _ _ | exact hnew_self _ _ _ | (rw [hput_ne _ _ _ (by first | assumption | omega | (apply Ne.symm; assumption))]; first | assumption | exact hput_self _ _ _ | exact hnew_self _ _ _ | (rw [hput_ne _ _ _ (by first | assumption | omega | (apply Ne.symm; assumption))]; first | assumption | exact hput_self _ _ _ | exact hnew_self _ _ _) | (rw [hnew_ne _ _ _ (by first | assumption | omega | (apply Ne.symm; assumption))]; first | assumption | exact hput_self _ _ _ | exact hnew_self _ _ _)) | (rw [hnew_ne _ _ _ (by first | assumption | omega | (apply Ne.symm; assumption))]; first | assumption | exact hput_self _ _ _ | exact hnew_self _ _ _ | (rw [hput_ne _ _ _ (by first | assumption | omega | (apply Ne.symm; assumption))]; first | assumption | exact hput_self _ _ _ | exact hnew_self _ _ _) | (rw [hnew_ne _ _ _ (by first | assumption | omega | (apply Ne.symm; assumption))]; first | assumption | exact hput_self _ _ _ | exact hnew_self _ _ _))) rfl rfl ?_
  obtain ⟨hA, hK1⟩ := hA.v_sp hp (nI 4)
  replace hK := hK.trans hK1
  refine x_aload_n dX6_sendFirst_25 rfl rfl ?_
  refine x_iconst (v := nI 4) dX6_sendFirst_26 (by decide) ?_
  refine pf_X6_85_6 rfl dX6_sendFirst_27 (by first | exact hA.pe hp | exact hA.f (by omega) | exact hA.ob | first | assumption | exact hput_self _ _ _ | exact hnew_self _ _ _ | (rw [hput_ne _ _ _ (by first | assumption | omega | (apply Ne.symm; assumption))]; first | assumption | exact hput_self _ _ _ | exact hnew_self _ _ _ | (rw [hput_ne _ _ _ (by first | assumption | omega | (apply Ne.symm; assumption))]; first | assumption | exact hput_self _ _ _ | exact hnew_self _ _ _) | (rw [hnew_ne _ _ _ (by first | assumption | omega | (apply Ne.symm; assumption))]; first | assumption | exact hput_self _ _ _ | exact hnew_self _ _ _)) | (rw [hnew_ne _ _ _ (by first | assumption | omega | (apply Ne.symm; assumption))]; first | assumption | exact hput_self _ _ _ | exact hnew_self _ _ _ | (rw [hput_ne _ _ _ (by first | assumption | omega | (apply Ne.symm; assumption))]; first | assumption | exact hput_self _ _ _ | exact hnew_self _ _ _) | (rw [hnew_ne _ _ _ (by first | assumption | omega | (apply Ne.symm; assumption))]; first | assumption | exact hput_self _ _ _ | exact hnew_self _ _ _))) rfl rfl ?_
  obtain ⟨hA, hK1⟩ := hA.v_wt hp (nI 4)
  replace hK := hK.trans hK1
  refine x_aload_n dX6_sendFirst_30 rfl rfl ?_
  refine gf_X6_29_6 rfl dX6_sendFirst_31 (by first | exact hA.pe hp | exact hA.f (by omega) | exact hA.ob | first | assumption | exact hput_self _ _ _ | exact hnew_self _ _ _ | (rw [hput_ne _ _ _ (by first | assumption | omega | (apply Ne.symm; assumption))]; first | assumption | exact hput_self _ _ _ | exact hnew_self _ _ _ | (rw [hput_ne _ _ _ (by first | assumption | omega | (apply Ne.symm; assumption))]; first | assumption | exact hput_self _ _ _ | exact hnew_self _ _ _) | (rw [hnew_ne _ _ _ (by first | assumption | omega | (apply Ne.symm; assumption))]; first | assumption | exact hput_self _ _ _ | exact hnew_self _ _ _)) | (rw [hnew_ne _ _ _ (by first | assumption | omega | (apply Ne.symm; assumption))]; first | assumption | exact hput_self _ _ _ | exact hnew_self _ _ _ | (rw [hput_ne _ _ _ (by first | assumption | omega | (apply Ne.symm; assumption))]; first | assumption | exact hput_self _ _ _ | exact hnew_self _ _ _) | (rw [hnew_ne _ _ _ (by first | assumption | omega | (apply Ne.symm; assumption))]; first | assumption | exact hput_self _ _ _ | exact hnew_self _ _ _))) ?_
  refine x_aload_n dX6_sendFirst_34 rfl rfl ?_
  refine x_callV dX6_sendFirst_35 sv_X6_160_4 rfl (by first | exact hA.pe hp | exact hA.f (by omega) | exact hA.ob | first | assumption | exact hput_self _ _ _ | exact hnew_self _ _ _ | (rw [hput_ne _ _ _ (by first | assumption | omega | (apply Ne.symm; assumption))]; first | assumption | exact hput_self _ _ _ | exact hnew_self _ _ _ | (rw [hput_ne _ _ _ (by first | assumption | omega | (apply Ne.symm; assumption))]; first | assumption | exact hput_self _ _ _ | exact hnew_self _ _ _) | (rw [hnew_ne _ _ _ (by first | assumption | omega | (apply Ne.symm; assumption))]; first | assumption | exact hput_self _ _ _ | exact hnew_self _ _ _)) | (rw [hnew_ne _ _ _ (by first | assumption | omega | (apply Ne.symm; assumption))]; first | assumption | exact hput_self _ _ _ | exact hnew_self _ _ _ | (rw [hput_ne _ _ _ (by first | assumption | omega | (apply Ne.symm; assumption))]; first | assumption | exact hput_self _ _ _ | exact hnew_self _ _ _) | (rw [hnew_ne _ _ _ (by first | assumption | omega | (apply Ne.symm; assumption))]; first | assumption | exact hput_self _ _ _ | exact hnew_self _ _ _))) rfl (Nat.le_of_ble_eq_true rfl) rfl ?_
  refine k_launch hA (show 1 - p < 2 by omega) (Or.inl (hk.kept hK.kp)) hl (hr.after hK (by omega)) (fun h' E' X' hA' hK' => kc_n dr_2 ?_)
  refine x_vreturn dX6_sendFirst_38 rfl ?_
  exact hq _ _ _ _ hA' (hK.trans hK')
end K5X
