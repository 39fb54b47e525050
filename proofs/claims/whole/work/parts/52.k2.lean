section K2X
variable {G : GT} {d : Nat} {Q : Outcome → Hp → Prop} {h h' : Hp} {x z p : Nat} {u : Ut} {E : Nat → Nat → Nat} {X : Nat → Nat → List Nat} {ov lv : Nat → Option Nat} {sf : Nat → Nat → Int32}
theorem KC.ofL (hA : RA G h x z u E X ov lv sf) (hwf : ∀ a e, h.1 a = some e → a < h.2.1) {c k : Nat} (hc : c < 3) (hp : p < 2) (hfr : ∀ a, a < h.2.1 → a ≠ aL x c p → (a ≠ E c p ∨ a < gb G) → h'.1 a = h.1 a) (h1 : h.2.1 ≤ h'.2.1) (h2 : h'.2.1 ≤ h.2.1 + k) (h3 : h.2.2 ≤ h'.2.2) (h4 : h'.2.2 ≤ h.2.2 + 45 * k) : KC x z k h h' := by
  have hgx := hA.gx
  have hxz := hA.xz
  have hzh := hA.zh
  have hi := aL_in (x := x) hc hp
  have hE := hA.e hc hp
  refine ⟨fun a ha => hfr a (by omega) (by omega) (by omega), fun a e ha he hn => ?_, h1, h2, h3, h4⟩
  rw [hfr a (hwf a e he) (by omega) (Or.inl ?_)]
  · exact he
  · intro q
    obtain ⟨n, f, hn3⟩ := (hA.l hc hp).e3
    rw [q, hn3] at he
    cases he
    exact hn _ _ rfl
theorem pktO.el {a : Nat} {pk : Nat → Int32} (hk : pktO h z a pk) : elO h a := by
  rcases hk with ⟨-, -, -, ⟨-, -, oa, h1, -⟩ | ⟨-, sb, kd, h1, -⟩⟩ | ⟨-, -, -, b, dv, -, h1, -⟩
  · exact ⟨_, _, h1, ca_7_Object⟩
  · exact ⟨_, _, h1, ca_7_Object⟩
  · exact ⟨_, _, h1, ca_1_Object⟩
theorem kidO.el {a : Nat} {kd : Nat → Int32} (hk : kidO h z a kd) : elO h a := by
  obtain ⟨-, ⟨da, h1, -⟩, -⟩ := hk
  exact ⟨_, _, h1, ca_2_Object⟩
theorem wishO.el {a : Nat} {w : Int32 × Int32} (hk : wishO h z a w) : elO h a := ⟨_, _, hk.2.1, ca_8_Object⟩
theorem L2.all {α : Type} {R : Nat → α → Prop} {xs : List Nat} {l : List α} (h : L2 R xs l) {S : Nat → Prop} (hs : ∀ a b, R a b → S a) : ∀ y ∈ xs, S y := by
  intro y hy
  obtain ⟨i, hi, rfl⟩ := List.getElem_of_mem hy
  exact hs _ _ (h.2 i _ _ (List.getElem?_eq_getElem hi) (List.getElem?_eq_getElem (by rw [← h.1]; exact hi)))
theorem k_addF {a : Nat} {pk : Nat → Int32} (hA : RA G h x z u E X ov lv sf) (hp : p < 2) (hk : pktO h z a pk) (hl : (u.fl p).length ≤ 30) (hr : Rm G 1 h) (hq : ∀ h' E' X', RA G h' x z (u.w_fl p (u.fl p ++ [pk])) E' X' ov lv sf → KC x z 1 h h' → Q (.returned (some (.int 1))) h') : Cx G mJx4a65c_add_9ea2d (d + 6) [.ref (aL x 0 p), .ref a] h Q := by
  refine x_wf (fun hwf hob hbn => ?_)
  obtain ⟨ci, fs, hv, ho⟩ := hk.el
  have hfl := hA.fl hp
  refine c_add (hA.l (c := 0) (by omega) hp) (by rw [hfl.1]; exact hl) (hfl.all (fun a b q => q.el)) hv ho (hr.c (by omega)) (hr.s (by omega)) (fun h' ea' hL hfr hea s1 s2 s3 s4 _ => ?_)
  have hK : KC x z 1 h h' := KC.ofL hA hwf (by omega) hp hfr s1 s2 s3 (by omega)
  refine hq h' _ _ (hA.lst hwf (by omega) hp hL hfr hea s1 (fun q hq => rfl) rfl rfl rfl (fun q hq => ?_) (fun q hq => ?_) (fun q hq => ?_) hK.kp) hK
  · by_cases e : q = p
    · subst e
      rw [up2_self, show (u.w_fl q (u.fl q ++ [pk])).fl q = u.fl q ++ [pk] from va_up_self _ _ _]
      exact (hfl.mono (fun a b q => q.kept hK.kp)).snoc (hk.kept hK.kp)
    · rw [up2_ne _ _ (Or.inr e), show (u.w_fl p (u.fl p ++ [pk])).fl q = u.fl q from va_up_ne _ _ e]
      exact (hA.fl hq).mono (fun a b q => q.kept hK.kp)
  · rw [up2_ne _ _ (Or.inl (by decide))]
    exact (hA.ki hq).mono (fun a b q => q.kept hK.kp)
  · rw [up2_ne _ _ (Or.inl (by decide))]
    exact (hA.wi hq).mono (fun a b q => q.kept hK.kp)
theorem k_addK {a : Nat} {kd : Nat → Int32} (hA : RA G h x z u E X ov lv sf) (hp : p < 2) (hk : kidO h z a kd) (hl : (u.ki p).length ≤ 30) (hr : Rm G 1 h) (hq : ∀ h' E' X', RA G h' x z (u.w_ki p (u.ki p ++ [kd])) E' X' ov lv sf → KC x z 1 h h' → Q (.returned (some (.int 1))) h') : Cx G mJx4a65c_add_9ea2d (d + 6) [.ref (aL x 1 p), .ref a] h Q := by
  refine x_wf (fun hwf hob hbn => ?_)
  obtain ⟨ci, fs, hv, ho⟩ := hk.el
  have hfl := hA.ki hp
  refine c_add (hA.l (c := 1) (by omega) hp) (by rw [hfl.1]; exact hl) (hfl.all (fun a b q => q.el)) hv ho (hr.c (by omega)) (hr.s (by omega)) (fun h' ea' hL hfr hea s1 s2 s3 s4 _ => ?_)
  have hK : KC x z 1 h h' := KC.ofL hA hwf (by omega) hp hfr s1 s2 s3 (by omega)
  refine hq h' _ _ (hA.lst hwf (by omega) hp hL hfr hea s1 (fun q hq => rfl) rfl rfl rfl (fun q hq => ?_) (fun q hq => ?_) (fun q hq => ?_) hK.kp) hK
  · rw [up2_ne _ _ (Or.inl (by decide))]
    exact (hA.fl hq).mono (fun a b q => q.kept hK.kp)
  · by_cases e : q = p
    · subst e
      rw [up2_self, show (u.w_ki q (u.ki q ++ [kd])).ki q = u.ki q ++ [kd] from va_up_self _ _ _]
      exact (hfl.mono (fun a b q => q.kept hK.kp)).snoc (hk.kept hK.kp)
    · rw [up2_ne _ _ (Or.inr e), show (u.w_ki p (u.ki p ++ [kd])).ki q = u.ki q from va_up_ne _ _ e]
      exact (hA.ki hq).mono (fun a b q => q.kept hK.kp)
  · rw [up2_ne _ _ (Or.inl (by decide))]
    exact (hA.wi hq).mono (fun a b q => q.kept hK.kp)
theorem k_addW {a : Nat} {w : Int32 × Int32} (hA : RA G h x z u E X ov lv sf) (hp : p < 2) (hk : wishO h z a w) (hl : (u.wi p).length ≤ 30) (hr : Rm G 1 h) (hq : ∀ h' E' X', RA G h' x z (u.w_wi p (u.wi p ++ [w])) E' X' ov lv sf → KC x z 1 h h' → Q (.returned (some (.int 1))) h') : Cx G mJx4a65c_add_9ea2d (d + 6) [.ref (aL x 2 p), .ref a] h Q := by
  refine x_wf (fun hwf hob hbn => ?_)
  obtain ⟨ci, fs, hv, ho⟩ := hk.el
  have hfl := hA.wi hp
  refine c_add (hA.l (c := 2) (by omega) hp) (by rw [hfl.1]; exact hl) (hfl.all (fun a b q => q.el)) hv ho (hr.c (by omega)) (hr.s (by omega)) (fun h' ea' hL hfr hea s1 s2 s3 s4 _ => ?_)
  have hK : KC x z 1 h h' := KC.ofL hA hwf (by omega) hp hfr s1 s2 s3 (by omega)
  refine hq h' _ _ (hA.lst hwf (by omega) hp hL hfr hea s1 (fun q hq => rfl) rfl rfl rfl (fun q hq => ?_) (fun q hq => ?_) (fun q hq => ?_) hK.kp) hK
  · rw [up2_ne _ _ (Or.inl (by decide))]
    exact (hA.fl hq).mono (fun a b q => q.kept hK.kp)
  · rw [up2_ne _ _ (Or.inl (by decide))]
    exact (hA.ki hq).mono (fun a b q => q.kept hK.kp)
  · by_cases e : q = p
    · subst e
      rw [up2_self, show (u.w_wi q (u.wi q ++ [w])).wi q = u.wi q ++ [w] from va_up_self _ _ _]
      exact (hfl.mono (fun a b q => q.kept hK.kp)).snoc (hk.kept hK.kp)
    · rw [up2_ne _ _ (Or.inr e), show (u.w_wi p (u.wi p ++ [w])).wi q = u.wi q from va_up_ne _ _ e]
      exact (hA.wi hq).mono (fun a b q => q.kept hK.kp)
theorem RA.rem (hA : RA G h x z u E X ov lv sf) {c : Nat} {xs' : List Nat} {u' : Ut} (hwf : ∀ a e, h.1 a = some e → a < h.2.1) (hc : c < 3) (hp : p < 2) (hL : Lx G h' (aL x c p) (E c p) xs') (hfr : ∀ a, a ≠ aL x c p → (a ≠ E c p ∨ a < gb G) → h'.1 a = h.1 a) (h2 : h'.2 = h.2) (hsc : ∀ q, q < 2 → pcl x q u' ov lv = pcl x q u ov lv) (hsu : u'.su = u.su) (hou : u'.ou = u.ou) (hla : u'.la = u.la)
    (hf : KP z h h' → ∀ q, q < 2 → L2 (pktO h' z) (up2 X c p xs' 0 q) (u'.fl q)) (hk : KP z h h' → ∀ q, q < 2 → L2 (kidO h' z) (up2 X c p xs' 1 q) (u'.ki q)) (hw : KP z h h' → ∀ q, q < 2 → L2 (wishO h' z) (up2 X c p xs' 2 q) (u'.wi q)) : RA G h' x z u' (up2 E c p (E c p)) (up2 X c p xs') ov lv sf ∧ KC x z 0 h h' := by
  have e1 : h'.2.1 = h.2.1 := by rw [h2]
  have e2 : h'.2.2 = h.2.2 := by rw [h2]
  have hK : KC x z 0 h h' := KC.ofL hA hwf hc hp (fun a _ q1 q2 => hfr a q1 q2) (by omega) (by omega) (by omega) (by omega)
  exact ⟨hA.lst hwf hc hp hL (fun a _ q1 q2 => hfr a q1 q2) (Or.inl rfl) (by omega) hsc hsu hou hla (hf hK.kp) (hk hK.kp) (hw hK.kp) hK.kp, hK⟩
theorem k_remF {i : Nat} (hA : RA G h x z u E X ov lv sf) (hp : p < 2) (hi : i < (X 0 p).length) (hq : ∀ h' E' X', RA G h' x z (u.w_fl p ((u.fl p).eraseIdx i)) E' X' ov lv sf → KC x z 0 h h' → Q (.returned (some (.ref (X 0 p)[i]))) h') : Cx G mJx4a65c_remove_915e3 (d + 2) [.ref (aL x 0 p), .int (nI i)] h Q := by
  refine x_wf (fun hwf hob hbn => ?_)
  have hfl := hA.fl hp
  refine c_removeL (hA.l (c := 0) (by omega) hp) hi (hfl.all (fun a b q => q.el)) (fun h' hL hfr h2 hge => ?_)
  obtain ⟨r1, r2⟩ := hA.rem (u' := u.w_fl p ((u.fl p).eraseIdx i)) hwf (by omega) hp hL (fun a q1 q2 => hfr a q1 (by omega)) h2 (fun q hq => rfl) rfl rfl rfl (fun hK q hq => by
    by_cases e : q = p
    · subst e
      rw [up2_self, show (u.w_fl q ((u.fl q).eraseIdx i)).fl q = (u.fl q).eraseIdx i from va_up_self _ _ _]
      exact (hfl.mono (fun a b q => q.kept hK)).erase i
    · rw [up2_ne _ _ (Or.inr e), show (u.w_fl p ((u.fl p).eraseIdx i)).fl q = u.fl q from va_up_ne _ _ e]
      exact (hA.fl hq).mono (fun a b q => q.kept hK)) (fun hK q hq => by
    rw [up2_ne _ _ (Or.inl (by decide))]
    exact (hA.ki hq).mono (fun a b q => q.kept hK)) (fun hK q hq => by
    rw [up2_ne _ _ (Or.inl (by decide))]
    exact (hA.wi hq).mono (fun a b q => q.kept hK))
  exact hq h' _ _ r1 r2
theorem k_remK {i : Nat} (hA : RA G h x z u E X ov lv sf) (hp : p < 2) (hi : i < (X 1 p).length) (hq : ∀ h' E' X', RA G h' x z (u.w_ki p ((u.ki p).eraseIdx i)) E' X' ov lv sf → KC x z 0 h h' → Q (.returned (some (.ref (X 1 p)[i]))) h') : Cx G mJx4a65c_remove_915e3 (d + 2) [.ref (aL x 1 p), .int (nI i)] h Q := by
  refine x_wf (fun hwf hob hbn => ?_)
  have hfl := hA.ki hp
  refine c_removeL (hA.l (c := 1) (by omega) hp) hi (hfl.all (fun a b q => q.el)) (fun h' hL hfr h2 hge => ?_)
  obtain ⟨r1, r2⟩ := hA.rem (u' := u.w_ki p ((u.ki p).eraseIdx i)) hwf (by omega) hp hL (fun a q1 q2 => hfr a q1 (by omega)) h2 (fun q hq => rfl) rfl rfl rfl (fun hK q hq => by
    rw [up2_ne _ _ (Or.inl (by decide))]
    exact (hA.fl hq).mono (fun a b q => q.kept hK)) (fun hK q hq => by
    by_cases e : q = p
    · subst e
      rw [up2_self, show (u.w_ki q ((u.ki q).eraseIdx i)).ki q = (u.ki q).eraseIdx i from va_up_self _ _ _]
      exact (hfl.mono (fun a b q => q.kept hK)).erase i
    · rw [up2_ne _ _ (Or.inr e), show (u.w_ki p ((u.ki p).eraseIdx i)).ki q = u.ki q from va_up_ne _ _ e]
      exact (hA.ki hq).mono (fun a b q => q.kept hK)) (fun hK q hq => by
    rw [up2_ne _ _ (Or.inl (by decide))]
    exact (hA.wi hq).mono (fun a b q => q.kept hK))
  exact hq h' _ _ r1 r2
theorem k_remW {i : Nat} (hA : RA G h x z u E X ov lv sf) (hp : p < 2) (hi : i < (X 2 p).length) (hq : ∀ h' E' X', RA G h' x z (u.w_wi p ((u.wi p).eraseIdx i)) E' X' ov lv sf → KC x z 0 h h' → Q (.returned (some (.ref (X 2 p)[i]))) h') : Cx G mJx4a65c_remove_915e3 (d + 2) [.ref (aL x 2 p), .int (nI i)] h Q := by
  refine x_wf (fun hwf hob hbn => ?_)
  have hfl := hA.wi hp
  refine c_removeL (hA.l (c := 2) (by omega) hp) hi (hfl.all (fun a b q => q.el)) (fun h' hL hfr h2 hge => ?_)
  obtain ⟨r1, r2⟩ := hA.rem (u' := u.w_wi p ((u.wi p).eraseIdx i)) hwf (by omega) hp hL (fun a q1 q2 => hfr a q1 (by omega)) h2 (fun q hq => rfl) rfl rfl rfl (fun hK q hq => by
    rw [up2_ne _ _ (Or.inl (by decide))]
    exact (hA.fl hq).mono (fun a b q => q.kept hK)) (fun hK q hq => by
    rw [up2_ne _ _ (Or.inl (by decide))]
    exact (hA.ki hq).mono (fun a b q => q.kept hK)) (fun hK q hq => by
    by_cases e : q = p
    · subst e
      rw [up2_self, show (u.w_wi q ((u.wi q).eraseIdx i)).wi q = (u.wi q).eraseIdx i from va_up_self _ _ _]
      exact (hfl.mono (fun a b q => q.kept hK)).erase i
    · rw [up2_ne _ _ (Or.inr e), show (u.w_wi p ((u.wi p).eraseIdx i)).wi q = u.wi q from va_up_ne _ _ e]
      exact (hA.wi hq).mono (fun a b q => q.kept hK))
  exact hq h' _ _ r1 r2
theorem k_newMark (hA : RA G h x z u E X ov lv sf) (hp : p < 2) (hq : ∀ h', RA G h' x z (u.w_mk p (u.mk p + nI 2)) E X ov lv sf → KC x z 0 h h' → Q (.returned (some (.int (u.mk p)))) h') : Cx G mX6_newMark d [.ref (aP x p)] h Q := by
  show Jx G mX6_newMark d Q 0 [some (.ref (aP x p)), none] [] h
  refine x_aload_n dX6_newMark_0 rfl rfl ?_
  refine gf_X6_48_6 rfl dX6_newMark_1 (by first | exact hA.pe hp | exact hA.f (by omega) | exact hA.ob | first | assumption | exact hput_self _ _ _ | exact hnew_self _ _ _ | (rw [hput_ne _ _ _ (by first | assumption | omega | (apply Ne.symm; assumption))]; first | assumption | exact hput_self _ _ _ | exact hnew_self _ _ _ | (rw [hput_ne _ _ _ (by first | assumption | omega | (apply Ne.symm; assumption))]; first | assumption | exact hput_self _ _ _ | exact hnew_self _ _ _) | (rw [hnew_ne _ _ _ (by first | assumption | omega | (apply Ne.symm; assumption))]; first | assumption | exact hput_self _ _ _ | exact hnew_self _ _ _)) | (rw [hnew_ne _ _ _ (by first | assumption | omega | (apply Ne.symm; assumption))]; first | assumption | exact hput_self _ _ _ | exact hnew_self _ _ _ | (rw [hput_ne _ _ _ (by first | assumption | omega | (apply Ne.symm; assumption))]; first | assumption | exact hput_self _ _ _ | exact hnew_self _ _ _) | (rw [hnew_ne _ _ _ (by first | assumption | omega | (apply Ne.symm; assumption))]; first | assumption | exact hput_self _ _ _ | exact hnew_self _ _ _))) ?_
  refine y_istore_n dX6_newMark_4 rfl lvs_2_1 ?_
  refine x_aload_n dX6_newMark_5 rfl rfl ?_
  refine x_dup dX6_newMark_6 rfl ?_
  refine gf_X6_48_6 rfl dX6_newMark_7 (by first | exact hA.pe hp | exact hA.f (by omega) | exact hA.ob | first | assumption | exact hput_self _ _ _ | exact hnew_self _ _ _ | (rw [hput_ne _ _ _ (by first | assumption | omega | (apply Ne.symm; assumption))]; first | assumption | exact hput_self _ _ _ | exact hnew_self _ _ _ | (rw [hput_ne _ _ _ (by first | assumption | omega | (apply Ne.symm; assumption))]; first | assumption | exact hput_self _ _ _ | exact hnew_self _ _ _) | (rw [hnew_ne _ _ _ (by first | assumption | omega | (apply Ne.symm; assumption))]; first | assumption | exact hput_self _ _ _ | exact hnew_self _ _ _)) | (rw [hnew_ne _ _ _ (by first | assumption | omega | (apply Ne.symm; assumption))]; first | assumption | exact hput_self _ _ _ | exact hnew_self _ _ _ | (rw [hput_ne _ _ _ (by first | assumption | omega | (apply Ne.symm; assumption))]; first | assumption | exact hput_self _ _ _ | exact hnew_self _ _ _) | (rw [hnew_ne _ _ _ (by first | assumption | omega | (apply Ne.symm; assumption))]; first | assumption | exact hput_self _ _ _ | exact hnew_self _ _ _))) ?_
  refine x_iconst (v := nI 2) dX6_newMark_10 (by decide) ?_
  refine x_iadd dX6_newMark_11 ?_
  try simp only [pk_mul, nI_add]
  refine pf_X6_48_6 rfl dX6_newMark_12 (by first | exact hA.pe hp | exact hA.f (by omega) | exact hA.ob | first | assumption | exact hput_self _ _ _ | exact hnew_self _ _ _ | (rw [hput_ne _ _ _ (by first | assumption | omega | (apply Ne.symm; assumption))]; first | assumption | exact hput_self _ _ _ | exact hnew_self _ _ _ | (rw [hput_ne _ _ _ (by first | assumption | omega | (apply Ne.symm; assumption))]; first | assumption | exact hput_self _ _ _ | exact hnew_self _ _ _) | (rw [hnew_ne _ _ _ (by first | assumption | omega | (apply Ne.symm; assumption))]; first | assumption | exact hput_self _ _ _ | exact hnew_self _ _ _)) | (rw [hnew_ne _ _ _ (by first | assumption | omega | (apply Ne.symm; assumption))]; first | assumption | exact hput_self _ _ _ | exact hnew_self _ _ _ | (rw [hput_ne _ _ _ (by first | assumption | omega | (apply Ne.symm; assumption))]; first | assumption | exact hput_self _ _ _ | exact hnew_self _ _ _) | (rw [hnew_ne _ _ _ (by first | assumption | omega | (apply Ne.symm; assumption))]; first | assumption | exact hput_self _ _ _ | exact hnew_self _ _ _))) rfl rfl ?_
  refine x_iload_n dX6_newMark_15 rfl ?_
  refine x_ireturn dX6_newMark_16 rfl ?_
  exact hq _ (hA.t_mk hp _) (hA.pk hp)
theorem k_newNonce (hA : RA G h x z u E X ov lv sf) (hp : p < 2) (hq : ∀ h', RA G h' x z (u.w_no p (nxN (u.no p))) E X ov lv sf → KC x z 0 h h' → Q (.returned (some (.int (n16 (nxN (u.no p)))))) h') : Cx G mX6_newNonce d [.ref (aP x p)] h Q := by
  show Jx G mX6_newNonce d Q 0 [some (.ref (aP x p))] [] h
  refine x_aload_n dX6_newNonce_0 rfl rfl ?_
  refine x_aload_n dX6_newNonce_1 rfl rfl ?_
  refine gf_X6_45_6 rfl dX6_newNonce_2 (by first | exact hA.pe hp | exact hA.f (by omega) | exact hA.ob | first | assumption | exact hput_self _ _ _ | exact hnew_self _ _ _ | (rw [hput_ne _ _ _ (by first | assumption | omega | (apply Ne.symm; assumption))]; first | assumption | exact hput_self _ _ _ | exact hnew_self _ _ _ | (rw [hput_ne _ _ _ (by first | assumption | omega | (apply Ne.symm; assumption))]; first | assumption | exact hput_self _ _ _ | exact hnew_self _ _ _) | (rw [hnew_ne _ _ _ (by first | assumption | omega | (apply Ne.symm; assumption))]; first | assumption | exact hput_self _ _ _ | exact hnew_self _ _ _)) | (rw [hnew_ne _ _ _ (by first | assumption | omega | (apply Ne.symm; assumption))]; first | assumption | exact hput_self _ _ _ | exact hnew_self _ _ _ | (rw [hput_ne _ _ _ (by first | assumption | omega | (apply Ne.symm; assumption))]; first | assumption | exact hput_self _ _ _ | exact hnew_self _ _ _) | (rw [hnew_ne _ _ _ (by first | assumption | omega | (apply Ne.symm; assumption))]; first | assumption | exact hput_self _ _ _ | exact hnew_self _ _ _))) ?_
  refine x_ldcw (v := 1664525) dX6_newNonce_5 kw_X6_276 ?_
  refine x_imul dX6_newNonce_8 ?_
  try simp only [pk_mul, nI_add]
  refine x_ldcw (v := 1013904223) dX6_newNonce_9 kw_X6_277 ?_
  refine x_iadd dX6_newNonce_12 ?_
  try simp only [pk_mul, nI_add]
  refine pf_X6_45_6 rfl dX6_newNonce_13 (by first | exact hA.pe hp | exact hA.f (by omega) | exact hA.ob | first | assumption | exact hput_self _ _ _ | exact hnew_self _ _ _ | (rw [hput_ne _ _ _ (by first | assumption | omega | (apply Ne.symm; assumption))]; first | assumption | exact hput_self _ _ _ | exact hnew_self _ _ _ | (rw [hput_ne _ _ _ (by first | assumption | omega | (apply Ne.symm; assumption))]; first | assumption | exact hput_self _ _ _ | exact hnew_self _ _ _) | (rw [hnew_ne _ _ _ (by first | assumption | omega | (apply Ne.symm; assumption))]; first | assumption | exact hput_self _ _ _ | exact hnew_self _ _ _)) | (rw [hnew_ne _ _ _ (by first | assumption | omega | (apply Ne.symm; assumption))]; first | assumption | exact hput_self _ _ _ | exact hnew_self _ _ _ | (rw [hput_ne _ _ _ (by first | assumption | omega | (apply Ne.symm; assumption))]; first | assumption | exact hput_self _ _ _ | exact hnew_self _ _ _) | (rw [hnew_ne _ _ _ (by first | assumption | omega | (apply Ne.symm; assumption))]; first | assumption | exact hput_self _ _ _ | exact hnew_self _ _ _))) rfl rfl ?_
  have hA1 := hA.t_no hp (nxN (u.no p))
  have hK1 := hA.pk hp (e := .inr (6, [.int (nI p), .ref (aF x (1 - p)), .ref (aS x p), .int (nI (u.su p).length), .int (u.lo p), .int (u.hi p), .int (nxN (u.no p)), .int (u.mk p), .ref (aL x 1 p), .ref (aL x 2 p), va_rf (ov p), .int (u.se p), .int (u.sp p), .int (u.wt p), .int (nI (u.nn p)), .int (nI (u.na p)), va_rf (lv p), .int (bI (u.de p))]))
  refine x_aload_n dX6_newNonce_16 rfl rfl ?_
  refine gf_X6_45_6 rfl dX6_newNonce_17 (by first | exact hA.pe hp | exact hA.f (by omega) | exact hA.ob | first | assumption | exact hput_self _ _ _ | exact hnew_self _ _ _ | (rw [hput_ne _ _ _ (by first | assumption | omega | (apply Ne.symm; assumption))]; first | assumption | exact hput_self _ _ _ | exact hnew_self _ _ _ | (rw [hput_ne _ _ _ (by first | assumption | omega | (apply Ne.symm; assumption))]; first | assumption | exact hput_self _ _ _ | exact hnew_self _ _ _) | (rw [hnew_ne _ _ _ (by first | assumption | omega | (apply Ne.symm; assumption))]; first | assumption | exact hput_self _ _ _ | exact hnew_self _ _ _)) | (rw [hnew_ne _ _ _ (by first | assumption | omega | (apply Ne.symm; assumption))]; first | assumption | exact hput_self _ _ _ | exact hnew_self _ _ _ | (rw [hput_ne _ _ _ (by first | assumption | omega | (apply Ne.symm; assumption))]; first | assumption | exact hput_self _ _ _ | exact hnew_self _ _ _) | (rw [hnew_ne _ _ _ (by first | assumption | omega | (apply Ne.symm; assumption))]; first | assumption | exact hput_self _ _ _ | exact hnew_self _ _ _))) ?_
  refine x_bipush (v := nI 16) dX6_newNonce_20 (by decide) ?_
  refine x_iushr dX6_newNonce_22 rfl ?_
  refine x_ireturn dX6_newNonce_23 rfl ?_
  exact hq _ hA1 hK1
theorem k_isFull (hA : RA G h x z u E X ov lv sf) (hp : p < 2) (hl : (u.ki p).length ≤ 16) (hq : Q (.returned (some (.int (bI (decide ((u.ki p).length = 16)))))) h) : Cx G mX6_isFull (d + 1) [.ref (aP x p)] h Q := by
  show Jx G mX6_isFull (d + 1) Q 0 [some (.ref (aP x p))] [] h
  obtain ⟨m1, hm1⟩ := (hA.l (c := 1) (by omega) hp).sh
  refine x_aload_n dX6_isFull_0 rfl rfl ?_
  refine gf_X6_18_6 rfl dX6_isFull_1 (by first | exact hA.pe hp | exact hA.f (by omega) | exact hA.ob | first | assumption | exact hput_self _ _ _ | exact hnew_self _ _ _ | (rw [hput_ne _ _ _ (by first | assumption | omega | (apply Ne.symm; assumption))]; first | assumption | exact hput_self _ _ _ | exact hnew_self _ _ _ | (rw [hput_ne _ _ _ (by first | assumption | omega | (apply Ne.symm; assumption))]; first | assumption | exact hput_self _ _ _ | exact hnew_self _ _ _) | (rw [hnew_ne _ _ _ (by first | assumption | omega | (apply Ne.symm; assumption))]; first | assumption | exact hput_self _ _ _ | exact hnew_self _ _ _)) | (rw [hnew_ne _ _ _ (by first | assumption | omega | (apply Ne.symm; assumption))]; first | assumption | exact hput_self _ _ _ | exact hnew_self _ _ _ | (rw [hput_ne _ _ _ (by first | assumption | omega | (apply Ne.symm; assumption))]; first | assumption | exact hput_self _ _ _ | exact hnew_self _ _ _) | (rw [hnew_ne _ _ _ (by first | assumption | omega | (apply Ne.symm; assumption))]; first | assumption | exact hput_self _ _ _ | exact hnew_self _ _ _))) ?_
  refine x_callF dX6_isFull_4 sf_X6_88_0 rfl (by first | exact hA.pe hp | exact hA.f (by omega) | exact hA.ob | first | assumption | exact hput_self _ _ _ | exact hnew_self _ _ _ | (rw [hput_ne _ _ _ (by first | assumption | omega | (apply Ne.symm; assumption))]; first | assumption | exact hput_self _ _ _ | exact hnew_self _ _ _ | (rw [hput_ne _ _ _ (by first | assumption | omega | (apply Ne.symm; assumption))]; first | assumption | exact hput_self _ _ _ | exact hnew_self _ _ _) | (rw [hnew_ne _ _ _ (by first | assumption | omega | (apply Ne.symm; assumption))]; first | assumption | exact hput_self _ _ _ | exact hnew_self _ _ _)) | (rw [hnew_ne _ _ _ (by first | assumption | omega | (apply Ne.symm; assumption))]; first | assumption | exact hput_self _ _ _ | exact hnew_self _ _ _ | (rw [hput_ne _ _ _ (by first | assumption | omega | (apply Ne.symm; assumption))]; first | assumption | exact hput_self _ _ _ | exact hnew_self _ _ _) | (rw [hnew_ne _ _ _ (by first | assumption | omega | (apply Ne.symm; assumption))]; first | assumption | exact hput_self _ _ _ | exact hnew_self _ _ _))) rfl (Nat.le_of_ble_eq_true rfl) rfl ?_
  refine c_sizeL (hA.l (c := 1) (by omega) hp) (kc_v dr_1 ?_)
  rw [(hA.ki hp).1]
  refine x_bipush (v := nI 16) dX6_isFull_9 (by decide) ?_
  refine x_icmp_lt (tgt := 18) dX6_isFull_11 (by decide) (fun c1 => ?_) (fun c1 => ?_)
  · have : ¬ (u.ki p).length = 16 := by have := (nI_ltI (a := (u.ki p).length) (b := 16) (by omega) (by omega)).mp c1; omega
    rw [decide_eq_false this] at hq
    refine x_iconst (v := nI 0) dX6_isFull_18 (by decide) ?_
    refine x_zreturn dX6_isFull_19 rfl (by first | rfl | assumption) ?_
    exact hq
  · have : (u.ki p).length = 16 := by
      rcases Nat.lt_or_ge (u.ki p).length 16 with q | q
      · exact absurd (nI_lt q (by omega)) c1
      · omega
    rw [decide_eq_true this] at hq
    refine x_iconst (v := nI 1) dX6_isFull_14 (by decide) ?_
    refine x_goto (tgt := 19) dX6_isFull_15 (by decide) ?_
    refine x_zreturn dX6_isFull_19 rfl (by first | rfl | assumption) ?_
    exact hq
theorem k_keep {a : Nat} {kd : Nat → Int32} (hA : RA G h x z u E X ov lv sf) (hp : p < 2) (hk : kidO h z a kd) (hl : (u.ki p).length ≤ 16) (hr : Rm G 1 h) (hq : ∀ h' E' X', RA G h' x z (kiIn u p kd) E' X' ov lv sf → KC x z 1 h h' → Q (.returned none) h') : Cx G mX6_keep (d + 7) [.ref (aP x p), .ref a] h Q := by
  show Jx G mX6_keep (d + 7) Q 0 [some (.ref (aP x p)), some (.ref a)] [] h
  obtain ⟨m1, hm1⟩ := (hA.l (c := 1) (by omega) hp).sh
  refine x_aload_n dX6_keep_0 rfl rfl ?_
  refine gf_X6_18_6 rfl dX6_keep_1 (by first | exact hA.pe hp | exact hA.f (by omega) | exact hA.ob | first | assumption | exact hput_self _ _ _ | exact hnew_self _ _ _ | (rw [hput_ne _ _ _ (by first | assumption | omega | (apply Ne.symm; assumption))]; first | assumption | exact hput_self _ _ _ | exact hnew_self _ _ _ | (rw [hput_ne _ _ _ (by first | assumption | omega | (apply Ne.symm; assumption))]; first | assumption | exact hput_self _ _ _ | exact hnew_self _ _ _) | (rw [hnew_ne _ _ _ (by first | assumption | omega | (apply Ne.symm; assumption))]; first | assumption | exact hput_self _ _ _ | exact hnew_self _ _ _)) | (rw [hnew_ne _ _ _ (by first | assumption | omega | (apply Ne.symm; assumption))]; first | assumption | exact hput_self _ _ _ | exact hnew_self _ _ _ | (rw [hput_ne _ _ _ (by first | assumption | omega | (apply Ne.symm; assumption))]; first | assumption | exact hput_self _ _ _ | exact hnew_self _ _ _) | (rw [hnew_ne _ _ _ (by first | assumption | omega | (apply Ne.symm; assumption))]; first | assumption | exact hput_self _ _ _ | exact hnew_self _ _ _))) ?_
  refine x_callF dX6_keep_4 sf_X6_88_0 rfl (by first | exact hA.pe hp | exact hA.f (by omega) | exact hA.ob | first | assumption | exact hput_self _ _ _ | exact hnew_self _ _ _ | (rw [hput_ne _ _ _ (by first | assumption | omega | (apply Ne.symm; assumption))]; first | assumption | exact hput_self _ _ _ | exact hnew_self _ _ _ | (rw [hput_ne _ _ _ (by first | assumption | omega | (apply Ne.symm; assumption))]; first | assumption | exact hput_self _ _ _ | exact hnew_self _ _ _) | (rw [hnew_ne _ _ _ (by first | assumption | omega | (apply Ne.symm; assumption))]; first | assumption | exact hput_self _ _ _ | exact hnew_self _ _ _)) | (rw [hnew_ne _ _ _ (by first | assumption | omega | (apply Ne.symm; assumption))]; first | assumption | exact hput_self _ _ _ | exact hnew_self _ _ _ | (rw [hput_ne _ _ _ (by first | assumption | omega | (apply Ne.symm; assumption))]; first | assumption | exact hput_self _ _ _ | exact hnew_self _ _ _) | (rw [hnew_ne _ _ _ (by first | assumption | omega | (apply Ne.symm; assumption))]; first | assumption | exact hput_self _ _ _ | exact hnew_self _ _ _))) rfl (Nat.le_of_ble_eq_true rfl) rfl ?_
  refine c_sizeL (hA.l (c := 1) (by omega) hp) (kc_v dr_1 ?_)
  rw [(hA.ki hp).1]
  refine x_bipush (v := nI 16) dX6_keep_9 (by decide) ?_
  refine x_icmp_ge (tgt := 25) dX6_keep_11 (by decide) (fun c1 => ?_) (fun c1 => ?_)
  · have hn : ¬ (u.ki p).length < 16 := by have := (nI_leI (a := 16) (b := (u.ki p).length) (by omega) (by omega)).mp c1; omega
    rw [kiIn, if_neg hn] at hq
    refine x_vreturn dX6_keep_25 rfl ?_
    exact hq _ _ _ hA ((KC.rf x z h).mono (by omega))
  · have hl2 : (u.ki p).length < 16 := by
      rcases Nat.lt_or_ge (u.ki p).length 16 with q | q
      · exact q
      · exact absurd (nI_le (by omega) (by omega)) c1
    rw [kiIn, if_pos hl2] at hq
    refine x_aload_n dX6_keep_14 rfl rfl ?_
    refine gf_X6_18_6 rfl dX6_keep_15 (by first | exact hA.pe hp | exact hA.f (by omega) | exact hA.ob | first | assumption | exact hput_self _ _ _ | exact hnew_self _ _ _ | (rw [hput_ne _ _ _ (by first | assumption | omega | (apply Ne.symm; assumption))]; first | assumption | exact hput_self _ _ _ | exact hnew_self _ _ _ | (rw [hput_ne _ _ _ (by first | assumption | omega | (apply Ne.symm; assumption))]; first | assumption | exact hput_self _ _ _ | exact hnew_self _ _ _) | (rw [hnew_ne _ _ _ (by first | assumption | omega | (apply Ne.symm; assumption))]; first | assumption | exact hput_self _ _ _ | exact hnew_self _ _ _)) | (rw [hnew_ne _ _ _ (by first | assumption | omega | (apply Ne.symm; assumption))]; first | assumption | exact hput_self _ _ _ | exact hnew_self _ _ _ | (rw [hput_ne _ _ _ (by first | assumption | omega | (apply Ne.symm; assumption))]; first | assumption | exact hput_self _ _ _ | exact hnew_self _ _ _) | (rw [hnew_ne _ _ _ (by first | assumption | omega | (apply Ne.symm; assumption))]; first | assumption | exact hput_self _ _ _ | exact hnew_self _ _ _))) ?_
    refine x_aload_n dX6_keep_18 rfl rfl ?_
    refine x_callF dX6_keep_19 sf_X6_269_0 rfl (by first | exact hA.pe hp | exact hA.f (by omega) | exact hA.ob | first | assumption | exact hput_self _ _ _ | exact hnew_self _ _ _ | (rw [hput_ne _ _ _ (by first | assumption | omega | (apply Ne.symm; assumption))]; first | assumption | exact hput_self _ _ _ | exact hnew_self _ _ _ | (rw [hput_ne _ _ _ (by first | assumption | omega | (apply Ne.symm; assumption))]; first | assumption | exact hput_self _ _ _ | exact hnew_self _ _ _) | (rw [hnew_ne _ _ _ (by first | assumption | omega | (apply Ne.symm; assumption))]; first | assumption | exact hput_self _ _ _ | exact hnew_self _ _ _)) | (rw [hnew_ne _ _ _ (by first | assumption | omega | (apply Ne.symm; assumption))]; first | assumption | exact hput_self _ _ _ | exact hnew_self _ _ _ | (rw [hput_ne _ _ _ (by first | assumption | omega | (apply Ne.symm; assumption))]; first | assumption | exact hput_self _ _ _ | exact hnew_self _ _ _) | (rw [hnew_ne _ _ _ (by first | assumption | omega | (apply Ne.symm; assumption))]; first | assumption | exact hput_self _ _ _ | exact hnew_self _ _ _))) rfl (Nat.le_of_ble_eq_true rfl) rfl ?_
    refine k_addK hA hp hk (by omega) hr (fun h' E' X' hA' hK' => kc_v dr_2 ?_)
    refine x_pop dX6_keep_24 rfl ?_
    refine x_vreturn dX6_keep_25 rfl ?_
    exact hq _ _ _ hA' hK'
theorem RA.lst_same (hA : RA G h x z u E X ov lv sf) (hp : p < 2) {l : List (Nat → Int32)} (hl : l = u.fl p) : RA G h x z (u.w_fl p l) E X ov lv sf := by
  have e : (u.w_fl p l).fl = u.fl := by
    funext q
    by_cases e : q = p
    · subst e
      rw [show (u.w_fl q l).fl q = l from va_up_self _ _ _, hl]
    · exact va_up_ne _ _ e
  exact hA.updA (fun _ _ _ _ _ => rfl) rfl (fun q hq => hA.pe hq) (fun q hq => hA.s hq) (fun q hq => hA.su hq) e rfl rfl (fun q hq => hA.ou hq) (fun q hq => hA.la hq)
theorem k_launch {a : Nat} {pk : Nat → Int32} (hA : RA G h x z u E X ov lv sf) (hp : p < 2) (hk : pktO h z a pk) (hl : (u.fl p).length ≤ 30) (hr : Rm G 1 h) (hq : ∀ h' E' X', RA G h' x z (u.w_fl p (flyL (u.fl p) pk)) E' X' ov lv sf → KC x z 1 h h' → Q (.returned none) h') : Cx G mX3_launch (d + 7) [.ref (aF x p), .ref a] h Q := by
  show Jx G mX3_launch (d + 7) Q 0 [some (.ref (aF x p)), some (.ref a)] [] h
  obtain ⟨m1, hm1⟩ := (hA.l (c := 0) (by omega) hp).sh
  refine x_aload_n dX3_launch_0 rfl rfl ?_
  refine gf_X3_12_4 rfl dX3_launch_1 (by first | exact hA.pe hp | exact hA.f (by omega) | exact hA.ob | first | assumption | exact hput_self _ _ _ | exact hnew_self _ _ _ | (rw [hput_ne _ _ _ (by first | assumption | omega | (apply Ne.symm; assumption))]; first | assumption | exact hput_self _ _ _ | exact hnew_self _ _ _ | (rw [hput_ne _ _ _ (by first | assumption | omega | (apply Ne.symm; assumption))]; first | assumption | exact hput_self _ _ _ | exact hnew_self _ _ _) | (rw [hnew_ne _ _ _ (by first | assumption | omega | (apply Ne.symm; assumption))]; first | assumption | exact hput_self _ _ _ | exact hnew_self _ _ _)) | (rw [hnew_ne _ _ _ (by first | assumption | omega | (apply Ne.symm; assumption))]; first | assumption | exact hput_self _ _ _ | exact hnew_self _ _ _ | (rw [hput_ne _ _ _ (by first | assumption | omega | (apply Ne.symm; assumption))]; first | assumption | exact hput_self _ _ _ | exact hnew_self _ _ _) | (rw [hnew_ne _ _ _ (by first | assumption | omega | (apply Ne.symm; assumption))]; first | assumption | exact hput_self _ _ _ | exact hnew_self _ _ _))) ?_
  refine x_callF dX3_launch_4 sf_X3_18_0 rfl (by first | exact hA.pe hp | exact hA.f (by omega) | exact hA.ob | first | assumption | exact hput_self _ _ _ | exact hnew_self _ _ _ | (rw [hput_ne _ _ _ (by first | assumption | omega | (apply Ne.symm; assumption))]; first | assumption | exact hput_self _ _ _ | exact hnew_self _ _ _ | (rw [hput_ne _ _ _ (by first | assumption | omega | (apply Ne.symm; assumption))]; first | assumption | exact hput_self _ _ _ | exact hnew_self _ _ _) | (rw [hnew_ne _ _ _ (by first | assumption | omega | (apply Ne.symm; assumption))]; first | assumption | exact hput_self _ _ _ | exact hnew_self _ _ _)) | (rw [hnew_ne _ _ _ (by first | assumption | omega | (apply Ne.symm; assumption))]; first | assumption | exact hput_self _ _ _ | exact hnew_self _ _ _ | (rw [hput_ne _ _ _ (by first | assumption | omega | (apply Ne.symm; assumption))]; first | assumption | exact hput_self _ _ _ | exact hnew_self _ _ _) | (rw [hnew_ne _ _ _ (by first | assumption | omega | (apply Ne.symm; assumption))]; first | assumption | exact hput_self _ _ _ | exact hnew_self _ _ _))) rfl (Nat.le_of_ble_eq_true rfl) rfl ?_
  refine c_sizeL (hA.l (c := 0) (by omega) hp) (kc_v dr_1 ?_)
  rw [(hA.fl hp).1]
  refine x_bipush (v := nI 30) dX3_launch_9 (by decide) ?_
  refine x_icmp_ge (tgt := 25) dX3_launch_11 (by decide) (fun c1 => ?_) (fun c1 => ?_)
  · have hn : (u.fl p).length = 30 := by have := (nI_leI (a := 30) (b := (u.fl p).length) (by omega) (by omega)).mp c1; omega
    refine x_vreturn dX3_launch_25 rfl ?_
    refine hq _ _ _ (hA.lst_same hp ?_) ((KC.rf x z h).mono (by omega))
    rw [flyL, if_pos hn]
  · have hl2 : ¬ (u.fl p).length = 30 := fun q => c1 (by rw [q]; decide)
    rw [flyL, if_neg hl2] at hq
    refine x_aload_n dX3_launch_14 rfl rfl ?_
    refine gf_X3_12_4 rfl dX3_launch_15 (by first | exact hA.pe hp | exact hA.f (by omega) | exact hA.ob | first | assumption | exact hput_self _ _ _ | exact hnew_self _ _ _ | (rw [hput_ne _ _ _ (by first | assumption | omega | (apply Ne.symm; assumption))]; first | assumption | exact hput_self _ _ _ | exact hnew_self _ _ _ | (rw [hput_ne _ _ _ (by first | assumption | omega | (apply Ne.symm; assumption))]; first | assumption | exact hput_self _ _ _ | exact hnew_self _ _ _) | (rw [hnew_ne _ _ _ (by first | assumption | omega | (apply Ne.symm; assumption))]; first | assumption | exact hput_self _ _ _ | exact hnew_self _ _ _)) | (rw [hnew_ne _ _ _ (by first | assumption | omega | (apply Ne.symm; assumption))]; first | assumption | exact hput_self _ _ _ | exact hnew_self _ _ _ | (rw [hput_ne _ _ _ (by first | assumption | omega | (apply Ne.symm; assumption))]; first | assumption | exact hput_self _ _ _ | exact hnew_self _ _ _) | (rw [hnew_ne _ _ _ (by first | assumption | omega | (apply Ne.symm; assumption))]; first | assumption | exact hput_self _ _ _ | exact hnew_self _ _ _))) ?_
    refine x_aload_n dX3_launch_18 rfl rfl ?_
    refine x_callF dX3_launch_19 sf_X3_24_0 rfl (by first | exact hA.pe hp | exact hA.f (by omega) | exact hA.ob | first | assumption | exact hput_self _ _ _ | exact hnew_self _ _ _ | (rw [hput_ne _ _ _ (by first | assumption | omega | (apply Ne.symm; assumption))]; first | assumption | exact hput_self _ _ _ | exact hnew_self _ _ _ | (rw [hput_ne _ _ _ (by first | assumption | omega | (apply Ne.symm; assumption))]; first | assumption | exact hput_self _ _ _ | exact hnew_self _ _ _) | (rw [hnew_ne _ _ _ (by first | assumption | omega | (apply Ne.symm; assumption))]; first | assumption | exact hput_self _ _ _ | exact hnew_self _ _ _)) | (rw [hnew_ne _ _ _ (by first | assumption | omega | (apply Ne.symm; assumption))]; first | assumption | exact hput_self _ _ _ | exact hnew_self _ _ _ | (rw [hput_ne _ _ _ (by first | assumption | omega | (apply Ne.symm; assumption))]; first | assumption | exact hput_self _ _ _ | exact hnew_self _ _ _) | (rw [hnew_ne _ _ _ (by first | assumption | omega | (apply Ne.symm; assumption))]; first | assumption | exact hput_self _ _ _ | exact hnew_self _ _ _))) rfl (Nat.le_of_ble_eq_true rfl) rfl ?_
    refine k_addF hA hp hk hl hr (fun h' E' X' hA' hK' => kc_v dr_2 ?_)
    refine x_pop dX3_launch_24 rfl ?_
    refine x_vreturn dX3_launch_25 rfl ?_
    exact hq _ _ _ hA' hK'
end K2X
