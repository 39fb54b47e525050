section K10X
variable {G : GT} {d : Nat} {Q : Outcome → Hp → Prop} {h : Hp} {x z p : Nat} {u : Ut} {E : Nat → Nat → Nat} {X : Nat → Nat → List Nat} {ov lv : Nat → Option Nat} {sf : Nat → Nat → Int32}
theorem k_rr_105 {a r : Nat} {md : Nat → Int32} (hA : RA G h x z u E X ov lv sf) (hp : p < 2) (hlv : lv p = some a) (ha : ansW h z a md) (hfl : (u.fl (1 - p)).length ≤ 30) (hr : Rm G 1 h) (hq : ∀ h' E' X', RA G h' x z (u.w_fl (1 - p) (flyL (u.fl (1 - p)) md)) E' X' ov lv sf → KC x z 1 h h' → Q (.returned (some (.int (nI 1)))) h') : Jx G mX6_receiveRequest (d + 10) Q 105 [some (.ref (aP x p)), some (.ref r)] [] h := by
  refine x_aload_n dX6_receiveRequest_105 rfl rfl ?_
  refine gf_X6_29_6 rfl dX6_receiveRequest_106 (by first | exact hA.pe hp | exact hA.f (by omega) | exact hA.ob | first | assumption | exact hput_self _ _ _ | exact hnew_self _ _ _ | (rw [hput_ne _ _ _ (by first | assumption | omega | (apply Ne.symm; assumption))]; first | assumption | exact hput_self _ _ _ | exact hnew_self _ _ _ | (rw [hput_ne _ _ _ (by first | assumption | omega | (apply Ne.symm; assumption))]; first | assumption | exact hput_self _ _ _ | exact hnew_self _ _ _) | (rw [hnew_ne _ _ _ (by first | assumption | omega | (apply Ne.symm; assumption))]; first | assumption | exact hput_self _ _ _ | exact hnew_self _ _ _)) | (rw [hnew_ne _ _ _ (by first | assumption | omega | (apply Ne.symm; assumption))]; first | assumption | exact hput_self _ _ _ | exact hnew_self _ _ _ | (rw [hput_ne _ _ _ (by first | assumption | omega | (apply Ne.symm; assumption))]; first | assumption | exact hput_self _ _ _ | exact hnew_self _ _ _) | (rw [hnew_ne _ _ _ (by first | assumption | omega | (apply Ne.symm; assumption))]; first | assumption | exact hput_self _ _ _ | exact hnew_self _ _ _))) ?_
  refine x_aload_n dX6_receiveRequest_109 rfl rfl ?_
  refine gf_X6_66_6 rfl dX6_receiveRequest_110 (by first | exact hA.pe hp | exact hA.f (by omega) | exact hA.ob | first | assumption | exact hput_self _ _ _ | exact hnew_self _ _ _ | (rw [hput_ne _ _ _ (by first | assumption | omega | (apply Ne.symm; assumption))]; first | assumption | exact hput_self _ _ _ | exact hnew_self _ _ _ | (rw [hput_ne _ _ _ (by first | assumption | omega | (apply Ne.symm; assumption))]; first | assumption | exact hput_self _ _ _ | exact hnew_self _ _ _) | (rw [hnew_ne _ _ _ (by first | assumption | omega | (apply Ne.symm; assumption))]; first | assumption | exact hput_self _ _ _ | exact hnew_self _ _ _)) | (rw [hnew_ne _ _ _ (by first | assumption | omega | (apply Ne.symm; assumption))]; first | assumption | exact hput_self _ _ _ | exact hnew_self _ _ _ | (rw [hput_ne _ _ _ (by first | assumption | omega | (apply Ne.symm; assumption))]; first | assumption | exact hput_self _ _ _ | exact hnew_self _ _ _) | (rw [hnew_ne _ _ _ (by first | assumption | omega | (apply Ne.symm; assumption))]; first | assumption | exact hput_self _ _ _ | exact hnew_self _ _ _))) ?_
  rw [hlv]
  have hpp : 1 - p < 2 := by omega
  refine x_callV dX6_receiveRequest_113 sv_X6_160_4 rfl (hA.f hpp) rfl (Nat.le_of_ble_eq_true rfl) rfl ?_
  refine k_launch hA hpp (Or.inr ha) hfl hr (fun h' E' X' hA' hK' => kc_n dr_2 ?_)
  refine x_iconst (v := nI 1) dX6_receiveRequest_116 (by decide) ?_
  refine x_ireturn dX6_receiveRequest_117 rfl ?_
  exact hq _ _ _ hA' hK'
theorem k_rr_put {a r : Nat} {md : Nat → Int32} (hA : RA G h x z u E X ov lv sf) (hp : p < 2) (ha : ansW h z a md) (hfl : (u.fl (1 - p)).length ≤ 30) (hr : Rm G 1 h) (hq : ∀ h' E' X', RA G h' x z (laU u p md) E' X' ov (va_up lv p (some a)) sf → KC x z 1 h h' → Q (.returned (some (.int (nI 1)))) h') : Jx G mX6_receiveRequest (d + 10) Q 105 [some (.ref (aP x p)), some (.ref r)] [] (hput h (aP x p) (.inr (6, [.int (nI p), .ref (aF x (1 - p)), .ref (aS x p), .int (nI (u.su p).length), .int (u.lo p), .int (u.hi p), .int (u.no p), .int (u.mk p), .ref (aL x 1 p), .ref (aL x 2 p), va_rf (ov p), .int (u.se p), .int (u.sp p), .int (u.wt p), .int (nI (u.nn p)), .int (nI (u.na p)), va_rf (some a), .int (bI (u.de p))]))) := by
  obtain ⟨hA1, hK1⟩ := hA.v_la hp (some a) md (Or.inr ⟨a, rfl, ha⟩)
  refine k_rr_105 hA1 hp (va_up_self _ _ _) (ha.kept hK1.kp) hfl (hr.after hK1 (by omega)) (fun h' E' X' q1 q2 => hq _ _ _ q1 ((hK1.trans q2).mono (by omega)))
theorem lvOK_put {lv : Nat → Option Nat} {u : Ut} {p a : Nat} {md : Nat → Int32} (h : lvOK lv u) (hna : 0 < u.na p) : lvOK (va_up lv p (some a)) (laU u p md) := by
  intro q hq
  show va_up lv p (some a) q = none ↔ u.na q = 0
  by_cases e : q = p
  · subst e
    rw [va_up_self]
    constructor
    · intro q
      cases q
    · intro q
      omega
  · rw [va_up_ne _ _ e]
    exact h q hq
theorem ansOpen_na (u : Ut) (p : Nat) (pk : Nat → Int32) (off : List Int32) : (ansOpen u p pk off).1.na = u.na ∧ (ansOpen u p pk off).1.fl = u.fl := by
  unfold ansOpen ansO
  split <;> exact ⟨rfl, rfl⟩
theorem ansRenew_na (u : Ut) (p : Nat) (pk : Nat → Int32) : (ansRenew u p pk).1.na = u.na ∧ (ansRenew u p pk).1.fl = u.fl := by
  unfold ansRenew
  split
  · exact ⟨rfl, rfl⟩
  · split <;> exact ⟨rfl, rfl⟩
theorem kiOut_na (u : Ut) (p : Nat) (o : Option Nat) : (kiOut u p o).na = u.na ∧ (kiOut u p o).fl = u.fl := by
  cases o <;> exact ⟨rfl, rfl⟩
theorem lvOK_na {lv : Nat → Option Nat} {u u' : Ut} (h : ∀ q, q < 2 → q ≠ p → (lv q = none ↔ u.na q = 0)) (hn : ∀ q, q ≠ p → u'.na q = u.na q) (hp : 0 < u'.na p) {a : Nat} {md : Nat → Int32} : lvOK (va_up lv p (some a)) (laU u' p md) := by
  intro q hq
  show va_up lv p (some a) q = none ↔ u'.na q = 0
  by_cases e : q = p
  · subst e
    rw [va_up_self]
    constructor
    · intro q
      cases q
    · intro q
      omega
  · rw [va_up_ne _ _ e, hn q e]
    exact h q hq e
theorem k_receiveRequest {r n : Nat} {pk : Nat → Int32} (hA : RA G h x z u E X ov lv sf) (hp : p < 2) (hreq : reqO h z r pk) (hn : pk 1 = nI n) (hn31 : n < 2 ^ 31) (hlv : lvOK lv u) (hla : 0 < u.na p → u.la p 1 = nI (u.na p - 1)) (hna31 : u.na p < 2 ^ 31) (hl : (u.ki p).length ≤ 16) (hfl : (u.fl (1 - p)).length ≤ 30) (hmk : ∀ i j (hi : i < (u.ki p).length) (hj : j < (u.ki p).length), (u.ki p)[i] 0 = (u.ki p)[j] 0 → i = j) (hr : Rm G 5 h)
    (hq : ∀ h' E' X' lv', RA G h' x z (reqU u p pk (offOf pk)).1 E' X' ov lv' sf → KC x z 5 h h' → lvOK lv' (reqU u p pk (offOf pk)).1 → Q (.returned (some (.int (reqU u p pk (offOf pk)).2))) h') : Cx G mX6_receiveRequest (d + 10) [.ref (aP x p), .ref r] h Q := by
  show Jx G mX6_receiveRequest (d + 10) Q 0 [some (.ref (aP x p)), some (.ref r)] [] h
  obtain ⟨so, oo, hrc⟩ := hreq.cell
  have hpp : 1 - p < 2 := by omega
  have rest : ¬ pk 1 = nI (u.na p) - nI 1 → Jx G mX6_receiveRequest (d + 10) Q 34 [some (.ref (aP x p)), some (.ref r)] [] h := by
    intro hne
    unfold reqU at hq
    rw [if_neg hne] at hq
    refine x_aload_n dX6_receiveRequest_34 rfl rfl ?_
    refine gf_X6_74_7 rfl dX6_receiveRequest_35 (by first | exact hA.pe hp | exact hA.f (by omega) | exact hA.ob | first | assumption | exact hput_self _ _ _ | exact hnew_self _ _ _ | (rw [hput_ne _ _ _ (by first | assumption | omega | (apply Ne.symm; assumption))]; first | assumption | exact hput_self _ _ _ | exact hnew_self _ _ _ | (rw [hput_ne _ _ _ (by first | assumption | omega | (apply Ne.symm; assumption))]; first | assumption | exact hput_self _ _ _ | exact hnew_self _ _ _) | (rw [hnew_ne _ _ _ (by first | assumption | omega | (apply Ne.symm; assumption))]; first | assumption | exact hput_self _ _ _ | exact hnew_self _ _ _)) | (rw [hnew_ne _ _ _ (by first | assumption | omega | (apply Ne.symm; assumption))]; first | assumption | exact hput_self _ _ _ | exact hnew_self _ _ _ | (rw [hput_ne _ _ _ (by first | assumption | omega | (apply Ne.symm; assumption))]; first | assumption | exact hput_self _ _ _ | exact hnew_self _ _ _) | (rw [hnew_ne _ _ _ (by first | assumption | omega | (apply Ne.symm; assumption))]; first | assumption | exact hput_self _ _ _ | exact hnew_self _ _ _))) ?_
    refine x_aload_n dX6_receiveRequest_38 rfl rfl ?_
    refine gf_X6_63_6 rfl dX6_receiveRequest_39 (by first | exact hA.pe hp | exact hA.f (by omega) | exact hA.ob | first | assumption | exact hput_self _ _ _ | exact hnew_self _ _ _ | (rw [hput_ne _ _ _ (by first | assumption | omega | (apply Ne.symm; assumption))]; first | assumption | exact hput_self _ _ _ | exact hnew_self _ _ _ | (rw [hput_ne _ _ _ (by first | assumption | omega | (apply Ne.symm; assumption))]; first | assumption | exact hput_self _ _ _ | exact hnew_self _ _ _) | (rw [hnew_ne _ _ _ (by first | assumption | omega | (apply Ne.symm; assumption))]; first | assumption | exact hput_self _ _ _ | exact hnew_self _ _ _)) | (rw [hnew_ne _ _ _ (by first | assumption | omega | (apply Ne.symm; assumption))]; first | assumption | exact hput_self _ _ _ | exact hnew_self _ _ _ | (rw [hput_ne _ _ _ (by first | assumption | omega | (apply Ne.symm; assumption))]; first | assumption | exact hput_self _ _ _ | exact hnew_self _ _ _) | (rw [hnew_ne _ _ _ (by first | assumption | omega | (apply Ne.symm; assumption))]; first | assumption | exact hput_self _ _ _ | exact hnew_self _ _ _))) ?_
    refine x_icmp_eq (tgt := 47) dX6_receiveRequest_42 (by decide) (fun c1 => ?_) (fun c1 => ?_)
    · have c1' : pk 1 = nI (u.na p) := c1
      rw [if_pos c1'] at hq
      simp only at hq
      refine x_aload_n dX6_receiveRequest_47 rfl rfl ?_
      refine x_dup dX6_receiveRequest_48 rfl ?_
      refine gf_X6_63_6 rfl dX6_receiveRequest_49 (by first | exact hA.pe hp | exact hA.f (by omega) | exact hA.ob | first | assumption | exact hput_self _ _ _ | exact hnew_self _ _ _ | (rw [hput_ne _ _ _ (by first | assumption | omega | (apply Ne.symm; assumption))]; first | assumption | exact hput_self _ _ _ | exact hnew_self _ _ _ | (rw [hput_ne _ _ _ (by first | assumption | omega | (apply Ne.symm; assumption))]; first | assumption | exact hput_self _ _ _ | exact hnew_self _ _ _) | (rw [hnew_ne _ _ _ (by first | assumption | omega | (apply Ne.symm; assumption))]; first | assumption | exact hput_self _ _ _ | exact hnew_self _ _ _)) | (rw [hnew_ne _ _ _ (by first | assumption | omega | (apply Ne.symm; assumption))]; first | assumption | exact hput_self _ _ _ | exact hnew_self _ _ _ | (rw [hput_ne _ _ _ (by first | assumption | omega | (apply Ne.symm; assumption))]; first | assumption | exact hput_self _ _ _ | exact hnew_self _ _ _) | (rw [hnew_ne _ _ _ (by first | assumption | omega | (apply Ne.symm; assumption))]; first | assumption | exact hput_self _ _ _ | exact hnew_self _ _ _))) ?_
      refine x_iconst (v := nI 1) dX6_receiveRequest_52 (by decide) ?_
      refine x_iadd dX6_receiveRequest_53 ?_
      try simp only [pk_mul, nI_add]
      refine pf_X6_63_6 rfl dX6_receiveRequest_54 (by first | exact hA.pe hp | exact hA.f (by omega) | exact hA.ob | first | assumption | exact hput_self _ _ _ | exact hnew_self _ _ _ | (rw [hput_ne _ _ _ (by first | assumption | omega | (apply Ne.symm; assumption))]; first | assumption | exact hput_self _ _ _ | exact hnew_self _ _ _ | (rw [hput_ne _ _ _ (by first | assumption | omega | (apply Ne.symm; assumption))]; first | assumption | exact hput_self _ _ _ | exact hnew_self _ _ _) | (rw [hnew_ne _ _ _ (by first | assumption | omega | (apply Ne.symm; assumption))]; first | assumption | exact hput_self _ _ _ | exact hnew_self _ _ _)) | (rw [hnew_ne _ _ _ (by first | assumption | omega | (apply Ne.symm; assumption))]; first | assumption | exact hput_self _ _ _ | exact hnew_self _ _ _ | (rw [hput_ne _ _ _ (by first | assumption | omega | (apply Ne.symm; assumption))]; first | assumption | exact hput_self _ _ _ | exact hnew_self _ _ _) | (rw [hnew_ne _ _ _ (by first | assumption | omega | (apply Ne.symm; assumption))]; first | assumption | exact hput_self _ _ _ | exact hnew_self _ _ _))) rfl rfl ?_
      obtain ⟨hA1, hK1⟩ := hA.v_na hp (u.na p + 1)
      replace hA := hA1
      replace hreq := hreq.kept hK1.kp
      obtain ⟨so, oo, hrc⟩ := hreq.cell
      have hr1 := hr.after hK1 (k2 := 5) (by omega)
      have hlo : ∀ (u' : Ut) (a : Nat) (md : Nat → Int32), u'.na = (u.w_na p (u.na p + 1)).na → lvOK (va_up lv p (some a)) (laU u' p md) := by
        intro u' a md e
        refine lvOK_na (u := u) (fun q hq _ => hlv q hq) (fun q e2 => ?_) ?_
        · rw [e]
          exact va_up_ne _ _ e2
        · rw [e]
          show 0 < va_up u.na p (u.na p + 1) p
          rw [va_up_self]
          omega
      refine x_aload_n dX6_receiveRequest_57 rfl rfl ?_
      refine gf_X6_79_7 rfl dX6_receiveRequest_58 (by first | exact hA.pe hp | exact hA.f (by omega) | exact hA.ob | first | assumption | exact hput_self _ _ _ | exact hnew_self _ _ _ | (rw [hput_ne _ _ _ (by first | assumption | omega | (apply Ne.symm; assumption))]; first | assumption | exact hput_self _ _ _ | exact hnew_self _ _ _ | (rw [hput_ne _ _ _ (by first | assumption | omega | (apply Ne.symm; assumption))]; first | assumption | exact hput_self _ _ _ | exact hnew_self _ _ _) | (rw [hnew_ne _ _ _ (by first | assumption | omega | (apply Ne.symm; assumption))]; first | assumption | exact hput_self _ _ _ | exact hnew_self _ _ _)) | (rw [hnew_ne _ _ _ (by first | assumption | omega | (apply Ne.symm; assumption))]; first | assumption | exact hput_self _ _ _ | exact hnew_self _ _ _ | (rw [hput_ne _ _ _ (by first | assumption | omega | (apply Ne.symm; assumption))]; first | assumption | exact hput_self _ _ _ | exact hnew_self _ _ _) | (rw [hnew_ne _ _ _ (by first | assumption | omega | (apply Ne.symm; assumption))]; first | assumption | exact hput_self _ _ _ | exact hnew_self _ _ _))) ?_
      refine x_if_ne (tgt := 76) dX6_receiveRequest_61 (by decide) (fun c2 => ?_) (fun c2 => ?_)
      · refine x_aload_n dX6_receiveRequest_76 rfl rfl ?_
        refine gf_X6_79_7 rfl dX6_receiveRequest_77 (by first | exact hA.pe hp | exact hA.f (by omega) | exact hA.ob | first | assumption | exact hput_self _ _ _ | exact hnew_self _ _ _ | (rw [hput_ne _ _ _ (by first | assumption | omega | (apply Ne.symm; assumption))]; first | assumption | exact hput_self _ _ _ | exact hnew_self _ _ _ | (rw [hput_ne _ _ _ (by first | assumption | omega | (apply Ne.symm; assumption))]; first | assumption | exact hput_self _ _ _ | exact hnew_self _ _ _) | (rw [hnew_ne _ _ _ (by first | assumption | omega | (apply Ne.symm; assumption))]; first | assumption | exact hput_self _ _ _ | exact hnew_self _ _ _)) | (rw [hnew_ne _ _ _ (by first | assumption | omega | (apply Ne.symm; assumption))]; first | assumption | exact hput_self _ _ _ | exact hnew_self _ _ _ | (rw [hput_ne _ _ _ (by first | assumption | omega | (apply Ne.symm; assumption))]; first | assumption | exact hput_self _ _ _ | exact hnew_self _ _ _) | (rw [hnew_ne _ _ _ (by first | assumption | omega | (apply Ne.symm; assumption))]; first | assumption | exact hput_self _ _ _ | exact hnew_self _ _ _))) ?_
        refine x_iconst (v := nI 1) dX6_receiveRequest_80 (by decide) ?_
        refine x_icmp_ne (tgt := 96) dX6_receiveRequest_81 (by decide) (fun c3 => ?_) (fun c3 => ?_)
        · have hk2 : pk 2 = nI 2 := by
            obtain ⟨-, -, -, ⟨q, -⟩ | ⟨q, -⟩⟩ := hreq
            · exact absurd q c2
            · rcases q with q | q
              · exact absurd q c3
              · exact q
          simp only [reqA, if_neg c2] at hq
          rw [if_neg c3] at hq
          refine x_aload_n dX6_receiveRequest_96 rfl rfl ?_
          refine x_aload_n dX6_receiveRequest_97 rfl rfl ?_
          refine x_aload_n dX6_receiveRequest_98 rfl rfl ?_
          refine x_callV dX6_receiveRequest_99 sv_X6_184_6 rfl (by first | exact hA.pe hp | exact hA.f (by omega) | exact hA.ob | first | assumption | exact hput_self _ _ _ | exact hnew_self _ _ _ | (rw [hput_ne _ _ _ (by first | assumption | omega | (apply Ne.symm; assumption))]; first | assumption | exact hput_self _ _ _ | exact hnew_self _ _ _ | (rw [hput_ne _ _ _ (by first | assumption | omega | (apply Ne.symm; assumption))]; first | assumption | exact hput_self _ _ _ | exact hnew_self _ _ _) | (rw [hnew_ne _ _ _ (by first | assumption | omega | (apply Ne.symm; assumption))]; first | assumption | exact hput_self _ _ _ | exact hnew_self _ _ _)) | (rw [hnew_ne _ _ _ (by first | assumption | omega | (apply Ne.symm; assumption))]; first | assumption | exact hput_self _ _ _ | exact hnew_self _ _ _ | (rw [hput_ne _ _ _ (by first | assumption | omega | (apply Ne.symm; assumption))]; first | assumption | exact hput_self _ _ _ | exact hnew_self _ _ _) | (rw [hnew_ne _ _ _ (by first | assumption | omega | (apply Ne.symm; assumption))]; first | assumption | exact hput_self _ _ _ | exact hnew_self _ _ _))) rfl (Nat.le_of_ble_eq_true rfl) rfl ?_
          refine k_answerToDelete (d := d + 5) hA hp hreq hk2 hl hmk (hr1.after (KC.rf x z _) (by omega)) (fun h2 E2 X2 a hA2 hK2 ha => kc_v dr_2 ?_)
          have hnf := kiOut_na (u.w_na p (u.na p + 1)) p (((u.w_na p (u.na p + 1)).ki p).findIdx? (fun kd => decide (kd 1 = pk 6)))
          replace hA := hA2
          refine pf_X6_66_6 rfl dX6_receiveRequest_102 (by first | exact hA.pe hp | exact hA.f (by omega) | exact hA.ob | first | assumption | exact hput_self _ _ _ | exact hnew_self _ _ _ | (rw [hput_ne _ _ _ (by first | assumption | omega | (apply Ne.symm; assumption))]; first | assumption | exact hput_self _ _ _ | exact hnew_self _ _ _ | (rw [hput_ne _ _ _ (by first | assumption | omega | (apply Ne.symm; assumption))]; first | assumption | exact hput_self _ _ _ | exact hnew_self _ _ _) | (rw [hnew_ne _ _ _ (by first | assumption | omega | (apply Ne.symm; assumption))]; first | assumption | exact hput_self _ _ _ | exact hnew_self _ _ _)) | (rw [hnew_ne _ _ _ (by first | assumption | omega | (apply Ne.symm; assumption))]; first | assumption | exact hput_self _ _ _ | exact hnew_self _ _ _ | (rw [hput_ne _ _ _ (by first | assumption | omega | (apply Ne.symm; assumption))]; first | assumption | exact hput_self _ _ _ | exact hnew_self _ _ _) | (rw [hnew_ne _ _ _ (by first | assumption | omega | (apply Ne.symm; assumption))]; first | assumption | exact hput_self _ _ _ | exact hnew_self _ _ _))) rfl rfl ?_
          refine k_rr_put hA hp ha (by rw [show (ansDel (u.w_na p (u.na p + 1)) p pk).1.fl = u.fl from hnf.2]; exact hfl) ((hr1.after hK2 (k2 := 4) (by omega)).after (KC.rf x z h2) (by omega)) (fun h' E' X' q1 q2 => hq _ _ _ _ q1 ((hK1.trans (hK2.trans q2)).mono (by omega)) (hlo _ _ _ hnf.1))
        · have hk2 : pk 2 = nI 1 := c3
          simp only [reqA, if_neg c2] at hq
          rw [if_pos hk2] at hq
          refine x_aload_n dX6_receiveRequest_84 rfl rfl ?_
          refine x_aload_n dX6_receiveRequest_85 rfl rfl ?_
          refine x_aload_n dX6_receiveRequest_86 rfl rfl ?_
          refine x_callV dX6_receiveRequest_87 sv_X6_181_6 rfl (by first | exact hA.pe hp | exact hA.f (by omega) | exact hA.ob | first | assumption | exact hput_self _ _ _ | exact hnew_self _ _ _ | (rw [hput_ne _ _ _ (by first | assumption | omega | (apply Ne.symm; assumption))]; first | assumption | exact hput_self _ _ _ | exact hnew_self _ _ _ | (rw [hput_ne _ _ _ (by first | assumption | omega | (apply Ne.symm; assumption))]; first | assumption | exact hput_self _ _ _ | exact hnew_self _ _ _) | (rw [hnew_ne _ _ _ (by first | assumption | omega | (apply Ne.symm; assumption))]; first | assumption | exact hput_self _ _ _ | exact hnew_self _ _ _)) | (rw [hnew_ne _ _ _ (by first | assumption | omega | (apply Ne.symm; assumption))]; first | assumption | exact hput_self _ _ _ | exact hnew_self _ _ _ | (rw [hput_ne _ _ _ (by first | assumption | omega | (apply Ne.symm; assumption))]; first | assumption | exact hput_self _ _ _ | exact hnew_self _ _ _) | (rw [hnew_ne _ _ _ (by first | assumption | omega | (apply Ne.symm; assumption))]; first | assumption | exact hput_self _ _ _ | exact hnew_self _ _ _))) rfl (Nat.le_of_ble_eq_true rfl) rfl ?_
          refine k_answerToRenew hA hp hreq hk2 hl (hr1.after (KC.rf x z _) (by omega)) (fun h2 E2 X2 a hA2 hK2 ha => kc_v dr_2 ?_)
          have hnf := ansRenew_na (u.w_na p (u.na p + 1)) p pk
          replace hA := hA2
          refine pf_X6_66_6 rfl dX6_receiveRequest_90 (by first | exact hA.pe hp | exact hA.f (by omega) | exact hA.ob | first | assumption | exact hput_self _ _ _ | exact hnew_self _ _ _ | (rw [hput_ne _ _ _ (by first | assumption | omega | (apply Ne.symm; assumption))]; first | assumption | exact hput_self _ _ _ | exact hnew_self _ _ _ | (rw [hput_ne _ _ _ (by first | assumption | omega | (apply Ne.symm; assumption))]; first | assumption | exact hput_self _ _ _ | exact hnew_self _ _ _) | (rw [hnew_ne _ _ _ (by first | assumption | omega | (apply Ne.symm; assumption))]; first | assumption | exact hput_self _ _ _ | exact hnew_self _ _ _)) | (rw [hnew_ne _ _ _ (by first | assumption | omega | (apply Ne.symm; assumption))]; first | assumption | exact hput_self _ _ _ | exact hnew_self _ _ _ | (rw [hput_ne _ _ _ (by first | assumption | omega | (apply Ne.symm; assumption))]; first | assumption | exact hput_self _ _ _ | exact hnew_self _ _ _) | (rw [hnew_ne _ _ _ (by first | assumption | omega | (apply Ne.symm; assumption))]; first | assumption | exact hput_self _ _ _ | exact hnew_self _ _ _))) rfl rfl ?_
          refine x_goto (tgt := 105) dX6_receiveRequest_93 (by decide) ?_
          refine k_rr_put hA hp ha (by rw [hnf.2]; exact hfl) (hr1.after hK2 (by omega)) (fun h' E' X' q1 q2 => hq _ _ _ _ q1 ((hK1.trans (hK2.trans q2)).mono (by omega)) (hlo _ _ _ hnf.1))
      · have hk2 : pk 2 = 0 := c2
        simp only [reqA, if_pos hk2] at hq
        refine x_aload_n dX6_receiveRequest_64 rfl rfl ?_
        refine x_aload_n dX6_receiveRequest_65 rfl rfl ?_
        refine x_aload_n dX6_receiveRequest_66 rfl rfl ?_
        refine x_callV dX6_receiveRequest_67 sv_X6_177_6 rfl (by first | exact hA.pe hp | exact hA.f (by omega) | exact hA.ob | first | assumption | exact hput_self _ _ _ | exact hnew_self _ _ _ | (rw [hput_ne _ _ _ (by first | assumption | omega | (apply Ne.symm; assumption))]; first | assumption | exact hput_self _ _ _ | exact hnew_self _ _ _ | (rw [hput_ne _ _ _ (by first | assumption | omega | (apply Ne.symm; assumption))]; first | assumption | exact hput_self _ _ _ | exact hnew_self _ _ _) | (rw [hnew_ne _ _ _ (by first | assumption | omega | (apply Ne.symm; assumption))]; first | assumption | exact hput_self _ _ _ | exact hnew_self _ _ _)) | (rw [hnew_ne _ _ _ (by first | assumption | omega | (apply Ne.symm; assumption))]; first | assumption | exact hput_self _ _ _ | exact hnew_self _ _ _ | (rw [hput_ne _ _ _ (by first | assumption | omega | (apply Ne.symm; assumption))]; first | assumption | exact hput_self _ _ _ | exact hnew_self _ _ _) | (rw [hnew_ne _ _ _ (by first | assumption | omega | (apply Ne.symm; assumption))]; first | assumption | exact hput_self _ _ _ | exact hnew_self _ _ _))) rfl (Nat.le_of_ble_eq_true rfl) rfl ?_
        refine k_answerToOpen hA hp hreq hk2 hl (hr1.after (KC.rf x z _) (by omega)) (fun h2 E2 X2 a hA2 hK2 ha => kc_v dr_2 ?_)
        have hnf := ansOpen_na (u.w_na p (u.na p + 1)) p pk (offOf pk)
        replace hA := hA2
        refine pf_X6_66_6 rfl dX6_receiveRequest_70 (by first | exact hA.pe hp | exact hA.f (by omega) | exact hA.ob | first | assumption | exact hput_self _ _ _ | exact hnew_self _ _ _ | (rw [hput_ne _ _ _ (by first | assumption | omega | (apply Ne.symm; assumption))]; first | assumption | exact hput_self _ _ _ | exact hnew_self _ _ _ | (rw [hput_ne _ _ _ (by first | assumption | omega | (apply Ne.symm; assumption))]; first | assumption | exact hput_self _ _ _ | exact hnew_self _ _ _) | (rw [hnew_ne _ _ _ (by first | assumption | omega | (apply Ne.symm; assumption))]; first | assumption | exact hput_self _ _ _ | exact hnew_self _ _ _)) | (rw [hnew_ne _ _ _ (by first | assumption | omega | (apply Ne.symm; assumption))]; first | assumption | exact hput_self _ _ _ | exact hnew_self _ _ _ | (rw [hput_ne _ _ _ (by first | assumption | omega | (apply Ne.symm; assumption))]; first | assumption | exact hput_self _ _ _ | exact hnew_self _ _ _) | (rw [hnew_ne _ _ _ (by first | assumption | omega | (apply Ne.symm; assumption))]; first | assumption | exact hput_self _ _ _ | exact hnew_self _ _ _))) rfl rfl ?_
        refine x_goto (tgt := 105) dX6_receiveRequest_73 (by decide) ?_
        refine k_rr_put hA hp ha (by rw [hnf.2]; exact hfl) (hr1.after hK2 (by omega)) (fun h' E' X' q1 q2 => hq _ _ _ _ q1 ((hK1.trans (hK2.trans q2)).mono (by omega)) (hlo _ _ _ hnf.1))
    · have c1' : ¬ pk 1 = nI (u.na p) := c1
      rw [if_neg c1'] at hq
      refine x_iconst (v := nI 0) dX6_receiveRequest_45 (by decide) ?_
      refine x_ireturn dX6_receiveRequest_46 rfl ?_
      exact hq _ _ _ _ hA ((KC.rf x z h).mono (by omega)) hlv
  refine x_aload_n dX6_receiveRequest_0 rfl rfl ?_
  refine gf_X6_66_6 rfl dX6_receiveRequest_1 (by first | exact hA.pe hp | exact hA.f (by omega) | exact hA.ob | first | assumption | exact hput_self _ _ _ | exact hnew_self _ _ _ | (rw [hput_ne _ _ _ (by first | assumption | omega | (apply Ne.symm; assumption))]; first | assumption | exact hput_self _ _ _ | exact hnew_self _ _ _ | (rw [hput_ne _ _ _ (by first | assumption | omega | (apply Ne.symm; assumption))]; first | assumption | exact hput_self _ _ _ | exact hnew_self _ _ _) | (rw [hnew_ne _ _ _ (by first | assumption | omega | (apply Ne.symm; assumption))]; first | assumption | exact hput_self _ _ _ | exact hnew_self _ _ _)) | (rw [hnew_ne _ _ _ (by first | assumption | omega | (apply Ne.symm; assumption))]; first | assumption | exact hput_self _ _ _ | exact hnew_self _ _ _ | (rw [hput_ne _ _ _ (by first | assumption | omega | (apply Ne.symm; assumption))]; first | assumption | exact hput_self _ _ _ | exact hnew_self _ _ _) | (rw [hnew_ne _ _ _ (by first | assumption | omega | (apply Ne.symm; assumption))]; first | assumption | exact hput_self _ _ _ | exact hnew_self _ _ _))) ?_
  refine x_ifnull (tgt := 34) dX6_receiveRequest_4 (by decide) (fun c0 => ?_) (fun c0a c0 => ?_)
  · refine rest ?_
    rw [(hlv p hp).mp c0, hn]
    intro e
    have : nI n < 0 := by rw [e]; decide
    exact nI_pos hn31 this
  · have hlp : lv p = some c0a := c0
    have hna : 0 < u.na p := by
      rcases Nat.eq_zero_or_pos (u.na p) with q | q
      · rw [(hlv p hp).mpr q] at hlp
        cases hlp
      · exact q
    have ha : ansW h z c0a (u.la p) := by
      rcases hA.la hp with q | ⟨a, q1, q2⟩
      · rw [q] at hlp
        cases hlp
      · rw [hlp] at q1
        cases q1
        exact q2
    obtain ⟨-, -, -, b, dv, -, hac, -⟩ := id ha
    refine x_aload_n dX6_receiveRequest_7 rfl rfl ?_
    refine gf_X6_74_7 rfl dX6_receiveRequest_8 (by first | exact hA.pe hp | exact hA.f (by omega) | exact hA.ob | first | assumption | exact hput_self _ _ _ | exact hnew_self _ _ _ | (rw [hput_ne _ _ _ (by first | assumption | omega | (apply Ne.symm; assumption))]; first | assumption | exact hput_self _ _ _ | exact hnew_self _ _ _ | (rw [hput_ne _ _ _ (by first | assumption | omega | (apply Ne.symm; assumption))]; first | assumption | exact hput_self _ _ _ | exact hnew_self _ _ _) | (rw [hnew_ne _ _ _ (by first | assumption | omega | (apply Ne.symm; assumption))]; first | assumption | exact hput_self _ _ _ | exact hnew_self _ _ _)) | (rw [hnew_ne _ _ _ (by first | assumption | omega | (apply Ne.symm; assumption))]; first | assumption | exact hput_self _ _ _ | exact hnew_self _ _ _ | (rw [hput_ne _ _ _ (by first | assumption | omega | (apply Ne.symm; assumption))]; first | assumption | exact hput_self _ _ _ | exact hnew_self _ _ _) | (rw [hnew_ne _ _ _ (by first | assumption | omega | (apply Ne.symm; assumption))]; first | assumption | exact hput_self _ _ _ | exact hnew_self _ _ _))) ?_
    refine x_aload_n dX6_receiveRequest_11 rfl rfl ?_
    refine gf_X6_66_6 rfl dX6_receiveRequest_12 (by first | exact hA.pe hp | exact hA.f (by omega) | exact hA.ob | first | assumption | exact hput_self _ _ _ | exact hnew_self _ _ _ | (rw [hput_ne _ _ _ (by first | assumption | omega | (apply Ne.symm; assumption))]; first | assumption | exact hput_self _ _ _ | exact hnew_self _ _ _ | (rw [hput_ne _ _ _ (by first | assumption | omega | (apply Ne.symm; assumption))]; first | assumption | exact hput_self _ _ _ | exact hnew_self _ _ _) | (rw [hnew_ne _ _ _ (by first | assumption | omega | (apply Ne.symm; assumption))]; first | assumption | exact hput_self _ _ _ | exact hnew_self _ _ _)) | (rw [hnew_ne _ _ _ (by first | assumption | omega | (apply Ne.symm; assumption))]; first | assumption | exact hput_self _ _ _ | exact hnew_self _ _ _ | (rw [hput_ne _ _ _ (by first | assumption | omega | (apply Ne.symm; assumption))]; first | assumption | exact hput_self _ _ _ | exact hnew_self _ _ _) | (rw [hnew_ne _ _ _ (by first | assumption | omega | (apply Ne.symm; assumption))]; first | assumption | exact hput_self _ _ _ | exact hnew_self _ _ _))) ?_
    rw [hlp]
    refine gf_X6_176_1 rfl dX6_receiveRequest_15 (by first | exact hA.pe hp | exact hA.f (by omega) | exact hA.ob | first | assumption | exact hput_self _ _ _ | exact hnew_self _ _ _ | (rw [hput_ne _ _ _ (by first | assumption | omega | (apply Ne.symm; assumption))]; first | assumption | exact hput_self _ _ _ | exact hnew_self _ _ _ | (rw [hput_ne _ _ _ (by first | assumption | omega | (apply Ne.symm; assumption))]; first | assumption | exact hput_self _ _ _ | exact hnew_self _ _ _) | (rw [hnew_ne _ _ _ (by first | assumption | omega | (apply Ne.symm; assumption))]; first | assumption | exact hput_self _ _ _ | exact hnew_self _ _ _)) | (rw [hnew_ne _ _ _ (by first | assumption | omega | (apply Ne.symm; assumption))]; first | assumption | exact hput_self _ _ _ | exact hnew_self _ _ _ | (rw [hput_ne _ _ _ (by first | assumption | omega | (apply Ne.symm; assumption))]; first | assumption | exact hput_self _ _ _ | exact hnew_self _ _ _) | (rw [hnew_ne _ _ _ (by first | assumption | omega | (apply Ne.symm; assumption))]; first | assumption | exact hput_self _ _ _ | exact hnew_self _ _ _))) ?_
    refine x_icmp_ne (tgt := 34) dX6_receiveRequest_18 (by decide) (fun c1 => ?_) (fun c1 => ?_)
    · refine rest (fun e => c1 ?_)
      rw [e, hla hna, pk_sub (by omega)]
    · have c1' : pk 1 = nI (u.na p) - nI 1 := by
        rw [show pk 1 = u.la p 1 from c1, hla hna, pk_sub (by omega)]
      unfold reqU at hq
      rw [if_pos c1'] at hq
      refine x_aload_n dX6_receiveRequest_21 rfl rfl ?_
      refine gf_X6_29_6 rfl dX6_receiveRequest_22 (by first | exact hA.pe hp | exact hA.f (by omega) | exact hA.ob | first | assumption | exact hput_self _ _ _ | exact hnew_self _ _ _ | (rw [hput_ne _ _ _ (by first | assumption | omega | (apply Ne.symm; assumption))]; first | assumption | exact hput_self _ _ _ | exact hnew_self _ _ _ | (rw [hput_ne _ _ _ (by first | assumption | omega | (apply Ne.symm; assumption))]; first | assumption | exact hput_self _ _ _ | exact hnew_self _ _ _) | (rw [hnew_ne _ _ _ (by first | assumption | omega | (apply Ne.symm; assumption))]; first | assumption | exact hput_self _ _ _ | exact hnew_self _ _ _)) | (rw [hnew_ne _ _ _ (by first | assumption | omega | (apply Ne.symm; assumption))]; first | assumption | exact hput_self _ _ _ | exact hnew_self _ _ _ | (rw [hput_ne _ _ _ (by first | assumption | omega | (apply Ne.symm; assumption))]; first | assumption | exact hput_self _ _ _ | exact hnew_self _ _ _) | (rw [hnew_ne _ _ _ (by first | assumption | omega | (apply Ne.symm; assumption))]; first | assumption | exact hput_self _ _ _ | exact hnew_self _ _ _))) ?_
      refine x_aload_n dX6_receiveRequest_25 rfl rfl ?_
      refine gf_X6_66_6 rfl dX6_receiveRequest_26 (by first | exact hA.pe hp | exact hA.f (by omega) | exact hA.ob | first | assumption | exact hput_self _ _ _ | exact hnew_self _ _ _ | (rw [hput_ne _ _ _ (by first | assumption | omega | (apply Ne.symm; assumption))]; first | assumption | exact hput_self _ _ _ | exact hnew_self _ _ _ | (rw [hput_ne _ _ _ (by first | assumption | omega | (apply Ne.symm; assumption))]; first | assumption | exact hput_self _ _ _ | exact hnew_self _ _ _) | (rw [hnew_ne _ _ _ (by first | assumption | omega | (apply Ne.symm; assumption))]; first | assumption | exact hput_self _ _ _ | exact hnew_self _ _ _)) | (rw [hnew_ne _ _ _ (by first | assumption | omega | (apply Ne.symm; assumption))]; first | assumption | exact hput_self _ _ _ | exact hnew_self _ _ _ | (rw [hput_ne _ _ _ (by first | assumption | omega | (apply Ne.symm; assumption))]; first | assumption | exact hput_self _ _ _ | exact hnew_self _ _ _) | (rw [hnew_ne _ _ _ (by first | assumption | omega | (apply Ne.symm; assumption))]; first | assumption | exact hput_self _ _ _ | exact hnew_self _ _ _))) ?_
      rw [hlp]
      refine x_callV dX6_receiveRequest_29 sv_X6_160_4 rfl (hA.f hpp) rfl (Nat.le_of_ble_eq_true rfl) rfl ?_
      refine k_launch hA hpp (Or.inr ha) hfl (hr.after (KC.rf x z h) (by omega)) (fun h' E' X' hA' hK' => kc_n dr_2 ?_)
      refine x_iconst (v := nI 2) dX6_receiveRequest_32 (by decide) ?_
      refine x_ireturn dX6_receiveRequest_33 rfl ?_
      exact hq _ _ _ _ hA' (hK'.mono (by omega)) hlv
end K10X
