theorem getD_lt {α : Type} {l : List α} {j : Nat} {d : α} (h : j < l.length) : l.getD j d = l[j] := by
  simp [List.getD, h]
def Kq (G : GT) (x z k : Nat) (h : Hp) (u : Ut) (s : SP) (ex : List Nat) (Q : Outcome → Hp → Prop) : Prop :=
  (s.1 = nI 0 → ∀ h' E' X' ov' lv' sf', RA G h' x z s.2.2 E' X' ov' lv' sf' → lvOK lv' s.2.2 → KC x z k h h' → Q (.returned (some (.int s.2.1))) h') ∧ ∀ c i, ex[c]? = some i → s = (nI (c + 1), nI 0, u) → Q (.threw h.2.1) (hnew h (.inr (i, [])) 6)
section K15X
variable {G : GT} {d : Nat} {Q : Outcome → Hp → Prop} {h : Hp} {x z p : Nat} {u : Ut} {E : Nat → Nat → Nat} {X : Nat → Nat → List Nat} {ov lv : Nat → Option Nat} {sf : Nat → Nat → Int32}
theorem k_peerAt {a : Int32} (hA : RA G h x z u E X ov lv sf) (hr : Rm G 1 h) (hq : ∀ p, p < 2 → a = nI p → pN a = some p → Q (.returned (some (.ref (aP x p)))) h) (ht : pN a = none → Q (.threw h.2.1) (hnew h (.inr (11, [])) 6)) : Cx G mX9_peerAt (d + 8) [.ref x, .int a] h Q := by
  show Jx G mX9_peerAt (d + 8) Q 0 [some (.ref x), some (.int a)] [] h
  refine x_iload_n dX9_peerAt_0 rfl ?_
  refine x_if_eq (tgt := 17) dX9_peerAt_1 (by decide) (fun c1 => ?_) (fun c1 => ?_)
  · refine x_iload_n dX9_peerAt_17 rfl ?_
    refine x_if_ne (tgt := 28) dX9_peerAt_18 (by decide) (fun c2 => ?_) (fun c2 => ?_)
    · exact absurd c1 c2
    refine x_aload_n dX9_peerAt_21 rfl rfl ?_
    refine gf_X9_24_9 rfl dX9_peerAt_22 (by first | exact hA.pe hp | exact hA.f (by omega) | exact hA.ob | first | assumption | exact hput_self _ _ _ | exact hnew_self _ _ _ | (rw [hput_ne _ _ _ (by first | assumption | omega | (apply Ne.symm; assumption))]; first | assumption | exact hput_self _ _ _ | exact hnew_self _ _ _ | (rw [hput_ne _ _ _ (by first | assumption | omega | (apply Ne.symm; assumption))]; first | assumption | exact hput_self _ _ _ | exact hnew_self _ _ _) | (rw [hnew_ne _ _ _ (by first | assumption | omega | (apply Ne.symm; assumption))]; first | assumption | exact hput_self _ _ _ | exact hnew_self _ _ _)) | (rw [hnew_ne _ _ _ (by first | assumption | omega | (apply Ne.symm; assumption))]; first | assumption | exact hput_self _ _ _ | exact hnew_self _ _ _ | (rw [hput_ne _ _ _ (by first | assumption | omega | (apply Ne.symm; assumption))]; first | assumption | exact hput_self _ _ _ | exact hnew_self _ _ _) | (rw [hnew_ne _ _ _ (by first | assumption | omega | (apply Ne.symm; assumption))]; first | assumption | exact hput_self _ _ _ | exact hnew_self _ _ _))) ?_
    refine x_goto (tgt := 32) dX9_peerAt_25 (by decide) ?_
    refine x_areturn dX9_peerAt_32 rfl (by first | exact Or.inl ⟨_, rfl⟩ | exact Or.inr ⟨_, rfl⟩) (by first | exact Or.inr ⟨_, rfl⟩ | exact Or.inl rfl | assumption) ?_
    exact hq 0 (by omega) c1 (if_pos c1)
  refine x_iload_n dX9_peerAt_4 rfl ?_
  refine x_iconst (v := nI 1) dX9_peerAt_5 (by decide) ?_
  refine x_icmp_eq (tgt := 17) dX9_peerAt_6 (by decide) (fun c2 => ?_) (fun c2 => ?_)
  · refine x_iload_n dX9_peerAt_17 rfl ?_
    refine x_if_ne (tgt := 28) dX9_peerAt_18 (by decide) (fun c3 => ?_) (fun c3 => ?_)
    · refine x_aload_n dX9_peerAt_28 rfl rfl ?_
      refine gf_X9_28_9 rfl dX9_peerAt_29 (by first | exact hA.pe hp | exact hA.f (by omega) | exact hA.ob | first | assumption | exact hput_self _ _ _ | exact hnew_self _ _ _ | (rw [hput_ne _ _ _ (by first | assumption | omega | (apply Ne.symm; assumption))]; first | assumption | exact hput_self _ _ _ | exact hnew_self _ _ _ | (rw [hput_ne _ _ _ (by first | assumption | omega | (apply Ne.symm; assumption))]; first | assumption | exact hput_self _ _ _ | exact hnew_self _ _ _) | (rw [hnew_ne _ _ _ (by first | assumption | omega | (apply Ne.symm; assumption))]; first | assumption | exact hput_self _ _ _ | exact hnew_self _ _ _)) | (rw [hnew_ne _ _ _ (by first | assumption | omega | (apply Ne.symm; assumption))]; first | assumption | exact hput_self _ _ _ | exact hnew_self _ _ _ | (rw [hput_ne _ _ _ (by first | assumption | omega | (apply Ne.symm; assumption))]; first | assumption | exact hput_self _ _ _ | exact hnew_self _ _ _) | (rw [hnew_ne _ _ _ (by first | assumption | omega | (apply Ne.symm; assumption))]; first | assumption | exact hput_self _ _ _ | exact hnew_self _ _ _))) ?_
      refine x_areturn dX9_peerAt_32 rfl (by first | exact Or.inl ⟨_, rfl⟩ | exact Or.inr ⟨_, rfl⟩) (by first | exact Or.inr ⟨_, rfl⟩ | exact Or.inl rfl | assumption) ?_
      exact hq 1 (by omega) c2 (by rw [c2]; rfl)
    · exact absurd c3 c1
  exact th_X9_156 rfl dX9_peerAt_9 dX9_peerAt_12 dX9_peerAt_13 dX9_peerAt_16 rfl (by omega) (by decide) (hr.c (by omega)) (hr.s (by omega)) (ht (pN_none (fun q => q.elim c1 c2)))
theorem k_flightTo {a : Int32} (hA : RA G h x z u E X ov lv sf) (hr : Rm G 1 h) (hq : ∀ p, p < 2 → a = nI p → pN a = some p → Q (.returned (some (.ref (aF x p)))) h) (ht : pN a = none → Q (.threw h.2.1) (hnew h (.inr (11, [])) 6)) : Cx G mX9_flightTo (d + 8) [.ref x, .int a] h Q := by
  show Jx G mX9_flightTo (d + 8) Q 0 [some (.ref x), some (.int a)] [] h
  refine x_iload_n dX9_flightTo_0 rfl ?_
  refine x_if_eq (tgt := 17) dX9_flightTo_1 (by decide) (fun c1 => ?_) (fun c1 => ?_)
  · refine x_iload_n dX9_flightTo_17 rfl ?_
    refine x_if_ne (tgt := 28) dX9_flightTo_18 (by decide) (fun c2 => ?_) (fun c2 => ?_)
    · exact absurd c1 c2
    refine x_aload_n dX9_flightTo_21 rfl rfl ?_
    refine gf_X9_10_9 rfl dX9_flightTo_22 (by first | exact hA.pe hp | exact hA.f (by omega) | exact hA.ob | first | assumption | exact hput_self _ _ _ | exact hnew_self _ _ _ | (rw [hput_ne _ _ _ (by first | assumption | omega | (apply Ne.symm; assumption))]; first | assumption | exact hput_self _ _ _ | exact hnew_self _ _ _ | (rw [hput_ne _ _ _ (by first | assumption | omega | (apply Ne.symm; assumption))]; first | assumption | exact hput_self _ _ _ | exact hnew_self _ _ _) | (rw [hnew_ne _ _ _ (by first | assumption | omega | (apply Ne.symm; assumption))]; first | assumption | exact hput_self _ _ _ | exact hnew_self _ _ _)) | (rw [hnew_ne _ _ _ (by first | assumption | omega | (apply Ne.symm; assumption))]; first | assumption | exact hput_self _ _ _ | exact hnew_self _ _ _ | (rw [hput_ne _ _ _ (by first | assumption | omega | (apply Ne.symm; assumption))]; first | assumption | exact hput_self _ _ _ | exact hnew_self _ _ _) | (rw [hnew_ne _ _ _ (by first | assumption | omega | (apply Ne.symm; assumption))]; first | assumption | exact hput_self _ _ _ | exact hnew_self _ _ _))) ?_
    refine x_goto (tgt := 32) dX9_flightTo_25 (by decide) ?_
    refine x_areturn dX9_flightTo_32 rfl (by first | exact Or.inl ⟨_, rfl⟩ | exact Or.inr ⟨_, rfl⟩) (by first | exact Or.inr ⟨_, rfl⟩ | exact Or.inl rfl | assumption) ?_
    exact hq 0 (by omega) c1 (if_pos c1)
  refine x_iload_n dX9_flightTo_4 rfl ?_
  refine x_iconst (v := nI 1) dX9_flightTo_5 (by decide) ?_
  refine x_icmp_eq (tgt := 17) dX9_flightTo_6 (by decide) (fun c2 => ?_) (fun c2 => ?_)
  · refine x_iload_n dX9_flightTo_17 rfl ?_
    refine x_if_ne (tgt := 28) dX9_flightTo_18 (by decide) (fun c3 => ?_) (fun c3 => ?_)
    · refine x_aload_n dX9_flightTo_28 rfl rfl ?_
      refine gf_X9_16_9 rfl dX9_flightTo_29 (by first | exact hA.pe hp | exact hA.f (by omega) | exact hA.ob | first | assumption | exact hput_self _ _ _ | exact hnew_self _ _ _ | (rw [hput_ne _ _ _ (by first | assumption | omega | (apply Ne.symm; assumption))]; first | assumption | exact hput_self _ _ _ | exact hnew_self _ _ _ | (rw [hput_ne _ _ _ (by first | assumption | omega | (apply Ne.symm; assumption))]; first | assumption | exact hput_self _ _ _ | exact hnew_self _ _ _) | (rw [hnew_ne _ _ _ (by first | assumption | omega | (apply Ne.symm; assumption))]; first | assumption | exact hput_self _ _ _ | exact hnew_self _ _ _)) | (rw [hnew_ne _ _ _ (by first | assumption | omega | (apply Ne.symm; assumption))]; first | assumption | exact hput_self _ _ _ | exact hnew_self _ _ _ | (rw [hput_ne _ _ _ (by first | assumption | omega | (apply Ne.symm; assumption))]; first | assumption | exact hput_self _ _ _ | exact hnew_self _ _ _) | (rw [hnew_ne _ _ _ (by first | assumption | omega | (apply Ne.symm; assumption))]; first | assumption | exact hput_self _ _ _ | exact hnew_self _ _ _))) ?_
      refine x_areturn dX9_flightTo_32 rfl (by first | exact Or.inl ⟨_, rfl⟩ | exact Or.inr ⟨_, rfl⟩) (by first | exact Or.inr ⟨_, rfl⟩ | exact Or.inl rfl | assumption) ?_
      exact hq 1 (by omega) c2 (by rw [c2]; rfl)
    · exact absurd c3 c1
  exact th_X9_156 rfl dX9_flightTo_9 dX9_flightTo_12 dX9_flightTo_13 dX9_flightTo_16 rfl (by omega) (by decide) (hr.c (by omega)) (hr.s (by omega)) (ht (pN_none (fun q => q.elim c1 c2)))
theorem k_childAt {k : Int32} (hA : RA G h x z u E X ov lv sf) (hp : p < 2) (hl : (u.ki p).length ≤ 16) (hr : Rm G 1 h) (hq : ∀ j (hj : j < (X 1 p).length), j < (u.ki p).length → k = nI j → ixN k (u.ki p).length = some j → Q (.returned (some (.ref (X 1 p)[j]))) h) (ht : ixN k (u.ki p).length = none → Q (.threw h.2.1) (hnew h (.inr (11, [])) 6)) : Cx G mX9_childAt (d + 8) [.ref (aP x p), .int k] h Q := by
  show Jx G mX9_childAt (d + 8) Q 0 [some (.ref (aP x p)), some (.int k)] [] h
  obtain ⟨m1, hm1⟩ := (hA.l (c := 1) (by omega) hp).sh
  have hx := (hA.ki hp).1
  refine x_iload_n dX9_childAt_0 rfl ?_
  refine x_if_lt (tgt := 17) dX9_childAt_1 (by decide) (fun c1 => ?_) (fun c1 => ?_)
  · exact th_X9_156 rfl dX9_childAt_17 dX9_childAt_20 dX9_childAt_21 dX9_childAt_24 rfl (by omega) (by decide) (hr.c (by omega)) (hr.s (by omega)) (ht (ixN_neg c1))
  refine x_iload_n dX9_childAt_4 rfl ?_
  refine x_aload_n dX9_childAt_5 rfl rfl ?_
  refine gf_X9_126_6 rfl dX9_childAt_6 (by first | exact hA.pe hp | exact hA.f (by omega) | exact hA.ob | first | assumption | exact hput_self _ _ _ | exact hnew_self _ _ _ | (rw [hput_ne _ _ _ (by first | assumption | omega | (apply Ne.symm; assumption))]; first | assumption | exact hput_self _ _ _ | exact hnew_self _ _ _ | (rw [hput_ne _ _ _ (by first | assumption | omega | (apply Ne.symm; assumption))]; first | assumption | exact hput_self _ _ _ | exact hnew_self _ _ _) | (rw [hnew_ne _ _ _ (by first | assumption | omega | (apply Ne.symm; assumption))]; first | assumption | exact hput_self _ _ _ | exact hnew_self _ _ _)) | (rw [hnew_ne _ _ _ (by first | assumption | omega | (apply Ne.symm; assumption))]; first | assumption | exact hput_self _ _ _ | exact hnew_self _ _ _ | (rw [hput_ne _ _ _ (by first | assumption | omega | (apply Ne.symm; assumption))]; first | assumption | exact hput_self _ _ _ | exact hnew_self _ _ _) | (rw [hnew_ne _ _ _ (by first | assumption | omega | (apply Ne.symm; assumption))]; first | assumption | exact hput_self _ _ _ | exact hnew_self _ _ _))) ?_
  refine x_callF dX9_childAt_9 sf_X9_82_0 rfl (by first | exact hA.pe hp | exact hA.f (by omega) | exact hA.ob | first | assumption | exact hput_self _ _ _ | exact hnew_self _ _ _ | (rw [hput_ne _ _ _ (by first | assumption | omega | (apply Ne.symm; assumption))]; first | assumption | exact hput_self _ _ _ | exact hnew_self _ _ _ | (rw [hput_ne _ _ _ (by first | assumption | omega | (apply Ne.symm; assumption))]; first | assumption | exact hput_self _ _ _ | exact hnew_self _ _ _) | (rw [hnew_ne _ _ _ (by first | assumption | omega | (apply Ne.symm; assumption))]; first | assumption | exact hput_self _ _ _ | exact hnew_self _ _ _)) | (rw [hnew_ne _ _ _ (by first | assumption | omega | (apply Ne.symm; assumption))]; first | assumption | exact hput_self _ _ _ | exact hnew_self _ _ _ | (rw [hput_ne _ _ _ (by first | assumption | omega | (apply Ne.symm; assumption))]; first | assumption | exact hput_self _ _ _ | exact hnew_self _ _ _) | (rw [hnew_ne _ _ _ (by first | assumption | omega | (apply Ne.symm; assumption))]; first | assumption | exact hput_self _ _ _ | exact hnew_self _ _ _))) rfl (Nat.le_of_ble_eq_true rfl) rfl ?_
  refine c_sizeL (hA.l (c := 1) (by omega) hp) (kc_v dr_1 ?_)
  rw [hx]
  refine x_icmp_lt (tgt := 25) dX9_childAt_14 (by decide) (fun c2 => ?_) (fun c2 => ?_)
  · obtain ⟨j, hj, e, hi⟩ := ixN_some (by omega) c1 (Int32.not_le.mpr c2)
    have hjx : j < (X 1 p).length := by omega
    obtain ⟨-, ⟨db, hbc, hdb⟩, -⟩ := (hA.ki hp).at hjx (List.getElem?_eq_getElem hj)
    subst e
    refine x_aload_n dX9_childAt_25 rfl rfl ?_
    refine gf_X9_126_6 rfl dX9_childAt_26 (by first | exact hA.pe hp | exact hA.f (by omega) | exact hA.ob | first | assumption | exact hput_self _ _ _ | exact hnew_self _ _ _ | (rw [hput_ne _ _ _ (by first | assumption | omega | (apply Ne.symm; assumption))]; first | assumption | exact hput_self _ _ _ | exact hnew_self _ _ _ | (rw [hput_ne _ _ _ (by first | assumption | omega | (apply Ne.symm; assumption))]; first | assumption | exact hput_self _ _ _ | exact hnew_self _ _ _) | (rw [hnew_ne _ _ _ (by first | assumption | omega | (apply Ne.symm; assumption))]; first | assumption | exact hput_self _ _ _ | exact hnew_self _ _ _)) | (rw [hnew_ne _ _ _ (by first | assumption | omega | (apply Ne.symm; assumption))]; first | assumption | exact hput_self _ _ _ | exact hnew_self _ _ _ | (rw [hput_ne _ _ _ (by first | assumption | omega | (apply Ne.symm; assumption))]; first | assumption | exact hput_self _ _ _ | exact hnew_self _ _ _) | (rw [hnew_ne _ _ _ (by first | assumption | omega | (apply Ne.symm; assumption))]; first | assumption | exact hput_self _ _ _ | exact hnew_self _ _ _))) ?_
    refine x_iload_n dX9_childAt_29 rfl ?_
    refine x_callF dX9_childAt_30 sf_X9_140_0 rfl (by first | exact hA.pe hp | exact hA.f (by omega) | exact hA.ob | first | assumption | exact hput_self _ _ _ | exact hnew_self _ _ _ | (rw [hput_ne _ _ _ (by first | assumption | omega | (apply Ne.symm; assumption))]; first | assumption | exact hput_self _ _ _ | exact hnew_self _ _ _ | (rw [hput_ne _ _ _ (by first | assumption | omega | (apply Ne.symm; assumption))]; first | assumption | exact hput_self _ _ _ | exact hnew_self _ _ _) | (rw [hnew_ne _ _ _ (by first | assumption | omega | (apply Ne.symm; assumption))]; first | assumption | exact hput_self _ _ _ | exact hnew_self _ _ _)) | (rw [hnew_ne _ _ _ (by first | assumption | omega | (apply Ne.symm; assumption))]; first | assumption | exact hput_self _ _ _ | exact hnew_self _ _ _ | (rw [hput_ne _ _ _ (by first | assumption | omega | (apply Ne.symm; assumption))]; first | assumption | exact hput_self _ _ _ | exact hnew_self _ _ _) | (rw [hnew_ne _ _ _ (by first | assumption | omega | (apply Ne.symm; assumption))]; first | assumption | exact hput_self _ _ _ | exact hnew_self _ _ _))) rfl (Nat.le_of_ble_eq_true rfl) rfl ?_
    refine c_getL (hA.l (c := 1) (by omega) hp) hjx (kc_v dr_2 ?_)
    refine x_castObj dX9_childAt_35 hbc ck_X9_67 ca_2_Child ?_
    refine x_areturn dX9_childAt_38 rfl (by first | exact Or.inl ⟨_, rfl⟩ | exact Or.inr ⟨_, rfl⟩) (by first | exact Or.inr ⟨_, rfl⟩ | exact Or.inl rfl | assumption) ?_
    exact hq j hjx hj rfl hi
  · exact th_X9_156 rfl dX9_childAt_17 dX9_childAt_20 dX9_childAt_21 dX9_childAt_24 rfl (by omega) (by decide) (hr.c (by omega)) (hr.s (by omega)) (ht (ixN_big c1 (Int32.not_lt.mp c2)))
theorem k_packetAt {k : Int32} (hA : RA G h x z u E X ov lv sf) (hp : p < 2) (hl : (u.fl p).length ≤ 30) (hr : Rm G 1 h) (hq : ∀ j (hj : j < (X 0 p).length), j < (u.fl p).length → k = nI j → ixN k (u.fl p).length = some j → Q (.returned (some (.ref (X 0 p)[j]))) h) (ht : ixN k (u.fl p).length = none → Q (.threw h.2.1) (hnew h (.inr (11, [])) 6)) : Cx G mX9_packetAt (d + 8) [.ref (aF x p), .int k] h Q := by
  show Jx G mX9_packetAt (d + 8) Q 0 [some (.ref (aF x p)), some (.int k)] [] h
  obtain ⟨m1, hm1⟩ := (hA.l (c := 0) (by omega) hp).sh
  have hx := (hA.fl hp).1
  refine x_iload_n dX9_packetAt_0 rfl ?_
  refine x_if_lt (tgt := 17) dX9_packetAt_1 (by decide) (fun c1 => ?_) (fun c1 => ?_)
  · exact th_X9_156 rfl dX9_packetAt_17 dX9_packetAt_20 dX9_packetAt_21 dX9_packetAt_24 rfl (by omega) (by decide) (hr.c (by omega)) (hr.s (by omega)) (ht (ixN_neg c1))
  refine x_iload_n dX9_packetAt_4 rfl ?_
  refine x_aload_n dX9_packetAt_5 rfl rfl ?_
  refine gf_X9_108_4 rfl dX9_packetAt_6 (by first | exact hA.pe hp | exact hA.f (by omega) | exact hA.ob | first | assumption | exact hput_self _ _ _ | exact hnew_self _ _ _ | (rw [hput_ne _ _ _ (by first | assumption | omega | (apply Ne.symm; assumption))]; first | assumption | exact hput_self _ _ _ | exact hnew_self _ _ _ | (rw [hput_ne _ _ _ (by first | assumption | omega | (apply Ne.symm; assumption))]; first | assumption | exact hput_self _ _ _ | exact hnew_self _ _ _) | (rw [hnew_ne _ _ _ (by first | assumption | omega | (apply Ne.symm; assumption))]; first | assumption | exact hput_self _ _ _ | exact hnew_self _ _ _)) | (rw [hnew_ne _ _ _ (by first | assumption | omega | (apply Ne.symm; assumption))]; first | assumption | exact hput_self _ _ _ | exact hnew_self _ _ _ | (rw [hput_ne _ _ _ (by first | assumption | omega | (apply Ne.symm; assumption))]; first | assumption | exact hput_self _ _ _ | exact hnew_self _ _ _) | (rw [hnew_ne _ _ _ (by first | assumption | omega | (apply Ne.symm; assumption))]; first | assumption | exact hput_self _ _ _ | exact hnew_self _ _ _))) ?_
  refine x_callF dX9_packetAt_9 sf_X9_82_0 rfl (by first | exact hA.pe hp | exact hA.f (by omega) | exact hA.ob | first | assumption | exact hput_self _ _ _ | exact hnew_self _ _ _ | (rw [hput_ne _ _ _ (by first | assumption | omega | (apply Ne.symm; assumption))]; first | assumption | exact hput_self _ _ _ | exact hnew_self _ _ _ | (rw [hput_ne _ _ _ (by first | assumption | omega | (apply Ne.symm; assumption))]; first | assumption | exact hput_self _ _ _ | exact hnew_self _ _ _) | (rw [hnew_ne _ _ _ (by first | assumption | omega | (apply Ne.symm; assumption))]; first | assumption | exact hput_self _ _ _ | exact hnew_self _ _ _)) | (rw [hnew_ne _ _ _ (by first | assumption | omega | (apply Ne.symm; assumption))]; first | assumption | exact hput_self _ _ _ | exact hnew_self _ _ _ | (rw [hput_ne _ _ _ (by first | assumption | omega | (apply Ne.symm; assumption))]; first | assumption | exact hput_self _ _ _ | exact hnew_self _ _ _) | (rw [hnew_ne _ _ _ (by first | assumption | omega | (apply Ne.symm; assumption))]; first | assumption | exact hput_self _ _ _ | exact hnew_self _ _ _))) rfl (Nat.le_of_ble_eq_true rfl) rfl ?_
  refine c_sizeL (hA.l (c := 0) (by omega) hp) (kc_v dr_1 ?_)
  rw [hx]
  refine x_icmp_lt (tgt := 25) dX9_packetAt_14 (by decide) (fun c2 => ?_) (fun c2 => ?_)
  · obtain ⟨j, hj, e, hi⟩ := ixN_some (by omega) c1 (Int32.not_le.mpr c2)
    have hjx : j < (X 0 p).length := by omega
    have hpk := (hA.fl hp).at hjx (List.getElem?_eq_getElem hj)
    subst e
    refine x_aload_n dX9_packetAt_25 rfl rfl ?_
    refine gf_X9_108_4 rfl dX9_packetAt_26 (by first | exact hA.pe hp | exact hA.f (by omega) | exact hA.ob | first | assumption | exact hput_self _ _ _ | exact hnew_self _ _ _ | (rw [hput_ne _ _ _ (by first | assumption | omega | (apply Ne.symm; assumption))]; first | assumption | exact hput_self _ _ _ | exact hnew_self _ _ _ | (rw [hput_ne _ _ _ (by first | assumption | omega | (apply Ne.symm; assumption))]; first | assumption | exact hput_self _ _ _ | exact hnew_self _ _ _) | (rw [hnew_ne _ _ _ (by first | assumption | omega | (apply Ne.symm; assumption))]; first | assumption | exact hput_self _ _ _ | exact hnew_self _ _ _)) | (rw [hnew_ne _ _ _ (by first | assumption | omega | (apply Ne.symm; assumption))]; first | assumption | exact hput_self _ _ _ | exact hnew_self _ _ _ | (rw [hput_ne _ _ _ (by first | assumption | omega | (apply Ne.symm; assumption))]; first | assumption | exact hput_self _ _ _ | exact hnew_self _ _ _) | (rw [hnew_ne _ _ _ (by first | assumption | omega | (apply Ne.symm; assumption))]; first | assumption | exact hput_self _ _ _ | exact hnew_self _ _ _))) ?_
    refine x_iload_n dX9_packetAt_29 rfl ?_
    refine x_callF dX9_packetAt_30 sf_X9_140_0 rfl (by first | exact hA.pe hp | exact hA.f (by omega) | exact hA.ob | first | assumption | exact hput_self _ _ _ | exact hnew_self _ _ _ | (rw [hput_ne _ _ _ (by first | assumption | omega | (apply Ne.symm; assumption))]; first | assumption | exact hput_self _ _ _ | exact hnew_self _ _ _ | (rw [hput_ne _ _ _ (by first | assumption | omega | (apply Ne.symm; assumption))]; first | assumption | exact hput_self _ _ _ | exact hnew_self _ _ _) | (rw [hnew_ne _ _ _ (by first | assumption | omega | (apply Ne.symm; assumption))]; first | assumption | exact hput_self _ _ _ | exact hnew_self _ _ _)) | (rw [hnew_ne _ _ _ (by first | assumption | omega | (apply Ne.symm; assumption))]; first | assumption | exact hput_self _ _ _ | exact hnew_self _ _ _ | (rw [hput_ne _ _ _ (by first | assumption | omega | (apply Ne.symm; assumption))]; first | assumption | exact hput_self _ _ _ | exact hnew_self _ _ _) | (rw [hnew_ne _ _ _ (by first | assumption | omega | (apply Ne.symm; assumption))]; first | assumption | exact hput_self _ _ _ | exact hnew_self _ _ _))) rfl (Nat.le_of_ble_eq_true rfl) rfl ?_
    refine c_getL (hA.l (c := 0) (by omega) hp) hjx (kc_v dr_2 ?_)
    rcases hpk with hreq | hans
    · obtain ⟨so, oo, hbc⟩ := hreq.cell
      refine x_castObj dX9_packetAt_35 hbc ck_X9_137 ca_7_Packet ?_
      refine x_areturn dX9_packetAt_38 rfl (by first | exact Or.inl ⟨_, rfl⟩ | exact Or.inr ⟨_, rfl⟩) (by first | exact Or.inr ⟨_, rfl⟩ | exact Or.inl rfl | assumption) ?_
      exact hq j hjx hj rfl hi
    · obtain ⟨-, h0, h6, b, dv, h3, hbc, -⟩ := hans
      refine x_castObj dX9_packetAt_35 hbc ck_X9_137 ca_1_Packet ?_
      refine x_areturn dX9_packetAt_38 rfl (by first | exact Or.inl ⟨_, rfl⟩ | exact Or.inr ⟨_, rfl⟩) (by first | exact Or.inr ⟨_, rfl⟩ | exact Or.inl rfl | assumption) ?_
      exact hq j hjx hj rfl hi
  · exact th_X9_156 rfl dX9_packetAt_17 dX9_packetAt_20 dX9_packetAt_21 dX9_packetAt_24 rfl (by omega) (by decide) (hr.c (by omega)) (hr.s (by omega)) (ht (ixN_big c1 (Int32.not_lt.mp c2)))
theorem k_refuseOutside {w : Int32} {n : Nat} (hn : n ≤ 7) (hr : Rm G 1 h) (hq : ∀ j, j ≤ n → w = nI j → ¬ (w < 0 ∨ nI n < w) → Q (.returned none) h) (ht : (w < 0 ∨ nI n < w) → Q (.threw h.2.1) (hnew h (.inr (12, [])) 6)) : Cx G mX9_refuseOutside (d + 8) [.int w, .int (nI (n + 1))] h Q := by
  show Jx G mX9_refuseOutside (d + 8) Q 0 [some (.int w), some (.int (nI (n + 1)))] [] h
  refine x_iload_n dX9_refuseOutside_0 rfl ?_
  refine x_if_lt (tgt := 9) dX9_refuseOutside_1 (by decide) (fun c1 => ?_) (fun c1 => ?_)
  · exact th_X9_39 rfl dX9_refuseOutside_9 dX9_refuseOutside_12 dX9_refuseOutside_13 dX9_refuseOutside_16 rfl (by omega) (by decide) (hr.c (by omega)) (hr.s (by omega)) (ht (Or.inl c1))
  obtain ⟨j, hj, e⟩ := nI_of c1
  subst e
  refine x_iload_n dX9_refuseOutside_4 rfl ?_
  refine x_iload_n dX9_refuseOutside_5 rfl ?_
  refine x_icmp_lt (tgt := 17) dX9_refuseOutside_6 (by decide) (fun c2 => ?_) (fun c2 => ?_)
  · have hjn : j ≤ n := by
      have := (nI_ltI hj (by omega)).mp c2
      omega
    refine x_vreturn dX9_refuseOutside_17 rfl ?_
    refine hq j hjn rfl (fun q => q.elim c1 (fun q => ?_))
    have := (nI_ltI (by omega) hj).mp q
    omega
  · have hjn : n < j := by
      by_cases e : j < n + 1
      · exact absurd ((nI_ltI hj (by omega)).mpr e) c2
      · omega
    exact th_X9_39 rfl dX9_refuseOutside_9 dX9_refuseOutside_12 dX9_refuseOutside_13 dX9_refuseOutside_16 rfl (by omega) (by decide) (hr.c (by omega)) (hr.s (by omega)) (ht (Or.inr ((nI_ltI (by omega) hj).mpr hjn)))
theorem k_suite {a s : Int32} (hA : RA G h x z u E X ov lv sf) (hlv : lvOK lv u) (htk : ∀ p, p < 2 → takeU (u.w_su p (u.su p ++ [s])) = u.w_su p (u.su p ++ [s])) (hr : Rm G 1 h) (hq : Kq G x z 0 h u (sSuite u a s) [11, 12, 14] Q) : Cx G mX9_suite (d + 9) [.ref x, .int a, .int s] h Q := by
  show Jx G mX9_suite (d + 9) Q 0 [some (.ref x), some (.int a), some (.int s), none] [] h
  refine x_aload_n dX9_suite_0 rfl rfl ?_
  refine x_iload_n dX9_suite_1 rfl ?_
  refine x_callV dX9_suite_2 sv_X9_31_9 rfl (by first | exact hA.pe hp | exact hA.f (by omega) | exact hA.ob | first | assumption | exact hput_self _ _ _ | exact hnew_self _ _ _ | (rw [hput_ne _ _ _ (by first | assumption | omega | (apply Ne.symm; assumption))]; first | assumption | exact hput_self _ _ _ | exact hnew_self _ _ _ | (rw [hput_ne _ _ _ (by first | assumption | omega | (apply Ne.symm; assumption))]; first | assumption | exact hput_self _ _ _ | exact hnew_self _ _ _) | (rw [hnew_ne _ _ _ (by first | assumption | omega | (apply Ne.symm; assumption))]; first | assumption | exact hput_self _ _ _ | exact hnew_self _ _ _)) | (rw [hnew_ne _ _ _ (by first | assumption | omega | (apply Ne.symm; assumption))]; first | assumption | exact hput_self _ _ _ | exact hnew_self _ _ _ | (rw [hput_ne _ _ _ (by first | assumption | omega | (apply Ne.symm; assumption))]; first | assumption | exact hput_self _ _ _ | exact hnew_self _ _ _) | (rw [hnew_ne _ _ _ (by first | assumption | omega | (apply Ne.symm; assumption))]; first | assumption | exact hput_self _ _ _ | exact hnew_self _ _ _))) rfl (Nat.le_of_ble_eq_true rfl) rfl ?_
  refine k_peerAt hA hr (fun p hp hx hn => kc_v dr_2 ?_) (fun hn => kc_t (hq.2 0 11 rfl (by rw [sSuite, hn])))
  rw [sSuite, hn] at hq
  simp only at hq
  have h4 := (hA.su hp).1
  refine y_astore_n dX9_suite_5 rfl rfl lvs_4_3 ?_
  refine x_iload_n dX9_suite_6 rfl ?_
  refine x_iconst (v := nI 1) dX9_suite_7 (by decide) ?_
  refine x_icmp_lt (tgt := 25) dX9_suite_8 (by decide) (fun c1 => ?_) (fun c1 => ?_)
  · rw [if_pos (Or.inl c1)] at hq
    exact th_X9_39 rfl dX9_suite_25 dX9_suite_28 dX9_suite_29 dX9_suite_32 rfl (by omega) (by decide) (hr.c (by omega)) (hr.s (by omega)) (hq.2 1 12 rfl rfl)
  refine x_iload_n dX9_suite_11 rfl ?_
  refine x_bipush (v := nI 9) dX9_suite_12 (by decide) ?_
  refine x_icmp_gt (tgt := 25) dX9_suite_14 (by decide) (fun c2 => ?_) (fun c2 => ?_)
  · rw [if_pos (Or.inr (Or.inl c2))] at hq
    exact th_X9_39 rfl dX9_suite_25 dX9_suite_28 dX9_suite_29 dX9_suite_32 rfl (by omega) (by decide) (hr.c (by omega)) (hr.s (by omega)) (hq.2 1 12 rfl rfl)
  refine x_aload_n dX9_suite_17 rfl rfl ?_
  refine x_iload_n dX9_suite_18 rfl ?_
  refine x_callV dX9_suite_19 sv_X9_35_6 rfl (by first | exact hA.pe hp | exact hA.f (by omega) | exact hA.ob | first | assumption | exact hput_self _ _ _ | exact hnew_self _ _ _ | (rw [hput_ne _ _ _ (by first | assumption | omega | (apply Ne.symm; assumption))]; first | assumption | exact hput_self _ _ _ | exact hnew_self _ _ _ | (rw [hput_ne _ _ _ (by first | assumption | omega | (apply Ne.symm; assumption))]; first | assumption | exact hput_self _ _ _ | exact hnew_self _ _ _) | (rw [hnew_ne _ _ _ (by first | assumption | omega | (apply Ne.symm; assumption))]; first | assumption | exact hput_self _ _ _ | exact hnew_self _ _ _)) | (rw [hnew_ne _ _ _ (by first | assumption | omega | (apply Ne.symm; assumption))]; first | assumption | exact hput_self _ _ _ | exact hnew_self _ _ _ | (rw [hput_ne _ _ _ (by first | assumption | omega | (apply Ne.symm; assumption))]; first | assumption | exact hput_self _ _ _ | exact hnew_self _ _ _) | (rw [hnew_ne _ _ _ (by first | assumption | omega | (apply Ne.symm; assumption))]; first | assumption | exact hput_self _ _ _ | exact hnew_self _ _ _))) rfl (Nat.le_of_ble_eq_true rfl) rfl ?_
  refine k_hasSuite hA hp (kc_v dr_2 ?_)
  generalize hb : (u.su p).any (fun y => decide (y = s)) = b at hq ⊢
  cases b with
  | true =>
    rw [if_pos (Or.inr (Or.inr rfl))] at hq
    refine x_if_eq (tgt := 33) dX9_suite_22 (by decide) (fun c3 => ?_) (fun c3 => ?_)
    · exact absurd c3 (by decide)
    exact th_X9_39 rfl dX9_suite_25 dX9_suite_28 dX9_suite_29 dX9_suite_32 rfl (by omega) (by decide) (hr.c (by omega)) (hr.s (by omega)) (hq.2 1 12 rfl rfl)
  | false =>
    rw [if_neg (fun q => q.elim c1 (fun q => q.elim c2 (fun q => by cases q)))] at hq
    refine x_if_eq (tgt := 33) dX9_suite_22 (by decide) (fun c3 => ?_) (fun c3 => ?_)
    · refine x_aload_n dX9_suite_33 rfl rfl ?_
      refine gf_X9_42_6 rfl dX9_suite_34 (by first | exact hA.pe hp | exact hA.f (by omega) | exact hA.ob | first | assumption | exact hput_self _ _ _ | exact hnew_self _ _ _ | (rw [hput_ne _ _ _ (by first | assumption | omega | (apply Ne.symm; assumption))]; first | assumption | exact hput_self _ _ _ | exact hnew_self _ _ _ | (rw [hput_ne _ _ _ (by first | assumption | omega | (apply Ne.symm; assumption))]; first | assumption | exact hput_self _ _ _ | exact hnew_self _ _ _) | (rw [hnew_ne _ _ _ (by first | assumption | omega | (apply Ne.symm; assumption))]; first | assumption | exact hput_self _ _ _ | exact hnew_self _ _ _)) | (rw [hnew_ne _ _ _ (by first | assumption | omega | (apply Ne.symm; assumption))]; first | assumption | exact hput_self _ _ _ | exact hnew_self _ _ _ | (rw [hput_ne _ _ _ (by first | assumption | omega | (apply Ne.symm; assumption))]; first | assumption | exact hput_self _ _ _ | exact hnew_self _ _ _) | (rw [hnew_ne _ _ _ (by first | assumption | omega | (apply Ne.symm; assumption))]; first | assumption | exact hput_self _ _ _ | exact hnew_self _ _ _))) ?_
      refine x_iconst (v := nI 4) dX9_suite_37 (by decide) ?_
      refine x_icmp_lt (tgt := 49) dX9_suite_38 (by decide) (fun c4 => ?_) (fun c4 => ?_)
      · have l4 : (u.su p).length < 4 := (nI_ltI (by omega) (by omega)).mp c4
        rw [if_neg (show ¬ (u.su p).length = 4 by omega), htk p hp] at hq
        refine x_aload_n dX9_suite_49 rfl rfl ?_
        refine x_iload_n dX9_suite_50 rfl ?_
        refine x_callV dX9_suite_51 sv_X9_49_6 rfl (by first | exact hA.pe hp | exact hA.f (by omega) | exact hA.ob | first | assumption | exact hput_self _ _ _ | exact hnew_self _ _ _ | (rw [hput_ne _ _ _ (by first | assumption | omega | (apply Ne.symm; assumption))]; first | assumption | exact hput_self _ _ _ | exact hnew_self _ _ _ | (rw [hput_ne _ _ _ (by first | assumption | omega | (apply Ne.symm; assumption))]; first | assumption | exact hput_self _ _ _ | exact hnew_self _ _ _) | (rw [hnew_ne _ _ _ (by first | assumption | omega | (apply Ne.symm; assumption))]; first | assumption | exact hput_self _ _ _ | exact hnew_self _ _ _)) | (rw [hnew_ne _ _ _ (by first | assumption | omega | (apply Ne.symm; assumption))]; first | assumption | exact hput_self _ _ _ | exact hnew_self _ _ _ | (rw [hput_ne _ _ _ (by first | assumption | omega | (apply Ne.symm; assumption))]; first | assumption | exact hput_self _ _ _ | exact hnew_self _ _ _) | (rw [hnew_ne _ _ _ (by first | assumption | omega | (apply Ne.symm; assumption))]; first | assumption | exact hput_self _ _ _ | exact hnew_self _ _ _))) rfl (Nat.le_of_ble_eq_true rfl) rfl ?_
        refine k_addSuite hA hp l4 (fun e => by subst e; exact c1 (by decide)) (fun h' sf' hA' hK => kc_n dr_2 ?_)
        replace hA := hA'
        refine x_aload_n dX9_suite_54 rfl rfl ?_
        refine gf_X9_42_6 rfl dX9_suite_55 (by first | exact hA.pe hp | exact hA.f (by omega) | exact hA.ob | first | assumption | exact hput_self _ _ _ | exact hnew_self _ _ _ | (rw [hput_ne _ _ _ (by first | assumption | omega | (apply Ne.symm; assumption))]; first | assumption | exact hput_self _ _ _ | exact hnew_self _ _ _ | (rw [hput_ne _ _ _ (by first | assumption | omega | (apply Ne.symm; assumption))]; first | assumption | exact hput_self _ _ _ | exact hnew_self _ _ _) | (rw [hnew_ne _ _ _ (by first | assumption | omega | (apply Ne.symm; assumption))]; first | assumption | exact hput_self _ _ _ | exact hnew_self _ _ _)) | (rw [hnew_ne _ _ _ (by first | assumption | omega | (apply Ne.symm; assumption))]; first | assumption | exact hput_self _ _ _ | exact hnew_self _ _ _ | (rw [hput_ne _ _ _ (by first | assumption | omega | (apply Ne.symm; assumption))]; first | assumption | exact hput_self _ _ _ | exact hnew_self _ _ _) | (rw [hnew_ne _ _ _ (by first | assumption | omega | (apply Ne.symm; assumption))]; first | assumption | exact hput_self _ _ _ | exact hnew_self _ _ _))) ?_
        rw [show (u.w_su p (u.su p ++ [s])).su p = u.su p ++ [s] from va_up_self _ _ _, List.length_append]
        refine x_ireturn dX9_suite_58 rfl ?_
        exact hq.1 rfl _ _ _ _ _ _ hA hlv hK
      · rw [if_pos (show (u.su p).length = 4 by
          by_cases e : (u.su p).length < 4
          · exact absurd ((nI_ltI (by omega) (by omega)).mpr e) c4
          · omega)] at hq
        exact th_X9_46 rfl dX9_suite_41 dX9_suite_44 dX9_suite_45 dX9_suite_48 rfl (by omega) (by decide) (hr.c (by omega)) (hr.s (by omega)) (hq.2 2 14 rfl rfl)
    · exact absurd rfl c3
theorem k_range {a lo hi : Int32} (hA : RA G h x z u E X ov lv sf) (hlv : lvOK lv u) (hr : Rm G 1 h) (hq : Kq G x z 0 h u (sRange u a lo hi) [11, 12] Q) : Cx G mX9_range (d + 9) [.ref x, .int a, .int lo, .int hi] h Q := by
  show Jx G mX9_range (d + 9) Q 0 [some (.ref x), some (.int a), some (.int lo), some (.int hi), none] [] h
  refine x_aload_n dX9_range_0 rfl rfl ?_
  refine x_iload_n dX9_range_1 rfl ?_
  refine x_callV dX9_range_2 sv_X9_31_9 rfl (by first | exact hA.pe hp | exact hA.f (by omega) | exact hA.ob | first | assumption | exact hput_self _ _ _ | exact hnew_self _ _ _ | (rw [hput_ne _ _ _ (by first | assumption | omega | (apply Ne.symm; assumption))]; first | assumption | exact hput_self _ _ _ | exact hnew_self _ _ _ | (rw [hput_ne _ _ _ (by first | assumption | omega | (apply Ne.symm; assumption))]; first | assumption | exact hput_self _ _ _ | exact hnew_self _ _ _) | (rw [hnew_ne _ _ _ (by first | assumption | omega | (apply Ne.symm; assumption))]; first | assumption | exact hput_self _ _ _ | exact hnew_self _ _ _)) | (rw [hnew_ne _ _ _ (by first | assumption | omega | (apply Ne.symm; assumption))]; first | assumption | exact hput_self _ _ _ | exact hnew_self _ _ _ | (rw [hput_ne _ _ _ (by first | assumption | omega | (apply Ne.symm; assumption))]; first | assumption | exact hput_self _ _ _ | exact hnew_self _ _ _) | (rw [hnew_ne _ _ _ (by first | assumption | omega | (apply Ne.symm; assumption))]; first | assumption | exact hput_self _ _ _ | exact hnew_self _ _ _))) rfl (Nat.le_of_ble_eq_true rfl) rfl ?_
  refine k_peerAt hA hr (fun p hp hx hn => kc_v dr_2 ?_) (fun hn => kc_t (hq.2 0 11 rfl (by rw [sRange, hn])))
  rw [sRange, hn] at hq
  simp only at hq
  refine y_astore dX9_range_5 rfl rfl lvs_5_4 ?_
  refine x_iload_n dX9_range_7 rfl ?_
  refine x_if_lt (tgt := 23) dX9_range_8 (by decide) (fun c1 => ?_) (fun c1 => ?_)
  · rw [if_pos (Or.inl c1)] at hq
    exact th_X9_39 rfl dX9_range_23 dX9_range_26 dX9_range_27 dX9_range_30 rfl (by omega) (by decide) (hr.c (by omega)) (hr.s (by omega)) (hq.2 1 12 rfl rfl)
  refine x_iload_n dX9_range_11 rfl ?_
  refine x_sipush (v := nI 1000) dX9_range_12 (by decide) ?_
  refine x_icmp_gt (tgt := 23) dX9_range_15 (by decide) (fun c2 => ?_) (fun c2 => ?_)
  · rw [if_pos (Or.inr (Or.inr c2))] at hq
    exact th_X9_39 rfl dX9_range_23 dX9_range_26 dX9_range_27 dX9_range_30 rfl (by omega) (by decide) (hr.c (by omega)) (hr.s (by omega)) (hq.2 1 12 rfl rfl)
  refine x_iload_n dX9_range_18 rfl ?_
  refine x_iload_n dX9_range_19 rfl ?_
  refine x_icmp_le (tgt := 31) dX9_range_20 (by decide) (fun c3 => ?_) (fun c3 => ?_)
  · rw [if_neg (fun q => q.elim c1 (fun q => q.elim (fun q => Int32.not_lt.mpr c3 q) c2))] at hq
    refine x_aload dX9_range_31 rfl rfl ?_
    refine x_iload_n dX9_range_33 rfl ?_
    refine pf_X9_53_6 rfl dX9_range_34 (by first | exact hA.pe hp | exact hA.f (by omega) | exact hA.ob | first | assumption | exact hput_self _ _ _ | exact hnew_self _ _ _ | (rw [hput_ne _ _ _ (by first | assumption | omega | (apply Ne.symm; assumption))]; first | assumption | exact hput_self _ _ _ | exact hnew_self _ _ _ | (rw [hput_ne _ _ _ (by first | assumption | omega | (apply Ne.symm; assumption))]; first | assumption | exact hput_self _ _ _ | exact hnew_self _ _ _) | (rw [hnew_ne _ _ _ (by first | assumption | omega | (apply Ne.symm; assumption))]; first | assumption | exact hput_self _ _ _ | exact hnew_self _ _ _)) | (rw [hnew_ne _ _ _ (by first | assumption | omega | (apply Ne.symm; assumption))]; first | assumption | exact hput_self _ _ _ | exact hnew_self _ _ _ | (rw [hput_ne _ _ _ (by first | assumption | omega | (apply Ne.symm; assumption))]; first | assumption | exact hput_self _ _ _ | exact hnew_self _ _ _) | (rw [hnew_ne _ _ _ (by first | assumption | omega | (apply Ne.symm; assumption))]; first | assumption | exact hput_self _ _ _ | exact hnew_self _ _ _))) rfl rfl ?_
    obtain ⟨hA, hK⟩ := hA.v_lo hp lo
    refine x_aload dX9_range_37 rfl rfl ?_
    refine x_iload_n dX9_range_39 rfl ?_
    refine pf_X9_56_6 rfl dX9_range_40 (by first | exact hA.pe hp | exact hA.f (by omega) | exact hA.ob | first | assumption | exact hput_self _ _ _ | exact hnew_self _ _ _ | (rw [hput_ne _ _ _ (by first | assumption | omega | (apply Ne.symm; assumption))]; first | assumption | exact hput_self _ _ _ | exact hnew_self _ _ _ | (rw [hput_ne _ _ _ (by first | assumption | omega | (apply Ne.symm; assumption))]; first | assumption | exact hput_self _ _ _ | exact hnew_self _ _ _) | (rw [hnew_ne _ _ _ (by first | assumption | omega | (apply Ne.symm; assumption))]; first | assumption | exact hput_self _ _ _ | exact hnew_self _ _ _)) | (rw [hnew_ne _ _ _ (by first | assumption | omega | (apply Ne.symm; assumption))]; first | assumption | exact hput_self _ _ _ | exact hnew_self _ _ _ | (rw [hput_ne _ _ _ (by first | assumption | omega | (apply Ne.symm; assumption))]; first | assumption | exact hput_self _ _ _ | exact hnew_self _ _ _) | (rw [hnew_ne _ _ _ (by first | assumption | omega | (apply Ne.symm; assumption))]; first | assumption | exact hput_self _ _ _ | exact hnew_self _ _ _))) rfl rfl ?_
    obtain ⟨hA, hK1⟩ := hA.v_hi hp hi
    replace hK := hK.trans hK1
    refine x_iload_n dX9_range_43 rfl ?_
    refine x_iload_n dX9_range_44 rfl ?_
    refine x_isub dX9_range_45 ?_
    refine x_iconst (v := nI 1) dX9_range_46 (by decide) ?_
    refine x_iadd dX9_range_47 ?_
    try simp only [pk_mul, nI_add]
    refine x_ireturn dX9_range_48 rfl ?_
    exact hq.1 rfl _ _ _ _ _ _ hA hlv hK
  · rw [if_pos (Or.inr (Or.inl (Int32.not_le.mp c3)))] at hq
    exact th_X9_39 rfl dX9_range_23 dX9_range_26 dX9_range_27 dX9_range_30 rfl (by omega) (by decide) (hr.c (by omega)) (hr.s (by omega)) (hq.2 1 12 rfl rfl)
theorem k_seed {a s : Int32} (hA : RA G h x z u E X ov lv sf) (hlv : lvOK lv u) (hr : Rm G 1 h) (hq1 : (sSeed u a s).1 = nI 0 → ∀ h' E' X' ov' lv' sf', RA G h' x z (sSeed u a s).2.2 E' X' ov' lv' sf' → lvOK lv' (sSeed u a s).2.2 → KC x z 0 h h' → Q (.returned none) h') (hq2 : sSeed u a s = (nI 1, nI 0, u) → Q (.threw h.2.1) (hnew h (.inr (11, [])) 6)) : Cx G mX9_seed (d + 9) [.ref x, .int a, .int s] h Q := by
  show Jx G mX9_seed (d + 9) Q 0 [some (.ref x), some (.int a), some (.int s)] [] h
  refine x_aload_n dX9_seed_0 rfl rfl ?_
  refine x_iload_n dX9_seed_1 rfl ?_
  refine x_callV dX9_seed_2 sv_X9_31_9 rfl (by first | exact hA.pe hp | exact hA.f (by omega) | exact hA.ob | first | assumption | exact hput_self _ _ _ | exact hnew_self _ _ _ | (rw [hput_ne _ _ _ (by first | assumption | omega | (apply Ne.symm; assumption))]; first | assumption | exact hput_self _ _ _ | exact hnew_self _ _ _ | (rw [hput_ne _ _ _ (by first | assumption | omega | (apply Ne.symm; assumption))]; first | assumption | exact hput_self _ _ _ | exact hnew_self _ _ _) | (rw [hnew_ne _ _ _ (by first | assumption | omega | (apply Ne.symm; assumption))]; first | assumption | exact hput_self _ _ _ | exact hnew_self _ _ _)) | (rw [hnew_ne _ _ _ (by first | assumption | omega | (apply Ne.symm; assumption))]; first | assumption | exact hput_self _ _ _ | exact hnew_self _ _ _ | (rw [hput_ne _ _ _ (by first | assumption | omega | (apply Ne.symm; assumption))]; first | assumption | exact hput_self _ _ _ | exact hnew_self _ _ _) | (rw [hnew_ne _ _ _ (by first | assumption | omega | (apply Ne.symm; assumption))]; first | assumption | exact hput_self _ _ _ | exact hnew_self _ _ _))) rfl (Nat.le_of_ble_eq_true rfl) rfl ?_
  refine k_peerAt hA hr (fun p hp hx hn => kc_v dr_2 ?_) (fun hn => kc_t (hq2 (by rw [sSeed, hn])))
  rw [sSeed, hn] at hq1
  refine x_iload_n dX9_seed_5 rfl ?_
  refine pf_X9_59_6 rfl dX9_seed_6 (by first | exact hA.pe hp | exact hA.f (by omega) | exact hA.ob | first | assumption | exact hput_self _ _ _ | exact hnew_self _ _ _ | (rw [hput_ne _ _ _ (by first | assumption | omega | (apply Ne.symm; assumption))]; first | assumption | exact hput_self _ _ _ | exact hnew_self _ _ _ | (rw [hput_ne _ _ _ (by first | assumption | omega | (apply Ne.symm; assumption))]; first | assumption | exact hput_self _ _ _ | exact hnew_self _ _ _) | (rw [hnew_ne _ _ _ (by first | assumption | omega | (apply Ne.symm; assumption))]; first | assumption | exact hput_self _ _ _ | exact hnew_self _ _ _)) | (rw [hnew_ne _ _ _ (by first | assumption | omega | (apply Ne.symm; assumption))]; first | assumption | exact hput_self _ _ _ | exact hnew_self _ _ _ | (rw [hput_ne _ _ _ (by first | assumption | omega | (apply Ne.symm; assumption))]; first | assumption | exact hput_self _ _ _ | exact hnew_self _ _ _) | (rw [hnew_ne _ _ _ (by first | assumption | omega | (apply Ne.symm; assumption))]; first | assumption | exact hput_self _ _ _ | exact hnew_self _ _ _))) rfl rfl ?_
  obtain ⟨hA, hK⟩ := hA.v_no hp s
  refine x_vreturn dX9_seed_9 rfl ?_
  exact hq1 rfl _ _ _ _ _ _ hA hlv hK
theorem k_lose {a k : Int32} (hA : RA G h x z u E X ov lv sf) (hlv : lvOK lv u) (hfl : ∀ p, p < 2 → (u.fl p).length ≤ 30) (hr : Rm G 1 h) (hq : Kq G x z 0 h u (sLose u a k) [11] Q) : Cx G mX9_lose (d + 9) [.ref x, .int a, .int k] h Q := by
  show Jx G mX9_lose (d + 9) Q 0 [some (.ref x), some (.int a), some (.int k), none] [] h
  refine x_aload_n dX9_lose_0 rfl rfl ?_
  refine x_iload_n dX9_lose_1 rfl ?_
  refine x_callV dX9_lose_2 sv_X9_100_9 rfl (by first | exact hA.pe hp | exact hA.f (by omega) | exact hA.ob | first | assumption | exact hput_self _ _ _ | exact hnew_self _ _ _ | (rw [hput_ne _ _ _ (by first | assumption | omega | (apply Ne.symm; assumption))]; first | assumption | exact hput_self _ _ _ | exact hnew_self _ _ _ | (rw [hput_ne _ _ _ (by first | assumption | omega | (apply Ne.symm; assumption))]; first | assumption | exact hput_self _ _ _ | exact hnew_self _ _ _) | (rw [hnew_ne _ _ _ (by first | assumption | omega | (apply Ne.symm; assumption))]; first | assumption | exact hput_self _ _ _ | exact hnew_self _ _ _)) | (rw [hnew_ne _ _ _ (by first | assumption | omega | (apply Ne.symm; assumption))]; first | assumption | exact hput_self _ _ _ | exact hnew_self _ _ _ | (rw [hput_ne _ _ _ (by first | assumption | omega | (apply Ne.symm; assumption))]; first | assumption | exact hput_self _ _ _ | exact hnew_self _ _ _) | (rw [hnew_ne _ _ _ (by first | assumption | omega | (apply Ne.symm; assumption))]; first | assumption | exact hput_self _ _ _ | exact hnew_self _ _ _))) rfl (Nat.le_of_ble_eq_true rfl) rfl ?_
  refine k_flightTo hA hr (fun p hp hx hn => kc_v dr_2 ?_) (fun hn => kc_t (hq.2 0 11 rfl (by rw [sLose, hn])))
  refine y_astore_n dX9_lose_5 rfl rfl lvs_4_3 ?_
  refine x_aload_n dX9_lose_6 rfl rfl ?_
  refine x_iload_n dX9_lose_7 rfl ?_
  refine x_callS dX9_lose_8 ss_X9_104 (Nat.le_of_ble_eq_true rfl) rfl (Nat.le_of_ble_eq_true rfl) rfl ?_
  refine k_packetAt hA hp (hfl p hp) hr (fun j hjx hj e hi => kc_v dr_2 ?_) (fun hi => kc_t (hq.2 0 11 rfl (by rw [sLose, hn]; simp only; rw [hi])))
  rw [sLose, hn] at hq
  simp only at hq
  rw [hi] at hq
  simp only at hq
  subst e
  obtain ⟨m1, hm1⟩ := (hA.l (c := 0) (by omega) hp).sh
  refine x_pop dX9_lose_11 rfl ?_
  refine x_aload_n dX9_lose_12 rfl rfl ?_
  refine gf_X9_108_4 rfl dX9_lose_13 (by first | exact hA.pe hp | exact hA.f (by omega) | exact hA.ob | first | assumption | exact hput_self _ _ _ | exact hnew_self _ _ _ | (rw [hput_ne _ _ _ (by first | assumption | omega | (apply Ne.symm; assumption))]; first | assumption | exact hput_self _ _ _ | exact hnew_self _ _ _ | (rw [hput_ne _ _ _ (by first | assumption | omega | (apply Ne.symm; assumption))]; first | assumption | exact hput_self _ _ _ | exact hnew_self _ _ _) | (rw [hnew_ne _ _ _ (by first | assumption | omega | (apply Ne.symm; assumption))]; first | assumption | exact hput_self _ _ _ | exact hnew_self _ _ _)) | (rw [hnew_ne _ _ _ (by first | assumption | omega | (apply Ne.symm; assumption))]; first | assumption | exact hput_self _ _ _ | exact hnew_self _ _ _ | (rw [hput_ne _ _ _ (by first | assumption | omega | (apply Ne.symm; assumption))]; first | assumption | exact hput_self _ _ _ | exact hnew_self _ _ _) | (rw [hnew_ne _ _ _ (by first | assumption | omega | (apply Ne.symm; assumption))]; first | assumption | exact hput_self _ _ _ | exact hnew_self _ _ _))) ?_
  refine x_iload_n dX9_lose_16 rfl ?_
  refine x_callF dX9_lose_17 sf_X9_111_0 rfl (by first | exact hA.pe hp | exact hA.f (by omega) | exact hA.ob | first | assumption | exact hput_self _ _ _ | exact hnew_self _ _ _ | (rw [hput_ne _ _ _ (by first | assumption | omega | (apply Ne.symm; assumption))]; first | assumption | exact hput_self _ _ _ | exact hnew_self _ _ _ | (rw [hput_ne _ _ _ (by first | assumption | omega | (apply Ne.symm; assumption))]; first | assumption | exact hput_self _ _ _ | exact hnew_self _ _ _) | (rw [hnew_ne _ _ _ (by first | assumption | omega | (apply Ne.symm; assumption))]; first | assumption | exact hput_self _ _ _ | exact hnew_self _ _ _)) | (rw [hnew_ne _ _ _ (by first | assumption | omega | (apply Ne.symm; assumption))]; first | assumption | exact hput_self _ _ _ | exact hnew_self _ _ _ | (rw [hput_ne _ _ _ (by first | assumption | omega | (apply Ne.symm; assumption))]; first | assumption | exact hput_self _ _ _ | exact hnew_self _ _ _) | (rw [hnew_ne _ _ _ (by first | assumption | omega | (apply Ne.symm; assumption))]; first | assumption | exact hput_self _ _ _ | exact hnew_self _ _ _))) rfl (Nat.le_of_ble_eq_true rfl) rfl ?_
  refine k_remF hA hp hjx (fun h' E' X' hA' hK => kc_v dr_2 ?_)
  replace hA := hA'
  obtain ⟨m2, hm2⟩ := (hA.l (c := 0) (by omega) hp).sh
  refine x_pop dX9_lose_22 rfl ?_
  refine x_aload_n dX9_lose_23 rfl rfl ?_
  refine gf_X9_108_4 rfl dX9_lose_24 (by first | exact hA.pe hp | exact hA.f (by omega) | exact hA.ob | first | assumption | exact hput_self _ _ _ | exact hnew_self _ _ _ | (rw [hput_ne _ _ _ (by first | assumption | omega | (apply Ne.symm; assumption))]; first | assumption | exact hput_self _ _ _ | exact hnew_self _ _ _ | (rw [hput_ne _ _ _ (by first | assumption | omega | (apply Ne.symm; assumption))]; first | assumption | exact hput_self _ _ _ | exact hnew_self _ _ _) | (rw [hnew_ne _ _ _ (by first | assumption | omega | (apply Ne.symm; assumption))]; first | assumption | exact hput_self _ _ _ | exact hnew_self _ _ _)) | (rw [hnew_ne _ _ _ (by first | assumption | omega | (apply Ne.symm; assumption))]; first | assumption | exact hput_self _ _ _ | exact hnew_self _ _ _ | (rw [hput_ne _ _ _ (by first | assumption | omega | (apply Ne.symm; assumption))]; first | assumption | exact hput_self _ _ _ | exact hnew_self _ _ _) | (rw [hnew_ne _ _ _ (by first | assumption | omega | (apply Ne.symm; assumption))]; first | assumption | exact hput_self _ _ _ | exact hnew_self _ _ _))) ?_
  refine x_callF dX9_lose_27 sf_X9_82_0 rfl (by first | exact hA.pe hp | exact hA.f (by omega) | exact hA.ob | first | assumption | exact hput_self _ _ _ | exact hnew_self _ _ _ | (rw [hput_ne _ _ _ (by first | assumption | omega | (apply Ne.symm; assumption))]; first | assumption | exact hput_self _ _ _ | exact hnew_self _ _ _ | (rw [hput_ne _ _ _ (by first | assumption | omega | (apply Ne.symm; assumption))]; first | assumption | exact hput_self _ _ _ | exact hnew_self _ _ _) | (rw [hnew_ne _ _ _ (by first | assumption | omega | (apply Ne.symm; assumption))]; first | assumption | exact hput_self _ _ _ | exact hnew_self _ _ _)) | (rw [hnew_ne _ _ _ (by first | assumption | omega | (apply Ne.symm; assumption))]; first | assumption | exact hput_self _ _ _ | exact hnew_self _ _ _ | (rw [hput_ne _ _ _ (by first | assumption | omega | (apply Ne.symm; assumption))]; first | assumption | exact hput_self _ _ _ | exact hnew_self _ _ _) | (rw [hnew_ne _ _ _ (by first | assumption | omega | (apply Ne.symm; assumption))]; first | assumption | exact hput_self _ _ _ | exact hnew_self _ _ _))) rfl (Nat.le_of_ble_eq_true rfl) rfl ?_
  refine c_sizeL (hA.l (c := 0) (by omega) hp) (kc_v dr_1 ?_)
  rw [(hA.fl hp).1, show (u.w_fl p ((u.fl p).eraseIdx j)).fl p = (u.fl p).eraseIdx j from va_up_self _ _ _]
  refine x_ireturn dX9_lose_32 rfl ?_
  exact hq.1 rfl _ _ _ _ _ _ hA hlv hK
theorem k_twice {a k : Int32} (hA : RA G h x z u E X ov lv sf) (hlv : lvOK lv u) (hfl : ∀ p, p < 2 → (u.fl p).length ≤ 30) (hr : Rm G 1 h) (hq : Kq G x z 1 h u (sTwice u a k) [11] Q) : Cx G mX9_twice (d + 9) [.ref x, .int a, .int k] h Q := by
  show Jx G mX9_twice (d + 9) Q 0 [some (.ref x), some (.int a), some (.int k), none] [] h
  refine x_aload_n dX9_twice_0 rfl rfl ?_
  refine x_iload_n dX9_twice_1 rfl ?_
  refine x_callV dX9_twice_2 sv_X9_100_9 rfl (by first | exact hA.pe hp | exact hA.f (by omega) | exact hA.ob | first | assumption | exact hput_self _ _ _ | exact hnew_self _ _ _ | (rw [hput_ne _ _ _ (by first | assumption | omega | (apply Ne.symm; assumption))]; first | assumption | exact hput_self _ _ _ | exact hnew_self _ _ _ | (rw [hput_ne _ _ _ (by first | assumption | omega | (apply Ne.symm; assumption))]; first | assumption | exact hput_self _ _ _ | exact hnew_self _ _ _) | (rw [hnew_ne _ _ _ (by first | assumption | omega | (apply Ne.symm; assumption))]; first | assumption | exact hput_self _ _ _ | exact hnew_self _ _ _)) | (rw [hnew_ne _ _ _ (by first | assumption | omega | (apply Ne.symm; assumption))]; first | assumption | exact hput_self _ _ _ | exact hnew_self _ _ _ | (rw [hput_ne _ _ _ (by first | assumption | omega | (apply Ne.symm; assumption))]; first | assumption | exact hput_self _ _ _ | exact hnew_self _ _ _) | (rw [hnew_ne _ _ _ (by first | assumption | omega | (apply Ne.symm; assumption))]; first | assumption | exact hput_self _ _ _ | exact hnew_self _ _ _))) rfl (Nat.le_of_ble_eq_true rfl) rfl ?_
  refine k_flightTo hA hr (fun p hp hx hn => kc_v dr_2 ?_) (fun hn => kc_t (hq.2 0 11 rfl (by rw [sTwice, hn])))
  refine y_astore_n dX9_twice_5 rfl rfl lvs_4_3 ?_
  refine x_aload_n dX9_twice_6 rfl rfl ?_
  refine x_aload_n dX9_twice_7 rfl rfl ?_
  refine x_iload_n dX9_twice_8 rfl ?_
  refine x_callS dX9_twice_9 ss_X9_104 (Nat.le_of_ble_eq_true rfl) rfl (Nat.le_of_ble_eq_true rfl) rfl ?_
  refine k_packetAt hA hp (hfl p hp) hr (fun j hjx hj e hi => kc_v dr_2 ?_) (fun hi => kc_t (hq.2 0 11 rfl (by rw [sTwice, hn]; simp only; rw [hi])))
  rw [sTwice, hn] at hq
  simp only at hq
  rw [hi] at hq
  simp only at hq
  subst e
  have hpk := (hA.fl hp).at hjx (List.getElem?_eq_getElem hj)
  rw [getD_lt hj] at hq
  refine x_callV dX9_twice_12 sv_X9_119_4 rfl (by first | exact hA.pe hp | exact hA.f (by omega) | exact hA.ob | first | assumption | exact hput_self _ _ _ | exact hnew_self _ _ _ | (rw [hput_ne _ _ _ (by first | assumption | omega | (apply Ne.symm; assumption))]; first | assumption | exact hput_self _ _ _ | exact hnew_self _ _ _ | (rw [hput_ne _ _ _ (by first | assumption | omega | (apply Ne.symm; assumption))]; first | assumption | exact hput_self _ _ _ | exact hnew_self _ _ _) | (rw [hnew_ne _ _ _ (by first | assumption | omega | (apply Ne.symm; assumption))]; first | assumption | exact hput_self _ _ _ | exact hnew_self _ _ _)) | (rw [hnew_ne _ _ _ (by first | assumption | omega | (apply Ne.symm; assumption))]; first | assumption | exact hput_self _ _ _ | exact hnew_self _ _ _ | (rw [hput_ne _ _ _ (by first | assumption | omega | (apply Ne.symm; assumption))]; first | assumption | exact hput_self _ _ _ | exact hnew_self _ _ _) | (rw [hnew_ne _ _ _ (by first | assumption | omega | (apply Ne.symm; assumption))]; first | assumption | exact hput_self _ _ _ | exact hnew_self _ _ _))) rfl (Nat.le_of_ble_eq_true rfl) rfl ?_
  refine k_launch hA hp hpk (hfl p hp) hr (fun h' E' X' hA' hK => kc_n dr_2 ?_)
  replace hA := hA'
  obtain ⟨m2, hm2⟩ := (hA.l (c := 0) (by omega) hp).sh
  refine x_aload_n dX9_twice_15 rfl rfl ?_
  refine gf_X9_108_4 rfl dX9_twice_16 (by first | exact hA.pe hp | exact hA.f (by omega) | exact hA.ob | first | assumption | exact hput_self _ _ _ | exact hnew_self _ _ _ | (rw [hput_ne _ _ _ (by first | assumption | omega | (apply Ne.symm; assumption))]; first | assumption | exact hput_self _ _ _ | exact hnew_self _ _ _ | (rw [hput_ne _ _ _ (by first | assumption | omega | (apply Ne.symm; assumption))]; first | assumption | exact hput_self _ _ _ | exact hnew_self _ _ _) | (rw [hnew_ne _ _ _ (by first | assumption | omega | (apply Ne.symm; assumption))]; first | assumption | exact hput_self _ _ _ | exact hnew_self _ _ _)) | (rw [hnew_ne _ _ _ (by first | assumption | omega | (apply Ne.symm; assumption))]; first | assumption | exact hput_self _ _ _ | exact hnew_self _ _ _ | (rw [hput_ne _ _ _ (by first | assumption | omega | (apply Ne.symm; assumption))]; first | assumption | exact hput_self _ _ _ | exact hnew_self _ _ _) | (rw [hnew_ne _ _ _ (by first | assumption | omega | (apply Ne.symm; assumption))]; first | assumption | exact hput_self _ _ _ | exact hnew_self _ _ _))) ?_
  refine x_callF dX9_twice_19 sf_X9_82_0 rfl (by first | exact hA.pe hp | exact hA.f (by omega) | exact hA.ob | first | assumption | exact hput_self _ _ _ | exact hnew_self _ _ _ | (rw [hput_ne _ _ _ (by first | assumption | omega | (apply Ne.symm; assumption))]; first | assumption | exact hput_self _ _ _ | exact hnew_self _ _ _ | (rw [hput_ne _ _ _ (by first | assumption | omega | (apply Ne.symm; assumption))]; first | assumption | exact hput_self _ _ _ | exact hnew_self _ _ _) | (rw [hnew_ne _ _ _ (by first | assumption | omega | (apply Ne.symm; assumption))]; first | assumption | exact hput_self _ _ _ | exact hnew_self _ _ _)) | (rw [hnew_ne _ _ _ (by first | assumption | omega | (apply Ne.symm; assumption))]; first | assumption | exact hput_self _ _ _ | exact hnew_self _ _ _ | (rw [hput_ne _ _ _ (by first | assumption | omega | (apply Ne.symm; assumption))]; first | assumption | exact hput_self _ _ _ | exact hnew_self _ _ _) | (rw [hnew_ne _ _ _ (by first | assumption | omega | (apply Ne.symm; assumption))]; first | assumption | exact hput_self _ _ _ | exact hnew_self _ _ _))) rfl (Nat.le_of_ble_eq_true rfl) rfl ?_
  refine c_sizeL (hA.l (c := 0) (by omega) hp) (kc_v dr_1 ?_)
  rw [(hA.fl hp).1, show (u.w_fl p (flyL (u.fl p) (u.fl p)[j])).fl p = flyL (u.fl p) (u.fl p)[j] from va_up_self _ _ _]
  refine x_ireturn dX9_twice_24 rfl ?_
  exact hq.1 rfl _ _ _ _ _ _ hA hlv hK
theorem k_children {a : Int32} (hA : RA G h x z u E X ov lv sf) (hlv : lvOK lv u) (hr : Rm G 1 h) (hq : Kq G x z 0 h u (sChildren u a) [11] Q) : Cx G mX9_children (d + 9) [.ref x, .int a] h Q := by
  show Jx G mX9_children (d + 9) Q 0 [some (.ref x), some (.int a)] [] h
  refine x_aload_n dX9_children_0 rfl rfl ?_
  refine x_iload_n dX9_children_1 rfl ?_
  refine x_callV dX9_children_2 sv_X9_31_9 rfl (by first | exact hA.pe hp | exact hA.f (by omega) | exact hA.ob | first | assumption | exact hput_self _ _ _ | exact hnew_self _ _ _ | (rw [hput_ne _ _ _ (by first | assumption | omega | (apply Ne.symm; assumption))]; first | assumption | exact hput_self _ _ _ | exact hnew_self _ _ _ | (rw [hput_ne _ _ _ (by first | assumption | omega | (apply Ne.symm; assumption))]; first | assumption | exact hput_self _ _ _ | exact hnew_self _ _ _) | (rw [hnew_ne _ _ _ (by first | assumption | omega | (apply Ne.symm; assumption))]; first | assumption | exact hput_self _ _ _ | exact hnew_self _ _ _)) | (rw [hnew_ne _ _ _ (by first | assumption | omega | (apply Ne.symm; assumption))]; first | assumption | exact hput_self _ _ _ | exact hnew_self _ _ _ | (rw [hput_ne _ _ _ (by first | assumption | omega | (apply Ne.symm; assumption))]; first | assumption | exact hput_self _ _ _ | exact hnew_self _ _ _) | (rw [hnew_ne _ _ _ (by first | assumption | omega | (apply Ne.symm; assumption))]; first | assumption | exact hput_self _ _ _ | exact hnew_self _ _ _))) rfl (Nat.le_of_ble_eq_true rfl) rfl ?_
  refine k_peerAt hA hr (fun p hp hx hn => kc_v dr_2 ?_) (fun hn => kc_t (hq.2 0 11 rfl (by rw [sChildren, hn])))
  rw [sChildren, hn] at hq
  obtain ⟨m2, hm2⟩ := (hA.l (c := 1) (by omega) hp).sh
  refine gf_X9_126_6 rfl dX9_children_5 (by first | exact hA.pe hp | exact hA.f (by omega) | exact hA.ob | first | assumption | exact hput_self _ _ _ | exact hnew_self _ _ _ | (rw [hput_ne _ _ _ (by first | assumption | omega | (apply Ne.symm; assumption))]; first | assumption | exact hput_self _ _ _ | exact hnew_self _ _ _ | (rw [hput_ne _ _ _ (by first | assumption | omega | (apply Ne.symm; assumption))]; first | assumption | exact hput_self _ _ _ | exact hnew_self _ _ _) | (rw [hnew_ne _ _ _ (by first | assumption | omega | (apply Ne.symm; assumption))]; first | assumption | exact hput_self _ _ _ | exact hnew_self _ _ _)) | (rw [hnew_ne _ _ _ (by first | assumption | omega | (apply Ne.symm; assumption))]; first | assumption | exact hput_self _ _ _ | exact hnew_self _ _ _ | (rw [hput_ne _ _ _ (by first | assumption | omega | (apply Ne.symm; assumption))]; first | assumption | exact hput_self _ _ _ | exact hnew_self _ _ _) | (rw [hnew_ne _ _ _ (by first | assumption | omega | (apply Ne.symm; assumption))]; first | assumption | exact hput_self _ _ _ | exact hnew_self _ _ _))) ?_
  refine x_callF dX9_children_8 sf_X9_82_0 rfl (by first | exact hA.pe hp | exact hA.f (by omega) | exact hA.ob | first | assumption | exact hput_self _ _ _ | exact hnew_self _ _ _ | (rw [hput_ne _ _ _ (by first | assumption | omega | (apply Ne.symm; assumption))]; first | assumption | exact hput_self _ _ _ | exact hnew_self _ _ _ | (rw [hput_ne _ _ _ (by first | assumption | omega | (apply Ne.symm; assumption))]; first | assumption | exact hput_self _ _ _ | exact hnew_self _ _ _) | (rw [hnew_ne _ _ _ (by first | assumption | omega | (apply Ne.symm; assumption))]; first | assumption | exact hput_self _ _ _ | exact hnew_self _ _ _)) | (rw [hnew_ne _ _ _ (by first | assumption | omega | (apply Ne.symm; assumption))]; first | assumption | exact hput_self _ _ _ | exact hnew_self _ _ _ | (rw [hput_ne _ _ _ (by first | assumption | omega | (apply Ne.symm; assumption))]; first | assumption | exact hput_self _ _ _ | exact hnew_self _ _ _) | (rw [hnew_ne _ _ _ (by first | assumption | omega | (apply Ne.symm; assumption))]; first | assumption | exact hput_self _ _ _ | exact hnew_self _ _ _))) rfl (Nat.le_of_ble_eq_true rfl) rfl ?_
  refine c_sizeL (hA.l (c := 1) (by omega) hp) (kc_v dr_1 ?_)
  rw [(hA.ki hp).1]
  refine x_ireturn dX9_children_13 rfl ?_
  exact hq.1 rfl _ _ _ _ _ _ hA hlv (KC.rf x z h)
theorem k_flying {a : Int32} (hA : RA G h x z u E X ov lv sf) (hlv : lvOK lv u) (hr : Rm G 1 h) (hq : Kq G x z 0 h u (sFlying u a) [11] Q) : Cx G mX9_flying (d + 9) [.ref x, .int a] h Q := by
  show Jx G mX9_flying (d + 9) Q 0 [some (.ref x), some (.int a)] [] h
  refine x_aload_n dX9_flying_0 rfl rfl ?_
  refine x_iload_n dX9_flying_1 rfl ?_
  refine x_callV dX9_flying_2 sv_X9_100_9 rfl (by first | exact hA.pe hp | exact hA.f (by omega) | exact hA.ob | first | assumption | exact hput_self _ _ _ | exact hnew_self _ _ _ | (rw [hput_ne _ _ _ (by first | assumption | omega | (apply Ne.symm; assumption))]; first | assumption | exact hput_self _ _ _ | exact hnew_self _ _ _ | (rw [hput_ne _ _ _ (by first | assumption | omega | (apply Ne.symm; assumption))]; first | assumption | exact hput_self _ _ _ | exact hnew_self _ _ _) | (rw [hnew_ne _ _ _ (by first | assumption | omega | (apply Ne.symm; assumption))]; first | assumption | exact hput_self _ _ _ | exact hnew_self _ _ _)) | (rw [hnew_ne _ _ _ (by first | assumption | omega | (apply Ne.symm; assumption))]; first | assumption | exact hput_self _ _ _ | exact hnew_self _ _ _ | (rw [hput_ne _ _ _ (by first | assumption | omega | (apply Ne.symm; assumption))]; first | assumption | exact hput_self _ _ _ | exact hnew_self _ _ _) | (rw [hnew_ne _ _ _ (by first | assumption | omega | (apply Ne.symm; assumption))]; first | assumption | exact hput_self _ _ _ | exact hnew_self _ _ _))) rfl (Nat.le_of_ble_eq_true rfl) rfl ?_
  refine k_flightTo hA hr (fun p hp hx hn => kc_v dr_2 ?_) (fun hn => kc_t (hq.2 0 11 rfl (by rw [sFlying, hn])))
  rw [sFlying, hn] at hq
  obtain ⟨m2, hm2⟩ := (hA.l (c := 0) (by omega) hp).sh
  refine gf_X9_108_4 rfl dX9_flying_5 (by first | exact hA.pe hp | exact hA.f (by omega) | exact hA.ob | first | assumption | exact hput_self _ _ _ | exact hnew_self _ _ _ | (rw [hput_ne _ _ _ (by first | assumption | omega | (apply Ne.symm; assumption))]; first | assumption | exact hput_self _ _ _ | exact hnew_self _ _ _ | (rw [hput_ne _ _ _ (by first | assumption | omega | (apply Ne.symm; assumption))]; first | assumption | exact hput_self _ _ _ | exact hnew_self _ _ _) | (rw [hnew_ne _ _ _ (by first | assumption | omega | (apply Ne.symm; assumption))]; first | assumption | exact hput_self _ _ _ | exact hnew_self _ _ _)) | (rw [hnew_ne _ _ _ (by first | assumption | omega | (apply Ne.symm; assumption))]; first | assumption | exact hput_self _ _ _ | exact hnew_self _ _ _ | (rw [hput_ne _ _ _ (by first | assumption | omega | (apply Ne.symm; assumption))]; first | assumption | exact hput_self _ _ _ | exact hnew_self _ _ _) | (rw [hnew_ne _ _ _ (by first | assumption | omega | (apply Ne.symm; assumption))]; first | assumption | exact hput_self _ _ _ | exact hnew_self _ _ _))) ?_
  refine x_callF dX9_flying_8 sf_X9_82_0 rfl (by first | exact hA.pe hp | exact hA.f (by omega) | exact hA.ob | first | assumption | exact hput_self _ _ _ | exact hnew_self _ _ _ | (rw [hput_ne _ _ _ (by first | assumption | omega | (apply Ne.symm; assumption))]; first | assumption | exact hput_self _ _ _ | exact hnew_self _ _ _ | (rw [hput_ne _ _ _ (by first | assumption | omega | (apply Ne.symm; assumption))]; first | assumption | exact hput_self _ _ _ | exact hnew_self _ _ _) | (rw [hnew_ne _ _ _ (by first | assumption | omega | (apply Ne.symm; assumption))]; first | assumption | exact hput_self _ _ _ | exact hnew_self _ _ _)) | (rw [hnew_ne _ _ _ (by first | assumption | omega | (apply Ne.symm; assumption))]; first | assumption | exact hput_self _ _ _ | exact hnew_self _ _ _ | (rw [hput_ne _ _ _ (by first | assumption | omega | (apply Ne.symm; assumption))]; first | assumption | exact hput_self _ _ _ | exact hnew_self _ _ _) | (rw [hnew_ne _ _ _ (by first | assumption | omega | (apply Ne.symm; assumption))]; first | assumption | exact hput_self _ _ _ | exact hnew_self _ _ _))) rfl (Nat.le_of_ble_eq_true rfl) rfl ?_
  refine c_sizeL (hA.l (c := 0) (by omega) hp) (kc_v dr_1 ?_)
  rw [(hA.fl hp).1]
  refine x_ireturn dX9_flying_13 rfl ?_
  exact hq.1 rfl _ _ _ _ _ _ hA hlv (KC.rf x z h)
theorem k_child {a k w : Int32} (hA : RA G h x z u E X ov lv sf) (hlv : lvOK lv u) (hki : ∀ p, p < 2 → (u.ki p).length ≤ 16) (hr : Rm G 1 h) (hq : Kq G x z 0 h u (sChild u a k w) [11, 12] Q) : Cx G mX9_child (d + 9) [.ref x, .int a, .int k, .int w] h Q := by
  show Jx G mX9_child (d + 9) Q 0 [some (.ref x), some (.int a), some (.int k), some (.int w), none] [] h
  refine x_aload_n dX9_child_0 rfl rfl ?_
  refine x_iload_n dX9_child_1 rfl ?_
  refine x_callV dX9_child_2 sv_X9_31_9 rfl (by first | exact hA.pe hp | exact hA.f (by omega) | exact hA.ob | first | assumption | exact hput_self _ _ _ | exact hnew_self _ _ _ | (rw [hput_ne _ _ _ (by first | assumption | omega | (apply Ne.symm; assumption))]; first | assumption | exact hput_self _ _ _ | exact hnew_self _ _ _ | (rw [hput_ne _ _ _ (by first | assumption | omega | (apply Ne.symm; assumption))]; first | assumption | exact hput_self _ _ _ | exact hnew_self _ _ _) | (rw [hnew_ne _ _ _ (by first | assumption | omega | (apply Ne.symm; assumption))]; first | assumption | exact hput_self _ _ _ | exact hnew_self _ _ _)) | (rw [hnew_ne _ _ _ (by first | assumption | omega | (apply Ne.symm; assumption))]; first | assumption | exact hput_self _ _ _ | exact hnew_self _ _ _ | (rw [hput_ne _ _ _ (by first | assumption | omega | (apply Ne.symm; assumption))]; first | assumption | exact hput_self _ _ _ | exact hnew_self _ _ _) | (rw [hnew_ne _ _ _ (by first | assumption | omega | (apply Ne.symm; assumption))]; first | assumption | exact hput_self _ _ _ | exact hnew_self _ _ _))) rfl (Nat.le_of_ble_eq_true rfl) rfl ?_
  refine k_peerAt hA hr (fun p hp hx hn => kc_v dr_2 ?_) (fun hn => kc_t (hq.2 0 11 rfl (by rw [sChild, hn])))
  refine x_iload_n dX9_child_5 rfl ?_
  refine x_callS dX9_child_6 ss_X9_62 (Nat.le_of_ble_eq_true rfl) rfl (Nat.le_of_ble_eq_true rfl) rfl ?_
  refine k_childAt hA hp (hki p hp) hr (fun j hjx hj e hi => kc_v dr_2 ?_) (fun hi => kc_t (hq.2 0 11 rfl (by rw [sChild, hn]; simp only; rw [hi])))
  rw [sChild, hn] at hq
  simp only at hq
  rw [hi] at hq
  simp only at hq
  have hk := (hA.ki hp).at hjx (List.getElem?_eq_getElem hj)
  rw [getD_lt hj] at hq
  refine y_astore dX9_child_9 rfl rfl lvs_5_4 ?_
  refine x_iload_n dX9_child_11 rfl ?_
  refine x_bipush (v := nI 8) dX9_child_12 (by decide) ?_
  refine x_callS dX9_child_14 ss_X9_129 (Nat.le_of_ble_eq_true rfl) rfl (Nat.le_of_ble_eq_true rfl) rfl ?_
  refine k_refuseOutside (n := 7) (by omega) hr (fun i hi7 e2 hw => kc_n dr_2 ?_) (fun hw => kc_t (hq.2 1 12 rfl (by rw [if_pos hw])))
  rw [if_neg hw] at hq
  subst e2
  rw [nI_clamp (by omega)] at hq
  obtain ⟨-, ⟨db, hbc, hdb⟩, -⟩ := id hk
  refine x_aload dX9_child_17 rfl rfl ?_
  refine x_iload_n dX9_child_19 rfl ?_
  refine x_callV dX9_child_20 sv_X9_132_2 rfl (by first | exact hA.pe hp | exact hA.f (by omega) | exact hA.ob | first | assumption | exact hput_self _ _ _ | exact hnew_self _ _ _ | (rw [hput_ne _ _ _ (by first | assumption | omega | (apply Ne.symm; assumption))]; first | assumption | exact hput_self _ _ _ | exact hnew_self _ _ _ | (rw [hput_ne _ _ _ (by first | assumption | omega | (apply Ne.symm; assumption))]; first | assumption | exact hput_self _ _ _ | exact hnew_self _ _ _) | (rw [hnew_ne _ _ _ (by first | assumption | omega | (apply Ne.symm; assumption))]; first | assumption | exact hput_self _ _ _ | exact hnew_self _ _ _)) | (rw [hnew_ne _ _ _ (by first | assumption | omega | (apply Ne.symm; assumption))]; first | assumption | exact hput_self _ _ _ | exact hnew_self _ _ _ | (rw [hput_ne _ _ _ (by first | assumption | omega | (apply Ne.symm; assumption))]; first | assumption | exact hput_self _ _ _ | exact hnew_self _ _ _) | (rw [hnew_ne _ _ _ (by first | assumption | omega | (apply Ne.symm; assumption))]; first | assumption | exact hput_self _ _ _ | exact hnew_self _ _ _))) rfl (Nat.le_of_ble_eq_true rfl) rfl ?_
  refine k_childFact hk hi7 (kc_v dr_2 ?_)
  refine x_ireturn dX9_child_23 rfl ?_
  exact hq.1 rfl _ _ _ _ _ _ hA hlv (KC.rf x z h)
theorem k_packet {a k w : Int32} (hA : RA G h x z u E X ov lv sf) (hlv : lvOK lv u) (hfl : ∀ p, p < 2 → (u.fl p).length ≤ 30) (hr : Rm G 1 h) (hq : Kq G x z 0 h u (sPacket u a k w) [11, 12] Q) : Cx G mX9_packet (d + 9) [.ref x, .int a, .int k, .int w] h Q := by
  show Jx G mX9_packet (d + 9) Q 0 [some (.ref x), some (.int a), some (.int k), some (.int w), none] [] h
  refine x_aload_n dX9_packet_0 rfl rfl ?_
  refine x_iload_n dX9_packet_1 rfl ?_
  refine x_callV dX9_packet_2 sv_X9_100_9 rfl (by first | exact hA.pe hp | exact hA.f (by omega) | exact hA.ob | first | assumption | exact hput_self _ _ _ | exact hnew_self _ _ _ | (rw [hput_ne _ _ _ (by first | assumption | omega | (apply Ne.symm; assumption))]; first | assumption | exact hput_self _ _ _ | exact hnew_self _ _ _ | (rw [hput_ne _ _ _ (by first | assumption | omega | (apply Ne.symm; assumption))]; first | assumption | exact hput_self _ _ _ | exact hnew_self _ _ _) | (rw [hnew_ne _ _ _ (by first | assumption | omega | (apply Ne.symm; assumption))]; first | assumption | exact hput_self _ _ _ | exact hnew_self _ _ _)) | (rw [hnew_ne _ _ _ (by first | assumption | omega | (apply Ne.symm; assumption))]; first | assumption | exact hput_self _ _ _ | exact hnew_self _ _ _ | (rw [hput_ne _ _ _ (by first | assumption | omega | (apply Ne.symm; assumption))]; first | assumption | exact hput_self _ _ _ | exact hnew_self _ _ _) | (rw [hnew_ne _ _ _ (by first | assumption | omega | (apply Ne.symm; assumption))]; first | assumption | exact hput_self _ _ _ | exact hnew_self _ _ _))) rfl (Nat.le_of_ble_eq_true rfl) rfl ?_
  refine k_flightTo hA hr (fun p hp hx hn => kc_v dr_2 ?_) (fun hn => kc_t (hq.2 0 11 rfl (by rw [sPacket, hn])))
  refine x_iload_n dX9_packet_5 rfl ?_
  refine x_callS dX9_packet_6 ss_X9_104 (Nat.le_of_ble_eq_true rfl) rfl (Nat.le_of_ble_eq_true rfl) rfl ?_
  refine k_packetAt hA hp (hfl p hp) hr (fun j hjx hj e hi => kc_v dr_2 ?_) (fun hi => kc_t (hq.2 0 11 rfl (by rw [sPacket, hn]; simp only; rw [hi])))
  rw [sPacket, hn] at hq
  simp only at hq
  rw [hi] at hq
  simp only at hq
  have hk := (hA.fl hp).at hjx (List.getElem?_eq_getElem hj)
  rw [getD_lt hj] at hq
  refine y_astore dX9_packet_9 rfl rfl lvs_5_4 ?_
  refine x_iload_n dX9_packet_11 rfl ?_
  refine x_bipush (v := nI 7) dX9_packet_12 (by decide) ?_
  refine x_callS dX9_packet_14 ss_X9_129 (Nat.le_of_ble_eq_true rfl) rfl (Nat.le_of_ble_eq_true rfl) rfl ?_
  refine k_refuseOutside (n := 6) (by omega) hr (fun i hi7 e2 hw => kc_n dr_2 ?_) (fun hw => kc_t (hq.2 1 12 rfl (by rw [if_pos hw])))
  rw [if_neg hw] at hq
  subst e2
  rw [nI_clamp (by omega)] at hq
  rcases id hk with hreq | hans
  · obtain ⟨so, oo, hbc⟩ := hreq.cell
    refine x_aload dX9_packet_17 rfl rfl ?_
    refine x_iload_n dX9_packet_19 rfl ?_
    refine x_callV dX9_packet_20 sv_X9_136_7 rfl (by first | exact hA.pe hp | exact hA.f (by omega) | exact hA.ob | first | assumption | exact hput_self _ _ _ | exact hnew_self _ _ _ | (rw [hput_ne _ _ _ (by first | assumption | omega | (apply Ne.symm; assumption))]; first | assumption | exact hput_self _ _ _ | exact hnew_self _ _ _ | (rw [hput_ne _ _ _ (by first | assumption | omega | (apply Ne.symm; assumption))]; first | assumption | exact hput_self _ _ _ | exact hnew_self _ _ _) | (rw [hnew_ne _ _ _ (by first | assumption | omega | (apply Ne.symm; assumption))]; first | assumption | exact hput_self _ _ _ | exact hnew_self _ _ _)) | (rw [hnew_ne _ _ _ (by first | assumption | omega | (apply Ne.symm; assumption))]; first | assumption | exact hput_self _ _ _ | exact hnew_self _ _ _ | (rw [hput_ne _ _ _ (by first | assumption | omega | (apply Ne.symm; assumption))]; first | assumption | exact hput_self _ _ _ | exact hnew_self _ _ _) | (rw [hnew_ne _ _ _ (by first | assumption | omega | (apply Ne.symm; assumption))]; first | assumption | exact hput_self _ _ _ | exact hnew_self _ _ _))) rfl (Nat.le_of_ble_eq_true rfl) rfl ?_
    refine k_pktFact hk hi7 (kc_v dr_2 ?_)
    refine x_ireturn dX9_packet_23 rfl ?_
    exact hq.1 rfl _ _ _ _ _ _ hA hlv (KC.rf x z h)
  · obtain ⟨-, h0, h6, b, dv, h3, hbc, -⟩ := hans
    refine x_aload dX9_packet_17 rfl rfl ?_
    refine x_iload_n dX9_packet_19 rfl ?_
    refine x_callV dX9_packet_20 sv_X9_136_1 rfl (by first | exact hA.pe hp | exact hA.f (by omega) | exact hA.ob | first | assumption | exact hput_self _ _ _ | exact hnew_self _ _ _ | (rw [hput_ne _ _ _ (by first | assumption | omega | (apply Ne.symm; assumption))]; first | assumption | exact hput_self _ _ _ | exact hnew_self _ _ _ | (rw [hput_ne _ _ _ (by first | assumption | omega | (apply Ne.symm; assumption))]; first | assumption | exact hput_self _ _ _ | exact hnew_self _ _ _) | (rw [hnew_ne _ _ _ (by first | assumption | omega | (apply Ne.symm; assumption))]; first | assumption | exact hput_self _ _ _ | exact hnew_self _ _ _)) | (rw [hnew_ne _ _ _ (by first | assumption | omega | (apply Ne.symm; assumption))]; first | assumption | exact hput_self _ _ _ | exact hnew_self _ _ _ | (rw [hput_ne _ _ _ (by first | assumption | omega | (apply Ne.symm; assumption))]; first | assumption | exact hput_self _ _ _ | exact hnew_self _ _ _) | (rw [hnew_ne _ _ _ (by first | assumption | omega | (apply Ne.symm; assumption))]; first | assumption | exact hput_self _ _ _ | exact hnew_self _ _ _))) rfl (Nat.le_of_ble_eq_true rfl) rfl ?_
    refine k_pktFact hk hi7 (kc_v dr_2 ?_)
    refine x_ireturn dX9_packet_23 rfl ?_
    exact hq.1 rfl _ _ _ _ _ _ hA hlv (KC.rf x z h)
theorem k_told {a w : Int32} (hA : RA G h x z u E X ov lv sf) (hlv : lvOK lv u) (hr : Rm G 1 h) (hq : Kq G x z 0 h u (sTold u a w) [11, 12] Q) : Cx G mX9_told (d + 9) [.ref x, .int a, .int w] h Q := by
  show Jx G mX9_told (d + 9) Q 0 [some (.ref x), some (.int a), some (.int w), none] [] h
  refine x_aload_n dX9_told_0 rfl rfl ?_
  refine x_iload_n dX9_told_1 rfl ?_
  refine x_callV dX9_told_2 sv_X9_31_9 rfl (by first | exact hA.pe hp | exact hA.f (by omega) | exact hA.ob | first | assumption | exact hput_self _ _ _ | exact hnew_self _ _ _ | (rw [hput_ne _ _ _ (by first | assumption | omega | (apply Ne.symm; assumption))]; first | assumption | exact hput_self _ _ _ | exact hnew_self _ _ _ | (rw [hput_ne _ _ _ (by first | assumption | omega | (apply Ne.symm; assumption))]; first | assumption | exact hput_self _ _ _ | exact hnew_self _ _ _) | (rw [hnew_ne _ _ _ (by first | assumption | omega | (apply Ne.symm; assumption))]; first | assumption | exact hput_self _ _ _ | exact hnew_self _ _ _)) | (rw [hnew_ne _ _ _ (by first | assumption | omega | (apply Ne.symm; assumption))]; first | assumption | exact hput_self _ _ _ | exact hnew_self _ _ _ | (rw [hput_ne _ _ _ (by first | assumption | omega | (apply Ne.symm; assumption))]; first | assumption | exact hput_self _ _ _ | exact hnew_self _ _ _) | (rw [hnew_ne _ _ _ (by first | assumption | omega | (apply Ne.symm; assumption))]; first | assumption | exact hput_self _ _ _ | exact hnew_self _ _ _))) rfl (Nat.le_of_ble_eq_true rfl) rfl ?_
  refine k_peerAt hA hr (fun p hp hx hn => kc_v dr_2 ?_) (fun hn => kc_t (hq.2 0 11 rfl (by rw [sTold, hn])))
  rw [sTold, hn] at hq
  simp only at hq
  refine y_astore_n dX9_told_5 rfl rfl lvs_4_3 ?_
  refine x_iload_n dX9_told_6 rfl ?_
  refine x_bipush (v := nI 8) dX9_told_7 (by decide) ?_
  refine x_callS dX9_told_9 ss_X9_129 (Nat.le_of_ble_eq_true rfl) rfl (Nat.le_of_ble_eq_true rfl) rfl ?_
  refine k_refuseOutside (n := 7) (by omega) hr (fun i hi7 e2 hw => kc_n dr_2 ?_) (fun hw => kc_t (hq.2 1 12 rfl (by rw [if_pos hw])))
  rw [if_neg hw] at hq
  subst e2
  rw [nI_clamp (by omega)] at hq
  refine x_aload_n dX9_told_12 rfl rfl ?_
  refine x_iload_n dX9_told_13 rfl ?_
  refine x_callV dX9_told_14 sv_X9_139_6 rfl (by first | exact hA.pe hp | exact hA.f (by omega) | exact hA.ob | first | assumption | exact hput_self _ _ _ | exact hnew_self _ _ _ | (rw [hput_ne _ _ _ (by first | assumption | omega | (apply Ne.symm; assumption))]; first | assumption | exact hput_self _ _ _ | exact hnew_self _ _ _ | (rw [hput_ne _ _ _ (by first | assumption | omega | (apply Ne.symm; assumption))]; first | assumption | exact hput_self _ _ _ | exact hnew_self _ _ _) | (rw [hnew_ne _ _ _ (by first | assumption | omega | (apply Ne.symm; assumption))]; first | assumption | exact hput_self _ _ _ | exact hnew_self _ _ _)) | (rw [hnew_ne _ _ _ (by first | assumption | omega | (apply Ne.symm; assumption))]; first | assumption | exact hput_self _ _ _ | exact hnew_self _ _ _ | (rw [hput_ne _ _ _ (by first | assumption | omega | (apply Ne.symm; assumption))]; first | assumption | exact hput_self _ _ _ | exact hnew_self _ _ _) | (rw [hnew_ne _ _ _ (by first | assumption | omega | (apply Ne.symm; assumption))]; first | assumption | exact hput_self _ _ _ | exact hnew_self _ _ _))) rfl (Nat.le_of_ble_eq_true rfl) rfl ?_
  refine k_peerFact hA hp hi7 (kc_v dr_2 ?_)
  refine x_ireturn dX9_told_17 rfl ?_
  exact hq.1 rfl _ _ _ _ _ _ hA hlv (KC.rf x z h)
end K15X
