theorem fi_at {α : Type} {P : α → Bool} {l : List α} {k : Nat} (h : l.findIdx? P = some k) : ∃ hk : k < l.length, P l[k] = true := by
  have := List.findIdx?_eq_some_iff_getElem.mp h
  exact ⟨this.1, this.2.1⟩
theorem fi_no {α : Type} {P : α → Bool} {l : List α} : l.findIdx? P = none ↔ ∀ a ∈ l, P a = false := by
  rw [List.findIdx?_eq_none_iff]
theorem ren_none {l : List (Nat → Int32)} {v : Int32} (hb : ∀ kd ∈ l, ∃ b, kd 6 = bI b) (h1 : l.findIdx? (fun kd => decide (kd 5 = v ∧ kd 6 = nI 1)) = none) (h0 : l.findIdx? (fun kd => decide (kd 5 = v ∧ kd 6 = nI 0)) = none) : l.findIdx? (fun kd => decide (kd 5 = v)) = none := by
  rw [fi_no] at h1 h0 ⊢
  intro a ha
  have e1 := of_decide_eq_false (h1 a ha)
  have e0 := of_decide_eq_false (h0 a ha)
  apply decide_eq_false
  intro e
  obtain ⟨b, hb⟩ := hb a ha
  cases b
  · exact e0 ⟨e, hb⟩
  · exact e1 ⟨e, hb⟩
theorem ren_some {l : List (Nat → Int32)} {v b : Int32} (h1 : l.findIdx? (fun kd => decide (kd 5 = v ∧ kd 6 = b)) ≠ none) : l.findIdx? (fun kd => decide (kd 5 = v)) ≠ none := by
  intro e
  apply h1
  rw [fi_no] at e ⊢
  intro a ha
  have := of_decide_eq_false (e a ha)
  exact decide_eq_false (fun q => this q.1)
theorem nI_dec (n : Nat) : nI (n + 1) + (-1) = nI n := by
  rw [nI_succ, Int32.add_assoc]
  exact Int32.add_zero _
theorem L2.mem {α : Type} {R : Nat → α → Prop} {xs : List Nat} {l : List α} (h : L2 R xs l) {S : α → Prop} (hs : ∀ a b, R a b → S b) : ∀ b ∈ l, S b := by
  intro b hb
  obtain ⟨i, hi, rfl⟩ := List.getElem_of_mem hb
  exact hs _ _ (h.2 i _ _ (List.getElem?_eq_getElem (by rw [h.1]; exact hi)) (List.getElem?_eq_getElem hi))
section K7X
variable {G : GT} {d : Nat} {Q : Outcome → Hp → Prop} {h : Hp} {x z p : Nat} {u : Ut} {E : Nat → Nat → Nat} {X : Nat → Nat → List Nat} {ov lv : Nat → Option Nat} {sf : Nat → Nat → Int32}
theorem k_requestFor {wa : Nat} {w : Int32 × Int32} (hA : RA G h x z u E X ov lv sf) (hp : p < 2) (hw : wishO h z wa w) (hl : (u.ki p).length ≤ 16) (hr : Rm G 3 h)
    (hq1 : ∀ kd h' a, (askU u p w.1 w.2 kd).1 = wishU u p w → RA G h' x z (if w.1 = 2 then u else frU u p) E X ov lv sf → KC x z 3 h h' → reqO h' z a (askU u p w.1 w.2 kd).2 → Q (.returned (some (.ref a))) h')
    (hq0 : wishU u p w = u → Q (.returned (some .null)) h) : Cx G mX6_requestFor (d + 4) [.ref (aP x p), .ref wa] h Q := by
  show Jx G mX6_requestFor (d + 4) Q 0 [some (.ref (aP x p)), some (.ref wa), none] [] h
  obtain ⟨hwz, hwc, hwk⟩ := hw
  have hb := (hA.ki hp).mem (S := fun kd => ∃ b, kd 6 = bI b) (fun a b q => q.2.2)
  refine x_aload_n dX6_requestFor_0 rfl rfl ?_
  refine gf_X6_127_8 rfl dX6_requestFor_1 (by first | exact hA.pe hp | exact hA.f (by omega) | exact hA.ob | first | assumption | exact hput_self _ _ _ | exact hnew_self _ _ _ | (rw [hput_ne _ _ _ (by first | assumption | omega | (apply Ne.symm; assumption))]; first | assumption | exact hput_self _ _ _ | exact hnew_self _ _ _ | (rw [hput_ne _ _ _ (by first | assumption | omega | (apply Ne.symm; assumption))]; first | assumption | exact hput_self _ _ _ | exact hnew_self _ _ _) | (rw [hnew_ne _ _ _ (by first | assumption | omega | (apply Ne.symm; assumption))]; first | assumption | exact hput_self _ _ _ | exact hnew_self _ _ _)) | (rw [hnew_ne _ _ _ (by first | assumption | omega | (apply Ne.symm; assumption))]; first | assumption | exact hput_self _ _ _ | exact hnew_self _ _ _ | (rw [hput_ne _ _ _ (by first | assumption | omega | (apply Ne.symm; assumption))]; first | assumption | exact hput_self _ _ _ | exact hnew_self _ _ _) | (rw [hnew_ne _ _ _ (by first | assumption | omega | (apply Ne.symm; assumption))]; first | assumption | exact hput_self _ _ _ | exact hnew_self _ _ _))) ?_
  refine x_if_ne (tgt := 57) dX6_requestFor_4 (by decide) (fun c1 => ?_) (fun c1 => ?_)
  · have hw0 : ¬ w.1 = 0 := c1
    refine x_aload_n dX6_requestFor_57 rfl rfl ?_
    refine x_aload_n dX6_requestFor_58 rfl rfl ?_
    refine gf_X6_148_8 rfl dX6_requestFor_59 (by first | exact hA.pe hp | exact hA.f (by omega) | exact hA.ob | first | assumption | exact hput_self _ _ _ | exact hnew_self _ _ _ | (rw [hput_ne _ _ _ (by first | assumption | omega | (apply Ne.symm; assumption))]; first | assumption | exact hput_self _ _ _ | exact hnew_self _ _ _ | (rw [hput_ne _ _ _ (by first | assumption | omega | (apply Ne.symm; assumption))]; first | assumption | exact hput_self _ _ _ | exact hnew_self _ _ _) | (rw [hnew_ne _ _ _ (by first | assumption | omega | (apply Ne.symm; assumption))]; first | assumption | exact hput_self _ _ _ | exact hnew_self _ _ _)) | (rw [hnew_ne _ _ _ (by first | assumption | omega | (apply Ne.symm; assumption))]; first | assumption | exact hput_self _ _ _ | exact hnew_self _ _ _ | (rw [hput_ne _ _ _ (by first | assumption | omega | (apply Ne.symm; assumption))]; first | assumption | exact hput_self _ _ _ | exact hnew_self _ _ _) | (rw [hnew_ne _ _ _ (by first | assumption | omega | (apply Ne.symm; assumption))]; first | assumption | exact hput_self _ _ _ | exact hnew_self _ _ _))) ?_
    refine x_callV dX6_requestFor_62 sv_X6_149_6 rfl (by first | exact hA.pe hp | exact hA.f (by omega) | exact hA.ob | first | assumption | exact hput_self _ _ _ | exact hnew_self _ _ _ | (rw [hput_ne _ _ _ (by first | assumption | omega | (apply Ne.symm; assumption))]; first | assumption | exact hput_self _ _ _ | exact hnew_self _ _ _ | (rw [hput_ne _ _ _ (by first | assumption | omega | (apply Ne.symm; assumption))]; first | assumption | exact hput_self _ _ _ | exact hnew_self _ _ _) | (rw [hnew_ne _ _ _ (by first | assumption | omega | (apply Ne.symm; assumption))]; first | assumption | exact hput_self _ _ _ | exact hnew_self _ _ _)) | (rw [hnew_ne _ _ _ (by first | assumption | omega | (apply Ne.symm; assumption))]; first | assumption | exact hput_self _ _ _ | exact hnew_self _ _ _ | (rw [hput_ne _ _ _ (by first | assumption | omega | (apply Ne.symm; assumption))]; first | assumption | exact hput_self _ _ _ | exact hnew_self _ _ _) | (rw [hnew_ne _ _ _ (by first | assumption | omega | (apply Ne.symm; assumption))]; first | assumption | exact hput_self _ _ _ | exact hnew_self _ _ _))) rfl (Nat.le_of_ble_eq_true rfl) rfl ?_
    refine k_childOfMark hA hp hl (kc_v dr_2 ?_)
    generalize hf : (u.ki p).findIdx? (fun kd => decide (kd 0 = w.2)) = o
    cases o with
    | none =>
      show Jx _ _ _ _ _ _ [.null] _
      refine y_astore_n dX6_requestFor_65 rfl rfl lvs_3_2 ?_
      refine x_aload_n (v := va_rf none) dX6_requestFor_66 rfl rfl ?_
      refine x_ifnonnull (tgt := 72) dX6_requestFor_67 (by decide) (fun c2a c2 => ?_) (fun c2 => ?_)
      · cases c2
      refine x_null dX6_requestFor_70 ?_
      refine x_areturn dX6_requestFor_71 rfl (by first | exact Or.inl ⟨_, rfl⟩ | exact Or.inr ⟨_, rfl⟩) (by first | exact Or.inr ⟨_, rfl⟩ | exact Or.inl rfl | assumption) ?_
      refine hq0 ?_
      rw [wishU, if_neg hw0, hf]
    | some k =>
      obtain ⟨hkl, hkm⟩ := fi_at hf
      have hkx : k < (X 1 p).length := by rw [(hA.ki hp).1]; exact hkl
      have hkm := of_decide_eq_true hkm
      have hkid := (hA.ki hp).at hkx (List.getElem?_eq_getElem hkl)
      have hgd : (u.ki p).getD k (fun _ => 0) = (u.ki p)[k] := by rw [List.getD_eq_getElem?_getD, List.getElem?_eq_getElem hkl]; rfl
      obtain ⟨-, ⟨da, hc, -⟩, -⟩ := id hkid
      simp only [adr, List.getElem?_eq_getElem hkx]
      show Jx _ _ _ _ _ _ [.ref (X 1 p)[k]] _
      refine y_astore_n dX6_requestFor_65 rfl rfl lvs_3_2 ?_
      refine x_aload_n (v := va_rf (some (X 1 p)[k])) dX6_requestFor_66 rfl rfl ?_
      refine x_ifnonnull (tgt := 72) dX6_requestFor_67 (by decide) (fun c2a c2 => ?_) (fun c2 => ?_)
      · refine x_aload_n dX6_requestFor_72 rfl rfl ?_
        refine gf_X6_127_8 rfl dX6_requestFor_73 (by first | exact hA.pe hp | exact hA.f (by omega) | exact hA.ob | first | assumption | exact hput_self _ _ _ | exact hnew_self _ _ _ | (rw [hput_ne _ _ _ (by first | assumption | omega | (apply Ne.symm; assumption))]; first | assumption | exact hput_self _ _ _ | exact hnew_self _ _ _ | (rw [hput_ne _ _ _ (by first | assumption | omega | (apply Ne.symm; assumption))]; first | assumption | exact hput_self _ _ _ | exact hnew_self _ _ _) | (rw [hnew_ne _ _ _ (by first | assumption | omega | (apply Ne.symm; assumption))]; first | assumption | exact hput_self _ _ _ | exact hnew_self _ _ _)) | (rw [hnew_ne _ _ _ (by first | assumption | omega | (apply Ne.symm; assumption))]; first | assumption | exact hput_self _ _ _ | exact hnew_self _ _ _ | (rw [hput_ne _ _ _ (by first | assumption | omega | (apply Ne.symm; assumption))]; first | assumption | exact hput_self _ _ _ | exact hnew_self _ _ _) | (rw [hnew_ne _ _ _ (by first | assumption | omega | (apply Ne.symm; assumption))]; first | assumption | exact hput_self _ _ _ | exact hnew_self _ _ _))) ?_
        refine x_iconst (v := nI 2) dX6_requestFor_76 (by decide) ?_
        refine x_icmp_ne (tgt := 97) dX6_requestFor_77 (by decide) (fun c3 => ?_) (fun c3 => ?_)
        · have hw2 : ¬ w.1 = 2 := c3
          have hw1 : w.1 = nI 1 := by
            rcases hwk with q | q | q
            · exact absurd q hw0
            · exact q
            · exact absurd q hw2
          have hnull : ¬ (u.ki p).findIdx? (fun kd => decide (kd 5 = w.2)) = none → wishU u p w = u := by
            intro q
            simp only [wishU, if_neg hw0, hf]
            rw [if_neg (fun q2 => q2.elim hw2 q)]
          refine x_aload_n dX6_requestFor_97 rfl rfl ?_
          refine x_aload_n dX6_requestFor_98 rfl rfl ?_
          refine gf_X6_98_2 rfl dX6_requestFor_99 (by first | exact hA.pe hp | exact hA.f (by omega) | exact hA.ob | first | assumption | exact hput_self _ _ _ | exact hnew_self _ _ _ | (rw [hput_ne _ _ _ (by first | assumption | omega | (apply Ne.symm; assumption))]; first | assumption | exact hput_self _ _ _ | exact hnew_self _ _ _ | (rw [hput_ne _ _ _ (by first | assumption | omega | (apply Ne.symm; assumption))]; first | assumption | exact hput_self _ _ _ | exact hnew_self _ _ _) | (rw [hnew_ne _ _ _ (by first | assumption | omega | (apply Ne.symm; assumption))]; first | assumption | exact hput_self _ _ _ | exact hnew_self _ _ _)) | (rw [hnew_ne _ _ _ (by first | assumption | omega | (apply Ne.symm; assumption))]; first | assumption | exact hput_self _ _ _ | exact hnew_self _ _ _ | (rw [hput_ne _ _ _ (by first | assumption | omega | (apply Ne.symm; assumption))]; first | assumption | exact hput_self _ _ _ | exact hnew_self _ _ _) | (rw [hnew_ne _ _ _ (by first | assumption | omega | (apply Ne.symm; assumption))]; first | assumption | exact hput_self _ _ _ | exact hnew_self _ _ _))) ?_
          refine x_iconst (v := nI 1) dX6_requestFor_102 (by decide) ?_
          refine x_callV dX6_requestFor_103 sv_X6_153_6 rfl (by first | exact hA.pe hp | exact hA.f (by omega) | exact hA.ob | first | assumption | exact hput_self _ _ _ | exact hnew_self _ _ _ | (rw [hput_ne _ _ _ (by first | assumption | omega | (apply Ne.symm; assumption))]; first | assumption | exact hput_self _ _ _ | exact hnew_self _ _ _ | (rw [hput_ne _ _ _ (by first | assumption | omega | (apply Ne.symm; assumption))]; first | assumption | exact hput_self _ _ _ | exact hnew_self _ _ _) | (rw [hnew_ne _ _ _ (by first | assumption | omega | (apply Ne.symm; assumption))]; first | assumption | exact hput_self _ _ _ | exact hnew_self _ _ _)) | (rw [hnew_ne _ _ _ (by first | assumption | omega | (apply Ne.symm; assumption))]; first | assumption | exact hput_self _ _ _ | exact hnew_self _ _ _ | (rw [hput_ne _ _ _ (by first | assumption | omega | (apply Ne.symm; assumption))]; first | assumption | exact hput_self _ _ _ | exact hnew_self _ _ _) | (rw [hnew_ne _ _ _ (by first | assumption | omega | (apply Ne.symm; assumption))]; first | assumption | exact hput_self _ _ _ | exact hnew_self _ _ _))) rfl (Nat.le_of_ble_eq_true rfl) rfl ?_
          refine k_renewalOf hA hp hl (kc_v dr_3 ?_)
          rw [hkm]
          refine x_ifnonnull (tgt := 121) dX6_requestFor_106 (by decide) (fun c4a c4 => ?_) (fun c4 => ?_)
          · refine x_null dX6_requestFor_121 ?_
            refine x_areturn dX6_requestFor_122 rfl (by first | exact Or.inl ⟨_, rfl⟩ | exact Or.inr ⟨_, rfl⟩) (by first | exact Or.inr ⟨_, rfl⟩ | exact Or.inl rfl | assumption) ?_
            refine hq0 (hnull (ren_some (b := nI 1) (fun q => ?_)))
            rw [q] at c4
            cases c4
          have n1 : (u.ki p).findIdx? (fun kd => decide (kd 5 = w.2 ∧ kd 6 = nI 1)) = none := by
            generalize hg : (u.ki p).findIdx? (fun kd => decide (kd 5 = w.2 ∧ kd 6 = nI 1)) = o2 at c4
            cases o2 with
            | none => rfl
            | some j =>
              obtain ⟨hj, -⟩ := fi_at hg
              simp only [adr] at c4
              rw [List.getElem?_eq_getElem (by rw [(hA.ki hp).1]; exact hj)] at c4
              cases c4
          refine x_aload_n dX6_requestFor_109 rfl rfl ?_
          refine x_aload_n dX6_requestFor_110 rfl rfl ?_
          refine gf_X6_98_2 rfl dX6_requestFor_111 (by first | exact hA.pe hp | exact hA.f (by omega) | exact hA.ob | first | assumption | exact hput_self _ _ _ | exact hnew_self _ _ _ | (rw [hput_ne _ _ _ (by first | assumption | omega | (apply Ne.symm; assumption))]; first | assumption | exact hput_self _ _ _ | exact hnew_self _ _ _ | (rw [hput_ne _ _ _ (by first | assumption | omega | (apply Ne.symm; assumption))]; first | assumption | exact hput_self _ _ _ | exact hnew_self _ _ _) | (rw [hnew_ne _ _ _ (by first | assumption | omega | (apply Ne.symm; assumption))]; first | assumption | exact hput_self _ _ _ | exact hnew_self _ _ _)) | (rw [hnew_ne _ _ _ (by first | assumption | omega | (apply Ne.symm; assumption))]; first | assumption | exact hput_self _ _ _ | exact hnew_self _ _ _ | (rw [hput_ne _ _ _ (by first | assumption | omega | (apply Ne.symm; assumption))]; first | assumption | exact hput_self _ _ _ | exact hnew_self _ _ _) | (rw [hnew_ne _ _ _ (by first | assumption | omega | (apply Ne.symm; assumption))]; first | assumption | exact hput_self _ _ _ | exact hnew_self _ _ _))) ?_
          refine x_iconst (v := nI 0) dX6_requestFor_114 (by decide) ?_
          refine x_callV dX6_requestFor_115 sv_X6_153_6 rfl (by first | exact hA.pe hp | exact hA.f (by omega) | exact hA.ob | first | assumption | exact hput_self _ _ _ | exact hnew_self _ _ _ | (rw [hput_ne _ _ _ (by first | assumption | omega | (apply Ne.symm; assumption))]; first | assumption | exact hput_self _ _ _ | exact hnew_self _ _ _ | (rw [hput_ne _ _ _ (by first | assumption | omega | (apply Ne.symm; assumption))]; first | assumption | exact hput_self _ _ _ | exact hnew_self _ _ _) | (rw [hnew_ne _ _ _ (by first | assumption | omega | (apply Ne.symm; assumption))]; first | assumption | exact hput_self _ _ _ | exact hnew_self _ _ _)) | (rw [hnew_ne _ _ _ (by first | assumption | omega | (apply Ne.symm; assumption))]; first | assumption | exact hput_self _ _ _ | exact hnew_self _ _ _ | (rw [hput_ne _ _ _ (by first | assumption | omega | (apply Ne.symm; assumption))]; first | assumption | exact hput_self _ _ _ | exact hnew_self _ _ _) | (rw [hnew_ne _ _ _ (by first | assumption | omega | (apply Ne.symm; assumption))]; first | assumption | exact hput_self _ _ _ | exact hnew_self _ _ _))) rfl (Nat.le_of_ble_eq_true rfl) rfl ?_
          refine k_renewalOf hA hp hl (kc_v dr_3 ?_)
          rw [hkm]
          refine x_ifnull (tgt := 123) dX6_requestFor_118 (by decide) (fun c5 => ?_) (fun c5a c5 => ?_)
          · have n0 : (u.ki p).findIdx? (fun kd => decide (kd 5 = w.2 ∧ kd 6 = nI 0)) = none := by
              generalize hg : (u.ki p).findIdx? (fun kd => decide (kd 5 = w.2 ∧ kd 6 = nI 0)) = o2 at c5
              cases o2 with
              | none => rfl
              | some j =>
                obtain ⟨hj, -⟩ := fi_at hg
                simp only [adr] at c5
                rw [List.getElem?_eq_getElem (by rw [(hA.ki hp).1]; exact hj)] at c5
                cases c5
            have nn := ren_none hb n1 n0
            rw [if_neg hw2] at hq1
            refine k_rq_renew hA hp hkid hw1 hkm.symm (hr.after (KC.rf x z h) (by omega)) (fun h' a q1 q2 q3 => hq1 _ h' a ?_ q1 (q2.mono (by omega)) q3)
            simp only [wishU, if_neg hw0, hf]
            rw [if_pos (Or.inr nn), hgd]
          · refine x_null dX6_requestFor_121 ?_
            refine x_areturn dX6_requestFor_122 rfl (by first | exact Or.inl ⟨_, rfl⟩ | exact Or.inr ⟨_, rfl⟩) (by first | exact Or.inr ⟨_, rfl⟩ | exact Or.inl rfl | assumption) ?_
            refine hq0 (hnull (ren_some (b := nI 0) (fun q => ?_)))
            rw [q] at c5
            cases c5
        · have hw2 : w.1 = 2 := c3
          rw [if_pos hw2] at hq1
          refine k_rq_delete hA hp hkid hw2 hkm.symm (hr.after (KC.rf x z h) (by omega)) (fun h' a q1 q2 q3 => hq1 _ h' a ?_ q1 (q2.mono (by omega)) q3)
          simp only [wishU, if_neg hw0, hf]
          rw [if_pos (Or.inl hw2), hgd]
      · cases c2
  · have hw0 : w.1 = 0 := c1
    rw [if_neg (by rw [hw0]; decide)] at hq1
    refine k_rq_open (kd := fun _ => 0) hA hp hw0 hr (fun h' a q1 q2 q3 => hq1 _ h' a ?_ q1 q2 q3)
    rw [wishU, if_pos hw0]
theorem ask_out {u : Ut} {p : Nat} {w : Int32 × Int32} {kd : Nat → Int32} : outU (nnU (if w.1 = 2 then u else frU u p) p) p (askU u p w.1 w.2 kd).2 = (askU u p w.1 w.2 kd).1 := by
  rw [askU_1]
  by_cases h : w.1 = 2
  · rw [if_pos h, if_pos h]
  · rw [if_neg h, if_neg h]
    rfl
theorem takeN_some {n : Nat} {u : Ut} {p : Nat} (h : (u.ou p).isSome = true ∨ u.de p = true) : takeN n u p = u := by
  cases n with
  | zero => rfl
  | succ n => rw [takeN, if_pos h]
theorem k_take_exit {c : Int32} {z2 : Option Value} (hA : RA G h x z u E X ov lv sf) (hp : p < 2) (ho : (u.ou p).isSome = true) (hq : Q (.returned none) h) : Jx G mX6_takeWishesTillRequest (d + 9) Q 10 [some (.ref (aP x p)), some (.int c), z2] [] h := by
  refine x_iload_n dX6_takeWishesTillRequest_10 rfl ?_
  refine x_if_le (tgt := 61) dX6_takeWishesTillRequest_11 (by decide) (fun c1 => ?_) (fun c1 => ?_)
  · refine x_vreturn dX6_takeWishesTillRequest_61 rfl ?_
    exact hq
  refine x_aload_n dX6_takeWishesTillRequest_14 rfl rfl ?_
  refine gf_X6_56_6 rfl dX6_takeWishesTillRequest_15 (by first | exact hA.pe hp | exact hA.f (by omega) | exact hA.ob | first | assumption | exact hput_self _ _ _ | exact hnew_self _ _ _ | (rw [hput_ne _ _ _ (by first | assumption | omega | (apply Ne.symm; assumption))]; first | assumption | exact hput_self _ _ _ | exact hnew_self _ _ _ | (rw [hput_ne _ _ _ (by first | assumption | omega | (apply Ne.symm; assumption))]; first | assumption | exact hput_self _ _ _ | exact hnew_self _ _ _) | (rw [hnew_ne _ _ _ (by first | assumption | omega | (apply Ne.symm; assumption))]; first | assumption | exact hput_self _ _ _ | exact hnew_self _ _ _)) | (rw [hnew_ne _ _ _ (by first | assumption | omega | (apply Ne.symm; assumption))]; first | assumption | exact hput_self _ _ _ | exact hnew_self _ _ _ | (rw [hput_ne _ _ _ (by first | assumption | omega | (apply Ne.symm; assumption))]; first | assumption | exact hput_self _ _ _ | exact hnew_self _ _ _) | (rw [hnew_ne _ _ _ (by first | assumption | omega | (apply Ne.symm; assumption))]; first | assumption | exact hput_self _ _ _ | exact hnew_self _ _ _))) ?_
  refine x_ifnonnull (tgt := 61) dX6_takeWishesTillRequest_18 (by decide) (fun c2a c2 => ?_) (fun c2 => ?_)
  · refine x_vreturn dX6_takeWishesTillRequest_61 rfl ?_
    exact hq
  · rcases hA.ou hp with ⟨q1, q2⟩ | ⟨a, pk, q1, q2, -⟩
    · rw [q2] at ho
      cases ho
    · rw [q1] at c2
      cases c2
theorem k_take_loop {h0 : Hp} (hp : p < 2) : ∀ (n : Nat) (u : Ut) (h : Hp) (E : Nat → Nat → Nat) (X : Nat → Nat → List Nat) (z2 : Option Value), (u.wi p).length = n → n ≤ 30 → (u.ki p).length ≤ 16 → (u.fl (1 - p)).length ≤ 30 → RA G h x z u E X ov lv sf → KC x z 0 h0 h → Rm G 4 h → (∀ h' E' X' ov', RA G h' x z (takeN n u p) E' X' ov' lv sf → KC x z 4 h0 h' → Q (.returned none) h') → Jx G mX6_takeWishesTillRequest (d + 9) Q 10 [some (.ref (aP x p)), some (.int (nI n)), z2] [] h := by
  intro n
  induction n with
  | zero =>
    intro u h E X z2 hn hn30 hk hfl hA hK hr hq
    refine x_iload_n dX6_takeWishesTillRequest_10 rfl ?_
    refine x_if_le (tgt := 61) dX6_takeWishesTillRequest_11 (by decide) (fun c1 => ?_) (fun c1 => ?_)
    · refine x_vreturn dX6_takeWishesTillRequest_61 rfl ?_
      exact hq _ _ _ _ hA (hK.mono (by omega))
    · exact absurd (show nI 0 ≤ 0 by decide) c1
  | succ n ih =>
    intro u h E X z2 hn hn30 hk hfl hA hK hr hq
    obtain ⟨w, tl, hw⟩ : ∃ w tl, u.wi p = w :: tl := List.exists_cons_of_length_pos (by omega)
    have hlx := (hA.wi hp).1
    have h0x : 0 < (X 2 p).length := by omega
    have hwo := (hA.wi hp).at h0x (show (u.wi p)[0]? = some w by rw [hw]; rfl)
    obtain ⟨m1, hm1⟩ := (hA.l (c := 2) (by omega) hp).sh
    refine x_iload_n dX6_takeWishesTillRequest_10 rfl ?_
    refine x_if_le (tgt := 61) dX6_takeWishesTillRequest_11 (by decide) (fun c1 => ?_) (fun c1 => ?_)
    · exact absurd ((nI_leI (a := n + 1) (b := 0) (by omega) (by omega)).mp c1) (by omega)
    refine x_aload_n dX6_takeWishesTillRequest_14 rfl rfl ?_
    refine gf_X6_56_6 rfl dX6_takeWishesTillRequest_15 (by first | exact hA.pe hp | exact hA.f (by omega) | exact hA.ob | first | assumption | exact hput_self _ _ _ | exact hnew_self _ _ _ | (rw [hput_ne _ _ _ (by first | assumption | omega | (apply Ne.symm; assumption))]; first | assumption | exact hput_self _ _ _ | exact hnew_self _ _ _ | (rw [hput_ne _ _ _ (by first | assumption | omega | (apply Ne.symm; assumption))]; first | assumption | exact hput_self _ _ _ | exact hnew_self _ _ _) | (rw [hnew_ne _ _ _ (by first | assumption | omega | (apply Ne.symm; assumption))]; first | assumption | exact hput_self _ _ _ | exact hnew_self _ _ _)) | (rw [hnew_ne _ _ _ (by first | assumption | omega | (apply Ne.symm; assumption))]; first | assumption | exact hput_self _ _ _ | exact hnew_self _ _ _ | (rw [hput_ne _ _ _ (by first | assumption | omega | (apply Ne.symm; assumption))]; first | assumption | exact hput_self _ _ _ | exact hnew_self _ _ _) | (rw [hnew_ne _ _ _ (by first | assumption | omega | (apply Ne.symm; assumption))]; first | assumption | exact hput_self _ _ _ | exact hnew_self _ _ _))) ?_
    refine x_ifnonnull (tgt := 61) dX6_takeWishesTillRequest_18 (by decide) (fun c2a c2 => ?_) (fun c2 => ?_)
    · rcases hA.ou hp with ⟨q1, q2⟩ | ⟨a, pk, q1, q2, -⟩
      · rw [q1] at c2
        cases c2
      · rw [takeN_some (Or.inl (by rw [q2]; rfl))] at hq
        refine x_vreturn dX6_takeWishesTillRequest_61 rfl ?_
        exact hq _ _ _ _ hA (hK.mono (by omega))
    have hon : u.ou p = none := by
      rcases hA.ou hp with ⟨q1, q2⟩ | ⟨a, pk, q1, q2, -⟩
      · exact q2
      · rw [q1] at c2
        cases c2
    refine x_aload_n dX6_takeWishesTillRequest_21 rfl rfl ?_
    refine gf_X6_70_6 rfl dX6_takeWishesTillRequest_22 (by first | exact hA.pe hp | exact hA.f (by omega) | exact hA.ob | first | assumption | exact hput_self _ _ _ | exact hnew_self _ _ _ | (rw [hput_ne _ _ _ (by first | assumption | omega | (apply Ne.symm; assumption))]; first | assumption | exact hput_self _ _ _ | exact hnew_self _ _ _ | (rw [hput_ne _ _ _ (by first | assumption | omega | (apply Ne.symm; assumption))]; first | assumption | exact hput_self _ _ _ | exact hnew_self _ _ _) | (rw [hnew_ne _ _ _ (by first | assumption | omega | (apply Ne.symm; assumption))]; first | assumption | exact hput_self _ _ _ | exact hnew_self _ _ _)) | (rw [hnew_ne _ _ _ (by first | assumption | omega | (apply Ne.symm; assumption))]; first | assumption | exact hput_self _ _ _ | exact hnew_self _ _ _ | (rw [hput_ne _ _ _ (by first | assumption | omega | (apply Ne.symm; assumption))]; first | assumption | exact hput_self _ _ _ | exact hnew_self _ _ _) | (rw [hnew_ne _ _ _ (by first | assumption | omega | (apply Ne.symm; assumption))]; first | assumption | exact hput_self _ _ _ | exact hnew_self _ _ _))) ?_
    refine x_if_ne (tgt := 61) dX6_takeWishesTillRequest_25 (by decide) (fun c3 => ?_) (fun c3 => ?_)
    · rw [takeN_some (Or.inr (bI_ne.mp c3))] at hq
      refine x_vreturn dX6_takeWishesTillRequest_61 rfl ?_
      exact hq _ _ _ _ hA (hK.mono (by omega))
    have hde : ¬ u.de p = true := fun q => (bI_ne.mpr q) c3
    rw [takeN, if_neg (by rw [hon]; simp [hde]), hw] at hq
    simp only at hq
    refine x_aload_n dX6_takeWishesTillRequest_28 rfl rfl ?_
    refine x_aload_n dX6_takeWishesTillRequest_29 rfl rfl ?_
    refine gf_X6_22_6 rfl dX6_takeWishesTillRequest_30 (by first | exact hA.pe hp | exact hA.f (by omega) | exact hA.ob | first | assumption | exact hput_self _ _ _ | exact hnew_self _ _ _ | (rw [hput_ne _ _ _ (by first | assumption | omega | (apply Ne.symm; assumption))]; first | assumption | exact hput_self _ _ _ | exact hnew_self _ _ _ | (rw [hput_ne _ _ _ (by first | assumption | omega | (apply Ne.symm; assumption))]; first | assumption | exact hput_self _ _ _ | exact hnew_self _ _ _) | (rw [hnew_ne _ _ _ (by first | assumption | omega | (apply Ne.symm; assumption))]; first | assumption | exact hput_self _ _ _ | exact hnew_self _ _ _)) | (rw [hnew_ne _ _ _ (by first | assumption | omega | (apply Ne.symm; assumption))]; first | assumption | exact hput_self _ _ _ | exact hnew_self _ _ _ | (rw [hput_ne _ _ _ (by first | assumption | omega | (apply Ne.symm; assumption))]; first | assumption | exact hput_self _ _ _ | exact hnew_self _ _ _) | (rw [hnew_ne _ _ _ (by first | assumption | omega | (apply Ne.symm; assumption))]; first | assumption | exact hput_self _ _ _ | exact hnew_self _ _ _))) ?_
    refine x_iconst (v := nI 0) dX6_takeWishesTillRequest_33 (by decide) ?_
    refine x_callF dX6_takeWishesTillRequest_34 sf_X6_114_0 rfl (by first | exact hA.pe hp | exact hA.f (by omega) | exact hA.ob | first | assumption | exact hput_self _ _ _ | exact hnew_self _ _ _ | (rw [hput_ne _ _ _ (by first | assumption | omega | (apply Ne.symm; assumption))]; first | assumption | exact hput_self _ _ _ | exact hnew_self _ _ _ | (rw [hput_ne _ _ _ (by first | assumption | omega | (apply Ne.symm; assumption))]; first | assumption | exact hput_self _ _ _ | exact hnew_self _ _ _) | (rw [hnew_ne _ _ _ (by first | assumption | omega | (apply Ne.symm; assumption))]; first | assumption | exact hput_self _ _ _ | exact hnew_self _ _ _)) | (rw [hnew_ne _ _ _ (by first | assumption | omega | (apply Ne.symm; assumption))]; first | assumption | exact hput_self _ _ _ | exact hnew_self _ _ _ | (rw [hput_ne _ _ _ (by first | assumption | omega | (apply Ne.symm; assumption))]; first | assumption | exact hput_self _ _ _ | exact hnew_self _ _ _) | (rw [hnew_ne _ _ _ (by first | assumption | omega | (apply Ne.symm; assumption))]; first | assumption | exact hput_self _ _ _ | exact hnew_self _ _ _))) rfl (Nat.le_of_ble_eq_true rfl) rfl ?_
    refine k_remW (i := 0) hA hp h0x (fun h1 E1 X1 hA1 hK1 => kc_v dr_2 ?_)
    rw [show (u.wi p).eraseIdx 0 = tl by rw [hw]; rfl] at hA1
    replace hA := hA1
    replace hwo := hwo.kept hK1.kp
    have hr1 := hr.after hK1 (k2 := 4) (by omega)
    obtain ⟨-, hwc, -⟩ := id hwo
    refine x_castObj dX6_takeWishesTillRequest_39 (by first | exact hA.pe hp | exact hA.f (by omega) | exact hA.ob | first | assumption | exact hput_self _ _ _ | exact hnew_self _ _ _ | (rw [hput_ne _ _ _ (by first | assumption | omega | (apply Ne.symm; assumption))]; first | assumption | exact hput_self _ _ _ | exact hnew_self _ _ _ | (rw [hput_ne _ _ _ (by first | assumption | omega | (apply Ne.symm; assumption))]; first | assumption | exact hput_self _ _ _ | exact hnew_self _ _ _) | (rw [hnew_ne _ _ _ (by first | assumption | omega | (apply Ne.symm; assumption))]; first | assumption | exact hput_self _ _ _ | exact hnew_self _ _ _)) | (rw [hnew_ne _ _ _ (by first | assumption | omega | (apply Ne.symm; assumption))]; first | assumption | exact hput_self _ _ _ | exact hnew_self _ _ _ | (rw [hput_ne _ _ _ (by first | assumption | omega | (apply Ne.symm; assumption))]; first | assumption | exact hput_self _ _ _ | exact hnew_self _ _ _) | (rw [hnew_ne _ _ _ (by first | assumption | omega | (apply Ne.symm; assumption))]; first | assumption | exact hput_self _ _ _ | exact hnew_self _ _ _))) ck_X6_117 ca_8_Wish ?_
    refine x_callV dX6_takeWishesTillRequest_42 sv_X6_119_6 rfl (by first | exact hA.pe hp | exact hA.f (by omega) | exact hA.ob | first | assumption | exact hput_self _ _ _ | exact hnew_self _ _ _ | (rw [hput_ne _ _ _ (by first | assumption | omega | (apply Ne.symm; assumption))]; first | assumption | exact hput_self _ _ _ | exact hnew_self _ _ _ | (rw [hput_ne _ _ _ (by first | assumption | omega | (apply Ne.symm; assumption))]; first | assumption | exact hput_self _ _ _ | exact hnew_self _ _ _) | (rw [hnew_ne _ _ _ (by first | assumption | omega | (apply Ne.symm; assumption))]; first | assumption | exact hput_self _ _ _ | exact hnew_self _ _ _)) | (rw [hnew_ne _ _ _ (by first | assumption | omega | (apply Ne.symm; assumption))]; first | assumption | exact hput_self _ _ _ | exact hnew_self _ _ _ | (rw [hput_ne _ _ _ (by first | assumption | omega | (apply Ne.symm; assumption))]; first | assumption | exact hput_self _ _ _ | exact hnew_self _ _ _) | (rw [hnew_ne _ _ _ (by first | assumption | omega | (apply Ne.symm; assumption))]; first | assumption | exact hput_self _ _ _ | exact hnew_self _ _ _))) rfl (Nat.le_of_ble_eq_true rfl) rfl ?_
    refine k_requestFor (d := d + 4) hA hp hwo hk (hr1.after (KC.rf x z h1) (by omega)) (fun kd h2 a he hA2 hK2 hrq => kc_v dr_2 ?_) (fun he => kc_v dr_2 ?_)
    · refine y_astore_n dX6_takeWishesTillRequest_45 rfl rfl lvs_3_2 ?_
      refine x_aload_n (v := va_rf (some a)) dX6_takeWishesTillRequest_46 rfl rfl ?_
      refine x_ifnull (tgt := 55) dX6_takeWishesTillRequest_47 (by decide) (fun c4 => ?_) (fun c4a c4 => ?_)
      · cases c4
      replace hA := hA2
      refine x_aload_n dX6_takeWishesTillRequest_50 rfl rfl ?_
      refine x_aload_n dX6_takeWishesTillRequest_51 rfl rfl ?_
      refine x_callV dX6_takeWishesTillRequest_52 sv_X6_123_6 rfl (by first | exact hA.pe hp | exact hA.f (by omega) | exact hA.ob | first | assumption | exact hput_self _ _ _ | exact hnew_self _ _ _ | (rw [hput_ne _ _ _ (by first | assumption | omega | (apply Ne.symm; assumption))]; first | assumption | exact hput_self _ _ _ | exact hnew_self _ _ _ | (rw [hput_ne _ _ _ (by first | assumption | omega | (apply Ne.symm; assumption))]; first | assumption | exact hput_self _ _ _ | exact hnew_self _ _ _) | (rw [hnew_ne _ _ _ (by first | assumption | omega | (apply Ne.symm; assumption))]; first | assumption | exact hput_self _ _ _ | exact hnew_self _ _ _)) | (rw [hnew_ne _ _ _ (by first | assumption | omega | (apply Ne.symm; assumption))]; first | assumption | exact hput_self _ _ _ | exact hnew_self _ _ _ | (rw [hput_ne _ _ _ (by first | assumption | omega | (apply Ne.symm; assumption))]; first | assumption | exact hput_self _ _ _ | exact hnew_self _ _ _) | (rw [hnew_ne _ _ _ (by first | assumption | omega | (apply Ne.symm; assumption))]; first | assumption | exact hput_self _ _ _ | exact hnew_self _ _ _))) rfl (Nat.le_of_ble_eq_true rfl) rfl ?_
      refine k_sendFirst hA hp hrq ?_ (hr1.after hK2 (by omega)) (fun h3 E3 X3 ov3 hA3 hK3 => kc_n dr_2 ?_)
      · split <;> exact hfl
      rw [ask_out, he] at hA3
      replace hA := hA3
      refine y_iinc (k := (-1)) dX6_takeWishesTillRequest_55 rfl (by decide) lvs_3_1 ?_
      refine x_goto (tgt := 10) dX6_takeWishesTillRequest_58 (by decide) ?_
      have hos : ((wishU (u.w_wi p tl) p w).ou p).isSome = true := by
        rw [← he, askU_1]
        show (va_up _ p (some _) p).isSome = true
        rw [va_up_self]
        rfl
      refine k_take_exit hA hp hos ?_
      refine hq h3 E3 X3 ov3 ?_ (((hK.trans hK1).trans hK2).trans hK3 |>.mono (by omega))
      rw [takeN_some (Or.inl hos)]
      exact hA
    · refine y_astore_n dX6_takeWishesTillRequest_45 rfl rfl lvs_3_2 ?_
      refine x_aload_n (v := va_rf none) dX6_takeWishesTillRequest_46 rfl rfl ?_
      refine x_ifnull (tgt := 55) dX6_takeWishesTillRequest_47 (by decide) (fun c4 => ?_) (fun c4a c4 => ?_)
      · refine y_iinc (k := (-1)) dX6_takeWishesTillRequest_55 rfl (by decide) lvs_3_1 ?_
        rw [nI_dec]
        refine x_goto (tgt := 10) dX6_takeWishesTillRequest_58 (by decide) ?_
        rw [he] at hq
        refine ih (u.w_wi p tl) h1 E1 X1 _ ?_ (by omega) hk hfl hA (hK.trans hK1) hr1 hq
        show (va_up u.wi p tl p).length = n
        rw [va_up_self]
        rw [hw] at hn
        simpa using hn
      · cases c4
theorem k_takeTill (hA : RA G h x z u E X ov lv sf) (hp : p < 2) (hwi : (u.wi p).length ≤ 30) (hk : (u.ki p).length ≤ 16) (hfl : (u.fl (1 - p)).length ≤ 30) (hr : Rm G 4 h) (hq : ∀ h' E' X' ov', RA G h' x z (takeP u p) E' X' ov' lv sf → KC x z 4 h h' → Q (.returned none) h') : Cx G mX6_takeWishesTillRequest (d + 9) [.ref (aP x p)] h Q := by
  show Jx G mX6_takeWishesTillRequest (d + 9) Q 0 [some (.ref (aP x p)), none, none] [] h
  obtain ⟨m1, hm1⟩ := (hA.l (c := 2) (by omega) hp).sh
  refine x_aload_n dX6_takeWishesTillRequest_0 rfl rfl ?_
  refine gf_X6_22_6 rfl dX6_takeWishesTillRequest_1 (by first | exact hA.pe hp | exact hA.f (by omega) | exact hA.ob | first | assumption | exact hput_self _ _ _ | exact hnew_self _ _ _ | (rw [hput_ne _ _ _ (by first | assumption | omega | (apply Ne.symm; assumption))]; first | assumption | exact hput_self _ _ _ | exact hnew_self _ _ _ | (rw [hput_ne _ _ _ (by first | assumption | omega | (apply Ne.symm; assumption))]; first | assumption | exact hput_self _ _ _ | exact hnew_self _ _ _) | (rw [hnew_ne _ _ _ (by first | assumption | omega | (apply Ne.symm; assumption))]; first | assumption | exact hput_self _ _ _ | exact hnew_self _ _ _)) | (rw [hnew_ne _ _ _ (by first | assumption | omega | (apply Ne.symm; assumption))]; first | assumption | exact hput_self _ _ _ | exact hnew_self _ _ _ | (rw [hput_ne _ _ _ (by first | assumption | omega | (apply Ne.symm; assumption))]; first | assumption | exact hput_self _ _ _ | exact hnew_self _ _ _) | (rw [hnew_ne _ _ _ (by first | assumption | omega | (apply Ne.symm; assumption))]; first | assumption | exact hput_self _ _ _ | exact hnew_self _ _ _))) ?_
  refine x_callF dX6_takeWishesTillRequest_4 sf_X6_88_0 rfl (by first | exact hA.pe hp | exact hA.f (by omega) | exact hA.ob | first | assumption | exact hput_self _ _ _ | exact hnew_self _ _ _ | (rw [hput_ne _ _ _ (by first | assumption | omega | (apply Ne.symm; assumption))]; first | assumption | exact hput_self _ _ _ | exact hnew_self _ _ _ | (rw [hput_ne _ _ _ (by first | assumption | omega | (apply Ne.symm; assumption))]; first | assumption | exact hput_self _ _ _ | exact hnew_self _ _ _) | (rw [hnew_ne _ _ _ (by first | assumption | omega | (apply Ne.symm; assumption))]; first | assumption | exact hput_self _ _ _ | exact hnew_self _ _ _)) | (rw [hnew_ne _ _ _ (by first | assumption | omega | (apply Ne.symm; assumption))]; first | assumption | exact hput_self _ _ _ | exact hnew_self _ _ _ | (rw [hput_ne _ _ _ (by first | assumption | omega | (apply Ne.symm; assumption))]; first | assumption | exact hput_self _ _ _ | exact hnew_self _ _ _) | (rw [hnew_ne _ _ _ (by first | assumption | omega | (apply Ne.symm; assumption))]; first | assumption | exact hput_self _ _ _ | exact hnew_self _ _ _))) rfl (Nat.le_of_ble_eq_true rfl) rfl ?_
  refine c_sizeL (hA.l (c := 2) (by omega) hp) (kc_v dr_1 ?_)
  rw [(hA.wi hp).1]
  refine y_istore_n dX6_takeWishesTillRequest_9 rfl lvs_3_1 ?_
  exact k_take_loop hp _ u h E X _ rfl hwi hk hfl hA (KC.rf x z h) hr hq
end K7X
