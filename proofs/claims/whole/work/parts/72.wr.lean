section WRX
variable {G : GT} {d B : Nat} {Q : Outcome → Hp → Prop} {h : Hp} {x z o : Nat} {u : Ut} {E : Nat → Nat → Nat} {X : Nat → Nat → List Nat} {ov lv : Nat → Option Nat} {sf : Nat → Nat → Int32} {fo : Nat → Int64}
theorem l_suite {a s : Int32} (hA : RA G h x z u E X ov lv sf) (hlv : lvOK lv u) (hI : Inv u B) (hB : B < 2 ^ 26) (ho : h.1 o = some (.inl (2, 1, .inr (.inl fo)))) (hxo : x + 12 < o) (hoz : o < z) (hr : Rm G 20 h) (hq : Lq G x z o 20 h (sSuite u a s) true Q) : Cx G mL_suite (d + 13) [.ref x, .int a, .int s, .ref o] h Q := by
  show Jx G mL_suite (d + 13) Q 0 [some (.ref x), some (.int a), some (.int s), some (.ref o), none] [] h
  refine x_wf (fun hwf hob hbn => ?_)
  refine x_aload_n dL_suite_0 rfl rfl ?_
  refine x_iconst (v := nI 0) dL_suite_1 (by decide) ?_
  refine x_aload_n dL_suite_2 rfl rfl ?_
  refine x_iload_n dL_suite_3 rfl ?_
  refine x_iload_n dL_suite_4 rfl ?_
  refine x_callVH dL_suite_5 sv_L_7_9 rfl hA.ob rfl (Nat.le_of_ble_eq_true rfl) ?_
  refine k_suite hA hlv (fun p hp => takeU_idl (hI.2 0 (by omega)).2 (hI.2 1 (by omega)).2) (hr.mono (by omega)) ⟨fun hs h1 E1 X1 ov1 lv1 sf1 hA1 hlv1 hK1 => kh_v dr_3 ?_, fun c i hc hs => ?_⟩
  · refine x_i2l dL_suite_8 ?_
    refine x_lastore dL_suite_9 (by have := hA.gx; omega) ((hK1.1 o (Or.inr ⟨hxo, hoz⟩)).trans ho) (vp_in_nI (by omega) (by omega)) ?_
    refine x_goto (tgt := 25) dL_suite_10 (by decide) ?_
    refine x_iconst (v := nI 0) dL_suite_25 (by decide) ?_
    refine x_ireturn dL_suite_26 rfl ?_
    exact lq_ret hs hA1 hlv1 (hK1.mono (by omega)) ho hxo hoz hq
  · match c, hc, hs with
    | 0, hc, hs =>
      obtain rfl : 11 = i := Option.some.inj hc
      rw [hs] at hq
      refine ⟨11, rE1, 13, hnew_self _ _ _, cl_11, ⟨⟨by decide, by decide⟩, by decide, rE1, lk_13, Or.inl ⟨lc_1, rfl⟩⟩, ?_⟩
      refine y_astore dL_suite_13 rfl rfl lvs_5_4 ?_
      refine x_iconst (v := nI 1) dL_suite_15 (by decide) ?_
      refine x_ireturn dL_suite_16 rfl ?_
      exact lq_throw hA hlv hwf ho hxo hoz (by decide) hq
    | 1, hc, hs =>
      obtain rfl : 12 = i := Option.some.inj hc
      rw [hs] at hq
      refine ⟨12, rE2, 17, hnew_self _ _ _, cl_12, ⟨⟨by decide, by decide⟩, by decide, rE1, lk_13, Or.inr ⟨ln_21, ⟨⟨by decide, by decide⟩, by decide, rE2, lk_15, Or.inl ⟨lc_2, rfl⟩⟩⟩⟩, ?_⟩
      refine y_astore dL_suite_17 rfl rfl lvs_5_4 ?_
      refine x_iconst (v := nI 2) dL_suite_19 (by decide) ?_
      refine x_ireturn dL_suite_20 rfl ?_
      exact lq_throw hA hlv hwf ho hxo hoz (by decide) hq
    | 2, hc, hs =>
      obtain rfl : 14 = i := Option.some.inj hc
      rw [hs] at hq
      refine ⟨14, rE4, 21, hnew_self _ _ _, cl_14, ⟨⟨by decide, by decide⟩, by decide, rE1, lk_13, Or.inr ⟨ln_41, ⟨⟨by decide, by decide⟩, by decide, rE2, lk_15, Or.inr ⟨ln_42, ⟨⟨by decide, by decide⟩, by decide, rE4, lk_17, Or.inl ⟨lc_4, rfl⟩⟩⟩⟩⟩⟩, ?_⟩
      refine y_astore dL_suite_21 rfl rfl lvs_5_4 ?_
      refine x_iconst (v := nI 3) dL_suite_23 (by decide) ?_
      refine x_ireturn dL_suite_24 rfl ?_
      exact lq_throw hA hlv hwf ho hxo hoz (by decide) hq
    | q + 3, hc, hs => exact absurd hc (by simp)
theorem l_range {a b e : Int32} (hA : RA G h x z u E X ov lv sf) (hlv : lvOK lv u) (hI : Inv u B) (hB : B < 2 ^ 26) (ho : h.1 o = some (.inl (2, 1, .inr (.inl fo)))) (hxo : x + 12 < o) (hoz : o < z) (hr : Rm G 20 h) (hq : Lq G x z o 20 h (sRange u a b e) true Q) : Cx G mL_range (d + 13) [.ref x, .int a, .int b, .int e, .ref o] h Q := by
  show Jx G mL_range (d + 13) Q 0 [some (.ref x), some (.int a), some (.int b), some (.int e), some (.ref o), none] [] h
  refine x_wf (fun hwf hob hbn => ?_)
  refine x_aload dL_range_0 rfl rfl ?_
  refine x_iconst (v := nI 0) dL_range_2 (by decide) ?_
  refine x_aload_n dL_range_3 rfl rfl ?_
  refine x_iload_n dL_range_4 rfl ?_
  refine x_iload_n dL_range_5 rfl ?_
  refine x_iload_n dL_range_6 rfl ?_
  refine x_callVH dL_range_7 sv_L_19_9 rfl hA.ob rfl (Nat.le_of_ble_eq_true rfl) ?_
  refine k_range hA hlv (hr.mono (by omega)) ⟨fun hs h1 E1 X1 ov1 lv1 sf1 hA1 hlv1 hK1 => kh_v dr_4 ?_, fun c i hc hs => ?_⟩
  · refine x_i2l dL_range_10 ?_
    refine x_lastore dL_range_11 (by have := hA.gx; omega) ((hK1.1 o (Or.inr ⟨hxo, hoz⟩)).trans ho) (vp_in_nI (by omega) (by omega)) ?_
    refine x_goto (tgt := 23) dL_range_12 (by decide) ?_
    refine x_iconst (v := nI 0) dL_range_23 (by decide) ?_
    refine x_ireturn dL_range_24 rfl ?_
    exact lq_ret hs hA1 hlv1 (hK1.mono (by omega)) ho hxo hoz hq
  · match c, hc, hs with
    | 0, hc, hs =>
      obtain rfl : 11 = i := Option.some.inj hc
      rw [hs] at hq
      refine ⟨11, rE1, 15, hnew_self _ _ _, cl_11, ⟨⟨by decide, by decide⟩, by decide, rE1, lk_13, Or.inl ⟨lc_1, rfl⟩⟩, ?_⟩
      refine y_astore dL_range_15 rfl rfl lvs_6_5 ?_
      refine x_iconst (v := nI 1) dL_range_17 (by decide) ?_
      refine x_ireturn dL_range_18 rfl ?_
      exact lq_throw hA hlv hwf ho hxo hoz (by decide) hq
    | 1, hc, hs =>
      obtain rfl : 12 = i := Option.some.inj hc
      rw [hs] at hq
      refine ⟨12, rE2, 19, hnew_self _ _ _, cl_12, ⟨⟨by decide, by decide⟩, by decide, rE1, lk_13, Or.inr ⟨ln_21, ⟨⟨by decide, by decide⟩, by decide, rE2, lk_15, Or.inl ⟨lc_2, rfl⟩⟩⟩⟩, ?_⟩
      refine y_astore dL_range_19 rfl rfl lvs_6_5 ?_
      refine x_iconst (v := nI 2) dL_range_21 (by decide) ?_
      refine x_ireturn dL_range_22 rfl ?_
      exact lq_throw hA hlv hwf ho hxo hoz (by decide) hq
    | q + 2, hc, hs => exact absurd hc (by simp)
theorem l_seed {a b : Int32} (hA : RA G h x z u E X ov lv sf) (hlv : lvOK lv u) (hI : Inv u B) (hB : B < 2 ^ 26) (ho : h.1 o = some (.inl (2, 1, .inr (.inl fo)))) (hxo : x + 12 < o) (hoz : o < z) (hr : Rm G 20 h) (hq : Lq G x z o 20 h (sSeed u a b) false Q) : Cx G mL_seed (d + 13) [.ref x, .int a, .int b] h Q := by
  show Jx G mL_seed (d + 13) Q 0 [some (.ref x), some (.int a), some (.int b), none] [] h
  refine x_wf (fun hwf hob hbn => ?_)
  refine x_aload_n dL_seed_0 rfl rfl ?_
  refine x_iload_n dL_seed_1 rfl ?_
  refine x_iload_n dL_seed_2 rfl ?_
  refine x_callVH dL_seed_3 sv_L_23_9 rfl hA.ob rfl (Nat.le_of_ble_eq_true rfl) ?_
  refine k_seed hA hlv (hr.mono (by omega)) (fun hs h1 E1 X1 ov1 lv1 sf1 hA1 hlv1 hK1 => kh_n dr_3 ?_) (fun hs => ?_)
  · refine x_goto (tgt := 12) dL_seed_6 (by decide) ?_
    refine x_iconst (v := nI 0) dL_seed_12 (by decide) ?_
    refine x_ireturn dL_seed_13 rfl ?_
    exact lq_seed hs hA1 hlv1 (hK1.mono (by omega)) ho hxo hoz hq
  · rw [hs] at hq
    refine ⟨11, rE1, 9, hnew_self _ _ _, cl_11, ⟨⟨by decide, by decide⟩, by decide, rE1, lk_13, Or.inl ⟨lc_1, rfl⟩⟩, ?_⟩
    refine y_astore_n dL_seed_9 rfl rfl lvs_4_3 ?_
    refine x_iconst (v := nI 1) dL_seed_10 (by decide) ?_
    refine x_ireturn dL_seed_11 rfl ?_
    exact lq_throw hA hlv hwf ho hxo hoz (by decide) hq
theorem l_wish {a b e : Int32} (hA : RA G h x z u E X ov lv sf) (hlv : lvOK lv u) (hI : Inv u B) (hB : B < 2 ^ 26) (ho : h.1 o = some (.inl (2, 1, .inr (.inl fo)))) (hxo : x + 12 < o) (hoz : o < z) (hr : Rm G 20 h) (hq : Lq G x z o 20 h (sWish u a b e) true Q) : Cx G mL_wish (d + 13) [.ref x, .int a, .int b, .int e, .ref o] h Q := by
  show Jx G mL_wish (d + 13) Q 0 [some (.ref x), some (.int a), some (.int b), some (.int e), some (.ref o), none] [] h
  refine x_wf (fun hwf hob hbn => ?_)
  refine x_aload dL_wish_0 rfl rfl ?_
  refine x_iconst (v := nI 0) dL_wish_2 (by decide) ?_
  refine x_aload_n dL_wish_3 rfl rfl ?_
  refine x_iload_n dL_wish_4 rfl ?_
  refine x_iload_n dL_wish_5 rfl ?_
  refine x_iload_n dL_wish_6 rfl ?_
  refine x_callVH dL_wish_7 sv_L_27_9 rfl hA.ob rfl (Nat.le_of_ble_eq_true rfl) ?_
  refine k_wish hA hlv hI hB (hr.mono (by omega)) ⟨fun hs h1 E1 X1 ov1 lv1 sf1 hA1 hlv1 hK1 => kh_v dr_4 ?_, fun c i hc hs => ?_⟩
  · refine x_i2l dL_wish_10 ?_
    refine x_lastore dL_wish_11 (by have := hA.gx; omega) ((hK1.1 o (Or.inr ⟨hxo, hoz⟩)).trans ho) (vp_in_nI (by omega) (by omega)) ?_
    refine x_goto (tgt := 31) dL_wish_12 (by decide) ?_
    refine x_iconst (v := nI 0) dL_wish_31 (by decide) ?_
    refine x_ireturn dL_wish_32 rfl ?_
    exact lq_ret hs hA1 hlv1 (hK1.mono (by omega)) ho hxo hoz hq
  · match c, hc, hs with
    | 0, hc, hs =>
      obtain rfl : 11 = i := Option.some.inj hc
      rw [hs] at hq
      refine ⟨11, rE1, 15, hnew_self _ _ _, cl_11, ⟨⟨by decide, by decide⟩, by decide, rE1, lk_13, Or.inl ⟨lc_1, rfl⟩⟩, ?_⟩
      refine y_astore dL_wish_15 rfl rfl lvs_6_5 ?_
      refine x_iconst (v := nI 1) dL_wish_17 (by decide) ?_
      refine x_ireturn dL_wish_18 rfl ?_
      exact lq_throw hA hlv hwf ho hxo hoz (by decide) hq
    | 1, hc, hs =>
      obtain rfl : 12 = i := Option.some.inj hc
      rw [hs] at hq
      refine ⟨12, rE2, 19, hnew_self _ _ _, cl_12, ⟨⟨by decide, by decide⟩, by decide, rE1, lk_13, Or.inr ⟨ln_21, ⟨⟨by decide, by decide⟩, by decide, rE2, lk_15, Or.inl ⟨lc_2, rfl⟩⟩⟩⟩, ?_⟩
      refine y_astore dL_wish_19 rfl rfl lvs_6_5 ?_
      refine x_iconst (v := nI 2) dL_wish_21 (by decide) ?_
      refine x_ireturn dL_wish_22 rfl ?_
      exact lq_throw hA hlv hwf ho hxo hoz (by decide) hq
    | 2, hc, hs =>
      obtain rfl : 13 = i := Option.some.inj hc
      rw [hs] at hq
      refine ⟨13, rE3, 23, hnew_self _ _ _, cl_13, ⟨⟨by decide, by decide⟩, by decide, rE1, lk_13, Or.inr ⟨ln_31, ⟨⟨by decide, by decide⟩, by decide, rE2, lk_15, Or.inr ⟨ln_32, ⟨⟨by decide, by decide⟩, by decide, rE3, lk_30, Or.inl ⟨lc_3, rfl⟩⟩⟩⟩⟩⟩, ?_⟩
      refine y_astore dL_wish_23 rfl rfl lvs_6_5 ?_
      refine x_iconst (v := nI 3) dL_wish_25 (by decide) ?_
      refine x_ireturn dL_wish_26 rfl ?_
      exact lq_throw hA hlv hwf ho hxo hoz (by decide) hq
    | 3, hc, hs =>
      obtain rfl : 14 = i := Option.some.inj hc
      rw [hs] at hq
      refine ⟨14, rE4, 27, hnew_self _ _ _, cl_14, ⟨⟨by decide, by decide⟩, by decide, rE1, lk_13, Or.inr ⟨ln_41, ⟨⟨by decide, by decide⟩, by decide, rE2, lk_15, Or.inr ⟨ln_42, ⟨⟨by decide, by decide⟩, by decide, rE3, lk_30, Or.inr ⟨ln_43, ⟨⟨by decide, by decide⟩, by decide, rE4, lk_17, Or.inl ⟨lc_4, rfl⟩⟩⟩⟩⟩⟩⟩⟩, ?_⟩
      refine y_astore dL_wish_27 rfl rfl lvs_6_5 ?_
      refine x_iconst (v := nI 4) dL_wish_29 (by decide) ?_
      refine x_ireturn dL_wish_30 rfl ?_
      exact lq_throw hA hlv hwf ho hxo hoz (by decide) hq
    | q + 4, hc, hs => exact absurd hc (by simp)
theorem l_deliver {a b : Int32} (hA : RA G h x z u E X ov lv sf) (hlv : lvOK lv u) (hI : Inv u B) (hB : B < 2 ^ 26) (ho : h.1 o = some (.inl (2, 1, .inr (.inl fo)))) (hxo : x + 12 < o) (hoz : o < z) (hr : Rm G 20 h) (hq : Lq G x z o 20 h (sDeliver u a b) true Q) : Cx G mL_deliver (d + 13) [.ref x, .int a, .int b, .ref o] h Q := by
  show Jx G mL_deliver (d + 13) Q 0 [some (.ref x), some (.int a), some (.int b), some (.ref o), none] [] h
  refine x_wf (fun hwf hob hbn => ?_)
  refine x_aload_n dL_deliver_0 rfl rfl ?_
  refine x_iconst (v := nI 0) dL_deliver_1 (by decide) ?_
  refine x_aload_n dL_deliver_2 rfl rfl ?_
  refine x_iload_n dL_deliver_3 rfl ?_
  refine x_iload_n dL_deliver_4 rfl ?_
  refine x_callVH dL_deliver_5 sv_L_32_9 rfl hA.ob rfl (Nat.le_of_ble_eq_true rfl) ?_
  refine k_deliver hA hlv hI hB (hr.mono (by omega)) ⟨fun hs h1 E1 X1 ov1 lv1 sf1 hA1 hlv1 hK1 => kh_v dr_3 ?_, fun c i hc hs => ?_⟩
  · refine x_i2l dL_deliver_8 ?_
    refine x_lastore dL_deliver_9 (by have := hA.gx; omega) ((hK1.1 o (Or.inr ⟨hxo, hoz⟩)).trans ho) (vp_in_nI (by omega) (by omega)) ?_
    refine x_goto (tgt := 17) dL_deliver_10 (by decide) ?_
    refine x_iconst (v := nI 0) dL_deliver_17 (by decide) ?_
    refine x_ireturn dL_deliver_18 rfl ?_
    exact lq_ret hs hA1 hlv1 (hK1.mono (by omega)) ho hxo hoz hq
  · match c, hc, hs with
    | 0, hc, hs =>
      obtain rfl : 11 = i := Option.some.inj hc
      rw [hs] at hq
      refine ⟨11, rE1, 13, hnew_self _ _ _, cl_11, ⟨⟨by decide, by decide⟩, by decide, rE1, lk_13, Or.inl ⟨lc_1, rfl⟩⟩, ?_⟩
      refine y_astore dL_deliver_13 rfl rfl lvs_5_4 ?_
      refine x_iconst (v := nI 1) dL_deliver_15 (by decide) ?_
      refine x_ireturn dL_deliver_16 rfl ?_
      exact lq_throw hA hlv hwf ho hxo hoz (by decide) hq
    | q + 1, hc, hs => exact absurd hc (by simp)
theorem l_lose {a b : Int32} (hA : RA G h x z u E X ov lv sf) (hlv : lvOK lv u) (hI : Inv u B) (hB : B < 2 ^ 26) (ho : h.1 o = some (.inl (2, 1, .inr (.inl fo)))) (hxo : x + 12 < o) (hoz : o < z) (hr : Rm G 20 h) (hq : Lq G x z o 20 h (sLose u a b) true Q) : Cx G mL_lose (d + 13) [.ref x, .int a, .int b, .ref o] h Q := by
  show Jx G mL_lose (d + 13) Q 0 [some (.ref x), some (.int a), some (.int b), some (.ref o), none] [] h
  refine x_wf (fun hwf hob hbn => ?_)
  refine x_aload_n dL_lose_0 rfl rfl ?_
  refine x_iconst (v := nI 0) dL_lose_1 (by decide) ?_
  refine x_aload_n dL_lose_2 rfl rfl ?_
  refine x_iload_n dL_lose_3 rfl ?_
  refine x_iload_n dL_lose_4 rfl ?_
  refine x_callVH dL_lose_5 sv_L_35_9 rfl hA.ob rfl (Nat.le_of_ble_eq_true rfl) ?_
  refine k_lose hA hlv (fun p hp => (hI.1.len hp).2) (hr.mono (by omega)) ⟨fun hs h1 E1 X1 ov1 lv1 sf1 hA1 hlv1 hK1 => kh_v dr_3 ?_, fun c i hc hs => ?_⟩
  · refine x_i2l dL_lose_8 ?_
    refine x_lastore dL_lose_9 (by have := hA.gx; omega) ((hK1.1 o (Or.inr ⟨hxo, hoz⟩)).trans ho) (vp_in_nI (by omega) (by omega)) ?_
    refine x_goto (tgt := 17) dL_lose_10 (by decide) ?_
    refine x_iconst (v := nI 0) dL_lose_17 (by decide) ?_
    refine x_ireturn dL_lose_18 rfl ?_
    exact lq_ret hs hA1 hlv1 (hK1.mono (by omega)) ho hxo hoz hq
  · match c, hc, hs with
    | 0, hc, hs =>
      obtain rfl : 11 = i := Option.some.inj hc
      rw [hs] at hq
      refine ⟨11, rE1, 13, hnew_self _ _ _, cl_11, ⟨⟨by decide, by decide⟩, by decide, rE1, lk_13, Or.inl ⟨lc_1, rfl⟩⟩, ?_⟩
      refine y_astore dL_lose_13 rfl rfl lvs_5_4 ?_
      refine x_iconst (v := nI 1) dL_lose_15 (by decide) ?_
      refine x_ireturn dL_lose_16 rfl ?_
      exact lq_throw hA hlv hwf ho hxo hoz (by decide) hq
    | q + 1, hc, hs => exact absurd hc (by simp)
theorem l_twice {a b : Int32} (hA : RA G h x z u E X ov lv sf) (hlv : lvOK lv u) (hI : Inv u B) (hB : B < 2 ^ 26) (ho : h.1 o = some (.inl (2, 1, .inr (.inl fo)))) (hxo : x + 12 < o) (hoz : o < z) (hr : Rm G 20 h) (hq : Lq G x z o 20 h (sTwice u a b) true Q) : Cx G mL_twice (d + 13) [.ref x, .int a, .int b, .ref o] h Q := by
  show Jx G mL_twice (d + 13) Q 0 [some (.ref x), some (.int a), some (.int b), some (.ref o), none] [] h
  refine x_wf (fun hwf hob hbn => ?_)
  refine x_aload_n dL_twice_0 rfl rfl ?_
  refine x_iconst (v := nI 0) dL_twice_1 (by decide) ?_
  refine x_aload_n dL_twice_2 rfl rfl ?_
  refine x_iload_n dL_twice_3 rfl ?_
  refine x_iload_n dL_twice_4 rfl ?_
  refine x_callVH dL_twice_5 sv_L_38_9 rfl hA.ob rfl (Nat.le_of_ble_eq_true rfl) ?_
  refine k_twice hA hlv (fun p hp => (hI.1.len hp).2) (hr.mono (by omega)) ⟨fun hs h1 E1 X1 ov1 lv1 sf1 hA1 hlv1 hK1 => kh_v dr_3 ?_, fun c i hc hs => ?_⟩
  · refine x_i2l dL_twice_8 ?_
    refine x_lastore dL_twice_9 (by have := hA.gx; omega) ((hK1.1 o (Or.inr ⟨hxo, hoz⟩)).trans ho) (vp_in_nI (by omega) (by omega)) ?_
    refine x_goto (tgt := 17) dL_twice_10 (by decide) ?_
    refine x_iconst (v := nI 0) dL_twice_17 (by decide) ?_
    refine x_ireturn dL_twice_18 rfl ?_
    exact lq_ret hs hA1 hlv1 (hK1.mono (by omega)) ho hxo hoz hq
  · match c, hc, hs with
    | 0, hc, hs =>
      obtain rfl : 11 = i := Option.some.inj hc
      rw [hs] at hq
      refine ⟨11, rE1, 13, hnew_self _ _ _, cl_11, ⟨⟨by decide, by decide⟩, by decide, rE1, lk_13, Or.inl ⟨lc_1, rfl⟩⟩, ?_⟩
      refine y_astore dL_twice_13 rfl rfl lvs_5_4 ?_
      refine x_iconst (v := nI 1) dL_twice_15 (by decide) ?_
      refine x_ireturn dL_twice_16 rfl ?_
      exact lq_throw hA hlv hwf ho hxo hoz (by decide) hq
    | q + 1, hc, hs => exact absurd hc (by simp)
theorem l_tick {a : Int32} (hA : RA G h x z u E X ov lv sf) (hlv : lvOK lv u) (hI : Inv u B) (hB : B < 2 ^ 26) (ho : h.1 o = some (.inl (2, 1, .inr (.inl fo)))) (hxo : x + 12 < o) (hoz : o < z) (hr : Rm G 20 h) (hq : Lq G x z o 20 h (sTick u a) true Q) : Cx G mL_tick (d + 13) [.ref x, .int a, .ref o] h Q := by
  show Jx G mL_tick (d + 13) Q 0 [some (.ref x), some (.int a), some (.ref o), none] [] h
  refine x_wf (fun hwf hob hbn => ?_)
  refine x_aload_n dL_tick_0 rfl rfl ?_
  refine x_iconst (v := nI 0) dL_tick_1 (by decide) ?_
  refine x_aload_n dL_tick_2 rfl rfl ?_
  refine x_iload_n dL_tick_3 rfl ?_
  refine x_callVH dL_tick_4 sv_L_41_9 rfl hA.ob rfl (Nat.le_of_ble_eq_true rfl) ?_
  refine k_tick hA hlv hI (hr.mono (by omega)) ⟨fun hs h1 E1 X1 ov1 lv1 sf1 hA1 hlv1 hK1 => kh_v dr_2 ?_, fun c i hc hs => ?_⟩
  · refine x_i2l dL_tick_7 ?_
    refine x_lastore dL_tick_8 (by have := hA.gx; omega) ((hK1.1 o (Or.inr ⟨hxo, hoz⟩)).trans ho) (vp_in_nI (by omega) (by omega)) ?_
    refine x_goto (tgt := 15) dL_tick_9 (by decide) ?_
    refine x_iconst (v := nI 0) dL_tick_15 (by decide) ?_
    refine x_ireturn dL_tick_16 rfl ?_
    exact lq_ret hs hA1 hlv1 (hK1.mono (by omega)) ho hxo hoz hq
  · match c, hc, hs with
    | 0, hc, hs =>
      obtain rfl : 12 = i := Option.some.inj hc
      rw [hs] at hq
      refine ⟨12, rE2, 12, hnew_self _ _ _, cl_12, ⟨⟨by decide, by decide⟩, by decide, rE2, lk_15, Or.inl ⟨lc_2, rfl⟩⟩, ?_⟩
      refine y_astore_n dL_tick_12 rfl rfl lvs_4_3 ?_
      refine x_iconst (v := nI 1) dL_tick_13 (by decide) ?_
      refine x_ireturn dL_tick_14 rfl ?_
      exact lq_throw hA hlv hwf ho hxo hoz (by decide) hq
    | q + 1, hc, hs => exact absurd hc (by simp)
theorem l_children {a : Int32} (hA : RA G h x z u E X ov lv sf) (hlv : lvOK lv u) (hI : Inv u B) (hB : B < 2 ^ 26) (ho : h.1 o = some (.inl (2, 1, .inr (.inl fo)))) (hxo : x + 12 < o) (hoz : o < z) (hr : Rm G 20 h) (hq : Lq G x z o 20 h (sChildren u a) true Q) : Cx G mL_children (d + 13) [.ref x, .int a, .ref o] h Q := by
  show Jx G mL_children (d + 13) Q 0 [some (.ref x), some (.int a), some (.ref o), none] [] h
  refine x_wf (fun hwf hob hbn => ?_)
  refine x_aload_n dL_children_0 rfl rfl ?_
  refine x_iconst (v := nI 0) dL_children_1 (by decide) ?_
  refine x_aload_n dL_children_2 rfl rfl ?_
  refine x_iload_n dL_children_3 rfl ?_
  refine x_callVH dL_children_4 sv_L_45_9 rfl hA.ob rfl (Nat.le_of_ble_eq_true rfl) ?_
  refine k_children hA hlv (hr.mono (by omega)) ⟨fun hs h1 E1 X1 ov1 lv1 sf1 hA1 hlv1 hK1 => kh_v dr_2 ?_, fun c i hc hs => ?_⟩
  · refine x_i2l dL_children_7 ?_
    refine x_lastore dL_children_8 (by have := hA.gx; omega) ((hK1.1 o (Or.inr ⟨hxo, hoz⟩)).trans ho) (vp_in_nI (by omega) (by omega)) ?_
    refine x_goto (tgt := 15) dL_children_9 (by decide) ?_
    refine x_iconst (v := nI 0) dL_children_15 (by decide) ?_
    refine x_ireturn dL_children_16 rfl ?_
    exact lq_ret hs hA1 hlv1 (hK1.mono (by omega)) ho hxo hoz hq
  · match c, hc, hs with
    | 0, hc, hs =>
      obtain rfl : 11 = i := Option.some.inj hc
      rw [hs] at hq
      refine ⟨11, rE1, 12, hnew_self _ _ _, cl_11, ⟨⟨by decide, by decide⟩, by decide, rE1, lk_13, Or.inl ⟨lc_1, rfl⟩⟩, ?_⟩
      refine y_astore_n dL_children_12 rfl rfl lvs_4_3 ?_
      refine x_iconst (v := nI 1) dL_children_13 (by decide) ?_
      refine x_ireturn dL_children_14 rfl ?_
      exact lq_throw hA hlv hwf ho hxo hoz (by decide) hq
    | q + 1, hc, hs => exact absurd hc (by simp)
theorem l_child {a b e : Int32} (hA : RA G h x z u E X ov lv sf) (hlv : lvOK lv u) (hI : Inv u B) (hB : B < 2 ^ 26) (ho : h.1 o = some (.inl (2, 1, .inr (.inl fo)))) (hxo : x + 12 < o) (hoz : o < z) (hr : Rm G 20 h) (hq : Lq G x z o 20 h (sChild u a b e) true Q) : Cx G mL_child (d + 13) [.ref x, .int a, .int b, .int e, .ref o] h Q := by
  show Jx G mL_child (d + 13) Q 0 [some (.ref x), some (.int a), some (.int b), some (.int e), some (.ref o), none] [] h
  refine x_wf (fun hwf hob hbn => ?_)
  refine x_aload dL_child_0 rfl rfl ?_
  refine x_iconst (v := nI 0) dL_child_2 (by decide) ?_
  refine x_aload_n dL_child_3 rfl rfl ?_
  refine x_iload_n dL_child_4 rfl ?_
  refine x_iload_n dL_child_5 rfl ?_
  refine x_iload_n dL_child_6 rfl ?_
  refine x_callVH dL_child_7 sv_L_48_9 rfl hA.ob rfl (Nat.le_of_ble_eq_true rfl) ?_
  refine k_child hA hlv (fun p hp => (hI.1.len hp).1) (hr.mono (by omega)) ⟨fun hs h1 E1 X1 ov1 lv1 sf1 hA1 hlv1 hK1 => kh_v dr_4 ?_, fun c i hc hs => ?_⟩
  · refine x_i2l dL_child_10 ?_
    refine x_lastore dL_child_11 (by have := hA.gx; omega) ((hK1.1 o (Or.inr ⟨hxo, hoz⟩)).trans ho) (vp_in_nI (by omega) (by omega)) ?_
    refine x_goto (tgt := 23) dL_child_12 (by decide) ?_
    refine x_iconst (v := nI 0) dL_child_23 (by decide) ?_
    refine x_ireturn dL_child_24 rfl ?_
    exact lq_ret hs hA1 hlv1 (hK1.mono (by omega)) ho hxo hoz hq
  · match c, hc, hs with
    | 0, hc, hs =>
      obtain rfl : 11 = i := Option.some.inj hc
      rw [hs] at hq
      refine ⟨11, rE1, 15, hnew_self _ _ _, cl_11, ⟨⟨by decide, by decide⟩, by decide, rE1, lk_13, Or.inl ⟨lc_1, rfl⟩⟩, ?_⟩
      refine y_astore dL_child_15 rfl rfl lvs_6_5 ?_
      refine x_iconst (v := nI 1) dL_child_17 (by decide) ?_
      refine x_ireturn dL_child_18 rfl ?_
      exact lq_throw hA hlv hwf ho hxo hoz (by decide) hq
    | 1, hc, hs =>
      obtain rfl : 12 = i := Option.some.inj hc
      rw [hs] at hq
      refine ⟨12, rE2, 19, hnew_self _ _ _, cl_12, ⟨⟨by decide, by decide⟩, by decide, rE1, lk_13, Or.inr ⟨ln_21, ⟨⟨by decide, by decide⟩, by decide, rE2, lk_15, Or.inl ⟨lc_2, rfl⟩⟩⟩⟩, ?_⟩
      refine y_astore dL_child_19 rfl rfl lvs_6_5 ?_
      refine x_iconst (v := nI 2) dL_child_21 (by decide) ?_
      refine x_ireturn dL_child_22 rfl ?_
      exact lq_throw hA hlv hwf ho hxo hoz (by decide) hq
    | q + 2, hc, hs => exact absurd hc (by simp)
theorem l_flying {a : Int32} (hA : RA G h x z u E X ov lv sf) (hlv : lvOK lv u) (hI : Inv u B) (hB : B < 2 ^ 26) (ho : h.1 o = some (.inl (2, 1, .inr (.inl fo)))) (hxo : x + 12 < o) (hoz : o < z) (hr : Rm G 20 h) (hq : Lq G x z o 20 h (sFlying u a) true Q) : Cx G mL_flying (d + 13) [.ref x, .int a, .ref o] h Q := by
  show Jx G mL_flying (d + 13) Q 0 [some (.ref x), some (.int a), some (.ref o), none] [] h
  refine x_wf (fun hwf hob hbn => ?_)
  refine x_aload_n dL_flying_0 rfl rfl ?_
  refine x_iconst (v := nI 0) dL_flying_1 (by decide) ?_
  refine x_aload_n dL_flying_2 rfl rfl ?_
  refine x_iload_n dL_flying_3 rfl ?_
  refine x_callVH dL_flying_4 sv_L_51_9 rfl hA.ob rfl (Nat.le_of_ble_eq_true rfl) ?_
  refine k_flying hA hlv (hr.mono (by omega)) ⟨fun hs h1 E1 X1 ov1 lv1 sf1 hA1 hlv1 hK1 => kh_v dr_2 ?_, fun c i hc hs => ?_⟩
  · refine x_i2l dL_flying_7 ?_
    refine x_lastore dL_flying_8 (by have := hA.gx; omega) ((hK1.1 o (Or.inr ⟨hxo, hoz⟩)).trans ho) (vp_in_nI (by omega) (by omega)) ?_
    refine x_goto (tgt := 15) dL_flying_9 (by decide) ?_
    refine x_iconst (v := nI 0) dL_flying_15 (by decide) ?_
    refine x_ireturn dL_flying_16 rfl ?_
    exact lq_ret hs hA1 hlv1 (hK1.mono (by omega)) ho hxo hoz hq
  · match c, hc, hs with
    | 0, hc, hs =>
      obtain rfl : 11 = i := Option.some.inj hc
      rw [hs] at hq
      refine ⟨11, rE1, 12, hnew_self _ _ _, cl_11, ⟨⟨by decide, by decide⟩, by decide, rE1, lk_13, Or.inl ⟨lc_1, rfl⟩⟩, ?_⟩
      refine y_astore_n dL_flying_12 rfl rfl lvs_4_3 ?_
      refine x_iconst (v := nI 1) dL_flying_13 (by decide) ?_
      refine x_ireturn dL_flying_14 rfl ?_
      exact lq_throw hA hlv hwf ho hxo hoz (by decide) hq
    | q + 1, hc, hs => exact absurd hc (by simp)
theorem l_packet {a b e : Int32} (hA : RA G h x z u E X ov lv sf) (hlv : lvOK lv u) (hI : Inv u B) (hB : B < 2 ^ 26) (ho : h.1 o = some (.inl (2, 1, .inr (.inl fo)))) (hxo : x + 12 < o) (hoz : o < z) (hr : Rm G 20 h) (hq : Lq G x z o 20 h (sPacket u a b e) true Q) : Cx G mL_packet (d + 13) [.ref x, .int a, .int b, .int e, .ref o] h Q := by
  show Jx G mL_packet (d + 13) Q 0 [some (.ref x), some (.int a), some (.int b), some (.int e), some (.ref o), none] [] h
  refine x_wf (fun hwf hob hbn => ?_)
  refine x_aload dL_packet_0 rfl rfl ?_
  refine x_iconst (v := nI 0) dL_packet_2 (by decide) ?_
  refine x_aload_n dL_packet_3 rfl rfl ?_
  refine x_iload_n dL_packet_4 rfl ?_
  refine x_iload_n dL_packet_5 rfl ?_
  refine x_iload_n dL_packet_6 rfl ?_
  refine x_callVH dL_packet_7 sv_L_54_9 rfl hA.ob rfl (Nat.le_of_ble_eq_true rfl) ?_
  refine k_packet hA hlv (fun p hp => (hI.1.len hp).2) (hr.mono (by omega)) ⟨fun hs h1 E1 X1 ov1 lv1 sf1 hA1 hlv1 hK1 => kh_v dr_4 ?_, fun c i hc hs => ?_⟩
  · refine x_i2l dL_packet_10 ?_
    refine x_lastore dL_packet_11 (by have := hA.gx; omega) ((hK1.1 o (Or.inr ⟨hxo, hoz⟩)).trans ho) (vp_in_nI (by omega) (by omega)) ?_
    refine x_goto (tgt := 23) dL_packet_12 (by decide) ?_
    refine x_iconst (v := nI 0) dL_packet_23 (by decide) ?_
    refine x_ireturn dL_packet_24 rfl ?_
    exact lq_ret hs hA1 hlv1 (hK1.mono (by omega)) ho hxo hoz hq
  · match c, hc, hs with
    | 0, hc, hs =>
      obtain rfl : 11 = i := Option.some.inj hc
      rw [hs] at hq
      refine ⟨11, rE1, 15, hnew_self _ _ _, cl_11, ⟨⟨by decide, by decide⟩, by decide, rE1, lk_13, Or.inl ⟨lc_1, rfl⟩⟩, ?_⟩
      refine y_astore dL_packet_15 rfl rfl lvs_6_5 ?_
      refine x_iconst (v := nI 1) dL_packet_17 (by decide) ?_
      refine x_ireturn dL_packet_18 rfl ?_
      exact lq_throw hA hlv hwf ho hxo hoz (by decide) hq
    | 1, hc, hs =>
      obtain rfl : 12 = i := Option.some.inj hc
      rw [hs] at hq
      refine ⟨12, rE2, 19, hnew_self _ _ _, cl_12, ⟨⟨by decide, by decide⟩, by decide, rE1, lk_13, Or.inr ⟨ln_21, ⟨⟨by decide, by decide⟩, by decide, rE2, lk_15, Or.inl ⟨lc_2, rfl⟩⟩⟩⟩, ?_⟩
      refine y_astore dL_packet_19 rfl rfl lvs_6_5 ?_
      refine x_iconst (v := nI 2) dL_packet_21 (by decide) ?_
      refine x_ireturn dL_packet_22 rfl ?_
      exact lq_throw hA hlv hwf ho hxo hoz (by decide) hq
    | q + 2, hc, hs => exact absurd hc (by simp)
theorem l_told {a b : Int32} (hA : RA G h x z u E X ov lv sf) (hlv : lvOK lv u) (hI : Inv u B) (hB : B < 2 ^ 26) (ho : h.1 o = some (.inl (2, 1, .inr (.inl fo)))) (hxo : x + 12 < o) (hoz : o < z) (hr : Rm G 20 h) (hq : Lq G x z o 20 h (sTold u a b) true Q) : Cx G mL_told (d + 13) [.ref x, .int a, .int b, .ref o] h Q := by
  show Jx G mL_told (d + 13) Q 0 [some (.ref x), some (.int a), some (.int b), some (.ref o), none] [] h
  refine x_wf (fun hwf hob hbn => ?_)
  refine x_aload_n dL_told_0 rfl rfl ?_
  refine x_iconst (v := nI 0) dL_told_1 (by decide) ?_
  refine x_aload_n dL_told_2 rfl rfl ?_
  refine x_iload_n dL_told_3 rfl ?_
  refine x_iload_n dL_told_4 rfl ?_
  refine x_callVH dL_told_5 sv_L_57_9 rfl hA.ob rfl (Nat.le_of_ble_eq_true rfl) ?_
  refine k_told hA hlv (hr.mono (by omega)) ⟨fun hs h1 E1 X1 ov1 lv1 sf1 hA1 hlv1 hK1 => kh_v dr_3 ?_, fun c i hc hs => ?_⟩
  · refine x_i2l dL_told_8 ?_
    refine x_lastore dL_told_9 (by have := hA.gx; omega) ((hK1.1 o (Or.inr ⟨hxo, hoz⟩)).trans ho) (vp_in_nI (by omega) (by omega)) ?_
    refine x_goto (tgt := 21) dL_told_10 (by decide) ?_
    refine x_iconst (v := nI 0) dL_told_21 (by decide) ?_
    refine x_ireturn dL_told_22 rfl ?_
    exact lq_ret hs hA1 hlv1 (hK1.mono (by omega)) ho hxo hoz hq
  · match c, hc, hs with
    | 0, hc, hs =>
      obtain rfl : 11 = i := Option.some.inj hc
      rw [hs] at hq
      refine ⟨11, rE1, 13, hnew_self _ _ _, cl_11, ⟨⟨by decide, by decide⟩, by decide, rE1, lk_13, Or.inl ⟨lc_1, rfl⟩⟩, ?_⟩
      refine y_astore dL_told_13 rfl rfl lvs_5_4 ?_
      refine x_iconst (v := nI 1) dL_told_15 (by decide) ?_
      refine x_ireturn dL_told_16 rfl ?_
      exact lq_throw hA hlv hwf ho hxo hoz (by decide) hq
    | 1, hc, hs =>
      obtain rfl : 12 = i := Option.some.inj hc
      rw [hs] at hq
      refine ⟨12, rE2, 17, hnew_self _ _ _, cl_12, ⟨⟨by decide, by decide⟩, by decide, rE1, lk_13, Or.inr ⟨ln_21, ⟨⟨by decide, by decide⟩, by decide, rE2, lk_15, Or.inl ⟨lc_2, rfl⟩⟩⟩⟩, ?_⟩
      refine y_astore dL_told_17 rfl rfl lvs_5_4 ?_
      refine x_iconst (v := nI 2) dL_told_19 (by decide) ?_
      refine x_ireturn dL_told_20 rfl ?_
      exact lq_throw hA hlv hwf ho hxo hoz (by decide) hq
    | q + 2, hc, hs => exact absurd hc (by simp)
end WRX
