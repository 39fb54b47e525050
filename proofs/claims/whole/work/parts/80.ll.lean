theorem sub4 (n : Nat) : nI (n + 4) - nI 4 = nI n := by
  rw [← nI_add]
  exact Int32.add_sub_cancel _ _
theorem sub4n {n : Nat} (h : n < 4) : nI n - nI 4 < 0 := by
  rcases (show n = 0 ∨ n = 1 ∨ n = 2 ∨ n = 3 by omega) with rfl | rfl | rfl | rfl <;> decide
section LLX
variable {G : GT} {Q : Outcome → Hp → Prop} {x m b L : Nat} {xs : Nat → Int32} {nm : String} {hs : List (Nat × Nat × Nat × Nat)}
theorem LZ.skip {h : Hp} {k : Nat} (hS : LZ G x m b L xs k h) : LZ G x m b L xs (k + 1) h := by
  obtain ⟨u, E, X, ov, lv, sf, md, t, f, hA, hlv, hR, ho, hI, hb, hr⟩ := hS
  exact ⟨u, E, X, ov, lv, sf, md, t, f, hA, hlv, hR, ho, hI.mono (by omega), hb, hr.mono (by omega)⟩
theorem law_round {h : Hp} {k i : Nat} {z5 z6 : Option Value} (hxm : x + 12 < m) (hbg : b < gb G) (hL : L ≤ 2048) (hi : i + 4 ≤ L) (hik : i = 4 * k) (hS : LZ G x m b L xs k h) (kk : ∀ h' z5 z6, LZ G x m b L xs (k + 1) h' → Jx G (mLaw nm hs) 17 Q 1012 [some (.ref b), some (.ref x), some (.ref m), some (.ref (m + 24)), some (.int (nI i)), z5, z6] [] h') : Jx G (mLaw nm hs) 17 Q 32 [some (.ref b), some (.ref x), some (.ref m), some (.ref (m + 24)), some (.int (nI i)), z5, z6] [] h := by
  have hb : h.1 b = some (.inl (0, L, .inl xs)) := by
    obtain ⟨u, E, X, ov, lv, sf, md, t, f, hA, hlv, hR, ho, hI, hb, hr⟩ := hS
    exact hb
  refine x_aload_n dL_law_32 rfl rfl ?_
  refine x_iload dL_law_33 rfl ?_
  refine x_iaload dL_law_35 (by assumption) (vp_in_nI (by omega) (by omega)) ?_
  rw [nI_clamp (by omega)]
  refine x_bipush (v := nI 15) dL_law_36 (by decide) ?_
  refine x_iand dL_law_38 ?_
  obtain ⟨j, hj, e⟩ := pk_andE (xs i) (m := nI 15) 4 (by decide)
  rw [e]
  rcases (show j = 0 ∨ j = 1 ∨ j = 2 ∨ j = 3 ∨ j = 4 ∨ j = 5 ∨ j = 6 ∨ j = 7 ∨ j = 8 ∨ j = 9 ∨ j = 10 ∨ j = 11 ∨ j = 12 ∨ j = 13 ∨ j = 14 ∨ j = 15 by omega) with rfl | rfl | rfl | rfl | rfl | rfl | rfl | rfl | rfl | rfl | rfl | rfl | rfl | rfl | rfl | rfl
  · refine x_tableIn (off := 73) (tgt := 112) dL_law_39 (by decide) (by decide) (by decide) (by decide) ?_
    exact g_suite hxm hbg hL hi hik hS kk
  · refine x_tableIn (off := 141) (tgt := 180) dL_law_39 (by decide) (by decide) (by decide) (by decide) ?_
    exact g_range hxm hbg hL hi hik hS kk
  · refine x_tableIn (off := 221) (tgt := 260) dL_law_39 (by decide) (by decide) (by decide) (by decide) ?_
    exact g_seed hxm hbg hL hi hik hS kk
  · refine x_tableIn (off := 269) (tgt := 308) dL_law_39 (by decide) (by decide) (by decide) (by decide) ?_
    exact g_wish hxm hbg hL hi hik hS kk
  · refine x_tableIn (off := 349) (tgt := 388) dL_law_39 (by decide) (by decide) (by decide) (by decide) ?_
    exact g_deliver hxm hbg hL hi hik hS kk
  · refine x_tableIn (off := 417) (tgt := 456) dL_law_39 (by decide) (by decide) (by decide) (by decide) ?_
    exact g_lose hxm hbg hL hi hik hS kk
  · refine x_tableIn (off := 485) (tgt := 524) dL_law_39 (by decide) (by decide) (by decide) (by decide) ?_
    exact g_twice hxm hbg hL hi hik hS kk
  · refine x_tableIn (off := 553) (tgt := 592) dL_law_39 (by decide) (by decide) (by decide) (by decide) ?_
    exact g_tick hxm hbg hL hi hik hS kk
  · refine x_tableIn (off := 609) (tgt := 648) dL_law_39 (by decide) (by decide) (by decide) (by decide) ?_
    exact g_children hxm hbg hL hi hik hS kk
  · refine x_tableIn (off := 665) (tgt := 704) dL_law_39 (by decide) (by decide) (by decide) (by decide) ?_
    exact g_child hxm hbg hL hi hik hS kk
  · refine x_tableIn (off := 745) (tgt := 784) dL_law_39 (by decide) (by decide) (by decide) (by decide) ?_
    exact g_flying hxm hbg hL hi hik hS kk
  · refine x_tableIn (off := 801) (tgt := 840) dL_law_39 (by decide) (by decide) (by decide) (by decide) ?_
    exact g_packet hxm hbg hL hi hik hS kk
  · refine x_tableIn (off := 881) (tgt := 920) dL_law_39 (by decide) (by decide) (by decide) (by decide) ?_
    exact g_told hxm hbg hL hi hik hS kk
  · refine x_tableIn (off := 949) (tgt := 988) dL_law_39 (by decide) (by decide) (by decide) (by decide) ?_
    exact g_agreed hxm hbg hL hi hik hS kk
  · refine x_tableIn (off := 962) (tgt := 1001) dL_law_39 (by decide) (by decide) (by decide) (by decide) ?_
    exact g_clear hxm hbg hL hi hik hS kk
  · refine x_tableOut (tgt := 1012) dL_law_39 (Or.inr (by decide)) (by decide) ?_
    exact kk _ _ _ hS.skip
theorem law_loop (hxm : x + 12 < m) (hbg : b < gb G) (hL : L ≤ 2048) (hq : ∀ h, Q (.returned (some (.int (nI 1)))) h) : ∀ (q k i : Nat) (h : Hp) (z5 z6 : Option Value), k + q = 513 → i = 4 * k → LZ G x m b L xs k h → Jx G (mLaw nm hs) 17 Q 23 [some (.ref b), some (.ref x), some (.ref m), some (.ref (m + 24)), some (.int (nI i)), z5, z6] [] h := by
  intro q
  induction q with
  | zero =>
    intro k i h z5 z6 hk hik hS
    have hb : h.1 b = some (.inl (0, L, .inl xs)) := by
      obtain ⟨u, E, X, ov, lv, sf, md, t, f, hA, hlv, hR, ho, hI, hb, hr⟩ := hS
      exact hb
    refine x_iload dL_law_23 rfl ?_
    refine x_aload_n dL_law_25 rfl rfl ?_
    refine x_alen dL_law_26 hb (by decide) ?_
    refine x_iconst (v := nI 4) dL_law_27 (by decide) ?_
    refine x_isub dL_law_28 ?_
    refine x_icmp_gt (tgt := 1018) dL_law_29 (by decide) (fun c1 => ?_) (fun c1 => ?_)
    · refine x_iconst (v := nI 1) dL_law_1018 (by decide) ?_
      refine x_zreturn dL_law_1019 rfl (by first | rfl | assumption) ?_
      exact hq h
    · exfalso
      rcases Nat.lt_or_ge L 4 with l4 | l4
      · exact c1 (Int32.lt_of_lt_of_le (sub4n l4) (nI_pos' (by omega)))
      · obtain ⟨n, rfl⟩ : ∃ n, L = n + 4 := ⟨L - 4, by omega⟩
        refine c1 ?_
        show nI (n + 4) - nI 4 < nI i
        rw [sub4]
        exact nI_lt (by omega) (by omega)
  | succ q ih =>
    intro k i h z5 z6 hk hik hS
    have hb : h.1 b = some (.inl (0, L, .inl xs)) := by
      obtain ⟨u, E, X, ov, lv, sf, md, t, f, hA, hlv, hR, ho, hI, hb, hr⟩ := hS
      exact hb
    refine x_iload dL_law_23 rfl ?_
    refine x_aload_n dL_law_25 rfl rfl ?_
    refine x_alen dL_law_26 hb (by decide) ?_
    refine x_iconst (v := nI 4) dL_law_27 (by decide) ?_
    refine x_isub dL_law_28 ?_
    refine x_icmp_gt (tgt := 1018) dL_law_29 (by decide) (fun c1 => ?_) (fun c1 => ?_)
    · refine x_iconst (v := nI 1) dL_law_1018 (by decide) ?_
      refine x_zreturn dL_law_1019 rfl (by first | rfl | assumption) ?_
      exact hq h
    · have hi : i + 4 ≤ L := by
        rcases Nat.lt_or_ge L 4 with l4 | l4
        · exact absurd (Int32.lt_of_lt_of_le (sub4n l4) (nI_pos' (by omega))) c1
        · obtain ⟨n, rfl⟩ : ∃ n, L = n + 4 := ⟨L - 4, by omega⟩
          rcases Nat.lt_or_ge n i with l5 | l5
          · refine absurd ?_ c1
            show nI (n + 4) - nI 4 < nI i
            rw [sub4]
            exact nI_lt l5 (by omega)
          · omega
      refine law_round hxm hbg hL hi hik hS (fun h' y5 y6 hS' => ?_)
      refine y_iinc (k := nI 4) dL_law_1012 rfl (by decide) lvs_7_4 ?_
      try simp only [pk_mul, nI_add]
      refine x_goto (tgt := 23) dL_law_1015 (by decide) ?_
      exact ih (k + 1) (i + 4) h' y5 y6 (by omega) (by omega) hS'
end LLX
