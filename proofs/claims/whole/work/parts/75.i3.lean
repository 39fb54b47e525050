theorem vz_su : vSu (fun _ => 0) (fun _ => 0) (fun _ => []) := fun p hp => ⟨Nat.zero_le _, rfl, fun k x hx => by cases hx⟩
theorem VW.start : VW (fun _ _ => 0) uz (fun _ => 0) := ⟨vz_su, fun p hp => rfl, fun p hp => rfl, fun p hp => rfl, fun p hp => rfl, fun p hp => ⟨Nat.zero_le _, rfl, fun k x hx => by cases hx⟩, fun p hp => ⟨Nat.zero_le _, rfl, fun k x hx => by cases hx⟩, fun p hp => rfl, fun p hp => ⟨rfl, fun pk hx => by cases hx⟩, fun p hp => rfl, fun p hp => rfl, fun p hp => rfl, fun p hp => rfl, fun p hp => rfl, fun p hp j hj => rfl, fun p hp => ⟨Nat.zero_le _, rfl, fun k x hx => by cases hx⟩, fun j hj => rfl⟩
theorem im_step {h : Hp} {g : Nat → Option Ee} {m j tg N : Nat} {e : Ee} (hj1 : 1 ≤ j) (hz : h.2.1 = m + j) (hj : ∀ q, 1 ≤ q → q < j → h.1 (m + q) = some (.inl (tgM q, lnM q, .inl (fun _ => 0)))) (hf : ∀ a, a < m → h.1 a = g a) (htg : tg = tgM j) (hN : N = lnM j) : (hput (hnew h (.inl (tg, N, .inl (fun _ => 0))) N) m e).1 m = some e ∧ (∀ q, 1 ≤ q → q < j + 1 → (hput (hnew h (.inl (tg, N, .inl (fun _ => 0))) N) m e).1 (m + q) = some (.inl (tgM q, lnM q, .inl (fun _ => 0)))) ∧ (∀ a, a < m → (hput (hnew h (.inl (tg, N, .inl (fun _ => 0))) N) m e).1 a = g a) ∧ (hput (hnew h (.inl (tg, N, .inl (fun _ => 0))) N) m e).2.1 = m + (j + 1) ∧ (hput (hnew h (.inl (tg, N, .inl (fun _ => 0))) N) m e).2.2 = h.2.2 + N := by
  subst htg hN
  refine ⟨hput_self _ _ _, fun q q1 q2 => ?_, fun a ha => ?_, ?_, rfl⟩
  · rw [hput_ne _ _ _ (by omega)]
    by_cases e : q = j
    · subst e
      rw [← hz]
      exact hnew_self _ _ _
    · rw [hnew_ne _ _ _ (by omega)]
      exact hj q q1 (by omega)
  · rw [hput_ne _ _ _ (by omega), hnew_ne _ _ _ (by omega)]
    exact hf a ha
  · show h.2.1 + 1 = _
    omega
section I3X
variable {G : GT} {d : Nat} {Q : Outcome → Hp → Prop}
theorem i_ref_end {h : Hp} {g : Nat → Option Ee} {m s0 : Nat} (hC : m + 30 ≤ gC G) (hS : s0 + 2000 ≤ gS G) (hg : gb G ≤ m) (hm : h.1 m = some (.inr (10, [.int 0, .ref (m + 1), .ref (m + 2), .ref (m + 3), .ref (m + 4), .ref (m + 5), .ref (m + 6), .ref (m + 7), .ref (m + 8), .ref (m + 9), .ref (m + 10), .ref (m + 11), .ref (m + 12), .ref (m + 13), .ref (m + 14), .ref (m + 15), .ref (m + 16), .ref (m + 17), .ref (m + 18), .ref (m + 19), .ref (m + 20), .ref (m + 21), .ref (m + 22), .ref (m + 23)]))) (hj : ∀ q, 1 ≤ q → q < 24 → h.1 (m + q) = some (.inl (tgM q, lnM q, .inl (fun _ => 0)))) (hf : ∀ a, a < m → h.1 a = g a) (hz : h.2.1 = m + 24) (hs : h.2.2 = s0 + 1478) (hq : ∀ h', RU G h' m (nI 0) u0 (fun _ => 0) → (∀ a, a < m → h'.1 a = g a) → h'.2.1 = m + 24 → h'.2.2 = s0 + 1478 → Q (.returned none) h') : Jx G mX10_init (d + 2) Q 175 [some (.ref m)] [] h := by
  refine x_aload_n dX10_init_175 rfl rfl ?_
  refine x_callV dX10_init_176 sv_X10_80_10 rfl hm rfl (Nat.le_of_ble_eq_true rfl) rfl ?_
  refine r_clear (u := uz) (md := fun _ => 0) ⟨fun _ _ => 0, ⟨hg, hm, fun j j1 j2 => hj j j1 (by omega)⟩, VW.start⟩ (fun h' hR hF => kc_n dr_1 ?_)
  refine x_vreturn dX10_init_179 rfl ?_
  exact hq h' hR (fun a ha => (hF.1 a (by omega)).trans (hf a ha)) (by rw [hF.2]; exact hz) (by rw [hF.2]; exact hs)
theorem i_ref_3 {h : Hp} {g : Nat → Option Ee} {m s0 : Nat} (hC : m + 30 ≤ gC G) (hS : s0 + 2000 ≤ gS G) (hg : gb G ≤ m) (hm : h.1 m = some (.inr (10, [.int 0, .ref (m + 1), .ref (m + 2), .ref (m + 3), .ref (m + 4), .ref (m + 5), .ref (m + 6), .ref (m + 7), .ref (m + 8), .ref (m + 9), .ref (m + 10), .ref (m + 11), .ref (m + 12), .ref (m + 13), .ref (m + 14), .ref (m + 15), .ref (m + 16), .ref (m + 17), .ref (m + 18), .null, .null, .null, .null, .null]))) (hj : ∀ q, 1 ≤ q → q < 19 → h.1 (m + q) = some (.inl (tgM q, lnM q, .inl (fun _ => 0)))) (hf : ∀ a, a < m → h.1 a = g a) (hz : h.2.1 = m + 19) (hs : h.2.2 = s0 + 402) (hq : ∀ h', RU G h' m (nI 0) u0 (fun _ => 0) → (∀ a, a < m → h'.1 a = g a) → h'.2.1 = m + 24 → h'.2.2 = s0 + 1478 → Q (.returned none) h') : Jx G mX10_init (d + 2) Q 136 [some (.ref m)] [] h := by
  refine x_aload_n dX10_init_136 rfl rfl ?_
  refine x_iconst (v := nI 2) dX10_init_137 (by decide) ?_
  refine x_newarray (tg := 0) (N := 2) (x := (2, .inl (fun _ => 0))) dX10_init_138 (by decide) rfl wo_ints ⟨rfl, fun _ => rfl⟩ (nI_pos (by omega)) (nI_clamp (by omega)) (by omega) (by omega) (by omega) ?_
  rw [hz]
  refine pf_X10_65_10 rfl dX10_init_140 (by rw [hnew_ne _ _ _ (by omega)]; exact hm) rfl rfl rfl ?_
  have st19 := im_step (tg := 0) (N := 2) (e := .inr (10, [.int 0, .ref (m + 1), .ref (m + 2), .ref (m + 3), .ref (m + 4), .ref (m + 5), .ref (m + 6), .ref (m + 7), .ref (m + 8), .ref (m + 9), .ref (m + 10), .ref (m + 11), .ref (m + 12), .ref (m + 13), .ref (m + 14), .ref (m + 15), .ref (m + 16), .ref (m + 17), .ref (m + 18), .ref (m + 19), .null, .null, .null, .null])) (by omega) hz hj hf rfl rfl
  clear hm hj hf
  generalize hput (hnew h (.inl (0, 2, .inl (fun _ => 0))) 2) m (.inr (10, [.int 0, .ref (m + 1), .ref (m + 2), .ref (m + 3), .ref (m + 4), .ref (m + 5), .ref (m + 6), .ref (m + 7), .ref (m + 8), .ref (m + 9), .ref (m + 10), .ref (m + 11), .ref (m + 12), .ref (m + 13), .ref (m + 14), .ref (m + 15), .ref (m + 16), .ref (m + 17), .ref (m + 18), .ref (m + 19), .null, .null, .null, .null])) = h19 at st19 ⊢
  obtain ⟨hm, hj, hf, hz19, hs19⟩ := st19
  rw [hs] at hs19
  clear hz hs h
  refine x_aload_n dX10_init_143 rfl rfl ?_
  refine x_bipush (v := nI 32) dX10_init_144 (by decide) ?_
  refine x_newarray (tg := 0) (N := 32) (x := (32, .inl (fun _ => 0))) dX10_init_146 (by decide) rfl wo_ints ⟨rfl, fun _ => rfl⟩ (nI_pos (by omega)) (nI_clamp (by omega)) (by omega) (by omega) (by omega) ?_
  rw [hz19]
  refine pf_X10_68_10 rfl dX10_init_148 (by rw [hnew_ne _ _ _ (by omega)]; exact hm) rfl rfl rfl ?_
  have st20 := im_step (tg := 0) (N := 32) (e := .inr (10, [.int 0, .ref (m + 1), .ref (m + 2), .ref (m + 3), .ref (m + 4), .ref (m + 5), .ref (m + 6), .ref (m + 7), .ref (m + 8), .ref (m + 9), .ref (m + 10), .ref (m + 11), .ref (m + 12), .ref (m + 13), .ref (m + 14), .ref (m + 15), .ref (m + 16), .ref (m + 17), .ref (m + 18), .ref (m + 19), .ref (m + 20), .null, .null, .null])) (by omega) hz19 hj hf rfl rfl
  clear hm hj hf
  generalize hput (hnew h19 (.inl (0, 32, .inl (fun _ => 0))) 32) m (.inr (10, [.int 0, .ref (m + 1), .ref (m + 2), .ref (m + 3), .ref (m + 4), .ref (m + 5), .ref (m + 6), .ref (m + 7), .ref (m + 8), .ref (m + 9), .ref (m + 10), .ref (m + 11), .ref (m + 12), .ref (m + 13), .ref (m + 14), .ref (m + 15), .ref (m + 16), .ref (m + 17), .ref (m + 18), .ref (m + 19), .ref (m + 20), .null, .null, .null])) = h20 at st20 ⊢
  obtain ⟨hm, hj, hf, hz20, hs20⟩ := st20
  rw [hs19] at hs20
  clear hz19 hs19 h19
  refine x_aload_n dX10_init_151 rfl rfl ?_
  refine x_iconst (v := nI 2) dX10_init_152 (by decide) ?_
  refine x_newarray (tg := 0) (N := 2) (x := (2, .inl (fun _ => 0))) dX10_init_153 (by decide) rfl wo_ints ⟨rfl, fun _ => rfl⟩ (nI_pos (by omega)) (nI_clamp (by omega)) (by omega) (by omega) (by omega) ?_
  rw [hz20]
  refine pf_X10_71_10 rfl dX10_init_155 (by rw [hnew_ne _ _ _ (by omega)]; exact hm) rfl rfl rfl ?_
  have st21 := im_step (tg := 0) (N := 2) (e := .inr (10, [.int 0, .ref (m + 1), .ref (m + 2), .ref (m + 3), .ref (m + 4), .ref (m + 5), .ref (m + 6), .ref (m + 7), .ref (m + 8), .ref (m + 9), .ref (m + 10), .ref (m + 11), .ref (m + 12), .ref (m + 13), .ref (m + 14), .ref (m + 15), .ref (m + 16), .ref (m + 17), .ref (m + 18), .ref (m + 19), .ref (m + 20), .ref (m + 21), .null, .null])) (by omega) hz20 hj hf rfl rfl
  clear hm hj hf
  generalize hput (hnew h20 (.inl (0, 2, .inl (fun _ => 0))) 2) m (.inr (10, [.int 0, .ref (m + 1), .ref (m + 2), .ref (m + 3), .ref (m + 4), .ref (m + 5), .ref (m + 6), .ref (m + 7), .ref (m + 8), .ref (m + 9), .ref (m + 10), .ref (m + 11), .ref (m + 12), .ref (m + 13), .ref (m + 14), .ref (m + 15), .ref (m + 16), .ref (m + 17), .ref (m + 18), .ref (m + 19), .ref (m + 20), .ref (m + 21), .null, .null])) = h21 at st21 ⊢
  obtain ⟨hm, hj, hf, hz21, hs21⟩ := st21
  rw [hs20] at hs21
  clear hz20 hs20 h20
  refine x_aload_n dX10_init_158 rfl rfl ?_
  refine x_sipush (v := nI 1024) dX10_init_159 (by decide) ?_
  refine x_newarray (tg := 0) (N := 1024) (x := (1024, .inl (fun _ => 0))) dX10_init_162 (by decide) rfl wo_ints ⟨rfl, fun _ => rfl⟩ (nI_pos (by omega)) (nI_clamp (by omega)) (by omega) (by omega) (by omega) ?_
  rw [hz21]
  refine pf_X10_74_10 rfl dX10_init_164 (by rw [hnew_ne _ _ _ (by omega)]; exact hm) rfl rfl rfl ?_
  have st22 := im_step (tg := 0) (N := 1024) (e := .inr (10, [.int 0, .ref (m + 1), .ref (m + 2), .ref (m + 3), .ref (m + 4), .ref (m + 5), .ref (m + 6), .ref (m + 7), .ref (m + 8), .ref (m + 9), .ref (m + 10), .ref (m + 11), .ref (m + 12), .ref (m + 13), .ref (m + 14), .ref (m + 15), .ref (m + 16), .ref (m + 17), .ref (m + 18), .ref (m + 19), .ref (m + 20), .ref (m + 21), .ref (m + 22), .null])) (by omega) hz21 hj hf rfl rfl
  clear hm hj hf
  generalize hput (hnew h21 (.inl (0, 1024, .inl (fun _ => 0))) 1024) m (.inr (10, [.int 0, .ref (m + 1), .ref (m + 2), .ref (m + 3), .ref (m + 4), .ref (m + 5), .ref (m + 6), .ref (m + 7), .ref (m + 8), .ref (m + 9), .ref (m + 10), .ref (m + 11), .ref (m + 12), .ref (m + 13), .ref (m + 14), .ref (m + 15), .ref (m + 16), .ref (m + 17), .ref (m + 18), .ref (m + 19), .ref (m + 20), .ref (m + 21), .ref (m + 22), .null])) = h22 at st22 ⊢
  obtain ⟨hm, hj, hf, hz22, hs22⟩ := st22
  rw [hs21] at hs22
  clear hz21 hs21 h21
  refine x_aload_n dX10_init_167 rfl rfl ?_
  refine x_bipush (v := nI 16) dX10_init_168 (by decide) ?_
  refine x_newarray (tg := 0) (N := 16) (x := (16, .inl (fun _ => 0))) dX10_init_170 (by decide) rfl wo_ints ⟨rfl, fun _ => rfl⟩ (nI_pos (by omega)) (nI_clamp (by omega)) (by omega) (by omega) (by omega) ?_
  rw [hz22]
  refine pf_X10_77_10 rfl dX10_init_172 (by rw [hnew_ne _ _ _ (by omega)]; exact hm) rfl rfl rfl ?_
  have st23 := im_step (tg := 0) (N := 16) (e := .inr (10, [.int 0, .ref (m + 1), .ref (m + 2), .ref (m + 3), .ref (m + 4), .ref (m + 5), .ref (m + 6), .ref (m + 7), .ref (m + 8), .ref (m + 9), .ref (m + 10), .ref (m + 11), .ref (m + 12), .ref (m + 13), .ref (m + 14), .ref (m + 15), .ref (m + 16), .ref (m + 17), .ref (m + 18), .ref (m + 19), .ref (m + 20), .ref (m + 21), .ref (m + 22), .ref (m + 23)])) (by omega) hz22 hj hf rfl rfl
  clear hm hj hf
  generalize hput (hnew h22 (.inl (0, 16, .inl (fun _ => 0))) 16) m (.inr (10, [.int 0, .ref (m + 1), .ref (m + 2), .ref (m + 3), .ref (m + 4), .ref (m + 5), .ref (m + 6), .ref (m + 7), .ref (m + 8), .ref (m + 9), .ref (m + 10), .ref (m + 11), .ref (m + 12), .ref (m + 13), .ref (m + 14), .ref (m + 15), .ref (m + 16), .ref (m + 17), .ref (m + 18), .ref (m + 19), .ref (m + 20), .ref (m + 21), .ref (m + 22), .ref (m + 23)])) = h23 at st23 ⊢
  obtain ⟨hm, hj, hf, hz23, hs23⟩ := st23
  rw [hs22] at hs23
  clear hz22 hs22 h22
  exact i_ref_end hC hS hg hm hj hf hz23 hs23 hq
theorem i_ref_2 {h : Hp} {g : Nat → Option Ee} {m s0 : Nat} (hC : m + 30 ≤ gC G) (hS : s0 + 2000 ≤ gS G) (hg : gb G ≤ m) (hm : h.1 m = some (.inr (10, [.int 0, .ref (m + 1), .ref (m + 2), .ref (m + 3), .ref (m + 4), .ref (m + 5), .ref (m + 6), .ref (m + 7), .ref (m + 8), .ref (m + 9), .ref (m + 10), .ref (m + 11), .ref (m + 12), .null, .null, .null, .null, .null, .null, .null, .null, .null, .null, .null]))) (hj : ∀ q, 1 ≤ q → q < 13 → h.1 (m + q) = some (.inl (tgM q, lnM q, .inl (fun _ => 0)))) (hf : ∀ a, a < m → h.1 a = g a) (hz : h.2.1 = m + 13) (hs : h.2.2 = s0 + 360) (hq : ∀ h', RU G h' m (nI 0) u0 (fun _ => 0) → (∀ a, a < m → h'.1 a = g a) → h'.2.1 = m + 24 → h'.2.2 = s0 + 1478 → Q (.returned none) h') : Jx G mX10_init (d + 2) Q 93 [some (.ref m)] [] h := by
  refine x_aload_n dX10_init_93 rfl rfl ?_
  refine x_iconst (v := nI 2) dX10_init_94 (by decide) ?_
  refine x_newarray (tg := 1) (N := 2) (x := (2, .inl (fun _ => 0))) dX10_init_95 (by decide) rfl wo_bools ⟨rfl, fun _ => rfl⟩ (nI_pos (by omega)) (nI_clamp (by omega)) (by omega) (by omega) (by omega) ?_
  rw [hz]
  refine pf_X10_47_10 rfl dX10_init_97 (by rw [hnew_ne _ _ _ (by omega)]; exact hm) rfl rfl rfl ?_
  have st13 := im_step (tg := 1) (N := 2) (e := .inr (10, [.int 0, .ref (m + 1), .ref (m + 2), .ref (m + 3), .ref (m + 4), .ref (m + 5), .ref (m + 6), .ref (m + 7), .ref (m + 8), .ref (m + 9), .ref (m + 10), .ref (m + 11), .ref (m + 12), .ref (m + 13), .null, .null, .null, .null, .null, .null, .null, .null, .null, .null])) (by omega) hz hj hf rfl rfl
  clear hm hj hf
  generalize hput (hnew h (.inl (1, 2, .inl (fun _ => 0))) 2) m (.inr (10, [.int 0, .ref (m + 1), .ref (m + 2), .ref (m + 3), .ref (m + 4), .ref (m + 5), .ref (m + 6), .ref (m + 7), .ref (m + 8), .ref (m + 9), .ref (m + 10), .ref (m + 11), .ref (m + 12), .ref (m + 13), .null, .null, .null, .null, .null, .null, .null, .null, .null, .null])) = h13 at st13 ⊢
  obtain ⟨hm, hj, hf, hz13, hs13⟩ := st13
  rw [hs] at hs13
  clear hz hs h
  refine x_aload_n dX10_init_100 rfl rfl ?_
  refine x_bipush (v := nI 32) dX10_init_101 (by decide) ?_
  refine x_newarray (tg := 0) (N := 32) (x := (32, .inl (fun _ => 0))) dX10_init_103 (by decide) rfl wo_ints ⟨rfl, fun _ => rfl⟩ (nI_pos (by omega)) (nI_clamp (by omega)) (by omega) (by omega) (by omega) ?_
  rw [hz13]
  refine pf_X10_50_10 rfl dX10_init_105 (by rw [hnew_ne _ _ _ (by omega)]; exact hm) rfl rfl rfl ?_
  have st14 := im_step (tg := 0) (N := 32) (e := .inr (10, [.int 0, .ref (m + 1), .ref (m + 2), .ref (m + 3), .ref (m + 4), .ref (m + 5), .ref (m + 6), .ref (m + 7), .ref (m + 8), .ref (m + 9), .ref (m + 10), .ref (m + 11), .ref (m + 12), .ref (m + 13), .ref (m + 14), .null, .null, .null, .null, .null, .null, .null, .null, .null])) (by omega) hz13 hj hf rfl rfl
  clear hm hj hf
  generalize hput (hnew h13 (.inl (0, 32, .inl (fun _ => 0))) 32) m (.inr (10, [.int 0, .ref (m + 1), .ref (m + 2), .ref (m + 3), .ref (m + 4), .ref (m + 5), .ref (m + 6), .ref (m + 7), .ref (m + 8), .ref (m + 9), .ref (m + 10), .ref (m + 11), .ref (m + 12), .ref (m + 13), .ref (m + 14), .null, .null, .null, .null, .null, .null, .null, .null, .null])) = h14 at st14 ⊢
  obtain ⟨hm, hj, hf, hz14, hs14⟩ := st14
  rw [hs13] at hs14
  clear hz13 hs13 h13
  refine x_aload_n dX10_init_108 rfl rfl ?_
  refine x_iconst (v := nI 2) dX10_init_109 (by decide) ?_
  refine x_newarray (tg := 0) (N := 2) (x := (2, .inl (fun _ => 0))) dX10_init_110 (by decide) rfl wo_ints ⟨rfl, fun _ => rfl⟩ (nI_pos (by omega)) (nI_clamp (by omega)) (by omega) (by omega) (by omega) ?_
  rw [hz14]
  refine pf_X10_53_10 rfl dX10_init_112 (by rw [hnew_ne _ _ _ (by omega)]; exact hm) rfl rfl rfl ?_
  have st15 := im_step (tg := 0) (N := 2) (e := .inr (10, [.int 0, .ref (m + 1), .ref (m + 2), .ref (m + 3), .ref (m + 4), .ref (m + 5), .ref (m + 6), .ref (m + 7), .ref (m + 8), .ref (m + 9), .ref (m + 10), .ref (m + 11), .ref (m + 12), .ref (m + 13), .ref (m + 14), .ref (m + 15), .null, .null, .null, .null, .null, .null, .null, .null])) (by omega) hz14 hj hf rfl rfl
  clear hm hj hf
  generalize hput (hnew h14 (.inl (0, 2, .inl (fun _ => 0))) 2) m (.inr (10, [.int 0, .ref (m + 1), .ref (m + 2), .ref (m + 3), .ref (m + 4), .ref (m + 5), .ref (m + 6), .ref (m + 7), .ref (m + 8), .ref (m + 9), .ref (m + 10), .ref (m + 11), .ref (m + 12), .ref (m + 13), .ref (m + 14), .ref (m + 15), .null, .null, .null, .null, .null, .null, .null, .null])) = h15 at st15 ⊢
  obtain ⟨hm, hj, hf, hz15, hs15⟩ := st15
  rw [hs14] at hs15
  clear hz14 hs14 h14
  refine x_aload_n dX10_init_115 rfl rfl ?_
  refine x_iconst (v := nI 2) dX10_init_116 (by decide) ?_
  refine x_newarray (tg := 0) (N := 2) (x := (2, .inl (fun _ => 0))) dX10_init_117 (by decide) rfl wo_ints ⟨rfl, fun _ => rfl⟩ (nI_pos (by omega)) (nI_clamp (by omega)) (by omega) (by omega) (by omega) ?_
  rw [hz15]
  refine pf_X10_56_10 rfl dX10_init_119 (by rw [hnew_ne _ _ _ (by omega)]; exact hm) rfl rfl rfl ?_
  have st16 := im_step (tg := 0) (N := 2) (e := .inr (10, [.int 0, .ref (m + 1), .ref (m + 2), .ref (m + 3), .ref (m + 4), .ref (m + 5), .ref (m + 6), .ref (m + 7), .ref (m + 8), .ref (m + 9), .ref (m + 10), .ref (m + 11), .ref (m + 12), .ref (m + 13), .ref (m + 14), .ref (m + 15), .ref (m + 16), .null, .null, .null, .null, .null, .null, .null])) (by omega) hz15 hj hf rfl rfl
  clear hm hj hf
  generalize hput (hnew h15 (.inl (0, 2, .inl (fun _ => 0))) 2) m (.inr (10, [.int 0, .ref (m + 1), .ref (m + 2), .ref (m + 3), .ref (m + 4), .ref (m + 5), .ref (m + 6), .ref (m + 7), .ref (m + 8), .ref (m + 9), .ref (m + 10), .ref (m + 11), .ref (m + 12), .ref (m + 13), .ref (m + 14), .ref (m + 15), .ref (m + 16), .null, .null, .null, .null, .null, .null, .null])) = h16 at st16 ⊢
  obtain ⟨hm, hj, hf, hz16, hs16⟩ := st16
  rw [hs15] at hs16
  clear hz15 hs15 h15
  refine x_aload_n dX10_init_122 rfl rfl ?_
  refine x_iconst (v := nI 2) dX10_init_123 (by decide) ?_
  refine x_newarray (tg := 0) (N := 2) (x := (2, .inl (fun _ => 0))) dX10_init_124 (by decide) rfl wo_ints ⟨rfl, fun _ => rfl⟩ (nI_pos (by omega)) (nI_clamp (by omega)) (by omega) (by omega) (by omega) ?_
  rw [hz16]
  refine pf_X10_59_10 rfl dX10_init_126 (by rw [hnew_ne _ _ _ (by omega)]; exact hm) rfl rfl rfl ?_
  have st17 := im_step (tg := 0) (N := 2) (e := .inr (10, [.int 0, .ref (m + 1), .ref (m + 2), .ref (m + 3), .ref (m + 4), .ref (m + 5), .ref (m + 6), .ref (m + 7), .ref (m + 8), .ref (m + 9), .ref (m + 10), .ref (m + 11), .ref (m + 12), .ref (m + 13), .ref (m + 14), .ref (m + 15), .ref (m + 16), .ref (m + 17), .null, .null, .null, .null, .null, .null])) (by omega) hz16 hj hf rfl rfl
  clear hm hj hf
  generalize hput (hnew h16 (.inl (0, 2, .inl (fun _ => 0))) 2) m (.inr (10, [.int 0, .ref (m + 1), .ref (m + 2), .ref (m + 3), .ref (m + 4), .ref (m + 5), .ref (m + 6), .ref (m + 7), .ref (m + 8), .ref (m + 9), .ref (m + 10), .ref (m + 11), .ref (m + 12), .ref (m + 13), .ref (m + 14), .ref (m + 15), .ref (m + 16), .ref (m + 17), .null, .null, .null, .null, .null, .null])) = h17 at st17 ⊢
  obtain ⟨hm, hj, hf, hz17, hs17⟩ := st17
  rw [hs16] at hs17
  clear hz16 hs16 h16
  refine x_aload_n dX10_init_129 rfl rfl ?_
  refine x_iconst (v := nI 2) dX10_init_130 (by decide) ?_
  refine x_newarray (tg := 0) (N := 2) (x := (2, .inl (fun _ => 0))) dX10_init_131 (by decide) rfl wo_ints ⟨rfl, fun _ => rfl⟩ (nI_pos (by omega)) (nI_clamp (by omega)) (by omega) (by omega) (by omega) ?_
  rw [hz17]
  refine pf_X10_62_10 rfl dX10_init_133 (by rw [hnew_ne _ _ _ (by omega)]; exact hm) rfl rfl rfl ?_
  have st18 := im_step (tg := 0) (N := 2) (e := .inr (10, [.int 0, .ref (m + 1), .ref (m + 2), .ref (m + 3), .ref (m + 4), .ref (m + 5), .ref (m + 6), .ref (m + 7), .ref (m + 8), .ref (m + 9), .ref (m + 10), .ref (m + 11), .ref (m + 12), .ref (m + 13), .ref (m + 14), .ref (m + 15), .ref (m + 16), .ref (m + 17), .ref (m + 18), .null, .null, .null, .null, .null])) (by omega) hz17 hj hf rfl rfl
  clear hm hj hf
  generalize hput (hnew h17 (.inl (0, 2, .inl (fun _ => 0))) 2) m (.inr (10, [.int 0, .ref (m + 1), .ref (m + 2), .ref (m + 3), .ref (m + 4), .ref (m + 5), .ref (m + 6), .ref (m + 7), .ref (m + 8), .ref (m + 9), .ref (m + 10), .ref (m + 11), .ref (m + 12), .ref (m + 13), .ref (m + 14), .ref (m + 15), .ref (m + 16), .ref (m + 17), .ref (m + 18), .null, .null, .null, .null, .null])) = h18 at st18 ⊢
  obtain ⟨hm, hj, hf, hz18, hs18⟩ := st18
  rw [hs17] at hs18
  clear hz17 hs17 h17
  exact i_ref_3 hC hS hg hm hj hf hz18 hs18 hq
theorem i_ref_1 {h : Hp} {g : Nat → Option Ee} {m s0 : Nat} (hC : m + 30 ≤ gC G) (hS : s0 + 2000 ≤ gS G) (hg : gb G ≤ m) (hm : h.1 m = some (.inr (10, [.int 0, .ref (m + 1), .ref (m + 2), .ref (m + 3), .ref (m + 4), .ref (m + 5), .ref (m + 6), .null, .null, .null, .null, .null, .null, .null, .null, .null, .null, .null, .null, .null, .null, .null, .null, .null]))) (hj : ∀ q, 1 ≤ q → q < 7 → h.1 (m + q) = some (.inl (tgM q, lnM q, .inl (fun _ => 0)))) (hf : ∀ a, a < m → h.1 a = g a) (hz : h.2.1 = m + 7) (hs : h.2.2 = s0 + 18) (hq : ∀ h', RU G h' m (nI 0) u0 (fun _ => 0) → (∀ a, a < m → h'.1 a = g a) → h'.2.1 = m + 24 → h'.2.2 = s0 + 1478 → Q (.returned none) h') : Jx G mX10_init (d + 2) Q 47 [some (.ref m)] [] h := by
  refine x_aload_n dX10_init_47 rfl rfl ?_
  refine x_iconst (v := nI 2) dX10_init_48 (by decide) ?_
  refine x_newarray (tg := 0) (N := 2) (x := (2, .inl (fun _ => 0))) dX10_init_49 (by decide) rfl wo_ints ⟨rfl, fun _ => rfl⟩ (nI_pos (by omega)) (nI_clamp (by omega)) (by omega) (by omega) (by omega) ?_
  rw [hz]
  refine pf_X10_28_10 rfl dX10_init_51 (by rw [hnew_ne _ _ _ (by omega)]; exact hm) rfl rfl rfl ?_
  have st7 := im_step (tg := 0) (N := 2) (e := .inr (10, [.int 0, .ref (m + 1), .ref (m + 2), .ref (m + 3), .ref (m + 4), .ref (m + 5), .ref (m + 6), .ref (m + 7), .null, .null, .null, .null, .null, .null, .null, .null, .null, .null, .null, .null, .null, .null, .null, .null])) (by omega) hz hj hf rfl rfl
  clear hm hj hf
  generalize hput (hnew h (.inl (0, 2, .inl (fun _ => 0))) 2) m (.inr (10, [.int 0, .ref (m + 1), .ref (m + 2), .ref (m + 3), .ref (m + 4), .ref (m + 5), .ref (m + 6), .ref (m + 7), .null, .null, .null, .null, .null, .null, .null, .null, .null, .null, .null, .null, .null, .null, .null, .null])) = h7 at st7 ⊢
  obtain ⟨hm, hj, hf, hz7, hs7⟩ := st7
  rw [hs] at hs7
  clear hz hs h
  refine x_aload_n dX10_init_54 rfl rfl ?_
  refine x_sipush (v := nI 272) dX10_init_55 (by decide) ?_
  refine x_newarray (tg := 0) (N := 272) (x := (272, .inl (fun _ => 0))) dX10_init_58 (by decide) rfl wo_ints ⟨rfl, fun _ => rfl⟩ (nI_pos (by omega)) (nI_clamp (by omega)) (by omega) (by omega) (by omega) ?_
  rw [hz7]
  refine pf_X10_31_10 rfl dX10_init_60 (by rw [hnew_ne _ _ _ (by omega)]; exact hm) rfl rfl rfl ?_
  have st8 := im_step (tg := 0) (N := 272) (e := .inr (10, [.int 0, .ref (m + 1), .ref (m + 2), .ref (m + 3), .ref (m + 4), .ref (m + 5), .ref (m + 6), .ref (m + 7), .ref (m + 8), .null, .null, .null, .null, .null, .null, .null, .null, .null, .null, .null, .null, .null, .null, .null])) (by omega) hz7 hj hf rfl rfl
  clear hm hj hf
  generalize hput (hnew h7 (.inl (0, 272, .inl (fun _ => 0))) 272) m (.inr (10, [.int 0, .ref (m + 1), .ref (m + 2), .ref (m + 3), .ref (m + 4), .ref (m + 5), .ref (m + 6), .ref (m + 7), .ref (m + 8), .null, .null, .null, .null, .null, .null, .null, .null, .null, .null, .null, .null, .null, .null, .null])) = h8 at st8 ⊢
  obtain ⟨hm, hj, hf, hz8, hs8⟩ := st8
  rw [hs7] at hs8
  clear hz7 hs7 h7
  refine x_aload_n dX10_init_63 rfl rfl ?_
  refine x_iconst (v := nI 2) dX10_init_64 (by decide) ?_
  refine x_newarray (tg := 0) (N := 2) (x := (2, .inl (fun _ => 0))) dX10_init_65 (by decide) rfl wo_ints ⟨rfl, fun _ => rfl⟩ (nI_pos (by omega)) (nI_clamp (by omega)) (by omega) (by omega) (by omega) ?_
  rw [hz8]
  refine pf_X10_34_10 rfl dX10_init_67 (by rw [hnew_ne _ _ _ (by omega)]; exact hm) rfl rfl rfl ?_
  have st9 := im_step (tg := 0) (N := 2) (e := .inr (10, [.int 0, .ref (m + 1), .ref (m + 2), .ref (m + 3), .ref (m + 4), .ref (m + 5), .ref (m + 6), .ref (m + 7), .ref (m + 8), .ref (m + 9), .null, .null, .null, .null, .null, .null, .null, .null, .null, .null, .null, .null, .null, .null])) (by omega) hz8 hj hf rfl rfl
  clear hm hj hf
  generalize hput (hnew h8 (.inl (0, 2, .inl (fun _ => 0))) 2) m (.inr (10, [.int 0, .ref (m + 1), .ref (m + 2), .ref (m + 3), .ref (m + 4), .ref (m + 5), .ref (m + 6), .ref (m + 7), .ref (m + 8), .ref (m + 9), .null, .null, .null, .null, .null, .null, .null, .null, .null, .null, .null, .null, .null, .null])) = h9 at st9 ⊢
  obtain ⟨hm, hj, hf, hz9, hs9⟩ := st9
  rw [hs8] at hs9
  clear hz8 hs8 h8
  refine x_aload_n dX10_init_70 rfl rfl ?_
  refine x_bipush (v := nI 32) dX10_init_71 (by decide) ?_
  refine x_newarray (tg := 0) (N := 32) (x := (32, .inl (fun _ => 0))) dX10_init_73 (by decide) rfl wo_ints ⟨rfl, fun _ => rfl⟩ (nI_pos (by omega)) (nI_clamp (by omega)) (by omega) (by omega) (by omega) ?_
  rw [hz9]
  refine pf_X10_37_10 rfl dX10_init_75 (by rw [hnew_ne _ _ _ (by omega)]; exact hm) rfl rfl rfl ?_
  have st10 := im_step (tg := 0) (N := 32) (e := .inr (10, [.int 0, .ref (m + 1), .ref (m + 2), .ref (m + 3), .ref (m + 4), .ref (m + 5), .ref (m + 6), .ref (m + 7), .ref (m + 8), .ref (m + 9), .ref (m + 10), .null, .null, .null, .null, .null, .null, .null, .null, .null, .null, .null, .null, .null])) (by omega) hz9 hj hf rfl rfl
  clear hm hj hf
  generalize hput (hnew h9 (.inl (0, 32, .inl (fun _ => 0))) 32) m (.inr (10, [.int 0, .ref (m + 1), .ref (m + 2), .ref (m + 3), .ref (m + 4), .ref (m + 5), .ref (m + 6), .ref (m + 7), .ref (m + 8), .ref (m + 9), .ref (m + 10), .null, .null, .null, .null, .null, .null, .null, .null, .null, .null, .null, .null, .null])) = h10 at st10 ⊢
  obtain ⟨hm, hj, hf, hz10, hs10⟩ := st10
  rw [hs9] at hs10
  clear hz9 hs9 h9
  refine x_aload_n dX10_init_78 rfl rfl ?_
  refine x_bipush (v := nI 32) dX10_init_79 (by decide) ?_
  refine x_newarray (tg := 0) (N := 32) (x := (32, .inl (fun _ => 0))) dX10_init_81 (by decide) rfl wo_ints ⟨rfl, fun _ => rfl⟩ (nI_pos (by omega)) (nI_clamp (by omega)) (by omega) (by omega) (by omega) ?_
  rw [hz10]
  refine pf_X10_40_10 rfl dX10_init_83 (by rw [hnew_ne _ _ _ (by omega)]; exact hm) rfl rfl rfl ?_
  have st11 := im_step (tg := 0) (N := 32) (e := .inr (10, [.int 0, .ref (m + 1), .ref (m + 2), .ref (m + 3), .ref (m + 4), .ref (m + 5), .ref (m + 6), .ref (m + 7), .ref (m + 8), .ref (m + 9), .ref (m + 10), .ref (m + 11), .null, .null, .null, .null, .null, .null, .null, .null, .null, .null, .null, .null])) (by omega) hz10 hj hf rfl rfl
  clear hm hj hf
  generalize hput (hnew h10 (.inl (0, 32, .inl (fun _ => 0))) 32) m (.inr (10, [.int 0, .ref (m + 1), .ref (m + 2), .ref (m + 3), .ref (m + 4), .ref (m + 5), .ref (m + 6), .ref (m + 7), .ref (m + 8), .ref (m + 9), .ref (m + 10), .ref (m + 11), .null, .null, .null, .null, .null, .null, .null, .null, .null, .null, .null, .null])) = h11 at st11 ⊢
  obtain ⟨hm, hj, hf, hz11, hs11⟩ := st11
  rw [hs10] at hs11
  clear hz10 hs10 h10
  refine x_aload_n dX10_init_86 rfl rfl ?_
  refine x_iconst (v := nI 2) dX10_init_87 (by decide) ?_
  refine x_newarray (tg := 1) (N := 2) (x := (2, .inl (fun _ => 0))) dX10_init_88 (by decide) rfl wo_bools ⟨rfl, fun _ => rfl⟩ (nI_pos (by omega)) (nI_clamp (by omega)) (by omega) (by omega) (by omega) ?_
  rw [hz11]
  refine pf_X10_43_10 rfl dX10_init_90 (by rw [hnew_ne _ _ _ (by omega)]; exact hm) rfl rfl rfl ?_
  have st12 := im_step (tg := 1) (N := 2) (e := .inr (10, [.int 0, .ref (m + 1), .ref (m + 2), .ref (m + 3), .ref (m + 4), .ref (m + 5), .ref (m + 6), .ref (m + 7), .ref (m + 8), .ref (m + 9), .ref (m + 10), .ref (m + 11), .ref (m + 12), .null, .null, .null, .null, .null, .null, .null, .null, .null, .null, .null])) (by omega) hz11 hj hf rfl rfl
  clear hm hj hf
  generalize hput (hnew h11 (.inl (1, 2, .inl (fun _ => 0))) 2) m (.inr (10, [.int 0, .ref (m + 1), .ref (m + 2), .ref (m + 3), .ref (m + 4), .ref (m + 5), .ref (m + 6), .ref (m + 7), .ref (m + 8), .ref (m + 9), .ref (m + 10), .ref (m + 11), .ref (m + 12), .null, .null, .null, .null, .null, .null, .null, .null, .null, .null, .null])) = h12 at st12 ⊢
  obtain ⟨hm, hj, hf, hz12, hs12⟩ := st12
  rw [hs11] at hs12
  clear hz11 hs11 h11
  exact i_ref_2 hC hS hg hm hj hf hz12 hs12 hq
theorem i_ref_0 {h : Hp} {g : Nat → Option Ee} {m s0 : Nat} (hC : m + 30 ≤ gC G) (hS : s0 + 2000 ≤ gS G) (hg : gb G ≤ m) (hm : h.1 m = some (.inr (10, [.int 0, .null, .null, .null, .null, .null, .null, .null, .null, .null, .null, .null, .null, .null, .null, .null, .null, .null, .null, .null, .null, .null, .null, .null]))) (hj : ∀ q, 1 ≤ q → q < 1 → h.1 (m + q) = some (.inl (tgM q, lnM q, .inl (fun _ => 0)))) (hf : ∀ a, a < m → h.1 a = g a) (hz : h.2.1 = m + 1) (hs : h.2.2 = s0 + 0) (hq : ∀ h', RU G h' m (nI 0) u0 (fun _ => 0) → (∀ a, a < m → h'.1 a = g a) → h'.2.1 = m + 24 → h'.2.2 = s0 + 1478 → Q (.returned none) h') : Jx G mX10_init (d + 2) Q 4 [some (.ref m)] [] h := by
  refine x_aload_n dX10_init_4 rfl rfl ?_
  refine x_iconst (v := nI 2) dX10_init_5 (by decide) ?_
  refine x_newarray (tg := 0) (N := 2) (x := (2, .inl (fun _ => 0))) dX10_init_6 (by decide) rfl wo_ints ⟨rfl, fun _ => rfl⟩ (nI_pos (by omega)) (nI_clamp (by omega)) (by omega) (by omega) (by omega) ?_
  rw [hz]
  refine pf_X10_7_10 rfl dX10_init_8 (by rw [hnew_ne _ _ _ (by omega)]; exact hm) rfl rfl rfl ?_
  have st1 := im_step (tg := 0) (N := 2) (e := .inr (10, [.int 0, .ref (m + 1), .null, .null, .null, .null, .null, .null, .null, .null, .null, .null, .null, .null, .null, .null, .null, .null, .null, .null, .null, .null, .null, .null])) (by omega) hz hj hf rfl rfl
  clear hm hj hf
  generalize hput (hnew h (.inl (0, 2, .inl (fun _ => 0))) 2) m (.inr (10, [.int 0, .ref (m + 1), .null, .null, .null, .null, .null, .null, .null, .null, .null, .null, .null, .null, .null, .null, .null, .null, .null, .null, .null, .null, .null, .null])) = h1 at st1 ⊢
  obtain ⟨hm, hj, hf, hz1, hs1⟩ := st1
  rw [hs] at hs1
  clear hz hs h
  refine x_aload_n dX10_init_11 rfl rfl ?_
  refine x_bipush (v := nI 8) dX10_init_12 (by decide) ?_
  refine x_newarray (tg := 0) (N := 8) (x := (8, .inl (fun _ => 0))) dX10_init_14 (by decide) rfl wo_ints ⟨rfl, fun _ => rfl⟩ (nI_pos (by omega)) (nI_clamp (by omega)) (by omega) (by omega) (by omega) ?_
  rw [hz1]
  refine pf_X10_13_10 rfl dX10_init_16 (by rw [hnew_ne _ _ _ (by omega)]; exact hm) rfl rfl rfl ?_
  have st2 := im_step (tg := 0) (N := 8) (e := .inr (10, [.int 0, .ref (m + 1), .ref (m + 2), .null, .null, .null, .null, .null, .null, .null, .null, .null, .null, .null, .null, .null, .null, .null, .null, .null, .null, .null, .null, .null])) (by omega) hz1 hj hf rfl rfl
  clear hm hj hf
  generalize hput (hnew h1 (.inl (0, 8, .inl (fun _ => 0))) 8) m (.inr (10, [.int 0, .ref (m + 1), .ref (m + 2), .null, .null, .null, .null, .null, .null, .null, .null, .null, .null, .null, .null, .null, .null, .null, .null, .null, .null, .null, .null, .null])) = h2 at st2 ⊢
  obtain ⟨hm, hj, hf, hz2, hs2⟩ := st2
  rw [hs1] at hs2
  clear hz1 hs1 h1
  refine x_aload_n dX10_init_19 rfl rfl ?_
  refine x_iconst (v := nI 2) dX10_init_20 (by decide) ?_
  refine x_newarray (tg := 0) (N := 2) (x := (2, .inl (fun _ => 0))) dX10_init_21 (by decide) rfl wo_ints ⟨rfl, fun _ => rfl⟩ (nI_pos (by omega)) (nI_clamp (by omega)) (by omega) (by omega) (by omega) ?_
  rw [hz2]
  refine pf_X10_16_10 rfl dX10_init_23 (by rw [hnew_ne _ _ _ (by omega)]; exact hm) rfl rfl rfl ?_
  have st3 := im_step (tg := 0) (N := 2) (e := .inr (10, [.int 0, .ref (m + 1), .ref (m + 2), .ref (m + 3), .null, .null, .null, .null, .null, .null, .null, .null, .null, .null, .null, .null, .null, .null, .null, .null, .null, .null, .null, .null])) (by omega) hz2 hj hf rfl rfl
  clear hm hj hf
  generalize hput (hnew h2 (.inl (0, 2, .inl (fun _ => 0))) 2) m (.inr (10, [.int 0, .ref (m + 1), .ref (m + 2), .ref (m + 3), .null, .null, .null, .null, .null, .null, .null, .null, .null, .null, .null, .null, .null, .null, .null, .null, .null, .null, .null, .null])) = h3 at st3 ⊢
  obtain ⟨hm, hj, hf, hz3, hs3⟩ := st3
  rw [hs2] at hs3
  clear hz2 hs2 h2
  refine x_aload_n dX10_init_26 rfl rfl ?_
  refine x_iconst (v := nI 2) dX10_init_27 (by decide) ?_
  refine x_newarray (tg := 0) (N := 2) (x := (2, .inl (fun _ => 0))) dX10_init_28 (by decide) rfl wo_ints ⟨rfl, fun _ => rfl⟩ (nI_pos (by omega)) (nI_clamp (by omega)) (by omega) (by omega) (by omega) ?_
  rw [hz3]
  refine pf_X10_19_10 rfl dX10_init_30 (by rw [hnew_ne _ _ _ (by omega)]; exact hm) rfl rfl rfl ?_
  have st4 := im_step (tg := 0) (N := 2) (e := .inr (10, [.int 0, .ref (m + 1), .ref (m + 2), .ref (m + 3), .ref (m + 4), .null, .null, .null, .null, .null, .null, .null, .null, .null, .null, .null, .null, .null, .null, .null, .null, .null, .null, .null])) (by omega) hz3 hj hf rfl rfl
  clear hm hj hf
  generalize hput (hnew h3 (.inl (0, 2, .inl (fun _ => 0))) 2) m (.inr (10, [.int 0, .ref (m + 1), .ref (m + 2), .ref (m + 3), .ref (m + 4), .null, .null, .null, .null, .null, .null, .null, .null, .null, .null, .null, .null, .null, .null, .null, .null, .null, .null, .null])) = h4 at st4 ⊢
  obtain ⟨hm, hj, hf, hz4, hs4⟩ := st4
  rw [hs3] at hs4
  clear hz3 hs3 h3
  refine x_aload_n dX10_init_33 rfl rfl ?_
  refine x_iconst (v := nI 2) dX10_init_34 (by decide) ?_
  refine x_newarray (tg := 0) (N := 2) (x := (2, .inl (fun _ => 0))) dX10_init_35 (by decide) rfl wo_ints ⟨rfl, fun _ => rfl⟩ (nI_pos (by omega)) (nI_clamp (by omega)) (by omega) (by omega) (by omega) ?_
  rw [hz4]
  refine pf_X10_22_10 rfl dX10_init_37 (by rw [hnew_ne _ _ _ (by omega)]; exact hm) rfl rfl rfl ?_
  have st5 := im_step (tg := 0) (N := 2) (e := .inr (10, [.int 0, .ref (m + 1), .ref (m + 2), .ref (m + 3), .ref (m + 4), .ref (m + 5), .null, .null, .null, .null, .null, .null, .null, .null, .null, .null, .null, .null, .null, .null, .null, .null, .null, .null])) (by omega) hz4 hj hf rfl rfl
  clear hm hj hf
  generalize hput (hnew h4 (.inl (0, 2, .inl (fun _ => 0))) 2) m (.inr (10, [.int 0, .ref (m + 1), .ref (m + 2), .ref (m + 3), .ref (m + 4), .ref (m + 5), .null, .null, .null, .null, .null, .null, .null, .null, .null, .null, .null, .null, .null, .null, .null, .null, .null, .null])) = h5 at st5 ⊢
  obtain ⟨hm, hj, hf, hz5, hs5⟩ := st5
  rw [hs4] at hs5
  clear hz4 hs4 h4
  refine x_aload_n dX10_init_40 rfl rfl ?_
  refine x_iconst (v := nI 2) dX10_init_41 (by decide) ?_
  refine x_newarray (tg := 0) (N := 2) (x := (2, .inl (fun _ => 0))) dX10_init_42 (by decide) rfl wo_ints ⟨rfl, fun _ => rfl⟩ (nI_pos (by omega)) (nI_clamp (by omega)) (by omega) (by omega) (by omega) ?_
  rw [hz5]
  refine pf_X10_25_10 rfl dX10_init_44 (by rw [hnew_ne _ _ _ (by omega)]; exact hm) rfl rfl rfl ?_
  have st6 := im_step (tg := 0) (N := 2) (e := .inr (10, [.int 0, .ref (m + 1), .ref (m + 2), .ref (m + 3), .ref (m + 4), .ref (m + 5), .ref (m + 6), .null, .null, .null, .null, .null, .null, .null, .null, .null, .null, .null, .null, .null, .null, .null, .null, .null])) (by omega) hz5 hj hf rfl rfl
  clear hm hj hf
  generalize hput (hnew h5 (.inl (0, 2, .inl (fun _ => 0))) 2) m (.inr (10, [.int 0, .ref (m + 1), .ref (m + 2), .ref (m + 3), .ref (m + 4), .ref (m + 5), .ref (m + 6), .null, .null, .null, .null, .null, .null, .null, .null, .null, .null, .null, .null, .null, .null, .null, .null, .null])) = h6 at st6 ⊢
  obtain ⟨hm, hj, hf, hz6, hs6⟩ := st6
  rw [hs5] at hs6
  clear hz5 hs5 h5
  exact i_ref_1 hC hS hg hm hj hf hz6 hs6 hq
theorem i_ref {h : Hp} {g : Nat → Option Ee} {m s0 : Nat} (hC : m + 30 ≤ gC G) (hS : s0 + 2000 ≤ gS G) (hg : gb G ≤ m) (hm : h.1 m = some (.inr (10, [.int 0, .null, .null, .null, .null, .null, .null, .null, .null, .null, .null, .null, .null, .null, .null, .null, .null, .null, .null, .null, .null, .null, .null, .null]))) (hf : ∀ a, a < m → h.1 a = g a) (hz : h.2.1 = m + 1) (hs : h.2.2 = s0) (hq : ∀ h', RU G h' m (nI 0) u0 (fun _ => 0) → (∀ a, a < m → h'.1 a = g a) → h'.2.1 = m + 24 → h'.2.2 = s0 + 1478 → Q (.returned none) h') : Cx G mX10_init (d + 2) [.ref m] h Q := by
  show Jx G mX10_init (d + 2) Q 0 [some (.ref m)] [] h
  refine x_aload_n dX10_init_0 rfl rfl ?_
  refine x_objInit dX10_init_1 so_X10_1 wo_inst wo_code (by omega) (Nat.le_of_ble_eq_true rfl) ?_
  exact i_ref_0 hC hS hg hm (fun q q1 q2 => absurd q1 (by omega)) hf hz hs hq
end I3X
