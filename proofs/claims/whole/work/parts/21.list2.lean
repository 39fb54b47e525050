theorem hput_hnew (h : Hp) (e e' : Ee) (n : Nat) : hput (hnew h e n) h.2.1 e' = hnew h e' n := by
  simp [hput, hnew, bx_uu]
def elO (h : Hp) (y : Nat) : Prop := ∃ ci fs, h.1 y = some (.inr (ci, fs)) ∧ okO ci
section LIST2X
variable {G : GT} {d : Nat} {Q : Outcome → Hp → Prop} {h : Hp}
theorem c_max {x y : Int32} (hq : Q (.returned (some (.int (if x < y then y else x)))) h) : Cx G mJ9_max_7cf53 d [.int x, .int y] h Q := by
  show Jx G mJ9_max_7cf53 d Q 0 [some (.int x), some (.int y)] [] h
  refine x_iload_n dJ9_max_7cf53_0 rfl ?_
  refine x_iload_n dJ9_max_7cf53_1 rfl ?_
  refine x_icmp_lt (tgt := 9) dJ9_max_7cf53_2 (by decide) (fun c1 => ?_) (fun c1 => ?_)
  · rw [if_pos c1] at hq
    refine x_iload_n dJ9_max_7cf53_9 rfl ?_
    refine x_ireturn dJ9_max_7cf53_10 rfl ?_
    exact hq
  · rw [if_neg c1] at hq
    refine x_iload_n dJ9_max_7cf53_5 rfl ?_
    refine x_goto (tgt := 10) dJ9_max_7cf53_6 (by decide) ?_
    refine x_ireturn dJ9_max_7cf53_10 rfl ?_
    exact hq
theorem c_min {x y : Int32} (hq : Q (.returned (some (.int (if y < x then y else x)))) h) : Cx G mJ9_min_7cf53 d [.int x, .int y] h Q := by
  show Jx G mJ9_min_7cf53 d Q 0 [some (.int x), some (.int y)] [] h
  refine x_iload_n dJ9_min_7cf53_0 rfl ?_
  refine x_iload_n dJ9_min_7cf53_1 rfl ?_
  refine x_icmp_gt (tgt := 9) dJ9_min_7cf53_2 (by decide) (fun c1 => ?_) (fun c1 => ?_)
  · rw [if_pos c1] at hq
    refine x_iload_n dJ9_min_7cf53_9 rfl ?_
    refine x_ireturn dJ9_min_7cf53_10 rfl ?_
    exact hq
  · rw [if_neg c1] at hq
    refine x_iload_n dJ9_min_7cf53_5 rfl ?_
    refine x_goto (tgt := 10) dJ9_min_7cf53_6 (by decide) ?_
    refine x_ireturn dJ9_min_7cf53_10 rfl ?_
    exact hq
theorem c_newLength {n : Nat} (h2 : 2 ≤ n) (hn : n ≤ 40000) (hq : Q (.returned (some (.int (nI (n + n / 2))))) h) : Cx G mJ8_newLength_cabcc (d + 1) [.int (nI n), .int (nI 1), .int (nI (n / 2))] h Q := by
  show Jx G mJ8_newLength_cabcc (d + 1) Q 0 [some (.int (nI n)), some (.int (nI 1)), some (.int (nI (n / 2))), none] [] h
  refine x_iload_n dJ8_newLength_cabcc_0 rfl ?_
  refine x_iload_n dJ8_newLength_cabcc_1 rfl ?_
  refine x_iload_n dJ8_newLength_cabcc_2 rfl ?_
  refine x_callS dJ8_newLength_cabcc_3 ss_J8_194 (Nat.le_of_ble_eq_true rfl) rfl (Nat.le_of_ble_eq_true rfl) rfl ?_
  refine c_max (kc_v dr_2 ?_)
  have el : nI n + (if nI 1 < nI (n / 2) then nI (n / 2) else nI 1) = nI (n + n / 2) := by
    by_cases c : 1 < n / 2
    · rw [if_pos (nI_lt c (by omega))]
      exact nI_add n (n / 2)
    · rw [if_neg (nI_nlt (by omega) (by decide))]
      have hd : n / 2 = 1 := by omega
      rw [hd]
      exact nI_add n 1
  refine x_iadd dJ8_newLength_cabcc_6 ?_
  rw [el]
  refine y_istore_n dJ8_newLength_cabcc_7 rfl lvs_4_3 ?_
  refine x_iconst (v := 0) dJ8_newLength_cabcc_8 (by decide) ?_
  refine x_iload_n dJ8_newLength_cabcc_9 rfl ?_
  refine x_icmp_ge (tgt := 21) dJ8_newLength_cabcc_10 (by decide) (fun c1 => ?_) (fun c1 => ?_)
  · exact absurd (show nI (n + n / 2) ≤ 0 from c1) (nI_nle (by omega) (by omega))
  refine x_iload_n dJ8_newLength_cabcc_13 rfl ?_
  refine x_ldc (v := 2147483639) dJ8_newLength_cabcc_14 kw_J8_200 ?_
  refine x_icmp_gt (tgt := 21) dJ8_newLength_cabcc_16 (by decide) (fun c2 => ?_) (fun c2 => ?_)
  · exact absurd (show nI 2147483639 < nI (n + n / 2) from c2) (nI_nlt (by omega) (by decide))
  refine x_iload_n dJ8_newLength_cabcc_19 rfl ?_
  refine x_ireturn dJ8_newLength_cabcc_20 rfl ?_
  exact hq
theorem c_copyOf3 {a cap n : Nat} {f : Nat → Option Nat} (hb : gb G ≤ a) (hc : h.1 a = some (.inl (3, cap, .inr (.inr (.inr (.inr f)))))) (hcn : cap ≤ n) (hn : n ≤ 1000) (hel : ∀ i, i < cap → ∀ y, f i = some y → elO h y) (hroom : h.2.1 < gC G) (hsl : h.2.2 + n ≤ gS G)
    (hq : Q (.returned (some (.ref h.2.1))) (hnew h (.inl (3, n, .inr (.inr (.inr (.inr (va_cpy f (fun _ => none) 0 0 cap)))))) n)) : Cx G mJ7_copyOf_6403c (d + 1) [.ref a, .int (nI n), .ref (gM G)] h Q := by
  show Jx G mJ7_copyOf_6403c (d + 1) Q 0 [some (.ref a), some (.int (nI n)), some (.ref (gM G)), none] [] h
  refine x_wf (fun hwf _ hbn => ?_)
  have hane : a ≠ h.2.1 := fun e => by have := hwf a _ hc; omega
  refine x_aload_n dJ7_copyOf_6403c_0 rfl rfl ?_
  refine x_ldcM dJ7_copyOf_6403c_1 ck_J7_110 ?_
  refine x_acmp_ne (rx := some (gM G)) (ry := some (gM G)) (tgt := 13) dJ7_copyOf_6403c_3 (by decide) (fun c1 => absurd rfl c1) (fun c1 => ?_)
  refine x_iload_n dJ7_copyOf_6403c_6 rfl ?_
  refine x_anewarray dJ7_copyOf_6403c_7 ck_J7_2 wo_over (nI_pos (by omega)) (nI_clamp (by omega)) (by omega) hroom hsl ?_
  refine x_goto (tgt := 24) dJ7_copyOf_6403c_10 (by decide) ?_
  refine y_astore_n dJ7_copyOf_6403c_24 rfl rfl lvs_4_3 ?_
  refine x_aload_n dJ7_copyOf_6403c_25 rfl rfl ?_
  refine x_iconst (v := 0) dJ7_copyOf_6403c_26 (by decide) ?_
  refine x_aload_n dJ7_copyOf_6403c_27 rfl rfl ?_
  refine x_iconst (v := 0) dJ7_copyOf_6403c_28 (by decide) ?_
  refine x_aload_n dJ7_copyOf_6403c_29 rfl rfl ?_
  refine x_alen dJ7_copyOf_6403c_30 (by first | assumption | exact hput_self _ _ _ | exact hnew_self _ _ _ | (rw [hput_ne _ _ _ (by first | assumption | omega | (apply Ne.symm; assumption))]; first | assumption | exact hput_self _ _ _ | exact hnew_self _ _ _ | (rw [hput_ne _ _ _ (by first | assumption | omega | (apply Ne.symm; assumption))]; first | assumption | exact hput_self _ _ _ | exact hnew_self _ _ _ | (rw [hput_ne _ _ _ (by first | assumption | omega | (apply Ne.symm; assumption))]; first | assumption | exact hput_self _ _ _ | exact hnew_self _ _ _) | (rw [hnew_ne _ _ _ (by first | assumption | omega | (apply Ne.symm; assumption))]; first | assumption | exact hput_self _ _ _ | exact hnew_self _ _ _)) | (rw [hnew_ne _ _ _ (by first | assumption | omega | (apply Ne.symm; assumption))]; first | assumption | exact hput_self _ _ _ | exact hnew_self _ _ _ | (rw [hput_ne _ _ _ (by first | assumption | omega | (apply Ne.symm; assumption))]; first | assumption | exact hput_self _ _ _ | exact hnew_self _ _ _) | (rw [hnew_ne _ _ _ (by first | assumption | omega | (apply Ne.symm; assumption))]; first | assumption | exact hput_self _ _ _ | exact hnew_self _ _ _))) | (rw [hnew_ne _ _ _ (by first | assumption | omega | (apply Ne.symm; assumption))]; first | assumption | exact hput_self _ _ _ | exact hnew_self _ _ _ | (rw [hput_ne _ _ _ (by first | assumption | omega | (apply Ne.symm; assumption))]; first | assumption | exact hput_self _ _ _ | exact hnew_self _ _ _ | (rw [hput_ne _ _ _ (by first | assumption | omega | (apply Ne.symm; assumption))]; first | assumption | exact hput_self _ _ _ | exact hnew_self _ _ _) | (rw [hnew_ne _ _ _ (by first | assumption | omega | (apply Ne.symm; assumption))]; first | assumption | exact hput_self _ _ _ | exact hnew_self _ _ _)) | (rw [hnew_ne _ _ _ (by first | assumption | omega | (apply Ne.symm; assumption))]; first | assumption | exact hput_self _ _ _ | exact hnew_self _ _ _ | (rw [hput_ne _ _ _ (by first | assumption | omega | (apply Ne.symm; assumption))]; first | assumption | exact hput_self _ _ _ | exact hnew_self _ _ _) | (rw [hnew_ne _ _ _ (by first | assumption | omega | (apply Ne.symm; assumption))]; first | assumption | exact hput_self _ _ _ | exact hnew_self _ _ _)))) (by decide) ?_
  refine x_iload_n dJ7_copyOf_6403c_31 rfl ?_
  refine x_callS dJ7_copyOf_6403c_32 ss_J7_304 (Nat.le_of_ble_eq_true rfl) rfl (Nat.le_of_ble_eq_true rfl) rfl ?_
  refine c_min (kc_v dr_2 ?_)
  have em : (if nI n < nI cap then nI n else nI cap) = nI cap := if_neg (nI_nlt hcn (by omega))
  rw [em]
  refine x_copyR dJ7_copyOf_6403c_35 ss_J7_150 hb hbn (by rw [hnew_ne _ _ _ hane]; exact hc) (hnew_self _ _ _) (by decide) (by decide) (nI_pos (by omega)) (by rw [nI_clamp (by omega)]; show 0 + cap ≤ cap; omega) (by rw [nI_clamp (by omega)]; show 0 + cap ≤ n; omega) (fun i hi y hy => ?_) (by omega) (Nat.le_of_ble_eq_true rfl) ?_
  · rw [nI_clamp (by omega)] at hi
    obtain ⟨ci, fs, e1, e2⟩ := hel i hi y (by rw [← hy]; congr 1; show i = 0 + i; omega)
    exact ⟨ci, fs, by rw [hnew_ne _ _ _ (fun e => by have := hwf y _ e1; omega)]; exact e1, e2⟩
  rw [nI_clamp (by omega), hput_hnew]
  refine x_aload_n dJ7_copyOf_6403c_38 rfl rfl ?_
  refine x_areturn dJ7_copyOf_6403c_39 rfl (by first | exact Or.inl ⟨_, rfl⟩ | exact Or.inr ⟨_, rfl⟩) (by first | exact Or.inr ⟨_, rfl⟩ | exact Or.inl rfl | assumption) ?_
  exact hq
theorem c_copyOf {a cap n : Nat} {f : Nat → Option Nat} (hb : gb G ≤ a) (hc : h.1 a = some (.inl (3, cap, .inr (.inr (.inr (.inr f)))))) (hcn : cap ≤ n) (hn : n ≤ 1000) (hel : ∀ i, i < cap → ∀ y, f i = some y → elO h y) (hroom : h.2.1 < gC G) (hsl : h.2.2 + n ≤ gS G)
    (hq : Q (.returned (some (.ref h.2.1))) (hnew h (.inl (3, n, .inr (.inr (.inr (.inr (va_cpy f (fun _ => none) 0 0 cap)))))) n)) : Cx G mJ7_copyOf_1904c (d + 2) [.ref a, .int (nI n)] h Q := by
  show Jx G mJ7_copyOf_1904c (d + 2) Q 0 [some (.ref a), some (.int (nI n))] [] h
  refine x_aload_n dJ7_copyOf_1904c_0 rfl rfl ?_
  refine x_iload_n dJ7_copyOf_1904c_1 rfl ?_
  refine x_aload_n dJ7_copyOf_1904c_2 rfl rfl ?_
  refine x_getClass dJ7_copyOf_1904c_3 hb hc gc_J7_86 gc_declares gc_sel gc_instanceMethod gc_native (by omega) (Nat.le_of_ble_eq_true rfl) ?_
  refine x_callS dJ7_copyOf_1904c_6 ss_J7_300 (Nat.le_of_ble_eq_true rfl) rfl (Nat.le_of_ble_eq_true rfl) rfl ?_
  refine c_copyOf3 hb hc hcn hn hel hroom hsl (kc_v dr_3 ?_)
  refine x_areturn dJ7_copyOf_1904c_9 rfl (by first | exact Or.inl ⟨_, rfl⟩ | exact Or.inr ⟨_, rfl⟩) (by first | exact Or.inr ⟨_, rfl⟩ | exact Or.inl rfl | assumption) ?_
  exact hq
theorem c_grow1 {lo ea cap : Nat} {m s : Value} {f : Nat → Option Nat} (hc : h.1 lo = some (.inr (0, [m, .ref ea, s]))) (he : h.1 ea = some (.inl (3, cap, .inr (.inr (.inr (.inr f)))))) (hb : gb G ≤ ea) (h2 : 2 ≤ cap) (hn : cap ≤ 600) (hel : ∀ i, i < cap → ∀ y, f i = some y → elO h y) (hroom : h.2.1 < gC G) (hsl : h.2.2 + (cap + cap / 2) ≤ gS G)
    (hq : Q (.returned (some (.ref h.2.1))) (hput (hnew h (.inl (3, cap + cap / 2, .inr (.inr (.inr (.inr (va_cpy f (fun _ => none) 0 0 cap)))))) (cap + cap / 2)) lo (.inr (0, [m, .ref h.2.1, s])))) : Cx G mJx4a65c_grow_92f84 (d + 3) [.ref lo, .int (nI (cap + 1))] h Q := by
  show Jx G mJx4a65c_grow_92f84 (d + 3) Q 0 [some (.ref lo), some (.int (nI (cap + 1))), none, none] [] h
  refine x_wf (fun hwf _ hbn => ?_)
  have hlo : lo ≠ h.2.1 := fun e => by have := hwf lo _ hc; omega
  refine x_aload_n dJx4a65c_grow_92f84_0 rfl rfl ?_
  refine gf_Jx4a65c_9_0 rfl dJx4a65c_grow_92f84_1 (by first | assumption | exact hput_self _ _ _ | exact hnew_self _ _ _ | (rw [hput_ne _ _ _ (by first | assumption | omega | (apply Ne.symm; assumption))]; first | assumption | exact hput_self _ _ _ | exact hnew_self _ _ _ | (rw [hput_ne _ _ _ (by first | assumption | omega | (apply Ne.symm; assumption))]; first | assumption | exact hput_self _ _ _ | exact hnew_self _ _ _ | (rw [hput_ne _ _ _ (by first | assumption | omega | (apply Ne.symm; assumption))]; first | assumption | exact hput_self _ _ _ | exact hnew_self _ _ _) | (rw [hnew_ne _ _ _ (by first | assumption | omega | (apply Ne.symm; assumption))]; first | assumption | exact hput_self _ _ _ | exact hnew_self _ _ _)) | (rw [hnew_ne _ _ _ (by first | assumption | omega | (apply Ne.symm; assumption))]; first | assumption | exact hput_self _ _ _ | exact hnew_self _ _ _ | (rw [hput_ne _ _ _ (by first | assumption | omega | (apply Ne.symm; assumption))]; first | assumption | exact hput_self _ _ _ | exact hnew_self _ _ _) | (rw [hnew_ne _ _ _ (by first | assumption | omega | (apply Ne.symm; assumption))]; first | assumption | exact hput_self _ _ _ | exact hnew_self _ _ _))) | (rw [hnew_ne _ _ _ (by first | assumption | omega | (apply Ne.symm; assumption))]; first | assumption | exact hput_self _ _ _ | exact hnew_self _ _ _ | (rw [hput_ne _ _ _ (by first | assumption | omega | (apply Ne.symm; assumption))]; first | assumption | exact hput_self _ _ _ | exact hnew_self _ _ _ | (rw [hput_ne _ _ _ (by first | assumption | omega | (apply Ne.symm; assumption))]; first | assumption | exact hput_self _ _ _ | exact hnew_self _ _ _) | (rw [hnew_ne _ _ _ (by first | assumption | omega | (apply Ne.symm; assumption))]; first | assumption | exact hput_self _ _ _ | exact hnew_self _ _ _)) | (rw [hnew_ne _ _ _ (by first | assumption | omega | (apply Ne.symm; assumption))]; first | assumption | exact hput_self _ _ _ | exact hnew_self _ _ _ | (rw [hput_ne _ _ _ (by first | assumption | omega | (apply Ne.symm; assumption))]; first | assumption | exact hput_self _ _ _ | exact hnew_self _ _ _) | (rw [hnew_ne _ _ _ (by first | assumption | omega | (apply Ne.symm; assumption))]; first | assumption | exact hput_self _ _ _ | exact hnew_self _ _ _)))) ?_
  refine x_alen dJx4a65c_grow_92f84_4 (by first | assumption | exact hput_self _ _ _ | exact hnew_self _ _ _ | (rw [hput_ne _ _ _ (by first | assumption | omega | (apply Ne.symm; assumption))]; first | assumption | exact hput_self _ _ _ | exact hnew_self _ _ _ | (rw [hput_ne _ _ _ (by first | assumption | omega | (apply Ne.symm; assumption))]; first | assumption | exact hput_self _ _ _ | exact hnew_self _ _ _ | (rw [hput_ne _ _ _ (by first | assumption | omega | (apply Ne.symm; assumption))]; first | assumption | exact hput_self _ _ _ | exact hnew_self _ _ _) | (rw [hnew_ne _ _ _ (by first | assumption | omega | (apply Ne.symm; assumption))]; first | assumption | exact hput_self _ _ _ | exact hnew_self _ _ _)) | (rw [hnew_ne _ _ _ (by first | assumption | omega | (apply Ne.symm; assumption))]; first | assumption | exact hput_self _ _ _ | exact hnew_self _ _ _ | (rw [hput_ne _ _ _ (by first | assumption | omega | (apply Ne.symm; assumption))]; first | assumption | exact hput_self _ _ _ | exact hnew_self _ _ _) | (rw [hnew_ne _ _ _ (by first | assumption | omega | (apply Ne.symm; assumption))]; first | assumption | exact hput_self _ _ _ | exact hnew_self _ _ _))) | (rw [hnew_ne _ _ _ (by first | assumption | omega | (apply Ne.symm; assumption))]; first | assumption | exact hput_self _ _ _ | exact hnew_self _ _ _ | (rw [hput_ne _ _ _ (by first | assumption | omega | (apply Ne.symm; assumption))]; first | assumption | exact hput_self _ _ _ | exact hnew_self _ _ _ | (rw [hput_ne _ _ _ (by first | assumption | omega | (apply Ne.symm; assumption))]; first | assumption | exact hput_self _ _ _ | exact hnew_self _ _ _) | (rw [hnew_ne _ _ _ (by first | assumption | omega | (apply Ne.symm; assumption))]; first | assumption | exact hput_self _ _ _ | exact hnew_self _ _ _)) | (rw [hnew_ne _ _ _ (by first | assumption | omega | (apply Ne.symm; assumption))]; first | assumption | exact hput_self _ _ _ | exact hnew_self _ _ _ | (rw [hput_ne _ _ _ (by first | assumption | omega | (apply Ne.symm; assumption))]; first | assumption | exact hput_self _ _ _ | exact hnew_self _ _ _) | (rw [hnew_ne _ _ _ (by first | assumption | omega | (apply Ne.symm; assumption))]; first | assumption | exact hput_self _ _ _ | exact hnew_self _ _ _)))) (by decide) ?_
  refine y_istore_n dJx4a65c_grow_92f84_5 rfl lvs_4_2 ?_
  refine x_iload_n dJx4a65c_grow_92f84_6 rfl ?_
  refine x_if_gt (tgt := 20) dJx4a65c_grow_92f84_7 (by decide) (fun c1 => ?_) (fun c1 => ?_)
  · refine x_iload_n dJx4a65c_grow_92f84_20 rfl ?_
    refine x_iload_n dJx4a65c_grow_92f84_21 rfl ?_
    refine x_iload_n dJx4a65c_grow_92f84_22 rfl ?_
    refine x_isub dJx4a65c_grow_92f84_23 ?_
    refine x_iload_n dJx4a65c_grow_92f84_24 rfl ?_
    refine x_iconst (v := 1) dJx4a65c_grow_92f84_25 (by decide) ?_
    have es : nI cap >>> ((1 : Int32) &&& 31) = nI (cap / 2) := by
      have k := pk_shrN (n := cap) (by omega) ((1 : Int32) &&& 31) 1 (by decide)
      rw [Nat.pow_one] at k
      exact k
    refine x_ishr dJx4a65c_grow_92f84_26 es ?_
    rw [show nI (cap + 1) - nI cap = nI 1 by rw [pk_sub (by omega)]; congr 1; omega]
    refine x_callS dJx4a65c_grow_92f84_27 ss_Jx4a65c_73 (Nat.le_of_ble_eq_true rfl) rfl (Nat.le_of_ble_eq_true rfl) rfl ?_
    refine c_newLength h2 (by omega) (kc_v dr_3 ?_)
    refine y_istore_n dJx4a65c_grow_92f84_30 rfl lvs_4_3 ?_
    refine x_aload_n dJx4a65c_grow_92f84_31 rfl rfl ?_
    refine x_aload_n dJx4a65c_grow_92f84_32 rfl rfl ?_
    refine gf_Jx4a65c_9_0 rfl dJx4a65c_grow_92f84_33 (by first | assumption | exact hput_self _ _ _ | exact hnew_self _ _ _ | (rw [hput_ne _ _ _ (by first | assumption | omega | (apply Ne.symm; assumption))]; first | assumption | exact hput_self _ _ _ | exact hnew_self _ _ _ | (rw [hput_ne _ _ _ (by first | assumption | omega | (apply Ne.symm; assumption))]; first | assumption | exact hput_self _ _ _ | exact hnew_self _ _ _ | (rw [hput_ne _ _ _ (by first | assumption | omega | (apply Ne.symm; assumption))]; first | assumption | exact hput_self _ _ _ | exact hnew_self _ _ _) | (rw [hnew_ne _ _ _ (by first | assumption | omega | (apply Ne.symm; assumption))]; first | assumption | exact hput_self _ _ _ | exact hnew_self _ _ _)) | (rw [hnew_ne _ _ _ (by first | assumption | omega | (apply Ne.symm; assumption))]; first | assumption | exact hput_self _ _ _ | exact hnew_self _ _ _ | (rw [hput_ne _ _ _ (by first | assumption | omega | (apply Ne.symm; assumption))]; first | assumption | exact hput_self _ _ _ | exact hnew_self _ _ _) | (rw [hnew_ne _ _ _ (by first | assumption | omega | (apply Ne.symm; assumption))]; first | assumption | exact hput_self _ _ _ | exact hnew_self _ _ _))) | (rw [hnew_ne _ _ _ (by first | assumption | omega | (apply Ne.symm; assumption))]; first | assumption | exact hput_self _ _ _ | exact hnew_self _ _ _ | (rw [hput_ne _ _ _ (by first | assumption | omega | (apply Ne.symm; assumption))]; first | assumption | exact hput_self _ _ _ | exact hnew_self _ _ _ | (rw [hput_ne _ _ _ (by first | assumption | omega | (apply Ne.symm; assumption))]; first | assumption | exact hput_self _ _ _ | exact hnew_self _ _ _) | (rw [hnew_ne _ _ _ (by first | assumption | omega | (apply Ne.symm; assumption))]; first | assumption | exact hput_self _ _ _ | exact hnew_self _ _ _)) | (rw [hnew_ne _ _ _ (by first | assumption | omega | (apply Ne.symm; assumption))]; first | assumption | exact hput_self _ _ _ | exact hnew_self _ _ _ | (rw [hput_ne _ _ _ (by first | assumption | omega | (apply Ne.symm; assumption))]; first | assumption | exact hput_self _ _ _ | exact hnew_self _ _ _) | (rw [hnew_ne _ _ _ (by first | assumption | omega | (apply Ne.symm; assumption))]; first | assumption | exact hput_self _ _ _ | exact hnew_self _ _ _)))) ?_
    refine x_iload_n dJx4a65c_grow_92f84_36 rfl ?_
    refine x_callS dJx4a65c_grow_92f84_37 ss_Jx4a65c_66 (Nat.le_of_ble_eq_true rfl) rfl (Nat.le_of_ble_eq_true rfl) rfl ?_
    refine c_copyOf hb he (by omega) (by omega) hel hroom hsl (kc_v dr_2 ?_)
    refine x_dup_x1 dJx4a65c_grow_92f84_40 rfl rfl ?_
    refine pf_Jx4a65c_9_0 rfl dJx4a65c_grow_92f84_41 (by first | assumption | exact hput_self _ _ _ | exact hnew_self _ _ _ | (rw [hput_ne _ _ _ (by first | assumption | omega | (apply Ne.symm; assumption))]; first | assumption | exact hput_self _ _ _ | exact hnew_self _ _ _ | (rw [hput_ne _ _ _ (by first | assumption | omega | (apply Ne.symm; assumption))]; first | assumption | exact hput_self _ _ _ | exact hnew_self _ _ _ | (rw [hput_ne _ _ _ (by first | assumption | omega | (apply Ne.symm; assumption))]; first | assumption | exact hput_self _ _ _ | exact hnew_self _ _ _) | (rw [hnew_ne _ _ _ (by first | assumption | omega | (apply Ne.symm; assumption))]; first | assumption | exact hput_self _ _ _ | exact hnew_self _ _ _)) | (rw [hnew_ne _ _ _ (by first | assumption | omega | (apply Ne.symm; assumption))]; first | assumption | exact hput_self _ _ _ | exact hnew_self _ _ _ | (rw [hput_ne _ _ _ (by first | assumption | omega | (apply Ne.symm; assumption))]; first | assumption | exact hput_self _ _ _ | exact hnew_self _ _ _) | (rw [hnew_ne _ _ _ (by first | assumption | omega | (apply Ne.symm; assumption))]; first | assumption | exact hput_self _ _ _ | exact hnew_self _ _ _))) | (rw [hnew_ne _ _ _ (by first | assumption | omega | (apply Ne.symm; assumption))]; first | assumption | exact hput_self _ _ _ | exact hnew_self _ _ _ | (rw [hput_ne _ _ _ (by first | assumption | omega | (apply Ne.symm; assumption))]; first | assumption | exact hput_self _ _ _ | exact hnew_self _ _ _ | (rw [hput_ne _ _ _ (by first | assumption | omega | (apply Ne.symm; assumption))]; first | assumption | exact hput_self _ _ _ | exact hnew_self _ _ _) | (rw [hnew_ne _ _ _ (by first | assumption | omega | (apply Ne.symm; assumption))]; first | assumption | exact hput_self _ _ _ | exact hnew_self _ _ _)) | (rw [hnew_ne _ _ _ (by first | assumption | omega | (apply Ne.symm; assumption))]; first | assumption | exact hput_self _ _ _ | exact hnew_self _ _ _ | (rw [hput_ne _ _ _ (by first | assumption | omega | (apply Ne.symm; assumption))]; first | assumption | exact hput_self _ _ _ | exact hnew_self _ _ _) | (rw [hnew_ne _ _ _ (by first | assumption | omega | (apply Ne.symm; assumption))]; first | assumption | exact hput_self _ _ _ | exact hnew_self _ _ _)))) rfl rfl ?_
    refine x_areturn dJx4a65c_grow_92f84_44 rfl (by first | exact Or.inl ⟨_, rfl⟩ | exact Or.inr ⟨_, rfl⟩) (by first | exact Or.inr ⟨_, rfl⟩ | exact Or.inl rfl | assumption) ?_
    exact hq
  · exact absurd (show nI 0 < nI cap from nI_lt (by omega) (by omega)) c1
theorem c_grow0 {lo : Nat} {m s : Value} {f : Nat → Option Nat} (hc : h.1 lo = some (.inr (0, [m, .ref (gZ G), s]))) (he : h.1 (gZ G) = some (.inl (3, 0, .inr (.inr (.inr (.inr f)))))) (hroom : h.2.1 < gC G) (hsl : h.2.2 + 10 ≤ gS G)
    (hq : Q (.returned (some (.ref h.2.1))) (hput (hnew h (.inl (3, 10, .inr (.inr (.inr (.inr (fun _ => none)))))) 10) lo (.inr (0, [m, .ref h.2.1, s])))) : Cx G mJx4a65c_grow_92f84 (d + 3) [.ref lo, .int (nI 1)] h Q := by
  show Jx G mJx4a65c_grow_92f84 (d + 3) Q 0 [some (.ref lo), some (.int (nI 1)), none, none] [] h
  refine x_wf (fun hwf _ hbn => ?_)
  have hlo : lo ≠ h.2.1 := fun e => by have := hwf lo _ hc; omega
  refine x_aload_n dJx4a65c_grow_92f84_0 rfl rfl ?_
  refine gf_Jx4a65c_9_0 rfl dJx4a65c_grow_92f84_1 (by first | assumption | exact hput_self _ _ _ | exact hnew_self _ _ _ | (rw [hput_ne _ _ _ (by first | assumption | omega | (apply Ne.symm; assumption))]; first | assumption | exact hput_self _ _ _ | exact hnew_self _ _ _ | (rw [hput_ne _ _ _ (by first | assumption | omega | (apply Ne.symm; assumption))]; first | assumption | exact hput_self _ _ _ | exact hnew_self _ _ _ | (rw [hput_ne _ _ _ (by first | assumption | omega | (apply Ne.symm; assumption))]; first | assumption | exact hput_self _ _ _ | exact hnew_self _ _ _) | (rw [hnew_ne _ _ _ (by first | assumption | omega | (apply Ne.symm; assumption))]; first | assumption | exact hput_self _ _ _ | exact hnew_self _ _ _)) | (rw [hnew_ne _ _ _ (by first | assumption | omega | (apply Ne.symm; assumption))]; first | assumption | exact hput_self _ _ _ | exact hnew_self _ _ _ | (rw [hput_ne _ _ _ (by first | assumption | omega | (apply Ne.symm; assumption))]; first | assumption | exact hput_self _ _ _ | exact hnew_self _ _ _) | (rw [hnew_ne _ _ _ (by first | assumption | omega | (apply Ne.symm; assumption))]; first | assumption | exact hput_self _ _ _ | exact hnew_self _ _ _))) | (rw [hnew_ne _ _ _ (by first | assumption | omega | (apply Ne.symm; assumption))]; first | assumption | exact hput_self _ _ _ | exact hnew_self _ _ _ | (rw [hput_ne _ _ _ (by first | assumption | omega | (apply Ne.symm; assumption))]; first | assumption | exact hput_self _ _ _ | exact hnew_self _ _ _ | (rw [hput_ne _ _ _ (by first | assumption | omega | (apply Ne.symm; assumption))]; first | assumption | exact hput_self _ _ _ | exact hnew_self _ _ _) | (rw [hnew_ne _ _ _ (by first | assumption | omega | (apply Ne.symm; assumption))]; first | assumption | exact hput_self _ _ _ | exact hnew_self _ _ _)) | (rw [hnew_ne _ _ _ (by first | assumption | omega | (apply Ne.symm; assumption))]; first | assumption | exact hput_self _ _ _ | exact hnew_self _ _ _ | (rw [hput_ne _ _ _ (by first | assumption | omega | (apply Ne.symm; assumption))]; first | assumption | exact hput_self _ _ _ | exact hnew_self _ _ _) | (rw [hnew_ne _ _ _ (by first | assumption | omega | (apply Ne.symm; assumption))]; first | assumption | exact hput_self _ _ _ | exact hnew_self _ _ _)))) ?_
  refine x_alen dJx4a65c_grow_92f84_4 (by first | assumption | exact hput_self _ _ _ | exact hnew_self _ _ _ | (rw [hput_ne _ _ _ (by first | assumption | omega | (apply Ne.symm; assumption))]; first | assumption | exact hput_self _ _ _ | exact hnew_self _ _ _ | (rw [hput_ne _ _ _ (by first | assumption | omega | (apply Ne.symm; assumption))]; first | assumption | exact hput_self _ _ _ | exact hnew_self _ _ _ | (rw [hput_ne _ _ _ (by first | assumption | omega | (apply Ne.symm; assumption))]; first | assumption | exact hput_self _ _ _ | exact hnew_self _ _ _) | (rw [hnew_ne _ _ _ (by first | assumption | omega | (apply Ne.symm; assumption))]; first | assumption | exact hput_self _ _ _ | exact hnew_self _ _ _)) | (rw [hnew_ne _ _ _ (by first | assumption | omega | (apply Ne.symm; assumption))]; first | assumption | exact hput_self _ _ _ | exact hnew_self _ _ _ | (rw [hput_ne _ _ _ (by first | assumption | omega | (apply Ne.symm; assumption))]; first | assumption | exact hput_self _ _ _ | exact hnew_self _ _ _) | (rw [hnew_ne _ _ _ (by first | assumption | omega | (apply Ne.symm; assumption))]; first | assumption | exact hput_self _ _ _ | exact hnew_self _ _ _))) | (rw [hnew_ne _ _ _ (by first | assumption | omega | (apply Ne.symm; assumption))]; first | assumption | exact hput_self _ _ _ | exact hnew_self _ _ _ | (rw [hput_ne _ _ _ (by first | assumption | omega | (apply Ne.symm; assumption))]; first | assumption | exact hput_self _ _ _ | exact hnew_self _ _ _ | (rw [hput_ne _ _ _ (by first | assumption | omega | (apply Ne.symm; assumption))]; first | assumption | exact hput_self _ _ _ | exact hnew_self _ _ _) | (rw [hnew_ne _ _ _ (by first | assumption | omega | (apply Ne.symm; assumption))]; first | assumption | exact hput_self _ _ _ | exact hnew_self _ _ _)) | (rw [hnew_ne _ _ _ (by first | assumption | omega | (apply Ne.symm; assumption))]; first | assumption | exact hput_self _ _ _ | exact hnew_self _ _ _ | (rw [hput_ne _ _ _ (by first | assumption | omega | (apply Ne.symm; assumption))]; first | assumption | exact hput_self _ _ _ | exact hnew_self _ _ _) | (rw [hnew_ne _ _ _ (by first | assumption | omega | (apply Ne.symm; assumption))]; first | assumption | exact hput_self _ _ _ | exact hnew_self _ _ _)))) (by decide) ?_
  refine y_istore_n dJx4a65c_grow_92f84_5 rfl lvs_4_2 ?_
  refine x_iload_n dJx4a65c_grow_92f84_6 rfl ?_
  refine x_if_gt (tgt := 20) dJx4a65c_grow_92f84_7 (by decide) (fun c1 => ?_) (fun c1 => ?_)
  · exact absurd (show (0 : Int32) < nI 0 from c1) (by decide)
  refine x_aload_n dJx4a65c_grow_92f84_10 rfl rfl ?_
  refine gf_Jx4a65c_9_0 rfl dJx4a65c_grow_92f84_11 (by first | assumption | exact hput_self _ _ _ | exact hnew_self _ _ _ | (rw [hput_ne _ _ _ (by first | assumption | omega | (apply Ne.symm; assumption))]; first | assumption | exact hput_self _ _ _ | exact hnew_self _ _ _ | (rw [hput_ne _ _ _ (by first | assumption | omega | (apply Ne.symm; assumption))]; first | assumption | exact hput_self _ _ _ | exact hnew_self _ _ _ | (rw [hput_ne _ _ _ (by first | assumption | omega | (apply Ne.symm; assumption))]; first | assumption | exact hput_self _ _ _ | exact hnew_self _ _ _) | (rw [hnew_ne _ _ _ (by first | assumption | omega | (apply Ne.symm; assumption))]; first | assumption | exact hput_self _ _ _ | exact hnew_self _ _ _)) | (rw [hnew_ne _ _ _ (by first | assumption | omega | (apply Ne.symm; assumption))]; first | assumption | exact hput_self _ _ _ | exact hnew_self _ _ _ | (rw [hput_ne _ _ _ (by first | assumption | omega | (apply Ne.symm; assumption))]; first | assumption | exact hput_self _ _ _ | exact hnew_self _ _ _) | (rw [hnew_ne _ _ _ (by first | assumption | omega | (apply Ne.symm; assumption))]; first | assumption | exact hput_self _ _ _ | exact hnew_self _ _ _))) | (rw [hnew_ne _ _ _ (by first | assumption | omega | (apply Ne.symm; assumption))]; first | assumption | exact hput_self _ _ _ | exact hnew_self _ _ _ | (rw [hput_ne _ _ _ (by first | assumption | omega | (apply Ne.symm; assumption))]; first | assumption | exact hput_self _ _ _ | exact hnew_self _ _ _ | (rw [hput_ne _ _ _ (by first | assumption | omega | (apply Ne.symm; assumption))]; first | assumption | exact hput_self _ _ _ | exact hnew_self _ _ _) | (rw [hnew_ne _ _ _ (by first | assumption | omega | (apply Ne.symm; assumption))]; first | assumption | exact hput_self _ _ _ | exact hnew_self _ _ _)) | (rw [hnew_ne _ _ _ (by first | assumption | omega | (apply Ne.symm; assumption))]; first | assumption | exact hput_self _ _ _ | exact hnew_self _ _ _ | (rw [hput_ne _ _ _ (by first | assumption | omega | (apply Ne.symm; assumption))]; first | assumption | exact hput_self _ _ _ | exact hnew_self _ _ _) | (rw [hnew_ne _ _ _ (by first | assumption | omega | (apply Ne.symm; assumption))]; first | assumption | exact hput_self _ _ _ | exact hnew_self _ _ _)))) ?_
  refine x_empty dJx4a65c_grow_92f84_14 rfl we_39 ?_
  refine x_acmp_eq (rx := some (gZ G)) (ry := some (gZ G)) (tgt := 45) dJx4a65c_grow_92f84_17 (by decide) (fun c2 => ?_) (fun c2 => absurd rfl c2)
  refine x_aload_n dJx4a65c_grow_92f84_45 rfl rfl ?_
  refine x_bipush (v := 10) dJx4a65c_grow_92f84_46 (by decide) ?_
  refine x_iload_n dJx4a65c_grow_92f84_48 rfl ?_
  refine x_callS dJx4a65c_grow_92f84_49 ss_Jx4a65c_79 (Nat.le_of_ble_eq_true rfl) rfl (Nat.le_of_ble_eq_true rfl) rfl ?_
  refine c_max (kc_v dr_2 ?_)
  rw [show (if (10 : Int32) < nI 1 then nI 1 else 10) = 10 by decide]
  refine x_anewarray dJx4a65c_grow_92f84_52 ck_Jx4a65c_7 wo_over (by decide) (by decide : (10 : Int32).toNatClampNeg = 10) (by omega) hroom hsl ?_
  refine x_dup_x1 dJx4a65c_grow_92f84_55 rfl rfl ?_
  refine pf_Jx4a65c_9_0 rfl dJx4a65c_grow_92f84_56 (by first | assumption | exact hput_self _ _ _ | exact hnew_self _ _ _ | (rw [hput_ne _ _ _ (by first | assumption | omega | (apply Ne.symm; assumption))]; first | assumption | exact hput_self _ _ _ | exact hnew_self _ _ _ | (rw [hput_ne _ _ _ (by first | assumption | omega | (apply Ne.symm; assumption))]; first | assumption | exact hput_self _ _ _ | exact hnew_self _ _ _ | (rw [hput_ne _ _ _ (by first | assumption | omega | (apply Ne.symm; assumption))]; first | assumption | exact hput_self _ _ _ | exact hnew_self _ _ _) | (rw [hnew_ne _ _ _ (by first | assumption | omega | (apply Ne.symm; assumption))]; first | assumption | exact hput_self _ _ _ | exact hnew_self _ _ _)) | (rw [hnew_ne _ _ _ (by first | assumption | omega | (apply Ne.symm; assumption))]; first | assumption | exact hput_self _ _ _ | exact hnew_self _ _ _ | (rw [hput_ne _ _ _ (by first | assumption | omega | (apply Ne.symm; assumption))]; first | assumption | exact hput_self _ _ _ | exact hnew_self _ _ _) | (rw [hnew_ne _ _ _ (by first | assumption | omega | (apply Ne.symm; assumption))]; first | assumption | exact hput_self _ _ _ | exact hnew_self _ _ _))) | (rw [hnew_ne _ _ _ (by first | assumption | omega | (apply Ne.symm; assumption))]; first | assumption | exact hput_self _ _ _ | exact hnew_self _ _ _ | (rw [hput_ne _ _ _ (by first | assumption | omega | (apply Ne.symm; assumption))]; first | assumption | exact hput_self _ _ _ | exact hnew_self _ _ _ | (rw [hput_ne _ _ _ (by first | assumption | omega | (apply Ne.symm; assumption))]; first | assumption | exact hput_self _ _ _ | exact hnew_self _ _ _) | (rw [hnew_ne _ _ _ (by first | assumption | omega | (apply Ne.symm; assumption))]; first | assumption | exact hput_self _ _ _ | exact hnew_self _ _ _)) | (rw [hnew_ne _ _ _ (by first | assumption | omega | (apply Ne.symm; assumption))]; first | assumption | exact hput_self _ _ _ | exact hnew_self _ _ _ | (rw [hput_ne _ _ _ (by first | assumption | omega | (apply Ne.symm; assumption))]; first | assumption | exact hput_self _ _ _ | exact hnew_self _ _ _) | (rw [hnew_ne _ _ _ (by first | assumption | omega | (apply Ne.symm; assumption))]; first | assumption | exact hput_self _ _ _ | exact hnew_self _ _ _)))) rfl rfl ?_
  refine x_areturn dJx4a65c_grow_92f84_59 rfl (by first | exact Or.inl ⟨_, rfl⟩ | exact Or.inr ⟨_, rfl⟩) (by first | exact Or.inr ⟨_, rfl⟩ | exact Or.inl rfl | assumption) ?_
  exact hq
end LIST2X
