def fR (f : Nat → Option Nat) : (Nat → Int32) ⊕ (Nat → Int64) ⊕ (Nat → UInt32) ⊕ (Nat → UInt64) ⊕ (Nat → Option Nat) := .inr (.inr (.inr (.inr f)))
def Lx (G : GT) (h : Hp) (lo ea : Nat) (xs : List Nat) : Prop := ∃ (m : Int32) (cap : Nat) (f : Nat → Option Nat), h.1 lo = some (.inr (0, [.int m, .ref ea, .int (nI xs.length)])) ∧ h.1 ea = some (.inl (3, cap, .inr (.inr (.inr (.inr f))))) ∧ xs.length ≤ cap ∧ cap ≤ 45 ∧ (∀ i, i < xs.length → f i = xs[i]?) ∧ ((ea = gZ G ∧ cap = 0) ∨ (gb G ≤ ea ∧ 10 ≤ cap))
theorem Lx.kept {G : GT} {h h' : Hp} {lo ea : Nat} {xs : List Nat} (hL : Lx G h lo ea xs) (h1 : h'.1 lo = h.1 lo) (h2 : h'.1 ea = h.1 ea) : Lx G h' lo ea xs := by
  obtain ⟨m, cap, f, a, b, c⟩ := hL
  exact ⟨m, cap, f, by rw [h1]; exact a, by rw [h2]; exact b, c⟩
section LIST3X
variable {G : GT} {d : Nat} {Q : Outcome → Hp → Prop} {h : Hp}
theorem add_tail {lo ea cap n v ci : Nat} {m s : Value} {fs : List Value} {f : Nat → Option Nat} (hc : h.1 lo = some (.inr (0, [m, .ref ea, s]))) (he : h.1 ea = some (.inl (3, cap, .inr (.inr (.inr (.inr f)))))) (hb : gb G ≤ ea) (hn : n < cap) (hcap : cap ≤ 1000) (hv : h.1 v = some (.inr (ci, fs))) (ho : okO ci)
    (hq : Q (.returned none) (hput (hput h ea (.inl (3, cap, .inr (.inr (.inr (.inr (va_up f n (some v)))))))) lo (.inr (0, [m, .ref ea, .int (nI (n + 1))])))) : Jx G mJx4a65c_add_72be8 d Q 11 [some (.ref lo), some (.ref v), some (.ref ea), some (.int (nI n))] [] h := by
  have hne : lo ≠ ea := fun e => by rw [e, he] at hc; cases hc
  refine x_aload_n dJx4a65c_add_72be8_11 rfl rfl ?_
  refine x_iload_n dJx4a65c_add_72be8_12 rfl ?_
  refine x_aload_n dJx4a65c_add_72be8_13 rfl rfl ?_
  refine x_aastore dJx4a65c_add_72be8_14 hb he (vp_in_nI hn (by omega)) hv ho ?_
  rw [nI_clamp (by omega)]
  refine x_aload_n dJx4a65c_add_72be8_15 rfl rfl ?_
  refine x_iload_n dJx4a65c_add_72be8_16 rfl ?_
  refine x_iconst (v := 1) dJx4a65c_add_72be8_17 (by decide) ?_
  refine x_iadd dJx4a65c_add_72be8_18 ?_
  rw [nI_1]
  refine pf_Jx4a65c_48_0 rfl dJx4a65c_add_72be8_19 (by first | assumption | exact hput_self _ _ _ | exact hnew_self _ _ _ | (rw [hput_ne _ _ _ (by first | assumption | omega | (apply Ne.symm; assumption))]; first | assumption | exact hput_self _ _ _ | exact hnew_self _ _ _ | (rw [hput_ne _ _ _ (by first | assumption | omega | (apply Ne.symm; assumption))]; first | assumption | exact hput_self _ _ _ | exact hnew_self _ _ _ | (rw [hput_ne _ _ _ (by first | assumption | omega | (apply Ne.symm; assumption))]; first | assumption | exact hput_self _ _ _ | exact hnew_self _ _ _) | (rw [hnew_ne _ _ _ (by first | assumption | omega | (apply Ne.symm; assumption))]; first | assumption | exact hput_self _ _ _ | exact hnew_self _ _ _)) | (rw [hnew_ne _ _ _ (by first | assumption | omega | (apply Ne.symm; assumption))]; first | assumption | exact hput_self _ _ _ | exact hnew_self _ _ _ | (rw [hput_ne _ _ _ (by first | assumption | omega | (apply Ne.symm; assumption))]; first | assumption | exact hput_self _ _ _ | exact hnew_self _ _ _) | (rw [hnew_ne _ _ _ (by first | assumption | omega | (apply Ne.symm; assumption))]; first | assumption | exact hput_self _ _ _ | exact hnew_self _ _ _))) | (rw [hnew_ne _ _ _ (by first | assumption | omega | (apply Ne.symm; assumption))]; first | assumption | exact hput_self _ _ _ | exact hnew_self _ _ _ | (rw [hput_ne _ _ _ (by first | assumption | omega | (apply Ne.symm; assumption))]; first | assumption | exact hput_self _ _ _ | exact hnew_self _ _ _ | (rw [hput_ne _ _ _ (by first | assumption | omega | (apply Ne.symm; assumption))]; first | assumption | exact hput_self _ _ _ | exact hnew_self _ _ _) | (rw [hnew_ne _ _ _ (by first | assumption | omega | (apply Ne.symm; assumption))]; first | assumption | exact hput_self _ _ _ | exact hnew_self _ _ _)) | (rw [hnew_ne _ _ _ (by first | assumption | omega | (apply Ne.symm; assumption))]; first | assumption | exact hput_self _ _ _ | exact hnew_self _ _ _ | (rw [hput_ne _ _ _ (by first | assumption | omega | (apply Ne.symm; assumption))]; first | assumption | exact hput_self _ _ _ | exact hnew_self _ _ _) | (rw [hnew_ne _ _ _ (by first | assumption | omega | (apply Ne.symm; assumption))]; first | assumption | exact hput_self _ _ _ | exact hnew_self _ _ _)))) rfl rfl ?_
  refine x_vreturn dJx4a65c_add_72be8_22 rfl ?_
  exact hq
theorem c_add {lo ea v ci : Nat} {fs : List Value} {xs : List Nat} (hL : Lx G h lo ea xs) (hlen : xs.length ≤ 30) (hel : ∀ y ∈ xs, elO h y) (hv : h.1 v = some (.inr (ci, fs))) (ho : okO ci) (hroom : h.2.1 < gC G) (hsl : h.2.2 + 45 ≤ gS G)
    (hq : ∀ h' ea', Lx G h' lo ea' (xs ++ [v]) → (∀ a, a < h.2.1 → a ≠ lo → (a ≠ ea ∨ a < gb G) → h'.1 a = h.1 a) → (ea' = ea ∨ ea' = h.2.1) → h.2.1 ≤ h'.2.1 → h'.2.1 ≤ h.2.1 + 1 → h.2.2 ≤ h'.2.2 → h'.2.2 ≤ h.2.2 + 45 → gb G ≤ ea' → Q (.returned (some (.int 1))) h') : Cx G mJx4a65c_add_9ea2d (d + 6) [.ref lo, .ref v] h Q := by
  show Jx G mJx4a65c_add_9ea2d (d + 6) Q 0 [some (.ref lo), some (.ref v)] [] h
  refine x_wf (fun hwf hob hbn => ?_)
  obtain ⟨m, cap, f, hc, he, hxc, hcap, hf, hZ⟩ := hL
  have hne : lo ≠ ea := fun e => by rw [e, he] at hc; cases hc
  have hlo : lo < h.2.1 := hwf lo _ hc
  have hgo : gb G ≤ lo := hob lo _ hc
  have hle : ea < h.2.1 := hwf ea _ he
  have hvl : v < h.2.1 := hwf v _ hv
  have hvlo : v = lo ∨ v ≠ lo := Classical.em _
  have hvea : v ≠ ea := fun e => by rw [e, he] at hv; cases hv
  have hvne : v ≠ lo := fun e => by
    rw [e, hc] at hv
    cases hv
    obtain ⟨r, hr, hw⟩ := ho
    cases cl_0.symm.trans hr
    exact absurd hw (by decide +kernel)
  refine x_aload_n dJx4a65c_add_9ea2d_0 rfl rfl ?_
  refine x_dup dJx4a65c_add_9ea2d_1 rfl ?_
  refine gf_Jx4a65c_63_0 rfl dJx4a65c_add_9ea2d_2 (by first | assumption | exact hput_self _ _ _ | exact hnew_self _ _ _ | (rw [hput_ne _ _ _ (by first | assumption | omega | (apply Ne.symm; assumption))]; first | assumption | exact hput_self _ _ _ | exact hnew_self _ _ _ | (rw [hput_ne _ _ _ (by first | assumption | omega | (apply Ne.symm; assumption))]; first | assumption | exact hput_self _ _ _ | exact hnew_self _ _ _ | (rw [hput_ne _ _ _ (by first | assumption | omega | (apply Ne.symm; assumption))]; first | assumption | exact hput_self _ _ _ | exact hnew_self _ _ _) | (rw [hnew_ne _ _ _ (by first | assumption | omega | (apply Ne.symm; assumption))]; first | assumption | exact hput_self _ _ _ | exact hnew_self _ _ _)) | (rw [hnew_ne _ _ _ (by first | assumption | omega | (apply Ne.symm; assumption))]; first | assumption | exact hput_self _ _ _ | exact hnew_self _ _ _ | (rw [hput_ne _ _ _ (by first | assumption | omega | (apply Ne.symm; assumption))]; first | assumption | exact hput_self _ _ _ | exact hnew_self _ _ _) | (rw [hnew_ne _ _ _ (by first | assumption | omega | (apply Ne.symm; assumption))]; first | assumption | exact hput_self _ _ _ | exact hnew_self _ _ _))) | (rw [hnew_ne _ _ _ (by first | assumption | omega | (apply Ne.symm; assumption))]; first | assumption | exact hput_self _ _ _ | exact hnew_self _ _ _ | (rw [hput_ne _ _ _ (by first | assumption | omega | (apply Ne.symm; assumption))]; first | assumption | exact hput_self _ _ _ | exact hnew_self _ _ _ | (rw [hput_ne _ _ _ (by first | assumption | omega | (apply Ne.symm; assumption))]; first | assumption | exact hput_self _ _ _ | exact hnew_self _ _ _) | (rw [hnew_ne _ _ _ (by first | assumption | omega | (apply Ne.symm; assumption))]; first | assumption | exact hput_self _ _ _ | exact hnew_self _ _ _)) | (rw [hnew_ne _ _ _ (by first | assumption | omega | (apply Ne.symm; assumption))]; first | assumption | exact hput_self _ _ _ | exact hnew_self _ _ _ | (rw [hput_ne _ _ _ (by first | assumption | omega | (apply Ne.symm; assumption))]; first | assumption | exact hput_self _ _ _ | exact hnew_self _ _ _) | (rw [hnew_ne _ _ _ (by first | assumption | omega | (apply Ne.symm; assumption))]; first | assumption | exact hput_self _ _ _ | exact hnew_self _ _ _)))) ?_
  refine x_iconst (v := 1) dJx4a65c_add_9ea2d_5 (by decide) ?_
  refine x_iadd dJx4a65c_add_9ea2d_6 ?_
  refine pf_Jx4a65c_63_0 rfl dJx4a65c_add_9ea2d_7 (by first | assumption | exact hput_self _ _ _ | exact hnew_self _ _ _ | (rw [hput_ne _ _ _ (by first | assumption | omega | (apply Ne.symm; assumption))]; first | assumption | exact hput_self _ _ _ | exact hnew_self _ _ _ | (rw [hput_ne _ _ _ (by first | assumption | omega | (apply Ne.symm; assumption))]; first | assumption | exact hput_self _ _ _ | exact hnew_self _ _ _ | (rw [hput_ne _ _ _ (by first | assumption | omega | (apply Ne.symm; assumption))]; first | assumption | exact hput_self _ _ _ | exact hnew_self _ _ _) | (rw [hnew_ne _ _ _ (by first | assumption | omega | (apply Ne.symm; assumption))]; first | assumption | exact hput_self _ _ _ | exact hnew_self _ _ _)) | (rw [hnew_ne _ _ _ (by first | assumption | omega | (apply Ne.symm; assumption))]; first | assumption | exact hput_self _ _ _ | exact hnew_self _ _ _ | (rw [hput_ne _ _ _ (by first | assumption | omega | (apply Ne.symm; assumption))]; first | assumption | exact hput_self _ _ _ | exact hnew_self _ _ _) | (rw [hnew_ne _ _ _ (by first | assumption | omega | (apply Ne.symm; assumption))]; first | assumption | exact hput_self _ _ _ | exact hnew_self _ _ _))) | (rw [hnew_ne _ _ _ (by first | assumption | omega | (apply Ne.symm; assumption))]; first | assumption | exact hput_self _ _ _ | exact hnew_self _ _ _ | (rw [hput_ne _ _ _ (by first | assumption | omega | (apply Ne.symm; assumption))]; first | assumption | exact hput_self _ _ _ | exact hnew_self _ _ _ | (rw [hput_ne _ _ _ (by first | assumption | omega | (apply Ne.symm; assumption))]; first | assumption | exact hput_self _ _ _ | exact hnew_self _ _ _) | (rw [hnew_ne _ _ _ (by first | assumption | omega | (apply Ne.symm; assumption))]; first | assumption | exact hput_self _ _ _ | exact hnew_self _ _ _)) | (rw [hnew_ne _ _ _ (by first | assumption | omega | (apply Ne.symm; assumption))]; first | assumption | exact hput_self _ _ _ | exact hnew_self _ _ _ | (rw [hput_ne _ _ _ (by first | assumption | omega | (apply Ne.symm; assumption))]; first | assumption | exact hput_self _ _ _ | exact hnew_self _ _ _) | (rw [hnew_ne _ _ _ (by first | assumption | omega | (apply Ne.symm; assumption))]; first | assumption | exact hput_self _ _ _ | exact hnew_self _ _ _)))) rfl rfl ?_
  refine x_aload_n dJx4a65c_add_9ea2d_10 rfl rfl ?_
  refine x_aload_n dJx4a65c_add_9ea2d_11 rfl rfl ?_
  refine x_aload_n dJx4a65c_add_9ea2d_12 rfl rfl ?_
  refine gf_Jx4a65c_9_0 rfl dJx4a65c_add_9ea2d_13 (by first | assumption | exact hput_self _ _ _ | exact hnew_self _ _ _ | (rw [hput_ne _ _ _ (by first | assumption | omega | (apply Ne.symm; assumption))]; first | assumption | exact hput_self _ _ _ | exact hnew_self _ _ _ | (rw [hput_ne _ _ _ (by first | assumption | omega | (apply Ne.symm; assumption))]; first | assumption | exact hput_self _ _ _ | exact hnew_self _ _ _ | (rw [hput_ne _ _ _ (by first | assumption | omega | (apply Ne.symm; assumption))]; first | assumption | exact hput_self _ _ _ | exact hnew_self _ _ _) | (rw [hnew_ne _ _ _ (by first | assumption | omega | (apply Ne.symm; assumption))]; first | assumption | exact hput_self _ _ _ | exact hnew_self _ _ _)) | (rw [hnew_ne _ _ _ (by first | assumption | omega | (apply Ne.symm; assumption))]; first | assumption | exact hput_self _ _ _ | exact hnew_self _ _ _ | (rw [hput_ne _ _ _ (by first | assumption | omega | (apply Ne.symm; assumption))]; first | assumption | exact hput_self _ _ _ | exact hnew_self _ _ _) | (rw [hnew_ne _ _ _ (by first | assumption | omega | (apply Ne.symm; assumption))]; first | assumption | exact hput_self _ _ _ | exact hnew_self _ _ _))) | (rw [hnew_ne _ _ _ (by first | assumption | omega | (apply Ne.symm; assumption))]; first | assumption | exact hput_self _ _ _ | exact hnew_self _ _ _ | (rw [hput_ne _ _ _ (by first | assumption | omega | (apply Ne.symm; assumption))]; first | assumption | exact hput_self _ _ _ | exact hnew_self _ _ _ | (rw [hput_ne _ _ _ (by first | assumption | omega | (apply Ne.symm; assumption))]; first | assumption | exact hput_self _ _ _ | exact hnew_self _ _ _) | (rw [hnew_ne _ _ _ (by first | assumption | omega | (apply Ne.symm; assumption))]; first | assumption | exact hput_self _ _ _ | exact hnew_self _ _ _)) | (rw [hnew_ne _ _ _ (by first | assumption | omega | (apply Ne.symm; assumption))]; first | assumption | exact hput_self _ _ _ | exact hnew_self _ _ _ | (rw [hput_ne _ _ _ (by first | assumption | omega | (apply Ne.symm; assumption))]; first | assumption | exact hput_self _ _ _ | exact hnew_self _ _ _) | (rw [hnew_ne _ _ _ (by first | assumption | omega | (apply Ne.symm; assumption))]; first | assumption | exact hput_self _ _ _ | exact hnew_self _ _ _)))) ?_
  refine x_aload_n dJx4a65c_add_9ea2d_16 rfl rfl ?_
  refine gf_Jx4a65c_48_0 rfl dJx4a65c_add_9ea2d_17 (by first | assumption | exact hput_self _ _ _ | exact hnew_self _ _ _ | (rw [hput_ne _ _ _ (by first | assumption | omega | (apply Ne.symm; assumption))]; first | assumption | exact hput_self _ _ _ | exact hnew_self _ _ _ | (rw [hput_ne _ _ _ (by first | assumption | omega | (apply Ne.symm; assumption))]; first | assumption | exact hput_self _ _ _ | exact hnew_self _ _ _ | (rw [hput_ne _ _ _ (by first | assumption | omega | (apply Ne.symm; assumption))]; first | assumption | exact hput_self _ _ _ | exact hnew_self _ _ _) | (rw [hnew_ne _ _ _ (by first | assumption | omega | (apply Ne.symm; assumption))]; first | assumption | exact hput_self _ _ _ | exact hnew_self _ _ _)) | (rw [hnew_ne _ _ _ (by first | assumption | omega | (apply Ne.symm; assumption))]; first | assumption | exact hput_self _ _ _ | exact hnew_self _ _ _ | (rw [hput_ne _ _ _ (by first | assumption | omega | (apply Ne.symm; assumption))]; first | assumption | exact hput_self _ _ _ | exact hnew_self _ _ _) | (rw [hnew_ne _ _ _ (by first | assumption | omega | (apply Ne.symm; assumption))]; first | assumption | exact hput_self _ _ _ | exact hnew_self _ _ _))) | (rw [hnew_ne _ _ _ (by first | assumption | omega | (apply Ne.symm; assumption))]; first | assumption | exact hput_self _ _ _ | exact hnew_self _ _ _ | (rw [hput_ne _ _ _ (by first | assumption | omega | (apply Ne.symm; assumption))]; first | assumption | exact hput_self _ _ _ | exact hnew_self _ _ _ | (rw [hput_ne _ _ _ (by first | assumption | omega | (apply Ne.symm; assumption))]; first | assumption | exact hput_self _ _ _ | exact hnew_self _ _ _) | (rw [hnew_ne _ _ _ (by first | assumption | omega | (apply Ne.symm; assumption))]; first | assumption | exact hput_self _ _ _ | exact hnew_self _ _ _)) | (rw [hnew_ne _ _ _ (by first | assumption | omega | (apply Ne.symm; assumption))]; first | assumption | exact hput_self _ _ _ | exact hnew_self _ _ _ | (rw [hput_ne _ _ _ (by first | assumption | omega | (apply Ne.symm; assumption))]; first | assumption | exact hput_self _ _ _ | exact hnew_self _ _ _) | (rw [hnew_ne _ _ _ (by first | assumption | omega | (apply Ne.symm; assumption))]; first | assumption | exact hput_self _ _ _ | exact hnew_self _ _ _)))) ?_
  refine x_callV dJx4a65c_add_9ea2d_20 sv_Jx4a65c_131_0 rfl (by first | assumption | exact hput_self _ _ _ | exact hnew_self _ _ _ | (rw [hput_ne _ _ _ (by first | assumption | omega | (apply Ne.symm; assumption))]; first | assumption | exact hput_self _ _ _ | exact hnew_self _ _ _ | (rw [hput_ne _ _ _ (by first | assumption | omega | (apply Ne.symm; assumption))]; first | assumption | exact hput_self _ _ _ | exact hnew_self _ _ _ | (rw [hput_ne _ _ _ (by first | assumption | omega | (apply Ne.symm; assumption))]; first | assumption | exact hput_self _ _ _ | exact hnew_self _ _ _) | (rw [hnew_ne _ _ _ (by first | assumption | omega | (apply Ne.symm; assumption))]; first | assumption | exact hput_self _ _ _ | exact hnew_self _ _ _)) | (rw [hnew_ne _ _ _ (by first | assumption | omega | (apply Ne.symm; assumption))]; first | assumption | exact hput_self _ _ _ | exact hnew_self _ _ _ | (rw [hput_ne _ _ _ (by first | assumption | omega | (apply Ne.symm; assumption))]; first | assumption | exact hput_self _ _ _ | exact hnew_self _ _ _) | (rw [hnew_ne _ _ _ (by first | assumption | omega | (apply Ne.symm; assumption))]; first | assumption | exact hput_self _ _ _ | exact hnew_self _ _ _))) | (rw [hnew_ne _ _ _ (by first | assumption | omega | (apply Ne.symm; assumption))]; first | assumption | exact hput_self _ _ _ | exact hnew_self _ _ _ | (rw [hput_ne _ _ _ (by first | assumption | omega | (apply Ne.symm; assumption))]; first | assumption | exact hput_self _ _ _ | exact hnew_self _ _ _ | (rw [hput_ne _ _ _ (by first | assumption | omega | (apply Ne.symm; assumption))]; first | assumption | exact hput_self _ _ _ | exact hnew_self _ _ _) | (rw [hnew_ne _ _ _ (by first | assumption | omega | (apply Ne.symm; assumption))]; first | assumption | exact hput_self _ _ _ | exact hnew_self _ _ _)) | (rw [hnew_ne _ _ _ (by first | assumption | omega | (apply Ne.symm; assumption))]; first | assumption | exact hput_self _ _ _ | exact hnew_self _ _ _ | (rw [hput_ne _ _ _ (by first | assumption | omega | (apply Ne.symm; assumption))]; first | assumption | exact hput_self _ _ _ | exact hnew_self _ _ _) | (rw [hnew_ne _ _ _ (by first | assumption | omega | (apply Ne.symm; assumption))]; first | assumption | exact hput_self _ _ _ | exact hnew_self _ _ _)))) rfl (Nat.le_of_ble_eq_true rfl) rfl ?_
  show Jx G mJx4a65c_add_72be8 (d + 5) _ 0 [some (.ref lo), some (.ref v), some (.ref ea), some (.int (nI xs.length))] [] _
  generalize hh1 : hput h lo (.inr (0, [.int (m + 1), .ref ea, .int (nI xs.length)])) = h1
  have e1 : h1.1 lo = some (.inr (0, [.int (m + 1), .ref ea, .int (nI xs.length)])) := by rw [← hh1]; exact hput_self _ _ _
  have e2 : h1.1 ea = some (.inl (3, cap, .inr (.inr (.inr (.inr f))))) := by rw [← hh1, hput_ne _ _ _ hne.symm]; exact he
  have e3 : h1.1 v = some (.inr (ci, fs)) := by rw [← hh1, hput_ne _ _ _ hvne]; exact hv
  have e4 : h1.2 = h.2 := by rw [← hh1]; rfl
  have e5 : ∀ y, elO h y → elO h1 y := by
    rintro y ⟨c0, f0, y1, y2⟩
    refine ⟨c0, f0, ?_, y2⟩
    rw [← hh1, hput_ne]
    · exact y1
    · intro e
      rw [e, hc] at y1
      cases y1
      obtain ⟨r, hr, hw⟩ := y2
      cases cl_0.symm.trans hr
      exact absurd hw (by decide +kernel)
  refine x_iload_n dJx4a65c_add_72be8_0 rfl ?_
  refine x_aload_n dJx4a65c_add_72be8_1 rfl rfl ?_
  refine x_alen dJx4a65c_add_72be8_2 (by first | assumption | exact hput_self _ _ _ | exact hnew_self _ _ _ | (rw [hput_ne _ _ _ (by first | assumption | omega | (apply Ne.symm; assumption))]; first | assumption | exact hput_self _ _ _ | exact hnew_self _ _ _ | (rw [hput_ne _ _ _ (by first | assumption | omega | (apply Ne.symm; assumption))]; first | assumption | exact hput_self _ _ _ | exact hnew_self _ _ _ | (rw [hput_ne _ _ _ (by first | assumption | omega | (apply Ne.symm; assumption))]; first | assumption | exact hput_self _ _ _ | exact hnew_self _ _ _) | (rw [hnew_ne _ _ _ (by first | assumption | omega | (apply Ne.symm; assumption))]; first | assumption | exact hput_self _ _ _ | exact hnew_self _ _ _)) | (rw [hnew_ne _ _ _ (by first | assumption | omega | (apply Ne.symm; assumption))]; first | assumption | exact hput_self _ _ _ | exact hnew_self _ _ _ | (rw [hput_ne _ _ _ (by first | assumption | omega | (apply Ne.symm; assumption))]; first | assumption | exact hput_self _ _ _ | exact hnew_self _ _ _) | (rw [hnew_ne _ _ _ (by first | assumption | omega | (apply Ne.symm; assumption))]; first | assumption | exact hput_self _ _ _ | exact hnew_self _ _ _))) | (rw [hnew_ne _ _ _ (by first | assumption | omega | (apply Ne.symm; assumption))]; first | assumption | exact hput_self _ _ _ | exact hnew_self _ _ _ | (rw [hput_ne _ _ _ (by first | assumption | omega | (apply Ne.symm; assumption))]; first | assumption | exact hput_self _ _ _ | exact hnew_self _ _ _ | (rw [hput_ne _ _ _ (by first | assumption | omega | (apply Ne.symm; assumption))]; first | assumption | exact hput_self _ _ _ | exact hnew_self _ _ _) | (rw [hnew_ne _ _ _ (by first | assumption | omega | (apply Ne.symm; assumption))]; first | assumption | exact hput_self _ _ _ | exact hnew_self _ _ _)) | (rw [hnew_ne _ _ _ (by first | assumption | omega | (apply Ne.symm; assumption))]; first | assumption | exact hput_self _ _ _ | exact hnew_self _ _ _ | (rw [hput_ne _ _ _ (by first | assumption | omega | (apply Ne.symm; assumption))]; first | assumption | exact hput_self _ _ _ | exact hnew_self _ _ _) | (rw [hnew_ne _ _ _ (by first | assumption | omega | (apply Ne.symm; assumption))]; first | assumption | exact hput_self _ _ _ | exact hnew_self _ _ _)))) (by decide) ?_
  refine x_icmp_ne (tgt := 11) dJx4a65c_add_72be8_3 (by decide) (fun c1 => ?_) (fun c1 => ?_)
  · have hlt : xs.length < cap := by
      rcases Nat.lt_or_ge xs.length cap with q | q
      · exact q
      · exact absurd (by rw [show xs.length = cap by omega]) c1
    have hbe : gb G ≤ ea := by
      rcases hZ with ⟨-, z⟩ | ⟨z, -⟩
      · omega
      · exact z
    refine add_tail e1 e2 hbe hlt (by omega) e3 ho (kc_n dr_4 ?_)
    refine x_iconst (v := 1) dJx4a65c_add_9ea2d_23 (by decide) ?_
    refine x_zreturn dJx4a65c_add_9ea2d_24 rfl (by first | rfl | assumption) ?_
    have hn1 : (hput (hput h1 ea (.inl (3, cap, .inr (.inr (.inr (.inr (va_up f xs.length (some v)))))))) lo (.inr (0, [.int (m + 1), .ref ea, .int (nI (xs.length + 1))]))).2 = h.2 := e4
    refine hq _ ea ⟨m + 1, cap, va_up f xs.length (some v), ?_, ?_, ?_, hcap, ?_, Or.inr ⟨hbe, ?_⟩⟩ ?_ (Or.inl rfl) ?_ ?_ ?_ ?_ hbe
    · rw [hput_self]; simp
    · rw [hput_ne _ _ _ hne.symm, hput_self]
    · simp; omega
    · intro i hi
      simp at hi
      by_cases hin : i = xs.length
      · subst hin
        simp [va_up_self]
      · rw [va_up_ne _ _ hin, hf i (by omega), List.getElem?_append_left (by omega)]
    · rcases hZ with ⟨-, z⟩ | ⟨-, z⟩ <;> omega
    · intro a ha h2 h3
      have h4 : a ≠ ea := by rcases h3 with z | z <;> omega
      rw [hput_ne _ _ _ h2, hput_ne _ _ _ h4, ← hh1, hput_ne _ _ _ h2]
    · rw [hn1]; omega
    · rw [hn1]; omega
    · rw [hn1]; omega
    · rw [hn1]; omega
  · have hfull : xs.length = cap := by
      have := (nI_eq (a := xs.length) (b := cap) (by omega) (by omega)).mp c1
      exact this
    refine x_aload_n dJx4a65c_add_72be8_6 rfl rfl ?_
    refine x_callV dJx4a65c_add_72be8_7 sv_Jx4a65c_129_0 rfl (by first | assumption | exact hput_self _ _ _ | exact hnew_self _ _ _ | (rw [hput_ne _ _ _ (by first | assumption | omega | (apply Ne.symm; assumption))]; first | assumption | exact hput_self _ _ _ | exact hnew_self _ _ _ | (rw [hput_ne _ _ _ (by first | assumption | omega | (apply Ne.symm; assumption))]; first | assumption | exact hput_self _ _ _ | exact hnew_self _ _ _ | (rw [hput_ne _ _ _ (by first | assumption | omega | (apply Ne.symm; assumption))]; first | assumption | exact hput_self _ _ _ | exact hnew_self _ _ _) | (rw [hnew_ne _ _ _ (by first | assumption | omega | (apply Ne.symm; assumption))]; first | assumption | exact hput_self _ _ _ | exact hnew_self _ _ _)) | (rw [hnew_ne _ _ _ (by first | assumption | omega | (apply Ne.symm; assumption))]; first | assumption | exact hput_self _ _ _ | exact hnew_self _ _ _ | (rw [hput_ne _ _ _ (by first | assumption | omega | (apply Ne.symm; assumption))]; first | assumption | exact hput_self _ _ _ | exact hnew_self _ _ _) | (rw [hnew_ne _ _ _ (by first | assumption | omega | (apply Ne.symm; assumption))]; first | assumption | exact hput_self _ _ _ | exact hnew_self _ _ _))) | (rw [hnew_ne _ _ _ (by first | assumption | omega | (apply Ne.symm; assumption))]; first | assumption | exact hput_self _ _ _ | exact hnew_self _ _ _ | (rw [hput_ne _ _ _ (by first | assumption | omega | (apply Ne.symm; assumption))]; first | assumption | exact hput_self _ _ _ | exact hnew_self _ _ _ | (rw [hput_ne _ _ _ (by first | assumption | omega | (apply Ne.symm; assumption))]; first | assumption | exact hput_self _ _ _ | exact hnew_self _ _ _) | (rw [hnew_ne _ _ _ (by first | assumption | omega | (apply Ne.symm; assumption))]; first | assumption | exact hput_self _ _ _ | exact hnew_self _ _ _)) | (rw [hnew_ne _ _ _ (by first | assumption | omega | (apply Ne.symm; assumption))]; first | assumption | exact hput_self _ _ _ | exact hnew_self _ _ _ | (rw [hput_ne _ _ _ (by first | assumption | omega | (apply Ne.symm; assumption))]; first | assumption | exact hput_self _ _ _ | exact hnew_self _ _ _) | (rw [hnew_ne _ _ _ (by first | assumption | omega | (apply Ne.symm; assumption))]; first | assumption | exact hput_self _ _ _ | exact hnew_self _ _ _)))) rfl (Nat.le_of_ble_eq_true rfl) rfl ?_
    show Jx G mJx4a65c_grow_d5877 (d + 4) _ 0 [some (.ref lo)] [] h1
    refine x_aload_n dJx4a65c_grow_d5877_0 rfl rfl ?_
    refine x_aload_n dJx4a65c_grow_d5877_1 rfl rfl ?_
    refine gf_Jx4a65c_48_0 rfl dJx4a65c_grow_d5877_2 (by first | assumption | exact hput_self _ _ _ | exact hnew_self _ _ _ | (rw [hput_ne _ _ _ (by first | assumption | omega | (apply Ne.symm; assumption))]; first | assumption | exact hput_self _ _ _ | exact hnew_self _ _ _ | (rw [hput_ne _ _ _ (by first | assumption | omega | (apply Ne.symm; assumption))]; first | assumption | exact hput_self _ _ _ | exact hnew_self _ _ _ | (rw [hput_ne _ _ _ (by first | assumption | omega | (apply Ne.symm; assumption))]; first | assumption | exact hput_self _ _ _ | exact hnew_self _ _ _) | (rw [hnew_ne _ _ _ (by first | assumption | omega | (apply Ne.symm; assumption))]; first | assumption | exact hput_self _ _ _ | exact hnew_self _ _ _)) | (rw [hnew_ne _ _ _ (by first | assumption | omega | (apply Ne.symm; assumption))]; first | assumption | exact hput_self _ _ _ | exact hnew_self _ _ _ | (rw [hput_ne _ _ _ (by first | assumption | omega | (apply Ne.symm; assumption))]; first | assumption | exact hput_self _ _ _ | exact hnew_self _ _ _) | (rw [hnew_ne _ _ _ (by first | assumption | omega | (apply Ne.symm; assumption))]; first | assumption | exact hput_self _ _ _ | exact hnew_self _ _ _))) | (rw [hnew_ne _ _ _ (by first | assumption | omega | (apply Ne.symm; assumption))]; first | assumption | exact hput_self _ _ _ | exact hnew_self _ _ _ | (rw [hput_ne _ _ _ (by first | assumption | omega | (apply Ne.symm; assumption))]; first | assumption | exact hput_self _ _ _ | exact hnew_self _ _ _ | (rw [hput_ne _ _ _ (by first | assumption | omega | (apply Ne.symm; assumption))]; first | assumption | exact hput_self _ _ _ | exact hnew_self _ _ _) | (rw [hnew_ne _ _ _ (by first | assumption | omega | (apply Ne.symm; assumption))]; first | assumption | exact hput_self _ _ _ | exact hnew_self _ _ _)) | (rw [hnew_ne _ _ _ (by first | assumption | omega | (apply Ne.symm; assumption))]; first | assumption | exact hput_self _ _ _ | exact hnew_self _ _ _ | (rw [hput_ne _ _ _ (by first | assumption | omega | (apply Ne.symm; assumption))]; first | assumption | exact hput_self _ _ _ | exact hnew_self _ _ _) | (rw [hnew_ne _ _ _ (by first | assumption | omega | (apply Ne.symm; assumption))]; first | assumption | exact hput_self _ _ _ | exact hnew_self _ _ _)))) ?_
    refine x_iconst (v := 1) dJx4a65c_grow_d5877_5 (by decide) ?_
    refine x_iadd dJx4a65c_grow_d5877_6 ?_
    rw [nI_1]
    refine x_callV dJx4a65c_grow_d5877_7 sv_Jx4a65c_69_0 rfl (by first | assumption | exact hput_self _ _ _ | exact hnew_self _ _ _ | (rw [hput_ne _ _ _ (by first | assumption | omega | (apply Ne.symm; assumption))]; first | assumption | exact hput_self _ _ _ | exact hnew_self _ _ _ | (rw [hput_ne _ _ _ (by first | assumption | omega | (apply Ne.symm; assumption))]; first | assumption | exact hput_self _ _ _ | exact hnew_self _ _ _ | (rw [hput_ne _ _ _ (by first | assumption | omega | (apply Ne.symm; assumption))]; first | assumption | exact hput_self _ _ _ | exact hnew_self _ _ _) | (rw [hnew_ne _ _ _ (by first | assumption | omega | (apply Ne.symm; assumption))]; first | assumption | exact hput_self _ _ _ | exact hnew_self _ _ _)) | (rw [hnew_ne _ _ _ (by first | assumption | omega | (apply Ne.symm; assumption))]; first | assumption | exact hput_self _ _ _ | exact hnew_self _ _ _ | (rw [hput_ne _ _ _ (by first | assumption | omega | (apply Ne.symm; assumption))]; first | assumption | exact hput_self _ _ _ | exact hnew_self _ _ _) | (rw [hnew_ne _ _ _ (by first | assumption | omega | (apply Ne.symm; assumption))]; first | assumption | exact hput_self _ _ _ | exact hnew_self _ _ _))) | (rw [hnew_ne _ _ _ (by first | assumption | omega | (apply Ne.symm; assumption))]; first | assumption | exact hput_self _ _ _ | exact hnew_self _ _ _ | (rw [hput_ne _ _ _ (by first | assumption | omega | (apply Ne.symm; assumption))]; first | assumption | exact hput_self _ _ _ | exact hnew_self _ _ _ | (rw [hput_ne _ _ _ (by first | assumption | omega | (apply Ne.symm; assumption))]; first | assumption | exact hput_self _ _ _ | exact hnew_self _ _ _) | (rw [hnew_ne _ _ _ (by first | assumption | omega | (apply Ne.symm; assumption))]; first | assumption | exact hput_self _ _ _ | exact hnew_self _ _ _)) | (rw [hnew_ne _ _ _ (by first | assumption | omega | (apply Ne.symm; assumption))]; first | assumption | exact hput_self _ _ _ | exact hnew_self _ _ _ | (rw [hput_ne _ _ _ (by first | assumption | omega | (apply Ne.symm; assumption))]; first | assumption | exact hput_self _ _ _ | exact hnew_self _ _ _) | (rw [hnew_ne _ _ _ (by first | assumption | omega | (apply Ne.symm; assumption))]; first | assumption | exact hput_self _ _ _ | exact hnew_self _ _ _)))) rfl (Nat.le_of_ble_eq_true rfl) rfl ?_
    have hz1 : h1.2.1 = h.2.1 := by rw [e4]
    have hz2 : h1.2.2 = h.2.2 := by rw [e4]
    rcases hZ with ⟨z1, z2⟩ | ⟨z1, z2⟩
    · subst z1
      subst z2
      rw [hfull]
      have hx0 : xs = [] := List.eq_nil_of_length_eq_zero hfull
      subst hx0
      refine c_grow0 e1 e2 (by rw [hz1]; exact hroom) (by rw [hz2]; omega) (kc_v dr_2 ?_)
      refine x_areturn dJx4a65c_grow_d5877_10 rfl (by first | exact Or.inl ⟨_, rfl⟩ | exact Or.inr ⟨_, rfl⟩) (by first | exact Or.inr ⟨_, rfl⟩ | exact Or.inl rfl | assumption) ?_
      refine kc_v dr_1 ?_
      refine y_astore_n dJx4a65c_add_72be8_10 rfl rfl lvs_4_2 ?_
      have hlo1 : lo ≠ h1.2.1 := by rw [hz1]; omega
      have hv1 : v ≠ h1.2.1 := by rw [hz1]; omega
      refine add_tail (cap := 10) (n := 0) (f := fun _ => none) (hput_self _ _ _) (by rw [hput_ne _ _ _ hlo1.symm]; exact hnew_self _ _ _) (by omega) (by omega) (by omega) (by rw [hput_ne _ _ _ hvne, hnew_ne _ _ _ hv1]; exact e3) ho (kc_n dr_4 ?_)
      refine x_iconst (v := 1) dJx4a65c_add_9ea2d_23 (by decide) ?_
      refine x_zreturn dJx4a65c_add_9ea2d_24 rfl (by first | rfl | assumption) ?_
      refine hq _ h1.2.1 ⟨m + 1, 10, va_up (fun _ => none) 0 (some v), ?_, ?_, ?_, by omega, ?_, Or.inr ⟨by omega, by omega⟩⟩ ?_ (Or.inr hz1) ?_ ?_ ?_ ?_ (by omega)
      · rw [hput_self]; simp
      · rw [hput_ne _ _ _ hlo1.symm, hput_self]
      · simp
      · intro i hi
        simp at hi
        subst hi
        simp [va_up_self]
      · intro a ha h2 h3
        have h4 : a ≠ h1.2.1 := by omega
        rw [hput_ne _ _ _ h2, hput_ne _ _ _ h4, hput_ne _ _ _ h2, hnew_ne _ _ _ h4, ← hh1, hput_ne _ _ _ h2]
      · show h.2.1 ≤ h1.2.1 + 1; omega
      · show h1.2.1 + 1 ≤ h.2.1 + 1; omega
      · show h.2.2 ≤ h1.2.2 + 10; omega
      · show h1.2.2 + 10 ≤ h.2.2 + 45; omega
    · rw [hfull]
      refine c_grow1 e1 e2 z1 (by omega) (by omega) (fun i hi y hy => ?_) (by rw [hz1]; exact hroom) (by rw [hz2]; omega) (kc_v dr_2 ?_)
      · refine e5 y (hel y ?_)
        rw [hf i (by omega)] at hy
        exact List.mem_of_getElem? hy
      refine x_areturn dJx4a65c_grow_d5877_10 rfl (by first | exact Or.inl ⟨_, rfl⟩ | exact Or.inr ⟨_, rfl⟩) (by first | exact Or.inr ⟨_, rfl⟩ | exact Or.inl rfl | assumption) ?_
      refine kc_v dr_1 ?_
      refine y_astore_n dJx4a65c_add_72be8_10 rfl rfl lvs_4_2 ?_
      rw [hfull]
      have hlo1 : lo ≠ h1.2.1 := by rw [hz1]; omega
      have hv1 : v ≠ h1.2.1 := by rw [hz1]; omega
      refine add_tail (cap := cap + cap / 2) (n := cap) (f := va_cpy f (fun _ => none) 0 0 cap) (hput_self _ _ _) (by rw [hput_ne _ _ _ hlo1.symm]; exact hnew_self _ _ _) (by omega) (by omega) (by omega) (by rw [hput_ne _ _ _ hvne, hnew_ne _ _ _ hv1]; exact e3) ho (kc_n dr_4 ?_)
      refine x_iconst (v := 1) dJx4a65c_add_9ea2d_23 (by decide) ?_
      refine x_zreturn dJx4a65c_add_9ea2d_24 rfl (by first | rfl | assumption) ?_
      refine hq _ h1.2.1 ⟨m + 1, cap + cap / 2, va_up (va_cpy f (fun _ => none) 0 0 cap) cap (some v), ?_, ?_, ?_, by omega, ?_, Or.inr ⟨by omega, by omega⟩⟩ ?_ (Or.inr hz1) ?_ ?_ ?_ ?_ (by omega)
      · rw [hput_self]; simp [hfull]
      · rw [hput_ne _ _ _ hlo1.symm, hput_self]
      · simp; omega
      · intro i hi
        simp at hi
        by_cases hin : i = cap
        · subst hin
          rw [va_up_self, List.getElem?_append_right (by omega)]
          simp [hfull]
        · rw [va_up_ne _ _ hin, pk_cpy_in (by omega) (by omega), List.getElem?_append_left (by omega)]
          have := hf i (by omega)
          rw [← this]
          congr 1
          omega
      · intro a ha h2 h3
        have h4 : a ≠ h1.2.1 := by omega
        rw [hput_ne _ _ _ h2, hput_ne _ _ _ h4, hput_ne _ _ _ h2, hnew_ne _ _ _ h4, ← hh1, hput_ne _ _ _ h2]
      · show h.2.1 ≤ h1.2.1 + 1; omega
      · show h1.2.1 + 1 ≤ h.2.1 + 1; omega
      · show h.2.2 ≤ h1.2.2 + (cap + cap / 2); omega
      · show h1.2.2 + (cap + cap / 2) ≤ h.2.2 + 45; omega
end LIST3X
