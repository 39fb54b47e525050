def uz : Ut := (fun _ => [], fun _ => 0, fun _ => 0, fun _ => 0, fun _ => 0, fun _ => [], fun _ => [], fun _ => false, fun _ => none, fun _ => 0, fun _ => 0, fun _ => 0, fun _ => 0, fun _ => 0, fun _ _ => 0, fun _ => [])
def u0 : Ut := clrU (clrU uz 0) 1
theorem u0_is : u0 = (va_up (va_up (fun _ => []) 0 []) 1 [], va_up (va_up (fun _ => 0) 0 (nI 0)) 1 (nI 0), va_up (va_up (fun _ => 0) 0 (nI 1000)) 1 (nI 1000), va_up (va_up (fun _ => 0) 0 (nI 0)) 1 (nI 1), va_up (va_up (fun _ => 0) 0 (nI (0 + 1))) 1 (nI (1 + 1)), va_up (va_up (fun _ => []) 0 []) 1 [], va_up (va_up (fun _ => []) 0 []) 1 [], va_up (va_up (fun _ => false) 0 false) 1 false, va_up (va_up (fun _ => none) 0 none) 1 none, fun _ => 0, fun _ => 0, fun _ => 0, va_up (va_up (fun _ => 0) 0 0) 1 0, va_up (va_up (fun _ => 0) 0 0) 1 0, fun _ _ => 0, va_up (va_up (fun _ => []) 0 []) 1 []) := by
  rw [u0, clrU_is, clrU_is]
  rfl
section I2X
variable {G : GT} {d : Nat} {Q : Outcome → Hp → Prop} {h : Hp}
theorem RA.start {x : Nat} (hg : gb G ≤ x) (hzb : gZ G < gb G) (hz : x + 13 ≤ h.2.1) (hx : h.1 x = some (.inr (9, [.ref (x + 1), .ref (x + 3), .ref (x + 5), .ref (x + 9)]))) (f0 : h.1 (x + 1) = some (.inr (4, [.ref (x + 2)]))) (f1 : h.1 (x + 3) = some (.inr (4, [.ref (x + 4)])))
    (p0 : h.1 (x + 5) = some (.inr (6, [.int (nI 0), .ref (x + 3), .ref (x + 6), .int (nI 0), .int (nI 0), .int (nI 1000), .int (nI 0), .int (nI (0 + 1)), .ref (x + 7), .ref (x + 8), .null, .int 0, .int 0, .int 0, .int (nI 0), .int (nI 0), .null, .int (nI 0)])))
    (p1 : h.1 (x + 9) = some (.inr (6, [.int (nI 1), .ref (x + 1), .ref (x + 10), .int (nI 0), .int (nI 0), .int (nI 1000), .int (nI 1), .int (nI (1 + 1)), .ref (x + 11), .ref (x + 12), .null, .int 0, .int 0, .int 0, .int (nI 0), .int (nI 0), .null, .int (nI 0)])))
    (s0 : h.1 (x + 6) = some (.inl (0, 4, .inl (fun _ => 0)))) (s1 : h.1 (x + 10) = some (.inl (0, 4, .inl (fun _ => 0))))
    (l2 : Lx G h (x + 2) (gZ G) []) (l4 : Lx G h (x + 4) (gZ G) []) (l7 : Lx G h (x + 7) (gZ G) []) (l8 : Lx G h (x + 8) (gZ G) []) (l11 : Lx G h (x + 11) (gZ G) []) (l12 : Lx G h (x + 12) (gZ G) []) : RA G h x (x + 13) u0 (fun _ _ => gZ G) (fun _ _ => []) (fun _ => none) (fun _ => none) (fun _ _ => 0) := by
  rw [u0_is]
  refine ⟨hg, by omega, hz, hx, fun p hp => ?_, fun p hp => ?_, fun p hp => ?_, fun c p hc hp => ⟨?_, Or.inl hzb, fun c' p' hc' hp' hn he => hzb⟩, fun p hp => ?_, fun p hp => ?_, fun p hp => ?_, fun p hp => ?_, fun p hp => ?_, fun p hp => Or.inl rfl⟩
  · rcases (show p = 0 ∨ p = 1 by omega) with rfl | rfl
    · exact f0
    · exact f1
  · rcases (show p = 0 ∨ p = 1 by omega) with rfl | rfl
    · exact p0
    · exact p1
  · rcases (show p = 0 ∨ p = 1 by omega) with rfl | rfl
    · exact s0
    · exact s1
  · rcases (show p = 0 ∨ p = 1 by omega) with rfl | rfl <;> rcases (show c = 0 ∨ c = 1 ∨ c = 2 by omega) with rfl | rfl | rfl
    · exact l2
    · exact l7
    · exact l8
    · exact l4
    · exact l11
    · exact l12
  · rcases (show p = 0 ∨ p = 1 by omega) with rfl | rfl
    · exact ⟨Nat.zero_le _, fun k y hy => by cases hy⟩
    · exact ⟨Nat.zero_le _, fun k y hy => by cases hy⟩
  · rcases (show p = 0 ∨ p = 1 by omega) with rfl | rfl <;> exact L2.nil
  · rcases (show p = 0 ∨ p = 1 by omega) with rfl | rfl <;> exact L2.nil
  · rcases (show p = 0 ∨ p = 1 by omega) with rfl | rfl <;> exact L2.nil
  · rcases (show p = 0 ∨ p = 1 by omega) with rfl | rfl <;> exact Or.inl ⟨rfl, rfl⟩
theorem RA.rez {x z z' : Nat} {sf : Nat → Nat → Int32} (hA : RA G h x z u0 (fun _ _ => gZ G) (fun _ _ => []) (fun _ => none) (fun _ => none) sf) (hzb : gZ G < gb G) (h1 : x + 12 < z') (h2 : z' ≤ h.2.1) : RA G h x z' u0 (fun _ _ => gZ G) (fun _ _ => []) (fun _ => none) (fun _ => none) sf := by
  have e1 : ∀ p, p < 2 → u0.fl p = [] := fun p hp => by rw [u0_is]; rcases (show p = 0 ∨ p = 1 by omega) with rfl | rfl <;> rfl
  have e2 : ∀ p, p < 2 → u0.ki p = [] := fun p hp => by rw [u0_is]; rcases (show p = 0 ∨ p = 1 by omega) with rfl | rfl <;> rfl
  have e3 : ∀ p, p < 2 → u0.wi p = [] := fun p hp => by rw [u0_is]; rcases (show p = 0 ∨ p = 1 by omega) with rfl | rfl <;> rfl
  have e4 : ∀ p, p < 2 → u0.ou p = none := fun p hp => by rw [u0_is]; rcases (show p = 0 ∨ p = 1 by omega) with rfl | rfl <;> rfl
  exact ⟨hA.gx, h1, h2, hA.ob, fun p hp => hA.f hp, fun p hp => hA.pe hp, fun p hp => hA.s hp, fun c p hc hp => ⟨hA.l hc hp, Or.inl hzb, fun c' p' hc' hp' hn he => hzb⟩, fun p hp => hA.su hp, fun p hp => by rw [e1 p hp]; exact L2.nil, fun p hp => by rw [e2 p hp]; exact L2.nil, fun p hp => by rw [e3 p hp]; exact L2.nil, fun p hp => Or.inl ⟨rfl, e4 p hp⟩, fun p hp => Or.inl rfl⟩
theorem lv_start : lvOK (fun _ => none) u0 := by
  intro q hq
  rw [show u0.na q = 0 from clr_na uz q hq]
  exact ⟨fun _ => rfl, fun _ => rfl⟩
theorem i_obj_42 {g : Nat → Option Ee} {x s0 : Nat} {fz : Nat → Option Nat} (hC : x + 30 ≤ gC G) (hS : s0 + 200 ≤ gS G) (hg : gb G ≤ x) (hzb : gZ G < gb G) (hZ : g (gZ G) = some (.inl (3, 0, .inr (.inr (.inr (.inr fz)))))) (hx : h.1 x = some (.inr (9, [.ref (x + 1), .ref (x + 3), .ref (x + 5), .null]))) (hf : ∀ a, a < x → h.1 a = g a) (hz : h.2.1 = x + 9) (hs : h.2.2 = s0 + 36) (f0 : h.1 (x + 1) = some (.inr (4, [.ref (x + 2)]))) (l2 : Lx G h (x + 2) (gZ G) []) (f1 : h.1 (x + 3) = some (.inr (4, [.ref (x + 4)]))) (l4 : Lx G h (x + 4) (gZ G) []) (p0 : h.1 (x + 5) = some (.inr (6, [.int (nI 0), .ref (x + 3), .ref (x + 6), .int (nI 0), .int (nI 0), .int (nI 1000), .int (nI 0), .int (nI (0 + 1)), .ref (x + 7), .ref (x + 8), .null, .int 0, .int 0, .int 0, .int (nI 0), .int (nI 0), .null, .int (nI 0)]))) (s0r : h.1 (x + 6) = some (.inl (0, 4, .inl (fun _ => 0)))) (l7 : Lx G h (x + 7) (gZ G) []) (l8 : Lx G h (x + 8) (gZ G) []) (hq : ∀ h', RA G h' x (x + 13) u0 (fun _ _ => gZ G) (fun _ _ => []) (fun _ => none) (fun _ => none) (fun _ _ => 0) → (∀ a, a < x → h'.1 a = g a) → h'.2.1 = x + 13 → h'.2.2 = s0 + 64 → Q (.returned none) h') : Jx G mX9_init (d + 5) Q 42 [some (.ref x)] [] h := by
  refine x_aload_n dX9_init_42 rfl rfl ?_
  refine nw_X9_19 rfl dX9_init_43 (by omega) (by omega) ?_
  rw [hz]
  have zg : (hnew h (.inr (6, [.int 0, .null, .null, .int 0, .int 0, .int 0, .int 0, .int 0, .null, .null, .null, .int 0, .int 0, .int 0, .int 0, .int 0, .null, .int 0])) 18).2.1 = x + 10 := by show h.2.1 + 1 = _; omega
  have yg : (hnew h (.inr (6, [.int 0, .null, .null, .int 0, .int 0, .int 0, .int 0, .int 0, .null, .null, .null, .int 0, .int 0, .int 0, .int 0, .int 0, .null, .int 0])) 18).2.2 = s0 + 54 := by show h.2.2 + 18 = _; omega
  have fg : ∀ a, a < x + 9 → (hnew h (.inr (6, [.int 0, .null, .null, .int 0, .int 0, .int 0, .int 0, .int 0, .null, .null, .null, .int 0, .int 0, .int 0, .int 0, .int 0, .null, .int 0])) 18).1 a = h.1 a := fun a ha => hnew_ne _ _ _ (by omega)
  have cg : (hnew h (.inr (6, [.int 0, .null, .null, .int 0, .int 0, .int 0, .int 0, .int 0, .null, .null, .null, .int 0, .int 0, .int 0, .int 0, .int 0, .null, .int 0])) 18).1 (x + 9) = some (.inr (6, [.int 0, .null, .null, .int 0, .int 0, .int 0, .int 0, .int 0, .null, .null, .null, .int 0, .int 0, .int 0, .int 0, .int 0, .null, .int 0])) := by rw [← hz]; exact hnew_self _ _ _
  generalize hnew h (.inr (6, [.int 0, .null, .null, .int 0, .int 0, .int 0, .int 0, .int 0, .null, .null, .null, .int 0, .int 0, .int 0, .int 0, .int 0, .null, .int 0])) 18 = gg at zg yg fg cg ⊢
  have cgx := (fg x (by omega)).trans hx
  have hZ3 : gg.1 (gZ G) = some (.inl (3, 0, .inr (.inr (.inr (.inr fz))))) := (fg _ (by omega)).trans ((hf _ (by omega)).trans hZ)
  refine x_dup dX9_init_46 rfl ?_
  refine x_iconst (v := nI 1) dX9_init_47 (by decide) ?_
  refine x_aload_n dX9_init_48 rfl rfl ?_
  refine gf_X9_10_9 rfl dX9_init_49 (by first | exact hA.pe hp | exact hA.f (by omega) | exact hA.ob | first | assumption | exact hput_self _ _ _ | exact hnew_self _ _ _ | (rw [hput_ne _ _ _ (by first | assumption | omega | (apply Ne.symm; assumption))]; first | assumption | exact hput_self _ _ _ | exact hnew_self _ _ _ | (rw [hput_ne _ _ _ (by first | assumption | omega | (apply Ne.symm; assumption))]; first | assumption | exact hput_self _ _ _ | exact hnew_self _ _ _) | (rw [hnew_ne _ _ _ (by first | assumption | omega | (apply Ne.symm; assumption))]; first | assumption | exact hput_self _ _ _ | exact hnew_self _ _ _)) | (rw [hnew_ne _ _ _ (by first | assumption | omega | (apply Ne.symm; assumption))]; first | assumption | exact hput_self _ _ _ | exact hnew_self _ _ _ | (rw [hput_ne _ _ _ (by first | assumption | omega | (apply Ne.symm; assumption))]; first | assumption | exact hput_self _ _ _ | exact hnew_self _ _ _) | (rw [hnew_ne _ _ _ (by first | assumption | omega | (apply Ne.symm; assumption))]; first | assumption | exact hput_self _ _ _ | exact hnew_self _ _ _))) ?_
  refine x_callI dX9_init_52 si_X9_21 rfl rfl (Nat.le_of_ble_eq_true rfl) rfl ?_
  refine i_peer (p := 1) (fz := fz) cg (by omega) (by omega) hZ3 hzb ⟨by omega, by omega⟩ (fun h4 t1 t2 t3 t4 t5 t6 t7 => kc_n dr_3 ?_)
  rw [zg] at t1 t2 t3 t4 t5 t6
  refine pf_X9_28_9 rfl dX9_init_55 ((t5 x (by omega) (by omega)).trans cgx) rfl rfl rfl ?_
  have fh : ∀ a, a ≠ x → (hput h4 x (.inr (9, [.ref (x + 1), .ref (x + 3), .ref (x + 5), .ref (x + 9)]))).1 a = h4.1 a := fun a ha => hput_ne _ _ _ ha
  have e4 : ∀ a, a ≠ x → a < x + 9 → (hput h4 x (.inr (9, [.ref (x + 1), .ref (x + 3), .ref (x + 5), .ref (x + 9)]))).1 a = h.1 a := fun a a1 a3 => by rw [fh a a1, t5 a (by omega) (by omega), fg a a3]
  refine x_vreturn dX9_init_58 rfl ?_
  refine hq _ (RA.start hg hzb ?_ (hput_self _ _ _) ((e4 _ (by omega) (by omega)).trans f0) ((e4 _ (by omega) (by omega)).trans f1) ((e4 _ (by omega) (by omega)).trans p0) ((fh _ (by omega)).trans t1) ((e4 _ (by omega) (by omega)).trans s0r) ((fh _ (by omega)).trans t2) (l2.kept (e4 _ (by omega) (by omega)) (e4 _ (by omega) (by omega))) (l4.kept (e4 _ (by omega) (by omega)) (e4 _ (by omega) (by omega))) (l7.kept (e4 _ (by omega) (by omega)) (e4 _ (by omega) (by omega))) (l8.kept (e4 _ (by omega) (by omega)) (e4 _ (by omega) (by omega))) (t3.kept (fh _ (by omega)) (fh _ (by omega))) (t4.kept (fh _ (by omega)) (fh _ (by omega)))) (fun a ha => (e4 a (by omega) (by omega)).trans (hf a ha)) t6 ?_
  · show x + 13 ≤ h4.2.1
    omega
  · show h4.2.2 = _
    omega
theorem i_obj_26 {g : Nat → Option Ee} {x s0 : Nat} {fz : Nat → Option Nat} (hC : x + 30 ≤ gC G) (hS : s0 + 200 ≤ gS G) (hg : gb G ≤ x) (hzb : gZ G < gb G) (hZ : g (gZ G) = some (.inl (3, 0, .inr (.inr (.inr (.inr fz)))))) (hx : h.1 x = some (.inr (9, [.ref (x + 1), .ref (x + 3), .null, .null]))) (hf : ∀ a, a < x → h.1 a = g a) (hz : h.2.1 = x + 5) (hs : h.2.2 = s0 + 8) (f0 : h.1 (x + 1) = some (.inr (4, [.ref (x + 2)]))) (l2 : Lx G h (x + 2) (gZ G) []) (f1 : h.1 (x + 3) = some (.inr (4, [.ref (x + 4)]))) (l4 : Lx G h (x + 4) (gZ G) []) (hq : ∀ h', RA G h' x (x + 13) u0 (fun _ _ => gZ G) (fun _ _ => []) (fun _ => none) (fun _ => none) (fun _ _ => 0) → (∀ a, a < x → h'.1 a = g a) → h'.2.1 = x + 13 → h'.2.2 = s0 + 64 → Q (.returned none) h') : Jx G mX9_init (d + 5) Q 26 [some (.ref x)] [] h := by
  refine x_aload_n dX9_init_26 rfl rfl ?_
  refine nw_X9_19 rfl dX9_init_27 (by omega) (by omega) ?_
  rw [hz]
  have zg : (hnew h (.inr (6, [.int 0, .null, .null, .int 0, .int 0, .int 0, .int 0, .int 0, .null, .null, .null, .int 0, .int 0, .int 0, .int 0, .int 0, .null, .int 0])) 18).2.1 = x + 6 := by show h.2.1 + 1 = _; omega
  have yg : (hnew h (.inr (6, [.int 0, .null, .null, .int 0, .int 0, .int 0, .int 0, .int 0, .null, .null, .null, .int 0, .int 0, .int 0, .int 0, .int 0, .null, .int 0])) 18).2.2 = s0 + 26 := by show h.2.2 + 18 = _; omega
  have fg : ∀ a, a < x + 5 → (hnew h (.inr (6, [.int 0, .null, .null, .int 0, .int 0, .int 0, .int 0, .int 0, .null, .null, .null, .int 0, .int 0, .int 0, .int 0, .int 0, .null, .int 0])) 18).1 a = h.1 a := fun a ha => hnew_ne _ _ _ (by omega)
  have cg : (hnew h (.inr (6, [.int 0, .null, .null, .int 0, .int 0, .int 0, .int 0, .int 0, .null, .null, .null, .int 0, .int 0, .int 0, .int 0, .int 0, .null, .int 0])) 18).1 (x + 5) = some (.inr (6, [.int 0, .null, .null, .int 0, .int 0, .int 0, .int 0, .int 0, .null, .null, .null, .int 0, .int 0, .int 0, .int 0, .int 0, .null, .int 0])) := by rw [← hz]; exact hnew_self _ _ _
  generalize hnew h (.inr (6, [.int 0, .null, .null, .int 0, .int 0, .int 0, .int 0, .int 0, .null, .null, .null, .int 0, .int 0, .int 0, .int 0, .int 0, .null, .int 0])) 18 = gg at zg yg fg cg ⊢
  have cgx := (fg x (by omega)).trans hx
  have hZ3 : gg.1 (gZ G) = some (.inl (3, 0, .inr (.inr (.inr (.inr fz))))) := (fg _ (by omega)).trans ((hf _ (by omega)).trans hZ)
  refine x_dup dX9_init_30 rfl ?_
  refine x_iconst (v := nI 0) dX9_init_31 (by decide) ?_
  refine x_aload_n dX9_init_32 rfl rfl ?_
  refine gf_X9_16_9 rfl dX9_init_33 (by first | exact hA.pe hp | exact hA.f (by omega) | exact hA.ob | first | assumption | exact hput_self _ _ _ | exact hnew_self _ _ _ | (rw [hput_ne _ _ _ (by first | assumption | omega | (apply Ne.symm; assumption))]; first | assumption | exact hput_self _ _ _ | exact hnew_self _ _ _ | (rw [hput_ne _ _ _ (by first | assumption | omega | (apply Ne.symm; assumption))]; first | assumption | exact hput_self _ _ _ | exact hnew_self _ _ _) | (rw [hnew_ne _ _ _ (by first | assumption | omega | (apply Ne.symm; assumption))]; first | assumption | exact hput_self _ _ _ | exact hnew_self _ _ _)) | (rw [hnew_ne _ _ _ (by first | assumption | omega | (apply Ne.symm; assumption))]; first | assumption | exact hput_self _ _ _ | exact hnew_self _ _ _ | (rw [hput_ne _ _ _ (by first | assumption | omega | (apply Ne.symm; assumption))]; first | assumption | exact hput_self _ _ _ | exact hnew_self _ _ _) | (rw [hnew_ne _ _ _ (by first | assumption | omega | (apply Ne.symm; assumption))]; first | assumption | exact hput_self _ _ _ | exact hnew_self _ _ _))) ?_
  refine x_callI dX9_init_36 si_X9_21 rfl rfl (Nat.le_of_ble_eq_true rfl) rfl ?_
  refine i_peer (p := 0) (fz := fz) cg (by omega) (by omega) hZ3 hzb ⟨by omega, by omega⟩ (fun h4 t1 t2 t3 t4 t5 t6 t7 => kc_n dr_3 ?_)
  rw [zg] at t1 t2 t3 t4 t5 t6
  refine pf_X9_24_9 rfl dX9_init_39 ((t5 x (by omega) (by omega)).trans cgx) rfl rfl rfl ?_
  have fh : ∀ a, a ≠ x → (hput h4 x (.inr (9, [.ref (x + 1), .ref (x + 3), .ref (x + 5), .null]))).1 a = h4.1 a := fun a ha => hput_ne _ _ _ ha
  have e4 : ∀ a, a ≠ x → a < x + 5 → (hput h4 x (.inr (9, [.ref (x + 1), .ref (x + 3), .ref (x + 5), .null]))).1 a = h.1 a := fun a a1 a3 => by rw [fh a a1, t5 a (by omega) (by omega), fg a a3]
  refine i_obj_42 hC hS hg hzb hZ (hput_self _ _ _) (fun a ha => (e4 a (by omega) (by omega)).trans (hf a ha)) t6 ?_ ((e4 _ (by omega) (by omega)).trans f0) (l2.kept (e4 _ (by omega) (by omega)) (e4 _ (by omega) (by omega))) ((e4 _ (by omega) (by omega)).trans f1) (l4.kept (e4 _ (by omega) (by omega)) (e4 _ (by omega) (by omega))) ((fh _ (by omega)).trans t1) ((fh _ (by omega)).trans t2) (t3.kept (fh _ (by omega)) (fh _ (by omega))) (t4.kept (fh _ (by omega)) (fh _ (by omega))) hq
  show h4.2.2 = _
  omega
theorem i_obj_15 {g : Nat → Option Ee} {x s0 : Nat} {fz : Nat → Option Nat} (hC : x + 30 ≤ gC G) (hS : s0 + 200 ≤ gS G) (hg : gb G ≤ x) (hzb : gZ G < gb G) (hZ : g (gZ G) = some (.inl (3, 0, .inr (.inr (.inr (.inr fz)))))) (hx : h.1 x = some (.inr (9, [.ref (x + 1), .null, .null, .null]))) (hf : ∀ a, a < x → h.1 a = g a) (hz : h.2.1 = x + 3) (hs : h.2.2 = s0 + 4) (f0 : h.1 (x + 1) = some (.inr (4, [.ref (x + 2)]))) (l2 : Lx G h (x + 2) (gZ G) []) (hq : ∀ h', RA G h' x (x + 13) u0 (fun _ _ => gZ G) (fun _ _ => []) (fun _ => none) (fun _ => none) (fun _ _ => 0) → (∀ a, a < x → h'.1 a = g a) → h'.2.1 = x + 13 → h'.2.2 = s0 + 64 → Q (.returned none) h') : Jx G mX9_init (d + 5) Q 15 [some (.ref x)] [] h := by
  refine x_aload_n dX9_init_15 rfl rfl ?_
  refine nw_X9_7 rfl dX9_init_16 (by omega) (by omega) ?_
  refine x_dup dX9_init_19 rfl ?_
  refine x_callIN dX9_init_20 si_X9_9 rfl rfl (Nat.le_of_ble_eq_true rfl) rfl ?_
  rw [hz]
  have zc : (hnew h (.inr (4, [.null])) 1).2.1 = x + 4 := by show h.2.1 + 1 = _; omega
  have yc : (hnew h (.inr (4, [.null])) 1).2.2 = s0 + 5 := by show h.2.2 + 1 = _; omega
  have fc : ∀ a, a < x + 3 → (hnew h (.inr (4, [.null])) 1).1 a = h.1 a := fun a ha => hnew_ne _ _ _ (by omega)
  have cc : (hnew h (.inr (4, [.null])) 1).1 (x + 3) = some (.inr (4, [.null])) := by rw [← hz]; exact hnew_self _ _ _
  generalize hnew h (.inr (4, [.null])) 1 = gc at zc yc fc cc ⊢
  refine i_flight (fz := fz) cc (by omega) (by omega) ((fc _ (by omega)).trans ((hf _ (by omega)).trans hZ)) hzb ⟨by omega, by omega⟩ (fun h2 w1 w2 w3 w4 w5 => kc_n dr_1 ?_)
  rw [zc] at w1 w2 w3 w4
  refine pf_X9_16_9 rfl dX9_init_23 ((w3 x (by omega) (by omega)).trans ((fc x (by omega)).trans hx)) rfl rfl rfl ?_
  have fh : ∀ a, a ≠ x → (hput h2 x (.inr (9, [.ref (x + 1), .ref (x + 3), .null, .null]))).1 a = h2.1 a := fun a ha => hput_ne _ _ _ ha
  have e4 : ∀ a, a ≠ x → a < x + 3 → (hput h2 x (.inr (9, [.ref (x + 1), .ref (x + 3), .null, .null]))).1 a = h.1 a := fun a a1 a3 => by rw [fh a a1, w3 a (by omega) (by omega), fc a a3]
  refine i_obj_26 hC hS hg hzb hZ (hput_self _ _ _) (fun a ha => (e4 a (by omega) (by omega)).trans (hf a ha)) w4 ?_ ((e4 _ (by omega) (by omega)).trans f0) (l2.kept (e4 _ (by omega) (by omega)) (e4 _ (by omega) (by omega))) ((fh _ (by omega)).trans w1) (w2.kept (fh _ (by omega)) (fh _ (by omega))) hq
  show h2.2.2 = _
  omega
theorem i_obj {g : Nat → Option Ee} {x s0 : Nat} {fz : Nat → Option Nat} (hC : x + 30 ≤ gC G) (hS : s0 + 200 ≤ gS G) (hg : gb G ≤ x) (hzb : gZ G < gb G) (hZ : g (gZ G) = some (.inl (3, 0, .inr (.inr (.inr (.inr fz)))))) (hx : h.1 x = some (.inr (9, [.null, .null, .null, .null]))) (hf : ∀ a, a < x → h.1 a = g a) (hz : h.2.1 = x + 1) (hs : h.2.2 = s0) (hq : ∀ h', RA G h' x (x + 13) u0 (fun _ _ => gZ G) (fun _ _ => []) (fun _ => none) (fun _ => none) (fun _ _ => 0) → (∀ a, a < x → h'.1 a = g a) → h'.2.1 = x + 13 → h'.2.2 = s0 + 64 → Q (.returned none) h') : Cx G mX9_init (d + 5) [.ref x] h Q := by
  show Jx G mX9_init (d + 5) Q 0 [some (.ref x)] [] h
  refine x_aload_n dX9_init_0 rfl rfl ?_
  refine x_objInit dX9_init_1 so_X9_1 wo_inst wo_code (by omega) (Nat.le_of_ble_eq_true rfl) ?_
  refine x_aload_n dX9_init_4 rfl rfl ?_
  refine nw_X9_7 rfl dX9_init_5 (by omega) (by omega) ?_
  refine x_dup dX9_init_8 rfl ?_
  refine x_callIN dX9_init_9 si_X9_9 rfl rfl (Nat.le_of_ble_eq_true rfl) rfl ?_
  rw [hz]
  have zc : (hnew h (.inr (4, [.null])) 1).2.1 = x + 2 := by show h.2.1 + 1 = _; omega
  have yc : (hnew h (.inr (4, [.null])) 1).2.2 = s0 + 1 := by show h.2.2 + 1 = _; omega
  have fc : ∀ a, a < x + 1 → (hnew h (.inr (4, [.null])) 1).1 a = h.1 a := fun a ha => hnew_ne _ _ _ (by omega)
  have cc : (hnew h (.inr (4, [.null])) 1).1 (x + 1) = some (.inr (4, [.null])) := by rw [← hz]; exact hnew_self _ _ _
  generalize hnew h (.inr (4, [.null])) 1 = gc at zc yc fc cc ⊢
  refine i_flight (fz := fz) cc (by omega) (by omega) ((fc _ (by omega)).trans ((hf _ (by omega)).trans hZ)) hzb ⟨by omega, by omega⟩ (fun h2 w1 w2 w3 w4 w5 => kc_n dr_1 ?_)
  rw [zc] at w1 w2 w3 w4
  refine pf_X9_10_9 rfl dX9_init_12 ((w3 x (by omega) (by omega)).trans ((fc x (by omega)).trans hx)) rfl rfl rfl ?_
  have fh : ∀ a, a ≠ x → (hput h2 x (.inr (9, [.ref (x + 1), .null, .null, .null]))).1 a = h2.1 a := fun a ha => hput_ne _ _ _ ha
  refine i_obj_15 hC hS hg hzb hZ (hput_self _ _ _) (fun a ha => ?_) w4 ?_ ((fh _ (by omega)).trans w1) (w2.kept (fh _ (by omega)) (fh _ (by omega))) hq
  · rw [fh a (by omega), w3 a (by omega) (by omega), fc a (by omega)]
    exact hf a ha
  · show h2.2.2 = _
    omega
end I2X
