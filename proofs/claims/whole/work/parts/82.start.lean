section STX
variable {G : GT} {Q : Outcome → Hp → Prop} {h : Hp} {b L : Nat} {xs : Nat → Int32} {nm : String} {hs : List (Nat × Nat × Nat × Nat)}
theorem RA.move {h h' : Hp} {x z z' : Nat} {sf : Nat → Nat → Int32} (hA : RA G h x z u0 (fun _ _ => gZ G) (fun _ _ => []) (fun _ => none) (fun _ => none) sf) (hzb : gZ G < gb G) (hf : ∀ a, a < x + 13 → h'.1 a = h.1 a) (h1 : x + 12 < z') (h2 : z' ≤ h'.2.1) : RA G h' x z' u0 (fun _ _ => gZ G) (fun _ _ => []) (fun _ => none) (fun _ => none) sf := by
  have hg := hA.gx
  have e1 : ∀ p, p < 2 → u0.fl p = [] := fun p hp => by rw [u0_is]; rcases (show p = 0 ∨ p = 1 by omega) with rfl | rfl <;> rfl
  have e2 : ∀ p, p < 2 → u0.ki p = [] := fun p hp => by rw [u0_is]; rcases (show p = 0 ∨ p = 1 by omega) with rfl | rfl <;> rfl
  have e3 : ∀ p, p < 2 → u0.wi p = [] := fun p hp => by rw [u0_is]; rcases (show p = 0 ∨ p = 1 by omega) with rfl | rfl <;> rfl
  have e4 : ∀ p, p < 2 → u0.ou p = none := fun p hp => by rw [u0_is]; rcases (show p = 0 ∨ p = 1 by omega) with rfl | rfl <;> rfl
  exact ⟨hg, h1, h2, (hf x (by omega)).trans hA.ob, fun p hp => (hf _ (by simp only [aF]; omega)).trans (hA.f hp), fun p hp => (hf _ (by simp only [aP]; omega)).trans (hA.pe hp), fun p hp => (hf _ (by simp only [aS]; omega)).trans (hA.s hp), fun c p hc hp => ⟨(hA.l hc hp).kept (hf _ (by have := (aL_in (x := x) hc hp).2.1; omega)) (hf _ (by omega)), Or.inl hzb, fun c' p' hc' hp' hn he => hzb⟩, fun p hp => hA.su hp, fun p hp => by rw [e1 p hp]; exact L2.nil, fun p hp => by rw [e2 p hp]; exact L2.nil, fun p hp => by rw [e3 p hp]; exact L2.nil, fun p hp => Or.inl ⟨rfl, e4 p hp⟩, fun p hp => Or.inl rfl⟩
theorem law_start {fz : Nat → Option Nat} (hb : h.1 b = some (.inl (0, L, .inl xs))) (hZ : h.1 (gZ G) = some (.inl (3, 0, .inr (.inr (.inr (.inr fz)))))) (hbg : b < gb G) (hzb : gZ G < gb G) (hx : gb G ≤ h.2.1) (hC : h.2.1 + 11000 ≤ gC G) (hS : h.2.2 + 480000 ≤ gS G) (hL : L ≤ 2048) (hq : ∀ h, Q (.returned (some (.int (nI 1)))) h) : Jx G (mLaw nm hs) 17 Q 0 [some (.ref b), none, none, none, none, none, none] [] h := by
  refine nw_L_8 rfl dL_law_0 (by omega) (by omega) ?_
  have z1 : (hnew h (.inr (9, [.null, .null, .null, .null])) 4).2.1 = h.2.1 + 1 := rfl
  have y1 : (hnew h (.inr (9, [.null, .null, .null, .null])) 4).2.2 = h.2.2 + 4 := rfl
  have f1 : ∀ a, a < h.2.1 → (hnew h (.inr (9, [.null, .null, .null, .null])) 4).1 a = h.1 a := fun a ha => hnew_ne _ _ _ (by omega)
  have c1 : (hnew h (.inr (9, [.null, .null, .null, .null])) 4).1 h.2.1 = some (.inr (9, [.null, .null, .null, .null])) := hnew_self _ _ _
  refine x_dup dL_law_3 rfl ?_
  refine x_callIH dL_law_4 si_L_60 rfl rfl (Nat.le_of_ble_eq_true rfl) ?_
  refine i_obj (g := h.1) (s0 := h.2.2 + 4) (by omega) (by omega) hx hzb hZ c1 f1 z1 y1 (fun h1 hA1 g1 w1 v1 => kh_n dr_1 ?_)
  refine y_astore_n dL_law_7 rfl rfl lvs_7_1 ?_
  refine nw_L_61 rfl dL_law_8 (by omega) (by omega) ?_
  refine x_dup dL_law_11 rfl ?_
  refine x_callIH dL_law_12 si_L_63 rfl rfl (Nat.le_of_ble_eq_true rfl) ?_
  refine i_ref (g := h1.1) (s0 := h1.2.2 + 24) (by omega) (by omega) (by omega) (hnew_self _ _ _) (fun a ha => hnew_ne _ _ _ (by omega)) rfl rfl (fun h2 hR2 g2 w2 v2 => kh_n dr_1 ?_)
  refine y_astore_n dL_law_15 rfl rfl lvs_7_2 ?_
  refine x_iconst (v := nI 1) dL_law_16 (by decide) ?_
  refine x_newarray (tg := 2) (N := 1) (x := (1, .inr (.inl (fun _ => 0)))) dL_law_17 (by decide) rfl wo_longs ⟨rfl, fun _ => rfl⟩ (nI_pos (by omega)) (nI_clamp (by omega)) (by omega) (by omega) (by omega) ?_
  rw [w2]
  have g3 : ∀ a, a < h1.2.1 + 24 → (hnew h2 (.inl (2, 1, .inr (.inl (fun _ => 0)))) 1).1 a = h2.1 a := fun a ha => hnew_ne _ _ _ (by omega)
  have z3 : (hnew h2 (.inl (2, 1, .inr (.inl (fun _ => 0)))) 1).2.1 = h1.2.1 + 25 := by show h2.2.1 + 1 = _; omega
  have y3 : (hnew h2 (.inl (2, 1, .inr (.inl (fun _ => 0)))) 1).2.2 = h1.2.2 + 1503 := by show h2.2.2 + 1 = _; omega
  have c3 : (hnew h2 (.inl (2, 1, .inr (.inl (fun _ => 0)))) 1).1 (h1.2.1 + 24) = some (.inl (2, 1, .inr (.inl (fun _ => 0)))) := by rw [← w2]; exact hnew_self _ _ _
  generalize hnew h2 (.inl (2, 1, .inr (.inl (fun _ => 0)))) 1 = h3 at g3 z3 y3 c3 ⊢
  refine y_astore_n dL_law_19 rfl rfl lvs_7_3 ?_
  refine x_iconst (v := nI 0) dL_law_20 (by decide) ?_
  refine y_istore dL_law_21 rfl lvs_7_4 ?_
  refine law_loop (xs := xs) (by omega) hbg hL hq 513 0 0 h3 none none (by omega) (by omega) ?_
  refine ⟨u0, fun _ _ => gZ G, fun _ _ => [], fun _ => none, fun _ => none, fun _ _ => 0, fun _ => 0, nI 0, fun _ => 0, hA1.move hzb (fun a ha => ?_) (by omega) (by omega), lv_start, hR2.ext (fun a a1 a2 => g3 a (by omega)), c3, Inv.t_clear uz, ?_, ?_, ?_⟩
  · rw [g3 a (by omega), g2 a (by omega)]
  · rw [g3 b (by omega), g2 b (by omega), g1 b (by omega)]
    exact hb
  · omega
  · omega
end STX
theorem st_classes {s : State} {A : Array Value} (hT : ∀ w ∈ TT, w.before A s = true) (hw : ∀ w ∈ lw_tbl, w.before A s = true) : ∃ D : va_G, ∀ (k : Nat) (q : vw_C), rkCl[k]? = some q → u_Kn s q.1 q.2.1 q.2.2 (D.1 k) (D.2 k) := by
  have ofi : ∀ (k : Nat) (q0 : vw_C) (n : Nat), rkCl[k]? = some q0 → (∀ w ∈ u_ws q0.1 q0.2.1 q0.2.2, w ∈ TT) → Cond.instantiable q0.1 n ∈ lw_tbl → ∃ d : ClassId × (Nat → Nat), ∀ q : vw_C, rkCl[k]? = some q → u_Kn s q.1 q.2.1 q.2.2 d.1 d.2 := by
    intro k q0 n hk hu hi
    obtain ⟨cC, iS, hK⟩ := u_known (ws := TT) hT hu (hw _ hi)
    refine ⟨(cC, iS), fun q hq => ?_⟩
    rw [hk] at hq
    cases hq
    exact hK
  have hall : ∀ k : Nat, ∃ d : ClassId × (Nat → Nat), ∀ q : vw_C, rkCl[k]? = some q → u_Kn s q.1 q.2.1 q.2.2 d.1 d.2 := by
    intro k
    match k with
    | 0 => exact ofi 0 _ 3 cl_0 uw_0 (by decide +kernel)
    | 1 => exact ofi 1 _ 6 cl_1 uw_1 (by decide +kernel)
    | 2 => exact ofi 2 _ 6 cl_2 uw_2 (by decide +kernel)
    | 3 => exact ofi 3 _ 3 cl_3 uw_3 (by decide +kernel)
    | 4 => exact ofi 4 _ 1 cl_4 uw_4 (by decide +kernel)
    | 5 => exact ofi 5 _ 3 cl_5 uw_5 (by decide +kernel)
    | 6 => exact ofi 6 _ 18 cl_6 uw_6 (by decide +kernel)
    | 7 => exact ofi 7 _ 6 cl_7 uw_7 (by decide +kernel)
    | 8 => exact ofi 8 _ 2 cl_8 uw_8 (by decide +kernel)
    | 9 => exact ofi 9 _ 4 cl_9 uw_9 (by decide +kernel)
    | 10 => exact ofi 10 _ 24 cl_10 uw_10 (by decide +kernel)
    | 11 => exact ofi 11 _ 6 cl_11 (fun w hw => by cases hw) (by decide +kernel)
    | 12 => exact ofi 12 _ 6 cl_12 (fun w hw => by cases hw) (by decide +kernel)
    | 13 => exact ofi 13 _ 6 cl_13 (fun w hw => by cases hw) (by decide +kernel)
    | 14 => exact ofi 14 _ 6 cl_14 (fun w hw => by cases hw) (by decide +kernel)
    | j + 15 =>
      refine ⟨(0, fun _ => 0), fun q hq => ?_⟩
      have : rkCl[j + 15]? = none := List.getElem?_eq_none (show rkCl.length ≤ j + 15 from by
        have : rkCl.length = 15 := rfl
        omega)
      rw [this] at hq
      cases hq
  obtain ⟨f, hf⟩ := Classical.axiomOfChoice hall
  exact ⟨(fun k => (f k).1, fun k => (f k).2), hf⟩
theorem st_arrays {s : State} {A : Array Value} (hT : ∀ w ∈ TT, w.before A s = true) : ∃ cA : Nat → ClassId, ∀ (k : Nat) (q : ClassId × FieldType), [(cA 0, tyA 0), (cA 1, tyA 1), (cA 2, tyA 2), (cA 3, tyA 3)][k]? = some q → ArrOfT s q.1 q.2 ∧ va_RA s q.1 q.2 := by
  obtain ⟨c0, k0, p0, a0, b0, d0⟩ := Cond.arrayClass_spec (hT _ wo_ints)
  obtain ⟨c1, k1, p1, a1, b1, d1⟩ := Cond.arrayClass_spec (hT _ wo_bools)
  obtain ⟨c2, k2, p2, a2, b2, d2⟩ := Cond.arrayClass_spec (hT _ wo_longs)
  obtain ⟨p3, c3, k3, e3, -, b3, d3, a3⟩ := Cond.arrayOver_spec (hT _ wo_over)
  refine ⟨fun k => if k = 0 then c0 else if k = 1 then c1 else if k = 2 then c2 else c3, fun k q hq => ?_⟩
  match k, hq with
  | 0, hq => cases hq; exact ⟨fun N z => ⟨(fun k h => by cases h), k0, b0, p0, d0⟩, a0⟩
  | 1, hq => cases hq; exact ⟨fun N z => ⟨(fun k h => by cases h), k1, b1, p1, d1⟩, a1⟩
  | 2, hq => cases hq; exact ⟨fun N z => ⟨(fun k h => by cases h), k2, b2, p2, d2⟩, a2⟩
  | 3, hq => cases hq; exact ⟨fun N z => ⟨(fun k h => by cases h), k3, b3, p3, d3⟩, k3, p3, b3, d3, e3, a3⟩
  | k + 4, hq => cases hq
theorem st_empty {s : State} {A : Array Value} {t : Term} (hE : (Cond.arrayOf t (.object "java/lang/Object")).before A s = true) (hl : (Cond.eq (.length t) (.int 0)).before A s = true) : ∃ (z : Addr) (cell : Cell), t.eval A s none [] s = some (.ref z) ∧ s.heap[z]? = some cell ∧ s.isArrayOf cell (.object "java/lang/Object") ∧ cell.vm ≠ .unknown ∧ cell.slots.size = 0 := by
  have hl1 : (Cond.eq (.length t) (.int 0)).holds A s none s [] = true := hl
  cases hv : (Term.length t).eval A s none [] s with
  | none => simp [Cond.holds, Cond.value, hv] at hl1
  | some v =>
    obtain ⟨z, cell, h1, h2, h3⟩ := Term.length_spec hv
    obtain ⟨g1, -, -, -⟩ := State.arrayAt?_spec h2
    obtain ⟨g2, g3⟩ := Cond.arrayOf_spec (show (Cond.arrayOf t (.object "java/lang/Object")).holds A s none s [] = true from hE) h1 g1
    refine ⟨z, cell, h1, g1, g2, g3, ?_⟩
    have hb : cell.slots.size < 2147483648 := by
      rcases Nat.lt_or_ge cell.slots.size 2147483648 with q | q
      · exact q
      · have : (Term.length t).eval A s none [] s = none := by
          simp [Term.eval, h1, h2, Nat.not_lt.mpr q]
        rw [this] at hv
        cases hv
    have he : v = .int 0 := by
      rw [h3] at hv ⊢
      have := Cond.eq_ints (first := s) (o := none) (idx := []) (b := .int 0) (y := 0) hv rfl
      simp [Cond.holds, this] at hl1
      rw [hl1]
    rw [h3] at he
    have e0 : nI cell.slots.size = nI 0 := by
      have := Value.int.inj he
      exact this
    exact (nI_eq (by omega) (by omega)).mp e0
theorem whole_start {p : Program} {e : Env} {s : State} {m : MethodId} {below : List Frame} {meth : Method} {c : Code} (l : Launch) (hlt : l.stackTraces = false) {b L : Nat} {xs : Nat → Int32} (hL : L ≤ 2048) (C0 : lw_At p s m meth c b L xs) : W p l e room_1 s m #[Value.ref b] below meth c s.heap [] 0 0 (lw_Z below #[Value.ref b] s) (entryFrame m ([Value.ref b] : List Value).toArray 7) := by
  obtain ⟨hx, hb, hr, hml, hown, hts, hX, hbl, hlocks, hgv⟩ := id C0
  have hfl := flat_of_before _ hgv
  have hall : ∀ w ∈ rkNc ++ lw_tbl, w.before #[Value.ref b] s = true := by
    intro w hw
    rcases List.mem_append.mp hw with q | q
    · exact hfl w ((by decide +kernel : ∀ w ∈ rkNc, w ∈ flatC (Jvm.Cond.and given_1 narrow_1)) w q)
    · exact hts w q
  have hT : ∀ w ∈ TT, w.before #[Value.ref b] s = true := fun w hw => hall w (List.mem_filter.mp hw).1
  have hNw : ∀ w ∈ TT, va_Nw w s := fun w hw => okW_of (List.mem_filter.mp hw).2 (hT w hw)
  obtain ⟨D, hD⟩ := st_classes hT hts
  obtain ⟨cA, hcA⟩ := st_arrays hT
  obtain ⟨z, ez, hz1, hz2, hz3, hz4, hz5⟩ := st_empty (A := #[Value.ref b]) (s := s) (t := .static "java/util/ArrayList" "DEFAULTCAPACITY_EMPTY_ELEMENTDATA" "[Ljava/lang/Object;") (hfl _ (by decide +kernel)) (hfl _ (by decide +kernel))
  obtain ⟨mi, hmi⟩ := va_Mi.of (args := #[Value.ref b]) (s := s) (C := "[Ljava/lang/Object;") (hfl _ (by decide +kernel))
  have hnA : ∀ a : Nat, a < s.heap.size → ¬ (fun q : Nat => s.heap.size ≤ q) a := fun a ha => Nat.not_le.mpr ha
  have hzl : z < s.heap.size := (Array.getElem?_eq_some_iff.mp hz2).1
  have hZ := va_Zof (v := .ref z) (A := fun q : Nat => s.heap.size ≤ q) (hts (.laysStatic "java/util/ArrayList" "DEFAULTCAPACITY_EMPTY_ELEMENTDATA" "[Ljava/lang/Object;") (by decide +kernel)) (hts (.initialized "java/util/ArrayList") (by decide +kernel)) hz1 hnA
  have hU := vx_Zqof (C := Bundle.tN) (n := "UNASSIGNED_STACK") (d := Bundle.steD) (A := fun q : Nat => s.heap.size ≤ q) (hts (.laysStatic Bundle.tN "UNASSIGNED_STACK" Bundle.steD) (by decide +kernel)) (hts (.initialized Bundle.tN) (by decide +kernel)) (hfl _ (by decide +kernel)) hnA
  have hV := vx_Zqof (C := Bundle.tN) (n := "SUPPRESSED_SENTINEL") (d := Bundle.listD) (A := fun q : Nat => s.heap.size ≤ q) (hts (.laysStatic Bundle.tN "SUPPRESSED_SENTINEL" Bundle.listD) (by decide +kernel)) (hts (.initialized Bundle.tN) (by decide +kernel)) (hfl _ (by decide +kernel)) hnA
  obtain ⟨G, hG⟩ : ∃ G : GT, G = (l, D, cA, s.heap.size, s.heap.size + room_1.cells, room_1.slots, s.heap, z, mi) := ⟨_, rfl⟩
  have hGU : GU G s := by
    rw [hG]
    exact ⟨⟨hD, hcA⟩, hNw, hZ, hmi, hU, hV, hlt⟩
  have e1 : gl G = l := by rw [hG]
  have e2 : gb G = s.heap.size := by rw [hG]
  have e3 : gC G = s.heap.size + room_1.cells := by rw [hG]
  have e4 : gS G = room_1.slots := by rw [hG]
  have e5 : gH G = s.heap := by rw [hG]
  have e6 : gZ G = z := by rw [hG]
  obtain ⟨scr, x1, x2, x3, x4, x5⟩ := hX
  have hbz : b ≠ z := by
    intro q
    subst q
    cases x1.symm.trans hz2
    obtain ⟨-, k1, q1, p1, r1⟩ := x2
    obtain ⟨-, k2, q2, p2, r2⟩ := hz3
    cases q1.symm.trans q2
    rw [r1] at r2
    cases r2
  have hl := lv_entry ([.ref b]) (n := 7) (Nat.le_of_ble_eq_true rfl)
  rw [lg_entry_eq]
  generalize (lg_sl ([.ref b]) ++ List.replicate (7 - (lg_sl ([.ref b])).length) Slot.unset).toArray = ls at hl ⊢
  have hP : HP G s ((fun a => if a = b then some (.inl (0, L, .inl xs)) else if a = z then some (.inl (3, zRow)) else none), s.heap.size, 0) s.heap := by
    refine ⟨fun a q hq => ?_, rfl, by rw [e2]; exact Nat.le_refl _, fun q _ => by rw [e5]⟩
    simp only at hq
    by_cases h1 : a = b
    · subst h1
      rw [if_pos rfl] at hq
      cases hq
      exact Or.inr ⟨by rw [e2]; exact hbl, scr, x1, x2, x3, x4, x5⟩
    · rw [if_neg h1] at hq
      by_cases h2 : a = z
      · subst h2
        rw [if_pos rfl] at hq
        cases hq
        exact Or.inr ⟨by rw [e2]; exact hzl, ez, hz2, hz3, hz4, hz5, fun j hj => absurd hj (Nat.not_lt_zero _)⟩
      · rw [if_neg h2] at hq
        cases hq
  have E : EV G (mLaw meth.name (c.exceptionTable.toList.map (fun h => (h.startPc, h.endPc, h.handlerPc, h.catchType)))) 17 p room_1 s m meth c := ⟨hx, hb, hr, hlocks, hml, hown, rfl, rfl, (show 17 ≤ room_1.frames by decide +kernel), (show 40 * 17 ≤ room_1.locals by decide +kernel), hGU⟩
  have hJ := law_start (G := G) (Q := fun o _ => o = .returned (some (.int 1))) (nm := meth.name) (hs := c.exceptionTable.toList.map (fun h => (h.startPc, h.endPc, h.handlerPc, h.catchType))) (h := ((fun a => if a = b then some (.inl (0, L, .inl xs)) else if a = z then some (.inl (3, zRow)) else none), s.heap.size, 0)) (b := b) (L := L) (xs := xs) (fz := fun _ => none) (if_pos rfl) (by show (if gZ G = b then _ else if gZ G = z then _ else none) = _; rw [e6, if_neg (Ne.symm hbz), if_pos rfl]; rfl) (by rw [e2]; exact hbl) (by rw [e2, e6]; exact hzl) (by rw [e2]; exact Nat.le_refl _) (by rw [e3]; exact Nat.add_le_add_left (show 11000 ≤ room_1.cells by decide +kernel) _) (by rw [e4]; exact (show 0 + 480000 ≤ room_1.slots by decide +kernel)) hL (fun h => rfl)
  have hW := hJ p e room_1 s m #[Value.ref b] below meth c E s.heap [] 0 0 ls ⟨lvE_lr (As := [.ref b]) (fun v hv => by rcases List.mem_singleton.mp hv with rfl; rfl) (Nat.le_of_ble_eq_true rfl) hl, hP, fun q hq => (by cases hq), by rw [e3]; show 0 + (s.heap.size + room_1.cells - s.heap.size) ≤ _; omega, by rw [e4]; show 0 + (room_1.slots - 0) ≤ _; omega⟩
  rw [e1] at hW
  refine W.monoQ (fun t ht => ?_) hW
  obtain ⟨o, h, Ls, k, n, t1, t2, t3, t4, ⟨t5, t6⟩, t7, t8, t9⟩ := ht
  refine ⟨o, t1, t2, t3, ⟨_, t3⟩, t5, t6.weaken (fun q hq hlt => absurd (t7 q hq) (by rw [e2]; exact Nat.not_le.mpr hlt)) ?_ ?_⟩
  · exact Nat.le_trans (Nat.le_trans (Nat.le_add_right _ _) t8) (by decide +kernel)
  · exact Nat.le_trans (Nat.le_trans (Nat.le_add_right _ _) t9) (by decide +kernel)
