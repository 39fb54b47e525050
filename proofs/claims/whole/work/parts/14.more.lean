def okO (ci : Nat) : Prop := ∃ r, rkCl[ci]? = some r ∧ Cond.castable r.1 "java/lang/Object" ∈ TT
theorem any_of {G : GT} {s : State} {H : Heap} {h : Hp} {v ci : Nat} {fs : List Value} (K : GU G s) (hp : HP G s h H) (hv : h.1 v = some (.inr (ci, fs))) (ho : okO ci) : va_Any "java/lang/Object" s H v := by
  obtain ⟨r, hr, hw⟩ := ho
  refine va_rAny K.1 (va_P1 (hp.1 v _ hv).2) (q0 := 0) rfl hr (fun comp c0 h1 h2 => ?_)
  obtain ⟨c3, c4, h3, h4, h5⟩ := Cond.castable_spec (K.word (A := #[]) hw)
  cases h1.symm.trans h4
  cases h2.symm.trans h3
  exact h5
theorem cb_tyA : ∀ {tg : Nat}, tg < 3 → componentBytes (tyA tg) ≤ 8
  | 0, _ => by decide
  | 1, _ => by decide
  | 2, _ => by decide
theorem ra_find {G : GT} {s : State} (K : GU G s) : ∀ {tg : Nat}, tg < 3 → s.vm.findClass ("[" ++ (tyA tg).toString) = some (gA G tg)
  | 0, _ => (K.1.2 0 _ (tysG_at (G := G) (tg := 0) (by decide))).2
  | 1, _ => (K.1.2 1 _ (tysG_at (G := G) (tg := 1) (by decide))).2
  | 2, _ => (K.1.2 2 _ (tysG_at (G := G) (tg := 2) (by decide))).2
section MOREX
variable {G : GT} {M : MD} {d : Nat} {Q : Outcome → Hp → Prop} {pc : Nat} {lv : List (Option Value)} {st : List Value} {h : Hp}
theorem x_newarray {atype : ArrayType} {tg N : Nat} {n : Int32} {x : vp_A} (hd : decode M.2.1 pc = .ok (.newarray atype, 2)) (htg : tg < 3) (hty : newarray.typeOf atype = tyA tg) (hw : Cond.arrayClass (tyA tg) ∈ TT) (hx : x.1 = N ∧ ∀ j, vA x j = defaultValue (tyA tg)) (hn : ¬ n < 0) (hN : n.toNatClampNeg = N) (hbytes : N * 8 ≤ 536870912) (hroom : h.2.1 < gC G) (hsl : h.2.2 + N ≤ gS G) (kk : Jx G M d Q (pc + 2) lv (.ref h.2.1 :: st) (hnew h (.inl (tg, x)) N)) : Jx G M d Q pc lv (.int n :: st) h := by
  intro p e R s m args below meth c E H locs cells slots ls P
  have K := E.2.2.2.2.2.2.2.2.2.2
  have p1 := P.2.2.2.1
  have p2 := P.2.2.2.2
  have hcb := cb_tyA htg
  refine va_newaK E.1 E.2.1 (atype := atype) (by rw [hty]; exact K.word hw) rfl hd rfl hn hN (by rw [hty]; exact Nat.le_trans (Nat.mul_le_mul_left N hcb) hbytes) (by omega) (by omega) P.2.1.2.1 fun H1 cA e1 z1 o1 hAr hNm => ?_
  rw [hty] at e1 hAr hNm
  have hcA : cA = gA G tg := Option.some.inj (hNm.symm.trans (ra_find K htg))
  subst hcA
  have hb := P.2.1.2.2.1
  have hz := P.2.1.2.1
  have hP1 : HP G s (hnew h (.inl (tg, x)) N) H1 := by
    refine P.2.1.new (Or.inl ⟨by omega, ?_⟩) z1 o1
    rw [e1]
    show some _ = some (vp_cell (gA G tg) x)
    rw [vA_cell, hx.1]
    congr 2
    funext j
    exact (hx.2 j).symm
  exact kk p e R s m args below meth c E H1 locs (cells + 1) (slots + N) ls ⟨P.1, hP1, P.2.2.1, by show cells + 1 + (gC G - (h.2.1 + 1)) ≤ R.cells; omega, by show slots + N + (gS G - (h.2.2 + N)) ≤ R.slots; omega⟩
theorem x_anewarray {idx N : Nat} {n : Int32} (hd : decode M.2.1 pc = .ok (.anewarray idx, 3)) (hlink : Cond.classLink M.1.cls idx "java/lang/Object" ∈ TT) (hover : Cond.arrayOver (.object "java/lang/Object") ∈ TT) (hn : ¬ n < 0) (hN : n.toNatClampNeg = N) (hbytes : N * 4 ≤ 536870912) (hroom : h.2.1 < gC G) (hsl : h.2.2 + N ≤ gS G) (kk : Jx G M d Q (pc + 3) lv (.ref h.2.1 :: st) (hnew h (.inl (3, N, .inr (.inr (.inr (.inr (fun _ => none)))))) N)) : Jx G M d Q pc lv (.int n :: st) h := by
  intro p e R s m args below meth c E H locs cells slots ls P
  have K := E.2.2.2.2.2.2.2.2.2.2
  have p1 := P.2.2.2.1
  have p2 := P.2.2.2.2
  have hb := P.2.1.2.2.1
  have hz := P.2.1.2.1
  subst hN
  refine W.anew E.1 E.2.1 E.2.2.2.2.2.1 (K.word hlink) (K.word hover) rfl hd rfl hn hbytes (by omega) (by omega) fun cA kA comp f1 f2 f3 f4 => ?_
  have hcA : cA = gA G 3 := by
    obtain ⟨kA', comp', r1, r2, r3, r4⟩ := (K.1.2 3 _ (tysG_at (G := G) (by decide))).2
    exact Option.some.inj (f1.symm.trans r4)
  subst hcA
  show W p (gl G) e R s m args below meth c _ locs (cells + 1) _ _ (F0 m (pc + 3) ls (.ref H.size :: st))
  rw [hz]
  refine kk p e R s m args below meth c E _ locs (cells + 1) (slots + n.toNatClampNeg) ls ⟨P.1, P.2.1.new (Or.inl ⟨by omega, ?_⟩) ?_ ?_, P.2.2.1, by show cells + 1 + (gC G - (h.2.1 + 1)) ≤ R.cells; omega, by show slots + n.toNatClampNeg + (gS G - (h.2.2 + n.toNatClampNeg)) ≤ R.slots; omega⟩
  · rw [← hz, Array.getElem?_push_size, vp_cell_q, ← arrV_new]
    rfl
  · rw [Array.size_push, hz]
  · intro q hq
    rw [Array.getElem?_push, if_neg (by omega)]
theorem x_aastore {a n v ci : Nat} {fs : List Value} {f : Nat → Option Nat} {i : Int32} (hd : decode M.2.1 pc = .ok (.aastore, 1)) (hb : gb G ≤ a) (hc : h.1 a = some (.inl (3, n, .inr (.inr (.inr (.inr f)))))) (hi : vp_in i n) (hv : h.1 v = some (.inr (ci, fs))) (ho : okO ci) (kk : Jx G M d Q (pc + 1) lv st (hput h a (.inl (3, n, .inr (.inr (.inr (.inr (va_up f i.toNatClampNeg (some v))))))))) : Jx G M d Q pc lv (.ref v :: .int i :: .ref a :: st) h := by
  intro p e R s m args below meth c E H locs cells slots ls P
  have K := E.2.2.2.2.2.2.2.2.2.2
  have h0 : ¬ i < 0 := fun q => hi (Or.inl q)
  have hlt := in_lt hi
  obtain ⟨cellV, g1, g3, ⟨kC, hkC⟩, hasg⟩ := any_of K P.2.1 hv ho
  obtain ⟨kA, comp, k1, k2, k3, -⟩ := (K.1.2 3 _ (tysG_at (G := G) (by decide))).2
  obtain ⟨kE, hkE, -⟩ := Vm.findClass_spec k3
  refine W.aast E.1 E.2.1 (arr_own hb (P.2.1.1 a _ hc)) (fun q h => by cases h) (fun h => by cases h) k1 k2 rfl hkE ⟨h0, by show _ < (arrV _ _ _).slots.size; rw [arrV_size]; exact hlt⟩ g1 (fun q h => by rw [h] at g3; cases g3) hkC (hasg _ k3) rfl rfl hd fun H1 e1 z oq => ?_
  refine kk p e R s m args below meth c E H1 _ cells slots ls ⟨P.1, P.2.1.put hb (Or.inl ⟨hb, ?_⟩) z oq, t_lc P.2.2.1 hb, P.2.2.2⟩
  rw [e1, vp_cell_q, vp_cell_q, arrV_store]
  congr 2
  funext q
  by_cases hq : q = i.toNatClampNeg
  · subst hq
    simp [updV, va_up, va_rf]
  · simp [updV, va_up, hq]
theorem x_aastoreN {a n : Nat} {f : Nat → Option Nat} {i : Int32} (hd : decode M.2.1 pc = .ok (.aastore, 1)) (hb : gb G ≤ a) (hc : h.1 a = some (.inl (3, n, .inr (.inr (.inr (.inr f)))))) (hi : vp_in i n) (kk : Jx G M d Q (pc + 1) lv st (hput h a (.inl (3, n, .inr (.inr (.inr (.inr (va_up f i.toNatClampNeg none)))))))) : Jx G M d Q pc lv (.null :: .int i :: .ref a :: st) h := by
  intro p e R s m args below meth c E H locs cells slots ls P
  have K := E.2.2.2.2.2.2.2.2.2.2
  have h0 : ¬ i < 0 := fun q => hi (Or.inl q)
  have hlt := in_lt hi
  obtain ⟨kA, comp, k1, k2, k3, -⟩ := (K.1.2 3 _ (tysG_at (G := G) (by decide))).2
  refine va_WaastN (C := "java/lang/Object") E.1 E.2.1 (arr_own hb (P.2.1.1 a _ hc)) ((K.1.2 3 _ (tysG_at (G := G) (by decide))).1 n (fun j => va_rf (f j))) (fun h => by cases h) (by show ¬ (i < 0 ∨ (arrV _ _ _).slots.size ≤ _); rw [arrV_size]; exact hi) rfl rfl hd fun H1 e1 z oq => ?_
  refine kk p e R s m args below meth c E H1 _ cells slots ls ⟨P.1, P.2.1.put hb (Or.inl ⟨hb, ?_⟩) z oq, t_lc P.2.2.1 hb, P.2.2.2⟩
  rw [e1, vp_cell_q, vp_cell_q, arrV_store]
  congr 2
  funext q
  by_cases hq : q = i.toNatClampNeg
  · subst hq
    simp [updV, va_up, va_rf]
  · simp [updV, va_up, hq]
theorem x_empty {idx : Nat} (hd : decode M.2.1 pc = .ok (.getstatic idx, 3)) (hown : M.1.cls = "java/util/ArrayList") (hlink : Cond.fieldLink "java/util/ArrayList" idx "java/util/ArrayList" "DEFAULTCAPACITY_EMPTY_ELEMENTDATA" "[Ljava/lang/Object;" ∈ TT) (kk : Jx G M d Q (pc + 3) lv (.ref (gZ G) :: st) h) : Jx G M d Q pc lv st h := by
  intro p e R s m args below meth c E H locs cells slots ls P
  have K := E.2.2.2.2.2.2.2.2.2.2
  obtain ⟨cf, kf, fi, f, a, cell, h1, h2, h3, h4, h5, h6, h7, h8⟩ := K.2.2.1
  exact W.gets E.1 E.2.1 (by rw [← hown]; exact E.2.2.2.2.2.1) (K.word hlink) h1 h2 h3 h4 (by rw [P.2.1.2.2.2 a (Nat.lt_of_not_le h8)]; exact h5) (fun q => by rw [q] at h6; cases h6) h7 rfl hd (kk p e R s m args below meth c E H locs cells slots ls P)
theorem x_ldcM {idx : Nat} (hd : decode M.2.1 pc = .ok (.ldc idx, 2)) (hlink : Cond.classLink M.1.cls idx "[Ljava/lang/Object;" ∈ TT) (kk : Jx G M d Q (pc + 2) lv (.ref (gM G) :: st) h) : Jx G M d Q pc lv st h := by
  intro p e R s m args below meth c E H locs cells slots ls P
  have K := E.2.2.2.2.2.2.2.2.2.2
  exact va_ldcM E.1 E.2.1 E.2.2.2.2.2.1 (K.word hlink) K.2.2.2.1 hd (kk p e R s m args below meth c E H locs cells slots ls P)
theorem arr3_recv {s : State} {H : Heap} {a : Nat} {x : vp_A} (K : GU G s) (hb : gb G ≤ a) (h : cellAt G s a (.inl (3, x)) H) : ∃ cell : Cell, H[a]? = some cell ∧ cell.vm.isStatics = false ∧ s.vm.findClass "[Ljava/lang/Object;" = some cell.cls := by
  refine ⟨_, arr_own hb h, ?_, ?_⟩
  · rw [vA_cell]; rfl
  · rw [vA_cell]
    exact va_nmO (K.1.2 3 _ (tysG_at (G := G) (by decide))).2 (by decide +kernel)
theorem x_getClass {idx a : Nat} {x : vp_A} (hd : decode M.2.1 pc = .ok (.invokevirtual idx, 3)) (hb : gb G ≤ a) (hc : h.1 a = some (.inl (3, x))) (h1 : Cond.methodLink M.1.cls idx ⟨"java/lang/Object", "getClass", "()Ljava/lang/Class;"⟩ ∈ TT) (h2 : Cond.declares ⟨"java/lang/Object", "getClass", "()Ljava/lang/Class;"⟩ ∈ TT) (h3 : Cond.selects "[Ljava/lang/Object;" ⟨"java/lang/Object", "getClass", "()Ljava/lang/Class;"⟩ ⟨"java/lang/Object", "getClass", "()Ljava/lang/Class;"⟩ ∈ TT) (h4 : Cond.instanceMethod ⟨"java/lang/Object", "getClass", "()Ljava/lang/Class;"⟩ ∈ TT) (h5 : Cond.native ⟨"java/lang/Object", "getClass", "()Ljava/lang/Class;"⟩ ∈ TT) (hdd : 1 ≤ d) (hrest : (st.map fun v => v.category).sum ≤ 8) (kk : Jx G M d Q (pc + 3) lv (.ref (gM G) :: st) h) : Jx G M d Q pc lv (.ref a :: st) h := by
  intro p e R s m args below meth c E H locs cells slots ls P
  have K := E.2.2.2.2.2.2.2.2.2.2
  have f1 := E.2.2.2.2.2.2.2.2.1
  have f2 := E.2.2.2.2.2.2.2.2.2.1
  exact va_getC E.1 E.2.1 (by rw [E.2.2.2.2.1]; exact P.1.1.symm) E.2.2.2.2.2.1 (K.word h1) (K.word h2) (K.word h3) (K.word h4) (K.word h5) K.2.2.2.1 (arr3_recv K hb (P.2.1.1 a _ hc)) (by omega) (by omega) hd (kk p e R s m args below meth c E H locs cells slots ls P)
theorem x_castObj {idx a ci : Nat} {fs : List Value} {nm : String} (hd : decode M.2.1 pc = .ok (.checkcast idx, 3)) (hc : h.1 a = some (.inr (ci, fs))) (hlink : Cond.classLink M.1.cls idx nm ∈ TT) (hcast : ∃ r, rkCl[ci]? = some r ∧ Cond.castable r.1 nm ∈ TT) (kk : Jx G M d Q (pc + 3) lv (.ref a :: st) h) : Jx G M d Q pc lv (.ref a :: st) h := by
  intro p e R s m args below meth c E H locs cells slots ls P
  have K := E.2.2.2.2.2.2.2.2.2.2
  obtain ⟨r, hr, hw⟩ := hcast
  exact va_castY E.1 E.2.1 E.2.2.2.2.2.1 (K.word hlink) (K.2.1 _ hw) (va_recv K.1 (va_P1 (P.2.1.1 a _ hc).2) hr (q0 := 0) rfl) hd (kk p e R s m args below meth c E H locs cells slots ls P)
theorem x_castNull {idx : Nat} (hd : decode M.2.1 pc = .ok (.checkcast idx, 3)) (kk : Jx G M d Q (pc + 3) lv (.null :: st) h) : Jx G M d Q pc lv (.null :: st) h := by
  intro p e R s m args below meth c E H locs cells slots ls P
  exact lv_castN E.1 E.2.1 hd (kk p e R s m args below meth c E H locs cells slots ls P)
theorem x_castArr {idx a : Nat} {x : vp_A} (hd : decode M.2.1 pc = .ok (.checkcast idx, 3)) (hb : gb G ≤ a) (hc : h.1 a = some (.inl (3, x))) (hlink : Cond.classLink M.1.cls idx "[Ljava/lang/Object;" ∈ TT) (kk : Jx G M d Q (pc + 3) lv (.ref a :: st) h) : Jx G M d Q pc lv (.ref a :: st) h := by
  intro p e R s m args below meth c E H locs cells slots ls P
  have K := E.2.2.2.2.2.2.2.2.2.2
  exact va_castA (D := gD G) (cl := rkCl) (ws := [(a, .inl (gA G 3, x))]) E.1 E.2.1 E.2.2.2.2.2.1 (K.word hlink) (va_P1 (arr_own hb (P.2.1.1 a _ hc))) 0 rfl (va_nmO (K.1.2 3 _ (tysG_at (G := G) (by decide))).2 (by decide +kernel)) hd (kk p e R s m args below meth c E H locs cells slots ls P)
theorem x_castInts {idx a : Nat} {x : vp_A} (hd : decode M.2.1 pc = .ok (.checkcast idx, 3)) (hb : gb G ≤ a) (hc : h.1 a = some (.inl (0, x))) (hlink : Cond.classLink M.1.cls idx "[I" ∈ TT) (kk : Jx G M d Q (pc + 3) lv (.ref a :: st) h) : Jx G M d Q pc lv (.ref a :: st) h := by
  intro p e R s m args below meth c E H locs cells slots ls P
  have K := E.2.2.2.2.2.2.2.2.2.2
  have hnm : s.vm.findClass ("[" ++ (tyA 0).toString) = some (gA G 0) := (K.1.2 0 _ (tysG_at (G := G) (by decide))).2
  exact va_castA (D := gD G) (cl := rkCl) (ws := [(a, .inl (gA G 0, x))]) E.1 E.2.1 E.2.2.2.2.2.1 (K.word hlink) (va_P1 (arr_own hb (P.2.1.1 a _ hc))) 0 rfl (by rw [show ("[I" : String) = "[" ++ (tyA 0).toString by decide +kernel]; exact hnm) hd (kk p e R s m args below meth c E H locs cells slots ls P)
theorem x_instY {idx a ci : Nat} {fs : List Value} {nm : String} (hd : decode M.2.1 pc = .ok (.instanceof idx, 3)) (hc : h.1 a = some (.inr (ci, fs))) (hlink : Cond.classLink M.1.cls idx nm ∈ TT) (hcast : ∃ r, rkCl[ci]? = some r ∧ Cond.castable r.1 nm ∈ TT) (kk : Jx G M d Q (pc + 3) lv (.int 1 :: st) h) : Jx G M d Q pc lv (.ref a :: st) h := by
  intro p e R s m args below meth c E H locs cells slots ls P
  have K := E.2.2.2.2.2.2.2.2.2.2
  obtain ⟨r, hr, hw⟩ := hcast
  exact va_instY E.1 E.2.1 E.2.2.2.2.2.1 (K.word hlink) (K.2.1 _ hw) (va_recv K.1 (va_P1 (P.2.1.1 a _ hc).2) hr (q0 := 0) rfl) hd (kk p e R s m args below meth c E H locs cells slots ls P)
theorem nc_of {s : State} {a b : String} (K : GU G s) (hw : Cond.not (.castable a b) ∈ TT) : va_Nc a b s := va_Nc.of (K.word (A := #[]) hw)
theorem x_instN {idx a ci : Nat} {fs : List Value} {nm : String} (hd : decode M.2.1 pc = .ok (.instanceof idx, 3)) (hc : h.1 a = some (.inr (ci, fs))) (hlink : Cond.classLink M.1.cls idx nm ∈ TT) (hcast : ∃ r, rkCl[ci]? = some r ∧ Cond.not (.castable r.1 nm) ∈ TT) (kk : Jx G M d Q (pc + 3) lv (.int 0 :: st) h) : Jx G M d Q pc lv (.ref a :: st) h := by
  intro p e R s m args below meth c E H locs cells slots ls P
  have K := E.2.2.2.2.2.2.2.2.2.2
  obtain ⟨r, hr, hw⟩ := hcast
  exact va_instNo E.1 E.2.1 E.2.2.2.2.2.1 (K.word hlink) (nc_of K hw) (va_recv K.1 (va_P1 (P.2.1.1 a _ hc).2) hr (q0 := 0) rfl) hd (kk p e R s m args below meth c E H locs cells slots ls P)
theorem x_objInit {idx a : Nat} (hd : decode M.2.1 pc = .ok (.invokespecial idx, 3)) (h1 : Cond.methodLink M.1.cls idx Lib.objectInit ∈ TT) (h2 : Cond.instanceMethod Lib.objectInit ∈ TT) (h3 : Cond.code Lib.objectInit ⟨#[0xb1]⟩ 1 none ∈ TT) (hdd : 1 ≤ d) (hrest : (st.map fun v => v.category).sum ≤ 8) (kk : Jx G M d Q (pc + 3) lv st h) : Jx G M d Q pc lv (.ref a :: st) h := by
  intro p e R s m args below meth c E H locs cells slots ls P
  have K := E.2.2.2.2.2.2.2.2.2.2
  have f1 := E.2.2.2.2.2.2.2.2.1
  have f2 := E.2.2.2.2.2.2.2.2.2.1
  exact W.objInit E.1 E.2.1 E.2.2.2.2.2.1 (K.word h1) (K.word h2) (K.word h3) rfl (by rw [E.2.2.2.2.1]; exact P.1.1) rfl hd (by omega) (by show 2 * 0 + _ + 12 ≤ _; omega) (kk p e R s m args below meth c E H locs cells slots ls P)
theorem nneg {z : Int32} (hz : ¬ z < 0) : z.toInt = (z.toNatClampNeg : Int) := by
  have hz0 : (0 : Int) ≤ z.toInt := by
    have := Int32.not_lt.mp hz
    simpa using Int32.le_iff_toInt_le.mp this
  show z.toInt = ((z.toInt.toNat : Nat) : Int)
  omega
def acW (own : String) (idx : Nat) : Prop := Cond.methodLink own idx arraycopyName ∈ TT ∧ Cond.native arraycopyName ∈ TT ∧ Cond.static arraycopyName ∈ TT ∧ Cond.initialized "java/lang/System" ∈ TT
theorem x_copyI {idx a0 a n0 n1 : Nat} {f g : Nat → Int32} {sp dp n : Int32} (hd : decode M.2.1 pc = .ok (.invokestatic idx, 3)) (hw : acW M.1.cls idx) (hb0 : gb G ≤ a0) (hb : gb G ≤ a) (hc0 : h.1 a0 = some (.inl (0, n0, .inl f))) (hc1 : h.1 a = some (.inl (0, n1, .inl g))) (h1 : ¬ sp < 0) (h2 : ¬ dp < 0) (h3 : ¬ n < 0) (h4 : sp.toNatClampNeg + n.toNatClampNeg ≤ n0) (h5 : dp.toNatClampNeg + n.toNatClampNeg ≤ n1) (hdd : 1 ≤ d) (hrest : (st.map fun v => v.category).sum ≤ 8) (kk : Jx G M d Q (pc + 3) lv st (hput h a (.inl (0, n1, .inl (va_cpy f g sp.toNatClampNeg dp.toNatClampNeg n.toNatClampNeg))))) : Jx G M d Q pc lv (.int n :: .int dp :: .ref a :: .int sp :: .ref a0 :: st) h := by
  intro p e R s m args below meth c E H locs cells slots ls P T hT X
  have K := E.2.2.2.2.2.2.2.2.2.2
  have f1 := E.2.2.2.2.2.2.2.2.1
  have f2 := E.2.2.2.2.2.2.2.2.2.1
  have hm0 := arr_own hb0 (P.2.1.1 a0 _ hc0)
  have hm1 := arr_own hb (P.2.1.1 a _ hc1)
  obtain ⟨-, k0, hk0, cm0, hkk0⟩ := (K.1.2 0 _ (tysG_at (G := G) (by decide))).1 n0 (fun j => .int (f j))
  obtain ⟨-, k1, hk1, cm1, hkk1⟩ := (K.1.2 0 _ (tysG_at (G := G) (by decide))).1 n1 (fun j => .int (g j))
  have hnf : nativeFrameWords "java/lang/System" "arraycopy" 5 = 7 := by decide
  obtain ⟨vm', X', step⟩ := X.arraycopy E.1 E.2.2.2.2.2.1 (K.word hw.1) (K.word hw.2.1) (K.word hw.2.2.1) (K.word hw.2.2.2) (src := a0) (dst := a) (cs := vp_cell (gA G 0) (n0, .inl f)) (cd := vp_cell (gA G 0) (n1, .inl g)) (srcPos := sp) (destPos := dp) (n := n) (by rw [hT]; exact hm0) (by rw [hT]; exact hm1)
    (fun _ h => by cases h) (fun _ h => by cases h) (fun h => by cases h) (fun h => by cases h) hk0 hk1 hkk0 hkk1 (by simp [tyA, refKind]) h1 h2 h3
    (by rw [nneg h1, nneg h3]; show ¬ _ > ((arrV _ n0 (fun j => .int (f j))).slots.size : Int); rw [arrV_size]; omega)
    (by rw [nneg h2, nneg h3]; show ¬ _ > ((arrV _ n1 (fun j => .int (g j))).slots.size : Int); rw [arrV_size]; omega)
    (fun vm₁ _ i hi => by
      have e9 : (vp_cell (gA G 0) (n0, .inl f)).slots.getD (sp.toNatClampNeg + i) .null = .int (f (sp.toNatClampNeg + i)) := by
        show (arrV _ n0 (fun j => .int (f j))).slots.getD _ _ = _
        rw [Array.getD_eq_getD_getElem?, arrV_read _ _ (by omega)]
        rfl
      rw [e9]
      exact ⟨rfl, trivial⟩)
    (g := F0 m pc ls (.int n :: .int dp :: .ref a :: .int sp :: .ref a0 :: st)) rfl (by rw [E.2.2.2.2.1]; exact P.1.1) (rest := st) rfl (by rw [E.2.1]; exact hd) (by omega) (by show 2 * 0 + _ + _ ≤ _; rw [hnf]; omega)
  have e1 : copied (vp_cell (gA G 0) (n0, .inl f)) (vp_cell (gA G 0) (n1, .inl g)) sp dp n = vp_cell (gA G 0) (n1, .inl (va_cpy f g sp.toNatClampNeg dp.toNatClampNeg n.toNatClampNeg)) := va_copied (fun z => .int z) _ _ f g h4
  rw [e1] at X' step
  have hl : a < H.size := (Array.getElem?_eq_some_iff.mp hm1).1
  have hheap : ((T.setVm vm').setCell a (vp_cell (gA G 0) (n1, .inl (va_cpy f g sp.toNatClampNeg dp.toNatClampNeg n.toNatClampNeg)))).heap = H.setIfInBounds a (vp_cell (gA G 0) (n1, .inl (va_cpy f g sp.toNatClampNeg dp.toNatClampNeg n.toNatClampNeg))) := by rw [← hT]; rfl
  obtain ⟨t, a1, b1⟩ := kk p e R s m args below meth c E _ _ cells slots ls ⟨P.1, P.2.1.put hb (Or.inl ⟨hb, (show (H.setIfInBounds a _)[a]? = some _ by simp [Array.getElem?_setIfInBounds, hl])⟩) (by simp) (fun q hq => by simp [Array.getElem?_setIfInBounds, Ne.symm hq]), (fun q hq => by
      rcases List.mem_append.mp hq with h | h
      · exact P.2.2.1 q h
      · obtain ⟨z, -, hz⟩ := List.mem_map.mp h
        rw [← hz]
        exact hb), P.2.2.2⟩ _ hheap X'
  exact ⟨t, step t a1, b1⟩
theorem x_copyR {idx a0 a n0 n1 : Nat} {f g : Nat → Option Nat} {sp dp n : Int32} (hd : decode M.2.1 pc = .ok (.invokestatic idx, 3)) (hw : acW M.1.cls idx) (hb0 : gb G ≤ a0) (hb : gb G ≤ a) (hc0 : h.1 a0 = some (.inl (3, n0, .inr (.inr (.inr (.inr f)))))) (hc1 : h.1 a = some (.inl (3, n1, .inr (.inr (.inr (.inr g)))))) (h1 : ¬ sp < 0) (h2 : ¬ dp < 0) (h3 : ¬ n < 0) (h4 : sp.toNatClampNeg + n.toNatClampNeg ≤ n0) (h5 : dp.toNatClampNeg + n.toNatClampNeg ≤ n1) (hel : ∀ i, i < n.toNatClampNeg → ∀ y, f (sp.toNatClampNeg + i) = some y → ∃ ci fs, h.1 y = some (.inr (ci, fs)) ∧ okO ci) (hdd : 1 ≤ d) (hrest : (st.map fun v => v.category).sum ≤ 8) (kk : Jx G M d Q (pc + 3) lv st (hput h a (.inl (3, n1, .inr (.inr (.inr (.inr (va_cpy f g sp.toNatClampNeg dp.toNatClampNeg n.toNatClampNeg)))))))) : Jx G M d Q pc lv (.int n :: .int dp :: .ref a :: .int sp :: .ref a0 :: st) h := by
  intro p e R s m args below meth c E H locs cells slots ls P T hT X
  have K := E.2.2.2.2.2.2.2.2.2.2
  have f1 := E.2.2.2.2.2.2.2.2.1
  have f2 := E.2.2.2.2.2.2.2.2.2.1
  have hm0 := arr_own hb0 (P.2.1.1 a0 _ hc0)
  have hm1 := arr_own hb (P.2.1.1 a _ hc1)
  obtain ⟨-, k0, hk0, cm0, hkk0⟩ := (K.1.2 3 _ (tysG_at (G := G) (by decide))).1 n0 (fun j => va_rf (f j))
  obtain ⟨-, k1, hk1, cm1, hkk1⟩ := (K.1.2 3 _ (tysG_at (G := G) (by decide))).1 n1 (fun j => va_rf (g j))
  have hnf : nativeFrameWords "java/lang/System" "arraycopy" 5 = 7 := by decide
  obtain ⟨vm', X', step⟩ := X.arraycopy E.1 E.2.2.2.2.2.1 (K.word hw.1) (K.word hw.2.1) (K.word hw.2.2.1) (K.word hw.2.2.2) (src := a0) (dst := a) (cs := vp_cell (gA G 3) (n0, .inr (.inr (.inr (.inr f))))) (cd := vp_cell (gA G 3) (n1, .inr (.inr (.inr (.inr g))))) (srcPos := sp) (destPos := dp) (n := n) (by rw [hT]; exact hm0) (by rw [hT]; exact hm1)
    (fun _ h => by cases h) (fun _ h => by cases h) (fun h => by cases h) (fun h => by cases h) hk0 hk1 hkk0 hkk1 rfl h1 h2 h3
    (by rw [nneg h1, nneg h3]; show ¬ _ > ((arrV _ n0 (fun j => va_rf (f j))).slots.size : Int); rw [arrV_size]; omega)
    (by rw [nneg h2, nneg h3]; show ¬ _ > ((arrV _ n1 (fun j => va_rf (g j))).slots.size : Int); rw [arrV_size]; omega)
    (fun vm₁ hal i hi => by
      have e9 : (vp_cell (gA G 3) (n0, .inr (.inr (.inr (.inr f))))).slots.getD (sp.toNatClampNeg + i) .null = va_rf (f (sp.toNatClampNeg + i)) := by
        show (arrV _ n0 (fun j => va_rf (f j))).slots.getD _ _ = _
        rw [Array.getD_eq_getD_getElem?, arrV_read _ _ (by omega)]
        rfl
      rw [e9]
      cases hy : f (sp.toNatClampNeg + i) with
      | none => exact ⟨rfl, trivial⟩
      | some y =>
        obtain ⟨ci, fs, hy1, hy2⟩ := hel i hi y hy
        obtain ⟨cellV, g1, g2, ⟨kC, hkC⟩, hasg⟩ := any_of K P.2.1 hy1 hy2
        obtain ⟨kA, comp, r1, r2, r3, -⟩ := (K.1.2 3 _ (tysG_at (G := G) (by decide))).2
        cases hk1.symm.trans r1
        cases hkk1.symm.trans r2
        obtain ⟨kE, hkE, -⟩ := Vm.findClass_spec r3
        obtain ⟨kC', hkC', -⟩ := hal.2.2 _ _ hkC
        obtain ⟨kE', hkE', -⟩ := hal.2.2 _ _ hkE
        refine ⟨rfl, cellV, (show T.heap[y]? = some cellV by rw [hT]; exact g1), (fun q h => by rw [h] at g2; cases g2), ⟨kC', hkC'⟩, ?_, ?_⟩
        · exact ⟨kE', hkE'⟩
        · show vm₁.assignable _ _ = true
          rw [hal.assignable]
          exact hasg _ r3)
    (g := F0 m pc ls (.int n :: .int dp :: .ref a :: .int sp :: .ref a0 :: st)) rfl (by rw [E.2.2.2.2.1]; exact P.1.1) (rest := st) rfl (by rw [E.2.1]; exact hd) (by omega) (by show 2 * 0 + _ + _ ≤ _; rw [hnf]; omega)
  have e1 : copied (vp_cell (gA G 3) (n0, .inr (.inr (.inr (.inr f))))) (vp_cell (gA G 3) (n1, .inr (.inr (.inr (.inr g))))) sp dp n = vp_cell (gA G 3) (n1, .inr (.inr (.inr (.inr (va_cpy f g sp.toNatClampNeg dp.toNatClampNeg n.toNatClampNeg))))) := by
    rw [vp_cell_q, vp_cell_q, vp_cell_q]
    exact va_copied (fun z => va_rf z) _ _ f g h4
  rw [e1] at X' step
  have hl : a < H.size := (Array.getElem?_eq_some_iff.mp hm1).1
  have hheap : ((T.setVm vm').setCell a (vp_cell (gA G 3) (n1, .inr (.inr (.inr (.inr (va_cpy f g sp.toNatClampNeg dp.toNatClampNeg n.toNatClampNeg))))))).heap = H.setIfInBounds a (vp_cell (gA G 3) (n1, .inr (.inr (.inr (.inr (va_cpy f g sp.toNatClampNeg dp.toNatClampNeg n.toNatClampNeg)))))) := by rw [← hT]; rfl
  obtain ⟨t, a1, b1⟩ := kk p e R s m args below meth c E _ _ cells slots ls ⟨P.1, P.2.1.put hb (Or.inl ⟨hb, (show (H.setIfInBounds a _)[a]? = some _ by simp [Array.getElem?_setIfInBounds, hl])⟩) (by simp) (fun q hq => by simp [Array.getElem?_setIfInBounds, Ne.symm hq]), (fun q hq => by
      rcases List.mem_append.mp hq with h | h
      · exact P.2.2.1 q h
      · obtain ⟨z, -, hz⟩ := List.mem_map.mp h
        rw [← hz]
        exact hb), P.2.2.2⟩ _ hheap X'
  exact ⟨t, step t a1, b1⟩
def clW (own : String) (idx : Nat) : Prop := Cond.methodLink own idx ⟨"[I", "clone", "()Ljava/lang/Object;"⟩ ∈ TT ∧ Cond.sameMethod "[I" "java/lang/Object" "clone" "()Ljava/lang/Object;" ∈ TT ∧ Cond.native ⟨"java/lang/Object", "clone", "()Ljava/lang/Object;"⟩ ∈ TT ∧ Cond.instanceMethod ⟨"java/lang/Object", "clone", "()Ljava/lang/Object;"⟩ ∈ TT ∧ Cond.selects "[I" ⟨"[I", "clone", "()Ljava/lang/Object;"⟩ ⟨"java/lang/Object", "clone", "()Ljava/lang/Object;"⟩ ∈ TT ∧ Cond.castable "[I" "java/lang/Cloneable" ∈ TT
theorem x_cloneI {idx a n : Nat} {f : Nat → Int32} (hd : decode M.2.1 pc = .ok (.invokevirtual idx, 3)) (hw : clW M.1.cls idx) (hb : gb G ≤ a) (hc : h.1 a = some (.inl (0, n, .inl f))) (hdd : 1 ≤ d) (hrest : (st.map fun v => v.category).sum ≤ 8) (hroom : h.2.1 < gC G) (hsl : h.2.2 + n ≤ gS G) (kk : Jx G M d Q (pc + 3) lv (.ref h.2.1 :: st) (hnew h (.inl (0, n, .inl f)) n)) : Jx G M d Q pc lv (.ref a :: st) h := by
  intro p e R s m args below meth c E H locs cells slots ls P T hT X
  have K := E.2.2.2.2.2.2.2.2.2.2
  have f1 := E.2.2.2.2.2.2.2.2.1
  have f2 := E.2.2.2.2.2.2.2.2.2.1
  have p1 := P.2.2.2.1
  have p2 := P.2.2.2.2
  have hz := P.2.1.2.1
  have hbz := P.2.1.2.2.1
  have hnm0 : s.vm.findClass ("[" ++ (tyA 0).toString) = some (gA G 0) := (K.1.2 0 _ (tysG_at (G := G) (by decide))).2
  have hnm : s.vm.findClass "[I" = some (gA G 0) := by rw [show ("[I" : String) = "[" ++ (tyA 0).toString by decide +kernel]; exact hnm0
  have hm := arr_own hb (P.2.1.1 a _ hc)
  have hsz : (vp_cell (gA G 0) (n, .inl f)).slots.size = n := arrV_size _ _ _
  obtain ⟨c0, t0', g1, g2, g3⟩ := Cond.castable_spec (K.word (A := args) hw.2.2.2.2.2)
  cases hnm.symm.trans g1
  obtain ⟨-, kA, hkA, comp, hkind⟩ := State.isArrayOf_alike X.warmed.alike ((K.1.2 0 _ (tysG_at (G := G) (by decide))).1 0 (fun _ => .null))
  obtain ⟨-, kS, hkS, compS, hkindS⟩ := (K.1.2 0 _ (tysG_at (G := G) (by decide))).1 0 (fun _ => .null)
  obtain ⟨vm', X', st'⟩ := X.cloneArray E.1 E.2.2.2.2.2.1 (K.word hw.1) (K.word hw.2.1) (K.word hw.2.2.1) (K.word hw.2.2.2.1) (K.word hw.2.2.2.2.1) (a := a) (cell := vp_cell (gA G 0) (n, .inl f)) (by rw [hT]; exact hm) (fun k h => by cases h) (fun h => by cases h) hnm g2 g3
    (fun i v hv => by
      have hk' : T.vm.classes[gA G 0]? = some kA := hkA
      have hv' : (arrV (gA G 0) n (fun j => .int (f j))).slots[i]? = some v := hv
      have hin : i < n := by
        have := (Array.getElem?_eq_some_iff.mp hv').1
        rw [arrV_size] at this
        exact this
      rw [arrV_read _ _ hin] at hv'
      cases hv'
      show T.fitsSlot (gA G 0) .none i _ = true
      have hkt : kA.kind = .array comp .int := hkind
      simp [State.fitsSlot, State.slotType?, hk', hkt, fits])
    (g := F0 m pc ls (.ref a :: st)) rfl (by rw [E.2.2.2.2.1]; exact P.1.1) rfl (by rw [E.2.1]; exact hd) (by omega) (by show 2 * 0 + _ + 14 ≤ _; omega) (by omega) (by rw [hsz]; omega) (hloader := Vm.clonesLoader_of_array hkS hkindS)
  rw [hsz] at X'
  obtain ⟨t, b1, b2⟩ := kk p e R s m args below meth c E (H.push (vp_cell (gA G 0) (n, .inl f))) locs (cells + 1) (slots + n) ls ⟨P.1, P.2.1.new (Or.inl ⟨by omega, by rw [← hz, Array.getElem?_push_size]⟩) (by rw [Array.size_push, hz]) (fun q hq => by rw [Array.getElem?_push, if_neg (by omega)]), P.2.2.1, by show cells + 1 + (gC G - (h.2.1 + 1)) ≤ R.cells; omega, by show slots + n + (gS G - (h.2.2 + n)) ≤ R.slots; omega⟩
    ((T.setVm vm').pushCell (vp_cell (gA G 0) (n, .inl f))) (by rw [← hT]; rfl) X'
  refine ⟨t, st' t ?_, b2⟩
  rw [hT, hz]
  exact b1
end MOREX
def siteF (own : String) (idx : Nat) (x : MethodName) (M' : MD) (n ci : Nat) : Prop := siteC M' (n + 1) ∧ Cond.methodLink own idx x ∈ TT ∧ Cond.declares x ∈ TT ∧ Cond.interfaceMethod x.cls x.cls x.name x.desc ∈ TT ∧ Cond.instanceMethod M'.1 ∈ TT ∧ Cond.publicMethod M'.1 ∈ TT ∧ (∃ r, rkCl[ci]? = some r ∧ Cond.selects r.1 x M'.1 ∈ TT ∧ Cond.unhidden r.1 x.name x.desc ∈ TT ∧ Cond.castable r.1 x.cls ∈ TT) ∧ (parseMethodDescriptor x.desc).map (fun d => d.parameters.length) = some n ∧ (x.cls ≠ "java/lang/invoke/MethodHandle" ∧ x.cls ≠ "java/lang/invoke/VarHandle")
def siteU (own : String) (idx : Nat) (x : MethodName) (M' : MD) (n ci : Nat) : Prop := siteC M' (n + 1) ∧ Cond.methodLink own idx x ∈ TT ∧ Cond.declares x ∈ TT ∧ Cond.sameMethod x.cls x.cls x.name x.desc ∈ TT ∧ Cond.instanceMethod M'.1 ∈ TT ∧ (∃ r, rkCl[ci]? = some r ∧ Cond.selects r.1 x M'.1 ∈ TT) ∧ (parseMethodDescriptor x.desc).map (fun d => d.parameters.length) = some n ∧ (x.cls ≠ "java/lang/invoke/MethodHandle" ∧ x.cls ≠ "java/lang/invoke/VarHandle")
section CALLY
variable {G : GT} {M : MD} {d' : Nat} {Q : Outcome → Hp → Prop} {pc : Nat} {lv : List (Option Value)} {st : List Value} {h : Hp}
theorem x_callF {M' : MD} {x : MethodName} {n idx b ci cnt : Nat} {fs : List Value} (hd : decode M.2.1 pc = .ok (.invokeinterface idx cnt, 5)) (hS : siteF M.1.cls idx x M' n ci) (hb : st[n]? = some (.ref b)) (hc : h.1 b = some (.inr (ci, fs))) (hcat : (st.take (n + 1)).all (fun v => v.category == 1) = true) (hrest : ((st.drop (n + 1)).map fun v => v.category).sum ≤ 8) (hno : M.2.2.2.2 = []) (hj : Cx G M' d' (st.take (n + 1)).reverse h (Kc G M (d' + 1) Q (pc + 5) lv (st.drop (n + 1)))) : Jx G M (d' + 1) Q pc lv st h := by
  intro p e R s m args below meth c E H locs cells slots ls P T hT X
  have K := E.2.2.2.2.2.2.2.2.2.2
  obtain ⟨⟨hcode, hpl, hy, hL, hAl, hini⟩, hlink, hdecl, hface, hinst, hpub, ⟨r, hr, hsel, hunh, hcast⟩, hpar, hx⟩ := hS
  obtain ⟨mk, methk, ck, c1, c2, c3, c4, c5, c6, c7, c8, c9⟩ := codeW_facts (K.word (A := args) hcode)
  have hb' := (List.getElem?_eq_some_iff.mp hb).1
  have hlen0 : (st.take n).reverse.length = n := by simp; omega
  have hlen : (st.take (n + 1)).reverse.length = n + 1 := by simp; omega
  refine call_on hL (take_cat hcat) (by rw [hlen]; exact hAl) hpl hno E P hT X hrest hd c1 c2 c3 c4 c5 c6 c7 c8 ?_ hj
  obtain ⟨cellB, hcB, hoB, hclB⟩ := va_recv K.1 (va_P1 (P.2.1.1 b _ hc).2) hr (q0 := 0) rfl
  obtain ⟨kB, hkB, -⟩ := Vm.findClass_spec hclB
  obtain ⟨r0, rr, hn, hrm, hstR, hsigR⟩ := Cond.declares_spec (K.word (A := args) hdecl)
  obtain ⟨cL, kL, r1, hcL, hkL, hiL, hfoundL, hn1⟩ := Cond.interfaceMethod_spec (K.word (A := args) hface)
  cases hn.symm.trans hn1
  have hr0cls : r0.cls = cL := Option.some.inj ((findClass_of_methodNamed hn).symm.trans hcL)
  obtain ⟨hnameR, hdescR⟩ := name_of_methodNamed hn hrm
  obtain ⟨mk2, methM, hnamed, hmethM, -, habM⟩ := Cond.instanceMethod_spec (K.word (A := args) hinst)
  cases c1.symm.trans hnamed
  cases c2.symm.trans hmethM
  obtain ⟨c2', r2, m2, q1, q2, q3, q4, -⟩ := Cond.selects_spec (K.word (A := args) hsel)
  cases hclB.symm.trans q1
  cases hfoundL.symm.trans q2
  cases c1.symm.trans q3
  have hselP : selectMethod e.platform s.vm cellB.cls r0 = .method mk := by rw [Launch.admits_selectMethod X.admits]; exact q4
  have hpubM : hasFlag methk.accessFlags Acc.public_ = true := Cond.publicMethod_spec c1 c2 (K.word (A := args) hpub)
  have hway : ((cellB.cls :: s.vm.superclasses cellB.cls).any fun k => (declaredIn s.vm rr.name rr.desc k).any fun (_, z) => z.isPrivate || z.isStatic) = false := by
    rw [hnameR, hdescR]; exact Cond.unhidden_spec hclB (K.word (A := args) hunh)
  obtain ⟨c3', t3, w1, w2, w3⟩ := Cond.castable_spec (K.word (A := args) hcast)
  cases hclB.symm.trans w1
  cases hcL.symm.trans w2
  rw [take_recv hb]
  exact X.invokeinterface E.1 E.2.2.2.2.2.1 (K.word hlink) hn hrm hstR (by rw [hr0cls]; exact hkL) hiL hx (a := b) (cell := cellB) (kcell := kB) (by rw [hT]; exact hcB)
    (fun z q => by rw [q] at hoB; cases hoB) hkB (by rw [hr0cls]; exact w3) hselP c2 hway hpubM habM (g := F0 m pc ls st) rfl (argsL := (st.take n).reverse) (rest := st.drop (n + 1)) (parm_len hpar hsigR hlen0) (take_split hb) (by rw [E.2.1]; exact hd)
theorem x_callU {M' : MD} {x : MethodName} {n idx b ci : Nat} {fs : List Value} (hd : decode M.2.1 pc = .ok (.invokevirtual idx, 3)) (hS : siteU M.1.cls idx x M' n ci) (hb : st[n]? = some (.ref b)) (hc : h.1 b = some (.inr (ci, fs))) (hcat : (st.take (n + 1)).all (fun v => v.category == 1) = true) (hrest : ((st.drop (n + 1)).map fun v => v.category).sum ≤ 8) (hno : M.2.2.2.2 = []) (hj : Cx G M' d' (st.take (n + 1)).reverse h (Kc G M (d' + 1) Q (pc + 3) lv (st.drop (n + 1)))) : Jx G M (d' + 1) Q pc lv st h := by
  intro p e R s m args below meth c E H locs cells slots ls P T hT X
  have K := E.2.2.2.2.2.2.2.2.2.2
  obtain ⟨⟨hcode, hpl, hy, hL, hAl, hini⟩, hlink, hdecl, hsame, hinst, ⟨r, hr, hsel⟩, hpar, hx⟩ := hS
  obtain ⟨mk, methk, ck, c1, c2, c3, c4, c5, c6, c7, c8, c9⟩ := codeW_facts (K.word (A := args) hcode)
  have hb' := (List.getElem?_eq_some_iff.mp hb).1
  have hlen0 : (st.take n).reverse.length = n := by simp; omega
  have hlen : (st.take (n + 1)).reverse.length = n + 1 := by simp; omega
  refine call_on hL (take_cat hcat) (by rw [hlen]; exact hAl) hpl hno E P hT X hrest hd c1 c2 c3 c4 c5 c6 c7 c8 ?_ hj
  obtain ⟨cellB, hcB, hoB, hclB⟩ := va_recv K.1 (va_P1 (P.2.1.1 b _ hc).2) hr (q0 := 0) rfl
  obtain ⟨r0, rr, hn, hrm, hstR, hsigR⟩ := Cond.declares_spec (K.word (A := args) hdecl)
  obtain ⟨cn, ckk, r1, hcn, hckk, hni, hf, hn1⟩ := Cond.sameMethod_found (K.word (A := args) hsame)
  cases hn.symm.trans hn1
  obtain ⟨mk2, methM, hnamed, hmethM, -, habM⟩ := Cond.instanceMethod_spec (K.word (A := args) hinst)
  cases c1.symm.trans hnamed
  cases c2.symm.trans hmethM
  obtain ⟨c2', r2, m2, q1, q2, q3, q4, kP, hkP, hkPi⟩ := Cond.selects_spec (K.word (A := args) hsel)
  cases hclB.symm.trans q1
  cases hf.symm.trans q2
  cases c1.symm.trans q3
  have hselP : selectMethod e.platform s.vm cellB.cls r0 = .method mk := by rw [Launch.admits_selectMethod X.admits]; exact q4
  rw [take_recv hb]
  exact X.invokevirtualUp E.1 E.2.2.2.2.2.1 (K.word hlink) (K.word hsame) hx hn hrm hstR (a := b) (cell := cellB) (by rw [hT]; exact hcB) (fun z q => by rw [q] at hoB; cases hoB) hselP c2 habM hkP hkPi (g := F0 m pc ls st) rfl (argsL := (st.take n).reverse) (rest := st.drop (n + 1)) (parm_len hpar hsigR hlen0) (take_split hb) (by rw [E.2.1]; exact hd)
end CALLY
