theorem tysG_at {G : GT} {tg : Nat} (ht : tg < 4) : (tysG G)[tg]? = some (gA G tg, tyA tg) := by
  match tg, ht with
  | 0, _ => rfl
  | 1, _ => rfl
  | 2, _ => rfl
  | 3, _ => rfl
theorem arr_facts {G : GT} {s : State} {a tg : Nat} {x : vp_A} {H : Heap} (K : GU G s) (ht : tg < 4) (h : cellAt G s a (.inl (tg, x)) H) : ∃ cell : Cell, H[a]? = some cell ∧ s.isArrayOf cell (tyA tg) ∧ cell.vm ≠ .unknown ∧ cell.slots.size = x.1 ∧ ∀ j, j < x.1 → cell.slots[j]? = some (vA x j) := by
  rcases h with ⟨-, h⟩ | ⟨-, h⟩
  · refine ⟨_, h, ?_, ?_, ?_, ?_⟩
    · show s.isArrayOf (vp_cell (gA G tg) x) (tyA tg)
      rw [vA_cell]
      exact (K.1.2 tg _ (tysG_at ht)).1 x.1 (vA x)
    · show (vp_cell (gA G tg) x).vm ≠ .unknown
      rw [vA_cell]
      exact fun q => by cases q
    · show (vp_cell (gA G tg) x).slots.size = x.1
      rw [vA_cell, arrV_size]
    · intro j hj
      show (vp_cell (gA G tg) x).slots[j]? = some (vA x j)
      rw [vA_cell, arrV_read _ _ hj]
  · exact h
theorem in_lt {i : Int32} {n : Nat} (h : vp_in i n) : i.toNatClampNeg < n := Nat.not_le.mp fun q => h (Or.inr q)
theorem va_P1 {D : va_G} {cl : List vw_C} {q : Nat × va_E} {H : Heap} (h : va_at D cl q H) : va_P D cl [q] H := by
  intro k x hx
  have hz : k < 1 := (List.getElem?_eq_some_iff.mp hx).1
  rw [show k = 0 by omega] at hx
  cases hx
  exact h
section HEAPX
variable {G : GT} {M : MD} {d : Nat} {Q : Outcome → Hp → Prop} {pc : Nat} {lv : List (Option Value)} {st : List Value} {h : Hp}
theorem x_iaload {a n : Nat} {f : Nat → Int32} {i : Int32} (hd : decode M.2.1 pc = .ok (.iaload, 1)) (hc : h.1 a = some (.inl (0, n, .inl f))) (hi : vp_in i n) (kk : Jx G M d Q (pc + 1) lv (.int (f i.toNatClampNeg) :: st) h) : Jx G M d Q pc lv (.int i :: .ref a :: st) h := by
  intro p e R s m args below meth c E H locs cells slots ls P
  obtain ⟨cell, c1, c2, c3, c4, c5⟩ := arr_facts E.2.2.2.2.2.2.2.2.2.2 (by decide) (P.2.1.1 a _ hc)
  exact W.iald E.1 E.2.1 c1 c2 c3 (by rw [c4]; exact hi) (c5 _ (in_lt hi)) rfl rfl hd (kk p e R s m args below meth c E H locs cells slots ls P)
theorem x_zaload {a n : Nat} {f : Nat → Int32} {i : Int32} (hd : decode M.2.1 pc = .ok (.baload, 1)) (hc : h.1 a = some (.inl (1, n, .inl f))) (hi : vp_in i n) (kk : Jx G M d Q (pc + 1) lv (.int (f i.toNatClampNeg) :: st) h) : Jx G M d Q pc lv (.int i :: .ref a :: st) h := by
  intro p e R s m args below meth c E H locs cells slots ls P
  obtain ⟨cell, c1, c2, c3, c4, c5⟩ := arr_facts E.2.2.2.2.2.2.2.2.2.2 (by decide) (P.2.1.1 a _ hc)
  exact W.zald E.1 E.2.1 c1 c2 c3 (by rw [c4]; exact hi) (c5 _ (in_lt hi)) rfl rfl hd (kk p e R s m args below meth c E H locs cells slots ls P)
theorem x_laload {a n : Nat} {f : Nat → Int64} {i : Int32} (hd : decode M.2.1 pc = .ok (.laload, 1)) (hc : h.1 a = some (.inl (2, n, .inr (.inl f)))) (hi : vp_in i n) (kk : Jx G M d Q (pc + 1) lv (.long (f i.toNatClampNeg) :: st) h) : Jx G M d Q pc lv (.int i :: .ref a :: st) h := by
  intro p e R s m args below meth c E H locs cells slots ls P
  obtain ⟨cell, c1, c2, c3, c4, c5⟩ := arr_facts E.2.2.2.2.2.2.2.2.2.2 (by decide) (P.2.1.1 a _ hc)
  exact W.lald E.1 E.2.1 c1 c2 c3 (by rw [c4]; exact hi) (c5 _ (in_lt hi)) rfl rfl hd (kk p e R s m args below meth c E H locs cells slots ls P)
theorem x_aaload {a n : Nat} {f : Nat → Option Nat} {i : Int32} (hd : decode M.2.1 pc = .ok (.aaload, 1)) (hc : h.1 a = some (.inl (3, n, .inr (.inr (.inr (.inr f)))))) (hi : vp_in i n) (kk : Jx G M d Q (pc + 1) lv (va_rf (f i.toNatClampNeg) :: st) h) : Jx G M d Q pc lv (.int i :: .ref a :: st) h := by
  intro p e R s m args below meth c E H locs cells slots ls P
  obtain ⟨cell, c1, c2, c3, c4, c5⟩ := arr_facts E.2.2.2.2.2.2.2.2.2.2 (by decide) (P.2.1.1 a _ hc)
  exact W.aald E.1 E.2.1 c1 c2 rfl c3 (by rw [c4]; exact hi) (c5 _ (in_lt hi)) rfl rfl hd (kk p e R s m args below meth c E H locs cells slots ls P)
theorem x_alen {a tg : Nat} {x : vp_A} (hd : decode M.2.1 pc = .ok (.arraylength, 1)) (hc : h.1 a = some (.inl (tg, x))) (ht : tg < 4) (kk : Jx G M d Q (pc + 1) lv (.int (nI x.1) :: st) h) : Jx G M d Q pc lv (.ref a :: st) h := by
  intro p e R s m args below meth c E H locs cells slots ls P
  obtain ⟨cell, c1, c2, c3, c4, c5⟩ := arr_facts E.2.2.2.2.2.2.2.2.2.2 ht (P.2.1.1 a _ hc)
  exact W.alen (n := nI x.1) E.1 E.2.1 c1 c2 (by rw [c4]; rfl) rfl rfl hd (kk p e R s m args below meth c E H locs cells slots ls P)
theorem arr_own {s : State} {a tg : Nat} {x : vp_A} {H : Heap} (hb : gb G ≤ a) (h : cellAt G s a (.inl (tg, x)) H) : H[a]? = some (vp_cell (gA G tg) x) := by
  rcases h with ⟨-, h⟩ | ⟨h, -⟩
  · exact h
  · omega
theorem x_iastore {a n : Nat} {f : Nat → Int32} {i x : Int32} (hd : decode M.2.1 pc = .ok (.iastore, 1)) (hb : gb G ≤ a) (hc : h.1 a = some (.inl (0, n, .inl f))) (hi : vp_in i n) (kk : Jx G M d Q (pc + 1) lv st (hput h a (.inl (0, n, .inl (upd f i.toNatClampNeg x))))) : Jx G M d Q pc lv (.int x :: .int i :: .ref a :: st) h := by
  intro p e R s m args below meth c E H locs cells slots ls P
  have K := E.2.2.2.2.2.2.2.2.2.2
  refine W.iast E.1 E.2.1 (arr_own hb (P.2.1.1 a _ hc)) ((K.1.2 0 _ (tysG_at (by decide))).1 n (fun j => .int (f j))) (fun q => by cases q) (by show ¬ (i < 0 ∨ (arrV _ _ _).slots.size ≤ _); rw [arrV_size]; exact hi) rfl rfl hd fun H1 e1 z oq => ?_
  refine kk p e R s m args below meth c E H1 _ cells slots ls ⟨P.1, P.2.1.put hb (Or.inl ⟨hb, ?_⟩) z oq, t_lc P.2.2.1 hb, P.2.2.2⟩
  rw [e1, vp_cell_i, vp_cell_i, arrV_store]
  congr 2
  funext q
  by_cases hq : q = i.toNatClampNeg
  · subst hq
    simp [updV, upd]
  · simp [updV, upd, hq]
theorem x_zastore {a n : Nat} {f : Nat → Int32} {i x : Int32} (hd : decode M.2.1 pc = .ok (.bastore, 1)) (hb : gb G ≤ a) (hc : h.1 a = some (.inl (1, n, .inl f))) (hi : vp_in i n) (hx : narrow .boolean (.int x) = .int x) (kk : Jx G M d Q (pc + 1) lv st (hput h a (.inl (1, n, .inl (upd f i.toNatClampNeg x))))) : Jx G M d Q pc lv (.int x :: .int i :: .ref a :: st) h := by
  intro p e R s m args below meth c E H locs cells slots ls P
  have K := E.2.2.2.2.2.2.2.2.2.2
  refine W.zast E.1 E.2.1 (arr_own hb (P.2.1.1 a _ hc)) ((K.1.2 1 _ (tysG_at (by decide))).1 n (fun j => .int (f j))) (fun q => by cases q) (by show ¬ (i < 0 ∨ (arrV _ _ _).slots.size ≤ _); rw [arrV_size]; exact hi) rfl rfl hd fun H1 e1 z oq => ?_
  refine kk p e R s m args below meth c E H1 _ cells slots ls ⟨P.1, P.2.1.put hb (Or.inl ⟨hb, ?_⟩) z oq, t_lc P.2.2.1 hb, P.2.2.2⟩
  rw [hx] at e1
  rw [e1, vp_cell_i, vp_cell_i, arrV_store]
  congr 2
  funext q
  by_cases hq : q = i.toNatClampNeg
  · subst hq
    simp [updV, upd]
  · simp [updV, upd, hq]
theorem x_lastore {a n : Nat} {f : Nat → Int64} {i : Int32} {x : Int64} (hd : decode M.2.1 pc = .ok (.lastore, 1)) (hb : gb G ≤ a) (hc : h.1 a = some (.inl (2, n, .inr (.inl f)))) (hi : vp_in i n) (kk : Jx G M d Q (pc + 1) lv st (hput h a (.inl (2, n, .inr (.inl (vp_updL f i.toNatClampNeg x)))))) : Jx G M d Q pc lv (.long x :: .int i :: .ref a :: st) h := by
  intro p e R s m args below meth c E H locs cells slots ls P
  have K := E.2.2.2.2.2.2.2.2.2.2
  refine W.last E.1 E.2.1 (arr_own hb (P.2.1.1 a _ hc)) ((K.1.2 2 _ (tysG_at (by decide))).1 n (fun j => .long (f j))) (fun q => by cases q) (by show ¬ (i < 0 ∨ (arrV _ _ _).slots.size ≤ _); rw [arrV_size]; exact hi) rfl rfl hd fun H1 e1 z oq => ?_
  refine kk p e R s m args below meth c E H1 _ cells slots ls ⟨P.1, P.2.1.put hb (Or.inl ⟨hb, ?_⟩) z oq, t_lc P.2.2.1 hb, P.2.2.2⟩
  rw [e1, vp_cell_l, vp_cell_l, arrV_store]
  congr 2
  funext q
  by_cases hq : q = i.toNatClampNeg
  · subst hq
    simp [updV, vp_updL]
  · simp [updV, vp_updL, hq]
theorem x_getf {a ci k idx N : Nat} {fs : List Value} {v : Value} {Cn ref : String} {T : u_T} (hd : decode M.2.1 pc = .ok (.getfield idx, 3)) (hc : h.1 a = some (.inr (ci, fs))) (hcl : rkCl[ci]? = some (Cn, T, N)) (hin : ∀ w ∈ u_ws Cn T N, w ∈ TT) (hk : k < N) (hlink : Cond.fieldLink M.1.cls idx ref (T k).2.1 (T k).2.2.1 ∈ TT) (hsame : ref = (T k).1 ∨ Cond.sameField ref (T k).1 (T k).2.1 (T k).2.2.1 ∈ TT) (hv : fs[k]? = some v) (kk : Jx G M d Q (pc + 3) lv (v :: st) h) : Jx G M d Q pc lv (.ref a :: st) h := by
  intro p e R s m args below meth c E H locs cells slots ls P
  have K := E.2.2.2.2.2.2.2.2.2.2
  refine va_get E.1 E.2.1 (ws := [(a, .inr (ci, fs))]) (Ts := TT) (fun w hw => K.word hw) hin E.2.2.2.2.2.1 K.1 (va_P1 (P.2.1.1 a _ hc).2) 0 rfl hcl k hk (K.word hlink) (fun x hx => ?_) hv hd (kk p e R s m args below meth c E H locs cells slots ls P)
  rcases hsame with rfl | hsame
  · exact hx
  · exact u_same (args := args) (K.word hsame) x hx
theorem x_putf {a ci k idx N : Nat} {fs : List Value} {v : Value} {Cn ref : String} {T : u_T} {ty0 : Nat → FieldType} (hd : decode M.2.1 pc = .ok (.putfield idx, 3)) (hc : h.1 a = some (.inr (ci, fs))) (hcl : rkCl[ci]? = some (Cn, T, N)) (hin : ∀ w ∈ u_ws Cn T N, w ∈ TT) (hty : ∀ k, k < N → parseFieldDescriptor (T k).2.2.1 = some (ty0 k)) (hnm : ∀ a, a < N → ∀ b, b < N → a ≠ b → (T a).2.1 ≠ (T b).2.1) (hk : k < N) (hlink : Cond.fieldLink M.1.cls idx ref (T k).2.1 (T k).2.2.1 ∈ TT) (hsame : ref = (T k).1 ∨ Cond.sameField ref (T k).1 (T k).2.1 (T k).2.2.1 ∈ TT) (hfin : (T k).2.2.2 = false) (hn : narrow (ty0 k) v = v) (hfit : fits (ty0 k) v = true) (hl : k < fs.length) (kk : Jx G M d Q (pc + 3) lv st (hput h a (.inr (ci, fs.set k v)))) : Jx G M d Q pc lv (v :: .ref a :: st) h := by
  intro p e R s m args below meth c E H locs cells slots ls P
  have K := E.2.2.2.2.2.2.2.2.2.2
  have hb : gb G ≤ a := (P.2.1.1 a _ hc).1
  have hts : ∀ w ∈ TT, w.before args s = true := fun w hw => K.word hw
  have hap := va_apart (own := M.1.cls) hts hin ty0 hty hnm K.1 hcl
  obtain ⟨r, h1, cell, q1, q2, q3, q4⟩ := (P.2.1.1 a _ hc).2
  have hr : r = (Cn, T, N) := Option.some.inj (h1.symm.trans hcl)
  subst hr
  obtain ⟨hS, hfc, kC, hkC, hkind⟩ := K.1.1 ci _ hcl
  obtain ⟨cf, kf, fi, f, hi, hsl⟩ := hS k hk
  have hlay := hts _ (hin _ (u_in_lay hk))
  unfold u_lay at hlay
  rw [if_neg (by rw [hfin]; decide)] at hlay
  have hst := (u_facts hfc hkC (u_lays hts hin hk) hi).1
  have h6 := u_store hfc hkC hkind hlay hi (hty k hk) hn hfit
  have hi2 : s.fieldFound? ref (T k).2.1 (T k).2.2.1 = some (cf, kf, fi, f) := by
    rcases hsame with rfl | hsame
    · exact hi
    · exact u_same (args := args) (K.word hsame) _ hi
  refine W.putK E.1 E.2.1 (f := f) ⟨E.2.2.2.2.2.1, hts _ hlink, ⟨_, _, _, hi2⟩, hst⟩ (by rw [q2]; exact h6) q1 q3 (by rw [hsl]; exact k2_hasslot (q4 k hk)) rfl rfl hd fun H1 e1 e2 e3 => ?_
  rw [hsl] at e1 ⊢
  exact kk p e R s m args below meth c E H1 _ cells slots ls ⟨P.1, P.2.1.put hb ⟨hb, _, hcl, t_OB.to (V := updV (vp_V fs) k v) ⟨_, e1, q2, q3, t_set q4 hap hk v⟩ (fun j _ => vp_updV_set hl v j)⟩ e2 e3, t_lc P.2.2.1 hb, P.2.2.2⟩
theorem x_putF {a ci k idx N : Nat} {fs : List Value} {v : Value} {Cn : String} {T : u_T} {ty0 : Nat → FieldType} (hd : decode M.2.1 pc = .ok (.putfield idx, 3)) (hc : h.1 a = some (.inr (ci, fs))) (hcl : rkCl[ci]? = some (Cn, T, N)) (hin : ∀ w ∈ u_ws Cn T N, w ∈ TT) (hty : ∀ k, k < N → parseFieldDescriptor (T k).2.2.1 = some (ty0 k)) (hnm : ∀ a, a < N → ∀ b, b < N → a ≠ b → (T a).2.1 ≠ (T b).2.1) (hk : k < N) (hlink : Cond.fieldLink M.1.cls idx (T k).1 (T k).2.1 (T k).2.2.1 ∈ TT) (hfin : (T k).2.2.2 = true) (hin2 : M.1.name = "<init>") (hdecl : (T k).1 = M.1.cls) (hn : narrow (ty0 k) v = v) (hfit : fits (ty0 k) v = true) (hl : k < fs.length) (kk : Jx G M d Q (pc + 3) lv st (hput h a (.inr (ci, fs.set k v)))) : Jx G M d Q pc lv (v :: .ref a :: st) h := by
  intro p e R s m args below meth c E H locs cells slots ls P
  have K := E.2.2.2.2.2.2.2.2.2.2
  have hb : gb G ≤ a := (P.2.1.1 a _ hc).1
  have hts : ∀ w ∈ TT, w.before args s = true := fun w hw => K.word hw
  have hap := va_apart (own := M.1.cls) hts hin ty0 hty hnm K.1 hcl
  obtain ⟨r, h1, cell, q1, q2, q3, q4⟩ := (P.2.1.1 a _ hc).2
  have hr : r = (Cn, T, N) := Option.some.inj (h1.symm.trans hcl)
  subst hr
  obtain ⟨hS, hfc, kC, hkC, hkind⟩ := K.1.1 ci _ hcl
  obtain ⟨cf, kf, fi, f, hi, hsl⟩ := hS k hk
  have hlay := hts _ (hin _ (u_in_lay hk))
  unfold u_lay at hlay
  rw [if_pos hfin] at hlay
  have hst := (u_facts hfc hkC (u_lays hts hin hk) hi).1
  have hown := E.2.2.2.2.2.1
  have hcf : m.cls = cf := by
    obtain ⟨_, _, c', _, _, _, -, -, hf', -, -, -, hown2, -⟩ := Cond.laysFinal_spec hlay
    have e1 : c' = cf := by have := hi.symm.trans hf'; simp at this; exact this.1.symm
    rw [hdecl] at hown2
    rw [← e1]; exact Option.some.inj (hown.symm.trans hown2)
  have h6 := u_fits hfc hkC hkind (Or.inr hlay) hi (hty k hk) hn hfit
  refine W.putFinK E.1 E.2.1 hown (hts _ hlink) hi hst hcf (E.2.2.2.2.2.2.1.trans hin2) (by rw [q2]; exact h6) q1 q3 (by rw [hsl]; exact k2_hasslot (q4 k hk)) rfl rfl hd fun H1 e1 e2 e3 => ?_
  rw [hsl] at e1 ⊢
  exact kk p e R s m args below meth c E H1 _ cells slots ls ⟨P.1, P.2.1.put hb ⟨hb, _, hcl, t_OB.to (V := updV (vp_V fs) k v) ⟨_, e1, q2, q3, t_set q4 hap hk v⟩ (fun j _ => vp_updV_set hl v j)⟩ e2 e3, t_lc P.2.2.1 hb, P.2.2.2⟩
theorem x_new {ci idx N : Nat} {fs : List Value} {Cn : String} {T : u_T} {ty0 : Nat → FieldType} (hd : decode M.2.1 pc = .ok (.new idx, 3)) (hcl : rkCl[ci]? = some (Cn, T, N)) (hin : ∀ w ∈ u_ws Cn T N, w ∈ TT) (hty : ∀ k, k < N → parseFieldDescriptor (T k).2.2.1 = some (ty0 k)) (hlink : Cond.classLink M.1.cls idx Cn ∈ TT) (hinst : Cond.instantiable Cn N ∈ TT) (hini : Cond.initialized Cn ∈ TT) (hfs : ∀ j, j < N → defaultValue (ty0 j) = vp_V fs j) (hroom : h.2.1 < gC G) (hsl : h.2.2 + N ≤ gS G) (kk : Jx G M d Q (pc + 3) lv (.ref h.2.1 :: st) (hnew h (.inr (ci, fs)) N)) : Jx G M d Q pc lv st h := by
  intro p e R s m args below meth c E H locs cells slots ls P
  have K := E.2.2.2.2.2.2.2.2.2.2
  have hts : ∀ w ∈ TT, w.before args s = true := fun w hw => K.word hw
  have hKn := K.1.1 ci _ hcl
  have p1 := P.2.2.2.1
  have p2 := P.2.2.2.2
  refine W.newcK E.1 E.2.1 E.2.2.2.2.2.1 (hts _ hlink) (hts _ hinst) (hts _ hini) rfl hd (by omega) (by omega) hKn.2.1 P.2.1.2.1 fun H1 kC hkC e1 z1 o1 => ?_
  have hP1 : HP G s (hnew h (.inr (ci, fs)) N) H1 := by
    have hb := P.2.1.2.2.1
    have hz := P.2.1.2.1
    refine P.2.1.new ⟨by omega, _, hcl, (u_born ty0 hts hin hKn hkC e1 hty).to hfs⟩ z1 o1
  exact kk p e R s m args below meth c E H1 locs (cells + 1) (slots + N) ls ⟨P.1, hP1, P.2.2.1, by show cells + 1 + (gC G - (h.2.1 + 1)) ≤ R.cells; omega, by show slots + N + (gS G - (h.2.2 + N)) ≤ R.slots; omega⟩
theorem x_wf (kk : (∀ a e, h.1 a = some e → a < h.2.1) → (∀ a o, h.1 a = some (.inr o) → gb G ≤ a) → gb G ≤ h.2.1 → Jx G M d Q pc lv st h) : Jx G M d Q pc lv st h := by
  intro p e R s m args below meth c E H locs cells slots ls P
  have hz := P.2.1.2.1
  have hb := P.2.1.2.2.1
  exact kk (fun a x hx => by have := (P.2.1.1 a x hx).lt; omega) (fun a o ho => (P.2.1.1 a _ ho).1) (by omega) p e R s m args below meth c E H locs cells slots ls P
theorem x_topi {x y : Int32} (hxy : x = y) (kk : Jx G M d Q pc lv (.int y :: st) h) : Jx G M d Q pc lv (.int x :: st) h := hxy ▸ kk
end HEAPX
theorem hput_self (h : Hp) (a : Nat) (e : Ee) : (hput h a e).1 a = some e := va_up_self _ _ _
theorem hput_ne (h : Hp) (a : Nat) (e : Ee) {x : Nat} (hx : x ≠ a) : (hput h a e).1 x = h.1 x := va_up_ne _ _ hx
theorem hput_2 (h : Hp) (a : Nat) (e : Ee) : (hput h a e).2 = h.2 := rfl
theorem hnew_self (h : Hp) (e : Ee) (n : Nat) : (hnew h e n).1 h.2.1 = some e := va_up_self _ _ _
theorem hnew_ne (h : Hp) (e : Ee) (n : Nat) {x : Nat} (hx : x ≠ h.2.1) : (hnew h e n).1 x = h.1 x := va_up_ne _ _ hx
theorem hnew_2 (h : Hp) (e : Ee) (n : Nat) : (hnew h e n).2 = (h.2.1 + 1, h.2.2 + n) := rfl
