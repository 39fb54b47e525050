theorem ct_row {Q : Handler → Pre} {E : CtlPost} {e : Env} {d : Bool} {acts : List Action} {s : State} {f : JFrame} {a : Addr} {x : ExceptionTableEntry} {t : List ExceptionTableEntry} {c : ClassId} {cell : Cell} {k1 k2 : Class} (hx : covers x f.pc = true) (h0 : x.catchType ≠ 0) (hl : s.vm.ClassLinks e.platform f.method.cls x.catchType c) (hcell : s.heap[a]? = some cell) (hobj : ∀ k, cell.vm ≠ .statics k) (hk1 : s.vm.classes[cell.cls]? = some k1) (hk2 : s.vm.classes[c]? = some k2) :
    wp (findHandler.go f a (x :: t)) Q E e d acts s ↔ if s.vm.assignable cell.cls c = true then Q (.found x.handlerPc) d acts (s.setVm (s.vm.noted f.method.cls x.catchType (.cls c))) else wp (findHandler.go f a t) Q E e d acts (s.setVm (s.vm.noted f.method.cls x.catchType (.cls c))) := by
  have hal : s.vm.Alike (s.vm.noted f.method.cls x.catchType (.cls c)) := (Vm.Alike.refl s.vm).noted _ _ _
  obtain ⟨q1, g1, -⟩ := hal.2.2 _ _ hk1
  obtain ⟨q2, g2, -⟩ := hal.2.2 _ _ hk2
  obtain ⟨o1, o2⟩ := (resolveClass_links e.toSetting hl).op (op := VmOp.resolveClass f.method.cls x.catchType) rfl
  simp only [covers] at hx
  generalize hfit : s.vm.assignable cell.cls c = b
  rw [← hal.assignable] at hfit
  cases b <;> simp [findHandler.go, hx, h0, o1, o2, hcell, hobj, g1, g2, hfit, VmOp.dirties, VmOp.acts]
def ctF (s : State) (pl : Platform) (d : ClassId) (pc : Nat) (thrown : ClassId) (hp : Nat) : List ExceptionTableEntry → Prop
  | [] => False
  | x :: t => covers x pc = true ∧ x.catchType ≠ 0 ∧ ∃ c, s.vm.ClassLinks pl d x.catchType c ∧ ((s.vm.assignable thrown c = true ∧ x.handlerPc = hp) ∨ (s.vm.assignable thrown c = false ∧ ctF s pl d pc thrown hp t))
theorem ct_find {e : Env} {s : State} {f : JFrame} {a : Addr} {cell : Cell} {k0 : Class} (hobj : ∀ k, cell.vm ≠ .statics k) (hk0 : s.vm.classes[cell.cls]? = some k0) {hp : Nat} : ∀ (l : List ExceptionTableEntry) (S : State), ctF s e.platform f.method.cls f.pc cell.cls hp l → s.WarmedH S.vm → S.heap[a]? = some cell → ∃ vm', s.WarmedH vm' ∧ ∀ (Q : Handler → Pre) (E : CtlPost) (d : Bool) (acts : List Action), wp (findHandler.go f a l) Q E e d acts S ↔ Q (.found hp) d acts (S.setVm vm')
  | [], S, h, _, _ => h.elim
  | x :: t, S, h, hW, hcell => by
    obtain ⟨hx, h0, c, hl, h⟩ := h
    obtain ⟨dk, _, _, kt, hd, _, _, _, _, hkt, _, hopen⟩ := hl.here
    obtain ⟨q0, g0, -⟩ := hW.alike.2.2 _ _ hk0
    obtain ⟨qt, gt, -⟩ := hW.alike.2.2 _ _ hkt
    have hN := hW.noted hd hopen (State.rightAt_cls hl)
    rcases h with ⟨hfit, hpc⟩ | ⟨hfit, h⟩
    · refine ⟨_, hN, fun Q E d acts => ?_⟩
      rw [ct_row hx h0 (hW.classLinks hl) hcell hobj g0 gt, hW.alike.assignable, if_pos hfit, hpc]
    · obtain ⟨vm', h1, h2⟩ := ct_find hobj hk0 t (S.setVm (S.vm.noted f.method.cls x.catchType (.cls c))) h hN hcell
      refine ⟨vm', h1, fun Q E d acts => ?_⟩
      rw [ct_row hx h0 (hW.classLinks hl) hcell hobj g0 gt, hW.alike.assignable, if_neg (by rw [hfit]; decide)]
      exact h2 Q E d acts
theorem ct_step {tb : Tables} {e : Env} {s target : State} {g : JFrame} {c : Code} {below : List Frame} {a : Addr} (h : At s g.method c below) {pc : Nat} {vm' : Vm} (hf : ∀ (Q : Handler → Pre) (E : CtlPost) (d : Bool) (acts : List Action), wp (findHandler g a) Q E e d acts ((s.setTop g).pushFrame (.throwing a)) ↔ Q (.found pc) d acts (((s.setTop g).pushFrame (.throwing a)).setVm vm')) (hrest : Steps tb e below ((s.setVm vm').setTop { g with pc := pc, stack := [.ref a] }) target) : Steps tb e below ((s.setTop g).pushFrame (.throwing a)) target := by
  obtain ⟨g1, g2⟩ := Option.isSome_iff_exists.mp h.top
  obtain ⟨r, hr⟩ := State.topJava?_eq_some.mp g2
  have hI : (stepThrowing e ((s.setTop g).pushFrame (.throwing a)) a (.java g :: r)).Is ((((s.setTop g).pushFrame (.throwing a)).setVm vm').setFrames (.java { g with pc := pc, stack := [.ref a] } :: r)) [] := by
    simp only [stepThrowing, searchFrame, vmDo]
    generalize hgo : Sem.go _ e false [] ((s.setTop g).pushFrame (.throwing a)) = res
    obtain ⟨as, e1, e2⟩ := Sem.eq_ok_of hgo (a := Handler.found pc) (s' := ((s.setTop g).pushFrame (.throwing a)).setVm vm') (acts' := []) (by simp [hf _ _ _ _])
    subst e1
    exact ⟨rfl, e2⟩
  have hfr := frames_entered (g := g) h.top (.throwing a)
  rw [hr, List.tail_cons] at hfr
  have hfin : (((s.setTop g).pushFrame (.throwing a)).setVm vm').setFrames (.java { g with pc := pc, stack := [.ref a] } :: r) = (s.setVm vm').setTop { g with pc := pc, stack := [.ref a] } := by
    have hr' : (s.setVm vm').frames = .java g1 :: r := hr
    rw [State.setTop_of_frames _ hr', State.setTop_of_frames _ hr, State.pushFrame]
    show (((s.setFrames _).setFrames _).setVm vm').setFrames _ = _
    rw [State.setFrames_setFrames]
    show ((s.setVm vm').setFrames _).setFrames _ = _
    rw [State.setFrames_setFrames]
  obtain ⟨b1, b2⟩ := h.throwing a
  refine Steps.head b1 b2 ?_
  rw [stepThread_throwing hfr, hI.1, hfin]
  exact hrest
def ctOK (own E : String) (pc hp : Nat) : List (Nat × Nat × Nat × Nat) → Prop
  | [] => False
  | r :: t => (r.1 ≤ pc ∧ pc < r.2.1) ∧ r.2.2.2 ≠ 0 ∧ ∃ nm, Cond.classLink own r.2.2.2 nm ∈ TT ∧ ((Cond.castable E nm ∈ TT ∧ r.2.2.1 = hp) ∨ (Cond.not (.castable E nm) ∈ TT ∧ ctOK own E pc hp t))
theorem ct_words {G : GT} {s : State} (K : GU G s) {pl : Platform} (hpl : pl.magicAccessors = ({} : Platform).magicAccessors) {own E : String} {d thrown : ClassId} {pc hp : Nat} (hown : s.vm.findClass own = some d) (hth : s.vm.findClass E = some thrown) : ∀ (l : List ExceptionTableEntry), ctOK own E pc hp (l.map (fun h => (h.startPc, h.endPc, h.handlerPc, h.catchType))) → ctF s pl d pc thrown hp l
  | [], h => h.elim
  | x :: t, h => by
    obtain ⟨hc, h0, nm, hl, h⟩ := h
    obtain ⟨c1, hc1, hcl⟩ := Cond.classLink_spec hown (K.word (A := #[]) hl) pl hpl
    refine ⟨by simp only [covers]; simpa using hc, h0, c1, hcl, ?_⟩
    rcases h with ⟨h1, h2⟩ | ⟨h1, h2⟩
    · obtain ⟨c3, c4, hc3, hc4, hasg⟩ := Cond.castable_spec (K.word (A := #[]) h1)
      cases Option.some.inj (hc3.symm.trans hth)
      cases Option.some.inj (hc4.symm.trans hc1)
      exact Or.inl ⟨hasg, h2⟩
    · obtain ⟨c3, c4, hc3, hc4, hasg⟩ := nc_of K h1
      cases Option.some.inj (hc3.symm.trans hth)
      cases Option.some.inj (hc4.symm.trans hc1)
      exact Or.inr ⟨hasg, ct_words K hpl hown hth t h2⟩
def Kh (G : GT) (M : MD) (d : Nat) (Q : Outcome → Hp → Prop) (pc0 pc : Nat) (lv : List (Option Value)) (rest : List Value) : Outcome → Hp → Prop := fun o h => match o with
  | .returned v => Jx G M d Q pc0 lv (v.toList ++ rest) h
  | .threw x => ∃ (ci : Nat) (E : String) (hp : Nat), h.1 x = some (.inr (ci, [])) ∧ rkCl[ci]? = some (E, noT, 0) ∧ ctOK M.1.cls E pc hp M.2.2.2.2 ∧ Jx G M d Q hp lv [.ref x] h
theorem ct_end {G : GT} {M : MD} {d : Nat} {Q : Outcome → Hp → Prop} {pc hp ci : Nat} {nmE : String} {lv : List (Option Value)} {h : Hp}
    {p : Program} {e : Env} {R : Room} {s : State} {m : MethodId} {args : Array Value} {below : List Frame} {meth : Method} {c : Code} (E : EV G M d p R s m meth c) {locs : List Loc} {cells slots : Nat} {ls : Array Slot} {T : State} (P : Pl G s R M.2.2.1 lv h T.heap locs cells slots ls)
    (X : Stand p (gl G) e R s m args below meth c T locs cells slots) {rest : List Value} {x : Addr} (hc : h.1 x = some (.inr (ci, []))) (hr : rkCl[ci]? = some (nmE, noT, 0)) (hk : ctOK M.1.cls nmE pc hp M.2.2.2.2) (hj : Jx G M d Q hp lv [.ref x] h) : ∃ t, Steps p.tables e below ((T.setTop (F0 m pc ls rest)).pushFrame (.throwing x)) t ∧ ZQ G R below s Q t := by
  have K := E.2.2.2.2.2.2.2.2.2.2
  have hown := E.2.2.2.2.2.1
  have hpl : e.platform.magicAccessors = ({} : Platform).magicAccessors := by rw [X.admits.platform]
  obtain ⟨ce, hce, hov, hcl⟩ := va_recv K.1 (va_P1 (P.2.1.1 x _ hc).2) hr (q0 := 0) rfl
  obtain ⟨k9, h9, -⟩ := Vm.findClass_spec hcl
  have hobj : ∀ k, ce.vm ≠ .statics k := fun z q => by rw [q] at hov; cases hov
  have hF : ctF s e.platform m.cls pc ce.cls hp c.exceptionTable.toList := by
    refine ct_words K hpl hown hcl _ ?_
    rw [E.2.2.2.2.2.2.2.1]
    exact hk
  obtain ⟨vm', hW', hf⟩ := ct_find (e := e) (f := F0 m pc ls rest) (a := x) hobj h9 c.exceptionTable.toList ((T.setTop (F0 m pc ls rest)).pushFrame (.throwing x)) hF (by rw [Stand.throwing_vm]; exact X.warmed) (by rw [Stand.throwing_heap]; exact hce)
  have hm : ((T.setTop (F0 m pc ls rest)).pushFrame (.throwing x)).vm.method? (F0 m pc ls rest).method = some meth := by
    rw [Stand.throwing_vm]
    exact X.method'
  obtain ⟨t, a1, a2⟩ := hj p e R s m args below meth c E T.heap _ _ _ ls P (T.setVm vm') rfl (X.noted hW')
  refine ⟨t, ct_step (g := F0 m pc ls rest) X.here (vm' := vm') (pc := hp) (fun Q E d acts => ?_) a1, a2⟩
  rw [W.findHandler_eq hm X.code]
  exact hf Q E d acts
theorem call_onH {G : GT} {M : MD} {d' : Nat} {Q : Outcome → Hp → Prop} {pc : Nat} {lv : List (Option Value)} {h : Hp} {M' : MD} (hL : M'.2.2.1 ≤ 21) {As : List Value} (hcat : ∀ v ∈ As, v.category = 1) (hAl : As.length ≤ M'.2.2.1) (hpl : plainFor M'.1 = true)
    {p : Program} {e : Env} {R : Room} {s : State} {m : MethodId} {args : Array Value} {below : List Frame} {meth : Method} {c : Code} (E : EV G M (d' + 1) p R s m meth c) {H : Heap} {locs : List Loc} {cells slots : Nat} {ls : Array Slot} (P : Pl G s R M.2.2.1 lv h H locs cells slots ls)
    {T : State} (hT : T.heap = H) (X : Stand p (gl G) e R s m args below meth c T locs cells slots) {rest st : List Value} (hrest : (rest.map fun v => v.category).sum ≤ 8) {ig : Instr} {len : Nat} (hdec : decode M.2.1 pc = .ok (ig, len))
    {mk : MethodId} {methk : Method} {ck : Code} (hnk : s.methodNamed? M'.1 = some mk) (hmk : s.vm.method? mk = some methk) (hck : methk.code = some ck) (hk1 : ck.code = M'.2.1) (hk2 : ck.maxLocals = M'.2.2.1) (hk3 : methk.sig.returnType = M'.2.2.2.1) (hk4 : methk.locks = false) (hk5 : ck.exceptionTable.toList.map (fun h => (h.startPc, h.endPc, h.handlerPc, h.catchType)) = M'.2.2.2.2)
    (hr : ∃ vm', Stand p (gl G) e R s m args below meth c (T.setVm vm') locs cells slots ∧ ∀ target, (∀ acts, Steps p.tables e below (doInvoke e ((T.setVm vm').setTop (F0 m pc ls rest)) acts mk As.toArray).1 target) → Steps p.tables e below (T.setTop (F0 m pc ls st)) target)
    (hj : Cx G M' d' As h (Kh G M (d' + 1) Q (pc + len) pc lv rest)) : ∃ t, Steps p.tables e below (T.setTop (F0 m pc ls st)) t ∧ ZQ G R below s Q t := by
  obtain ⟨vm', X₁, hstep⟩ := hr
  obtain ⟨o, h', T', hq, L, k, n, X', P', r1, r2⟩ := run_call (M := M) (Nat.le_refl _) hL hcat hAl hpl E P (T := T.setVm vm') hT X₁ hrest hdec hnk hmk hck hk1 hk2 hk3 hk4 hk5 hj
  cases o with
  | returned v =>
    obtain ⟨t, a, b⟩ := (show Jx G M (d' + 1) Q (pc + len) lv (v.toList ++ rest) h' from hq) p e R s m args below meth c E T'.heap _ _ _ ls P' T' rfl X'
    exact ⟨t, hstep _ (fun acts => (r1 v rfl acts).trans a), b⟩
  | threw x =>
    obtain ⟨ci, nmE, hp, q1, q2, q3, q4⟩ := (show ∃ (ci : Nat) (E : String) (hp : Nat), h'.1 x = some (.inr (ci, [])) ∧ rkCl[ci]? = some (E, noT, 0) ∧ ctOK M.1.cls E pc hp M.2.2.2.2 ∧ Jx G M (d' + 1) Q hp lv [.ref x] h' from hq)
    obtain ⟨t, a, b⟩ := ct_end (M := M) (pc := pc) (rest := rest) (Q := Q) E P' X' q1 q2 q3 q4
    exact ⟨t, hstep _ (fun acts => (r2 x rfl acts).trans a), b⟩
section CATCHX
variable {G : GT} {M : MD} {d' : Nat} {Q : Outcome → Hp → Prop} {pc : Nat} {lv : List (Option Value)} {st : List Value} {h : Hp}
theorem x_callVH {M' : MD} {n idx b ci : Nat} {fs : List Value} (hd : decode M.2.1 pc = .ok (.invokevirtual idx, 3)) (hS : siteV M.1.cls idx M' n ci) (hb : st[n]? = some (.ref b)) (hc : h.1 b = some (.inr (ci, fs))) (hcat : (st.take (n + 1)).all (fun v => v.category == 1) = true) (hrest : ((st.drop (n + 1)).map fun v => v.category).sum ≤ 8) (hj : Cx G M' d' (st.take (n + 1)).reverse h (Kh G M (d' + 1) Q (pc + 3) pc lv (st.drop (n + 1)))) : Jx G M (d' + 1) Q pc lv st h := by
  intro p e R s m args below meth c E H locs cells slots ls P T hT X
  have K := E.2.2.2.2.2.2.2.2.2.2
  obtain ⟨⟨hcode, hpl, hy, hL, hAl, hini⟩, hlink, hinst, ⟨r, hr, hsel⟩, hpar⟩ := hS
  obtain ⟨mk, methk, ck, c1, c2, c3, c4, c5, c6, c7, c8, c9⟩ := codeW_facts (K.word (A := args) hcode)
  have hb' := (List.getElem?_eq_some_iff.mp hb).1
  have hlen0 : (st.take n).reverse.length = n := by simp; omega
  have hlen : (st.take (n + 1)).reverse.length = n + 1 := by simp; omega
  refine call_onH hL (take_cat hcat) (by rw [hlen]; exact hAl) hpl E P hT X hrest hd c1 c2 c3 c4 c5 c6 c7 c8 ?_ hj
  obtain ⟨cellB, hcB, hoB, hclB⟩ := va_recv K.1 (va_P1 (P.2.1.1 b _ hc).2) hr (q0 := 0) rfl
  obtain ⟨mk2, methM, hnamed, hmethM, hstM, habM⟩ := Cond.instanceMethod_spec (K.word (A := args) hinst)
  cases c1.symm.trans hnamed
  cases c2.symm.trans hmethM
  obtain ⟨c2', r2, m2, q1, q2, q3, q4, kP, hkP, hkPi⟩ := Cond.selects_spec (K.word (A := args) hsel)
  cases hclB.symm.trans q1
  cases (State.methodFound?_of_named c1 hy).symm.trans q2
  cases c1.symm.trans q3
  have hselP : selectMethod e.platform s.vm cellB.cls mk = .method mk := by rw [Launch.admits_selectMethod X.admits]; exact q4
  rw [take_recv hb]
  exact X.invokevirtual E.1 E.2.2.2.2.2.1 (K.word hlink) c1 c2 hstM hkP hkPi hy (a := b) (cell := cellB) (by rw [hT]; exact hcB) (fun z q => by rw [q] at hoB; cases hoB) hselP c2 habM hkP hkPi (g := F0 m pc ls st) rfl (argsL := (st.take n).reverse) (rest := st.drop (n + 1)) (parm_len hpar c9 hlen0) (take_split hb) (by rw [E.2.1]; exact hd)
theorem kh_v {d pc0 : Nat} {rest : List Value} {v : Value} (hr : rest = st) (kk : Jx G M d Q pc0 lv (v :: st) h) : Kh G M d Q pc0 pc lv rest (.returned (some v)) h := by subst hr; exact kk
theorem kh_n {d pc0 : Nat} {rest : List Value} (hr : rest = st) (kk : Jx G M d Q pc0 lv st h) : Kh G M d Q pc0 pc lv rest (.returned none) h := by subst hr; exact kk
end CATCHX
