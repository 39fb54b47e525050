def codeW (M : MD) : Cond := match M.2.2.2.2 with
  | [] => .code M.1 M.2.1 M.2.2.1 M.2.2.2.1
  | x :: t => .codeWith M.1 M.2.1 M.2.2.1 M.2.2.2.1 (x :: t)
theorem codeW_facts {M : MD} {args : Array Value} {s : State} (h : (codeW M).before args s = true) : ∃ (mk : MethodId) (methk : Method) (ck : Code), s.methodNamed? M.1 = some mk ∧ s.vm.method? mk = some methk ∧ methk.code = some ck ∧ ck.code = M.2.1 ∧ ck.maxLocals = M.2.2.1 ∧ methk.sig.returnType = M.2.2.2.1 ∧ methk.locks = false ∧
    ck.exceptionTable.toList.map (fun h => (h.startPc, h.endPc, h.handlerPc, h.catchType)) = M.2.2.2.2 ∧ parseMethodDescriptor M.1.desc = some methk.sig := by
  obtain ⟨y, bs, n, r, hs⟩ := M
  cases hs with
  | nil =>
    have h' : (Cond.code y bs n r).before args s = true := h
    obtain ⟨mk, hn⟩ := Cond.code_named h'
    obtain ⟨meth, c, h1, h2, h3, h4, h5, h6, h7, h8⟩ := Cond.code_spec hn h'
    refine ⟨mk, meth, c, hn, h1, h2, h3, h4, h5, h6, ?_, h8⟩
    have : c.exceptionTable = #[] := Array.isEmpty_iff.mp h7
    rw [this]
    rfl
  | cons x t =>
    have h' : (Cond.codeWith y bs n r (x :: t)).before args s = true := h
    obtain ⟨mk, meth, c, hn, h1, h2, h3, h4, h5, h6, h7, h8⟩ := Cond.codeWith_spec h'
    exact ⟨mk, meth, c, hn, h1, h2, h3, h4, h6, h7, h5, h8⟩
theorem lw_heap_setTop (T : State) (g : JFrame) : (T.setTop g).heap = T.heap := rfl
theorem lw_heap_pushFrame (T : State) (f : Frame) : (T.pushFrame f).heap = T.heap := rfl
set_option maxHeartbeats 1000000 in
theorem run_call {G : GT} {M : MD} {d d' : Nat} {Q' : Outcome → Hp → Prop} {pc : Nat} {lv : List (Option Value)} {h : Hp} {M' : MD} (hdd : d' + 1 ≤ d) (hL : M'.2.2.1 ≤ 21) {As : List Value} (hcat : ∀ v ∈ As, v.category = 1) (hAl : As.length ≤ M'.2.2.1) (hpl : plainFor M'.1 = true)
    {p : Program} {e : Env} {R : Room} {s : State} {m : MethodId} {args : Array Value} {below : List Frame} {meth : Method} {c : Code} (E : EV G M d p R s m meth c) {H : Heap} {locs : List Loc} {cells slots : Nat} {ls : Array Slot} (P : Pl G s R M.2.2.1 lv h H locs cells slots ls)
    {T : State} (hT : T.heap = H) (X : Stand p (gl G) e R s m args below meth c T locs cells slots) {rest : List Value} (hrest : (rest.map fun v => v.category).sum ≤ 8) {ig : Instr} {len : Nat} (hdec : decode M.2.1 pc = .ok (ig, len))
    {mk : MethodId} {methk : Method} {ck : Code} (hnk : s.methodNamed? M'.1 = some mk) (hmk : s.vm.method? mk = some methk) (hck : methk.code = some ck) (hk1 : ck.code = M'.2.1) (hk2 : ck.maxLocals = M'.2.2.1) (hk3 : methk.sig.returnType = M'.2.2.2.1) (hk4 : methk.locks = false) (hk5 : ck.exceptionTable.toList.map (fun h => (h.startPc, h.endPc, h.handlerPc, h.catchType)) = M'.2.2.2.2)
    (hj : Cx G M' d' As h Q') :
    ∃ (o : Outcome) (h' : Hp) (T' : State), Q' o h' ∧ ∃ (L : List Loc) (k n : Nat), Stand p (gl G) e R s m args below meth c T' (locs ++ L) (cells + k) (slots + n) ∧ Pl G s R M.2.2.1 lv h' T'.heap (locs ++ L) (cells + k) (slots + n) ls ∧
      (∀ v, o = .returned v → ∀ acts, Steps p.tables e below (doInvoke e (T.setTop (F0 m pc ls rest)) acts mk As.toArray).1 (T'.setTop (F0 m (pc + len) ls (v.toList ++ rest)))) ∧
      (∀ x, o = .threw x → ∀ acts, Steps p.tables e below (doInvoke e (T.setTop (F0 m pc ls rest)) acts mk As.toArray).1 ((T'.setTop (F0 m pc ls rest)).pushFrame (.throwing x))) := by
  have p1 := P.2.2.2.1
  have p2 := P.2.2.2.2
  have f1 := E.2.2.2.2.2.2.2.2.1
  have f2 := E.2.2.2.2.2.2.2.2.2.1
  have K := E.2.2.2.2.2.2.2.2.2.2
  have hsz : (F0 m pc ls rest).locals.size = c.maxLocals := by rw [E.2.2.2.2.1]; exact P.1.1
  have hmkT : T.vm.method? mk = some methk := by rw [X.warmed.alike.method?]; exact hmk
  have hpk : T.plainMethod mk := State.plainMethod.of_named hpl (X.named hnk) hmkT
  obtain ⟨Y, hdo⟩ := X.into (g := F0 m pc ls rest) (R' := ({ frames := d', cells := gC G - h.2.1, slots := gS G - h.2.2, locals := 40 * d' } : Room)) rfl hsz (by rw [E.2.1]; exact hdec) As.toArray hmkT hck hk4 hpk (by show d' + 1 ≤ R.frames; omega) (by show 2 * 0 + (rest.map fun v => v.category).sum + (ck.maxLocals + 11) + 40 * d' ≤ R.locals; omega) p1 p2
  have hWc : s.WarmedH (T.calling (F0 m pc ls rest) mk As.toArray).vm := X.warmed
  have E' : EV G M' d' p ({ frames := d', cells := gC G - h.2.1, slots := gS G - h.2.2, locals := 40 * d' } : Room) (T.calling (F0 m pc ls rest) mk As.toArray) mk methk ck := by
    have hnT : (T.calling (F0 m pc ls rest) mk As.toArray).methodNamed? M'.1 = some mk := X.named hnk
    have hmT : (T.calling (F0 m pc ls rest) mk As.toArray).vm.method? mk = some methk := hmkT
    exact ⟨E.1, hk1, hk3, hk4, hk2, findClass_of_methodNamed hnT, (name_of_methodNamed hnT hmT).1, hk5, Nat.le_refl _, Nat.le_refl _, K.moved hWc⟩
  have hl := lvE_lr hcat hAl (lv_entry As (n := M'.2.2.1) (by
    have : ∀ (As : List Value), (∀ v ∈ As, v.category = 1) → (lg_sl As).length = As.length := by
      intro As
      induction As with
      | nil => intro _; rfl
      | cons a t ih =>
        intro hc
        have ha := hc a List.mem_cons_self
        have := ih (fun v hv => hc v (List.mem_cons_of_mem _ hv))
        simp [lg_sl, ha]
        simpa [lg_sl] using this
    rw [this As hcat]
    exact hAl))
  have w := hj p e _ _ mk As.toArray (.java (F0 m pc ls rest) :: below) methk ck E' H [] 0 0 _ ⟨hl, P.2.1.moved hWc.alike, (fun _ q => by cases q), (by simp), (by simp)⟩ _ (by exact hT) Y
  obtain ⟨t, hst, o, h', L, k, n, a1, a2, a3, a4, ⟨a5, a6⟩, a7, a8, a9⟩ := w
  rw [← lg_entry_eq, ← hk2] at hst
  have hal : (T.calling (F0 m pc ls rest) mk As.toArray).vm.Alike s.vm := hWc.alike.symm
  cases o with
  | returned v =>
    obtain ⟨T', X', hW', hB, ht⟩ := X.outOf (g := F0 m pc ls rest) rfl (by rw [E.2.1]; exact hdec) a2 a5 a6
    have hh : T'.heap = t.heap := by rw [ht]; rfl
    refine ⟨.returned v, h', T', a3, L, k, n, X', ⟨P.1, by rw [hh]; exact a4.moved hal, fun q hq => ?_, ?_, ?_⟩, fun v' hv acts => ?_, (fun x hx => by cases hx)⟩
    · rcases List.mem_append.mp hq with z | z
      · exact P.2.2.1 q z
      · exact a7 q z
    · show cells + k + (gC G - h'.2.1) ≤ R.cells
      have : k + (gC G - h'.2.1) ≤ gC G - h.2.1 := a8
      omega
    · show slots + n + (gS G - h'.2.2) ≤ R.slots
      have : n + (gS G - h'.2.2) ≤ gS G - h.2.2 := a9
      omega
    · cases hv
      rw [hdo acts]
      rw [ht] at hst
      exact Steps.lower hst
  | threw x =>
    obtain ⟨T', X', hW', hB, ht⟩ := X.outOfThrown (g := F0 m pc ls rest) rfl a2 a5 a6
    have hh : T'.heap = t.heap := by rw [ht]; rfl
    refine ⟨.threw x, h', T', a3, L, k, n, X', ⟨P.1, by rw [hh]; exact a4.moved hal, fun q hq => ?_, ?_, ?_⟩, (fun v hv => by cases hv), fun x' hx acts => ?_⟩
    · rcases List.mem_append.mp hq with z | z
      · exact P.2.2.1 q z
      · exact a7 q z
    · show cells + k + (gC G - h'.2.1) ≤ R.cells
      have : k + (gC G - h'.2.1) ≤ gC G - h.2.1 := a8
      omega
    · show slots + n + (gS G - h'.2.2) ≤ R.slots
      have : n + (gS G - h'.2.2) ≤ gS G - h.2.2 := a9
      omega
    · cases hx
      rw [hdo acts]
      rw [ht] at hst
      exact Steps.lower hst
def Kc (G : GT) (M : MD) (d : Nat) (Q : Outcome → Hp → Prop) (pc : Nat) (lv : List (Option Value)) (rest : List Value) : Outcome → Hp → Prop := fun o h => match o with
  | .returned v => Jx G M d Q pc lv (v.toList ++ rest) h
  | .threw x => Q (.threw x) h
theorem end_thrown {G : GT} {M : MD} {d : Nat} {Q : Outcome → Hp → Prop} {pc : Nat} {lv : List (Option Value)} {h : Hp} (hno : M.2.2.2.2 = [])
    {p : Program} {e : Env} {R : Room} {s : State} {m : MethodId} {args : Array Value} {below : List Frame} {meth : Method} {c : Code} (E : EV G M d p R s m meth c) {locs : List Loc} {cells slots : Nat} {ls : Array Slot} {T : State} (P : Pl G s R M.2.2.1 lv h T.heap locs cells slots ls)
    (X : Stand p (gl G) e R s m args below meth c T locs cells slots) {rest : List Value} {x : Addr} (hq : Q (.threw x) h) : ∃ t, Steps p.tables e below ((T.setTop (F0 m pc ls rest)).pushFrame (.throwing x)) t ∧ ZQ G R below s Q t := by
  have ht : c.exceptionTable.toList = [] := by
    have := E.2.2.2.2.2.2.2.1
    rw [hno] at this
    exact List.map_eq_nil_iff.mp this
  obtain ⟨h1, h2, h3, h4, h5⟩ := X.leaveThrown x (g := F0 m pc ls rest) rfl rfl rfl (by rw [ht]; intro y hy; cases hy) E.2.2.2.1
  exact ⟨_, h1, .threw x, h, locs, cells, slots, h2, h3, hq, P.2.1, ⟨h4, h5⟩, P.2.2.1, P.2.2.2⟩
theorem call_on {G : GT} {M : MD} {d' : Nat} {Q : Outcome → Hp → Prop} {pc : Nat} {lv : List (Option Value)} {h : Hp} {M' : MD} (hL : M'.2.2.1 ≤ 21) {As : List Value} (hcat : ∀ v ∈ As, v.category = 1) (hAl : As.length ≤ M'.2.2.1) (hpl : plainFor M'.1 = true) (hno : M.2.2.2.2 = [])
    {p : Program} {e : Env} {R : Room} {s : State} {m : MethodId} {args : Array Value} {below : List Frame} {meth : Method} {c : Code} (E : EV G M (d' + 1) p R s m meth c) {H : Heap} {locs : List Loc} {cells slots : Nat} {ls : Array Slot} (P : Pl G s R M.2.2.1 lv h H locs cells slots ls)
    {T : State} (hT : T.heap = H) (X : Stand p (gl G) e R s m args below meth c T locs cells slots) {rest st : List Value} (hrest : (rest.map fun v => v.category).sum ≤ 8) {ig : Instr} {len : Nat} (hdec : decode M.2.1 pc = .ok (ig, len))
    {mk : MethodId} {methk : Method} {ck : Code} (hnk : s.methodNamed? M'.1 = some mk) (hmk : s.vm.method? mk = some methk) (hck : methk.code = some ck) (hk1 : ck.code = M'.2.1) (hk2 : ck.maxLocals = M'.2.2.1) (hk3 : methk.sig.returnType = M'.2.2.2.1) (hk4 : methk.locks = false) (hk5 : ck.exceptionTable.toList.map (fun h => (h.startPc, h.endPc, h.handlerPc, h.catchType)) = M'.2.2.2.2)
    (hr : ∃ vm', Stand p (gl G) e R s m args below meth c (T.setVm vm') locs cells slots ∧ ∀ target, (∀ acts, Steps p.tables e below (doInvoke e ((T.setVm vm').setTop (F0 m pc ls rest)) acts mk As.toArray).1 target) → Steps p.tables e below (T.setTop (F0 m pc ls st)) target)
    (hj : Cx G M' d' As h (Kc G M (d' + 1) Q (pc + len) lv rest)) : ∃ t, Steps p.tables e below (T.setTop (F0 m pc ls st)) t ∧ ZQ G R below s Q t := by
  obtain ⟨vm', X₁, hstep⟩ := hr
  obtain ⟨o, h', T', hq, L, k, n, X', P', r1, r2⟩ := run_call (M := M) (Nat.le_refl _) hL hcat hAl hpl E P (T := T.setVm vm') hT X₁ hrest hdec hnk hmk hck hk1 hk2 hk3 hk4 hk5 hj
  cases o with
  | returned v =>
    obtain ⟨t, a, b⟩ := (show Jx G M (d' + 1) Q (pc + len) lv (v.toList ++ rest) h' from hq) p e R s m args below meth c E T'.heap _ _ _ ls P' T' rfl X'
    exact ⟨t, hstep _ (fun acts => (r1 v rfl acts).trans a), b⟩
  | threw x =>
    obtain ⟨t, a, b⟩ := end_thrown (M := M) (pc := pc) (rest := rest) (Q := Q) hno E P' X' (show Q (.threw x) h' from hq)
    exact ⟨t, hstep _ (fun acts => (r2 x rfl acts).trans a), b⟩
def siteC (M' : MD) (n : Nat) : Prop := codeW M' ∈ TT ∧ plainFor M'.1 = true ∧ (M'.1.cls ≠ "java/lang/invoke/MethodHandle" ∧ M'.1.cls ≠ "java/lang/invoke/VarHandle") ∧ M'.2.2.1 ≤ 21 ∧ n ≤ M'.2.2.1 ∧ Cond.initialized M'.1.cls ∈ TT
def siteS (own : String) (idx : Nat) (M' : MD) (n : Nat) : Prop := siteC M' n ∧ Cond.methodLink own idx M'.1 ∈ TT ∧ Cond.static M'.1 ∈ TT ∧ (parseMethodDescriptor M'.1.desc).map (fun d => d.parameters.length) = some n
def siteI (own : String) (idx : Nat) (M' : MD) (n : Nat) : Prop := siteC M' (n + 1) ∧ Cond.methodLink own idx M'.1 ∈ TT ∧ Cond.instanceMethod M'.1 ∈ TT ∧ M'.1.name = "<init>" ∧ (parseMethodDescriptor M'.1.desc).map (fun d => d.parameters.length) = some n ∧ M'.2.2.2 = (none, [])
def siteIN (own : String) (idx : Nat) (host : String) (M' : MD) (n : Nat) : Prop := siteC M' (n + 1) ∧ Cond.methodLinkNest own idx M'.1 host ∈ TT ∧ Cond.instanceMethod M'.1 ∈ TT ∧ M'.1.name = "<init>" ∧ (parseMethodDescriptor M'.1.desc).map (fun d => d.parameters.length) = some n ∧ M'.2.2.2 = (none, [])
def siteV (own : String) (idx : Nat) (M' : MD) (n ci : Nat) : Prop := siteC M' (n + 1) ∧ Cond.methodLink own idx M'.1 ∈ TT ∧ Cond.instanceMethod M'.1 ∈ TT ∧ (∃ r, rkCl[ci]? = some r ∧ Cond.selects r.1 M'.1 M'.1 ∈ TT) ∧ (parseMethodDescriptor M'.1.desc).map (fun d => d.parameters.length) = some n
theorem take_cat {st : List Value} {n : Nat} (h : (st.take n).all (fun v => v.category == 1) = true) : ∀ v ∈ (st.take n).reverse, v.category = 1 := by
  intro v hv
  have := List.all_eq_true.mp h v (List.mem_reverse.mp hv)
  simpa using this
theorem take_split {st : List Value} {n : Nat} {v : Value} (h : st[n]? = some v) : st = (st.take n).reverse.reverse ++ v :: st.drop (n + 1) := by
  obtain ⟨h1, h2⟩ := List.getElem?_eq_some_iff.mp h
  rw [List.reverse_reverse, ← h2, List.getElem_cons_drop, List.take_append_drop]
theorem take_recv {st : List Value} {n : Nat} {v : Value} (h : st[n]? = some v) : (st.take (n + 1)).reverse = v :: (st.take n).reverse := by
  obtain ⟨h1, h2⟩ := List.getElem?_eq_some_iff.mp h
  rw [List.take_succ, h]
  simp
theorem parm_len {y : MethodName} {n k : Nat} {sig : MethodDescriptor} (h : (parseMethodDescriptor y.desc).map (fun d => d.parameters.length) = some n) (hs : parseMethodDescriptor y.desc = some sig) (hk : k = n) : k = sig.parameters.length := by
  rw [hs] at h
  rw [hk]
  exact (Option.some.inj h).symm
section CALLX
variable {G : GT} {M : MD} {d' : Nat} {Q : Outcome → Hp → Prop} {pc : Nat} {lv : List (Option Value)} {st : List Value} {h : Hp}
theorem x_callS {M' : MD} {n idx : Nat} (hd : decode M.2.1 pc = .ok (.invokestatic idx, 3)) (hS : siteS M.1.cls idx M' n) (hn : n ≤ st.length) (hcat : (st.take n).all (fun v => v.category == 1) = true) (hrest : ((st.drop n).map fun v => v.category).sum ≤ 8) (hno : M.2.2.2.2 = []) (hj : Cx G M' d' (st.take n).reverse h (Kc G M (d' + 1) Q (pc + 3) lv (st.drop n))) : Jx G M (d' + 1) Q pc lv st h := by
  intro p e R s m args below meth c E H locs cells slots ls P T hT X
  have K := E.2.2.2.2.2.2.2.2.2.2
  obtain ⟨⟨hcode, hpl, hy, hL, hAl, hini⟩, hlink, hstat, hpar⟩ := hS
  obtain ⟨mk, methk, ck, c1, c2, c3, c4, c5, c6, c7, c8, c9⟩ := codeW_facts (K.word (A := args) hcode)
  have hstatic : methk.isStatic = true := Cond.static_spec c1 c2 (K.word (A := args) hstat)
  obtain ⟨kP, hkP, -⟩ := className_of_methodNamed c1
  have hinitP : kP.init = .initialized := Cond.initialized_spec (findClass_of_methodNamed c1) hkP (K.word (A := args) hini)
  have hlen : (st.take n).reverse.length = n := by simp; omega
  refine call_on hL (take_cat hcat) (by rw [hlen]; exact hAl) hpl hno E P hT X hrest hd c1 c2 c3 c4 c5 c6 c7 c8 ?_ hj
  exact X.invokestatic E.1 E.2.2.2.2.2.1 (K.word hlink) c1 c2 hstatic hkP hinitP hy (g := F0 m pc ls st) rfl (argsL := (st.take n).reverse) (rest := st.drop n) (parm_len hpar c9 hlen) (by rw [List.reverse_reverse, List.take_append_drop]) (by rw [E.2.1]; exact hd)
theorem x_callI {M' : MD} {n idx b : Nat} (hd : decode M.2.1 pc = .ok (.invokespecial idx, 3)) (hS : siteI M.1.cls idx M' n) (hb : st[n]? = some (.ref b)) (hcat : (st.take (n + 1)).all (fun v => v.category == 1) = true) (hrest : ((st.drop (n + 1)).map fun v => v.category).sum ≤ 8) (hno : M.2.2.2.2 = []) (hj : Cx G M' d' (st.take (n + 1)).reverse h (Kc G M (d' + 1) Q (pc + 3) lv (st.drop (n + 1)))) : Jx G M (d' + 1) Q pc lv st h := by
  intro p e R s m args below meth c E H locs cells slots ls P T hT X
  have K := E.2.2.2.2.2.2.2.2.2.2
  obtain ⟨⟨hcode, hpl, hy, hL, hAl, hini⟩, hlink, hinst, hname, hpar, hrs⟩ := hS
  obtain ⟨mk, methk, ck, c1, c2, c3, c4, c5, c6, c7, c8, c9⟩ := codeW_facts (K.word (A := args) hcode)
  have hb' := (List.getElem?_eq_some_iff.mp hb).1
  have hlen0 : (st.take n).reverse.length = n := by simp; omega
  have hlen : (st.take (n + 1)).reverse.length = n + 1 := by simp; omega
  refine call_on hL (take_cat hcat) (by rw [hlen]; exact hAl) hpl hno E P hT X hrest hd c1 c2 c3 c4 c5 c6 c7 c8 ?_ hj
  have hpm : e.platform.magicAccessors = ({} : Platform).magicAccessors := by rw [X.admits.platform]
  have hcw : (Cond.code M'.1 M'.2.1 M'.2.2.1 none).before args s = true := by
    have hcw := K.word (A := args) hcode
    obtain ⟨y, bs, nn, r, hs⟩ := M'
    cases hrs
    exact hcw
  rw [take_recv hb]
  obtain ⟨tm, methM, cM, kP, vm₁, hnamed, -, -, -, -, -, -, -, hW₁, hstep₁⟩ := Steps.initColdArgs (e := e) X.here E.1 X.warmed hpm E.2.2.2.2.2.1 hname hy (K.word hlink) (K.word hinst) hcw (f := F0 m pc ls st) rfl (a := b) (argsL := (st.take n).reverse) (rest := st.drop (n + 1)) (fun sig hs => parm_len hpar hs hlen0) (take_split hb) (by rw [E.2.1]; exact hd)
  cases c1.symm.trans hnamed
  exact ⟨vm₁, X.noted hW₁, hstep₁⟩
theorem x_callIN {M' : MD} {n idx b : Nat} {host : String} (hd : decode M.2.1 pc = .ok (.invokespecial idx, 3)) (hS : siteIN M.1.cls idx host M' n) (hb : st[n]? = some (.ref b)) (hcat : (st.take (n + 1)).all (fun v => v.category == 1) = true) (hrest : ((st.drop (n + 1)).map fun v => v.category).sum ≤ 8) (hno : M.2.2.2.2 = []) (hj : Cx G M' d' (st.take (n + 1)).reverse h (Kc G M (d' + 1) Q (pc + 3) lv (st.drop (n + 1)))) : Jx G M (d' + 1) Q pc lv st h := by
  intro p e R s m args below meth c E H locs cells slots ls P T hT X
  have K := E.2.2.2.2.2.2.2.2.2.2
  obtain ⟨⟨hcode, hpl, hy, hL, hAl, hini⟩, hlink, hinst, hname, hpar, hrs⟩ := hS
  obtain ⟨mk, methk, ck, c1, c2, c3, c4, c5, c6, c7, c8, c9⟩ := codeW_facts (K.word (A := args) hcode)
  have hb' := (List.getElem?_eq_some_iff.mp hb).1
  have hlen0 : (st.take n).reverse.length = n := by simp; omega
  have hlen : (st.take (n + 1)).reverse.length = n + 1 := by simp; omega
  refine call_on hL (take_cat hcat) (by rw [hlen]; exact hAl) hpl hno E P hT X hrest hd c1 c2 c3 c4 c5 c6 c7 c8 ?_ hj
  have hpm : e.platform.magicAccessors = ({} : Platform).magicAccessors := by rw [X.admits.platform]
  have hcw : (Cond.code M'.1 M'.2.1 M'.2.2.1 none).before args s = true := by
    have hcw := K.word (A := args) hcode
    obtain ⟨y, bs, nn, r, hs⟩ := M'
    cases hrs
    exact hcw
  rw [take_recv hb]
  obtain ⟨tm, methM, cM, kP, vm₁, hnamed, -, -, -, -, -, -, -, hW₁, hstep₁⟩ := Steps.initColdArgsNest (e := e) X.here E.1 X.warmed hpm E.2.2.2.2.2.1 hname hy (K.word hlink) (K.word hinst) hcw (f := F0 m pc ls st) rfl (a := b) (argsL := (st.take n).reverse) (rest := st.drop (n + 1)) (fun sig hs => parm_len hpar hs hlen0) (take_split hb) (by rw [E.2.1]; exact hd)
  cases c1.symm.trans hnamed
  exact ⟨vm₁, X.noted hW₁, hstep₁⟩
theorem x_callV {M' : MD} {n idx b ci : Nat} {fs : List Value} (hd : decode M.2.1 pc = .ok (.invokevirtual idx, 3)) (hS : siteV M.1.cls idx M' n ci) (hb : st[n]? = some (.ref b)) (hc : h.1 b = some (.inr (ci, fs))) (hcat : (st.take (n + 1)).all (fun v => v.category == 1) = true) (hrest : ((st.drop (n + 1)).map fun v => v.category).sum ≤ 8) (hno : M.2.2.2.2 = []) (hj : Cx G M' d' (st.take (n + 1)).reverse h (Kc G M (d' + 1) Q (pc + 3) lv (st.drop (n + 1)))) : Jx G M (d' + 1) Q pc lv st h := by
  intro p e R s m args below meth c E H locs cells slots ls P T hT X
  have K := E.2.2.2.2.2.2.2.2.2.2
  obtain ⟨⟨hcode, hpl, hy, hL, hAl, hini⟩, hlink, hinst, ⟨r, hr, hsel⟩, hpar⟩ := hS
  obtain ⟨mk, methk, ck, c1, c2, c3, c4, c5, c6, c7, c8, c9⟩ := codeW_facts (K.word (A := args) hcode)
  have hb' := (List.getElem?_eq_some_iff.mp hb).1
  have hlen0 : (st.take n).reverse.length = n := by simp; omega
  have hlen : (st.take (n + 1)).reverse.length = n + 1 := by simp; omega
  refine call_on hL (take_cat hcat) (by rw [hlen]; exact hAl) hpl hno E P hT X hrest hd c1 c2 c3 c4 c5 c6 c7 c8 ?_ hj
  obtain ⟨cellB, hcB, hoB, hclB⟩ := va_recv K.1 (va_P1 (P.2.1.1 b _ hc).2) hr (q0 := 0) rfl
  obtain ⟨mk2, methM, hnamed, hmethM, hstM, habM⟩ := Cond.instanceMethod_spec (K.word (A := args) hinst)
  cases c1.symm.trans hnamed
  cases c2.symm.trans hmethM
  obtain ⟨c2', r2, m2, q1, q2, q3, q4, kP, hkP, hkPi⟩ := Cond.selects_spec (K.word (A := args) hsel)
  cases hclB.symm.trans q1
  cases (State.methodFound?_of_named c1 hy).symm.trans q2
  cases c1.symm.trans q3
  have hselP : selectMethod e.platform s.vm cellB.cls mk = .method mk := by rw [Launch.admits_selectMethod X.admits]; exact q4
  rw [take_recv hb]
  exact X.invokevirtual E.1 E.2.2.2.2.2.1 (K.word hlink) c1 c2 hstM hkP hkPi hy (a := b) (cell := cellB) (by rw [hT]; exact hcB) (fun z q => by rw [q] at hoB; cases hoB) hselP c2 habM hkP hkPi (g := F0 m pc ls st) rfl (argsL := (st.take n).reverse) (rest := st.drop (n + 1)) (parm_len hpar c9 hlen0) (take_split hb) (by rw [E.2.1]; exact hd)
end CALLX
