theorem GU.at {G : GT} {s s' : State} {A : Array Value} (K : GU G s) (hvm : s'.vm = s.vm) {w : Cond} (hw : w ∈ TT) : w.before A s' = true :=
  okW_use (List.mem_filter.mp hw).2 (okW_move (List.mem_filter.mp hw).2 (by rw [hvm]; exact State.WarmedH.refl s) (K.2.1 w hw))
set_option maxHeartbeats 2000000 in
theorem x_throw {G : GT} {M : MD} {d : Nat} {Q : Outcome → Hp → Prop} {pc : Nat} {lv : List (Option Value)} {st : List Value} {h : Hp} {cls : String} {names : List String} {ci ik ic : Nat} (d0 : decode M.2.1 pc = .ok (.new ik, 3)) (d3 : decode M.2.1 (pc + 3) = .ok (.dup, 1)) (d4 : decode M.2.1 (pc + 4) = .ok (.invokespecial ic, 3)) (d7 : decode M.2.1 (pc + 7) = .ok (.athrow, 1)) (hno : M.2.2.2.2 = [])
    (hci : rkCl[ci]? = some (cls, noT, 0)) (hfit : Bundle.fit cls = true) (hnames : ∀ n ∈ names, Bundle.fit n = true) (hk : Cond.classLink M.1.cls ik cls ∈ TT) (hini : Cond.initialized cls ∈ TT) (hat : ∀ w ∈ vx_at0 M.1.cls ic cls names, w ∈ TT)
    (hln : names.length ≤ 3) (hdd : 8 ≤ d) (hrest : (st.map fun v => v.category).sum ≤ 8) (hroom : h.2.1 < gC G) (hsl : h.2.2 + 6 ≤ gS G) (hq : Q (.threw h.2.1) (hnew h (.inr (ci, [])) 6)) : Jx G M d Q pc lv st h := by
  intro p e R s m args below meth c E H locs cells slots ls P T hT X
  have K := E.2.2.2.2.2.2.2.2.2.2
  have f1 := E.2.2.2.2.2.2.2.2.1
  have f2 := E.2.2.2.2.2.2.2.2.2.1
  have p1 := P.2.2.2.1
  have p2 := P.2.2.2.2
  have hz := P.2.1.2.1
  have hbz := P.2.1.2.2.1
  have hb := E.2.1
  have htr : e.platform.stackTraces = false := (show e.platform.stackTraces = (gl G).stackTraces by rw [X.admits.platform]).trans K.2.2.2.2.2.2
  have hsize : ls.size = c.maxLocals := by rw [E.2.2.2.2.1]; exact P.1.1
  have ht : c.exceptionTable.toList = [] := by
    have := E.2.2.2.2.2.2.2.1
    rw [hno] at this
    exact List.map_eq_nil_iff.mp this
  have Y := vx_rebase X (R' := { frames := R.frames, locals := R.locals, cells := 1, slots := 6 }) (Nat.le_refl _) (Nat.le_refl _) (by show cells + 1 ≤ R.cells; omega) (by show slots + 6 ≤ R.slots; omega)
  obtain ⟨s', hA⟩ : ∃ z, z = (T.setVm s.vm).setFrames (.invoking m args :: below) := ⟨_, rfl⟩
  rw [← hA] at Y
  have hvm : s'.vm = s.vm := by rw [hA]; rfl
  have hhp : s'.heap = H := by rw [hA]; exact hT
  have hW0 : s.WarmedH s'.vm := by rw [hvm]; exact State.WarmedH.refl s
  have hkept : ∀ a : Nat, a < (gH G).size → ¬ (fun q => gb G ≤ q) a → s'.heap[a]? = (gH G)[a]? := fun a _ h2 => by rw [hhp]; exact P.2.1.2.2.2 a (Nat.lt_of_not_le h2)
  have hU' : vx_Zq Bundle.tN "UNASSIGNED_STACK" Bundle.steD (fun q => gb G ≤ q) s' s'.heap := vx_Zq.moved hW0.alike (K.2.2.2.2.1.kept hkept)
  have hN' : vx_Zq Bundle.tN "SUPPRESSED_SENTINEL" Bundle.listD (fun q => gb G ≤ q) s' s'.heap := vx_Zq.moved hW0.alike (K.2.2.2.2.2.1.kept hkept)
  have hall0 : ∀ w ∈ Bundle.ownAtoms0 M.1.cls ic cls names, w.before args s' = true := vx_own (fun w hw => K.at hvm (hat w hw)) (vx_isRefq hU'.1) (vx_isRefq hN'.1) hU'.2.word hN'.2.word
  have hown' : s'.vm.findClass M.1.cls = some m.cls := by rw [hvm]; exact E.2.2.2.2.2.1
  have hins : (Cond.instantiable cls 6).before args s' = true := hall0 _ (by simp [Bundle.ownAtoms0])
  obtain ⟨vm₁, cX, kX, hfX, hkX, -, -, X₁, st1⟩ := Y.newCold E.1 (own := M.1.cls) (C := cls) (index := ik) (n := 6) hown' (K.at hvm hk) hins (K.at hvm hini)
    (g := F0 m pc ls st) rfl (by rw [hb]; exact d0) (Nat.le_refl _) (Nat.le_refl _)
  generalize hT1 : (T.setVm vm₁).pushCell { cls := cX, slots := kX.instanceTypes.map defaultValue, vm := .none } = T1 at X₁ st1
  have hcat : (Value.ref T.heap.size).category = 1 := rfl
  have hcellA : T1.heap[T.heap.size]? = some (freshCell cX kX) := by rw [← hT1]; exact State.heap_pushCell_size _ _
  have d3' : decode c.code (pc + 3) = .ok (.dup, 1) := by rw [hb]; exact d3
  obtain ⟨U, hsteps, hrun, hend, hW, hsame, ce, hce, hO⟩ := X₁.ctorThrow0 E.1 htr (own := M.1.cls) (cls := cls) (names := names) (ic := ic) hown' hfit hnames hall0 (fun x hx => nomatch hx) hfX hkX hcellA (by rw [hhp, hT]; exact Nat.le_refl _)
    (g := { method := m, pc := pc + 4, locals := ls, stack := .ref T.heap.size :: .ref T.heap.size :: st, locked := none }) rfl hsize rfl rfl (rest := st) rfl
    (by rw [hb]; exact d4) (by rw [hb]; exact d7) (by rw [ht]; intro y hy; cases hy) (by show names.length + 3 < R.frames; omega) (by simp only [List.map_cons, List.sum_cons, hcat]; show _ ≤ R.locals; omega) E.2.2.2.1
  obtain ⟨g1, g2⟩ := vx_frame hsame
  rw [hhp] at g1 g2
  have hWs : s.WarmedH U.vm := State.WarmedH.trans hW0 hW
  have hcl : s.vm.findClass cls = some ce.cls := by
    have h9 := hO.cls
    rw [hvm] at h9
    exact h9
  have hsz : U.heap.size = H.size + 1 := by
    have hup : U.heap.size ≤ s'.heap.size + (0 + 1) := hsame.2.2.1
    have hlo := (Array.getElem?_eq_some_iff.mp hce).1
    rw [hT] at hlo
    rw [hhp] at hup
    omega
  have hallS : s.sameButNew ({ U with vm := s.vm } : State) locs (cells + 1) (slots + 6) := by
    subst hA
    obtain ⟨e1, e2⟩ := hsame
    rw [State.setFrames_setFrames] at e1
    have h2 : (T.setVm s.vm).sameButNew ({ U with vm := s.vm } : State) [] (0 + 1) (0 + 6) := ⟨e1, e2⟩
    have h3 := X.same.trans h2
    rw [List.append_nil] at h3
    exact h3
  have hTz : T.heap.size = h.2.1 := by rw [hT]; exact hz
  have hP1 : HP G s (hnew h (.inr (ci, [])) 6) U.heap := by
    refine P.2.1.new ⟨by omega, _, hci, ce, by rw [← hTz]; exact hce, ?_, hO.vm, fun k hk => absurd hk (Nat.not_lt_zero k)⟩ (by rw [hsz, hz]) (fun q hq => g2 q (by omega) (fun z hz => nomatch hz))
    have := (K.1.1 ci _ hci).2.1
    exact Option.some.inj (hcl.symm.trans this)
  rw [hTz] at hend
  refine ⟨U, ?_, .threw h.2.1, hnew h (.inr (ci, [])) 6, locs, cells + 1, slots + 6, hrun, hend, hq, hP1, ⟨hWs, hallS⟩, P.2.2.1, by show cells + 1 + (gC G - (h.2.1 + 1)) ≤ R.cells; omega, by show slots + 6 + (gS G - (h.2.2 + 6)) ≤ R.slots; omega⟩
  refine st1 _ ?_
  show Steps p.tables e below (T1.setTop { method := m, pc := pc + 3, locals := ls, stack := .ref T.heap.size :: st, locked := none }) _
  jvm_step X₁.here [X₁.here.top, E.1, d3', Value.category]
  exact hsteps
