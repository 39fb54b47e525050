abbrev Ee : Type := (Nat × vp_A) ⊕ (Nat × List Value)
abbrev Hp : Type := (Nat → Option Ee) × Nat × Nat
abbrev MD : Type := MethodName × ByteArray × Nat × Option FieldType × List (Nat × Nat × Nat × Nat)
abbrev GT : Type := Launch × va_G × (Nat → ClassId) × Nat × Nat × Nat × Heap × Nat × Nat
abbrev gl (G : GT) : Launch := G.1
abbrev gD (G : GT) : va_G := G.2.1
abbrev gA (G : GT) : Nat → ClassId := G.2.2.1
abbrev gb (G : GT) : Nat := G.2.2.2.1
abbrev gC (G : GT) : Nat := G.2.2.2.2.1
abbrev gS (G : GT) : Nat := G.2.2.2.2.2.1
abbrev gH (G : GT) : Heap := G.2.2.2.2.2.2.1
abbrev gZ (G : GT) : Nat := G.2.2.2.2.2.2.2.1
abbrev gM (G : GT) : Nat := G.2.2.2.2.2.2.2.2
def noT : u_T := fun _ => ("", "", "", false)
def rE1 : String := "java/lang/IndexOutOfBoundsException"
def rE2 : String := "java/lang/IllegalArgumentException"
def rE3 : String := "java/lang/IllegalStateException"
def rE4 : String := "java/lang/UnsupportedOperationException"
def rkCl : List vw_C := vwCl ++ [(rE1, noT, 0), (rE2, noT, 0), (rE3, noT, 0), (rE4, noT, 0)]
def rkNc : List Cond := [.not (.castable rE1 rE2), .not (.castable rE1 rE3), .not (.castable rE1 rE4), .not (.castable rE2 rE1), .not (.castable rE2 rE3), .not (.castable rE2 rE4), .not (.castable rE3 rE1), .not (.castable rE3 rE2), .not (.castable rE3 rE4), .not (.castable rE4 rE1), .not (.castable rE4 rE2), .not (.castable rE4 rE3), .not (.castable "RekeyPeers$Answer" "RekeyPeers$Request")]
def tyA : Nat → FieldType
  | 0 => .int
  | 1 => .boolean
  | 2 => .long
  | _ => .object "java/lang/Object"
def vA (x : vp_A) (j : Nat) : Value := match x.2 with
  | .inl f => .int (f j)
  | .inr (.inl f) => .long (f j)
  | .inr (.inr (.inl f)) => .float (f j)
  | .inr (.inr (.inr (.inl f))) => .double (f j)
  | .inr (.inr (.inr (.inr f))) => va_rf (f j)
theorem vA_cell (c : ClassId) (x : vp_A) : vp_cell c x = arrV c x.1 (vA x) := by
  obtain ⟨n, f | f | f | f | f⟩ := x <;> rfl
def tysG (G : GT) : List (ClassId × FieldType) := [(gA G 0, tyA 0), (gA G 1, tyA 1), (gA G 2, tyA 2), (gA G 3, tyA 3)]
def okN : Cond → Bool
  | .fieldLinkNest .. => true
  | .methodLinkNest .. => true
  | _ => false
def okA : Cond → Bool
  | .arrayClass _ => true
  | .arrayOver (.object _) => true
  | .not (.castable _ _) => true
  | _ => false
theorem nc_word {a b : String} {A : Array Value} {U : State} (h : va_Nc a b U) : (Cond.not (.castable a b)).before A U = true := by
  obtain ⟨c, t, h1, h2, h3⟩ := h
  simp [Cond.before, Cond.holds, Cond.value, h1, h2, h3]
def okW (w : Cond) : Bool := (w.onTables && (w.keepsCast || okN w)) || okA w
def TT : List Cond := (rkNc ++ lw_tbl).filter okW
theorem okW_move {w : Cond} {s U : State} (hok : okW w = true) (hW : s.WarmedH U.vm) (h : va_Nw w s) : va_Nw w U := by
  unfold okW at hok
  rw [Bool.or_eq_true] at hok
  rcases hok with hok | hok
  · rw [Bool.and_eq_true] at hok
    obtain ⟨ht, hk⟩ := hok
    rw [Bool.or_eq_true] at hk
    rcases hk with hk | hk
    · exact va_tabs ht (rfl : (s.setVm U.vm).vm = U.vm) (Cond.before_shiftedCast (State.Shifted.of_warmed hW) w hk h)
    · cases w with
      | fieldLinkNest a i b n d hh => exact va_Nw.warmF hW h
      | methodLinkNest a i x hh => exact va_Nw.warmM hW h
      | _ => simp [okN] at hk
  · cases w with
    | arrayClass ty =>
      have h1 : (Cond.arrayClass ty).before #[] (s.setVm U.vm) = true := Cond.before_shiftedFace (State.Shifted.of_warmed hW) _ rfl h
      exact h1
    | arrayOver ty =>
      cases ty with
      | object C => exact va_AO.moved hW.alike h
      | _ => simp [okA] at hok
    | not c =>
      cases c with
      | castable a b => exact nc_word ((va_Nc.of (args := #[]) h).moved hW.alike)
      | _ => simp [okA] at hok
    | _ => simp [okA] at hok
theorem okW_use {w : Cond} {s : State} {A : Array Value} (hok : okW w = true) (h : va_Nw w s) : w.before A s = true := by
  unfold okW at hok
  rw [Bool.or_eq_true] at hok
  rcases hok with hok | hok
  · rw [Bool.and_eq_true] at hok
    exact va_Nw.use hok.1 h
  · cases w with
    | arrayClass ty => exact h
    | arrayOver ty => exact h
    | not c =>
      cases c with
      | castable a b => exact nc_word (va_Nc.of h)
      | _ => simp [okA] at hok
    | _ => simp [okA] at hok
theorem okW_of {w : Cond} {s : State} {A : Array Value} (hok : okW w = true) (h : w.before A s = true) : va_Nw w s := by
  unfold okW at hok
  rw [Bool.or_eq_true] at hok
  rcases hok with hok | hok
  · rw [Bool.and_eq_true] at hok
    exact va_Nw.of hok.1 h
  · cases w with
    | arrayClass ty => exact h
    | arrayOver ty => exact h
    | not c =>
      cases c with
      | castable a b => exact nc_word (va_Nc.of h)
      | _ => simp [okA] at hok
    | _ => simp [okA] at hok
def GU (G : GT) (U : State) : Prop := va_K (gD G) rkCl (tysG G) U ∧ (∀ w ∈ TT, va_Nw w U) ∧ va_Z "java/util/ArrayList" "DEFAULTCAPACITY_EMPTY_ELEMENTDATA" "[Ljava/lang/Object;" (.ref (gZ G)) (fun q => gb G ≤ q) U (gH G) ∧ va_Mi "[Ljava/lang/Object;" (gM G) U ∧ vx_Zq Bundle.tN "UNASSIGNED_STACK" Bundle.steD (fun q => gb G ≤ q) U (gH G) ∧ vx_Zq Bundle.tN "SUPPRESSED_SENTINEL" Bundle.listD (fun q => gb G ≤ q) U (gH G) ∧ (gl G).stackTraces = false
theorem GU.moved {G : GT} {s U : State} (h : GU G s) (hW : s.WarmedH U.vm) : GU G U :=
  ⟨h.1.moved hW.alike, fun w hw => okW_move (List.mem_filter.mp hw).2 hW (h.2.1 w hw), h.2.2.1.moved hW.alike, h.2.2.2.1.moved hW.alike, h.2.2.2.2.1.moved hW.alike, h.2.2.2.2.2.1.moved hW.alike, h.2.2.2.2.2.2⟩
theorem GU.word {G : GT} {s : State} {A : Array Value} (h : GU G s) {w : Cond} (hw : w ∈ TT) : w.before A s = true := okW_use (List.mem_filter.mp hw).2 (h.2.1 w hw)
def cellAt (G : GT) (s : State) (a : Nat) (e : Ee) (H : Heap) : Prop := match e with
  | .inr o => gb G ≤ a ∧ va_at (gD G) rkCl (a, .inr o) H
  | .inl x => (gb G ≤ a ∧ H[a]? = some (vp_cell (gA G x.1) x.2)) ∨ (a < gb G ∧ ∃ cell : Cell, H[a]? = some cell ∧ s.isArrayOf cell (tyA x.1) ∧ cell.vm ≠ .unknown ∧ cell.slots.size = x.2.1 ∧ ∀ j, j < x.2.1 → cell.slots[j]? = some (vA x.2 j))
def HP (G : GT) (s : State) (h : Hp) (H : Heap) : Prop := (∀ a e, h.1 a = some e → cellAt G s a e H) ∧ H.size = h.2.1 ∧ gb G ≤ H.size ∧ ∀ q, q < gb G → H[q]? = (gH G)[q]?
theorem cellAt.lt {G : GT} {s : State} {a : Nat} {e : Ee} {H : Heap} (h : cellAt G s a e H) : a < H.size := by
  cases e with
  | inl x =>
    rcases h with ⟨-, h⟩ | ⟨-, cell, h, -⟩
    · exact (Array.getElem?_eq_some_iff.mp h).1
    · exact (Array.getElem?_eq_some_iff.mp h).1
  | inr o => exact va_at.lt h.2
theorem cellAt.kept {G : GT} {s : State} {a : Nat} {e : Ee} {H H1 : Heap} (h : cellAt G s a e H) (hq : H1[a]? = H[a]?) : cellAt G s a e H1 := by
  cases e with
  | inl x =>
    rcases h with ⟨h0, h⟩ | ⟨h0, cell, h⟩
    · exact Or.inl ⟨h0, by rw [hq]; exact h⟩
    · exact Or.inr ⟨h0, cell, by rw [hq]; exact h.1, h.2⟩
  | inr o => exact ⟨h.1, va_at.kept h.2 hq⟩
theorem cellAt.moved {G : GT} {s U : State} {a : Nat} {e : Ee} {H : Heap} (hvm : s.vm.Alike U.vm) (h : cellAt G s a e H) : cellAt G U a e H := by
  cases e with
  | inl x =>
    rcases h with h | ⟨h0, cell, h1, h2, h3⟩
    · exact Or.inl h
    · exact Or.inr ⟨h0, cell, h1, State.isArrayOf_alike hvm h2, h3⟩
  | inr o => exact h
theorem HP.moved {G : GT} {s U : State} {h : Hp} {H : Heap} (hvm : s.vm.Alike U.vm) (hp : HP G s h H) : HP G U h H := ⟨fun a e he => (hp.1 a e he).moved hvm, hp.2⟩
def hput (h : Hp) (a : Nat) (e : Ee) : Hp := (va_up h.1 a (some e), h.2)
def hnew (h : Hp) (e : Ee) (n : Nat) : Hp := (va_up h.1 h.2.1 (some e), h.2.1 + 1, h.2.2 + n)
theorem HP.put {G : GT} {s : State} {h : Hp} {H H1 : Heap} {a : Nat} {e : Ee} (hp : HP G s h H) (ha : gb G ≤ a) (hc : cellAt G s a e H1) (hz : H1.size = H.size) (ho : ∀ q : Nat, q ≠ a → H1[q]? = H[q]?) : HP G s (hput h a e) H1 := by
  refine ⟨fun b f hb => ?_, hz.trans hp.2.1, by rw [hz]; exact hp.2.2.1, fun q hq => (ho q (by omega)).trans (hp.2.2.2 q hq)⟩
  by_cases hba : b = a
  · subst hba
    simp only [hput, va_up_self] at hb
    cases hb
    exact hc
  · simp only [hput] at hb
    rw [va_up_ne _ _ hba] at hb
    exact (hp.1 b f hb).kept (ho b hba)
theorem HP.new {G : GT} {s : State} {h : Hp} {H H1 : Heap} {e : Ee} {n : Nat} (hp : HP G s h H) (hc : cellAt G s h.2.1 e H1) (hz : H1.size = h.2.1 + 1) (ho : ∀ q : Nat, q < h.2.1 → H1[q]? = H[q]?) : HP G s (hnew h e n) H1 := by
  have hs := hp.2.1
  have hb := hp.2.2.1
  refine ⟨fun b f hb => ?_, hz, by omega, fun q hq => (ho q (by omega)).trans (hp.2.2.2 q hq)⟩
  by_cases hba : b = h.2.1
  · subst hba
    simp only [hnew, va_up_self] at hb
    cases hb
    exact hc
  · simp only [hnew] at hb
    rw [va_up_ne _ _ hba] at hb
    have hl := (hp.1 b f hb).lt
    exact (hp.1 b f hb).kept (ho b (by omega))
def LR (ls : Array Slot) (nL : Nat) (lv : List (Option Value)) : Prop := ls.size = nL ∧ lv_wf ls ∧ lv.length = nL ∧ ∀ (i : Nat) (v : Value), lv[i]? = some (some v) → v.category = 1 ∧ ls[i]? = some (.val v)
def lvA : Nat → List (Option Value) → List (Nat × Value)
  | _, [] => []
  | k, none :: t => lvA (k + 1) t
  | k, some v :: t => (k, v) :: lvA (k + 1) t
theorem lvA_mem : ∀ (lv : List (Option Value)) (k i : Nat) (v : Value), (i, v) ∈ lvA k lv ↔ ∃ j, i = k + j ∧ lv[j]? = some (some v)
  | [], k, i, v => by simp [lvA]
  | none :: t, k, i, v => by
    rw [lvA, lvA_mem t (k + 1) i v]
    constructor
    · rintro ⟨j, h1, h2⟩
      exact ⟨j + 1, by omega, by simpa using h2⟩
    · rintro ⟨j, h1, h2⟩
      cases j with
      | zero => simp at h2
      | succ j => exact ⟨j, by omega, by simpa using h2⟩
  | some w :: t, k, i, v => by
    rw [lvA, List.mem_cons, lvA_mem t (k + 1) i v]
    constructor
    · rintro (h | ⟨j, h1, h2⟩)
      · cases h
        exact ⟨0, by omega, by simp⟩
      · exact ⟨j + 1, by omega, by simpa using h2⟩
    · rintro ⟨j, h1, h2⟩
      cases j with
      | zero =>
        simp at h2
        left
        rw [h2, h1]
        rfl
      | succ j => exact Or.inr ⟨j, by omega, by simpa using h2⟩
theorem LR.has {ls : Array Slot} {nL : Nat} {lv : List (Option Value)} (h : LR ls nL lv) : lv_has ls nL (lvA 0 lv) := by
  refine ⟨h.1, h.2.1, fun q hq => ?_⟩
  obtain ⟨j, h1, h2⟩ := (lvA_mem lv 0 q.1 q.2).mp hq
  have := (h.2.2.2 j q.2 h2).2
  rw [h1, Nat.zero_add]
  exact this
theorem LR.stored {ls ls' : Array Slot} {nL i : Nat} {lv : List (Option Value)} {v : Value} (h : LR ls nL lv) (hc : v.category = 1) (h' : lv_has ls' nL ((i, v) :: (lvA 0 lv).filter (fun q => !(q.1 == i) && !(q.1 + 1 == i && q.2.category == 2)))) : LR ls' nL (lv.set i (some v)) := by
  refine ⟨h'.1, h'.2.1, by rw [List.length_set]; exact h.2.2.1, fun j w hj => ?_⟩
  rw [List.getElem?_set] at hj
  by_cases hij : i = j
  · subst hij
    rw [if_pos rfl] at hj
    by_cases hl : i < lv.length
    · rw [if_pos hl] at hj
      cases hj
      exact ⟨hc, h'.2.2 (i, v) List.mem_cons_self⟩
    · rw [if_neg hl] at hj
      cases hj
  · rw [if_neg hij] at hj
    have hw := h.2.2.2 j w hj
    refine ⟨hw.1, h'.2.2 (j, w) (List.mem_cons_of_mem _ (List.mem_filter.mpr ⟨(lvA_mem lv 0 j w).mpr ⟨j, by omega, hj⟩, ?_⟩))⟩
    have hji : (j == i) = false := by simpa using Ne.symm hij
    simp [hji, hw.1]
def lvE (As : List Value) (nL : Nat) : List (Option Value) := As.map some ++ List.replicate (nL - As.length) none
theorem lvE_lr {As : List Value} {nL : Nat} (hc : ∀ v ∈ As, v.category = 1) (hn : As.length ≤ nL) {ls : Array Slot} (h : lv_has ls nL (lv_args 0 As)) : LR ls nL (lvE As nL) := by
  have key : ∀ (As : List Value) (k : Nat), (∀ v ∈ As, v.category = 1) → ∀ i v, As[i]? = some v → (k + i, v) ∈ lv_args k As := by
    intro As
    induction As with
    | nil => intro k _ i v h; simp at h
    | cons a t ih =>
      intro k hc i v hv
      have ha := hc a List.mem_cons_self
      cases i with
      | zero =>
        simp at hv
        subst hv
        simp [lv_args]
      | succ i =>
        have := ih (k + 1) (fun w hw => hc w (List.mem_cons_of_mem _ hw)) i v (by simpa using hv)
        rw [show k + 1 + i = k + (i + 1) by omega] at this
        simp only [lv_args, ha]
        exact List.mem_cons_of_mem _ this
  refine ⟨h.1, h.2.1, by simp [lvE]; omega, fun i v hv => ?_⟩
  have hi : As[i]? = some v := by
    unfold lvE at hv
    by_cases hl : i < As.length
    · rw [List.getElem?_append_left (by simpa using hl)] at hv
      simpa using hv
    · rw [List.getElem?_append_right (by simp; omega)] at hv
      simp [List.getElem?_replicate] at hv
  refine ⟨hc v (List.mem_of_getElem? hi), ?_⟩
  have := key As 0 hc i v hi
  rw [Nat.zero_add] at this
  exact h.2.2 (i, v) this
def EV (G : GT) (M : MD) (d : Nat) (p : Program) (R : Room) (s : State) (m : MethodId) (meth : Method) (c : Code) : Prop :=
  p.tables.exec = Jvm.exec ∧ c.code = M.2.1 ∧ meth.sig.returnType = M.2.2.2.1 ∧ meth.locks = false ∧ c.maxLocals = M.2.2.1 ∧ s.vm.findClass M.1.cls = some m.cls ∧ meth.name = M.1.name ∧
  c.exceptionTable.toList.map (fun h => (h.startPc, h.endPc, h.handlerPc, h.catchType)) = M.2.2.2.2 ∧ d ≤ R.frames ∧ 40 * d ≤ R.locals ∧ GU G s
def ZQ (G : GT) (R : Room) (below : List Frame) (s : State) (Q : Outcome → Hp → Prop) : State → Prop := fun t =>
  ∃ (o : Outcome) (h : Hp) (L : List Loc) (k n : Nat), t.status = .running ∧ Ended t below o ∧ Q o h ∧ HP G s h t.heap ∧ (s.WarmedH t.vm ∧ s.sameButNew ({ t with vm := s.vm } : State) L k n) ∧ (∀ q ∈ L, gb G ≤ q.base) ∧ k + (gC G - h.2.1) ≤ R.cells ∧ n + (gS G - h.2.2) ≤ R.slots
def Pl (G : GT) (s : State) (R : Room) (nL : Nat) (lv : List (Option Value)) (h : Hp) (H : Heap) (locs : List Loc) (cells slots : Nat) (ls : Array Slot) : Prop :=
  LR ls nL lv ∧ HP G s h H ∧ (∀ q ∈ locs, gb G ≤ q.base) ∧ cells + (gC G - h.2.1) ≤ R.cells ∧ slots + (gS G - h.2.2) ≤ R.slots
def Jx (G : GT) (M : MD) (d : Nat) (Q : Outcome → Hp → Prop) (pc : Nat) (lv : List (Option Value)) (st : List Value) (h : Hp) : Prop :=
  ∀ (p : Program) (e : Env) (R : Room) (s : State) (m : MethodId) (args : Array Value) (below : List Frame) (meth : Method) (c : Code), EV G M d p R s m meth c →
  ∀ (H : Heap) (locs : List Loc) (cells slots : Nat) (ls : Array Slot), Pl G s R M.2.2.1 lv h H locs cells slots ls →
    W p (gl G) e R s m args below meth c H locs cells slots (ZQ G R below s Q) (F0 m pc ls st)
abbrev Cx (G : GT) (M : MD) (d : Nat) (As : List Value) (h : Hp) (Q : Outcome → Hp → Prop) : Prop := Jx G M d Q 0 (lvE As M.2.2.1) [] h
theorem W.monoQ {p : Program} {l : Launch} {e : Env} {R : Room} {s : State} {m : MethodId} {args : Array Value} {below : List Frame} {meth : Method} {c : Code} {H : Heap} {locs : List Loc} {cells slots : Nat} {Q Q' : State → Prop} {g : JFrame} (hq : ∀ t, Q t → Q' t) (h : W p l e R s m args below meth c H locs cells slots Q g) : W p l e R s m args below meth c H locs cells slots Q' g := by
  intro T hT X
  obtain ⟨t, a, b⟩ := h T hT X
  exact ⟨t, a, hq t b⟩
theorem Jx.mono {G : GT} {M : MD} {d : Nat} {Q Q' : Outcome → Hp → Prop} {pc : Nat} {lv : List (Option Value)} {st : List Value} {h : Hp} (hq : ∀ o h', Q o h' → Q' o h') (hj : Jx G M d Q pc lv st h) : Jx G M d Q' pc lv st h := by
  intro p e R s m args below meth c E H locs cells slots ls P
  refine W.monoQ ?_ (hj p e R s m args below meth c E H locs cells slots ls P)
  rintro t ⟨o, h1, L, k, n, a1, a2, a3, a4⟩
  exact ⟨o, h1, L, k, n, a1, a2, hq o h1 a3, a4⟩
theorem Steps.lower {tb : Tables} {e : Env} {f : Frame} {below : List Frame} {s t : State} (h : Steps tb e (f :: below) s t) : Steps tb e below s t := by
  obtain ⟨n, h1, h2⟩ := h
  exact ⟨n, h1, fun k hk => Within.weaken (mid := [f]) (h2 k hk)⟩
