def mLaw (nm : String) (hs : List (Nat × Nat × Nat × Nat)) : MD := (⟨RL, nm, "([I)Z"⟩, cL_law, 7, some .boolean, hs)
section LAWX
variable {G : GT} {M : MD} {d' : Nat} {Q : Outcome → Hp → Prop} {pc : Nat} {lv : List (Option Value)} {st : List Value} {h : Hp}
theorem x_callSH {M' : MD} {n idx : Nat} (hd : decode M.2.1 pc = .ok (.invokestatic idx, 3)) (hS : siteS M.1.cls idx M' n) (hn : n ≤ st.length) (hcat : (st.take n).all (fun v => v.category == 1) = true) (hrest : ((st.drop n).map fun v => v.category).sum ≤ 8) (hj : Cx G M' d' (st.take n).reverse h (Kh G M (d' + 1) Q (pc + 3) pc lv (st.drop n))) : Jx G M (d' + 1) Q pc lv st h := by
  intro p e R s m args below meth c E H locs cells slots ls P T hT X
  have K := E.2.2.2.2.2.2.2.2.2.2
  obtain ⟨⟨hcode, hpl, hy, hL, hAl, hini⟩, hlink, hstat, hpar⟩ := hS
  obtain ⟨mk, methk, ck, c1, c2, c3, c4, c5, c6, c7, c8, c9⟩ := codeW_facts (K.word (A := args) hcode)
  have hstatic : methk.isStatic = true := Cond.static_spec c1 c2 (K.word (A := args) hstat)
  obtain ⟨kP, hkP, -⟩ := className_of_methodNamed c1
  have hinitP : kP.init = .initialized := Cond.initialized_spec (findClass_of_methodNamed c1) hkP (K.word (A := args) hini)
  have hlen : (st.take n).reverse.length = n := by simp; omega
  refine call_onH hL (take_cat hcat) (by rw [hlen]; exact hAl) hpl E P hT X hrest hd c1 c2 c3 c4 c5 c6 c7 c8 ?_ hj
  exact X.invokestatic E.1 E.2.2.2.2.2.1 (K.word hlink) c1 c2 hstatic hkP hinitP hy (g := F0 m pc ls st) rfl (argsL := (st.take n).reverse) (rest := st.drop n) (parm_len hpar c9 hlen) (by rw [List.reverse_reverse, List.take_append_drop]) (by rw [E.2.1]; exact hd)
theorem x_callIH {M' : MD} {n idx b : Nat} (hd : decode M.2.1 pc = .ok (.invokespecial idx, 3)) (hS : siteI M.1.cls idx M' n) (hb : st[n]? = some (.ref b)) (hcat : (st.take (n + 1)).all (fun v => v.category == 1) = true) (hrest : ((st.drop (n + 1)).map fun v => v.category).sum ≤ 8) (hj : Cx G M' d' (st.take (n + 1)).reverse h (Kh G M (d' + 1) Q (pc + 3) pc lv (st.drop (n + 1)))) : Jx G M (d' + 1) Q pc lv st h := by
  intro p e R s m args below meth c E H locs cells slots ls P T hT X
  have K := E.2.2.2.2.2.2.2.2.2.2
  obtain ⟨⟨hcode, hpl, hy, hL, hAl, hini⟩, hlink, hinst, hname, hpar, hrs⟩ := hS
  obtain ⟨mk, methk, ck, c1, c2, c3, c4, c5, c6, c7, c8, c9⟩ := codeW_facts (K.word (A := args) hcode)
  have hb' := (List.getElem?_eq_some_iff.mp hb).1
  have hlen0 : (st.take n).reverse.length = n := by simp; omega
  have hlen : (st.take (n + 1)).reverse.length = n + 1 := by simp; omega
  refine call_onH hL (take_cat hcat) (by rw [hlen]; exact hAl) hpl E P hT X hrest hd c1 c2 c3 c4 c5 c6 c7 c8 ?_ hj
  have hpm : e.platform.magicAccessors = ({} : Platform).magicAccessors := by rw [X.admits.platform]
  have hcw : (Cond.code M'.1 M'.2.1 M'.2.2.1 none).before args s = true := by
    have hcw := K.word (A := args) hcode
    obtain ⟨y, bs, nn, r, hs⟩ := M'
    cases hrs
    exact hcw
  rw [take_recv hb]
  obtain ⟨tm, methM, cM, kP, vm₁, hnamed, -, -, -, -, -, -, -, hW₁, hstep₁⟩ := Steps.initColdArgs (e := e) X.here E.1 X.warmed hpm E.2.2.2.2.2.1 hname hy (K.word hlink) (K.word hinst) hcw (f := F0 m pc ls st) rfl (a := b) (argsL := (st.take n).reverse) (rest := st.drop (n + 1)) (fun sig hs => parm_len hpar hs hlen0) (take_split hb) (by rw [E.2.1]; exact hd)
  cases c1.symm.trans hnamed
  exact ⟨vm₁, X.noted hW₁, hstep₁⟩
end LAWX
def LZ (G : GT) (x m b L : Nat) (xs : Nat → Int32) (k : Nat) (h : Hp) : Prop := ∃ (u : Ut) (E : Nat → Nat → Nat) (X : Nat → Nat → List Nat) (ov lv : Nat → Option Nat) (sf : Nat → Nat → Int32) (md : Nat → Int32) (t : Int32) (f : Nat → Int64), RA G h x (m + 25) u E X ov lv sf ∧ lvOK lv u ∧ RU G h m t u md ∧ h.1 (m + 24) = some (.inl (2, 1, .inr (.inl f))) ∧ Inv u (50 * k) ∧ h.1 b = some (.inl (0, L, .inl xs)) ∧ Rm G (20 * (513 - k)) h
section LSX
variable {G : GT} {h h1 h2 : Hp} {x m b L k : Nat} {xs : Nat → Int32} {u : Ut} {E : Nat → Nat → Nat} {X : Nat → Nat → List Nat} {ov lv : Nat → Option Nat} {sf : Nat → Nat → Int32} {md : Nat → Int32} {t : Int32} {f : Nat → Int64}
theorem RU.cell (hR : RU G h m t u md) : ∃ fs, h.1 m = some (.inr (10, fs)) := by
  obtain ⟨F, hM, -⟩ := hR
  exact ⟨_, hM.o⟩
theorem LZ.next (hxm : x + 12 < m) (hbg : b < gb G) (hk : k < 512) (hA : RA G h1 x (m + 25) u E X ov lv sf) (hlv : lvOK lv u) (hK : KL x (m + 25) (m + 24) 20 h h1) (ho : h1.1 (m + 24) = some (.inl (2, 1, .inr (.inl f)))) (hR : RU G h2 m t u md) (hF : FrM m h1 h2) (hI : Inv u (50 * k + 50)) (hb : h.1 b = some (.inl (0, L, .inl xs))) (hr : Rm G (20 * (513 - k)) h) : LZ G x m b L xs (k + 1) h2 := by
  have hg := hA.gx
  have hz := hA.zh
  have e2 := hF.2
  obtain ⟨k1, k2, k3, k4, k5⟩ := hK
  obtain ⟨r1, r2⟩ := hr
  refine ⟨u, E, X, ov, lv, sf, md, t, f, hA.ext (fun a ha => hF.1 a (by omega)) (by rw [e2]; exact hz), hlv, hR, (hF.1 _ (by omega)).trans ho, hI, ((hF.1 b (by omega)).trans (k1 b (by omega) (by omega))).trans hb, ?_, ?_⟩
  · rw [e2]; omega
  · rw [e2]; omega
theorem pktO.ok {a z : Nat} {pk : Nat → Int32} (hk : pktO h z a pk) : okPk pk ∧ (pk 0 = nI 1 → pk 2 = 0 ∨ pk 2 = nI 1 ∨ pk 2 = nI 2) := by
  rcases hk with hreq | hans
  · rcases hreq.2.2.2 with ⟨q1, q2, oa, q3, q4⟩ | ⟨q1, -⟩
    · obtain ⟨-, aa, ff, -, -, -, l4, l10, -⟩ := q4
      exact ⟨fun _ _ => ⟨_, l4, l10⟩, fun _ => Or.inl q1⟩
    · refine ⟨fun _ q0 => ?_, fun _ => Or.inr q1⟩
      rw [q0] at q1
      rcases q1 with q | q
      · exact absurd q (by decide)
      · exact absurd q (by decide)
  · have h0 := hans.2.1
    exact ⟨fun q => by rw [h0] at q; exact absurd q (by decide), fun q => by rw [h0] at q; exact absurd q (by decide)⟩
theorem RA.okPk {z : Nat} (hA : RA G h x z u E X ov lv sf) : ∀ p, p < 2 → ∀ pk ∈ u.fl p, okPk pk ∧ (pk 0 = nI 1 → pk 2 = 0 ∨ pk 2 = nI 1 ∨ pk 2 = nI 2) := fun p hp => (hA.fl hp).mem (fun a b q => q.ok)
end LSX
