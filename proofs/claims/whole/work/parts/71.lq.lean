def KL (x z o k : Nat) (h h' : Hp) : Prop := (∀ a, (a < x ∨ (x + 12 < a ∧ a < z)) → a ≠ o → h'.1 a = h.1 a) ∧ h.2.1 ≤ h'.2.1 ∧ h'.2.1 ≤ h.2.1 + k ∧ h.2.2 ≤ h'.2.2 ∧ h'.2.2 ≤ h.2.2 + 45 * k
theorem KC.kl {x z o k : Nat} {h h' : Hp} (a : KC x z k h h') : KL x z o k h h' := ⟨fun q hq _ => a.1 q hq, a.2.2⟩
def Lq (G : GT) (x z o k : Nat) (h : Hp) (s : SP) (wb : Bool) (Q : Outcome → Hp → Prop) : Prop := ∀ h' E' X' ov' lv' sf' f', RA G h' x z s.2.2 E' X' ov' lv' sf' → lvOK lv' s.2.2 → KL x z o k h h' → h'.1 o = some (.inl (2, 1, .inr (.inl f'))) → (wb = true → s.1 = nI 0 → f' 0 = s.2.1.toInt64) → Q (.returned (some (.int s.1))) h'
section LQX
variable {G : GT} {Q : Outcome → Hp → Prop} {h h' h1 : Hp} {x z o : Nat} {u : Ut} {E : Nat → Nat → Nat} {X : Nat → Nat → List Nat} {ov lv : Nat → Option Nat} {sf : Nat → Nat → Int32} {fo : Nat → Int64}
theorem RA.ext (hA : RA G h x z u E X ov lv sf) (h1 : ∀ a, (a < gb G ∨ (x ≤ a ∧ a ≤ x + 12) ∨ z ≤ a) → h'.1 a = h.1 a) (h2 : z ≤ h'.2.1) : RA G h' x z u E X ov lv sf := by
  have hK : KP z h h' := fun a e ha he _ => (h1 a (Or.inr (Or.inr ha))).trans he
  have hin : ∀ a, x ≤ a → a ≤ x + 12 → h'.1 a = h.1 a := fun a q1 q2 => h1 a (Or.inr (Or.inl ⟨q1, q2⟩))
  refine ⟨hA.gx, hA.xz, h2, (hin x (by omega) (by omega)).trans hA.ob, fun p hp => (hin _ (by simp only [aF]; omega) (by simp only [aF]; omega)).trans (hA.f hp), fun p hp => (hin _ (aP_in hp).1 (aP_in hp).2).trans (hA.pe hp), fun p hp => (hin _ (aS_in hp).1 (aS_in hp).2).trans (hA.s hp), fun c p hc hp => ⟨(hA.l hc hp).kept (hin _ (by have := (aL_in (x := x) hc hp).1; omega) (aL_in hc hp).2.1) (h1 _ ((hA.e hc hp).elim Or.inl (fun q => Or.inr (Or.inr q)))), hA.e hc hp, fun c' p' hc' hp' hn he => hA.ne hc hp hc' hp' hn he⟩, fun p hp => hA.su hp, fun p hp => (hA.fl hp).mono (fun a b q => q.kept hK), fun p hp => (hA.ki hp).mono (fun a b q => q.kept hK), fun p hp => (hA.wi hp).mono (fun a b q => q.kept hK), fun p hp => (hA.ou hp).kept hK, fun p hp => (hA.la hp).kept hK⟩
theorem RA.out {e : Ee} (hA : RA G h x z u E X ov lv sf) (hxo : x + 12 < o) (hoz : o < z) : RA G (hput h o e) x z u E X ov lv sf := by
  have hg := hA.gx
  exact hA.ext (fun a ha => hput_ne _ _ _ (by omega)) hA.zh
theorem RU.ext {m : Nat} {t : Int32} {md : Nat → Int32} (hR : RU G h m t u md) (h1 : ∀ a, m ≤ a → a ≤ m + 23 → h'.1 a = h.1 a) : RU G h' m t u md := by
  obtain ⟨F, ⟨r1, r2, r3⟩, hV⟩ := hR
  exact ⟨F, ⟨r1, (h1 m (by omega) (by omega)).trans r2, fun j j1 j2 => (h1 _ (by omega) (by omega)).trans (r3 j j1 j2)⟩, hV⟩
theorem lq_ret {s : SP} {wb : Bool} (hs : s.1 = nI 0) (hA1 : RA G h1 x z s.2.2 E X ov lv sf) (hlv1 : lvOK lv s.2.2) (hK1 : KC x z 20 h h1) (ho : h.1 o = some (.inl (2, 1, .inr (.inl fo)))) (hxo : x + 12 < o) (hoz : o < z) (hq : Lq G x z o 20 h s wb Q) : Q (.returned (some (.int (nI 0)))) (hput h1 o (.inl (2, 1, .inr (.inl (vp_updL fo (nI 0).toNatClampNeg s.2.1.toInt64))))) := by
  have := hq (hput h1 o (.inl (2, 1, .inr (.inl (vp_updL fo (nI 0).toNatClampNeg s.2.1.toInt64))))) E X ov lv sf _ (hA1.out hxo hoz) hlv1 ⟨fun a ha hn => (hput_ne _ _ _ hn).trans (hK1.1 a ha), hK1.2.2⟩ (hput_self _ _ _) (fun _ _ => by rw [nI_clamp (by omega)]; simp [vp_updL])
  rw [hs] at this
  exact this
theorem lq_seed {s : SP} (hs : s.1 = nI 0) (hA1 : RA G h1 x z s.2.2 E X ov lv sf) (hlv1 : lvOK lv s.2.2) (hK1 : KC x z 20 h h1) (ho : h.1 o = some (.inl (2, 1, .inr (.inl fo)))) (hxo : x + 12 < o) (hoz : o < z) (hq : Lq G x z o 20 h s false Q) : Q (.returned (some (.int (nI 0)))) h1 := by
  have := hq h1 E X ov lv sf fo hA1 hlv1 hK1.kl ((hK1.1 o (Or.inr ⟨hxo, hoz⟩)).trans ho) (fun q => by cases q)
  rw [hs] at this
  exact this
theorem lq_throw {cd : Int32} {i : Nat} {wb : Bool} (hA : RA G h x z u E X ov lv sf) (hlv : lvOK lv u) (hwf : ∀ a e, h.1 a = some e → a < h.2.1) (ho : h.1 o = some (.inl (2, 1, .inr (.inl fo)))) (hxo : x + 12 < o) (hoz : o < z) (hc : cd ≠ nI 0) (hq : Lq G x z o 20 h (cd, nI 0, u) wb Q) : Q (.returned (some (.int cd))) (hnew h (.inr (i, [])) 6) := by
  obtain ⟨hA1, hK1⟩ := hA.mk1 hwf (.inr (i, [])) 6 (by omega)
  have hol := hwf _ _ ho
  exact hq _ E X ov lv sf fo hA1 hlv (hK1.mono (by omega)).kl ((hK1.1 o (Or.inr ⟨hxo, hoz⟩)).trans ho) (fun _ q => absurd q hc)
end LQX
