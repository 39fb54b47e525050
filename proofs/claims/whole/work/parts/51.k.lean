def RK (G : GT) (h : Hp) (x z : Nat) (u : Ut) (lv : Nat → Option Nat) : Prop := ∃ E X ov sf, RA G h x z u E X ov lv sf
def KC (x z k : Nat) (h h' : Hp) : Prop := (∀ a, (a < x ∨ (x + 12 < a ∧ a < z)) → h'.1 a = h.1 a) ∧ KP z h h' ∧ h.2.1 ≤ h'.2.1 ∧ h'.2.1 ≤ h.2.1 + k ∧ h.2.2 ≤ h'.2.2 ∧ h'.2.2 ≤ h.2.2 + 45 * k
theorem KC.rf (x z : Nat) (h : Hp) : KC x z 0 h h := ⟨fun _ _ => rfl, KP.rf z h, Nat.le_refl _, Nat.le_refl _, Nat.le_refl _, Nat.le_refl _⟩
theorem KC.trans {x z k1 k2 : Nat} {h h1 h2 : Hp} (a : KC x z k1 h h1) (b : KC x z k2 h1 h2) : KC x z (k1 + k2) h h2 := by
  obtain ⟨a1, a2, a3, a4, a5, a6⟩ := a
  obtain ⟨b1, b2, b3, b4, b5, b6⟩ := b
  exact ⟨fun q hq => (b1 q hq).trans (a1 q hq), a2.trans b2, by omega, by omega, by omega, by omega⟩
theorem KC.mono {x z k k2 : Nat} {h h1 : Hp} (a : KC x z k h h1) (hk : k ≤ k2) : KC x z k2 h h1 := by
  obtain ⟨a1, a2, a3, a4, a5, a6⟩ := a
  exact ⟨a1, a2, a3, by omega, a5, by omega⟩
theorem KC.kp {x z k : Nat} {h h1 : Hp} (a : KC x z k h h1) : KP z h h1 := a.2.1
def Rm (G : GT) (k : Nat) (h : Hp) : Prop := h.2.1 + k ≤ gC G ∧ h.2.2 + 45 * k ≤ gS G
theorem Rm.after {G : GT} {x z k k1 k2 : Nat} {h h1 : Hp} (hr : Rm G k h) (a : KC x z k1 h h1) (hk : k1 + k2 ≤ k) : Rm G k2 h1 := by
  obtain ⟨a1, a2, a3, a4, a5, a6⟩ := a
  obtain ⟨r1, r2⟩ := hr
  exact ⟨by omega, by omega⟩
theorem Rm.c {G : GT} {k : Nat} {h : Hp} (hr : Rm G k h) (hk : 0 < k) : h.2.1 < gC G := by
  have := hr.1
  omega
theorem Rm.s {G : GT} {k n : Nat} {h : Hp} (hr : Rm G k h) (hk : n ≤ 45 * k) : h.2.2 + n ≤ gS G := by
  have := hr.2
  omega
theorem aP_ne {x p a : Nat} (hp : p < 2) (h0 : a ≠ aP x 0) (h1 : a ≠ aP x 1) : a ≠ aP x p := by
  rcases (show p = 0 ∨ p = 1 by omega) with rfl | rfl
  · exact h0
  · exact h1
theorem aS_ne {x p a : Nat} (hp : p < 2) (h0 : a ≠ aS x 0) (h1 : a ≠ aS x 1) : a ≠ aS x p := by
  rcases (show p = 0 ∨ p = 1 by omega) with rfl | rfl
  · exact h0
  · exact h1
theorem KC.put {x z a : Nat} {h : Hp} {e : Ee} (h1 : x ≤ a) (h2 : a ≤ x + 12) (hxz : x + 12 < z) : KC x z 0 h (hput h a e) := ⟨fun q hq => hput_ne _ _ _ (by omega), fun q e hq he _ => (hput_ne _ _ _ (by omega)).trans he, Nat.le_refl _, Nat.le_refl _, Nat.le_refl _, Nat.le_refl _⟩
theorem aP_in {x p : Nat} (hp : p < 2) : x ≤ aP x p ∧ aP x p ≤ x + 12 := by simp only [aP]; omega
theorem aS_in {x p : Nat} (hp : p < 2) : x ≤ aS x p ∧ aS x p ≤ x + 12 := by simp only [aS]; omega
section KX
variable {G : GT} {h : Hp} {x z : Nat} {u : Ut} {E : Nat → Nat → Nat} {X : Nat → Nat → List Nat} {ov lv : Nat → Option Nat} {sf : Nat → Nat → Int32}
theorem RA.pk (hA : RA G h x z u E X ov lv sf) {p : Nat} {e : Ee} (hp : p < 2) : KC x z 0 h (hput h (aP x p) e) := KC.put (aP_in hp).1 (aP_in hp).2 hA.xz
theorem RA.t_lo (hA : RA G h x z u E X ov lv sf) {p : Nat} (hp : p < 2) (v : Int32) : RA G (hput h (aP x p) (.inr (6, [.int (nI p), .ref (aF x (1 - p)), .ref (aS x p), .int (nI (u.su p).length), .int v, .int (u.hi p), .int (u.no p), .int (u.mk p), .ref (aL x 1 p), .ref (aL x 2 p), va_rf (ov p), .int (u.se p), .int (u.sp p), .int (u.wt p), .int (nI (u.nn p)), .int (nI (u.na p)), va_rf (lv p), .int (bI (u.de p))]))) x z (u.w_lo p v) E X ov lv sf := by
  refine hA.updA (fun a a0 a1 _ _ => hput_ne _ _ _ (aP_ne hp a0 a1)) rfl (fun q hq => ?_) (fun q hq => ?_) (fun q hq => hA.su hq) rfl rfl rfl (fun q hq => hA.ou hq) (fun q hq => hA.la hq)
  · by_cases e : q = p
    · subst e
      rw [hput_self]
      show _ = @some Ee (.inr (6, [.int (nI q), .ref (aF x (1 - q)), .ref (aS x q), .int (nI (u.su q).length), .int ((u.w_lo q v).lo q), .int (u.hi q), .int (u.no q), .int (u.mk q), .ref (aL x 1 q), .ref (aL x 2 q), va_rf (ov q), .int (u.se q), .int (u.sp q), .int (u.wt q), .int (nI (u.nn q)), .int (nI (u.na q)), va_rf (lv q), .int (bI (u.de q))]))
      rw [show (u.w_lo q v).lo q = v from va_up_self _ _ _]
    · rw [hput_ne _ _ _ (by simp only [aP]; omega), hA.pe hq]
      show _ = @some Ee (.inr (6, [.int (nI q), .ref (aF x (1 - q)), .ref (aS x q), .int (nI (u.su q).length), .int ((u.w_lo p v).lo q), .int (u.hi q), .int (u.no q), .int (u.mk q), .ref (aL x 1 q), .ref (aL x 2 q), va_rf (ov q), .int (u.se q), .int (u.sp q), .int (u.wt q), .int (nI (u.nn q)), .int (nI (u.na q)), va_rf (lv q), .int (bI (u.de q))]))
      rw [show (u.w_lo p v).lo q = u.lo q from va_up_ne _ _ e]
  · rw [hput_ne _ _ _ (by simp only [aP, aS]; omega)]
    exact hA.s hq
theorem RA.v_lo (hA : RA G h x z u E X ov lv sf) {p : Nat} (hp : p < 2) (v : Int32) : RA G (hput h (aP x p) (.inr (6, [.int (nI p), .ref (aF x (1 - p)), .ref (aS x p), .int (nI (u.su p).length), .int v, .int (u.hi p), .int (u.no p), .int (u.mk p), .ref (aL x 1 p), .ref (aL x 2 p), va_rf (ov p), .int (u.se p), .int (u.sp p), .int (u.wt p), .int (nI (u.nn p)), .int (nI (u.na p)), va_rf (lv p), .int (bI (u.de p))]))) x z (u.w_lo p v) E X ov lv sf ∧ KC x z 0 h (hput h (aP x p) (.inr (6, [.int (nI p), .ref (aF x (1 - p)), .ref (aS x p), .int (nI (u.su p).length), .int v, .int (u.hi p), .int (u.no p), .int (u.mk p), .ref (aL x 1 p), .ref (aL x 2 p), va_rf (ov p), .int (u.se p), .int (u.sp p), .int (u.wt p), .int (nI (u.nn p)), .int (nI (u.na p)), va_rf (lv p), .int (bI (u.de p))]))) := ⟨hA.t_lo hp v, hA.pk hp⟩
theorem RA.t_hi (hA : RA G h x z u E X ov lv sf) {p : Nat} (hp : p < 2) (v : Int32) : RA G (hput h (aP x p) (.inr (6, [.int (nI p), .ref (aF x (1 - p)), .ref (aS x p), .int (nI (u.su p).length), .int (u.lo p), .int v, .int (u.no p), .int (u.mk p), .ref (aL x 1 p), .ref (aL x 2 p), va_rf (ov p), .int (u.se p), .int (u.sp p), .int (u.wt p), .int (nI (u.nn p)), .int (nI (u.na p)), va_rf (lv p), .int (bI (u.de p))]))) x z (u.w_hi p v) E X ov lv sf := by
  refine hA.updA (fun a a0 a1 _ _ => hput_ne _ _ _ (aP_ne hp a0 a1)) rfl (fun q hq => ?_) (fun q hq => ?_) (fun q hq => hA.su hq) rfl rfl rfl (fun q hq => hA.ou hq) (fun q hq => hA.la hq)
  · by_cases e : q = p
    · subst e
      rw [hput_self]
      show _ = @some Ee (.inr (6, [.int (nI q), .ref (aF x (1 - q)), .ref (aS x q), .int (nI (u.su q).length), .int (u.lo q), .int ((u.w_hi q v).hi q), .int (u.no q), .int (u.mk q), .ref (aL x 1 q), .ref (aL x 2 q), va_rf (ov q), .int (u.se q), .int (u.sp q), .int (u.wt q), .int (nI (u.nn q)), .int (nI (u.na q)), va_rf (lv q), .int (bI (u.de q))]))
      rw [show (u.w_hi q v).hi q = v from va_up_self _ _ _]
    · rw [hput_ne _ _ _ (by simp only [aP]; omega), hA.pe hq]
      show _ = @some Ee (.inr (6, [.int (nI q), .ref (aF x (1 - q)), .ref (aS x q), .int (nI (u.su q).length), .int (u.lo q), .int ((u.w_hi p v).hi q), .int (u.no q), .int (u.mk q), .ref (aL x 1 q), .ref (aL x 2 q), va_rf (ov q), .int (u.se q), .int (u.sp q), .int (u.wt q), .int (nI (u.nn q)), .int (nI (u.na q)), va_rf (lv q), .int (bI (u.de q))]))
      rw [show (u.w_hi p v).hi q = u.hi q from va_up_ne _ _ e]
  · rw [hput_ne _ _ _ (by simp only [aP, aS]; omega)]
    exact hA.s hq
theorem RA.v_hi (hA : RA G h x z u E X ov lv sf) {p : Nat} (hp : p < 2) (v : Int32) : RA G (hput h (aP x p) (.inr (6, [.int (nI p), .ref (aF x (1 - p)), .ref (aS x p), .int (nI (u.su p).length), .int (u.lo p), .int v, .int (u.no p), .int (u.mk p), .ref (aL x 1 p), .ref (aL x 2 p), va_rf (ov p), .int (u.se p), .int (u.sp p), .int (u.wt p), .int (nI (u.nn p)), .int (nI (u.na p)), va_rf (lv p), .int (bI (u.de p))]))) x z (u.w_hi p v) E X ov lv sf ∧ KC x z 0 h (hput h (aP x p) (.inr (6, [.int (nI p), .ref (aF x (1 - p)), .ref (aS x p), .int (nI (u.su p).length), .int (u.lo p), .int v, .int (u.no p), .int (u.mk p), .ref (aL x 1 p), .ref (aL x 2 p), va_rf (ov p), .int (u.se p), .int (u.sp p), .int (u.wt p), .int (nI (u.nn p)), .int (nI (u.na p)), va_rf (lv p), .int (bI (u.de p))]))) := ⟨hA.t_hi hp v, hA.pk hp⟩
theorem RA.t_no (hA : RA G h x z u E X ov lv sf) {p : Nat} (hp : p < 2) (v : Int32) : RA G (hput h (aP x p) (.inr (6, [.int (nI p), .ref (aF x (1 - p)), .ref (aS x p), .int (nI (u.su p).length), .int (u.lo p), .int (u.hi p), .int v, .int (u.mk p), .ref (aL x 1 p), .ref (aL x 2 p), va_rf (ov p), .int (u.se p), .int (u.sp p), .int (u.wt p), .int (nI (u.nn p)), .int (nI (u.na p)), va_rf (lv p), .int (bI (u.de p))]))) x z (u.w_no p v) E X ov lv sf := by
  refine hA.updA (fun a a0 a1 _ _ => hput_ne _ _ _ (aP_ne hp a0 a1)) rfl (fun q hq => ?_) (fun q hq => ?_) (fun q hq => hA.su hq) rfl rfl rfl (fun q hq => hA.ou hq) (fun q hq => hA.la hq)
  · by_cases e : q = p
    · subst e
      rw [hput_self]
      show _ = @some Ee (.inr (6, [.int (nI q), .ref (aF x (1 - q)), .ref (aS x q), .int (nI (u.su q).length), .int (u.lo q), .int (u.hi q), .int ((u.w_no q v).no q), .int (u.mk q), .ref (aL x 1 q), .ref (aL x 2 q), va_rf (ov q), .int (u.se q), .int (u.sp q), .int (u.wt q), .int (nI (u.nn q)), .int (nI (u.na q)), va_rf (lv q), .int (bI (u.de q))]))
      rw [show (u.w_no q v).no q = v from va_up_self _ _ _]
    · rw [hput_ne _ _ _ (by simp only [aP]; omega), hA.pe hq]
      show _ = @some Ee (.inr (6, [.int (nI q), .ref (aF x (1 - q)), .ref (aS x q), .int (nI (u.su q).length), .int (u.lo q), .int (u.hi q), .int ((u.w_no p v).no q), .int (u.mk q), .ref (aL x 1 q), .ref (aL x 2 q), va_rf (ov q), .int (u.se q), .int (u.sp q), .int (u.wt q), .int (nI (u.nn q)), .int (nI (u.na q)), va_rf (lv q), .int (bI (u.de q))]))
      rw [show (u.w_no p v).no q = u.no q from va_up_ne _ _ e]
  · rw [hput_ne _ _ _ (by simp only [aP, aS]; omega)]
    exact hA.s hq
theorem RA.v_no (hA : RA G h x z u E X ov lv sf) {p : Nat} (hp : p < 2) (v : Int32) : RA G (hput h (aP x p) (.inr (6, [.int (nI p), .ref (aF x (1 - p)), .ref (aS x p), .int (nI (u.su p).length), .int (u.lo p), .int (u.hi p), .int v, .int (u.mk p), .ref (aL x 1 p), .ref (aL x 2 p), va_rf (ov p), .int (u.se p), .int (u.sp p), .int (u.wt p), .int (nI (u.nn p)), .int (nI (u.na p)), va_rf (lv p), .int (bI (u.de p))]))) x z (u.w_no p v) E X ov lv sf ∧ KC x z 0 h (hput h (aP x p) (.inr (6, [.int (nI p), .ref (aF x (1 - p)), .ref (aS x p), .int (nI (u.su p).length), .int (u.lo p), .int (u.hi p), .int v, .int (u.mk p), .ref (aL x 1 p), .ref (aL x 2 p), va_rf (ov p), .int (u.se p), .int (u.sp p), .int (u.wt p), .int (nI (u.nn p)), .int (nI (u.na p)), va_rf (lv p), .int (bI (u.de p))]))) := ⟨hA.t_no hp v, hA.pk hp⟩
theorem RA.t_mk (hA : RA G h x z u E X ov lv sf) {p : Nat} (hp : p < 2) (v : Int32) : RA G (hput h (aP x p) (.inr (6, [.int (nI p), .ref (aF x (1 - p)), .ref (aS x p), .int (nI (u.su p).length), .int (u.lo p), .int (u.hi p), .int (u.no p), .int v, .ref (aL x 1 p), .ref (aL x 2 p), va_rf (ov p), .int (u.se p), .int (u.sp p), .int (u.wt p), .int (nI (u.nn p)), .int (nI (u.na p)), va_rf (lv p), .int (bI (u.de p))]))) x z (u.w_mk p v) E X ov lv sf := by
  refine hA.updA (fun a a0 a1 _ _ => hput_ne _ _ _ (aP_ne hp a0 a1)) rfl (fun q hq => ?_) (fun q hq => ?_) (fun q hq => hA.su hq) rfl rfl rfl (fun q hq => hA.ou hq) (fun q hq => hA.la hq)
  · by_cases e : q = p
    · subst e
      rw [hput_self]
      show _ = @some Ee (.inr (6, [.int (nI q), .ref (aF x (1 - q)), .ref (aS x q), .int (nI (u.su q).length), .int (u.lo q), .int (u.hi q), .int (u.no q), .int ((u.w_mk q v).mk q), .ref (aL x 1 q), .ref (aL x 2 q), va_rf (ov q), .int (u.se q), .int (u.sp q), .int (u.wt q), .int (nI (u.nn q)), .int (nI (u.na q)), va_rf (lv q), .int (bI (u.de q))]))
      rw [show (u.w_mk q v).mk q = v from va_up_self _ _ _]
    · rw [hput_ne _ _ _ (by simp only [aP]; omega), hA.pe hq]
      show _ = @some Ee (.inr (6, [.int (nI q), .ref (aF x (1 - q)), .ref (aS x q), .int (nI (u.su q).length), .int (u.lo q), .int (u.hi q), .int (u.no q), .int ((u.w_mk p v).mk q), .ref (aL x 1 q), .ref (aL x 2 q), va_rf (ov q), .int (u.se q), .int (u.sp q), .int (u.wt q), .int (nI (u.nn q)), .int (nI (u.na q)), va_rf (lv q), .int (bI (u.de q))]))
      rw [show (u.w_mk p v).mk q = u.mk q from va_up_ne _ _ e]
  · rw [hput_ne _ _ _ (by simp only [aP, aS]; omega)]
    exact hA.s hq
theorem RA.v_mk (hA : RA G h x z u E X ov lv sf) {p : Nat} (hp : p < 2) (v : Int32) : RA G (hput h (aP x p) (.inr (6, [.int (nI p), .ref (aF x (1 - p)), .ref (aS x p), .int (nI (u.su p).length), .int (u.lo p), .int (u.hi p), .int (u.no p), .int v, .ref (aL x 1 p), .ref (aL x 2 p), va_rf (ov p), .int (u.se p), .int (u.sp p), .int (u.wt p), .int (nI (u.nn p)), .int (nI (u.na p)), va_rf (lv p), .int (bI (u.de p))]))) x z (u.w_mk p v) E X ov lv sf ∧ KC x z 0 h (hput h (aP x p) (.inr (6, [.int (nI p), .ref (aF x (1 - p)), .ref (aS x p), .int (nI (u.su p).length), .int (u.lo p), .int (u.hi p), .int (u.no p), .int v, .ref (aL x 1 p), .ref (aL x 2 p), va_rf (ov p), .int (u.se p), .int (u.sp p), .int (u.wt p), .int (nI (u.nn p)), .int (nI (u.na p)), va_rf (lv p), .int (bI (u.de p))]))) := ⟨hA.t_mk hp v, hA.pk hp⟩
theorem RA.t_se (hA : RA G h x z u E X ov lv sf) {p : Nat} (hp : p < 2) (v : Int32) : RA G (hput h (aP x p) (.inr (6, [.int (nI p), .ref (aF x (1 - p)), .ref (aS x p), .int (nI (u.su p).length), .int (u.lo p), .int (u.hi p), .int (u.no p), .int (u.mk p), .ref (aL x 1 p), .ref (aL x 2 p), va_rf (ov p), .int v, .int (u.sp p), .int (u.wt p), .int (nI (u.nn p)), .int (nI (u.na p)), va_rf (lv p), .int (bI (u.de p))]))) x z (u.w_se p v) E X ov lv sf := by
  refine hA.updA (fun a a0 a1 _ _ => hput_ne _ _ _ (aP_ne hp a0 a1)) rfl (fun q hq => ?_) (fun q hq => ?_) (fun q hq => hA.su hq) rfl rfl rfl (fun q hq => hA.ou hq) (fun q hq => hA.la hq)
  · by_cases e : q = p
    · subst e
      rw [hput_self]
      show _ = @some Ee (.inr (6, [.int (nI q), .ref (aF x (1 - q)), .ref (aS x q), .int (nI (u.su q).length), .int (u.lo q), .int (u.hi q), .int (u.no q), .int (u.mk q), .ref (aL x 1 q), .ref (aL x 2 q), va_rf (ov q), .int ((u.w_se q v).se q), .int (u.sp q), .int (u.wt q), .int (nI (u.nn q)), .int (nI (u.na q)), va_rf (lv q), .int (bI (u.de q))]))
      rw [show (u.w_se q v).se q = v from va_up_self _ _ _]
    · rw [hput_ne _ _ _ (by simp only [aP]; omega), hA.pe hq]
      show _ = @some Ee (.inr (6, [.int (nI q), .ref (aF x (1 - q)), .ref (aS x q), .int (nI (u.su q).length), .int (u.lo q), .int (u.hi q), .int (u.no q), .int (u.mk q), .ref (aL x 1 q), .ref (aL x 2 q), va_rf (ov q), .int ((u.w_se p v).se q), .int (u.sp q), .int (u.wt q), .int (nI (u.nn q)), .int (nI (u.na q)), va_rf (lv q), .int (bI (u.de q))]))
      rw [show (u.w_se p v).se q = u.se q from va_up_ne _ _ e]
  · rw [hput_ne _ _ _ (by simp only [aP, aS]; omega)]
    exact hA.s hq
theorem RA.v_se (hA : RA G h x z u E X ov lv sf) {p : Nat} (hp : p < 2) (v : Int32) : RA G (hput h (aP x p) (.inr (6, [.int (nI p), .ref (aF x (1 - p)), .ref (aS x p), .int (nI (u.su p).length), .int (u.lo p), .int (u.hi p), .int (u.no p), .int (u.mk p), .ref (aL x 1 p), .ref (aL x 2 p), va_rf (ov p), .int v, .int (u.sp p), .int (u.wt p), .int (nI (u.nn p)), .int (nI (u.na p)), va_rf (lv p), .int (bI (u.de p))]))) x z (u.w_se p v) E X ov lv sf ∧ KC x z 0 h (hput h (aP x p) (.inr (6, [.int (nI p), .ref (aF x (1 - p)), .ref (aS x p), .int (nI (u.su p).length), .int (u.lo p), .int (u.hi p), .int (u.no p), .int (u.mk p), .ref (aL x 1 p), .ref (aL x 2 p), va_rf (ov p), .int v, .int (u.sp p), .int (u.wt p), .int (nI (u.nn p)), .int (nI (u.na p)), va_rf (lv p), .int (bI (u.de p))]))) := ⟨hA.t_se hp v, hA.pk hp⟩
theorem RA.t_sp (hA : RA G h x z u E X ov lv sf) {p : Nat} (hp : p < 2) (v : Int32) : RA G (hput h (aP x p) (.inr (6, [.int (nI p), .ref (aF x (1 - p)), .ref (aS x p), .int (nI (u.su p).length), .int (u.lo p), .int (u.hi p), .int (u.no p), .int (u.mk p), .ref (aL x 1 p), .ref (aL x 2 p), va_rf (ov p), .int (u.se p), .int v, .int (u.wt p), .int (nI (u.nn p)), .int (nI (u.na p)), va_rf (lv p), .int (bI (u.de p))]))) x z (u.w_sp p v) E X ov lv sf := by
  refine hA.updA (fun a a0 a1 _ _ => hput_ne _ _ _ (aP_ne hp a0 a1)) rfl (fun q hq => ?_) (fun q hq => ?_) (fun q hq => hA.su hq) rfl rfl rfl (fun q hq => hA.ou hq) (fun q hq => hA.la hq)
  · by_cases e : q = p
    · subst e
      rw [hput_self]
      show _ = @some Ee (.inr (6, [.int (nI q), .ref (aF x (1 - q)), .ref (aS x q), .int (nI (u.su q).length), .int (u.lo q), .int (u.hi q), .int (u.no q), .int (u.mk q), .ref (aL x 1 q), .ref (aL x 2 q), va_rf (ov q), .int (u.se q), .int ((u.w_sp q v).sp q), .int (u.wt q), .int (nI (u.nn q)), .int (nI (u.na q)), va_rf (lv q), .int (bI (u.de q))]))
      rw [show (u.w_sp q v).sp q = v from va_up_self _ _ _]
    · rw [hput_ne _ _ _ (by simp only [aP]; omega), hA.pe hq]
      show _ = @some Ee (.inr (6, [.int (nI q), .ref (aF x (1 - q)), .ref (aS x q), .int (nI (u.su q).length), .int (u.lo q), .int (u.hi q), .int (u.no q), .int (u.mk q), .ref (aL x 1 q), .ref (aL x 2 q), va_rf (ov q), .int (u.se q), .int ((u.w_sp p v).sp q), .int (u.wt q), .int (nI (u.nn q)), .int (nI (u.na q)), va_rf (lv q), .int (bI (u.de q))]))
      rw [show (u.w_sp p v).sp q = u.sp q from va_up_ne _ _ e]
  · rw [hput_ne _ _ _ (by simp only [aP, aS]; omega)]
    exact hA.s hq
theorem RA.v_sp (hA : RA G h x z u E X ov lv sf) {p : Nat} (hp : p < 2) (v : Int32) : RA G (hput h (aP x p) (.inr (6, [.int (nI p), .ref (aF x (1 - p)), .ref (aS x p), .int (nI (u.su p).length), .int (u.lo p), .int (u.hi p), .int (u.no p), .int (u.mk p), .ref (aL x 1 p), .ref (aL x 2 p), va_rf (ov p), .int (u.se p), .int v, .int (u.wt p), .int (nI (u.nn p)), .int (nI (u.na p)), va_rf (lv p), .int (bI (u.de p))]))) x z (u.w_sp p v) E X ov lv sf ∧ KC x z 0 h (hput h (aP x p) (.inr (6, [.int (nI p), .ref (aF x (1 - p)), .ref (aS x p), .int (nI (u.su p).length), .int (u.lo p), .int (u.hi p), .int (u.no p), .int (u.mk p), .ref (aL x 1 p), .ref (aL x 2 p), va_rf (ov p), .int (u.se p), .int v, .int (u.wt p), .int (nI (u.nn p)), .int (nI (u.na p)), va_rf (lv p), .int (bI (u.de p))]))) := ⟨hA.t_sp hp v, hA.pk hp⟩
theorem RA.t_wt (hA : RA G h x z u E X ov lv sf) {p : Nat} (hp : p < 2) (v : Int32) : RA G (hput h (aP x p) (.inr (6, [.int (nI p), .ref (aF x (1 - p)), .ref (aS x p), .int (nI (u.su p).length), .int (u.lo p), .int (u.hi p), .int (u.no p), .int (u.mk p), .ref (aL x 1 p), .ref (aL x 2 p), va_rf (ov p), .int (u.se p), .int (u.sp p), .int v, .int (nI (u.nn p)), .int (nI (u.na p)), va_rf (lv p), .int (bI (u.de p))]))) x z (u.w_wt p v) E X ov lv sf := by
  refine hA.updA (fun a a0 a1 _ _ => hput_ne _ _ _ (aP_ne hp a0 a1)) rfl (fun q hq => ?_) (fun q hq => ?_) (fun q hq => hA.su hq) rfl rfl rfl (fun q hq => hA.ou hq) (fun q hq => hA.la hq)
  · by_cases e : q = p
    · subst e
      rw [hput_self]
      show _ = @some Ee (.inr (6, [.int (nI q), .ref (aF x (1 - q)), .ref (aS x q), .int (nI (u.su q).length), .int (u.lo q), .int (u.hi q), .int (u.no q), .int (u.mk q), .ref (aL x 1 q), .ref (aL x 2 q), va_rf (ov q), .int (u.se q), .int (u.sp q), .int ((u.w_wt q v).wt q), .int (nI (u.nn q)), .int (nI (u.na q)), va_rf (lv q), .int (bI (u.de q))]))
      rw [show (u.w_wt q v).wt q = v from va_up_self _ _ _]
    · rw [hput_ne _ _ _ (by simp only [aP]; omega), hA.pe hq]
      show _ = @some Ee (.inr (6, [.int (nI q), .ref (aF x (1 - q)), .ref (aS x q), .int (nI (u.su q).length), .int (u.lo q), .int (u.hi q), .int (u.no q), .int (u.mk q), .ref (aL x 1 q), .ref (aL x 2 q), va_rf (ov q), .int (u.se q), .int (u.sp q), .int ((u.w_wt p v).wt q), .int (nI (u.nn q)), .int (nI (u.na q)), va_rf (lv q), .int (bI (u.de q))]))
      rw [show (u.w_wt p v).wt q = u.wt q from va_up_ne _ _ e]
  · rw [hput_ne _ _ _ (by simp only [aP, aS]; omega)]
    exact hA.s hq
theorem RA.v_wt (hA : RA G h x z u E X ov lv sf) {p : Nat} (hp : p < 2) (v : Int32) : RA G (hput h (aP x p) (.inr (6, [.int (nI p), .ref (aF x (1 - p)), .ref (aS x p), .int (nI (u.su p).length), .int (u.lo p), .int (u.hi p), .int (u.no p), .int (u.mk p), .ref (aL x 1 p), .ref (aL x 2 p), va_rf (ov p), .int (u.se p), .int (u.sp p), .int v, .int (nI (u.nn p)), .int (nI (u.na p)), va_rf (lv p), .int (bI (u.de p))]))) x z (u.w_wt p v) E X ov lv sf ∧ KC x z 0 h (hput h (aP x p) (.inr (6, [.int (nI p), .ref (aF x (1 - p)), .ref (aS x p), .int (nI (u.su p).length), .int (u.lo p), .int (u.hi p), .int (u.no p), .int (u.mk p), .ref (aL x 1 p), .ref (aL x 2 p), va_rf (ov p), .int (u.se p), .int (u.sp p), .int v, .int (nI (u.nn p)), .int (nI (u.na p)), va_rf (lv p), .int (bI (u.de p))]))) := ⟨hA.t_wt hp v, hA.pk hp⟩
theorem RA.t_nn (hA : RA G h x z u E X ov lv sf) {p : Nat} (hp : p < 2) (v : Nat) : RA G (hput h (aP x p) (.inr (6, [.int (nI p), .ref (aF x (1 - p)), .ref (aS x p), .int (nI (u.su p).length), .int (u.lo p), .int (u.hi p), .int (u.no p), .int (u.mk p), .ref (aL x 1 p), .ref (aL x 2 p), va_rf (ov p), .int (u.se p), .int (u.sp p), .int (u.wt p), .int (nI v), .int (nI (u.na p)), va_rf (lv p), .int (bI (u.de p))]))) x z (u.w_nn p v) E X ov lv sf := by
  refine hA.updA (fun a a0 a1 _ _ => hput_ne _ _ _ (aP_ne hp a0 a1)) rfl (fun q hq => ?_) (fun q hq => ?_) (fun q hq => hA.su hq) rfl rfl rfl (fun q hq => hA.ou hq) (fun q hq => hA.la hq)
  · by_cases e : q = p
    · subst e
      rw [hput_self]
      show _ = @some Ee (.inr (6, [.int (nI q), .ref (aF x (1 - q)), .ref (aS x q), .int (nI (u.su q).length), .int (u.lo q), .int (u.hi q), .int (u.no q), .int (u.mk q), .ref (aL x 1 q), .ref (aL x 2 q), va_rf (ov q), .int (u.se q), .int (u.sp q), .int (u.wt q), .int (nI ((u.w_nn q v).nn q)), .int (nI (u.na q)), va_rf (lv q), .int (bI (u.de q))]))
      rw [show (u.w_nn q v).nn q = v from va_up_self _ _ _]
    · rw [hput_ne _ _ _ (by simp only [aP]; omega), hA.pe hq]
      show _ = @some Ee (.inr (6, [.int (nI q), .ref (aF x (1 - q)), .ref (aS x q), .int (nI (u.su q).length), .int (u.lo q), .int (u.hi q), .int (u.no q), .int (u.mk q), .ref (aL x 1 q), .ref (aL x 2 q), va_rf (ov q), .int (u.se q), .int (u.sp q), .int (u.wt q), .int (nI ((u.w_nn p v).nn q)), .int (nI (u.na q)), va_rf (lv q), .int (bI (u.de q))]))
      rw [show (u.w_nn p v).nn q = u.nn q from va_up_ne _ _ e]
  · rw [hput_ne _ _ _ (by simp only [aP, aS]; omega)]
    exact hA.s hq
theorem RA.v_nn (hA : RA G h x z u E X ov lv sf) {p : Nat} (hp : p < 2) (v : Nat) : RA G (hput h (aP x p) (.inr (6, [.int (nI p), .ref (aF x (1 - p)), .ref (aS x p), .int (nI (u.su p).length), .int (u.lo p), .int (u.hi p), .int (u.no p), .int (u.mk p), .ref (aL x 1 p), .ref (aL x 2 p), va_rf (ov p), .int (u.se p), .int (u.sp p), .int (u.wt p), .int (nI v), .int (nI (u.na p)), va_rf (lv p), .int (bI (u.de p))]))) x z (u.w_nn p v) E X ov lv sf ∧ KC x z 0 h (hput h (aP x p) (.inr (6, [.int (nI p), .ref (aF x (1 - p)), .ref (aS x p), .int (nI (u.su p).length), .int (u.lo p), .int (u.hi p), .int (u.no p), .int (u.mk p), .ref (aL x 1 p), .ref (aL x 2 p), va_rf (ov p), .int (u.se p), .int (u.sp p), .int (u.wt p), .int (nI v), .int (nI (u.na p)), va_rf (lv p), .int (bI (u.de p))]))) := ⟨hA.t_nn hp v, hA.pk hp⟩
theorem RA.t_na (hA : RA G h x z u E X ov lv sf) {p : Nat} (hp : p < 2) (v : Nat) : RA G (hput h (aP x p) (.inr (6, [.int (nI p), .ref (aF x (1 - p)), .ref (aS x p), .int (nI (u.su p).length), .int (u.lo p), .int (u.hi p), .int (u.no p), .int (u.mk p), .ref (aL x 1 p), .ref (aL x 2 p), va_rf (ov p), .int (u.se p), .int (u.sp p), .int (u.wt p), .int (nI (u.nn p)), .int (nI v), va_rf (lv p), .int (bI (u.de p))]))) x z (u.w_na p v) E X ov lv sf := by
  refine hA.updA (fun a a0 a1 _ _ => hput_ne _ _ _ (aP_ne hp a0 a1)) rfl (fun q hq => ?_) (fun q hq => ?_) (fun q hq => hA.su hq) rfl rfl rfl (fun q hq => hA.ou hq) (fun q hq => hA.la hq)
  · by_cases e : q = p
    · subst e
      rw [hput_self]
      show _ = @some Ee (.inr (6, [.int (nI q), .ref (aF x (1 - q)), .ref (aS x q), .int (nI (u.su q).length), .int (u.lo q), .int (u.hi q), .int (u.no q), .int (u.mk q), .ref (aL x 1 q), .ref (aL x 2 q), va_rf (ov q), .int (u.se q), .int (u.sp q), .int (u.wt q), .int (nI (u.nn q)), .int (nI ((u.w_na q v).na q)), va_rf (lv q), .int (bI (u.de q))]))
      rw [show (u.w_na q v).na q = v from va_up_self _ _ _]
    · rw [hput_ne _ _ _ (by simp only [aP]; omega), hA.pe hq]
      show _ = @some Ee (.inr (6, [.int (nI q), .ref (aF x (1 - q)), .ref (aS x q), .int (nI (u.su q).length), .int (u.lo q), .int (u.hi q), .int (u.no q), .int (u.mk q), .ref (aL x 1 q), .ref (aL x 2 q), va_rf (ov q), .int (u.se q), .int (u.sp q), .int (u.wt q), .int (nI (u.nn q)), .int (nI ((u.w_na p v).na q)), va_rf (lv q), .int (bI (u.de q))]))
      rw [show (u.w_na p v).na q = u.na q from va_up_ne _ _ e]
  · rw [hput_ne _ _ _ (by simp only [aP, aS]; omega)]
    exact hA.s hq
theorem RA.v_na (hA : RA G h x z u E X ov lv sf) {p : Nat} (hp : p < 2) (v : Nat) : RA G (hput h (aP x p) (.inr (6, [.int (nI p), .ref (aF x (1 - p)), .ref (aS x p), .int (nI (u.su p).length), .int (u.lo p), .int (u.hi p), .int (u.no p), .int (u.mk p), .ref (aL x 1 p), .ref (aL x 2 p), va_rf (ov p), .int (u.se p), .int (u.sp p), .int (u.wt p), .int (nI (u.nn p)), .int (nI v), va_rf (lv p), .int (bI (u.de p))]))) x z (u.w_na p v) E X ov lv sf ∧ KC x z 0 h (hput h (aP x p) (.inr (6, [.int (nI p), .ref (aF x (1 - p)), .ref (aS x p), .int (nI (u.su p).length), .int (u.lo p), .int (u.hi p), .int (u.no p), .int (u.mk p), .ref (aL x 1 p), .ref (aL x 2 p), va_rf (ov p), .int (u.se p), .int (u.sp p), .int (u.wt p), .int (nI (u.nn p)), .int (nI v), va_rf (lv p), .int (bI (u.de p))]))) := ⟨hA.t_na hp v, hA.pk hp⟩
theorem RA.t_de (hA : RA G h x z u E X ov lv sf) {p : Nat} (hp : p < 2) (v : Bool) : RA G (hput h (aP x p) (.inr (6, [.int (nI p), .ref (aF x (1 - p)), .ref (aS x p), .int (nI (u.su p).length), .int (u.lo p), .int (u.hi p), .int (u.no p), .int (u.mk p), .ref (aL x 1 p), .ref (aL x 2 p), va_rf (ov p), .int (u.se p), .int (u.sp p), .int (u.wt p), .int (nI (u.nn p)), .int (nI (u.na p)), va_rf (lv p), .int (bI v)]))) x z (u.w_de p v) E X ov lv sf := by
  refine hA.updA (fun a a0 a1 _ _ => hput_ne _ _ _ (aP_ne hp a0 a1)) rfl (fun q hq => ?_) (fun q hq => ?_) (fun q hq => hA.su hq) rfl rfl rfl (fun q hq => hA.ou hq) (fun q hq => hA.la hq)
  · by_cases e : q = p
    · subst e
      rw [hput_self]
      show _ = @some Ee (.inr (6, [.int (nI q), .ref (aF x (1 - q)), .ref (aS x q), .int (nI (u.su q).length), .int (u.lo q), .int (u.hi q), .int (u.no q), .int (u.mk q), .ref (aL x 1 q), .ref (aL x 2 q), va_rf (ov q), .int (u.se q), .int (u.sp q), .int (u.wt q), .int (nI (u.nn q)), .int (nI (u.na q)), va_rf (lv q), .int (bI ((u.w_de q v).de q))]))
      rw [show (u.w_de q v).de q = v from va_up_self _ _ _]
    · rw [hput_ne _ _ _ (by simp only [aP]; omega), hA.pe hq]
      show _ = @some Ee (.inr (6, [.int (nI q), .ref (aF x (1 - q)), .ref (aS x q), .int (nI (u.su q).length), .int (u.lo q), .int (u.hi q), .int (u.no q), .int (u.mk q), .ref (aL x 1 q), .ref (aL x 2 q), va_rf (ov q), .int (u.se q), .int (u.sp q), .int (u.wt q), .int (nI (u.nn q)), .int (nI (u.na q)), va_rf (lv q), .int (bI ((u.w_de p v).de q))]))
      rw [show (u.w_de p v).de q = u.de q from va_up_ne _ _ e]
  · rw [hput_ne _ _ _ (by simp only [aP, aS]; omega)]
    exact hA.s hq
theorem RA.v_de (hA : RA G h x z u E X ov lv sf) {p : Nat} (hp : p < 2) (v : Bool) : RA G (hput h (aP x p) (.inr (6, [.int (nI p), .ref (aF x (1 - p)), .ref (aS x p), .int (nI (u.su p).length), .int (u.lo p), .int (u.hi p), .int (u.no p), .int (u.mk p), .ref (aL x 1 p), .ref (aL x 2 p), va_rf (ov p), .int (u.se p), .int (u.sp p), .int (u.wt p), .int (nI (u.nn p)), .int (nI (u.na p)), va_rf (lv p), .int (bI v)]))) x z (u.w_de p v) E X ov lv sf ∧ KC x z 0 h (hput h (aP x p) (.inr (6, [.int (nI p), .ref (aF x (1 - p)), .ref (aS x p), .int (nI (u.su p).length), .int (u.lo p), .int (u.hi p), .int (u.no p), .int (u.mk p), .ref (aL x 1 p), .ref (aL x 2 p), va_rf (ov p), .int (u.se p), .int (u.sp p), .int (u.wt p), .int (nI (u.nn p)), .int (nI (u.na p)), va_rf (lv p), .int (bI v)]))) := ⟨hA.t_de hp v, hA.pk hp⟩
theorem RA.t_su (hA : RA G h x z u E X ov lv sf) {p : Nat} (hp : p < 2) (v : List Int32) (hs : SU v (sf p)) : RA G (hput h (aP x p) (.inr (6, [.int (nI p), .ref (aF x (1 - p)), .ref (aS x p), .int (nI v.length), .int (u.lo p), .int (u.hi p), .int (u.no p), .int (u.mk p), .ref (aL x 1 p), .ref (aL x 2 p), va_rf (ov p), .int (u.se p), .int (u.sp p), .int (u.wt p), .int (nI (u.nn p)), .int (nI (u.na p)), va_rf (lv p), .int (bI (u.de p))]))) x z (u.w_su p v) E X ov lv sf := by
  refine hA.updA (fun a a0 a1 _ _ => hput_ne _ _ _ (aP_ne hp a0 a1)) rfl (fun q hq => ?_) (fun q hq => ?_) (fun q hq => (by
    by_cases e : q = p
    · subst e
      rw [show (u.w_su q v).su q = v from va_up_self _ _ _]
      exact hs
    · rw [show (u.w_su p v).su q = u.su q from va_up_ne _ _ e]
      exact hA.su hq)) rfl rfl rfl (fun q hq => hA.ou hq) (fun q hq => hA.la hq)
  · by_cases e : q = p
    · subst e
      rw [hput_self]
      show _ = @some Ee (.inr (6, [.int (nI q), .ref (aF x (1 - q)), .ref (aS x q), .int (nI ((u.w_su q v).su q).length), .int (u.lo q), .int (u.hi q), .int (u.no q), .int (u.mk q), .ref (aL x 1 q), .ref (aL x 2 q), va_rf (ov q), .int (u.se q), .int (u.sp q), .int (u.wt q), .int (nI (u.nn q)), .int (nI (u.na q)), va_rf (lv q), .int (bI (u.de q))]))
      rw [show (u.w_su q v).su q = v from va_up_self _ _ _]
    · rw [hput_ne _ _ _ (by simp only [aP]; omega), hA.pe hq]
      show _ = @some Ee (.inr (6, [.int (nI q), .ref (aF x (1 - q)), .ref (aS x q), .int (nI ((u.w_su p v).su q).length), .int (u.lo q), .int (u.hi q), .int (u.no q), .int (u.mk q), .ref (aL x 1 q), .ref (aL x 2 q), va_rf (ov q), .int (u.se q), .int (u.sp q), .int (u.wt q), .int (nI (u.nn q)), .int (nI (u.na q)), va_rf (lv q), .int (bI (u.de q))]))
      rw [show (u.w_su p v).su q = u.su q from va_up_ne _ _ e]
  · rw [hput_ne _ _ _ (by simp only [aP, aS]; omega)]
    exact hA.s hq
theorem RA.v_su (hA : RA G h x z u E X ov lv sf) {p : Nat} (hp : p < 2) (v : List Int32) (hs : SU v (sf p)) : RA G (hput h (aP x p) (.inr (6, [.int (nI p), .ref (aF x (1 - p)), .ref (aS x p), .int (nI v.length), .int (u.lo p), .int (u.hi p), .int (u.no p), .int (u.mk p), .ref (aL x 1 p), .ref (aL x 2 p), va_rf (ov p), .int (u.se p), .int (u.sp p), .int (u.wt p), .int (nI (u.nn p)), .int (nI (u.na p)), va_rf (lv p), .int (bI (u.de p))]))) x z (u.w_su p v) E X ov lv sf ∧ KC x z 0 h (hput h (aP x p) (.inr (6, [.int (nI p), .ref (aF x (1 - p)), .ref (aS x p), .int (nI v.length), .int (u.lo p), .int (u.hi p), .int (u.no p), .int (u.mk p), .ref (aL x 1 p), .ref (aL x 2 p), va_rf (ov p), .int (u.se p), .int (u.sp p), .int (u.wt p), .int (nI (u.nn p)), .int (nI (u.na p)), va_rf (lv p), .int (bI (u.de p))]))) := ⟨hA.t_su hp v hs, hA.pk hp⟩
theorem RA.t_ou (hA : RA G h x z u E X ov lv sf) {p : Nat} (hp : p < 2) (o : Option Nat) (v : Option (Nat → Int32)) (ho : outO h z o v) : RA G (hput h (aP x p) (.inr (6, [.int (nI p), .ref (aF x (1 - p)), .ref (aS x p), .int (nI (u.su p).length), .int (u.lo p), .int (u.hi p), .int (u.no p), .int (u.mk p), .ref (aL x 1 p), .ref (aL x 2 p), va_rf o, .int (u.se p), .int (u.sp p), .int (u.wt p), .int (nI (u.nn p)), .int (nI (u.na p)), va_rf (lv p), .int (bI (u.de p))]))) x z (u.w_ou p v) E X (va_up ov p o) lv sf := by
  refine hA.updA (fun a a0 a1 _ _ => hput_ne _ _ _ (aP_ne hp a0 a1)) rfl (fun q hq => ?_) (fun q hq => ?_) (fun q hq => hA.su hq) rfl rfl rfl (fun q hq => (by
    by_cases e : q = p
    · subst e
      rw [show (u.w_ou q v).ou q = v from va_up_self _ _ _, va_up_self]
      exact ho
    · rw [show (u.w_ou p v).ou q = u.ou q from va_up_ne _ _ e, va_up_ne _ _ e]
      exact hA.ou hq)) (fun q hq => hA.la hq)
  · by_cases e : q = p
    · subst e
      rw [hput_self]
      show _ = @some Ee (.inr (6, [.int (nI q), .ref (aF x (1 - q)), .ref (aS x q), .int (nI (u.su q).length), .int (u.lo q), .int (u.hi q), .int (u.no q), .int (u.mk q), .ref (aL x 1 q), .ref (aL x 2 q), va_rf (va_up ov q o q), .int (u.se q), .int (u.sp q), .int (u.wt q), .int (nI (u.nn q)), .int (nI (u.na q)), va_rf (lv q), .int (bI (u.de q))]))
      rw [va_up_self]
    · rw [hput_ne _ _ _ (by simp only [aP]; omega), hA.pe hq]
      show _ = @some Ee (.inr (6, [.int (nI q), .ref (aF x (1 - q)), .ref (aS x q), .int (nI (u.su q).length), .int (u.lo q), .int (u.hi q), .int (u.no q), .int (u.mk q), .ref (aL x 1 q), .ref (aL x 2 q), va_rf (va_up ov p o q), .int (u.se q), .int (u.sp q), .int (u.wt q), .int (nI (u.nn q)), .int (nI (u.na q)), va_rf (lv q), .int (bI (u.de q))]))
      rw [va_up_ne _ _ e]
  · rw [hput_ne _ _ _ (by simp only [aP, aS]; omega)]
    exact hA.s hq
theorem RA.v_ou (hA : RA G h x z u E X ov lv sf) {p : Nat} (hp : p < 2) (o : Option Nat) (v : Option (Nat → Int32)) (ho : outO h z o v) : RA G (hput h (aP x p) (.inr (6, [.int (nI p), .ref (aF x (1 - p)), .ref (aS x p), .int (nI (u.su p).length), .int (u.lo p), .int (u.hi p), .int (u.no p), .int (u.mk p), .ref (aL x 1 p), .ref (aL x 2 p), va_rf o, .int (u.se p), .int (u.sp p), .int (u.wt p), .int (nI (u.nn p)), .int (nI (u.na p)), va_rf (lv p), .int (bI (u.de p))]))) x z (u.w_ou p v) E X (va_up ov p o) lv sf ∧ KC x z 0 h (hput h (aP x p) (.inr (6, [.int (nI p), .ref (aF x (1 - p)), .ref (aS x p), .int (nI (u.su p).length), .int (u.lo p), .int (u.hi p), .int (u.no p), .int (u.mk p), .ref (aL x 1 p), .ref (aL x 2 p), va_rf o, .int (u.se p), .int (u.sp p), .int (u.wt p), .int (nI (u.nn p)), .int (nI (u.na p)), va_rf (lv p), .int (bI (u.de p))]))) := ⟨hA.t_ou hp o v ho, hA.pk hp⟩
theorem RA.t_la (hA : RA G h x z u E X ov lv sf) {p : Nat} (hp : p < 2) (o : Option Nat) (v : Nat → Int32) (ho : latO h z o v) : RA G (hput h (aP x p) (.inr (6, [.int (nI p), .ref (aF x (1 - p)), .ref (aS x p), .int (nI (u.su p).length), .int (u.lo p), .int (u.hi p), .int (u.no p), .int (u.mk p), .ref (aL x 1 p), .ref (aL x 2 p), va_rf (ov p), .int (u.se p), .int (u.sp p), .int (u.wt p), .int (nI (u.nn p)), .int (nI (u.na p)), va_rf o, .int (bI (u.de p))]))) x z (u.w_la p v) E X ov (va_up lv p o) sf := by
  refine hA.updA (fun a a0 a1 _ _ => hput_ne _ _ _ (aP_ne hp a0 a1)) rfl (fun q hq => ?_) (fun q hq => ?_) (fun q hq => hA.su hq) rfl rfl rfl (fun q hq => hA.ou hq) (fun q hq => (by
    by_cases e : q = p
    · subst e
      rw [show (u.w_la q v).la q = v from va_up_self _ _ _, va_up_self]
      exact ho
    · rw [show (u.w_la p v).la q = u.la q from va_up_ne _ _ e, va_up_ne _ _ e]
      exact hA.la hq))
  · by_cases e : q = p
    · subst e
      rw [hput_self]
      show _ = @some Ee (.inr (6, [.int (nI q), .ref (aF x (1 - q)), .ref (aS x q), .int (nI (u.su q).length), .int (u.lo q), .int (u.hi q), .int (u.no q), .int (u.mk q), .ref (aL x 1 q), .ref (aL x 2 q), va_rf (ov q), .int (u.se q), .int (u.sp q), .int (u.wt q), .int (nI (u.nn q)), .int (nI (u.na q)), va_rf (va_up lv q o q), .int (bI (u.de q))]))
      rw [va_up_self]
    · rw [hput_ne _ _ _ (by simp only [aP]; omega), hA.pe hq]
      show _ = @some Ee (.inr (6, [.int (nI q), .ref (aF x (1 - q)), .ref (aS x q), .int (nI (u.su q).length), .int (u.lo q), .int (u.hi q), .int (u.no q), .int (u.mk q), .ref (aL x 1 q), .ref (aL x 2 q), va_rf (ov q), .int (u.se q), .int (u.sp q), .int (u.wt q), .int (nI (u.nn q)), .int (nI (u.na q)), va_rf (va_up lv p o q), .int (bI (u.de q))]))
      rw [va_up_ne _ _ e]
  · rw [hput_ne _ _ _ (by simp only [aP, aS]; omega)]
    exact hA.s hq
theorem RA.v_la (hA : RA G h x z u E X ov lv sf) {p : Nat} (hp : p < 2) (o : Option Nat) (v : Nat → Int32) (ho : latO h z o v) : RA G (hput h (aP x p) (.inr (6, [.int (nI p), .ref (aF x (1 - p)), .ref (aS x p), .int (nI (u.su p).length), .int (u.lo p), .int (u.hi p), .int (u.no p), .int (u.mk p), .ref (aL x 1 p), .ref (aL x 2 p), va_rf (ov p), .int (u.se p), .int (u.sp p), .int (u.wt p), .int (nI (u.nn p)), .int (nI (u.na p)), va_rf o, .int (bI (u.de p))]))) x z (u.w_la p v) E X ov (va_up lv p o) sf ∧ KC x z 0 h (hput h (aP x p) (.inr (6, [.int (nI p), .ref (aF x (1 - p)), .ref (aS x p), .int (nI (u.su p).length), .int (u.lo p), .int (u.hi p), .int (u.no p), .int (u.mk p), .ref (aL x 1 p), .ref (aL x 2 p), va_rf (ov p), .int (u.se p), .int (u.sp p), .int (u.wt p), .int (nI (u.nn p)), .int (nI (u.na p)), va_rf o, .int (bI (u.de p))]))) := ⟨hA.t_la hp o v ho, hA.pk hp⟩
theorem RA.t_sf (hA : RA G h x z u E X ov lv sf) {p k : Nat} {v : Int32} (hp : p < 2) (hk : (u.su p).length ≤ k) : RA G (hput h (aS x p) (.inl (0, 4, .inl (upd (sf p) k v)))) x z u E X ov lv (va_up sf p (upd (sf p) k v)) := by
  refine hA.updA (fun a _ _ a0 a1 => hput_ne _ _ _ (aS_ne hp a0 a1)) rfl (fun q hq => ?_) (fun q hq => ?_) (fun q hq => ?_) rfl rfl rfl (fun q hq => hA.ou hq) (fun q hq => hA.la hq)
  · rw [hput_ne _ _ _ (by simp only [aP, aS]; omega)]
    exact hA.pe hq
  · by_cases e : q = p
    · subst e
      rw [hput_self, va_up_self]
    · rw [hput_ne _ _ _ (by simp only [aS]; omega), va_up_ne _ _ e]
      exact hA.s hq
  · by_cases e : q = p
    · subst e
      rw [va_up_self]
      refine ⟨(hA.su hq).1, fun i y hy => ?_⟩
      have := (List.getElem?_eq_some_iff.mp hy).1
      rw [pk_un (by omega)]
      exact (hA.su hq).2 i y hy
    · rw [va_up_ne _ _ e]
      exact hA.su hq
end KX
