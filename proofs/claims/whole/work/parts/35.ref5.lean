theorem u2_rowF (F : Nat → Nat → Int32) (j i : Nat) (x : Int32) {k : Nat} (h : k ≠ j) : u2 F j i x k = F k := va_up_ne _ _ h
theorem u2_rowS (F : Nat → Nat → Int32) (j i : Nat) (x : Int32) : u2 F j i x j = upd (F j) i x := va_up_self _ _ _
theorem vSc.up {r f : Nat → Int32} {p : Nat} {x : Int32} (h : vSc r f) : vSc (upd r p x) (va_up f p x) := by
  intro q hq
  by_cases e : q = p
  · subst e
    rw [pk_us, va_up_self]
  · rw [pk_un e, va_up_ne _ _ e]
    exact h q hq
theorem vNa.up {r : Nat → Int32} {f : Nat → Nat} {p n : Nat} (h : vNa r f) : vNa (upd r p (nI n)) (va_up f p n) := by
  intro q hq
  by_cases e : q = p
  · subst e
    rw [pk_us, va_up_self]
  · rw [pk_un e, va_up_ne _ _ e]
    exact h q hq
theorem vDe.up {r : Nat → Int32} {f : Nat → Bool} {p : Nat} {b : Bool} (h : vDe r f) : vDe (upd r p (bI b)) (va_up f p b) := by
  intro q hq
  by_cases e : q = p
  · subst e
    rw [pk_us, va_up_self]
  · rw [pk_un e, va_up_ne _ _ e]
    exact h q hq
theorem fnd_list {α : Type} (Pn : Nat → Bool) (P : α → Bool) : ∀ (l : List α) (s : Nat), (∀ k x, l[k]? = some x → Pn (s + k) = P x) → fnd Pn l.length s = (l.findIdx? P).map (fun k => k + s)
  | [], s, _ => rfl
  | a :: t, s, h => by
    have h0 := h 0 a rfl
    rw [Nat.add_zero] at h0
    rw [List.findIdx?_cons, List.length_cons]
    show (if Pn s then some s else fnd Pn t.length (s + 1)) = _
    rw [h0]
    by_cases hp : P a = true
    · simp [hp]
    · rw [if_neg hp, if_neg hp, fnd_list Pn P t (s + 1) (fun k x hx => by rw [show s + 1 + k = s + (k + 1) by omega]; exact h (k + 1) x (by simpa using hx))]
      cases t.findIdx? P with
      | none => rfl
      | some z => simp; omega
theorem fnd_list0 {α : Type} {Pn : Nat → Bool} {P : α → Bool} {l : List α} (h : ∀ k x, l[k]? = some x → Pn k = P x) : fnd Pn l.length 0 = l.findIdx? P := by
  rw [fnd_list Pn P l 0 (fun k x hx => by rw [Nat.zero_add]; exact h k x hx)]
  cases l.findIdx? P <;> simp
def blk (r n k : Int32) : Nat → Int32 := fun b => if b = 0 then r else if b = 1 then n else if b = 2 then k else if b = 3 then 1 else 0
section REF5X
variable {G : GT} {d : Nat} {Q : Outcome → Hp → Prop} {h : Hp} {m : Nat} {t : Int32} {u : Ut} {md : Nat → Int32}
theorem r_thrown (hR : RU G h m t u md) (hq : Q (.returned (some (.int t))) h) : Cx G mX10_thrown d [.ref m] h Q := by
  obtain ⟨F, hR, hV⟩ := hR
  exact m_thrown hR hq
theorem r_nextMark {p : Nat} (hR : RU G h m t u md) (hp : p < 2) (hq : ∀ h', RU G h' m t (u.w_mk p (u.mk p + nI 2)) md → FrM m h h' → Q (.returned (some (.int (u.mk p)))) h') : Cx G mX10_nextMark d [.ref m, .int (nI p)] h Q := by
  obtain ⟨F, hR, hV⟩ := hR
  refine m_nextMark hR hp (fun h' hR' hF => ?_)
  rw [hV.mk p hp] at hR' ⊢
  exact hq h' ⟨_, hR', hV.s_mk (fun j _ _ hj => u2_rowF _ _ _ _ hj) (by rw [u2_rowS]; exact hV.mk.up)⟩ hF
theorem r_nextNonce {p : Nat} (hR : RU G h m t u md) (hp : p < 2) (hq : ∀ h', RU G h' m t (u.w_no p (nxN (u.no p))) md → FrM m h h' → Q (.returned (some (.int (n16 (nxN (u.no p)))))) h') : Cx G mX10_nextNonce d [.ref m, .int (nI p)] h Q := by
  obtain ⟨F, hR, hV⟩ := hR
  refine m_nextNonce hR hp (fun h' hR' hF => ?_)
  rw [hV.no p hp] at hR' ⊢
  exact hq h' ⟨_, hR', hV.s_no (fun j _ _ hj => u2_rowF _ _ _ _ hj) (by rw [u2_rowS]; exact hV.no.up)⟩ hF
theorem r_kid {p k w : Nat} {kd : Nat → Int32} (hR : RU G h m t u md) (hp : p < 2) (hk : (u.ki p)[k]? = some kd) (hw : w < 8) (hq : Q (.returned (some (.int (kd w)))) h) : Cx G mX10_kid d [.ref m, .int (nI p), .int (nI k), .int (nI w)] h Q := by
  obtain ⟨F, hR, hV⟩ := hR
  have hl := (List.getElem?_eq_some_iff.mp hk).1
  have h16 := (hV.ki p hp).1
  refine m_kid hR hp (by omega) hw ?_
  rw [(hV.ki p hp).2.2 k kd hk w hw]
  exact hq
theorem r_find {p w : Nat} {v : Int32} (hR : RU G h m t u md) (hp : p < 2) (hw : w < 8) (hq : Q (.returned (some (.int (oI ((u.ki p).findIdx? (fun kd => decide (kd w = v))))))) h) : Cx G mX10_find (d + 1) [.ref m, .int (nI p), .int (nI w), .int v] h Q := by
  obtain ⟨F, hR, hV⟩ := hR
  obtain ⟨h16, hc, hk⟩ := hV.ki p hp
  refine m_find hR hp hw hc h16 ?_
  rw [fnd_list0 (P := fun kd => decide (kd w = v)) (fun k x hx => by rw [hk k x hx w hw])]
  exact hq
theorem r_renewing {p : Nat} {v b : Int32} (hR : RU G h m t u md) (hp : p < 2) (hq : Q (.returned (some (.int (oI ((u.ki p).findIdx? (fun kd => decide (kd 5 = v ∧ kd 6 = b))))))) h) : Cx G mX10_renewing (d + 1) [.ref m, .int (nI p), .int v, .int b] h Q := by
  obtain ⟨F, hR, hV⟩ := hR
  obtain ⟨h16, hc, hk⟩ := hV.ki p hp
  refine m_renewing hR hp hc h16 ?_
  rw [fnd_list0 (P := fun kd => decide (kd 5 = v ∧ kd 6 = b)) (fun k x hx => by rw [hk k x hx 5 (by omega), hk k x hx 6 (by omega)])]
  exact hq
theorem r_addKid {p : Nat} {a0 a1 a2 a3 a4 a5 a6 a7 : Int32} (hR : RU G h m t u md) (hp : p < 2) (hl : (u.ki p).length < 16) (hq : ∀ h', RU G h' m t (u.w_ki p (u.ki p ++ [kdL a0 a1 a2 a3 a4 a5 a6 a7])) md → FrM m h h' → Q (.returned none) h') : Cx G mX10_addKid d [.ref m, .int (nI p), .int a0, .int a1, .int a2, .int a3, .int a4, .int a5, .int a6, .int a7] h Q := by
  obtain ⟨F, hR, hV⟩ := hR
  obtain ⟨h16, hc, hk⟩ := hV.ki p hp
  refine m_addKid hR hp hc h16 (fun h' hR' hF => hq h' ⟨_, hR', hV.s_ki (fun j _ _ h7 h8 => ?_) ?_⟩ hF)
  · funext b
    simp [rAdd, h7, h8]
  · intro q hq2
    by_cases e : q = p
    · subst e
      rw [va_up_self]
      refine ⟨by simp; omega, by simp [rAdd], fun k kd hk2 w hw => ?_⟩
      by_cases hkl : k < (u.ki q).length
      · rw [List.getElem?_append_left hkl] at hk2
        simp only [rAdd]
        rw [if_neg (by omega), if_neg (by omega)]
        exact hk k kd hk2 w hw
      · have hkl2 := (List.getElem?_eq_some_iff.mp hk2).1
        simp at hkl2
        have : k = (u.ki q).length := by omega
        subst this
        simp at hk2
        subst hk2
        simp only [rAdd]
        rw [if_pos ⟨trivial, by omega, by omega⟩, Nat.add_sub_cancel_left]
    · rw [va_up_ne _ _ e]
      obtain ⟨g16, gc, gk⟩ := hV.ki q hq2
      refine ⟨g16, by simp [rAdd, e, gc], fun k kd hk2 w hw => ?_⟩
      have := (List.getElem?_eq_some_iff.mp hk2).1
      simp only [rAdd]
      rw [if_neg (by omega), if_neg (by omega)]
      exact gk k kd hk2 w hw
theorem r_dropKid {p k : Nat} (hR : RU G h m t u md) (hp : p < 2) (hk0 : k < (u.ki p).length) (hq : ∀ h', RU G h' m t (u.w_ki p ((u.ki p).eraseIdx k)) md → FrM m h h' → Q (.returned none) h') : Cx G mX10_dropKid d [.ref m, .int (nI p), .int (nI k)] h Q := by
  obtain ⟨F, hR, hV⟩ := hR
  obtain ⟨h16, hc, hk⟩ := hV.ki p hp
  obtain ⟨c, hcl⟩ : ∃ c, (u.ki p).length = c + 1 := ⟨(u.ki p).length - 1, by omega⟩
  refine m_dropKid hR hp (c := c) (by omega) (by rw [hc, hcl]) (by omega) (fun h' hR' hF => hq h' ⟨_, hR', hV.s_ki (fun j _ _ h7 h8 => ?_) ?_⟩ hF)
  · funext b
    simp [rDrop, h7, h8]
  · intro q hq2
    by_cases e : q = p
    · subst e
      rw [va_up_self]
      have hlen : ((u.ki q).eraseIdx k).length = c := by rw [List.length_eraseIdx_of_lt hk0]; omega
      refine ⟨by omega, by rw [hlen]; simp [rDrop], fun i kd hi w hw => ?_⟩
      have hil := (List.getElem?_eq_some_iff.mp hi).1
      rw [hlen] at hil
      rw [List.getElem?_eraseIdx] at hi
      simp only [rDrop]
      by_cases hik : i < k
      · rw [if_pos hik] at hi
        rw [if_neg (by omega), if_neg (by omega)]
        exact hk i kd hi w hw
      · rw [if_neg hik] at hi
        rw [if_pos ⟨trivial, by omega, by omega⟩]
        have := hk (i + 1) kd hi w hw
        rw [← this]
        congr 1
        omega
    · rw [va_up_ne _ _ e]
      obtain ⟨g16, gc, gk⟩ := hV.ki q hq2
      refine ⟨g16, by simp [rDrop, e, gc], fun i kd hi w hw => ?_⟩
      have := (List.getElem?_eq_some_iff.mp hi).1
      simp only [rDrop]
      rw [if_neg (by omega), if_neg (by omega)]
      exact gk i kd hi w hw
theorem r_addWish {p : Nat} {x y : Int32} (hR : RU G h m t u md) (hp : p < 2) (hl : (u.wi p).length < 15) (hq : ∀ h', RU G h' m t (u.w_wi p (u.wi p ++ [(x, y)])) md → FrM m h h' → Q (.returned none) h') : Cx G mX10_addWish d [.ref m, .int (nI p), .int x, .int y] h Q := by
  obtain ⟨F, hR, hV⟩ := hR
  obtain ⟨h15, hc, hk⟩ := hV.wi p hp
  refine m_addWish hR hp hc (by omega) (fun h' hR' hF => hq h' ⟨_, hR', hV.s_wi (fun j _ _ h9 h10 h11 => ?_) ?_⟩ hF)
  · rw [rWish, u2_rowF _ _ _ _ h9, u2_rowF _ _ _ _ h11, u2_rowF _ _ _ _ h10]
  · intro q hq2
    by_cases e : q = p
    · subst e
      rw [va_up_self]
      refine ⟨by simp; omega, by simp [rWish, u2_at], fun k z hz => ?_⟩
      have hzl := (List.getElem?_eq_some_iff.mp hz).1
      simp at hzl
      by_cases hkl : k < (u.wi q).length
      · rw [List.getElem?_append_left hkl] at hz
        obtain ⟨g1, g2⟩ := hk k z hz
        simp only [rWish, u2_at]
        refine ⟨?_, ?_⟩
        · rw [if_neg (by omega), if_neg (by omega), if_neg (by omega)]; exact g1
        · rw [if_neg (by omega), if_neg (by omega), if_neg (by omega)]; exact g2
      · have : k = (u.wi q).length := by omega
        subst this
        simp at hz
        subst hz
        simp [rWish, u2_at]
    · rw [va_up_ne _ _ e]
      obtain ⟨g15, gc, gk⟩ := hV.wi q hq2
      refine ⟨g15, ?_, fun k z hz => ?_⟩
      · simp only [rWish, u2_at]
        rw [if_neg (by omega), if_neg (by omega), if_neg (by omega)]
        exact gc
      · have := (List.getElem?_eq_some_iff.mp hz).1
        obtain ⟨g1, g2⟩ := gk k z hz
        simp only [rWish, u2_at]
        refine ⟨?_, ?_⟩
        · rw [if_neg (by omega), if_neg (by omega), if_neg (by omega)]; exact g1
        · rw [if_neg (by omega), if_neg (by omega), if_neg (by omega)]; exact g2
theorem r_blank {r n k : Int32} (hR : RU G h m t u md) (hq : ∀ h', RU G h' m t u (blk r n k) → FrM m h h' → Q (.returned none) h') : Cx G mX10_blank d [.ref m, .int r, .int n, .int k] h Q := by
  obtain ⟨F, hR, hV⟩ := hR
  refine m_blank hR (fun h' hR' hF => hq h' ⟨_, hR', hV.s_md (fun j _ h2 => ?_) (fun j hj => ?_)⟩ hF)
  · funext b
    have : j ≠ 23 := by omega
    simp [rBlank, this]
  · simp [rBlank, blk, hj]
def flyL (l : List (Nat → Int32)) (x : Nat → Int32) : List (Nat → Int32) := if l.length = 30 then l else l ++ [x]
theorem r_fly {p : Nat} (hR : RU G h m t u md) (hp : p < 2) (hq : ∀ h', RU G h' m t (u.w_fl p (flyL (u.fl p) md)) md → FrM m h h' → Q (.returned none) h') : Cx G mX10_fly (d + 1) [.ref m, .int (nI p)] h Q := by
  obtain ⟨F, hR, hV⟩ := hR
  obtain ⟨h30, hc, hk⟩ := hV.fl p hp
  refine m_fly hR hp hc h30 (fun h' hR' hF => hq h' ⟨_, hR', hV.s_fl (fun j _ _ h21 h22 => ?_) ?_⟩ hF)
  · split
    · rfl
    · funext b
      simp [rFly, h21, h22]
  · intro q hq2
    by_cases h3 : (u.fl p).length = 30
    · rw [if_pos h3]
      by_cases e : q = p
      · subst e
        rw [va_up_self, flyL, if_pos h3]
        exact hV.fl q hq2
      · rw [va_up_ne _ _ e]
        exact hV.fl q hq2
    rw [if_neg h3]
    by_cases e : q = p
    · subst e
      rw [va_up_self, flyL, if_neg h3]
      refine ⟨by simp; omega, by simp [rFly], fun k pk hk2 w hw => ?_⟩
      by_cases hkl : k < (u.fl q).length
      · rw [List.getElem?_append_left hkl] at hk2
        simp only [rFly]
        rw [if_neg (by omega), if_neg (by omega)]
        exact hk k pk hk2 w hw
      · have hkl2 := (List.getElem?_eq_some_iff.mp hk2).1
        simp at hkl2
        have : k = (u.fl q).length := by omega
        subst this
        simp at hk2
        subst hk2
        simp only [rFly]
        rw [if_pos ⟨trivial, by omega, by omega⟩, Nat.add_sub_cancel_left]
        exact hV.md w hw
    · rw [va_up_ne _ _ e]
      obtain ⟨g30, gc, gk⟩ := hV.fl q hq2
      refine ⟨g30, by simp [rFly, e, gc], fun k pk hk2 w hw => ?_⟩
      have := (List.getElem?_eq_some_iff.mp hk2).1
      simp only [rFly]
      rw [if_neg (by omega), if_neg (by omega)]
      exact gk k pk hk2 w hw
theorem r_land {p k : Nat} {pk : Nat → Int32} (hR : RU G h m t u md) (hp : p < 2) (hk0 : (u.fl p)[k]? = some pk) (hq : ∀ h', RU G h' m t (u.w_fl p ((u.fl p).eraseIdx k)) pk → FrM m h h' → Q (.returned none) h') : Cx G mX10_land (d + 1) [.ref m, .int (nI p), .int (nI k)] h Q := by
  obtain ⟨F, hR, hV⟩ := hR
  obtain ⟨h30, hc, hk⟩ := hV.fl p hp
  have hkl := (List.getElem?_eq_some_iff.mp hk0).1
  obtain ⟨c, hcl⟩ : ∃ c, (u.fl p).length = c + 1 := ⟨(u.fl p).length - 1, by omega⟩
  refine m_land hR hp (c := c) (by omega) (by rw [hc, hcl]) (by omega) (fun h' hR' hF => ?_)
  have hV1 : VW (fun a b => if a = 23 ∧ b < 16 then F 22 (16 * (32 * p + k) + b) else F a b) u pk := by
    refine hV.s_md (fun j _ h2 => ?_) (fun j hj => ?_)
    · funext b
      have : j ≠ 23 := by omega
      simp [this]
    · simp [hj]
      exact hk k pk hk0 j hj
  refine hq h' ⟨_, hR', hV1.s_fl (fun j _ _ h21 h22 => ?_) ?_⟩ hF
  · funext b
    simp [rLand, h21, h22]
  · intro q hq2
    by_cases e : q = p
    · subst e
      rw [va_up_self]
      have hlen : ((u.fl q).eraseIdx k).length = c := by rw [List.length_eraseIdx_of_lt hkl]; omega
      refine ⟨by omega, by rw [hlen]; simp [rLand], fun i pk2 hi w hw => ?_⟩
      have hil := (List.getElem?_eq_some_iff.mp hi).1
      rw [hlen] at hil
      rw [List.getElem?_eraseIdx] at hi
      simp only [rLand]
      by_cases hik : i < k
      · rw [if_pos hik] at hi
        rw [if_neg (by omega), if_neg (by omega), if_neg (by omega)]
        exact hk i pk2 hi w hw
      · rw [if_neg hik] at hi
        rw [if_pos ⟨trivial, by omega, by omega⟩]
        have := hk (i + 1) pk2 hi w hw
        rw [← this]
        congr 1
        omega
    · rw [va_up_ne _ _ e]
      obtain ⟨g30, gc, gk⟩ := hV.fl q hq2
      refine ⟨g30, by simp [rLand, e, gc], fun i pk2 hi w hw => ?_⟩
      have := (List.getElem?_eq_some_iff.mp hi).1
      simp only [rLand]
      rw [if_neg (by omega), if_neg (by omega), if_neg (by omega)]
      exact gk i pk2 hi w hw
end REF5X
