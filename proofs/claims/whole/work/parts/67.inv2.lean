theorem ansO_keep (v : Ut) (p : Nat) (md : Nat → Int32) (s l g : Int32) : (ansO v p md s l g).1.na = v.na ∧ (ansO v p md s l g).1.la = v.la ∧ (ansO v p md s l g).1.nn = v.nn ∧ (ansO v p md s l g).1.wi = v.wi ∧ (ansO v p md s l g).1.ou = v.ou ∧ (ansO v p md s l g).1.de = v.de ∧ (ansO v p md s l g).1.fl = v.fl ∧ (ansO v p md s l g).2 0 = nI 0 ∧ (ansO v p md s l g).2 1 = md 1 ∧ (ansO v p md s l g).2 2 = nI 0 := by
  simp only [ansO]
  split
  · exact ⟨rfl, rfl, rfl, rfl, rfl, rfl, rfl, rfl, rfl, rfl⟩
  · exact ⟨rfl, rfl, rfl, rfl, rfl, rfl, rfl, rfl, rfl, rfl⟩
theorem ansRenew_keep (v : Ut) (p : Nat) (md : Nat → Int32) : (ansRenew v p md).1.na = v.na ∧ (ansRenew v p md).1.la = v.la ∧ (ansRenew v p md).1.nn = v.nn ∧ (ansRenew v p md).1.wi = v.wi ∧ (ansRenew v p md).1.ou = v.ou ∧ (ansRenew v p md).1.de = v.de ∧ (ansRenew v p md).1.fl = v.fl ∧ (ansRenew v p md).2 0 = nI 0 ∧ (ansRenew v p md).2 1 = md 1 ∧ (ansRenew v p md).2 2 = nI 1 := by
  simp only [ansRenew]
  split
  · exact ⟨rfl, rfl, rfl, rfl, rfl, rfl, rfl, rfl, rfl, rfl⟩
  · split
    · exact ⟨rfl, rfl, rfl, rfl, rfl, rfl, rfl, rfl, rfl, rfl⟩
    · exact ⟨rfl, rfl, rfl, rfl, rfl, rfl, rfl, rfl, rfl, rfl⟩
theorem ansDel_keep (v : Ut) (p : Nat) (md : Nat → Int32) : (ansDel v p md).1.na = v.na ∧ (ansDel v p md).1.la = v.la ∧ (ansDel v p md).1.nn = v.nn ∧ (ansDel v p md).1.wi = v.wi ∧ (ansDel v p md).1.ou = v.ou ∧ (ansDel v p md).1.de = v.de ∧ (ansDel v p md).1.fl = v.fl ∧ (ansDel v p md).2 0 = nI 0 ∧ (ansDel v p md).2 1 = md 1 ∧ (ansDel v p md).2 2 = nI 2 := by
  simp only [ansDel, kiOut]
  split
  · exact ⟨rfl, rfl, rfl, rfl, rfl, rfl, rfl, rfl, rfl, rfl⟩
  · exact ⟨rfl, rfl, rfl, rfl, rfl, rfl, rfl, rfl, rfl, rfl⟩
theorem reqA_keep {v : Ut} {p : Nat} {md : Nat → Int32} {off : List Int32} (hk : md 2 = 0 ∨ md 2 = nI 1 ∨ md 2 = nI 2) : (reqA v p md off).1.na = v.na ∧ (reqA v p md off).1.la = v.la ∧ (reqA v p md off).1.nn = v.nn ∧ (reqA v p md off).1.wi = v.wi ∧ (reqA v p md off).1.ou = v.ou ∧ (reqA v p md off).1.de = v.de ∧ (reqA v p md off).1.fl = v.fl ∧ (reqA v p md off).2 0 = nI 0 ∧ (reqA v p md off).2 1 = md 1 ∧ (reqA v p md off).2 2 = md 2 := by
  simp only [reqA]
  split
  · rename_i h0
    rw [h0]
    exact ansO_keep v p md _ _ _
  · split
    · rename_i h0 h1
      rw [h1]
      exact ansRenew_keep v p md
    · rename_i h0 h1
      rw [show md 2 = nI 2 from by rcases hk with q | q | q <;> first | exact absurd q h0 | exact absurd q h1 | exact q]
      exact ansDel_keep v p md
theorem I1.t_reqA {v : Ut} {K : Nat → Nat → Int32} {c : Nat → Nat} {B p : Nat} {md : Nat → Int32} {off : List Int32} (h : I1 v K c B) (hp : p < 2) (hB : B < 2 ^ 28) : ∃ c', I1 (reqA v p md off).1 K c' (B + 1) := by
  simp only [reqA]
  split
  · simp only [ansOpen, ansO]
    split
    · exact ⟨c, h.mono (by omega)⟩
    · rename_i hn
      exact ⟨_, h.kid hp hB (fun q => hn (Or.inr (Or.inr q))) rfl⟩
  · split
    · simp only [ansRenew]
      split
      · exact ⟨c, h.mono (by omega)⟩
      · split
        · exact ⟨c, h.mono (by omega)⟩
        · rename_i hn
          exact ⟨_, h.kid hp hB (fun q => hn (Or.inr q)) rfl⟩
    · exact ⟨c, (h.t_kiOut hp _).mono (by omega)⟩
theorem J1.t_req {u : Ut} {K : Nat → Nat → Int32} {c : Nat → Nat} {B p : Nat} {md : Nat → Int32} {off : List Int32} (h1 : I1 u K c B) (h2 : I2 u K) (hp : p < 2) (hB : B < 2 ^ 28) (hmd : ∃ m, m < u.nn (1 - p) ∧ md 1 = nI m ∧ md 2 = K (1 - p) m) (hk : md 2 = 0 ∨ md 2 = nI 1 ∨ md 2 = nI 2) : J1 (reqU u p md off).1 (B + 1) ∧ (reqU u p md off).1.wi = u.wi ∧ (reqU u p md off).1.ou = u.ou ∧ (reqU u p md off).1.de = u.de := by
  obtain ⟨m, m1, m2, m3⟩ := hmd
  obtain ⟨l1, l2⟩ := h2 p hp
  have hbn := (h1 (1 - p) (by omega)).1.2.2
  obtain ⟨-, -, -, a4, -⟩ := h1 (1 - p) (by omega)
  have hpp : 1 - (1 - p) = p := by omega
  simp only [reqU]
  split
  · rename_i e
    have hna : 0 < u.na p := by
      rcases Nat.eq_zero_or_pos (u.na p) with q | q
      · rw [q, m2] at e
        have := nI_pos (n := m) (by omega)
        rw [e] at this
        exact absurd (by decide) this
      · exact q
    obtain ⟨c1, c2, c3⟩ := l2 hna
    refine ⟨⟨K, c, (h1.w_fl (a4.fly (Or.inr ⟨c1, u.na p - 1, by omega, c2, c3⟩))).mono (by omega), h2⟩, rfl, rfl, rfl⟩
  · split
    · rename_i e
      have em : m = u.na p := (nI_eq (by omega) (by omega)).mp (m2.symm.trans e)
      subst em
      obtain ⟨c', h3⟩ := I1.t_reqA (md := md) (off := off) (show I1 (u.w_na p (u.na p + 1)) K c B from h1) hp hB
      obtain ⟨k1, k2, k3, k4, k5, k6, k7, k8, k9, k10⟩ := reqA_keep (v := u.w_na p (u.na p + 1)) (p := p) (off := off) hk
      generalize reqA (u.w_na p (u.na p + 1)) p md off = r at *
      obtain ⟨w, pk⟩ := r
      simp only at *
      refine ⟨⟨K, c', ?_, ?_⟩, k4, k5, k6⟩
      · have h4 : I1 (w.w_la p pk) K c' (B + 1) := h3
        refine h4.w_fl ?_
        show FlOK (flyL (w.fl (1 - p)) pk) w.nn K (1 - p)
        refine ((h3 (1 - p) (by omega)).2.2.2.1).fly (Or.inr ⟨k8, u.na p, ?_, by rw [k9, m2], by rw [k10, m3]⟩)
        rw [k3]
        exact m1
      · intro q hq
        show LaOK (va_up w.la p pk q) (w.na q) w.nn K q
        rw [k1, k2, k3]
        show LaOK (va_up u.la p pk q) (va_up u.na p (u.na p + 1) q) u.nn K q
        by_cases e : q = p
        · subst e
          rw [va_up_self, va_up_self]
          refine ⟨by omega, fun _ => ⟨k8, by rw [k9, m2, Nat.add_sub_cancel], by rw [k10, m3, Nat.add_sub_cancel]⟩⟩
        · rw [va_up_ne _ _ e, va_up_ne _ _ e]
          exact h2 q hq
    · exact ⟨⟨K, c, h1.mono (by omega), h2⟩, rfl, rfl, rfl⟩
theorem I1.t_kiIn {u : Ut} {K : Nat → Nat → Int32} {c : Nat → Nat} {B p i : Nat} {kd : Nat → Int32} (h : I1 u K c B) (hp : p < 2) (ho : u.ou p = none) (hi : i < c p) (hk : kd 0 = mkN p i) (hn : ∀ a ∈ u.ki p, a 0 ≠ kd 0) : I1 (kiIn u p kd) K c B := by
  simp only [kiIn]
  split
  · rename_i hl
    refine h.w_ki ((h p hp).2.1.snoc hl hi hk hn) ?_
    rw [ho]
    intro pk e
    cases e
  · exact h
theorem kiOut_keep (v : Ut) (p : Nat) (o : Option Nat) : (kiOut v p o).wi = v.wi ∧ (kiOut v p o).ou = v.ou ∧ (kiOut v p o).de = v.de ∧ (kiOut v p o).la = v.la ∧ (kiOut v p o).na = v.na ∧ (kiOut v p o).nn = v.nn := by
  cases o <;> exact ⟨rfl, rfl, rfl, rfl, rfl, rfl⟩
theorem kiIn_keep (v : Ut) (p : Nat) (kd : Nat → Int32) : (kiIn v p kd).wi = v.wi ∧ (kiIn v p kd).ou = v.ou ∧ (kiIn v p kd).de = v.de ∧ (kiIn v p kd).la = v.la ∧ (kiIn v p kd).na = v.na ∧ (kiIn v p kd).nn = v.nn := by
  simp only [kiIn]
  split <;> exact ⟨rfl, rfl, rfl, rfl, rfl, rfl⟩
theorem I2.of {u v : Ut} {K : Nat → Nat → Int32} (h : I2 u K) (h1 : v.la = u.la) (h2 : v.na = u.na) (h3 : v.nn = u.nn) : I2 v K := by
  intro q hq
  rw [h1, h2, h3]
  exact h q hq
theorem J1.t_ans {u : Ut} {K : Nat → Nat → Int32} {c : Nat → Nat} {B p : Nat} {md : Nat → Int32} (h1 : I1 u K c B) (h2 : I2 u K) (hp : p < 2) : J1 (ansU u p md).1 B ∧ (ansU u p md).1.de = u.de ∧ (∀ q, q ≠ p → (ansU u p md).1.wi q = u.wi q ∧ (ansU u p md).1.ou q = u.ou q) ∧ (((ansU u p md).1.wi p = u.wi p ∧ ((ansU u p md).1.ou p = u.ou p ∨ (ansU u p md).1.ou p = none)) ∨ (((ansU u p md).1.wi p).length = (u.wi p).length + 1 ∧ (ansU u p md).1.ou p = none)) := by
  simp only [ansU]
  split
  · exact ⟨⟨K, c, h1, h2⟩, rfl, fun _ _ => ⟨rfl, rfl⟩, Or.inl ⟨rfl, Or.inl rfl⟩⟩
  · rename_i pk ho
    split
    · have g1 : I1 (u.w_ou p none) K c B := h1.w_ou
      have gp : (u.w_ou p none).ou p = none := va_up_self _ _ _
      have gq : ∀ q, q ≠ p → (u.w_ou p none).ou q = u.ou q := fun q hq => va_up_ne _ _ hq
      obtain ⟨o0, m, o1, o2, o3, o4⟩ := (h1 p hp).2.2.1 pk ho
      simp only [ansV]
      split
      · obtain ⟨k1, k2, k3, k4, k5, k6⟩ := kiOut_keep (u.w_ou p none) p (((u.w_ou p none).ki p).findIdx? (fun kd => decide (kd 0 = pk 6)))
        refine ⟨⟨K, c, g1.t_kiOut hp _, h2.of k4 k5 k6⟩, k3, fun q hq => ⟨by rw [k1]; rfl, by rw [k2]; exact gq q hq⟩, Or.inl ⟨by rw [k1]; rfl, Or.inr (by rw [k2]; exact gp)⟩⟩
      · rename_i hk2
        obtain ⟨⟨i, i1, i2⟩, i3⟩ := o4 hk2
        split
        · split
          · obtain ⟨k1, k2, k3, k4, k5, k6⟩ := kiIn_keep (u.w_ou p none) p (kdL (pk 4) (md 4) (md 9) (md 7) (md 8) (nI 0) (nI 1) (mnI (md 5) (pk 5)))
            exact ⟨⟨K, c, g1.t_kiIn hp gp i1 i2 i3, h2.of k4 k5 k6⟩, k3, fun q hq => ⟨by rw [k1]; rfl, by rw [k2]; exact gq q hq⟩, Or.inl ⟨by rw [k1]; rfl, Or.inr (by rw [k2]; exact gp)⟩⟩
          · simp only [renU]
            generalize hw : (nI 2, if mineB p (mnI (md 5) (pk 5)) ((u.w_ou p none).ki p) (List.findIdx? (fun e => decide (e 5 = pk 6 ∧ e 6 = nI 0)) ((u.w_ou p none).ki p)) = true then pk 4 else pk 6) = w
            obtain ⟨k1, k2, k3, k4, k5, k6⟩ := kiIn_keep (u.w_ou p none) p (kdL (pk 4) (md 4) (pk 9) (pk 7) (pk 8) (pk 6) (nI 1) (mnI (md 5) (pk 5)))
            have g2 : I1 (kiIn (u.w_ou p none) p (kdL (pk 4) (md 4) (pk 9) (pk 7) (pk 8) (pk 6) (nI 1) (mnI (md 5) (pk 5)))) K c B := g1.t_kiIn hp gp i1 i2 i3
            generalize kiIn (u.w_ou p none) p (kdL (pk 4) (md 4) (pk 9) (pk 7) (pk 8) (pk 6) (nI 1) (mnI (md 5) (pk 5))) = v at *
            refine ⟨⟨K, c, g2, I2.of h2 k4 k5 k6⟩, k3, fun q hq => ⟨?_, ?_⟩, Or.inr ⟨?_, ?_⟩⟩
            · show va_up v.wi p _ q = u.wi q
              rw [va_up_ne _ _ hq, k1]
              rfl
            · show v.ou q = u.ou q
              rw [k2]
              exact gq q hq
            · show (va_up v.wi p ((u.w_ou p none).wi p ++ [w]) p).length = _
              rw [va_up_self, List.length_append]
              rfl
            · show v.ou p = none
              rw [k2]
              exact gp
        · exact ⟨⟨K, c, g1, h2⟩, rfl, fun q hq => ⟨rfl, gq q hq⟩, Or.inl ⟨rfl, Or.inr gp⟩⟩
    · exact ⟨⟨K, c, h1, h2⟩, rfl, fun _ _ => ⟨rfl, rfl⟩, Or.inl ⟨rfl, Or.inl rfl⟩⟩
theorem gotU_same {u v : Ut} {p : Nat} {pk : Nat → Int32} (h : u.de p = v.de p) : gotU u v p pk = gotU v v p pk := by
  simp only [gotU]
  rw [h]
theorem Inv.t_got {u : Ut} {B p : Nat} {pk : Nat → Int32} (h : Inv u B) (hB : B < 2 ^ 26) (hp : p < 2) {j : Nat} (hj : j < (u.fl p).length) (hpk : (u.fl p)[j] = pk) (hk : pk 0 = nI 1 → pk 2 = 0 ∨ pk 2 = nI 1 ∨ pk 2 = nI 2) : J1 (gotU (u.w_fl p ((u.fl p).eraseIdx j)) (u.w_fl p ((u.fl p).eraseIdx j)) p pk).1 (B + 1) ∧ ∀ q, q < 2 → ((gotU (u.w_fl p ((u.fl p).eraseIdx j)) (u.w_fl p ((u.fl p).eraseIdx j)) p pk).1.wi q).length ≤ 10 ∨ (((gotU (u.w_fl p ((u.fl p).eraseIdx j)) (u.w_fl p ((u.fl p).eraseIdx j)) p pk).1.wi q).length ≤ 11 ∧ (gotU (u.w_fl p ((u.fl p).eraseIdx j)) (u.w_fl p ((u.fl p).eraseIdx j)) p pk).1.ou q = none ∧ (gotU (u.w_fl p ((u.fl p).eraseIdx j)) (u.w_fl p ((u.fl p).eraseIdx j)) p pk).1.de q = false) := by
  obtain ⟨⟨K, c, h1, h2⟩, h3⟩ := h
  have hPk : PkOK pk u.nn K p := by
    rw [← hpk]
    exact (h1 p hp).2.2.2.1.2 _ (List.getElem_mem hj)
  have hfl : FlOK ((u.fl p).eraseIdx j) u.nn K p := by
    have := (h1 p hp).2.2.2.1
    refine ⟨?_, fun a ha => this.2 a (List.mem_of_mem_eraseIdx ha)⟩
    have h30 := this.1
    rw [List.length_eraseIdx]
    split <;> omega
  have hv1 : I1 (u.w_fl p ((u.fl p).eraseIdx j)) K c B := h1.w_fl hfl
  have hv2 : I2 (u.w_fl p ((u.fl p).eraseIdx j)) K := h2
  have hv3 : ∀ q, q < 2 → ((u.w_fl p ((u.fl p).eraseIdx j)).wi q).length ≤ 10 := fun q hq => (h3 q hq).1
  have hvn : (u.w_fl p ((u.fl p).eraseIdx j)).nn = u.nn := rfl
  generalize u.w_fl p ((u.fl p).eraseIdx j) = v at *
  rw [← hvn] at hPk
  simp only [gotU]
  split
  · exact ⟨⟨K, c, hv1.mono (by omega), hv2⟩, fun q hq => Or.inl (hv3 q hq)⟩
  · rename_i hd
    split
    · rename_i h0
      rcases hPk with ⟨-, m⟩ | ⟨q, -⟩
      · obtain ⟨r1, r2, r3, r4⟩ := J1.t_req (off := offOf pk) hv1 hv2 hp (by omega) m (hk h0)
        exact ⟨r1, fun q hq => Or.inl (by rw [r2]; exact hv3 q hq)⟩
      · rw [q] at h0
        exact absurd h0 (by decide)
    · obtain ⟨r1, r2, r3, r4⟩ := J1.t_ans (md := pk) hv1 hv2 hp
      refine ⟨r1.mono (by omega), fun q hq => ?_⟩
      have hvq := hv3 q hq
      by_cases e : q = p
      · subst e
        rcases r4 with ⟨e1, -⟩ | ⟨e1, e2⟩
        · exact Or.inl (by rw [e1]; exact hvq)
        · exact Or.inr ⟨by omega, e2, by rw [r2]; simpa using hd⟩
      · exact Or.inl (by rw [(r3 q e).1]; exact hvq)
theorem I1.hmk {u : Ut} {K : Nat → Nat → Int32} {c : Nat → Nat} {B p : Nat} (h : I1 u K c B) (hp : p < 2) : ∀ i j (hi : i < (u.ki p).length) (hj : j < (u.ki p).length), (u.ki p)[i] 0 = (u.ki p)[j] 0 → i = j := by
  have hP := (h p hp).2.1.2.2
  rw [List.pairwise_iff_getElem] at hP
  intro i j hi hj e
  rcases Nat.lt_trichotomy i j with q | q | q
  · exact absurd e (hP i j hi hj q)
  · exact q
  · exact absurd e.symm (hP j i hj hi q)
def pot (u : Ut) (p : Nat) : Nat := if (u.ou p).isSome = true then 5 - (u.se p).toNatClampNeg else 0
theorem J1.t_tick {u : Ut} {B p : Nat} (h : J1 u B) (hp : p < 2) : J1 (tickP u p).1 B ∧ (tickP u p).1.wi = u.wi ∧ (∀ q, q ≠ p → (tickP u p).1.ou q = u.ou q ∧ (tickP u p).1.de q = u.de q ∧ (tickP u p).1.se q = u.se q) ∧ (Idl u p → Idl (tickP u p).1 p) ∧ (tickP u p).1.na = u.na ∧ pot (tickP u p).1 p ≤ pot u p ∧ ((tickP u p).2 = nI 1 → pot (tickP u p).1 p + 1 ≤ pot u p) := by
  obtain ⟨K, c, h1, h2⟩ := h
  obtain ⟨a1, a2, a3, a4, a5⟩ := h1 p hp
  simp only [tickP]
  split
  · refine ⟨⟨K, c, h1, h2⟩, rfl, fun _ _ => ⟨rfl, rfl, rfl⟩, id, rfl, Nat.le_refl _, fun q => absurd (show nI 0 = nI 1 from q) (by decide)⟩
  · rename_i pk ho
    obtain ⟨w, s, e1, e2, e3, e4, e5, e6, e7⟩ := a5 (by rw [ho]; rfl)
    obtain ⟨o0, m, o1, o2, o3, o4⟩ := a3 pk ho
    have hpot : pot u p = 5 - s := by
      rw [pot, ho, e4, nI_clamp (by omega)]
      rfl
    obtain ⟨w, rfl⟩ : ∃ w', w = w' + 1 := ⟨w - 1, by omega⟩
    have ew : u.wt p - nI 1 = nI w := by
      rw [e1]
      exact nI_pred w
    rw [ew]
    split
    · simp only [agaU]
      have ese : (u.w_wt p (nI w)).se p = nI s := e4
      split
      · rename_i h5
        refine ⟨⟨K, c, ?_, h2⟩, rfl, fun q hq => ⟨va_up_ne _ _ hq, va_up_ne _ _ hq, rfl⟩, fun _ => Or.inr (Or.inl (va_up_self _ _ _)), rfl, ?_, fun q => absurd (show nI 0 = nI 1 from q) (by decide)⟩
        · intro q hq
          obtain ⟨b1, b2, b3, b4, b5⟩ := h1 q hq
          refine ⟨b1, b2, ?_, b4, ?_⟩
          · show OuOK (va_up u.ou p none q) (u.ki q) (u.nn q) (K q) q (c q)
            by_cases e : q = p
            · subst e
              rw [va_up_self]
              intro _ e
              cases e
            · rw [va_up_ne _ _ e]
              exact b3
          · show TiOK (va_up u.ou p none q) (va_up u.wt p (nI w) q) (u.se q) (u.sp q)
            by_cases e : q = p
            · subst e
              rw [va_up_self]
              intro e
              cases e
            · rw [va_up_ne _ _ e, va_up_ne _ _ e]
              exact b5
        · rw [pot, show (((u.w_wt p (nI w)).w_ou p none).w_de p true).ou p = none from va_up_self _ _ _]
          exact Nat.zero_le _
      · rename_i h5
        have hs : s < 5 := by
          rcases Nat.lt_or_ge s 5 with q | q
          · exact q
          · exact absurd (by rw [ese, show s = 5 by omega]) h5
        have hse : nI s + nI 1 = nI (s + 1) := nI_add s 1
        have hsp : nI 2 * u.sp p = nI (2 ^ (s + 2)) := by
          rw [e7]
          have : s = 1 ∨ s = 2 ∨ s = 3 ∨ s = 4 := by omega
          rcases this with rfl | rfl | rfl | rfl <;> decide
        have h64 : 2 ^ (s + 2) ≤ 64 := by
          have : s = 1 ∨ s = 2 ∨ s = 3 ∨ s = 4 := by omega
          rcases this with rfl | rfl | rfl | rfl <;> decide
        have hpot' : pot (((((u.w_wt p (nI w)).w_se p ((u.w_wt p (nI w)).se p + nI 1)).w_sp p (nI 2 * (u.w_wt p (nI w)).sp p)).w_wt p (nI 2 * (u.w_wt p (nI w)).sp p)).w_fl (1 - p) (flyL ((u.w_wt p (nI w)).fl (1 - p)) pk)) p = 5 - (s + 1) := by
          rw [pot]
          show (if (u.ou p).isSome = true then 5 - (va_up u.se p (u.se p + nI 1) p).toNatClampNeg else 0) = _
          rw [ho, va_up_self, e4, hse, nI_clamp (by omega)]
          rfl
        refine ⟨⟨K, c, ?_, h2⟩, rfl, fun q hq => ⟨rfl, rfl, va_up_ne _ _ hq⟩, fun hi => ?_, rfl, by rw [hpot', hpot]; omega, fun _ => by rw [hpot', hpot]; omega⟩
        · intro q hq
          obtain ⟨b1, b2, b3, b4, b5⟩ := h1 q hq
          refine ⟨b1, b2, b3, ?_, ?_⟩
          · show FlOK (va_up u.fl (1 - p) (flyL (u.fl (1 - p)) pk) q) u.nn K q
            by_cases e : q = 1 - p
            · subst e
              rw [va_up_self]
              exact b4.fly (Or.inl ⟨o0, m, by rw [show 1 - (1 - p) = p by omega]; omega, o2, by rw [show 1 - (1 - p) = p by omega]; exact o3⟩)
            · rw [va_up_ne _ _ e]
              exact b4
          · show TiOK (u.ou q) (va_up (va_up u.wt p (nI w)) p (nI 2 * u.sp p) q) (va_up u.se p (u.se p + nI 1) q) (va_up u.sp p (nI 2 * u.sp p) q)
            by_cases e : q = p
            · subst e
              rw [va_up_self, va_up_self, va_up_self, hsp, e4, hse]
              intro _
              exact ⟨2 ^ (s + 2), s + 1, rfl, Nat.pow_pos (by omega), h64, rfl, by omega, by omega, rfl⟩
            · rw [va_up_ne _ _ e, va_up_ne _ _ e, va_up_ne _ _ e, va_up_ne _ _ e]
              exact b5
        · exact Or.inl (by show (u.ou p).isSome = true; rw [ho]; rfl)
    · rename_i hw0
      have hw1 : 0 < w := by
        rcases Nat.eq_zero_or_pos w with q | q
        · exact absurd (by rw [q]; rfl) hw0
        · exact q
      refine ⟨⟨K, c, ?_, h2⟩, rfl, fun q hq => ⟨rfl, rfl, rfl⟩, id, rfl, Nat.le_refl _, fun q => absurd (show nI 0 = nI 1 from q) (by decide)⟩
      intro q hq
      obtain ⟨b1, b2, b3, b4, b5⟩ := h1 q hq
      refine ⟨b1, b2, b3, b4, ?_⟩
      show TiOK (u.ou q) (va_up u.wt p (nI w) q) (u.se q) (u.sp q)
      by_cases e : q = p
      · subst e
        rw [va_up_self]
        intro _
        exact ⟨w, s, rfl, hw1, by omega, e4, e5, e6, e7⟩
      · rw [va_up_ne _ _ e]
        exact b5
theorem pot_of {u v : Ut} {p : Nat} (h1 : v.ou p = u.ou p) (h2 : v.se p = u.se p) : pot v p = pot u p := by
  rw [pot, pot, h1, h2]
theorem Inv.t_tick2 {u : Ut} {B : Nat} (h : Inv u B) : Inv (tickP u 0).1 B ∧ Inv (tickP (tickP u 0).1 1).1 B := by
  obtain ⟨h1, h2⟩ := h
  obtain ⟨t1, t2, t3, t4, t5, t6, t7⟩ := h1.t_tick (p := 0) (by omega)
  have hv : Inv (tickP u 0).1 B := by
    refine ⟨t1, fun p hp => ⟨by rw [t2]; exact (h2 p hp).1, ?_⟩⟩
    rcases (show p = 0 ∨ p = 1 by omega) with rfl | rfl
    · exact t4 (h2 0 hp).2
    · have := (h2 1 hp).2
      rw [Idl, (t3 1 (by omega)).1, (t3 1 (by omega)).2.1, t2]
      exact this
  refine ⟨hv, ?_⟩
  obtain ⟨h1, h2⟩ := hv
  generalize (tickP u 0).1 = v at *
  obtain ⟨t1, t2, t3, t4, t5, t6, t7⟩ := h1.t_tick (p := 1) (by omega)
  refine ⟨t1, fun p hp => ⟨by rw [t2]; exact (h2 p hp).1, ?_⟩⟩
  rcases (show p = 0 ∨ p = 1 by omega) with rfl | rfl
  · have := (h2 0 hp).2
    rw [Idl, (t3 0 (by omega)).1, (t3 0 (by omega)).2.1, t2]
    exact this
  · exact t4 (h2 1 hp).2
theorem Inv.t_tickN {B : Nat} : ∀ (n : Nat) (u : Ut) (k : Int32), Inv u B → Inv (tickN n u k).1 B
  | 0, u, k, h => h
  | n + 1, u, k, h => Inv.t_tickN n _ _ h.t_tick2.2
theorem Inv.mono {u : Ut} {B B2 : Nat} (h : Inv u B) (hB : B ≤ B2) : Inv u B2 := ⟨h.1.mono hB, h.2⟩
theorem Inv.t_clear (u : Ut) : Inv (clrU (clrU u 0) 1) 0 := by
  refine ⟨⟨fun _ _ => 0, fun _ => 0, fun p hp => ?_, fun p hp => ?_⟩, fun p hp => ?_⟩
  · rcases (show p = 0 ∨ p = 1 by omega) with rfl | rfl
    · exact ⟨⟨rfl, Nat.le_refl _, Nat.le_refl _⟩, ⟨Nat.zero_le _, fun a ha => (by cases ha), List.Pairwise.nil⟩, fun pk e => (by cases e), ⟨Nat.zero_le _, fun a ha => (by cases ha)⟩, fun e => (by cases e)⟩
    · exact ⟨⟨rfl, Nat.le_refl _, Nat.le_refl _⟩, ⟨Nat.zero_le _, fun a ha => (by cases ha), List.Pairwise.nil⟩, fun pk e => (by cases e), ⟨Nat.zero_le _, fun a ha => (by cases ha)⟩, fun e => (by cases e)⟩
  · rcases (show p = 0 ∨ p = 1 by omega) with rfl | rfl
    · exact ⟨Nat.le_refl _, fun q => absurd q (Nat.lt_irrefl _)⟩
    · exact ⟨Nat.le_refl _, fun q => absurd q (Nat.lt_irrefl _)⟩
  · rcases (show p = 0 ∨ p = 1 by omega) with rfl | rfl
    · exact ⟨Nat.zero_le _, Or.inr (Or.inr rfl)⟩
    · exact ⟨Nat.zero_le _, Or.inr (Or.inr rfl)⟩
