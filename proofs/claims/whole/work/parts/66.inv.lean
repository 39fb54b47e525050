def mkN (p i : Nat) : Int32 := nI (2 * i + p + 1)
def KiOK (l : List (Nat → Int32)) (p c : Nat) : Prop := l.length ≤ 16 ∧ (∀ kd ∈ l, ∃ i, i < c ∧ kd 0 = mkN p i) ∧ l.Pairwise (fun a b => a 0 ≠ b 0)
def OuOK (o : Option (Nat → Int32)) (l : List (Nat → Int32)) (n : Nat) (K : Nat → Int32) (p c : Nat) : Prop := ∀ pk, o = some pk → pk 0 = nI 1 ∧ ∃ m, n = m + 1 ∧ pk 1 = nI m ∧ pk 2 = K m ∧ (pk 2 ≠ nI 2 → (∃ i, i < c ∧ pk 4 = mkN p i) ∧ ∀ kd ∈ l, kd 0 ≠ pk 4)
def PkOK (pk : Nat → Int32) (n : Nat → Nat) (K : Nat → Nat → Int32) (p : Nat) : Prop := (pk 0 = nI 1 ∧ ∃ m, m < n (1 - p) ∧ pk 1 = nI m ∧ pk 2 = K (1 - p) m) ∨ (pk 0 = nI 0 ∧ ∃ m, m < n p ∧ pk 1 = nI m ∧ pk 2 = K p m)
def FlOK (l : List (Nat → Int32)) (n : Nat → Nat) (K : Nat → Nat → Int32) (p : Nat) : Prop := l.length ≤ 30 ∧ ∀ pk ∈ l, PkOK pk n K p
def LaOK (la : Nat → Int32) (na : Nat) (n : Nat → Nat) (K : Nat → Nat → Int32) (p : Nat) : Prop := na ≤ n (1 - p) ∧ (0 < na → la 0 = nI 0 ∧ la 1 = nI (na - 1) ∧ la 2 = K (1 - p) (na - 1))
def TiOK (o : Option (Nat → Int32)) (wt se sp : Int32) : Prop := o.isSome = true → ∃ w s, wt = nI w ∧ 0 < w ∧ w ≤ 64 ∧ se = nI s ∧ 1 ≤ s ∧ s ≤ 5 ∧ sp = nI (2 ^ (s + 1))
def I1 (u : Ut) (K : Nat → Nat → Int32) (c : Nat → Nat) (B : Nat) : Prop := ∀ p, p < 2 → (u.mk p = mkN p (c p) ∧ c p ≤ B ∧ u.nn p ≤ B) ∧ KiOK (u.ki p) p (c p) ∧ OuOK (u.ou p) (u.ki p) (u.nn p) (K p) p (c p) ∧ FlOK (u.fl p) u.nn K p ∧ TiOK (u.ou p) (u.wt p) (u.se p) (u.sp p)
def I2 (u : Ut) (K : Nat → Nat → Int32) : Prop := ∀ p, p < 2 → LaOK (u.la p) (u.na p) u.nn K p
def J1 (u : Ut) (B : Nat) : Prop := ∃ K c, I1 u K c B ∧ I2 u K
def Idl (u : Ut) (p : Nat) : Prop := (u.ou p).isSome = true ∨ u.de p = true ∨ u.wi p = []
def Inv (u : Ut) (B : Nat) : Prop := J1 u B ∧ ∀ p, p < 2 → (u.wi p).length ≤ 10 ∧ Idl u p
def upK (K : Nat → Nat → Int32) (p n : Nat) (k : Int32) : Nat → Nat → Int32 := fun q m => if q = p ∧ m = n then k else K q m
theorem mkN_inj {p i j : Nat} (hp : p < 2) (hi : i < 2 ^ 29) (hj : j < 2 ^ 29) (h : mkN p i = mkN p j) : i = j := by
  have := (nI_eq (a := 2 * i + p + 1) (b := 2 * j + p + 1) (by omega) (by omega)).mp h
  omega
theorem I1.mono {u : Ut} {K : Nat → Nat → Int32} {c : Nat → Nat} {B B2 : Nat} (h : I1 u K c B) (hB : B ≤ B2) : I1 u K c B2 := by
  intro p hp
  obtain ⟨⟨a1, a2, a3⟩, r⟩ := h p hp
  exact ⟨⟨a1, by omega, by omega⟩, r⟩
theorem J1.mono {u : Ut} {B B2 : Nat} (h : J1 u B) (hB : B ≤ B2) : J1 u B2 := by
  obtain ⟨K, c, h1, h2⟩ := h
  exact ⟨K, c, h1.mono hB, h2⟩
theorem PkOK.mono {pk : Nat → Int32} {n n' : Nat → Nat} {K K' : Nat → Nat → Int32} {p : Nat} (h : PkOK pk n K p) (hn : ∀ r, n r ≤ n' r) (hK : ∀ r m, m < n r → K' r m = K r m) : PkOK pk n' K' p := by
  rcases h with ⟨h0, m, h1, h2, h3⟩ | ⟨h0, m, h1, h2, h3⟩
  · have := hn (1 - p)
    exact Or.inl ⟨h0, m, by omega, h2, by rw [hK _ _ h1]; exact h3⟩
  · have := hn p
    exact Or.inr ⟨h0, m, by omega, h2, by rw [hK _ _ h1]; exact h3⟩
theorem flyL_mem {l : List (Nat → Int32)} {x a : Nat → Int32} (h : a ∈ flyL l x) : a ∈ l ∨ a = x := by
  simp only [flyL] at h
  split at h
  · exact Or.inl h
  · simpa using h
theorem flyL_len {l : List (Nat → Int32)} {x : Nat → Int32} (h : l.length ≤ 30) : (flyL l x).length ≤ 30 := by
  simp only [flyL]
  split
  · exact h
  · simp; omega
theorem FlOK.fly {l : List (Nat → Int32)} {x : Nat → Int32} {n : Nat → Nat} {K : Nat → Nat → Int32} {p : Nat} (h : FlOK l n K p) (hx : PkOK x n K p) : FlOK (flyL l x) n K p := by
  refine ⟨flyL_len h.1, fun a ha => ?_⟩
  rcases flyL_mem ha with e | e
  · exact h.2 a e
  · rw [e]; exact hx
theorem FlOK.mono {l : List (Nat → Int32)} {n n' : Nat → Nat} {K K' : Nat → Nat → Int32} {p : Nat} (h : FlOK l n K p) (hn : ∀ r, n r ≤ n' r) (hK : ∀ r m, m < n r → K' r m = K r m) : FlOK l n' K' p := ⟨h.1, fun a ha => (h.2 a ha).mono hn hK⟩
theorem KiOK.mono {l : List (Nat → Int32)} {p c c' : Nat} (h : KiOK l p c) (hc : c ≤ c') : KiOK l p c' := ⟨h.1, fun a ha => by obtain ⟨i, h1, h2⟩ := h.2.1 a ha; exact ⟨i, by omega, h2⟩, h.2.2⟩
theorem OuOK.mono {o : Option (Nat → Int32)} {l : List (Nat → Int32)} {n p c c' : Nat} {K : Nat → Int32} (h : OuOK o l n K p c) (hc : c ≤ c') : OuOK o l n K p c' := by
  intro pk ho
  obtain ⟨h0, m, h1, h2, h3, h4⟩ := h pk ho
  refine ⟨h0, m, h1, h2, h3, fun q => ?_⟩
  obtain ⟨⟨i, q1, q2⟩, q3⟩ := h4 q
  exact ⟨⟨i, by omega, q2⟩, q3⟩
theorem I1.w_fl {u : Ut} {K : Nat → Nat → Int32} {c : Nat → Nat} {B p : Nat} {l : List (Nat → Int32)} (h : I1 u K c B) (hl : FlOK l u.nn K p) : I1 (u.w_fl p l) K c B := by
  intro q hq
  obtain ⟨a1, a2, a3, a4, a5⟩ := h q hq
  refine ⟨a1, a2, a3, ?_, a5⟩
  show FlOK (va_up u.fl p l q) u.nn K q
  by_cases e : q = p
  · subst e
    rw [va_up_self]
    exact hl
  · rw [va_up_ne _ _ e]
    exact a4
theorem I1.w_ou {u : Ut} {K : Nat → Nat → Int32} {c : Nat → Nat} {B p : Nat} (h : I1 u K c B) : I1 (u.w_ou p none) K c B := by
  intro q hq
  obtain ⟨a1, a2, a3, a4, a5⟩ := h q hq
  have ho : va_up u.ou p none q = none ∨ va_up u.ou p none q = u.ou q := by
    by_cases e : q = p
    · subst e
      exact Or.inl (va_up_self _ _ _)
    · exact Or.inr (va_up_ne _ _ e)
  refine ⟨a1, a2, ?_, a4, ?_⟩
  · show OuOK (va_up u.ou p none q) (u.ki q) (u.nn q) (K q) q (c q)
    rcases ho with e | e
    · rw [e]
      intro pk hpk
      cases hpk
    · rw [e]; exact a3
  · show TiOK (va_up u.ou p none q) (u.wt q) (u.se q) (u.sp q)
    rcases ho with e | e
    · rw [e]
      intro hpk
      cases hpk
    · rw [e]; exact a5
theorem I1.w_ki {u : Ut} {K : Nat → Nat → Int32} {c : Nat → Nat} {B p : Nat} {l : List (Nat → Int32)} (h : I1 u K c B) (hl : KiOK l p (c p)) (ho : OuOK (u.ou p) l (u.nn p) (K p) p (c p)) : I1 (u.w_ki p l) K c B := by
  intro q hq
  obtain ⟨a1, a2, a3, a4, a5⟩ := h q hq
  refine ⟨a1, ?_, ?_, a4, a5⟩
  · show KiOK (va_up u.ki p l q) q (c q)
    by_cases e : q = p
    · subst e
      rw [va_up_self]
      exact hl
    · rw [va_up_ne _ _ e]
      exact a2
  · show OuOK (u.ou q) (va_up u.ki p l q) (u.nn q) (K q) q (c q)
    by_cases e : q = p
    · subst e
      rw [va_up_self]
      exact ho
    · rw [va_up_ne _ _ e]
      exact a3
theorem OuOK.sub {o : Option (Nat → Int32)} {l l' : List (Nat → Int32)} {n p c : Nat} {K : Nat → Int32} (h : OuOK o l n K p c) (hs : ∀ a ∈ l', a ∈ l) : OuOK o l' n K p c := by
  intro pk ho
  obtain ⟨h0, m, h1, h2, h3, h4⟩ := h pk ho
  exact ⟨h0, m, h1, h2, h3, fun q => ⟨(h4 q).1, fun kd hk => (h4 q).2 kd (hs kd hk)⟩⟩
theorem I1.t_kiOut {u : Ut} {K : Nat → Nat → Int32} {c : Nat → Nat} {B p : Nat} (h : I1 u K c B) (hp : p < 2) (o : Option Nat) : I1 (kiOut u p o) K c B := by
  obtain ⟨a1, a2, a3, a4, a5⟩ := h p hp
  cases o with
  | none => exact h
  | some k =>
    refine h.w_ki ⟨?_, fun a ha => a2.2.1 a (List.mem_of_mem_eraseIdx ha), a2.2.2.sublist (List.eraseIdx_sublist _ _)⟩ (a3.sub (fun a ha => List.mem_of_mem_eraseIdx ha))
    have := a2.1
    rw [List.length_eraseIdx]
    split <;> omega
theorem KiOK.snoc {l : List (Nat → Int32)} {p c i : Nat} {kd : Nat → Int32} (h : KiOK l p c) (hl : l.length < 16) (hi : i < c) (hk : kd 0 = mkN p i) (hn : ∀ a ∈ l, a 0 ≠ kd 0) : KiOK (l ++ [kd]) p c := by
  refine ⟨by simp; omega, fun a ha => ?_, ?_⟩
  · rcases List.mem_append.mp ha with e | e
    · exact h.2.1 a e
    · simp at e
      subst e
      exact ⟨i, hi, hk⟩
  · refine List.pairwise_append.mpr ⟨h.2.2, List.pairwise_singleton _ _, fun a ha b hb => ?_⟩
    simp at hb
    subst hb
    exact hn a ha
theorem I1.t_fr {u : Ut} {K : Nat → Nat → Int32} {c : Nat → Nat} {B p : Nat} (h : I1 u K c B) : I1 (frU u p) K (va_up c p (c p + 1)) (B + 1) := by
  intro q hq
  obtain ⟨⟨a0, a1, a1'⟩, a2, a3, a4, a5⟩ := h q hq
  by_cases e : q = p
  · subst e
    refine ⟨⟨?_, ?_, ?_⟩, ?_, ?_, a4, a5⟩
    · show va_up u.mk q (u.mk q + nI 2) q = _
      rw [va_up_self, va_up_self, a0, mkN, mkN, nI_add]
      congr 1
      omega
    · rw [va_up_self]; omega
    · show u.nn q ≤ _
      omega
    · rw [va_up_self]
      exact a2.mono (by omega)
    · rw [va_up_self]
      exact a3.mono (by omega)
  · refine ⟨⟨?_, ?_, ?_⟩, ?_, ?_, a4, a5⟩
    · show va_up u.mk p (u.mk p + nI 2) q = _
      rw [va_up_ne _ _ e, va_up_ne _ _ e, a0]
    · rw [va_up_ne _ _ e]; omega
    · show u.nn q ≤ _
      omega
    · rw [va_up_ne _ _ e]
      exact a2
    · rw [va_up_ne _ _ e]
      exact a3
theorem I1.kid {u : Ut} {K : Nat → Nat → Int32} {c : Nat → Nat} {B p : Nat} {kd : Nat → Int32} (h : I1 u K c B) (hp : p < 2) (hB : B < 2 ^ 28) (hl : ¬ (u.ki p).length = 16) (hk : kd 0 = u.mk p) : I1 ((frU u p).w_ki p (u.ki p ++ [kd])) K (va_up c p (c p + 1)) (B + 1) := by
  obtain ⟨⟨a0, a1, a1'⟩, a2, a3, a4, a5⟩ := h p hp
  have hn : ∀ a ∈ u.ki p, a 0 ≠ kd 0 := by
    intro a ha e
    obtain ⟨i, h1, h2⟩ := a2.2.1 a ha
    rw [h2, hk, a0] at e
    have := mkN_inj hp (by omega) (by omega) e
    omega
  have h16 := a2.1
  refine (h.t_fr (p := p)).w_ki ?_ ?_
  · rw [va_up_self]
    exact (a2.mono (Nat.le_succ _)).snoc (by omega) (Nat.lt_succ_self _) (hk.trans a0) hn
  · rw [va_up_self]
    intro pk ho
    obtain ⟨h0, m, h1, h2, h3, h4⟩ := a3 pk ho
    refine ⟨h0, m, h1, h2, h3, fun q => ?_⟩
    obtain ⟨⟨i, q1, q2⟩, q3⟩ := h4 q
    refine ⟨⟨i, by omega, q2⟩, fun b hb => ?_⟩
    rcases List.mem_append.mp hb with e | e
    · exact q3 b e
    · simp at e
      subst e
      rw [hk, a0, q2]
      intro e
      have := mkN_inj hp (by omega) (by omega) e
      omega
theorem I1.t_out {u : Ut} {K : Nat → Nat → Int32} {c : Nat → Nat} {B p : Nat} {pk : Nat → Int32} (h : I1 u K c B) (h2 : I2 u K) (hp : p < 2) (h0 : pk 0 = nI 1) (h1 : pk 1 = nI (u.nn p)) (h4 : pk 2 ≠ nI 2 → (∃ i, i < c p ∧ pk 4 = mkN p i) ∧ ∀ kd ∈ u.ki p, kd 0 ≠ pk 4) : I1 (outU (nnU u p) p pk) (upK K p (u.nn p) (pk 2)) c (B + 1) ∧ I2 (outU (nnU u p) p pk) (upK K p (u.nn p) (pk 2)) := by
  have hn : ∀ r, u.nn r ≤ va_up u.nn p (u.nn p + 1) r := by
    intro r
    by_cases e : r = p
    · subst e
      rw [va_up_self]; omega
    · rw [va_up_ne _ _ e]
      exact Nat.le_refl _
  have hK : ∀ r m, m < u.nn r → upK K p (u.nn p) (pk 2) r m = K r m := by
    intro r m hm
    rw [upK, if_neg]
    rintro ⟨rfl, rfl⟩
    omega
  constructor
  · intro q hq
    obtain ⟨⟨a0, a1, a1'⟩, a2, a3, a4, a5⟩ := h q hq
    refine ⟨⟨a0, by omega, ?_⟩, a2, ?_, ?_, ?_⟩
    · show va_up u.nn p (u.nn p + 1) q ≤ _
      by_cases e : q = p
      · subst e
        rw [va_up_self]; omega
      · rw [va_up_ne _ _ e]; omega
    · show OuOK (va_up u.ou p (some pk) q) (u.ki q) (va_up u.nn p (u.nn p + 1) q) (upK K p (u.nn p) (pk 2) q) q (c q)
      by_cases e : q = p
      · subst e
        rw [va_up_self, va_up_self]
        intro pk' he
        cases he
        exact ⟨h0, u.nn q, rfl, h1, by rw [upK, if_pos ⟨rfl, rfl⟩], h4⟩
      · rw [va_up_ne _ _ e, va_up_ne _ _ e]
        intro pk' he
        obtain ⟨b0, m, b1, b2, b3, b4⟩ := a3 pk' he
        exact ⟨b0, m, b1, b2, by rw [hK q m (by omega)]; exact b3, b4⟩
    · show FlOK (va_up u.fl (1 - p) (flyL (u.fl (1 - p)) pk) q) (va_up u.nn p (u.nn p + 1)) (upK K p (u.nn p) (pk 2)) q
      by_cases e : q = 1 - p
      · subst e
        rw [va_up_self]
        refine (a4.mono hn hK).fly (Or.inl ⟨h0, u.nn p, ?_, h1, ?_⟩)
        · rw [show 1 - (1 - p) = p by omega, va_up_self]; omega
        · rw [show 1 - (1 - p) = p by omega, upK, if_pos ⟨rfl, rfl⟩]
      · rw [va_up_ne _ _ e]
        exact a4.mono hn hK
    · show TiOK (va_up u.ou p (some pk) q) (va_up u.wt p (nI 4) q) (va_up u.se p (nI 1) q) (va_up u.sp p (nI 4) q)
      by_cases e : q = p
      · subst e
        rw [va_up_self, va_up_self, va_up_self, va_up_self]
        intro _
        exact ⟨4, 1, rfl, by omega, by omega, rfl, by omega, by omega, rfl⟩
      · rw [va_up_ne _ _ e, va_up_ne _ _ e, va_up_ne _ _ e, va_up_ne _ _ e]
        exact a5
  · intro q hq
    obtain ⟨b1, b2⟩ := h2 q hq
    refine ⟨Nat.le_trans b1 (hn _), fun hna => ?_⟩
    obtain ⟨c1, c2, c3⟩ := b2 hna
    refine ⟨c1, c2, ?_⟩
    show u.la q 2 = upK K p (u.nn p) (pk 2) (1 - q) (u.na q - 1)
    rw [hK _ _ (show (u.na q) - 1 < u.nn (1 - q) by have : 0 < u.na q := hna; omega)]
    exact c3
theorem askU_pk (u : Ut) (p : Nat) (kind mark : Int32) (kd : Nat → Int32) : (askU u p kind mark kd).2 0 = nI 1 ∧ (askU u p kind mark kd).2 1 = nI (u.nn p) ∧ (askU u p kind mark kd).2 2 = kind ∧ (kind ≠ 2 → (askU u p kind mark kd).2 4 = u.mk p) := by
  by_cases h0 : kind = 0
  · subst h0
    refine ⟨?_, ?_, ?_, fun _ => ?_⟩ <;> simp [askU, opM, suM, frM, blk, upd]
  · by_cases h2 : kind = 2
    · subst h2
      refine ⟨?_, ?_, ?_, fun q => absurd rfl q⟩ <;> simp [askU, ofM, frM, blk, upd, h0]
    · refine ⟨?_, ?_, ?_, fun _ => ?_⟩ <;> simp [askU, ofM, frM, blk, upd, h0, h2]
theorem J1.t_ask {u : Ut} {B p : Nat} {kind mark : Int32} {kd : Nat → Int32} (h : J1 u B) (hp : p < 2) (hB : B < 2 ^ 28) : J1 (askU u p kind mark kd).1 (B + 2) := by
  obtain ⟨K, c, h1, h2⟩ := h
  obtain ⟨e0, e1, e2, e4⟩ := askU_pk u p kind mark kd
  have e : (askU u p kind mark kd).1 = outU (if kind = 2 then nnU u p else frU (nnU u p) p) p (askU u p kind mark kd).2 := rfl
  rw [e]
  generalize (askU u p kind mark kd).2 = pk at e0 e1 e2 e4
  by_cases hk : kind = 2
  · rw [if_pos hk]
    have := h1.t_out h2 hp e0 e1 (fun q => absurd (e2.trans hk) q)
    exact ⟨_, _, this.1.mono (by omega), this.2⟩
  · rw [if_neg hk]
    obtain ⟨⟨a0, a1, a1'⟩, a2, a3, a4, a5⟩ := h1 p hp
    have h3 := (h1.t_fr (p := p)).t_out (pk := pk) (show I2 (frU u p) K from h2) hp e0 e1 (fun q => ⟨⟨c p, by rw [va_up_self]; omega, (e4 hk).trans a0⟩, fun b hb => by
      obtain ⟨i, b1, b2⟩ := a2.2.1 b hb
      rw [b2, e4 hk, a0]
      intro e
      have := mkN_inj hp (by omega) (by omega) e
      omega⟩)
    exact ⟨_, _, h3.1, h3.2⟩
theorem J1.t_wish {u : Ut} {B p : Nat} {w : Int32 × Int32} (h : J1 u B) (hp : p < 2) (hB : B < 2 ^ 28) : J1 (wishU u p w) (B + 2) := by
  simp only [wishU]
  split
  · exact h.t_ask hp hB
  · split
    · exact h.mono (by omega)
    · split
      · exact h.t_ask hp hB
      · exact h.mono (by omega)
theorem J1.t_take {p : Nat} (hp : p < 2) : ∀ (n : Nat) (u : Ut) (B : Nat), J1 u B → B + 2 * n < 2 ^ 28 → J1 (takeN n u p) (B + 2 * n)
  | 0, u, B, h, _ => h
  | n + 1, u, B, h, hB => by
    simp only [takeN]
    split
    · exact h.mono (by omega)
    · split
      · exact h.mono (by omega)
      · rename_i w t _
        have := J1.t_take hp n _ (B + 2) (J1.t_wish (w := w) (show J1 (u.w_wi p t) B from h) hp (by omega)) (by omega)
        exact this.mono (by omega)
theorem wishU_wi2 (u : Ut) (p : Nat) (w : Int32 × Int32) : (wishU u p w).wi = u.wi ∧ (wishU u p w).de = u.de ∧ ∀ q, q ≠ p → (wishU u p w).ou q = u.ou q := by
  have ha : ∀ kd, (askU u p w.1 w.2 kd).1.wi = u.wi ∧ (askU u p w.1 w.2 kd).1.de = u.de ∧ ∀ q, q ≠ p → (askU u p w.1 w.2 kd).1.ou q = u.ou q := by
    intro kd
    refine ⟨?_, ?_, fun q hq => ?_⟩
    · show (if w.1 = 2 then nnU u p else frU (nnU u p) p).wi = u.wi
      split <;> rfl
    · show (if w.1 = 2 then nnU u p else frU (nnU u p) p).de = u.de
      split <;> rfl
    · show va_up (if w.1 = 2 then nnU u p else frU (nnU u p) p).ou p _ q = u.ou q
      rw [va_up_ne _ _ hq]
      split <;> rfl
  simp only [wishU]
  split
  · exact ha _
  · split
    · exact ⟨rfl, rfl, fun _ _ => rfl⟩
    · split
      · exact ha _
      · exact ⟨rfl, rfl, fun _ _ => rfl⟩
theorem takeN_wi {p : Nat} : ∀ (n : Nat) (u : Ut), (takeN n u p).de = u.de ∧ (∀ q, q ≠ p → (takeN n u p).ou q = u.ou q ∧ (takeN n u p).wi q = u.wi q) ∧ ((takeN n u p).wi p).length ≤ (u.wi p).length
  | 0, u => ⟨rfl, fun _ _ => ⟨rfl, rfl⟩, Nat.le_refl _⟩
  | n + 1, u => by
    simp only [takeN]
    split
    · exact ⟨rfl, fun _ _ => ⟨rfl, rfl⟩, Nat.le_refl _⟩
    · split
      · exact ⟨rfl, fun _ _ => ⟨rfl, rfl⟩, Nat.le_refl _⟩
      · rename_i w t hw
        obtain ⟨h1, h2, h3⟩ := takeN_wi n (wishU (u.w_wi p t) p w)
        obtain ⟨g1, g2, g3⟩ := wishU_wi2 (u.w_wi p t) p w
        refine ⟨h1.trans g2, fun q hq => ⟨(h2 q hq).1.trans (g3 q hq), ?_⟩, ?_⟩
        · rw [(h2 q hq).2, g1]
          exact va_up_ne _ _ hq
        · rw [g1, show (u.w_wi p t).wi p = t from va_up_self _ _ _] at h3
          have : (u.wi p).length = t.length + 1 := by rw [hw]; rfl
          omega
theorem takeN_idl {p : Nat} : ∀ (n : Nat) (u : Ut), (u.wi p).length ≤ n → Idl (takeN n u p) p
  | 0, u, h => Or.inr (Or.inr (List.eq_nil_of_length_eq_zero (by show (u.wi p).length = 0; omega)))
  | n + 1, u, h => by
    simp only [takeN]
    split
    · rename_i hc
      exact hc.elim Or.inl (fun q => Or.inr (Or.inl q))
    · split
      · rename_i hw
        exact Or.inr (Or.inr hw)
      · rename_i w t hw
        refine takeN_idl n _ ?_
        rw [(wishU_wi2 _ _ _).1, show (u.w_wi p t).wi p = t from va_up_self _ _ _]
        rw [hw] at h
        simpa using h
theorem takeP_len {p : Nat} {u : Ut} (h : (u.wi p).length ≤ 10 ∨ ((u.wi p).length ≤ 11 ∧ u.ou p = none ∧ u.de p = false)) : ((takeP u p).wi p).length ≤ 10 := by
  rcases h with h | ⟨h, ho, hd⟩
  · have := (takeN_wi (p := p) (u.wi p).length u).2.2
    show ((takeN (u.wi p).length u p).wi p).length ≤ 10
    omega
  · show ((takeN (u.wi p).length u p).wi p).length ≤ 10
    generalize hn : (u.wi p).length = n at h
    cases n with
    | zero =>
      show (u.wi p).length ≤ 10
      omega
    | succ n =>
      simp only [takeN]
      rw [if_neg (by rw [ho, hd]; simp)]
      split
      · rename_i hw
        rw [hw]
        simp
      · rename_i w t hw
        have h3 := (takeN_wi (p := p) n (wishU (u.w_wi p t) p w)).2.2
        rw [(wishU_wi2 _ _ _).1, show (u.w_wi p t).wi p = t from va_up_self _ _ _] at h3
        rw [hw] at hn
        simp at hn
        omega
theorem Inv.take {u : Ut} {B : Nat} (h : J1 u B) (hB : B < 2 ^ 27) (hw : ∀ p, p < 2 → (u.wi p).length ≤ 10 ∨ ((u.wi p).length ≤ 11 ∧ u.ou p = none ∧ u.de p = false)) : Inv (takeU u) (B + 44) ∧ J1 (takeP u 0) (B + 22) ∧ ((takeP u 0).wi 1).length ≤ 11 := by
  have hl : ∀ p, p < 2 → (u.wi p).length ≤ 11 := fun p hp => by rcases hw p hp with e | e <;> omega
  have l0 := hl 0 (by omega)
  have l1 := hl 1 (by omega)
  have k0 : J1 (takeP u 0) (B + 22) := (J1.t_take (by omega) _ u B h (by omega)).mono (by omega)
  obtain ⟨d0, w0, n0⟩ := takeN_wi (p := 0) (u.wi 0).length u
  obtain ⟨o1, w1⟩ := w0 1 (by omega)
  have hw1 : (takeP u 0).wi 1 = u.wi 1 := w1
  have k1 : J1 (takeU u) (B + 44) := (J1.t_take (by omega) _ (takeP u 0) (B + 22) k0 (by rw [hw1]; omega)).mono (by rw [hw1]; omega)
  obtain ⟨d2, w2, n2⟩ := takeN_wi (p := 1) ((takeP u 0).wi 1).length (takeP u 0)
  obtain ⟨o3, w3⟩ := w2 0 (by omega)
  refine ⟨⟨k1, fun p hp => ?_⟩, k0, by rw [hw1]; exact l1⟩
  rcases (show p = 0 ∨ p = 1 by omega) with rfl | rfl
  · constructor
    · rw [show (takeU u).wi 0 = (takeP u 0).wi 0 from w3]
      exact takeP_len (hw 0 (by omega))
    · have := takeN_idl (p := 0) (u.wi 0).length u (Nat.le_refl _)
      rcases this with q | q | q
      · exact Or.inl (by rw [show (takeU u).ou 0 = (takeP u 0).ou 0 from o3]; exact q)
      · exact Or.inr (Or.inl (by rw [show (takeU u).de = (takeP u 0).de from d2]; exact q))
      · exact Or.inr (Or.inr (by rw [show (takeU u).wi 0 = (takeP u 0).wi 0 from w3]; exact q))
  · constructor
    · refine takeP_len (u := takeP u 0) ?_
      rw [hw1, show (takeP u 0).ou 1 = u.ou 1 from o1, show (takeP u 0).de = u.de from d0]
      exact hw 1 (by omega)
    · exact takeN_idl (p := 1) ((takeP u 0).wi 1).length (takeP u 0) (Nat.le_refl _)
theorem takeP_idl {u : Ut} {p : Nat} (h : Idl u p) : takeP u p = u := by
  simp only [takeP]
  rcases h with h | h | h
  · cases (u.wi p).length with
    | zero => rfl
    | succ n =>
      simp only [takeN]
      rw [if_pos (Or.inl h)]
  · cases (u.wi p).length with
    | zero => rfl
    | succ n =>
      simp only [takeN]
      rw [if_pos (Or.inr h)]
  · rw [h]
    rfl
theorem takeU_idl {u : Ut} (h0 : Idl u 0) (h1 : Idl u 1) : takeU u = u := by
  simp only [takeU]
  rw [takeP_idl h0, takeP_idl h1]
