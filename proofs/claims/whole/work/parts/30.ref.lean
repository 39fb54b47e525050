def tgM : Nat → Nat
  | 12 => 1
  | 13 => 1
  | _ => 0
def lnM : Nat → Nat
  | 2 => 8
  | 8 => 272
  | 10 => 32
  | 11 => 32
  | 14 => 32
  | 20 => 32
  | 22 => 1024
  | 23 => 16
  | _ => 2
def RM (G : GT) (h : Hp) (m : Nat) (t : Int32) (F : Nat → Nat → Int32) : Prop := gb G ≤ m ∧ h.1 m = some (.inr (10, [.int t, .ref (m + 1), .ref (m + 2), .ref (m + 3), .ref (m + 4), .ref (m + 5), .ref (m + 6), .ref (m + 7), .ref (m + 8), .ref (m + 9), .ref (m + 10), .ref (m + 11), .ref (m + 12), .ref (m + 13), .ref (m + 14), .ref (m + 15), .ref (m + 16), .ref (m + 17), .ref (m + 18), .ref (m + 19), .ref (m + 20), .ref (m + 21), .ref (m + 22), .ref (m + 23)])) ∧ ∀ j, 1 ≤ j → j ≤ 23 → h.1 (m + j) = some (.inl (tgM j, lnM j, .inl (F j)))
theorem RM.o {G : GT} {h : Hp} {m : Nat} {t : Int32} {F : Nat → Nat → Int32} (hR : RM G h m t F) : h.1 m = some (.inr (10, [.int t, .ref (m + 1), .ref (m + 2), .ref (m + 3), .ref (m + 4), .ref (m + 5), .ref (m + 6), .ref (m + 7), .ref (m + 8), .ref (m + 9), .ref (m + 10), .ref (m + 11), .ref (m + 12), .ref (m + 13), .ref (m + 14), .ref (m + 15), .ref (m + 16), .ref (m + 17), .ref (m + 18), .ref (m + 19), .ref (m + 20), .ref (m + 21), .ref (m + 22), .ref (m + 23)])) := hR.2.1
def FrM (m : Nat) (h h' : Hp) : Prop := (∀ a, ¬ (m ≤ a ∧ a ≤ m + 23) → h'.1 a = h.1 a) ∧ h'.2 = h.2
theorem FrM.rf (m : Nat) (h : Hp) : FrM m h h := ⟨fun _ _ => rfl, rfl⟩
theorem FrM.trans {m : Nat} {h h1 h2 : Hp} (a : FrM m h h1) (b : FrM m h1 h2) : FrM m h h2 := ⟨fun q hq => (b.1 q hq).trans (a.1 q hq), b.2.trans a.2⟩
def u2 (F : Nat → Nat → Int32) (j i : Nat) (x : Int32) : Nat → Nat → Int32 := va_up F j (upd (F j) i x)
theorem u2_at (F : Nat → Nat → Int32) (j i : Nat) (x : Int32) (a b : Nat) : u2 F j i x a b = if a = j ∧ b = i then x else F a b := by
  unfold u2 va_up upd
  by_cases h1 : a = j
  · subst h1
    by_cases h2 : b = i <;> simp [h2]
  · simp [h1]
theorem u2_same (F : Nat → Nat → Int32) (j i : Nat) (x : Int32) : u2 F j i x j i = x := by rw [u2_at, if_pos ⟨rfl, rfl⟩]
theorem u2_row (F : Nat → Nat → Int32) (j i : Nat) (x : Int32) {a b : Nat} (h : a ≠ j) : u2 F j i x a b = F a b := by rw [u2_at, if_neg (fun q => h q.1)]
theorem u2_col (F : Nat → Nat → Int32) (j i : Nat) (x : Int32) {a b : Nat} (h : b ≠ i) : u2 F j i x a b = F a b := by rw [u2_at, if_neg (fun q => h q.2)]
theorem RM.up {G : GT} {h : Hp} {m : Nat} {t : Int32} {F : Nat → Nat → Int32} (hR : RM G h m t F) {j i : Nat} {x : Int32} (h1 : 1 ≤ j) (h2 : j ≤ 23) : RM G (hput h (m + j) (.inl (tgM j, lnM j, .inl (upd (F j) i x)))) m t (u2 F j i x) := by
  refine ⟨hR.1, by rw [hput_ne _ _ _ (by omega)]; exact hR.2.1, fun k k1 k2 => ?_⟩
  by_cases hk : k = j
  · subst hk
    rw [hput_self]
    unfold u2
    rw [va_up_self]
  · rw [hput_ne _ _ _ (by omega), hR.2.2 k k1 k2]
    unfold u2
    rw [va_up_ne _ _ hk]
theorem FrM.up {h : Hp} {m j : Nat} {e : Ee} (h1 : 1 ≤ j) (h2 : j ≤ 23) : FrM m h (hput h (m + j) e) := ⟨fun a ha => hput_ne _ _ _ (by omega), rfl⟩
section REFX
variable {G : GT} {M : MD} {d : Nat} {Q : Outcome → Hp → Prop} {pc : Nat} {lv : List (Option Value)} {st : List Value} {h : Hp} {m : Nat} {t : Int32} {F : Nat → Nat → Int32}
theorem ld_M {j i L : Nat} (hR : RM G h m t F) (hd : decode M.2.1 pc = .ok (.iaload, 1)) (ht : tgM j = 0) (hj : 1 ≤ j ∧ j ≤ 23) (hL : lnM j = L) (hi : i < L) (kk : Jx G M d Q (pc + 1) lv (.int (F j i) :: st) h) : Jx G M d Q pc lv (.int (nI i) :: .ref (m + j) :: st) h := by
  have hc := hR.2.2 j hj.1 hj.2
  have hb : lnM j ≤ 1024 := by unfold lnM; split <;> omega
  rw [ht, hL] at hc
  refine x_iaload hd hc (vp_in_nI hi (by omega)) ?_
  rw [nI_clamp (by omega)]
  exact kk
theorem lz_M {j i L : Nat} (hR : RM G h m t F) (hd : decode M.2.1 pc = .ok (.baload, 1)) (ht : tgM j = 1) (hj : 1 ≤ j ∧ j ≤ 23) (hL : lnM j = L) (hi : i < L) (kk : Jx G M d Q (pc + 1) lv (.int (F j i) :: st) h) : Jx G M d Q pc lv (.int (nI i) :: .ref (m + j) :: st) h := by
  have hc := hR.2.2 j hj.1 hj.2
  have hb : lnM j ≤ 1024 := by unfold lnM; split <;> omega
  rw [ht, hL] at hc
  refine x_zaload hd hc (vp_in_nI hi (by omega)) ?_
  rw [nI_clamp (by omega)]
  exact kk
theorem st_M {j i L : Nat} {x : Int32} (hR : RM G h m t F) (hd : decode M.2.1 pc = .ok (.iastore, 1)) (ht : tgM j = 0) (hj : 1 ≤ j ∧ j ≤ 23) (hL : lnM j = L) (hi : i < L) (kk : ∀ h', RM G h' m t (u2 F j i x) → FrM m h h' → Jx G M d Q (pc + 1) lv st h') : Jx G M d Q pc lv (.int x :: .int (nI i) :: .ref (m + j) :: st) h := by
  have hc := hR.2.2 j hj.1 hj.2
  have hb : lnM j ≤ 1024 := by unfold lnM; split <;> omega
  have hu := hR.up (i := i) (x := x) hj.1 hj.2
  rw [ht] at hu
  rw [ht] at hc
  refine x_iastore hd (by have := hR.1; omega) hc (vp_in_nI (by omega) (by omega)) ?_
  rw [nI_clamp (by omega)]
  exact kk _ hu (FrM.up hj.1 hj.2)
theorem sz_M {j i L : Nat} {x : Int32} (hR : RM G h m t F) (hd : decode M.2.1 pc = .ok (.bastore, 1)) (ht : tgM j = 1) (hj : 1 ≤ j ∧ j ≤ 23) (hL : lnM j = L) (hi : i < L) (hx : narrow .boolean (.int x) = .int x) (kk : ∀ h', RM G h' m t (u2 F j i x) → FrM m h h' → Jx G M d Q (pc + 1) lv st h') : Jx G M d Q pc lv (.int x :: .int (nI i) :: .ref (m + j) :: st) h := by
  have hc := hR.2.2 j hj.1 hj.2
  have hb : lnM j ≤ 1024 := by unfold lnM; split <;> omega
  have hu := hR.up (i := i) (x := x) hj.1 hj.2
  rw [ht] at hu
  rw [ht] at hc
  refine x_zastore hd (by have := hR.1; omega) hc (vp_in_nI (by omega) (by omega)) hx ?_
  rw [nI_clamp (by omega)]
  exact kk _ hu (FrM.up hj.1 hj.2)
theorem pt_M {x : Int32} (hR : RM G h m t F) (hM : M.1.cls = RX10) (hd : decode M.2.1 pc = .ok (.putfield 83, 3)) (kk : ∀ h', RM G h' m x F → FrM m h h' → Jx G M d Q (pc + 3) lv st h') : Jx G M d Q pc lv (.int x :: .ref m :: st) h := by
  refine pf_X10_83_10 hM hd hR.o rfl rfl ?_
  refine kk _ ⟨hR.1, hput_self _ _ _, fun j j1 j2 => ?_⟩ ⟨fun a ha => hput_ne _ _ _ (by omega), rfl⟩
  rw [hput_ne _ _ _ (by omega)]
  exact hR.2.2 j j1 j2
end REFX
