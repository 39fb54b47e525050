theorem vMd.up {r md : Nat → Int32} {j : Nat} {x : Int32} (h : vMd r md) : vMd (upd r j x) (upd md j x) := by
  intro q hq
  by_cases e : q = j
  · subst e
    rw [pk_us, pk_us]
  · rw [pk_un e, pk_un e]
    exact h q hq
theorem VW.t_lo {F : Nat → Nat → Int32} {u : Ut} {md : Nat → Int32} {p : Nat} {x : Int32} (hV : VW F u md) : VW (u2 F 3 p x) (u.w_lo p x) md := hV.s_lo (fun j _ _ hj => u2_rowF _ _ _ _ hj) (by rw [u2_rowS]; exact hV.lo.up)
theorem VW.t_hi {F : Nat → Nat → Int32} {u : Ut} {md : Nat → Int32} {p : Nat} {x : Int32} (hV : VW F u md) : VW (u2 F 4 p x) (u.w_hi p x) md := hV.s_hi (fun j _ _ hj => u2_rowF _ _ _ _ hj) (by rw [u2_rowS]; exact hV.hi.up)
theorem VW.t_no {F : Nat → Nat → Int32} {u : Ut} {md : Nat → Int32} {p : Nat} {x : Int32} (hV : VW F u md) : VW (u2 F 5 p x) (u.w_no p x) md := hV.s_no (fun j _ _ hj => u2_rowF _ _ _ _ hj) (by rw [u2_rowS]; exact hV.no.up)
theorem VW.t_mk {F : Nat → Nat → Int32} {u : Ut} {md : Nat → Int32} {p : Nat} {x : Int32} (hV : VW F u md) : VW (u2 F 6 p x) (u.w_mk p x) md := hV.s_mk (fun j _ _ hj => u2_rowF _ _ _ _ hj) (by rw [u2_rowS]; exact hV.mk.up)
theorem VW.t_se {F : Nat → Nat → Int32} {u : Ut} {md : Nat → Int32} {p : Nat} {x : Int32} (hV : VW F u md) : VW (u2 F 15 p x) (u.w_se p x) md := hV.s_se (fun j _ _ hj => u2_rowF _ _ _ _ hj) (by rw [u2_rowS]; exact hV.se.up)
theorem VW.t_wt {F : Nat → Nat → Int32} {u : Ut} {md : Nat → Int32} {p : Nat} {x : Int32} (hV : VW F u md) : VW (u2 F 16 p x) (u.w_wt p x) md := hV.s_wt (fun j _ _ hj => u2_rowF _ _ _ _ hj) (by rw [u2_rowS]; exact hV.wt.up)
theorem VW.t_sp {F : Nat → Nat → Int32} {u : Ut} {md : Nat → Int32} {p : Nat} {x : Int32} (hV : VW F u md) : VW (u2 F 17 p x) (u.w_sp p x) md := hV.s_sp (fun j _ _ hj => u2_rowF _ _ _ _ hj) (by rw [u2_rowS]; exact hV.sp.up)
theorem VW.t_nn {F : Nat → Nat → Int32} {u : Ut} {md : Nat → Int32} {p n : Nat} (hV : VW F u md) : VW (u2 F 18 p (nI n)) (u.w_nn p n) md := hV.s_nn (fun j _ _ hj => u2_rowF _ _ _ _ hj) (by rw [u2_rowS]; exact hV.nn.up)
theorem VW.t_na {F : Nat → Nat → Int32} {u : Ut} {md : Nat → Int32} {p n : Nat} (hV : VW F u md) : VW (u2 F 19 p (nI n)) (u.w_na p n) md := hV.s_na (fun j _ _ hj => u2_rowF _ _ _ _ hj) (by rw [u2_rowS]; exact hV.na.up)
theorem VW.t_de {F : Nat → Nat → Int32} {u : Ut} {md : Nat → Int32} {p : Nat} {b : Bool} (hV : VW F u md) : VW (u2 F 12 p (bI b)) (u.w_de p b) md := hV.s_de (fun j _ _ hj => u2_rowF _ _ _ _ hj) (by rw [u2_rowS]; exact hV.de.up)
theorem VW.t_md {F : Nat → Nat → Int32} {u : Ut} {md : Nat → Int32} {j : Nat} {x : Int32} (hV : VW F u md) : VW (u2 F 23 j x) u (upd md j x) := hV.s_md (fun k _ hk => u2_rowF _ _ _ _ (by omega)) (by rw [u2_rowS]; exact hV.md.up)
theorem VW.t_ou0 {F : Nat → Nat → Int32} {u : Ut} {md : Nat → Int32} {p : Nat} (hV : VW F u md) : VW (u2 F 13 p (nI 0)) (u.w_ou p none) md := by
  refine hV.s_ou (fun j _ _ h13 h14 => u2_rowF _ _ _ _ h13) ?_
  rw [u2_rowS, u2_rowF _ _ _ _ (by decide)]
  intro q hq
  by_cases e : q = p
  · subst e
    rw [pk_us, va_up_self]
    exact ⟨rfl, fun pk h => by cases h⟩
  · rw [pk_un e, va_up_ne _ _ e]
    exact hV.ou q hq
def rOut (F : Nat → Nat → Int32) (p i : Nat) : Nat → Nat → Int32 := fun a b => if a = 14 ∧ 16 * p ≤ b ∧ b < 16 * p + i then F 23 (b - 16 * p) else F a b
theorem VW.t_ou1 {F : Nat → Nat → Int32} {u : Ut} {md : Nat → Int32} {p : Nat} (hV : VW F u md) : VW (u2 (rOut F p 16) 13 p (nI 1)) (u.w_ou p (some md)) md := by
  refine hV.s_ou (fun j _ _ h13 h14 => ?_) ?_
  · rw [u2_rowF _ _ _ _ h13]
    funext b
    simp [rOut, h14]
  · rw [u2_rowS, u2_rowF _ _ _ _ (by decide)]
    intro q hq
    have e13 : rOut F p 16 13 = F 13 := by funext b; simp [rOut]
    rw [e13]
    by_cases e : q = p
    · subst e
      rw [pk_us, va_up_self]
      refine ⟨rfl, fun pk h j hj => ?_⟩
      cases h
      simp only [rOut]
      rw [if_pos ⟨trivial, by omega, by omega⟩, Nat.add_sub_cancel_left]
      exact hV.md j hj
    · rw [pk_un e, va_up_ne _ _ e]
      refine ⟨(hV.ou q hq).1, fun pk h j hj => ?_⟩
      simp only [rOut]
      rw [if_neg (by omega)]
      exact (hV.ou q hq).2 pk h j hj
