theorem Inv.s_suite {u : Ut} {B : Nat} {a s : Int32} (h : Inv u B) : Inv (sSuite u a s).2.2 B := by
  rw [sSuite]
  split
  · exact h
  · split
    · exact h
    · split
      · exact h
      · rename_i p _ _ _
        have h2 : Inv (u.w_su p (u.su p ++ [s])) B := h
        show Inv (takeU (u.w_su p (u.su p ++ [s]))) B
        rw [takeU_idl (h2.2 0 (by omega)).2 (h2.2 1 (by omega)).2]
        exact h2
theorem Inv.s_range {u : Ut} {B : Nat} {a lo hi : Int32} (h : Inv u B) : Inv (sRange u a lo hi).2.2 B := by
  rw [sRange]
  split
  · exact h
  · split
    · exact h
    · exact h
theorem Inv.s_seed {u : Ut} {B : Nat} {a s : Int32} (h : Inv u B) : Inv (sSeed u a s).2.2 B := by
  rw [sSeed]
  split
  · exact h
  · exact h
theorem pN_lt {x : Int32} {p : Nat} (h : pN x = some p) : p < 2 := by
  rw [pN] at h
  split at h
  · cases h; omega
  · split at h
    · cases h; omega
    · cases h
theorem ixN_lt {k : Int32} {n j : Nat} (hn : n < 2 ^ 31) (h : ixN k n = some j) : j < n := by
  by_cases h0 : k < 0
  · rw [ixN_neg h0] at h
    cases h
  · by_cases h1 : nI n ≤ k
    · rw [ixN_big h0 h1] at h
      cases h
    · obtain ⟨i, h2, -, h3⟩ := ixN_some hn h0 h1
      rw [h] at h3
      cases h3
      exact h2
theorem Inv.t_wishS {u : Ut} {B p : Nat} {kind mark : Int32} (h : Inv u B) (hB : B < 2 ^ 26) (hp : p < 2) : Inv (wishS u p kind mark).2.2 (B + 44) := by
  simp only [wishS]
  split
  · exact h.mono (by omega)
  · split
    · exact h.mono (by omega)
    · rename_i h10
      have hl := (h.2 p hp).1
      refine (Inv.take (u := u.w_wi p (u.wi p ++ [(kind, mark)])) (B := B) h.1 (by omega) (fun q hq => Or.inl ?_)).1
      show (va_up u.wi p (u.wi p ++ [(kind, mark)]) q).length ≤ 10
      by_cases e : q = p
      · subst e
        rw [va_up_self, List.length_append]
        simp only [List.length_singleton]
        omega
      · rw [va_up_ne _ _ e]
        exact (h.2 q hq).1
theorem Inv.s_wish {u : Ut} {B : Nat} {a kind k : Int32} (h : Inv u B) (hB : B < 2 ^ 26) : Inv (sWish u a kind k).2.2 (B + 44) := by
  rw [sWish]
  split
  · exact h.mono (by omega)
  · rename_i p hp
    have hp2 := pN_lt hp
    split
    · split
      · exact h.mono (by omega)
      · exact h.t_wishS hB hp2
    · split
      · exact h.t_wishS hB hp2
      · exact h.mono (by omega)
theorem Inv.s_deliver {u : Ut} {B : Nat} {a k : Int32} (h : Inv u B) (hB : B < 2 ^ 26) (hf : ∀ p, p < 2 → (u.fl p).length ≤ 30) (hk : ∀ p, p < 2 → ∀ pk ∈ u.fl p, pk 0 = nI 1 → pk 2 = 0 ∨ pk 2 = nI 1 ∨ pk 2 = nI 2) : Inv (sDeliver u a k).2.2 (B + 45) := by
  rw [sDeliver]
  split
  · exact h.mono (by omega)
  · rename_i p hp
    have hp2 := pN_lt hp
    split
    · exact h.mono (by omega)
    · rename_i j hj
      have hl := hf p hp2
      have hj2 := ixN_lt (by omega) hj
      have hg := h.t_got hB hp2 hj2 rfl (hk p hp2 _ (List.getElem_mem hj2))
      have e : (u.fl p).getD j (fun _ => 0) = (u.fl p)[j] := by simp [List.getD, hj2]
      rw [e, gotU_same (u := u) (v := u.w_fl p ((u.fl p).eraseIdx j)) rfl]
      exact (Inv.take hg.1 (by omega) hg.2).1
theorem Inv.w_fl {u : Ut} {B p : Nat} {l : List (Nat → Int32)} (h : Inv u B) (hl : l.length ≤ 30) (hs : ∀ x ∈ l, x ∈ u.fl p) (hp : p < 2) : Inv (u.w_fl p l) B := by
  obtain ⟨⟨K, c, h1, h2⟩, h3⟩ := h
  exact ⟨⟨K, c, h1.w_fl ⟨hl, fun x hx => (h1 p hp).2.2.2.1.2 x (hs x hx)⟩, h2⟩, h3⟩
theorem Inv.s_lose {u : Ut} {B : Nat} {a k : Int32} (h : Inv u B) (hf : ∀ p, p < 2 → (u.fl p).length ≤ 30) : Inv (sLose u a k).2.2 B := by
  rw [sLose]
  split
  · exact h
  · rename_i p hp
    have hp2 := pN_lt hp
    have hl := hf p hp2
    split
    · exact h
    · refine h.w_fl ?_ (fun x hx => List.mem_of_mem_eraseIdx hx) hp2
      rw [List.length_eraseIdx]
      split <;> omega
theorem Inv.s_twice {u : Ut} {B : Nat} {a k : Int32} (h : Inv u B) (hf : ∀ p, p < 2 → (u.fl p).length ≤ 30) : Inv (sTwice u a k).2.2 B := by
  rw [sTwice]
  split
  · exact h
  · rename_i p hp
    have hp2 := pN_lt hp
    have hl := hf p hp2
    split
    · exact h
    · rename_i j hj
      have hj2 := ixN_lt (by omega) hj
      have e : (u.fl p).getD j (fun _ => 0) = (u.fl p)[j] := by simp [List.getD, hj2]
      rw [e]
      refine h.w_fl (flyL_len hl) (fun x hx => ?_) hp2
      rcases flyL_mem hx with q | q
      · exact q
      · rw [q]
        exact List.getElem_mem hj2
theorem Inv.s_tick {u : Ut} {B : Nat} {a : Int32} (h : Inv u B) : Inv (sTick u a).2.2 B := by
  rw [sTick]
  split
  · exact h
  · have hIn := Inv.t_tickN a.toNatClampNeg u (nI 0) h
    show Inv (takeU (tickN a.toNatClampNeg u (nI 0)).1) B
    rw [takeU_idl (hIn.2 0 (by omega)).2 (hIn.2 1 (by omega)).2]
    exact hIn
theorem Inv.s_children {u : Ut} {B : Nat} {a : Int32} (h : Inv u B) : Inv (sChildren u a).2.2 B := by
  rw [sChildren]
  split <;> exact h
theorem Inv.s_flying {u : Ut} {B : Nat} {a : Int32} (h : Inv u B) : Inv (sFlying u a).2.2 B := by
  rw [sFlying]
  split <;> exact h
theorem Inv.s_child {u : Ut} {B : Nat} {a k w : Int32} (h : Inv u B) : Inv (sChild u a k w).2.2 B := by
  rw [sChild]
  split
  · exact h
  · split
    · exact h
    · split <;> exact h
theorem Inv.s_packet {u : Ut} {B : Nat} {a k w : Int32} (h : Inv u B) : Inv (sPacket u a k w).2.2 B := by
  rw [sPacket]
  split
  · exact h
  · split
    · exact h
    · split <;> exact h
theorem Inv.s_told {u : Ut} {B : Nat} {a w : Int32} (h : Inv u B) : Inv (sTold u a w).2.2 B := by
  rw [sTold]
  split
  · exact h
  · split <;> exact h
