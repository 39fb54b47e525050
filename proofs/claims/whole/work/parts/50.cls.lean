def aF (x p : Nat) : Nat := x + 1 + 2 * p
def aP (x p : Nat) : Nat := x + 5 + 4 * p
def aS (x p : Nat) : Nat := x + 6 + 4 * p
def aL (x c p : Nat) : Nat := match c with
  | 0 => x + 2 + 2 * p
  | 1 => x + 7 + 4 * p
  | _ => x + 8 + 4 * p
def L2 {α : Type} (R : Nat → α → Prop) (xs : List Nat) (l : List α) : Prop := xs.length = l.length ∧ ∀ (i : Nat) (a : Nat) (b : α), xs[i]? = some a → l[i]? = some b → R a b
theorem L2.mono {α : Type} {R R' : Nat → α → Prop} {xs : List Nat} {l : List α} (h : L2 R xs l) (hr : ∀ a b, R a b → R' a b) : L2 R' xs l := ⟨h.1, fun i a b ha hb => hr a b (h.2 i a b ha hb)⟩
theorem L2.nil {α : Type} {R : Nat → α → Prop} : L2 R [] ([] : List α) := ⟨rfl, fun i a b ha _ => by cases ha⟩
theorem L2.snoc {α : Type} {R : Nat → α → Prop} {xs : List Nat} {l : List α} {a : Nat} {b : α} (h : L2 R xs l) (hr : R a b) : L2 R (xs ++ [a]) (l ++ [b]) := by
  refine ⟨by simp [h.1], fun i a' b' ha hb => ?_⟩
  by_cases hi : i < xs.length
  · rw [List.getElem?_append_left hi] at ha
    rw [List.getElem?_append_left (by rw [← h.1]; exact hi)] at hb
    exact h.2 i a' b' ha hb
  · have hil := (List.getElem?_eq_some_iff.mp ha).1
    simp at hil
    have : i = xs.length := by omega
    subst this
    simp at ha
    rw [h.1] at hb
    simp at hb
    subst ha hb
    exact hr
theorem L2.erase {α : Type} {R : Nat → α → Prop} {xs : List Nat} {l : List α} (h : L2 R xs l) (k : Nat) : L2 R (xs.eraseIdx k) (l.eraseIdx k) := by
  refine ⟨by rw [List.length_eraseIdx, List.length_eraseIdx, h.1], fun i a b ha hb => ?_⟩
  rw [List.getElem?_eraseIdx] at ha hb
  by_cases hi : i < k
  · rw [if_pos hi] at ha hb
    exact h.2 i a b ha hb
  · rw [if_neg hi] at ha hb
    exact h.2 (i + 1) a b ha hb
theorem L2.at {α : Type} {R : Nat → α → Prop} {xs : List Nat} {l : List α} (h : L2 R xs l) {i : Nat} (hi : i < xs.length) {b : α} (hb : l[i]? = some b) : R xs[i] b := h.2 i _ b (List.getElem?_eq_getElem hi) hb
def dealO (h : Hp) (z a : Nat) (s l g : Int32) : Prop := z ≤ a ∧ h.1 a = some (.inr (3, [.int s, .int l, .int g]))
def kidO (h : Hp) (z a : Nat) (kd : Nat → Int32) : Prop := z ≤ a ∧ (∃ da, h.1 a = some (.inr (2, [.int (kd 0), .int (kd 1), .ref da, .int (kd 5), .int (kd 6), .int (kd 7)])) ∧ dealO h z da (kd 2) (kd 3) (kd 4)) ∧ ∃ b, kd 6 = bI b
def wishO (h : Hp) (z a : Nat) (w : Int32 × Int32) : Prop := z ≤ a ∧ h.1 a = some (.inr (8, [.int w.1, .int w.2])) ∧ (w.1 = 0 ∨ w.1 = nI 1 ∨ w.1 = nI 2)
def offO (h : Hp) (z a : Nat) (pk : Nat → Int32) : Prop := z ≤ a ∧ ∃ aa f, h.1 a = some (.inr (5, [.ref aa, .int (pk 7), .int (pk 8)])) ∧ z ≤ aa ∧ h.1 aa = some (.inl (0, (offOf pk).length, .inl f)) ∧ (offOf pk).length ≤ 4 ∧ pk 10 = nI (offOf pk).length ∧ ∀ k y, (offOf pk)[k]? = some y → f k = y ∧ y ≠ 0
def reqO (h : Hp) (z a : Nat) (pk : Nat → Int32) : Prop := z ≤ a ∧ pk 0 = nI 1 ∧ pk 3 = nI 1 ∧
  ((pk 2 = 0 ∧ pk 6 = 0 ∧ ∃ oa, h.1 a = some (.inr (7, [.int (pk 1), .int (pk 2), .int (pk 4), .int (pk 5), .null, .ref oa])) ∧ offO h z oa pk) ∨
  ((pk 2 = nI 1 ∨ pk 2 = nI 2) ∧ ∃ sb kd, h.1 a = some (.inr (7, [.int (pk 1), .int (pk 2), .int (pk 4), .int (pk 5), .ref sb, .null])) ∧ kidO h z sb kd ∧ pk 6 = kd 0 ∧ pk 7 = kd 3 ∧ pk 8 = kd 4 ∧ pk 9 = kd 2))
def ansW (h : Hp) (z a : Nat) (pk : Nat → Int32) : Prop := z ≤ a ∧ pk 0 = nI 0 ∧ pk 6 = 0 ∧ ∃ (b : Bool) (dv : Option Nat), pk 3 = bI (!b) ∧ h.1 a = some (.inr (1, [.int (pk 1), .int (pk 2), .int (pk 4), .int (pk 5), .int (bI b), va_rf dv])) ∧ (pk 2 = 0 → b = false → ∃ da, dv = some da ∧ dealO h z da (pk 9) (pk 7) (pk 8)) ∧ (pk 2 = nI 2 → b = false)
def pktO (h : Hp) (z a : Nat) (pk : Nat → Int32) : Prop := reqO h z a pk ∨ ansW h z a pk
def outO (h : Hp) (z : Nat) (o : Option Nat) (q : Option (Nat → Int32)) : Prop := (o = none ∧ q = none) ∨ ∃ a pk, o = some a ∧ q = some pk ∧ reqO h z a pk
def latO (h : Hp) (z : Nat) (o : Option Nat) (la : Nat → Int32) : Prop := o = none ∨ ∃ a, o = some a ∧ ansW h z a la
def SU (su : List Int32) (f : Nat → Int32) : Prop := su.length ≤ 4 ∧ ∀ k y, su[k]? = some y → f k = y ∧ y ≠ 0
def KP (z : Nat) (h h' : Hp) : Prop := ∀ a e, z ≤ a → h.1 a = some e → (∀ n f, e ≠ .inl (3, n, f)) → h'.1 a = some e
theorem KP.rf (z : Nat) (h : Hp) : KP z h h := fun _ _ _ h _ => h
theorem KP.trans {z : Nat} {h h1 h2 : Hp} (a : KP z h h1) (b : KP z h1 h2) : KP z h h2 := fun q e hq he hn => b q e hq (a q e hq he hn) hn
theorem dealO.kept {z a : Nat} {h h' : Hp} {s l g : Int32} (hK : KP z h h') (hd : dealO h z a s l g) : dealO h' z a s l g := ⟨hd.1, hK a _ hd.1 hd.2 (fun _ _ e => by cases e)⟩
theorem kidO.kept {z a : Nat} {h h' : Hp} {kd : Nat → Int32} (hK : KP z h h') (hd : kidO h z a kd) : kidO h' z a kd := by
  obtain ⟨h1, ⟨da, h2, h3⟩, h4⟩ := hd
  exact ⟨h1, ⟨da, hK a _ h1 h2 (fun _ _ e => by cases e), h3.kept hK⟩, h4⟩
theorem wishO.kept {z a : Nat} {h h' : Hp} {w : Int32 × Int32} (hK : KP z h h') (hd : wishO h z a w) : wishO h' z a w := ⟨hd.1, hK a _ hd.1 hd.2.1 (fun _ _ e => by cases e), hd.2.2⟩
theorem offO.kept {z a : Nat} {h h' : Hp} {pk : Nat → Int32} (hK : KP z h h') (hd : offO h z a pk) : offO h' z a pk := by
  obtain ⟨h1, aa, f, h2, h3, h4, h5⟩ := hd
  exact ⟨h1, aa, f, hK a _ h1 h2 (fun _ _ e => by cases e), h3, hK aa _ h3 h4 (fun _ _ e => by cases e), h5⟩
theorem reqO.kept {z a : Nat} {h h' : Hp} {pk : Nat → Int32} (hK : KP z h h') (hd : reqO h z a pk) : reqO h' z a pk := by
  obtain ⟨h1, h2, h3, hd⟩ := hd
  refine ⟨h1, h2, h3, ?_⟩
  rcases hd with ⟨h4, h5, oa, h6, h7⟩ | ⟨h4, sb, kd, h5, h6, h7⟩
  · exact Or.inl ⟨h4, h5, oa, hK a _ h1 h6 (fun _ _ e => by cases e), h7.kept hK⟩
  · exact Or.inr ⟨h4, sb, kd, hK a _ h1 h5 (fun _ _ e => by cases e), h6.kept hK, h7⟩
theorem ansW.kept {z a : Nat} {h h' : Hp} {pk : Nat → Int32} (hK : KP z h h') (hd : ansW h z a pk) : ansW h' z a pk := by
  obtain ⟨h1, h2, h3, b, dv, h4, h5, h6, h7⟩ := hd
  refine ⟨h1, h2, h3, b, dv, h4, hK a _ h1 h5 (fun _ _ e => by cases e), fun q1 q2 => ?_, h7⟩
  obtain ⟨da, e1, e2⟩ := h6 q1 q2
  exact ⟨da, e1, e2.kept hK⟩
theorem pktO.kept {z a : Nat} {h h' : Hp} {pk : Nat → Int32} (hK : KP z h h') (hd : pktO h z a pk) : pktO h' z a pk := hd.elim (fun q => Or.inl (q.kept hK)) (fun q => Or.inr (q.kept hK))
theorem outO.kept {z : Nat} {h h' : Hp} {o : Option Nat} {q : Option (Nat → Int32)} (hK : KP z h h') (hd : outO h z o q) : outO h' z o q := by
  rcases hd with hd | ⟨a, pk, h1, h2, h3⟩
  · exact Or.inl hd
  · exact Or.inr ⟨a, pk, h1, h2, h3.kept hK⟩
theorem latO.kept {z : Nat} {h h' : Hp} {o : Option Nat} {la : Nat → Int32} (hK : KP z h h') (hd : latO h z o la) : latO h' z o la := by
  rcases hd with hd | ⟨a, h1, h2⟩
  · exact Or.inl hd
  · exact Or.inr ⟨a, h1, h2.kept hK⟩
abbrev pcl (x p : Nat) (u : Ut) (ov lv : Nat → Option Nat) : Ee := .inr (6, [.int (nI p), .ref (aF x (1 - p)), .ref (aS x p), .int (nI (u.su p).length), .int (u.lo p), .int (u.hi p), .int (u.no p), .int (u.mk p), .ref (aL x 1 p), .ref (aL x 2 p), va_rf (ov p), .int (u.se p), .int (u.sp p), .int (u.wt p), .int (nI (u.nn p)), .int (nI (u.na p)), va_rf (lv p), .int (bI (u.de p))])
def RA (G : GT) (h : Hp) (x z : Nat) (u : Ut) (E : Nat → Nat → Nat) (X : Nat → Nat → List Nat) (ov lv : Nat → Option Nat) (sf : Nat → Nat → Int32) : Prop :=
  gb G ≤ x ∧ x + 12 < z ∧ z ≤ h.2.1 ∧ h.1 x = some (.inr (9, [.ref (aF x 0), .ref (aF x 1), .ref (aP x 0), .ref (aP x 1)])) ∧
  (∀ p, p < 2 → h.1 (aF x p) = some (.inr (4, [.ref (aL x 0 p)]))) ∧
  (∀ p, p < 2 → h.1 (aP x p) = some (pcl x p u ov lv)) ∧
  (∀ p, p < 2 → h.1 (aS x p) = some (.inl (0, 4, .inl (sf p)))) ∧
  (∀ c p, c < 3 → p < 2 → Lx G h (aL x c p) (E c p) (X c p) ∧ (E c p < gb G ∨ z ≤ E c p) ∧ ∀ c' p', c' < 3 → p' < 2 → (c ≠ c' ∨ p ≠ p') → E c p = E c' p' → E c p < gb G) ∧
  (∀ p, p < 2 → SU (u.su p) (sf p)) ∧ (∀ p, p < 2 → L2 (pktO h z) (X 0 p) (u.fl p)) ∧ (∀ p, p < 2 → L2 (kidO h z) (X 1 p) (u.ki p)) ∧ (∀ p, p < 2 → L2 (wishO h z) (X 2 p) (u.wi p)) ∧
  (∀ p, p < 2 → outO h z (ov p) (u.ou p)) ∧ (∀ p, p < 2 → latO h z (lv p) (u.la p))
section CLSX
variable {G : GT} {h h' : Hp} {x z : Nat} {u u' : Ut} {E : Nat → Nat → Nat} {X : Nat → Nat → List Nat} {ov lv ov' lv' : Nat → Option Nat} {sf sf' : Nat → Nat → Int32}
theorem RA.gx (hA : RA G h x z u E X ov lv sf) : gb G ≤ x := hA.1
theorem RA.xz (hA : RA G h x z u E X ov lv sf) : x + 12 < z := hA.2.1
theorem RA.zh (hA : RA G h x z u E X ov lv sf) : z ≤ h.2.1 := hA.2.2.1
theorem RA.ob (hA : RA G h x z u E X ov lv sf) : h.1 x = some (.inr (9, [.ref (aF x 0), .ref (aF x 1), .ref (aP x 0), .ref (aP x 1)])) := hA.2.2.2.1
theorem RA.f (hA : RA G h x z u E X ov lv sf) {p : Nat} (hp : p < 2) : h.1 (aF x p) = some (.inr (4, [.ref (aL x 0 p)])) := hA.2.2.2.2.1 p hp
theorem RA.pe (hA : RA G h x z u E X ov lv sf) {p : Nat} (hp : p < 2) : h.1 (aP x p) = some (pcl x p u ov lv) := hA.2.2.2.2.2.1 p hp
theorem RA.s (hA : RA G h x z u E X ov lv sf) {p : Nat} (hp : p < 2) : h.1 (aS x p) = some (.inl (0, 4, .inl (sf p))) := hA.2.2.2.2.2.2.1 p hp
theorem RA.l (hA : RA G h x z u E X ov lv sf) {c p : Nat} (hc : c < 3) (hp : p < 2) : Lx G h (aL x c p) (E c p) (X c p) := (hA.2.2.2.2.2.2.2.1 c p hc hp).1
theorem RA.e (hA : RA G h x z u E X ov lv sf) {c p : Nat} (hc : c < 3) (hp : p < 2) : E c p < gb G ∨ z ≤ E c p := (hA.2.2.2.2.2.2.2.1 c p hc hp).2.1
theorem RA.ne (hA : RA G h x z u E X ov lv sf) {c p c' p' : Nat} (hc : c < 3) (hp : p < 2) (hc' : c' < 3) (hp' : p' < 2) (hn : c ≠ c' ∨ p ≠ p') (he : E c p = E c' p') : E c p < gb G := (hA.2.2.2.2.2.2.2.1 c p hc hp).2.2 c' p' hc' hp' hn he
theorem RA.su (hA : RA G h x z u E X ov lv sf) {p : Nat} (hp : p < 2) : SU (u.su p) (sf p) := hA.2.2.2.2.2.2.2.2.1 p hp
theorem RA.fl (hA : RA G h x z u E X ov lv sf) {p : Nat} (hp : p < 2) : L2 (pktO h z) (X 0 p) (u.fl p) := hA.2.2.2.2.2.2.2.2.2.1 p hp
theorem RA.ki (hA : RA G h x z u E X ov lv sf) {p : Nat} (hp : p < 2) : L2 (kidO h z) (X 1 p) (u.ki p) := hA.2.2.2.2.2.2.2.2.2.2.1 p hp
theorem RA.wi (hA : RA G h x z u E X ov lv sf) {p : Nat} (hp : p < 2) : L2 (wishO h z) (X 2 p) (u.wi p) := hA.2.2.2.2.2.2.2.2.2.2.2.1 p hp
theorem RA.ou (hA : RA G h x z u E X ov lv sf) {p : Nat} (hp : p < 2) : outO h z (ov p) (u.ou p) := hA.2.2.2.2.2.2.2.2.2.2.2.2.1 p hp
theorem RA.la (hA : RA G h x z u E X ov lv sf) {p : Nat} (hp : p < 2) : latO h z (lv p) (u.la p) := hA.2.2.2.2.2.2.2.2.2.2.2.2.2 p hp
theorem RA.updA (hA : RA G h x z u E X ov lv sf) (h1 : ∀ a, a ≠ aP x 0 → a ≠ aP x 1 → a ≠ aS x 0 → a ≠ aS x 1 → h'.1 a = h.1 a) (h2 : h'.2 = h.2) (hp : ∀ p, p < 2 → h'.1 (aP x p) = some (pcl x p u' ov' lv')) (hs : ∀ p, p < 2 → h'.1 (aS x p) = some (.inl (0, 4, .inl (sf' p)))) (hsu : ∀ p, p < 2 → SU (u'.su p) (sf' p)) (hfl : u'.fl = u.fl) (hki : u'.ki = u.ki) (hwi : u'.wi = u.wi) (hou : ∀ p, p < 2 → outO h z (ov' p) (u'.ou p)) (hla : ∀ p, p < 2 → latO h z (lv' p) (u'.la p)) : RA G h' x z u' E X ov' lv' sf' := by
  have hgx := hA.gx
  have hxz := hA.xz
  have h1' : ∀ a, (a < x + 5 ∨ x + 12 < a) → h'.1 a = h.1 a := fun a ha => h1 a (by simp only [aP]; omega) (by simp only [aP]; omega) (by simp only [aS]; omega) (by simp only [aS]; omega)
  have hK : KP z h h' := fun a e ha he _ => (h1' a (by omega)).trans he
  refine ⟨hgx, hxz, by rw [h2]; exact hA.zh, (h1' x (by omega)).trans hA.ob, fun p hp2 => (h1' _ (by simp only [aF]; omega)).trans (hA.f hp2), hp, hs, fun c p hc hp2 => ⟨(hA.l hc hp2).kept (h1 _ ?_ ?_ ?_ ?_) ?_, hA.e hc hp2, fun c' p' hc' hp' hn he => hA.ne hc hp2 hc' hp' hn he⟩, hsu, fun p hp2 => ?_, fun p hp2 => ?_, fun p hp2 => ?_, fun p hp2 => (hou p hp2).kept hK, fun p hp2 => (hla p hp2).kept hK⟩
  · rcases (show c = 0 ∨ c = 1 ∨ c = 2 by omega) with rfl | rfl | rfl <;> simp only [aL, aP] <;> omega
  · rcases (show c = 0 ∨ c = 1 ∨ c = 2 by omega) with rfl | rfl | rfl <;> simp only [aL, aP] <;> omega
  · rcases (show c = 0 ∨ c = 1 ∨ c = 2 by omega) with rfl | rfl | rfl <;> simp only [aL, aS] <;> omega
  · rcases (show c = 0 ∨ c = 1 ∨ c = 2 by omega) with rfl | rfl | rfl <;> simp only [aL, aS] <;> omega
  · have := hA.e hc hp2
    exact h1' _ (by omega)
  · rw [hfl]
    exact (hA.fl hp2).mono (fun a b q => q.kept hK)
  · rw [hki]
    exact (hA.ki hp2).mono (fun a b q => q.kept hK)
  · rw [hwi]
    exact (hA.wi hp2).mono (fun a b q => q.kept hK)
def up2 {α : Type} (f : Nat → Nat → α) (c p : Nat) (v : α) : Nat → Nat → α := fun c' p' => if c' = c ∧ p' = p then v else f c' p'
theorem up2_self {α : Type} (f : Nat → Nat → α) (c p : Nat) (v : α) : up2 f c p v c p = v := if_pos ⟨rfl, rfl⟩
theorem up2_ne {α : Type} (f : Nat → Nat → α) {c p c' p' : Nat} (v : α) (h : c' ≠ c ∨ p' ≠ p) : up2 f c p v c' p' = f c' p' := if_neg (by omega)
theorem Lx.lt {lo ea : Nat} {xs : List Nat} (hL : Lx G h lo ea xs) (hwf : ∀ a e, h.1 a = some e → a < h.2.1) : lo < h.2.1 ∧ ea < h.2.1 ∧ lo ≠ ea := by
  obtain ⟨m, cap, f, h1, h2, -⟩ := hL
  exact ⟨hwf _ _ h1, hwf _ _ h2, fun e => by rw [e, h2] at h1; cases h1⟩
theorem Lx.e3 {lo ea : Nat} {xs : List Nat} (hL : Lx G h lo ea xs) : ∃ n f, h.1 ea = some (.inl (3, n, f)) := by
  obtain ⟨m, cap, f, h1, h2, -⟩ := hL
  exact ⟨_, _, h2⟩
theorem aL_ne {x c p c' p' : Nat} (hc : c < 3) (hp : p < 2) (hc' : c' < 3) (hp' : p' < 2) (hn : c' ≠ c ∨ p' ≠ p) : aL x c' p' ≠ aL x c p := by
  rcases (show c = 0 ∨ c = 1 ∨ c = 2 by omega) with rfl | rfl | rfl <;> rcases (show c' = 0 ∨ c' = 1 ∨ c' = 2 by omega) with rfl | rfl | rfl <;> simp only [aL] <;> omega
theorem aL_in {x c p : Nat} (hc : c < 3) (hp : p < 2) : x + 2 ≤ aL x c p ∧ aL x c p ≤ x + 12 ∧ (∀ q, q < 2 → aL x c p ≠ aF x q ∧ aL x c p ≠ aP x q ∧ aL x c p ≠ aS x q) := by
  rcases (show c = 0 ∨ c = 1 ∨ c = 2 by omega) with rfl | rfl | rfl
  · refine ⟨by simp only [aL]; omega, by simp only [aL]; omega, fun q hq => ⟨by simp only [aL, aF]; omega, by simp only [aL, aP]; omega, by simp only [aL, aS]; omega⟩⟩
  · refine ⟨by simp only [aL]; omega, by simp only [aL]; omega, fun q hq => ⟨by simp only [aL, aF]; omega, by simp only [aL, aP]; omega, by simp only [aL, aS]; omega⟩⟩
  · refine ⟨by simp only [aL]; omega, by simp only [aL]; omega, fun q hq => ⟨by simp only [aL, aF]; omega, by simp only [aL, aP]; omega, by simp only [aL, aS]; omega⟩⟩
theorem RA.lst (hA : RA G h x z u E X ov lv sf) (hwf : ∀ a e, h.1 a = some e → a < h.2.1) {c p ea' : Nat} {xs' : List Nat} (hc : c < 3) (hp : p < 2) (hL : Lx G h' (aL x c p) ea' xs') (hfr : ∀ a, a < h.2.1 → a ≠ aL x c p → (a ≠ E c p ∨ a < gb G) → h'.1 a = h.1 a) (hea : ea' = E c p ∨ ea' = h.2.1) (hsz : h.2.1 ≤ h'.2.1) (hsc : ∀ q, q < 2 → pcl x q u' ov lv = pcl x q u ov lv) (hsu : u'.su = u.su) (hou : u'.ou = u.ou) (hla : u'.la = u.la)
    (hf : ∀ q, q < 2 → L2 (pktO h' z) (up2 X c p xs' 0 q) (u'.fl q)) (hk : ∀ q, q < 2 → L2 (kidO h' z) (up2 X c p xs' 1 q) (u'.ki q)) (hw : ∀ q, q < 2 → L2 (wishO h' z) (up2 X c p xs' 2 q) (u'.wi q)) (hK : KP z h h') : RA G h' x z u' (up2 E c p ea') (up2 X c p xs') ov lv sf := by
  have hgx := hA.gx
  have hxz := hA.xz
  have hzh := hA.zh
  have hi := aL_in (x := x) hc hp
  have hE := hA.e hc hp
  have hb : ∀ a, x ≤ a → a ≤ x + 12 → a ≠ aL x c p → h'.1 a = h.1 a := fun a h1 h2 h3 => hfr a (by omega) h3 (by omega)
  refine ⟨hgx, hxz, by omega, (hb x (by omega) (by omega) (by omega)).trans hA.ob, fun q hq => ?_, fun q hq => ?_, fun q hq => ?_, fun c1 p1 hc1 hp1 => ?_, fun q hq => by rw [hsu]; exact hA.su hq, hf, hk, hw, fun q hq => by rw [hou]; exact (hA.ou hq).kept hK, fun q hq => by rw [hla]; exact (hA.la hq).kept hK⟩
  · rw [hb _ (by simp only [aF]; omega) (by simp only [aF]; omega) (hi.2.2 q hq).1.symm]
    exact hA.f hq
  · rw [hb _ (by simp only [aP]; omega) (by simp only [aP]; omega) (hi.2.2 q hq).2.1.symm, hsc q hq]
    exact hA.pe hq
  · rw [hb _ (by simp only [aS]; omega) (by simp only [aS]; omega) (hi.2.2 q hq).2.2.symm]
    exact hA.s hq
  · by_cases hn : c1 = c ∧ p1 = p
    · obtain ⟨rfl, rfl⟩ := hn
      rw [up2_self, up2_self]
      refine ⟨hL, by omega, fun c2 p2 hc2 hp2 hne he => ?_⟩
      rw [up2_ne _ _ (by omega)] at he
      rcases hea with e | e
      · rw [e] at he ⊢
        exact hA.ne hc1 hp1 hc2 hp2 hne he
      · have := ((hA.l hc2 hp2).lt hwf).2.1
        omega
    · have hn' : c1 ≠ c ∨ p1 ≠ p := by omega
      rw [up2_ne _ _ hn', up2_ne _ _ hn']
      have hl := hA.l hc1 hp1
      have hlt := hl.lt hwf
      have hE1 := hA.e hc1 hp1
      refine ⟨hl.kept (hb _ ?_ ?_ (aL_ne hc hp hc1 hp1 hn')) (hfr _ hlt.2.1 (by omega) ?_), hE1, fun c2 p2 hc2 hp2 hne he => ?_⟩
      · have := (aL_in (x := x) hc1 hp1).1
        omega
      · exact (aL_in (x := x) hc1 hp1).2.1
      · by_cases e : E c1 p1 = E c p
        · exact Or.inr (hA.ne hc1 hp1 hc hp hn' e)
        · exact Or.inl e
      · by_cases hn2 : c2 = c ∧ p2 = p
        · obtain ⟨rfl, rfl⟩ := hn2
          rw [up2_self] at he
          rcases hea with e | e
          · rw [e] at he
            exact hA.ne hc1 hp1 hc hp hn' he
          · omega
        · rw [up2_ne _ _ (by omega)] at he
          exact hA.ne hc1 hp1 hc2 hp2 hne he
end CLSX
