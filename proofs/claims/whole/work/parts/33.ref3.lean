def rDrop (F : Nat → Nat → Int32) (p k c : Nat) : Nat → Nat → Int32 := fun a b => if a = 8 ∧ 8 * (17 * p + k) ≤ b ∧ b < 8 * (17 * p + c) then F 8 (b + 8) else if a = 7 ∧ b = p then nI c else F a b
def rWish (F : Nat → Nat → Int32) (p c : Nat) (x y : Int32) : Nat → Nat → Int32 := u2 (u2 (u2 F 10 (16 * p + c) x) 11 (16 * p + c) y) 9 p (nI (c + 1))
def rBlank (F : Nat → Nat → Int32) (r n k : Int32) : Nat → Nat → Int32 := fun a b => if a = 23 ∧ b < 16 then (if b = 0 then r else if b = 1 then n else if b = 2 then k else if b = 3 then 1 else 0) else F a b
def rFly (F : Nat → Nat → Int32) (p c : Nat) : Nat → Nat → Int32 := fun a b => if a = 22 ∧ 16 * (32 * p + c) ≤ b ∧ b < 16 * (32 * p + c) + 16 then F 23 (b - 16 * (32 * p + c)) else if a = 21 ∧ b = p then nI (c + 1) else F a b
def rLand (F : Nat → Nat → Int32) (p k c : Nat) : Nat → Nat → Int32 := fun a b => if a = 22 ∧ 16 * (32 * p + k) ≤ b ∧ b < 16 * (32 * p + c) then F 22 (b + 16) else if a = 21 ∧ b = p then nI c else if a = 23 ∧ b < 16 then F 22 (16 * (32 * p + k) + b) else F a b
section REF3X
variable {G : GT} {d : Nat} {Q : Outcome → Hp → Prop} {h : Hp} {m : Nat} {t : Int32} {F : Nat → Nat → Int32}
theorem m_dropKid_loop {p k c : Nat} {F0 : Nat → Nat → Int32} {h0 : Hp} (hp : p < 2) (hk : k ≤ c) (hc : c ≤ 16) (hc0 : F0 7 p = nI c) (hq : ∀ h', RM G h' m t (fun a b => if a = 8 ∧ 8 * (17 * p + k) ≤ b ∧ b < 8 * (17 * p + c) then F0 8 (b + 8) else F0 a b) → FrM m h0 h' → Q (.returned none) h') : ∀ (n i : Nat) (h : Hp), i + n = 8 * (17 * p + c) → 8 * (17 * p + k) ≤ i → RM G h m t (fun a b => if a = 8 ∧ 8 * (17 * p + k) ≤ b ∧ b < i then F0 8 (b + 8) else F0 a b) → FrM m h0 h → Jx G mX10_dropKid d Q 25 [some (.ref m), some (.int (nI p)), some (.int (nI k)), some (.int (nI i))] [] h := by
  intro n
  induction n with
  | zero =>
    intro i h hi hik hR hF
    refine x_iload_n dX10_dropKid_25 rfl ?_
    refine x_bipush (v := nI 8) dX10_dropKid_26 (by decide) ?_
    refine x_bipush (v := nI 17) dX10_dropKid_28 (by decide) ?_
    refine x_iload_n dX10_dropKid_30 rfl ?_
    refine x_imul dX10_dropKid_31 ?_
    try simp only [pk_mul, nI_add]
    refine x_aload_n dX10_dropKid_32 rfl rfl ?_
    refine gf_X10_28_10 rfl dX10_dropKid_33 hR.o ?_
    refine x_iload_n dX10_dropKid_36 rfl ?_
    refine ld_M hR dX10_dropKid_37 rfl (by decide) rfl (by first | (show _ < 2; omega) | (show _ < 16; omega) | (show _ < 32; omega) | (show _ < 8; omega) | (show _ < 272; omega) | (show _ < 1024; omega)) ?_
    simp only [show ¬ ((7 : Nat) = 8) by decide, false_and, if_false]
    rw [hc0]
    refine x_iadd dX10_dropKid_38 ?_
    try simp only [pk_mul, nI_add]
    refine x_imul dX10_dropKid_39 ?_
    try simp only [pk_mul, nI_add]
    refine x_icmp_ge (tgt := 64) dX10_dropKid_40 (by decide) (fun c1 => ?_) (fun c1 => ?_)
    · refine x_vreturn dX10_dropKid_64 rfl ?_
      have : i = 8 * (17 * p + c) := by omega
      subst this
      exact hq _ hR hF
    · exact absurd (nI_le (by omega) (by omega)) c1
  | succ n ih =>
    intro i h hi hik hR hF
    refine x_iload_n dX10_dropKid_25 rfl ?_
    refine x_bipush (v := nI 8) dX10_dropKid_26 (by decide) ?_
    refine x_bipush (v := nI 17) dX10_dropKid_28 (by decide) ?_
    refine x_iload_n dX10_dropKid_30 rfl ?_
    refine x_imul dX10_dropKid_31 ?_
    try simp only [pk_mul, nI_add]
    refine x_aload_n dX10_dropKid_32 rfl rfl ?_
    refine gf_X10_28_10 rfl dX10_dropKid_33 hR.o ?_
    refine x_iload_n dX10_dropKid_36 rfl ?_
    refine ld_M hR dX10_dropKid_37 rfl (by decide) rfl (by first | (show _ < 2; omega) | (show _ < 16; omega) | (show _ < 32; omega) | (show _ < 8; omega) | (show _ < 272; omega) | (show _ < 1024; omega)) ?_
    simp only [show ¬ ((7 : Nat) = 8) by decide, false_and, if_false]
    rw [hc0]
    refine x_iadd dX10_dropKid_38 ?_
    try simp only [pk_mul, nI_add]
    refine x_imul dX10_dropKid_39 ?_
    try simp only [pk_mul, nI_add]
    refine x_icmp_ge (tgt := 64) dX10_dropKid_40 (by decide) (fun c1 => ?_) (fun c1 => ?_)
    · exact absurd ((nI_leI (by omega) (by omega)).mp c1) (by omega)
    refine x_aload_n dX10_dropKid_43 rfl rfl ?_
    refine gf_X10_31_10 rfl dX10_dropKid_44 hR.o ?_
    refine x_iload_n dX10_dropKid_47 rfl ?_
    refine x_aload_n dX10_dropKid_48 rfl rfl ?_
    refine gf_X10_31_10 rfl dX10_dropKid_49 hR.o ?_
    refine x_iload_n dX10_dropKid_52 rfl ?_
    refine x_bipush (v := nI 8) dX10_dropKid_53 (by decide) ?_
    refine x_iadd dX10_dropKid_55 ?_
    try simp only [pk_mul, nI_add]
    refine ld_M hR dX10_dropKid_56 rfl (by decide) rfl (by first | (show _ < 2; omega) | (show _ < 16; omega) | (show _ < 32; omega) | (show _ < 8; omega) | (show _ < 272; omega) | (show _ < 1024; omega)) ?_
    refine st_M hR dX10_dropKid_57 rfl (by decide) rfl (by first | (show _ < 2; omega) | (show _ < 16; omega) | (show _ < 32; omega) | (show _ < 8; omega) | (show _ < 272; omega) | (show _ < 1024; omega)) (fun _ hR hF1 => ?_)
    replace hF := hF.trans hF1
    refine y_iinc (k := nI 1) dX10_dropKid_58 rfl (by decide) lvs_4_3 ?_
    try simp only [pk_mul, nI_add]
    refine x_goto (tgt := 25) dX10_dropKid_61 (by decide) ?_
    refine ih (i + 1) _ (by omega) (by omega) (hR.ext fun a b => ?_) hF
    rw [u2_at]
    by_cases h8 : a = 8
    · subst h8
      by_cases hb : b = i
      · subst hb
        rw [if_pos ⟨rfl, rfl⟩, if_neg (by omega), if_pos ⟨rfl, by omega, by omega⟩]
      · rw [if_neg (fun q => hb q.2)]
        by_cases hb2 : 8 * (17 * p + k) ≤ b ∧ b < i
        · rw [if_pos ⟨rfl, hb2⟩, if_pos ⟨rfl, by omega, by omega⟩]
        · rw [if_neg (by omega), if_neg (by omega)]
    · rw [if_neg (fun q => h8 q.1), if_neg (fun q => h8 q.1), if_neg (fun q => h8 q.1)]
theorem m_dropKid {p k c : Nat} (hR : RM G h m t F) (hp : p < 2) (hk : k ≤ c) (hc : F 7 p = nI (c + 1)) (hc16 : c < 16) (hq : ∀ h', RM G h' m t (rDrop F p k c) → FrM m h h' → Q (.returned none) h') : Cx G mX10_dropKid d [.ref m, .int (nI p), .int (nI k)] h Q := by
  show Jx G mX10_dropKid d Q 0 [some (.ref m), some (.int (nI p)), some (.int (nI k)), none] [] h
  have hF := FrM.rf m h
  refine x_iload_n dX10_dropKid_0 rfl ?_
  refine x_if_ge (tgt := 5) dX10_dropKid_1 (by decide) (fun c1 => ?_) (fun c1 => ?_)
  · refine x_aload_n dX10_dropKid_5 rfl rfl ?_
    refine gf_X10_28_10 rfl dX10_dropKid_6 hR.o ?_
    refine x_iload_n dX10_dropKid_9 rfl ?_
    refine x_dup2 dX10_dropKid_10 rfl rfl ?_
    refine ld_M hR dX10_dropKid_11 rfl (by decide) rfl (by first | (show _ < 2; omega) | (show _ < 16; omega) | (show _ < 32; omega) | (show _ < 8; omega) | (show _ < 272; omega) | (show _ < 1024; omega)) ?_
    rw [hc]
    refine x_iconst (v := nI 1) dX10_dropKid_12 (by decide) ?_
    refine x_isub dX10_dropKid_13 ?_
    rw [show nI (c + 1) - nI 1 = nI c by rw [pk_sub (by omega)]; rfl]
    refine st_M hR dX10_dropKid_14 rfl (by decide) rfl (by first | (show _ < 2; omega) | (show _ < 16; omega) | (show _ < 32; omega) | (show _ < 8; omega) | (show _ < 272; omega) | (show _ < 1024; omega)) (fun _ hR hF1 => ?_)
    replace hF := hF.trans hF1
    refine x_bipush (v := nI 8) dX10_dropKid_15 (by decide) ?_
    refine x_bipush (v := nI 17) dX10_dropKid_17 (by decide) ?_
    refine x_iload_n dX10_dropKid_19 rfl ?_
    refine x_imul dX10_dropKid_20 ?_
    try simp only [pk_mul, nI_add]
    refine x_iload_n dX10_dropKid_21 rfl ?_
    refine x_iadd dX10_dropKid_22 ?_
    try simp only [pk_mul, nI_add]
    refine x_imul dX10_dropKid_23 ?_
    try simp only [pk_mul, nI_add]
    refine y_istore_n dX10_dropKid_24 rfl lvs_4_3 ?_
    refine m_dropKid_loop (F0 := u2 F 7 p (nI c)) (h0 := h) hp hk (by omega) (u2_same _ _ _ _) (fun h' hR hF => hq h' (hR.ext fun a b => ?_) hF) (8 * (17 * p + c) - 8 * (17 * p + k)) (8 * (17 * p + k)) _ (by omega) (Nat.le_refl _) (hR.ext fun a b => ?_) hF
    · simp only [u2_at, rDrop]
      by_cases h8 : a = 8
      · subst h8
        simp
      · simp [h8]
    · rw [if_neg (by omega)]
  · exact absurd (nI_pos' (by omega)) c1
theorem m_dropNone {p : Nat} (hR : RM G h m t F) (hq : Q (.returned none) h) : Cx G mX10_dropKid d [.ref m, .int (nI p), .int (-1)] h Q := by
  show Jx G mX10_dropKid d Q 0 [some (.ref m), some (.int (nI p)), some (.int (-1)), none] [] h
  refine x_iload_n dX10_dropKid_0 rfl ?_
  refine x_if_ge (tgt := 5) dX10_dropKid_1 (by decide) (fun c1 => ?_) (fun c1 => ?_)
  · exact absurd c1 (by decide)
  · refine x_vreturn dX10_dropKid_4 rfl ?_
    exact hq
theorem m_addWish {p c : Nat} {x y : Int32} (hR : RM G h m t F) (hp : p < 2) (hc : F 9 p = nI c) (hc16 : c < 16) (hq : ∀ h', RM G h' m t (rWish F p c x y) → FrM m h h' → Q (.returned none) h') : Cx G mX10_addWish d [.ref m, .int (nI p), .int x, .int y] h Q := by
  show Jx G mX10_addWish d Q 0 [some (.ref m), some (.int (nI p)), some (.int x), some (.int y)] [] h
  have hF := FrM.rf m h
  refine x_aload_n dX10_addWish_0 rfl rfl ?_
  refine gf_X10_37_10 rfl dX10_addWish_1 hR.o ?_
  refine x_bipush (v := nI 16) dX10_addWish_4 (by decide) ?_
  refine x_iload_n dX10_addWish_6 rfl ?_
  refine x_imul dX10_addWish_7 ?_
  try simp only [pk_mul, nI_add]
  refine x_aload_n dX10_addWish_8 rfl rfl ?_
  refine gf_X10_34_10 rfl dX10_addWish_9 hR.o ?_
  refine x_iload_n dX10_addWish_12 rfl ?_
  refine ld_M hR dX10_addWish_13 rfl (by decide) rfl (by first | (show _ < 2; omega) | (show _ < 16; omega) | (show _ < 32; omega) | (show _ < 8; omega) | (show _ < 272; omega) | (show _ < 1024; omega)) ?_
  rw [hc]
  refine x_iadd dX10_addWish_14 ?_
  try simp only [pk_mul, nI_add]
  refine x_iload_n dX10_addWish_15 rfl ?_
  refine st_M hR dX10_addWish_16 rfl (by decide) rfl (by first | (show _ < 2; omega) | (show _ < 16; omega) | (show _ < 32; omega) | (show _ < 8; omega) | (show _ < 272; omega) | (show _ < 1024; omega)) (fun _ hR hF1 => ?_)
  replace hF := hF.trans hF1
  refine x_aload_n dX10_addWish_17 rfl rfl ?_
  refine gf_X10_40_10 rfl dX10_addWish_18 hR.o ?_
  refine x_bipush (v := nI 16) dX10_addWish_21 (by decide) ?_
  refine x_iload_n dX10_addWish_23 rfl ?_
  refine x_imul dX10_addWish_24 ?_
  try simp only [pk_mul, nI_add]
  refine x_aload_n dX10_addWish_25 rfl rfl ?_
  refine gf_X10_34_10 rfl dX10_addWish_26 hR.o ?_
  refine x_iload_n dX10_addWish_29 rfl ?_
  refine ld_M hR dX10_addWish_30 rfl (by decide) rfl (by first | (show _ < 2; omega) | (show _ < 16; omega) | (show _ < 32; omega) | (show _ < 8; omega) | (show _ < 272; omega) | (show _ < 1024; omega)) ?_
  rw [u2_row _ _ _ _ (by decide), hc]
  refine x_iadd dX10_addWish_31 ?_
  try simp only [pk_mul, nI_add]
  refine x_iload_n dX10_addWish_32 rfl ?_
  refine st_M hR dX10_addWish_33 rfl (by decide) rfl (by first | (show _ < 2; omega) | (show _ < 16; omega) | (show _ < 32; omega) | (show _ < 8; omega) | (show _ < 272; omega) | (show _ < 1024; omega)) (fun _ hR hF1 => ?_)
  replace hF := hF.trans hF1
  refine x_aload_n dX10_addWish_34 rfl rfl ?_
  refine gf_X10_34_10 rfl dX10_addWish_35 hR.o ?_
  refine x_iload_n dX10_addWish_38 rfl ?_
  refine x_dup2 dX10_addWish_39 rfl rfl ?_
  refine ld_M hR dX10_addWish_40 rfl (by decide) rfl (by first | (show _ < 2; omega) | (show _ < 16; omega) | (show _ < 32; omega) | (show _ < 8; omega) | (show _ < 272; omega) | (show _ < 1024; omega)) ?_
  rw [u2_row _ _ _ _ (by decide), u2_row _ _ _ _ (by decide), hc]
  refine x_iconst (v := nI 1) dX10_addWish_41 (by decide) ?_
  refine x_iadd dX10_addWish_42 ?_
  try simp only [pk_mul, nI_add]
  refine st_M hR dX10_addWish_43 rfl (by decide) rfl (by first | (show _ < 2; omega) | (show _ < 16; omega) | (show _ < 32; omega) | (show _ < 8; omega) | (show _ < 272; omega) | (show _ < 1024; omega)) (fun _ hR hF1 => ?_)
  replace hF := hF.trans hF1
  refine x_vreturn dX10_addWish_44 rfl ?_
  exact hq _ hR hF
theorem m_blank_loop {r n k : Int32} {F0 : Nat → Nat → Int32} {h0 : Hp} (hq : ∀ h', RM G h' m t (rBlank F0 r n k) → FrM m h0 h' → Q (.returned none) h') : ∀ (q i : Nat) (h : Hp), i + q = 16 → RM G h m t (fun a b => if a = 23 ∧ b < i then 0 else F0 a b) → FrM m h0 h → Jx G mX10_blank d Q 3 [some (.ref m), some (.int r), some (.int n), some (.int k), some (.int (nI i))] [] h := by
  intro q
  induction q with
  | zero =>
    intro i h hi hR hF
    refine x_iload dX10_blank_3 rfl ?_
    refine x_bipush (v := nI 16) dX10_blank_5 (by decide) ?_
    refine x_icmp_ge (tgt := 24) dX10_blank_7 (by decide) (fun c1 => ?_) (fun c1 => ?_)
    · refine x_aload_n dX10_blank_24 rfl rfl ?_
      refine gf_X10_77_10 rfl dX10_blank_25 hR.o ?_
      refine x_iconst (v := nI 0) dX10_blank_28 (by decide) ?_
      refine x_iload_n dX10_blank_29 rfl ?_
      refine st_M hR dX10_blank_30 rfl (by decide) rfl (by first | (show _ < 2; omega) | (show _ < 16; omega) | (show _ < 32; omega) | (show _ < 8; omega) | (show _ < 272; omega) | (show _ < 1024; omega)) (fun _ hR hF1 => ?_)
      replace hF := hF.trans hF1
      refine x_aload_n dX10_blank_31 rfl rfl ?_
      refine gf_X10_77_10 rfl dX10_blank_32 hR.o ?_
      refine x_iconst (v := nI 1) dX10_blank_35 (by decide) ?_
      refine x_iload_n dX10_blank_36 rfl ?_
      refine st_M hR dX10_blank_37 rfl (by decide) rfl (by first | (show _ < 2; omega) | (show _ < 16; omega) | (show _ < 32; omega) | (show _ < 8; omega) | (show _ < 272; omega) | (show _ < 1024; omega)) (fun _ hR hF1 => ?_)
      replace hF := hF.trans hF1
      refine x_aload_n dX10_blank_38 rfl rfl ?_
      refine gf_X10_77_10 rfl dX10_blank_39 hR.o ?_
      refine x_iconst (v := nI 2) dX10_blank_42 (by decide) ?_
      refine x_iload_n dX10_blank_43 rfl ?_
      refine st_M hR dX10_blank_44 rfl (by decide) rfl (by first | (show _ < 2; omega) | (show _ < 16; omega) | (show _ < 32; omega) | (show _ < 8; omega) | (show _ < 272; omega) | (show _ < 1024; omega)) (fun _ hR hF1 => ?_)
      replace hF := hF.trans hF1
      refine x_aload_n dX10_blank_45 rfl rfl ?_
      refine gf_X10_77_10 rfl dX10_blank_46 hR.o ?_
      refine x_iconst (v := nI 3) dX10_blank_49 (by decide) ?_
      refine x_iconst (v := nI 1) dX10_blank_50 (by decide) ?_
      refine st_M hR dX10_blank_51 rfl (by decide) rfl (by first | (show _ < 2; omega) | (show _ < 16; omega) | (show _ < 32; omega) | (show _ < 8; omega) | (show _ < 272; omega) | (show _ < 1024; omega)) (fun _ hR hF1 => ?_)
      replace hF := hF.trans hF1
      refine x_vreturn dX10_blank_52 rfl ?_
      refine hq _ (hR.ext fun a b => ?_) hF
      have : i = 16 := by omega
      subst this
      simp only [u2_at, rBlank]
      by_cases h23 : a = 23
      · subst h23
        by_cases hb : b < 16
        · rcases (show b = 0 ∨ b = 1 ∨ b = 2 ∨ b = 3 ∨ 4 ≤ b by omega) with rfl | rfl | rfl | rfl | h4
          · simp
          · simp
          · simp
          · simp
            rfl
          · simp [hb, show b ≠ 0 by omega, show b ≠ 1 by omega, show b ≠ 2 by omega, show b ≠ 3 by omega]
        · simp [hb, show b ≠ 0 by omega, show b ≠ 1 by omega, show b ≠ 2 by omega, show b ≠ 3 by omega]
      · simp [h23]
    · exact absurd (nI_le (by omega) (by omega)) c1
  | succ q ih =>
    intro i h hi hR hF
    refine x_iload dX10_blank_3 rfl ?_
    refine x_bipush (v := nI 16) dX10_blank_5 (by decide) ?_
    refine x_icmp_ge (tgt := 24) dX10_blank_7 (by decide) (fun c1 => ?_) (fun c1 => ?_)
    · exact absurd ((nI_leI (by omega) (by omega)).mp c1) (by omega)
    refine x_aload_n dX10_blank_10 rfl rfl ?_
    refine gf_X10_77_10 rfl dX10_blank_11 hR.o ?_
    refine x_iload dX10_blank_14 rfl ?_
    refine x_iconst (v := nI 0) dX10_blank_16 (by decide) ?_
    refine st_M hR dX10_blank_17 rfl (by decide) rfl (by first | (show _ < 2; omega) | (show _ < 16; omega) | (show _ < 32; omega) | (show _ < 8; omega) | (show _ < 272; omega) | (show _ < 1024; omega)) (fun _ hR hF1 => ?_)
    replace hF := hF.trans hF1
    refine y_iinc (k := nI 1) dX10_blank_18 rfl (by decide) lvs_5_4 ?_
    try simp only [pk_mul, nI_add]
    refine x_goto (tgt := 3) dX10_blank_21 (by decide) ?_
    refine ih (i + 1) _ (by omega) (hR.ext fun a b => ?_) hF
    rw [u2_at]
    by_cases h23 : a = 23
    · subst h23
      by_cases hb : b = i
      · subst hb
        simp
        rfl
      · by_cases hb2 : b < i
        · simp [hb, hb2, show b < i + 1 by omega]
        · simp [hb, hb2, show ¬ b < i + 1 by omega]
    · simp [h23]
theorem m_blank {r n k : Int32} (hR : RM G h m t F) (hq : ∀ h', RM G h' m t (rBlank F r n k) → FrM m h h' → Q (.returned none) h') : Cx G mX10_blank d [.ref m, .int r, .int n, .int k] h Q := by
  show Jx G mX10_blank d Q 0 [some (.ref m), some (.int r), some (.int n), some (.int k), none] [] h
  refine x_iconst (v := nI 0) dX10_blank_0 (by decide) ?_
  refine y_istore dX10_blank_1 rfl lvs_5_4 ?_
  exact m_blank_loop (F0 := F) hq 16 0 h (by omega) (hR.ext fun a b => by simp) (FrM.rf m h)
theorem m_fly_loop {p c : Nat} {F0 : Nat → Nat → Int32} {h0 : Hp} (hp : p < 2) (hc : F0 21 p = nI c) (hc30 : c < 30) (hq : ∀ h', RM G h' m t (rFly F0 p c) → FrM m h0 h' → Q (.returned none) h') : ∀ (q i : Nat) (h : Hp), i + q = 16 → RM G h m t (fun a b => if a = 22 ∧ 16 * (32 * p + c) ≤ b ∧ b < 16 * (32 * p + c) + i then F0 23 (b - 16 * (32 * p + c)) else F0 a b) → FrM m h0 h → Jx G mX10_fly (d + 1) Q 14 [some (.ref m), some (.int (nI p)), some (.int (nI i))] [] h := by
  intro q
  induction q with
  | zero =>
    intro i h hi hR hF
    refine x_iload_n dX10_fly_14 rfl ?_
    refine x_bipush (v := nI 16) dX10_fly_15 (by decide) ?_
    refine x_icmp_ge (tgt := 50) dX10_fly_17 (by decide) (fun c1 => ?_) (fun c1 => ?_)
    · refine x_aload_n dX10_fly_50 rfl rfl ?_
      refine gf_X10_71_10 rfl dX10_fly_51 hR.o ?_
      refine x_iload_n dX10_fly_54 rfl ?_
      refine x_dup2 dX10_fly_55 rfl rfl ?_
      refine ld_M hR dX10_fly_56 rfl (by decide) rfl (by first | (show _ < 2; omega) | (show _ < 16; omega) | (show _ < 32; omega) | (show _ < 8; omega) | (show _ < 272; omega) | (show _ < 1024; omega)) ?_
      rw [if_neg (by omega), hc]
      refine x_iconst (v := nI 1) dX10_fly_57 (by decide) ?_
      refine x_iadd dX10_fly_58 ?_
      try simp only [pk_mul, nI_add]
      refine st_M hR dX10_fly_59 rfl (by decide) rfl (by first | (show _ < 2; omega) | (show _ < 16; omega) | (show _ < 32; omega) | (show _ < 8; omega) | (show _ < 272; omega) | (show _ < 1024; omega)) (fun _ hR hF1 => ?_)
      replace hF := hF.trans hF1
      refine x_vreturn dX10_fly_60 rfl ?_
      refine hq _ (hR.ext fun a b => ?_) hF
      have : i = 16 := by omega
      subst this
      simp only [u2_at, rFly]
      by_cases h21 : a = 21
      · subst h21
        simp
      · simp [h21]
    · exact absurd (nI_le (by omega) (by omega)) c1
  | succ q ih =>
    intro i h hi hR hF
    refine x_iload_n dX10_fly_14 rfl ?_
    refine x_bipush (v := nI 16) dX10_fly_15 (by decide) ?_
    refine x_icmp_ge (tgt := 50) dX10_fly_17 (by decide) (fun c1 => ?_) (fun c1 => ?_)
    · exact absurd ((nI_leI (by omega) (by omega)).mp c1) (by omega)
    refine x_aload_n dX10_fly_20 rfl rfl ?_
    refine gf_X10_74_10 rfl dX10_fly_21 hR.o ?_
    refine x_aload_n dX10_fly_24 rfl rfl ?_
    refine x_iload_n dX10_fly_25 rfl ?_
    refine x_aload_n dX10_fly_26 rfl rfl ?_
    refine gf_X10_71_10 rfl dX10_fly_27 hR.o ?_
    refine x_iload_n dX10_fly_30 rfl ?_
    refine ld_M hR dX10_fly_31 rfl (by decide) rfl (by first | (show _ < 2; omega) | (show _ < 16; omega) | (show _ < 32; omega) | (show _ < 8; omega) | (show _ < 272; omega) | (show _ < 1024; omega)) ?_
    rw [if_neg (by omega), hc]
    refine x_callV dX10_fly_32 sv_X10_125_10 rfl hR.o rfl (Nat.le_of_ble_eq_true rfl) rfl ?_
    refine m_place (kc_v dr_3 ?_)
    refine x_iload_n dX10_fly_35 rfl ?_
    refine x_iadd dX10_fly_36 ?_
    try simp only [pk_mul, nI_add]
    refine x_aload_n dX10_fly_37 rfl rfl ?_
    refine gf_X10_77_10 rfl dX10_fly_38 hR.o ?_
    refine x_iload_n dX10_fly_41 rfl ?_
    refine ld_M hR dX10_fly_42 rfl (by decide) rfl (by first | (show _ < 2; omega) | (show _ < 16; omega) | (show _ < 32; omega) | (show _ < 8; omega) | (show _ < 272; omega) | (show _ < 1024; omega)) ?_
    refine st_M hR dX10_fly_43 rfl (by decide) rfl (by first | (show _ < 2; omega) | (show _ < 16; omega) | (show _ < 32; omega) | (show _ < 8; omega) | (show _ < 272; omega) | (show _ < 1024; omega)) (fun _ hR hF1 => ?_)
    replace hF := hF.trans hF1
    refine y_iinc (k := nI 1) dX10_fly_44 rfl (by decide) lvs_3_2 ?_
    try simp only [pk_mul, nI_add]
    refine x_goto (tgt := 14) dX10_fly_47 (by decide) ?_
    refine ih (i + 1) _ (by omega) (hR.ext fun a b => ?_) hF
    rw [u2_at]
    by_cases h22 : a = 22
    · subst h22
      by_cases hb : b = 16 * (32 * p + c) + i
      · subst hb
        rw [if_pos ⟨rfl, rfl⟩, if_neg (by omega), if_pos ⟨rfl, by omega, by omega⟩, Nat.add_sub_cancel_left]
      · rw [if_neg (fun q => hb q.2)]
        by_cases hb2 : 16 * (32 * p + c) ≤ b ∧ b < 16 * (32 * p + c) + i
        · rw [if_pos ⟨rfl, hb2⟩, if_pos ⟨rfl, by omega, by omega⟩]
        · rw [if_neg (by omega), if_neg (by omega)]
    · rw [if_neg (fun q => h22 q.1), if_neg (fun q => h22 q.1), if_neg (fun q => h22 q.1)]
theorem m_fly {p c : Nat} (hR : RM G h m t F) (hp : p < 2) (hc : F 21 p = nI c) (hc30 : c ≤ 30) (hq : ∀ h', RM G h' m t (if c = 30 then F else rFly F p c) → FrM m h h' → Q (.returned none) h') : Cx G mX10_fly (d + 1) [.ref m, .int (nI p)] h Q := by
  show Jx G mX10_fly (d + 1) Q 0 [some (.ref m), some (.int (nI p)), none] [] h
  refine x_aload_n dX10_fly_0 rfl rfl ?_
  refine gf_X10_71_10 rfl dX10_fly_1 hR.o ?_
  refine x_iload_n dX10_fly_4 rfl ?_
  refine ld_M hR dX10_fly_5 rfl (by decide) rfl (by first | (show _ < 2; omega) | (show _ < 16; omega) | (show _ < 32; omega) | (show _ < 8; omega) | (show _ < 272; omega) | (show _ < 1024; omega)) ?_
  refine x_bipush (v := nI 30) dX10_fly_6 (by decide) ?_
  rw [hc]
  refine x_icmp_ne (tgt := 12) dX10_fly_8 (by decide) (fun c1 => ?_) (fun c1 => ?_)
  · have hlt : c < 30 := by
      rcases Nat.lt_or_ge c 30 with q | q
      · exact q
      · exact absurd (by rw [show c = 30 by omega]) c1
    refine x_iconst (v := nI 0) dX10_fly_12 (by decide) ?_
    refine y_istore_n dX10_fly_13 rfl lvs_3_2 ?_
    rw [if_neg (by omega)] at hq
    exact m_fly_loop (F0 := F) hp hc hlt hq 16 0 h (by omega) (hR.ext fun a b => by rw [if_neg (by omega)]) (FrM.rf m h)
  · have h30 : c = 30 := (nI_eq (by omega) (by omega)).mp c1
    rw [if_pos h30] at hq
    refine x_vreturn dX10_fly_11 rfl ?_
    exact hq h hR (FrM.rf m h)
theorem m_land_loop2 {p k c : Nat} {F0 : Nat → Nat → Int32} {h0 : Hp} (hp : p < 2) (hk : k ≤ c) (hc : c ≤ 30) (hc0 : F0 21 p = nI c) (hq : ∀ h', RM G h' m t (fun a b => if a = 22 ∧ 16 * (32 * p + k) ≤ b ∧ b < 16 * (32 * p + c) then F0 22 (b + 16) else F0 a b) → FrM m h0 h' → Q (.returned none) h') : ∀ (n i : Nat) (h : Hp), i + n = 16 * (32 * p + c) → 16 * (32 * p + k) ≤ i → RM G h m t (fun a b => if a = 22 ∧ 16 * (32 * p + k) ≤ b ∧ b < i then F0 22 (b + 16) else F0 a b) → FrM m h0 h → Jx G mX10_land (d + 1) Q 50 [some (.ref m), some (.int (nI p)), some (.int (nI k)), some (.int (nI i))] [] h := by
  intro n
  induction n with
  | zero =>
    intro i h hi hik hR hF
    refine x_iload_n dX10_land_50 rfl ?_
    refine x_aload_n dX10_land_51 rfl rfl ?_
    refine x_iload_n dX10_land_52 rfl ?_
    refine x_aload_n dX10_land_53 rfl rfl ?_
    refine gf_X10_71_10 rfl dX10_land_54 hR.o ?_
    refine x_iload_n dX10_land_57 rfl ?_
    refine ld_M hR dX10_land_58 rfl (by decide) rfl (by first | (show _ < 2; omega) | (show _ < 16; omega) | (show _ < 32; omega) | (show _ < 8; omega) | (show _ < 272; omega) | (show _ < 1024; omega)) ?_
    rw [if_neg (by omega), hc0]
    refine x_callV dX10_land_59 sv_X10_125_10 rfl hR.o rfl (Nat.le_of_ble_eq_true rfl) rfl ?_
    refine m_place (kc_v dr_3 ?_)
    refine x_icmp_ge (tgt := 86) dX10_land_62 (by decide) (fun c1 => ?_) (fun c1 => ?_)
    · refine x_vreturn dX10_land_86 rfl ?_
      have : i = 16 * (32 * p + c) := by omega
      subst this
      exact hq _ hR hF
    · exact absurd (nI_le (by omega) (by omega)) c1
  | succ n ih =>
    intro i h hi hik hR hF
    refine x_iload_n dX10_land_50 rfl ?_
    refine x_aload_n dX10_land_51 rfl rfl ?_
    refine x_iload_n dX10_land_52 rfl ?_
    refine x_aload_n dX10_land_53 rfl rfl ?_
    refine gf_X10_71_10 rfl dX10_land_54 hR.o ?_
    refine x_iload_n dX10_land_57 rfl ?_
    refine ld_M hR dX10_land_58 rfl (by decide) rfl (by first | (show _ < 2; omega) | (show _ < 16; omega) | (show _ < 32; omega) | (show _ < 8; omega) | (show _ < 272; omega) | (show _ < 1024; omega)) ?_
    rw [if_neg (by omega), hc0]
    refine x_callV dX10_land_59 sv_X10_125_10 rfl hR.o rfl (Nat.le_of_ble_eq_true rfl) rfl ?_
    refine m_place (kc_v dr_3 ?_)
    refine x_icmp_ge (tgt := 86) dX10_land_62 (by decide) (fun c1 => ?_) (fun c1 => ?_)
    · exact absurd ((nI_leI (by omega) (by omega)).mp c1) (by omega)
    refine x_aload_n dX10_land_65 rfl rfl ?_
    refine gf_X10_74_10 rfl dX10_land_66 hR.o ?_
    refine x_iload_n dX10_land_69 rfl ?_
    refine x_aload_n dX10_land_70 rfl rfl ?_
    refine gf_X10_74_10 rfl dX10_land_71 hR.o ?_
    refine x_iload_n dX10_land_74 rfl ?_
    refine x_bipush (v := nI 16) dX10_land_75 (by decide) ?_
    refine x_iadd dX10_land_77 ?_
    try simp only [pk_mul, nI_add]
    refine ld_M hR dX10_land_78 rfl (by decide) rfl (by first | (show _ < 2; omega) | (show _ < 16; omega) | (show _ < 32; omega) | (show _ < 8; omega) | (show _ < 272; omega) | (show _ < 1024; omega)) ?_
    refine st_M hR dX10_land_79 rfl (by decide) rfl (by first | (show _ < 2; omega) | (show _ < 16; omega) | (show _ < 32; omega) | (show _ < 8; omega) | (show _ < 272; omega) | (show _ < 1024; omega)) (fun _ hR hF1 => ?_)
    replace hF := hF.trans hF1
    refine y_iinc (k := nI 1) dX10_land_80 rfl (by decide) lvs_4_3 ?_
    try simp only [pk_mul, nI_add]
    refine x_goto (tgt := 50) dX10_land_83 (by decide) ?_
    refine ih (i + 1) _ (by omega) (by omega) (hR.ext fun a b => ?_) hF
    rw [u2_at]
    by_cases h8 : a = 22
    · subst h8
      by_cases hb : b = i
      · subst hb
        rw [if_pos ⟨rfl, rfl⟩, if_neg (by omega), if_pos ⟨rfl, by omega, by omega⟩]
      · rw [if_neg (fun q => hb q.2)]
        by_cases hb2 : 16 * (32 * p + k) ≤ b ∧ b < i
        · rw [if_pos ⟨rfl, hb2⟩, if_pos ⟨rfl, by omega, by omega⟩]
        · rw [if_neg (by omega), if_neg (by omega)]
    · rw [if_neg (fun q => h8 q.1), if_neg (fun q => h8 q.1), if_neg (fun q => h8 q.1)]
theorem m_land_loop {p k c : Nat} {F0 : Nat → Nat → Int32} {h0 : Hp} (hp : p < 2) (hk : k ≤ c) (hc : F0 21 p = nI (c + 1)) (hc30 : c < 30) (hq : ∀ h', RM G h' m t (rLand F0 p k c) → FrM m h0 h' → Q (.returned none) h') : ∀ (q i : Nat) (h : Hp), i + q = 16 → RM G h m t (fun a b => if a = 23 ∧ b < i then F0 22 (16 * (32 * p + k) + b) else F0 a b) → FrM m h0 h → Jx G mX10_land (d + 1) Q 2 [some (.ref m), some (.int (nI p)), some (.int (nI k)), some (.int (nI i))] [] h := by
  intro q
  induction q with
  | zero =>
    intro i h hi hR hF
    refine x_iload_n dX10_land_2 rfl ?_
    refine x_bipush (v := nI 16) dX10_land_3 (by decide) ?_
    refine x_icmp_ge (tgt := 33) dX10_land_5 (by decide) (fun c1 => ?_) (fun c1 => ?_)
    · refine x_aload_n dX10_land_33 rfl rfl ?_
      refine gf_X10_71_10 rfl dX10_land_34 hR.o ?_
      refine x_iload_n dX10_land_37 rfl ?_
      refine x_dup2 dX10_land_38 rfl rfl ?_
      refine ld_M hR dX10_land_39 rfl (by decide) rfl (by first | (show _ < 2; omega) | (show _ < 16; omega) | (show _ < 32; omega) | (show _ < 8; omega) | (show _ < 272; omega) | (show _ < 1024; omega)) ?_
      rw [if_neg (by omega), hc]
      refine x_iconst (v := nI 1) dX10_land_40 (by decide) ?_
      refine x_isub dX10_land_41 ?_
      rw [show nI (c + 1) - nI 1 = nI c by rw [pk_sub (by omega)]; rfl]
      refine st_M hR dX10_land_42 rfl (by decide) rfl (by first | (show _ < 2; omega) | (show _ < 16; omega) | (show _ < 32; omega) | (show _ < 8; omega) | (show _ < 272; omega) | (show _ < 1024; omega)) (fun _ hR hF1 => ?_)
      replace hF := hF.trans hF1
      refine x_aload_n dX10_land_43 rfl rfl ?_
      refine x_iload_n dX10_land_44 rfl ?_
      refine x_iload_n dX10_land_45 rfl ?_
      refine x_callV dX10_land_46 sv_X10_125_10 rfl hR.o rfl (Nat.le_of_ble_eq_true rfl) rfl ?_
      refine m_place (kc_v dr_3 ?_)
      refine y_istore_n dX10_land_49 rfl lvs_4_3 ?_
      have : i = 16 := by omega
      subst this
      refine m_land_loop2 (F0 := u2 (fun a b => if a = 23 ∧ b < 16 then F0 22 (16 * (32 * p + k) + b) else F0 a b) 21 p (nI c)) (h0 := h0) hp hk (by omega) (u2_same _ _ _ _) (fun h' hR hF => hq h' (hR.ext fun a b => ?_) hF) (16 * (32 * p + c) - 16 * (32 * p + k)) (16 * (32 * p + k)) _ (by omega) (Nat.le_refl _) (hR.ext fun a b => ?_) hF
      · simp only [u2_at, rLand]
        by_cases h8 : a = 22
        · subst h8
          simp
        · by_cases h21 : a = 21
          · subst h21
            simp
          · simp [h8, h21]
      · rw [if_neg (by omega)]
    · exact absurd (nI_le (by omega) (by omega)) c1
  | succ q ih =>
    intro i h hi hR hF
    refine x_iload_n dX10_land_2 rfl ?_
    refine x_bipush (v := nI 16) dX10_land_3 (by decide) ?_
    refine x_icmp_ge (tgt := 33) dX10_land_5 (by decide) (fun c1 => ?_) (fun c1 => ?_)
    · exact absurd ((nI_leI (by omega) (by omega)).mp c1) (by omega)
    refine x_aload_n dX10_land_8 rfl rfl ?_
    refine gf_X10_77_10 rfl dX10_land_9 hR.o ?_
    refine x_iload_n dX10_land_12 rfl ?_
    refine x_aload_n dX10_land_13 rfl rfl ?_
    refine gf_X10_74_10 rfl dX10_land_14 hR.o ?_
    refine x_aload_n dX10_land_17 rfl rfl ?_
    refine x_iload_n dX10_land_18 rfl ?_
    refine x_iload_n dX10_land_19 rfl ?_
    refine x_callV dX10_land_20 sv_X10_125_10 rfl hR.o rfl (Nat.le_of_ble_eq_true rfl) rfl ?_
    refine m_place (kc_v dr_3 ?_)
    refine x_iload_n dX10_land_23 rfl ?_
    refine x_iadd dX10_land_24 ?_
    try simp only [pk_mul, nI_add]
    refine ld_M hR dX10_land_25 rfl (by decide) rfl (by first | (show _ < 2; omega) | (show _ < 16; omega) | (show _ < 32; omega) | (show _ < 8; omega) | (show _ < 272; omega) | (show _ < 1024; omega)) ?_
    refine st_M hR dX10_land_26 rfl (by decide) rfl (by first | (show _ < 2; omega) | (show _ < 16; omega) | (show _ < 32; omega) | (show _ < 8; omega) | (show _ < 272; omega) | (show _ < 1024; omega)) (fun _ hR hF1 => ?_)
    replace hF := hF.trans hF1
    refine y_iinc (k := nI 1) dX10_land_27 rfl (by decide) lvs_4_3 ?_
    try simp only [pk_mul, nI_add]
    refine x_goto (tgt := 2) dX10_land_30 (by decide) ?_
    refine ih (i + 1) _ (by omega) (hR.ext fun a b => ?_) hF
    rw [u2_at]
    by_cases h23 : a = 23
    · subst h23
      by_cases hb : b = i
      · subst hb
        simp
      · by_cases hb2 : b < i
        · simp [hb, hb2, show b < i + 1 by omega]
        · simp [hb, hb2, show ¬ b < i + 1 by omega]
    · simp [h23]
theorem m_land {p k c : Nat} (hR : RM G h m t F) (hp : p < 2) (hk : k ≤ c) (hc : F 21 p = nI (c + 1)) (hc30 : c < 30) (hq : ∀ h', RM G h' m t (rLand F p k c) → FrM m h h' → Q (.returned none) h') : Cx G mX10_land (d + 1) [.ref m, .int (nI p), .int (nI k)] h Q := by
  show Jx G mX10_land (d + 1) Q 0 [some (.ref m), some (.int (nI p)), some (.int (nI k)), none] [] h
  refine x_iconst (v := nI 0) dX10_land_0 (by decide) ?_
  refine y_istore_n dX10_land_1 rfl lvs_4_3 ?_
  exact m_land_loop (F0 := F) hp hk hc hc30 hq 16 0 h (by omega) (hR.ext fun a b => by rw [if_neg (by omega)]) (FrM.rf m h)
end REF3X
