def fnd (P : Nat → Bool) : Nat → Nat → Option Nat
  | 0, _ => none
  | n + 1, k => if P k then some k else fnd P n (k + 1)
def oI (o : Option Nat) : Int32 := match o with
  | some k => nI k
  | none => -1
theorem RM.ext {G : GT} {h : Hp} {m : Nat} {t : Int32} {F F' : Nat → Nat → Int32} (hR : RM G h m t F) (he : ∀ j i, F j i = F' j i) : RM G h m t F' := by
  have : F = F' := funext fun j => funext fun i => he j i
  exact this ▸ hR
section REF2X
variable {G : GT} {d : Nat} {Q : Outcome → Hp → Prop} {h : Hp} {m : Nat} {t : Int32} {F : Nat → Nat → Int32}
theorem m_find_loop {p w c : Nat} {v : Int32} (hR : RM G h m t F) (hp : p < 2) (hw : w < 8) (hc : F 7 p = nI c) (hc16 : c ≤ 16) (hq : Q (.returned (some (.int (oI (fnd (fun k => decide (F 8 (8 * (17 * p + k) + w) = v)) c 0))))) h) : ∀ (n k : Nat), k + n = c → fnd (fun k => decide (F 8 (8 * (17 * p + k) + w) = v)) n k = fnd (fun k => decide (F 8 (8 * (17 * p + k) + w) = v)) c 0 → Jx G mX10_find (d + 1) Q 3 [some (.ref m), some (.int (nI p)), some (.int (nI w)), some (.int v), some (.int (nI k))] [] h := by
  intro n
  induction n with
  | zero =>
    intro k hk hf
    refine x_iload dX10_find_3 rfl ?_
    refine x_aload_n dX10_find_5 rfl rfl ?_
    refine gf_X10_28_10 rfl dX10_find_6 hR.o ?_
    refine x_iload_n dX10_find_9 rfl ?_
    refine ld_M hR dX10_find_10 rfl (by decide) rfl (by first | (show _ < 2; omega) | (show _ < 16; omega) | (show _ < 32; omega) | (show _ < 8; omega) | (show _ < 272; omega) | (show _ < 1024; omega)) ?_
    rw [hc]
    refine x_icmp_ge (tgt := 35) dX10_find_11 (by decide) (fun c1 => ?_) (fun c1 => ?_)
    · refine x_iconst (v := (-1)) dX10_find_35 (by decide) ?_
      refine x_ireturn dX10_find_36 rfl ?_
      rw [← hf] at hq
      exact hq
    · exact absurd (nI_le (by omega) (by omega)) c1
  | succ n ih =>
    intro k hk hf
    refine x_iload dX10_find_3 rfl ?_
    refine x_aload_n dX10_find_5 rfl rfl ?_
    refine gf_X10_28_10 rfl dX10_find_6 hR.o ?_
    refine x_iload_n dX10_find_9 rfl ?_
    refine ld_M hR dX10_find_10 rfl (by decide) rfl (by first | (show _ < 2; omega) | (show _ < 16; omega) | (show _ < 32; omega) | (show _ < 8; omega) | (show _ < 272; omega) | (show _ < 1024; omega)) ?_
    rw [hc]
    refine x_icmp_ge (tgt := 35) dX10_find_11 (by decide) (fun c1 => ?_) (fun c1 => ?_)
    · exact absurd ((nI_leI (by omega) (by omega)).mp c1) (by omega)
    refine x_aload_n dX10_find_14 rfl rfl ?_
    refine x_iload_n dX10_find_15 rfl ?_
    refine x_iload dX10_find_16 rfl ?_
    refine x_iload_n dX10_find_18 rfl ?_
    refine x_callV dX10_find_19 sv_X10_96_10 rfl hR.o rfl (Nat.le_of_ble_eq_true rfl) rfl ?_
    refine m_kid hR hp (by omega) hw (kc_v dr_4 ?_)
    refine x_iload_n dX10_find_22 rfl ?_
    refine x_icmp_ne (tgt := 29) dX10_find_23 (by decide) (fun c2 => ?_) (fun c2 => ?_)
    · refine y_iinc (k := nI 1) dX10_find_29 rfl (by decide) lvs_5_4 ?_
      try simp only [pk_mul, nI_add]
      refine x_goto (tgt := 3) dX10_find_32 (by decide) ?_
      refine ih (k + 1) (by omega) ?_
      rw [← hf]
      simp [fnd, c2]
    · refine x_iload dX10_find_26 rfl ?_
      refine x_ireturn dX10_find_28 rfl ?_
      rw [← hf] at hq
      simp [fnd, c2, oI] at hq
      exact hq
theorem m_find {p w c : Nat} {v : Int32} (hR : RM G h m t F) (hp : p < 2) (hw : w < 8) (hc : F 7 p = nI c) (hc16 : c ≤ 16) (hq : Q (.returned (some (.int (oI (fnd (fun k => decide (F 8 (8 * (17 * p + k) + w) = v)) c 0))))) h) : Cx G mX10_find (d + 1) [.ref m, .int (nI p), .int (nI w), .int v] h Q := by
  show Jx G mX10_find (d + 1) Q 0 [some (.ref m), some (.int (nI p)), some (.int (nI w)), some (.int v), none] [] h
  refine x_iconst (v := nI 0) dX10_find_0 (by decide) ?_
  refine y_istore dX10_find_1 rfl lvs_5_4 ?_
  exact m_find_loop hR hp hw hc hc16 hq c 0 (by omega) rfl
theorem m_renewing_loop {p c : Nat} {v b : Int32} (hR : RM G h m t F) (hp : p < 2) (hc : F 7 p = nI c) (hc16 : c ≤ 16) (hq : Q (.returned (some (.int (oI (fnd (fun k => decide (F 8 (8 * (17 * p + k) + 5) = v ∧ F 8 (8 * (17 * p + k) + 6) = b)) c 0))))) h) : ∀ (n k : Nat), k + n = c → fnd (fun k => decide (F 8 (8 * (17 * p + k) + 5) = v ∧ F 8 (8 * (17 * p + k) + 6) = b)) n k = fnd (fun k => decide (F 8 (8 * (17 * p + k) + 5) = v ∧ F 8 (8 * (17 * p + k) + 6) = b)) c 0 → Jx G mX10_renewing (d + 1) Q 3 [some (.ref m), some (.int (nI p)), some (.int v), some (.int b), some (.int (nI k))] [] h := by
  intro n
  induction n with
  | zero =>
    intro k hk hf
    refine x_iload dX10_renewing_3 rfl ?_
    refine x_aload_n dX10_renewing_5 rfl rfl ?_
    refine gf_X10_28_10 rfl dX10_renewing_6 hR.o ?_
    refine x_iload_n dX10_renewing_9 rfl ?_
    refine ld_M hR dX10_renewing_10 rfl (by decide) rfl (by first | (show _ < 2; omega) | (show _ < 16; omega) | (show _ < 32; omega) | (show _ < 8; omega) | (show _ < 272; omega) | (show _ < 1024; omega)) ?_
    rw [hc]
    refine x_icmp_ge (tgt := 48) dX10_renewing_11 (by decide) (fun c1 => ?_) (fun c1 => ?_)
    · refine x_iconst (v := (-1)) dX10_renewing_48 (by decide) ?_
      refine x_ireturn dX10_renewing_49 rfl ?_
      rw [← hf] at hq
      exact hq
    · exact absurd (nI_le (by omega) (by omega)) c1
  | succ n ih =>
    intro k hk hf
    refine x_iload dX10_renewing_3 rfl ?_
    refine x_aload_n dX10_renewing_5 rfl rfl ?_
    refine gf_X10_28_10 rfl dX10_renewing_6 hR.o ?_
    refine x_iload_n dX10_renewing_9 rfl ?_
    refine ld_M hR dX10_renewing_10 rfl (by decide) rfl (by first | (show _ < 2; omega) | (show _ < 16; omega) | (show _ < 32; omega) | (show _ < 8; omega) | (show _ < 272; omega) | (show _ < 1024; omega)) ?_
    rw [hc]
    refine x_icmp_ge (tgt := 48) dX10_renewing_11 (by decide) (fun c1 => ?_) (fun c1 => ?_)
    · exact absurd ((nI_leI (by omega) (by omega)).mp c1) (by omega)
    refine x_aload_n dX10_renewing_14 rfl rfl ?_
    refine x_iload_n dX10_renewing_15 rfl ?_
    refine x_iload dX10_renewing_16 rfl ?_
    refine x_iconst (v := nI 5) dX10_renewing_18 (by decide) ?_
    refine x_callV dX10_renewing_19 sv_X10_96_10 rfl hR.o rfl (Nat.le_of_ble_eq_true rfl) rfl ?_
    refine m_kid hR hp (by omega) (by omega) (kc_v dr_4 ?_)
    refine x_iload_n dX10_renewing_22 rfl ?_
    refine x_icmp_ne (tgt := 42) dX10_renewing_23 (by decide) (fun c2 => ?_) (fun c2 => ?_)
    · refine y_iinc (k := nI 1) dX10_renewing_42 rfl (by decide) lvs_5_4 ?_
      try simp only [pk_mul, nI_add]
      refine x_goto (tgt := 3) dX10_renewing_45 (by decide) ?_
      refine ih (k + 1) (by omega) ?_
      rw [← hf]
      simp [fnd, c2]
    refine x_aload_n dX10_renewing_26 rfl rfl ?_
    refine x_iload_n dX10_renewing_27 rfl ?_
    refine x_iload dX10_renewing_28 rfl ?_
    refine x_bipush (v := nI 6) dX10_renewing_30 (by decide) ?_
    refine x_callV dX10_renewing_32 sv_X10_96_10 rfl hR.o rfl (Nat.le_of_ble_eq_true rfl) rfl ?_
    refine m_kid hR hp (by omega) (by omega) (kc_v dr_4 ?_)
    refine x_iload_n dX10_renewing_35 rfl ?_
    refine x_icmp_ne (tgt := 42) dX10_renewing_36 (by decide) (fun c3 => ?_) (fun c3 => ?_)
    · refine y_iinc (k := nI 1) dX10_renewing_42 rfl (by decide) lvs_5_4 ?_
      try simp only [pk_mul, nI_add]
      refine x_goto (tgt := 3) dX10_renewing_45 (by decide) ?_
      refine ih (k + 1) (by omega) ?_
      rw [← hf]
      simp [fnd, c3]
    · refine x_iload dX10_renewing_39 rfl ?_
      refine x_ireturn dX10_renewing_41 rfl ?_
      rw [← hf] at hq
      simp [fnd, c2, c3, oI] at hq
      exact hq
theorem m_renewing {p c : Nat} {v b : Int32} (hR : RM G h m t F) (hp : p < 2) (hc : F 7 p = nI c) (hc16 : c ≤ 16) (hq : Q (.returned (some (.int (oI (fnd (fun k => decide (F 8 (8 * (17 * p + k) + 5) = v ∧ F 8 (8 * (17 * p + k) + 6) = b)) c 0))))) h) : Cx G mX10_renewing (d + 1) [.ref m, .int (nI p), .int v, .int b] h Q := by
  show Jx G mX10_renewing (d + 1) Q 0 [some (.ref m), some (.int (nI p)), some (.int v), some (.int b), none] [] h
  refine x_iconst (v := nI 0) dX10_renewing_0 (by decide) ?_
  refine y_istore dX10_renewing_1 rfl lvs_5_4 ?_
  exact m_renewing_loop hR hp hc hc16 hq c 0 (by omega) rfl
def kdL (a0 a1 a2 a3 a4 a5 a6 a7 : Int32) : Nat → Int32
  | 0 => a0
  | 1 => a1
  | 2 => a2
  | 3 => a3
  | 4 => a4
  | 5 => a5
  | 6 => a6
  | _ => a7
def rAdd (F : Nat → Nat → Int32) (p c : Nat) (kd : Nat → Int32) : Nat → Nat → Int32 := fun a b => if a = 8 ∧ 8 * (17 * p + c) ≤ b ∧ b < 8 * (17 * p + c) + 8 then kd (b - 8 * (17 * p + c)) else if a = 7 ∧ b = p then nI (c + 1) else F a b
theorem m_addKid {p c : Nat} {a0 a1 a2 a3 a4 a5 a6 a7 : Int32} (hR : RM G h m t F) (hp : p < 2) (hc : F 7 p = nI c) (hc16 : c ≤ 16) (hq : ∀ h', RM G h' m t (rAdd F p c (kdL a0 a1 a2 a3 a4 a5 a6 a7)) → FrM m h h' → Q (.returned none) h') : Cx G mX10_addKid d [.ref m, .int (nI p), .int a0, .int a1, .int a2, .int a3, .int a4, .int a5, .int a6, .int a7] h Q := by
  show Jx G mX10_addKid d Q 0 [some (.ref m), some (.int (nI p)), some (.int a0), some (.int a1), some (.int a2), some (.int a3), some (.int a4), some (.int a5), some (.int a6), some (.int a7), none] [] h
  have hF := FrM.rf m h
  refine x_bipush (v := nI 8) dX10_addKid_0 (by decide) ?_
  refine x_bipush (v := nI 17) dX10_addKid_2 (by decide) ?_
  refine x_iload_n dX10_addKid_4 rfl ?_
  refine x_imul dX10_addKid_5 ?_
  try simp only [pk_mul, nI_add]
  refine x_aload_n dX10_addKid_6 rfl rfl ?_
  refine gf_X10_28_10 rfl dX10_addKid_7 hR.o ?_
  refine x_iload_n dX10_addKid_10 rfl ?_
  refine ld_M hR dX10_addKid_11 rfl (by decide) rfl (by first | (show _ < 2; omega) | (show _ < 16; omega) | (show _ < 32; omega) | (show _ < 8; omega) | (show _ < 272; omega) | (show _ < 1024; omega)) ?_
  rw [hc]
  refine x_iadd dX10_addKid_12 ?_
  try simp only [pk_mul, nI_add]
  refine x_imul dX10_addKid_13 ?_
  try simp only [pk_mul, nI_add]
  refine y_istore dX10_addKid_14 rfl lvs_11_10 ?_
  refine x_aload_n dX10_addKid_16 rfl rfl ?_
  refine gf_X10_31_10 rfl dX10_addKid_17 hR.o ?_
  refine x_iload dX10_addKid_20 rfl ?_
  refine x_iload_n dX10_addKid_22 rfl ?_
  refine st_M hR dX10_addKid_23 rfl (by decide) rfl (by first | (show _ < 2; omega) | (show _ < 16; omega) | (show _ < 32; omega) | (show _ < 8; omega) | (show _ < 272; omega) | (show _ < 1024; omega)) (fun _ hR hF1 => ?_)
  replace hF := hF.trans hF1
  refine x_aload_n dX10_addKid_24 rfl rfl ?_
  refine gf_X10_31_10 rfl dX10_addKid_25 hR.o ?_
  refine x_iload dX10_addKid_28 rfl ?_
  refine x_iconst (v := nI 1) dX10_addKid_30 (by decide) ?_
  refine x_iadd dX10_addKid_31 ?_
  try simp only [pk_mul, nI_add]
  refine x_iload_n dX10_addKid_32 rfl ?_
  refine st_M hR dX10_addKid_33 rfl (by decide) rfl (by first | (show _ < 2; omega) | (show _ < 16; omega) | (show _ < 32; omega) | (show _ < 8; omega) | (show _ < 272; omega) | (show _ < 1024; omega)) (fun _ hR hF1 => ?_)
  replace hF := hF.trans hF1
  refine x_aload_n dX10_addKid_34 rfl rfl ?_
  refine gf_X10_31_10 rfl dX10_addKid_35 hR.o ?_
  refine x_iload dX10_addKid_38 rfl ?_
  refine x_iconst (v := nI 2) dX10_addKid_40 (by decide) ?_
  refine x_iadd dX10_addKid_41 ?_
  try simp only [pk_mul, nI_add]
  refine x_iload dX10_addKid_42 rfl ?_
  refine st_M hR dX10_addKid_44 rfl (by decide) rfl (by first | (show _ < 2; omega) | (show _ < 16; omega) | (show _ < 32; omega) | (show _ < 8; omega) | (show _ < 272; omega) | (show _ < 1024; omega)) (fun _ hR hF1 => ?_)
  replace hF := hF.trans hF1
  refine x_aload_n dX10_addKid_45 rfl rfl ?_
  refine gf_X10_31_10 rfl dX10_addKid_46 hR.o ?_
  refine x_iload dX10_addKid_49 rfl ?_
  refine x_iconst (v := nI 3) dX10_addKid_51 (by decide) ?_
  refine x_iadd dX10_addKid_52 ?_
  try simp only [pk_mul, nI_add]
  refine x_iload dX10_addKid_53 rfl ?_
  refine st_M hR dX10_addKid_55 rfl (by decide) rfl (by first | (show _ < 2; omega) | (show _ < 16; omega) | (show _ < 32; omega) | (show _ < 8; omega) | (show _ < 272; omega) | (show _ < 1024; omega)) (fun _ hR hF1 => ?_)
  replace hF := hF.trans hF1
  refine x_aload_n dX10_addKid_56 rfl rfl ?_
  refine gf_X10_31_10 rfl dX10_addKid_57 hR.o ?_
  refine x_iload dX10_addKid_60 rfl ?_
  refine x_iconst (v := nI 4) dX10_addKid_62 (by decide) ?_
  refine x_iadd dX10_addKid_63 ?_
  try simp only [pk_mul, nI_add]
  refine x_iload dX10_addKid_64 rfl ?_
  refine st_M hR dX10_addKid_66 rfl (by decide) rfl (by first | (show _ < 2; omega) | (show _ < 16; omega) | (show _ < 32; omega) | (show _ < 8; omega) | (show _ < 272; omega) | (show _ < 1024; omega)) (fun _ hR hF1 => ?_)
  replace hF := hF.trans hF1
  refine x_aload_n dX10_addKid_67 rfl rfl ?_
  refine gf_X10_31_10 rfl dX10_addKid_68 hR.o ?_
  refine x_iload dX10_addKid_71 rfl ?_
  refine x_iconst (v := nI 5) dX10_addKid_73 (by decide) ?_
  refine x_iadd dX10_addKid_74 ?_
  try simp only [pk_mul, nI_add]
  refine x_iload dX10_addKid_75 rfl ?_
  refine st_M hR dX10_addKid_77 rfl (by decide) rfl (by first | (show _ < 2; omega) | (show _ < 16; omega) | (show _ < 32; omega) | (show _ < 8; omega) | (show _ < 272; omega) | (show _ < 1024; omega)) (fun _ hR hF1 => ?_)
  replace hF := hF.trans hF1
  refine x_aload_n dX10_addKid_78 rfl rfl ?_
  refine gf_X10_31_10 rfl dX10_addKid_79 hR.o ?_
  refine x_iload dX10_addKid_82 rfl ?_
  refine x_bipush (v := nI 6) dX10_addKid_84 (by decide) ?_
  refine x_iadd dX10_addKid_86 ?_
  try simp only [pk_mul, nI_add]
  refine x_iload dX10_addKid_87 rfl ?_
  refine st_M hR dX10_addKid_89 rfl (by decide) rfl (by first | (show _ < 2; omega) | (show _ < 16; omega) | (show _ < 32; omega) | (show _ < 8; omega) | (show _ < 272; omega) | (show _ < 1024; omega)) (fun _ hR hF1 => ?_)
  replace hF := hF.trans hF1
  refine x_aload_n dX10_addKid_90 rfl rfl ?_
  refine gf_X10_31_10 rfl dX10_addKid_91 hR.o ?_
  refine x_iload dX10_addKid_94 rfl ?_
  refine x_bipush (v := nI 7) dX10_addKid_96 (by decide) ?_
  refine x_iadd dX10_addKid_98 ?_
  try simp only [pk_mul, nI_add]
  refine x_iload dX10_addKid_99 rfl ?_
  refine st_M hR dX10_addKid_101 rfl (by decide) rfl (by first | (show _ < 2; omega) | (show _ < 16; omega) | (show _ < 32; omega) | (show _ < 8; omega) | (show _ < 272; omega) | (show _ < 1024; omega)) (fun _ hR hF1 => ?_)
  replace hF := hF.trans hF1
  refine x_aload_n dX10_addKid_102 rfl rfl ?_
  refine gf_X10_28_10 rfl dX10_addKid_103 hR.o ?_
  refine x_iload_n dX10_addKid_106 rfl ?_
  refine x_dup2 dX10_addKid_107 rfl rfl ?_
  refine ld_M hR dX10_addKid_108 rfl (by decide) rfl (by first | (show _ < 2; omega) | (show _ < 16; omega) | (show _ < 32; omega) | (show _ < 8; omega) | (show _ < 272; omega) | (show _ < 1024; omega)) ?_
  have e7 : u2 (u2 (u2 (u2 (u2 (u2 (u2 (u2 F 8 (8 * (17 * p + c)) a0) 8 (8 * (17 * p + c) + 1) a1) 8 (8 * (17 * p + c) + 2) a2) 8 (8 * (17 * p + c) + 3) a3) 8 (8 * (17 * p + c) + 4) a4) 8 (8 * (17 * p + c) + 5) a5) 8 (8 * (17 * p + c) + 6) a6) 8 (8 * (17 * p + c) + 7) a7 7 p = nI c := by
    simp only [u2_row _ _ _ _ (show (7 : Nat) ≠ 8 by decide)]
    exact hc
  rw [e7]
  refine x_iconst (v := nI 1) dX10_addKid_109 (by decide) ?_
  refine x_iadd dX10_addKid_110 ?_
  try simp only [pk_mul, nI_add]
  refine st_M hR dX10_addKid_111 rfl (by decide) rfl (by first | (show _ < 2; omega) | (show _ < 16; omega) | (show _ < 32; omega) | (show _ < 8; omega) | (show _ < 272; omega) | (show _ < 1024; omega)) (fun _ hR hF1 => ?_)
  replace hF := hF.trans hF1
  refine x_vreturn dX10_addKid_112 rfl ?_
  refine hq _ (hR.ext fun a b => ?_) hF
  simp only [u2_at, rAdd]
  by_cases h8 : a = 8
  · subst h8
    by_cases hb : 8 * (17 * p + c) ≤ b ∧ b < 8 * (17 * p + c) + 8
    · obtain ⟨z, hz⟩ : ∃ z, b = 8 * (17 * p + c) + z := ⟨b - 8 * (17 * p + c), by omega⟩
      subst hz
      have hz8 : z < 8 := by omega
      simp only [show (8 : Nat) ≠ 7 by decide, false_and, if_false, true_and, Nat.add_sub_cancel_left]
      rw [if_pos (by omega : 8 * (17 * p + c) ≤ 8 * (17 * p + c) + z ∧ 8 * (17 * p + c) + z < 8 * (17 * p + c) + 8)]
      rcases (show z = 0 ∨ z = 1 ∨ z = 2 ∨ z = 3 ∨ z = 4 ∨ z = 5 ∨ z = 6 ∨ z = 7 by omega) with rfl | rfl | rfl | rfl | rfl | rfl | rfl | rfl <;> simp [kdL]
    · rw [if_neg (by omega), if_neg (by omega), if_neg (by omega), if_neg (by omega), if_neg (by omega), if_neg (by omega), if_neg (by omega), if_neg (by omega), if_neg (by omega), if_neg (by omega), if_neg (by omega)]
  · simp [h8]
end REF2X
