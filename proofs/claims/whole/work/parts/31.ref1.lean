def nxN (x : Int32) : Int32 := x * 1664525 + 1013904223
def n16 (x : Int32) : Int32 := (x.toUInt32 >>> ((nI 16).toUInt32 &&& Int32.toUInt32 31)).toInt32
section REF1X
variable {G : GT} {d : Nat} {Q : Outcome → Hp → Prop} {h : Hp} {m : Nat} {t : Int32} {F : Nat → Nat → Int32}
theorem m_thrown (hR : RM G h m t F) (hq : Q (.returned (some (.int t))) h) : Cx G mX10_thrown d [.ref m] h Q := by
  show Jx G mX10_thrown d Q 0 [some (.ref m)] [] h
  refine x_aload_n dX10_thrown_0 rfl rfl ?_
  refine gf_X10_83_10 rfl dX10_thrown_1 hR.o ?_
  refine x_ireturn dX10_thrown_4 rfl ?_
  exact hq
theorem m_isPeer {x : Int32} (hq : Q (.returned (some (.int (if x = 0 ∨ x = 1 then 1 else 0)))) h) : Cx G mX10_isPeer d [.int x] h Q := by
  show Jx G mX10_isPeer d Q 0 [some (.int x)] [] h
  refine x_iload_n dX10_isPeer_0 rfl ?_
  refine x_if_eq (tgt := 9) dX10_isPeer_1 (by decide) (fun c1 => ?_) (fun c1 => ?_)
  · rw [if_pos (Or.inl c1)] at hq
    refine x_iconst (v := nI 1) dX10_isPeer_9 (by decide) ?_
    refine x_goto (tgt := 14) dX10_isPeer_10 (by decide) ?_
    refine x_zreturn dX10_isPeer_14 rfl (by first | rfl | assumption) ?_
    exact hq
  refine x_iload_n dX10_isPeer_4 rfl ?_
  refine x_iconst (v := nI 1) dX10_isPeer_5 (by decide) ?_
  refine x_icmp_ne (tgt := 13) dX10_isPeer_6 (by decide) (fun c2 => ?_) (fun c2 => ?_)
  · rw [if_neg (fun q => q.elim c1 c2)] at hq
    refine x_iconst (v := nI 0) dX10_isPeer_13 (by decide) ?_
    refine x_zreturn dX10_isPeer_14 rfl (by first | rfl | assumption) ?_
    exact hq
  · rw [if_pos (Or.inr (show x = 1 from c2))] at hq
    refine x_iconst (v := nI 1) dX10_isPeer_9 (by decide) ?_
    refine x_goto (tgt := 14) dX10_isPeer_10 (by decide) ?_
    refine x_zreturn dX10_isPeer_14 rfl (by first | rfl | assumption) ?_
    exact hq
theorem m_nextNonce {p : Nat} (hR : RM G h m t F) (hp : p < 2) (hq : ∀ h', RM G h' m t (u2 F 5 p (nxN (F 5 p))) → FrM m h h' → Q (.returned (some (.int (n16 (nxN (F 5 p)))))) h') : Cx G mX10_nextNonce d [.ref m, .int (nI p)] h Q := by
  show Jx G mX10_nextNonce d Q 0 [some (.ref m), some (.int (nI p))] [] h
  have hF := FrM.rf m h
  refine x_aload_n dX10_nextNonce_0 rfl rfl ?_
  refine gf_X10_22_10 rfl dX10_nextNonce_1 hR.o ?_
  refine x_iload_n dX10_nextNonce_4 rfl ?_
  refine x_aload_n dX10_nextNonce_5 rfl rfl ?_
  refine gf_X10_22_10 rfl dX10_nextNonce_6 hR.o ?_
  refine x_iload_n dX10_nextNonce_9 rfl ?_
  refine ld_M hR dX10_nextNonce_10 rfl (by decide) rfl (by first | (show _ < 2; omega) | (show _ < 16; omega) | (show _ < 32; omega) | (show _ < 8; omega) | (show _ < 272; omega) | (show _ < 1024; omega)) ?_
  refine x_ldc (v := 1664525) dX10_nextNonce_11 kw_X10_94 ?_
  refine x_imul dX10_nextNonce_13 ?_
  try simp only [pk_mul, nI_add]
  refine x_ldc (v := 1013904223) dX10_nextNonce_14 kw_X10_95 ?_
  refine x_iadd dX10_nextNonce_16 ?_
  try simp only [pk_mul, nI_add]
  refine st_M hR dX10_nextNonce_17 rfl (by decide) rfl (by first | (show _ < 2; omega) | (show _ < 16; omega) | (show _ < 32; omega) | (show _ < 8; omega) | (show _ < 272; omega) | (show _ < 1024; omega)) (fun _ hR hF1 => ?_)
  replace hF := hF.trans hF1
  refine x_aload_n dX10_nextNonce_18 rfl rfl ?_
  refine gf_X10_22_10 rfl dX10_nextNonce_19 hR.o ?_
  refine x_iload_n dX10_nextNonce_22 rfl ?_
  refine ld_M hR dX10_nextNonce_23 rfl (by decide) rfl (by first | (show _ < 2; omega) | (show _ < 16; omega) | (show _ < 32; omega) | (show _ < 8; omega) | (show _ < 272; omega) | (show _ < 1024; omega)) ?_
  refine x_bipush (v := nI 16) dX10_nextNonce_24 (by decide) ?_
  refine x_iushr dX10_nextNonce_26 rfl ?_
  refine x_ireturn dX10_nextNonce_27 rfl ?_
  rw [u2_same]
  exact hq _ hR hF
theorem m_nextMark {p : Nat} (hR : RM G h m t F) (hp : p < 2) (hq : ∀ h', RM G h' m t (u2 F 6 p (F 6 p + nI 2)) → FrM m h h' → Q (.returned (some (.int (F 6 p)))) h') : Cx G mX10_nextMark d [.ref m, .int (nI p)] h Q := by
  show Jx G mX10_nextMark d Q 0 [some (.ref m), some (.int (nI p))] [] h
  have hF := FrM.rf m h
  refine x_aload_n dX10_nextMark_0 rfl rfl ?_
  refine gf_X10_25_10 rfl dX10_nextMark_1 hR.o ?_
  refine x_iload_n dX10_nextMark_4 rfl ?_
  refine x_aload_n dX10_nextMark_5 rfl rfl ?_
  refine gf_X10_25_10 rfl dX10_nextMark_6 hR.o ?_
  refine x_iload_n dX10_nextMark_9 rfl ?_
  refine ld_M hR dX10_nextMark_10 rfl (by decide) rfl (by first | (show _ < 2; omega) | (show _ < 16; omega) | (show _ < 32; omega) | (show _ < 8; omega) | (show _ < 272; omega) | (show _ < 1024; omega)) ?_
  refine x_iconst (v := nI 2) dX10_nextMark_11 (by decide) ?_
  refine x_iadd dX10_nextMark_12 ?_
  try simp only [pk_mul, nI_add]
  refine st_M hR dX10_nextMark_13 rfl (by decide) rfl (by first | (show _ < 2; omega) | (show _ < 16; omega) | (show _ < 32; omega) | (show _ < 8; omega) | (show _ < 272; omega) | (show _ < 1024; omega)) (fun _ hR hF1 => ?_)
  replace hF := hF.trans hF1
  refine x_aload_n dX10_nextMark_14 rfl rfl ?_
  refine gf_X10_25_10 rfl dX10_nextMark_15 hR.o ?_
  refine x_iload_n dX10_nextMark_18 rfl ?_
  refine ld_M hR dX10_nextMark_19 rfl (by decide) rfl (by first | (show _ < 2; omega) | (show _ < 16; omega) | (show _ < 32; omega) | (show _ < 8; omega) | (show _ < 272; omega) | (show _ < 1024; omega)) ?_
  refine x_iconst (v := nI 2) dX10_nextMark_20 (by decide) ?_
  refine x_isub dX10_nextMark_21 ?_
  refine x_ireturn dX10_nextMark_22 rfl ?_
  rw [u2_same, Int32.add_sub_cancel]
  exact hq _ hR hF
theorem m_kid {p k w : Nat} (hR : RM G h m t F) (hp : p < 2) (hk : k < 17) (hw : w < 8) (hq : Q (.returned (some (.int (F 8 (8 * (17 * p + k) + w))))) h) : Cx G mX10_kid d [.ref m, .int (nI p), .int (nI k), .int (nI w)] h Q := by
  show Jx G mX10_kid d Q 0 [some (.ref m), some (.int (nI p)), some (.int (nI k)), some (.int (nI w))] [] h
  refine x_aload_n dX10_kid_0 rfl rfl ?_
  refine gf_X10_31_10 rfl dX10_kid_1 hR.o ?_
  refine x_bipush (v := nI 8) dX10_kid_4 (by decide) ?_
  refine x_bipush (v := nI 17) dX10_kid_6 (by decide) ?_
  refine x_iload_n dX10_kid_8 rfl ?_
  refine x_imul dX10_kid_9 ?_
  try simp only [pk_mul, nI_add]
  refine x_iload_n dX10_kid_10 rfl ?_
  refine x_iadd dX10_kid_11 ?_
  try simp only [pk_mul, nI_add]
  refine x_imul dX10_kid_12 ?_
  try simp only [pk_mul, nI_add]
  refine x_iload_n dX10_kid_13 rfl ?_
  refine x_iadd dX10_kid_14 ?_
  try simp only [pk_mul, nI_add]
  refine ld_M hR dX10_kid_15 rfl (by decide) rfl (by first | (show _ < 2; omega) | (show _ < 16; omega) | (show _ < 32; omega) | (show _ < 8; omega) | (show _ < 272; omega) | (show _ < 1024; omega)) ?_
  refine x_ireturn dX10_kid_16 rfl ?_
  exact hq
theorem m_place {p k : Nat} (hq : Q (.returned (some (.int (nI (16 * (32 * p + k)))))) h) : Cx G mX10_place d [.ref m, .int (nI p), .int (nI k)] h Q := by
  show Jx G mX10_place d Q 0 [some (.ref m), some (.int (nI p)), some (.int (nI k))] [] h
  refine x_bipush (v := nI 16) dX10_place_0 (by decide) ?_
  refine x_bipush (v := nI 32) dX10_place_2 (by decide) ?_
  refine x_iload_n dX10_place_4 rfl ?_
  refine x_imul dX10_place_5 ?_
  try simp only [pk_mul, nI_add]
  refine x_iload_n dX10_place_6 rfl ?_
  refine x_iadd dX10_place_7 ?_
  try simp only [pk_mul, nI_add]
  refine x_imul dX10_place_8 ?_
  try simp only [pk_mul, nI_add]
  refine x_ireturn dX10_place_9 rfl ?_
  exact hq
end REF1X
