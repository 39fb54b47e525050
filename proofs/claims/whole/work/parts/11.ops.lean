section OPS
variable {G : GT} {M : MD} {d : Nat} {Q : Outcome → Hp → Prop} {pc : Nat} {lv : List (Option Value)} {st : List Value} {h : Hp}
theorem x_iconst {n : Int} {v : Int32} (hd : decode M.2.1 pc = .ok (.iconst n, 1)) (hv : Int32.ofInt n = v) (kk : Jx G M d Q (pc + 1) lv (.int v :: st) h) : Jx G M d Q pc lv st h := by
  intro p e R s m args below meth c E H locs cells slots ls P
  exact lv_iconst E.1 E.2.1 hd hv (kk p e R s m args below meth c E H locs cells slots ls P)
theorem x_bipush {n : Int} {v : Int32} (hd : decode M.2.1 pc = .ok (.bipush n, 2)) (hv : (Int8.ofInt n).toInt32 = v) (kk : Jx G M d Q (pc + 2) lv (.int v :: st) h) : Jx G M d Q pc lv st h := by
  intro p e R s m args below meth c E H locs cells slots ls P
  exact lv_bipush E.1 E.2.1 hd hv (kk p e R s m args below meth c E H locs cells slots ls P)
theorem x_sipush {n : Int} {v : Int32} (hd : decode M.2.1 pc = .ok (.sipush n, 3)) (hv : (Int16.ofInt n).toInt32 = v) (kk : Jx G M d Q (pc + 3) lv (.int v :: st) h) : Jx G M d Q pc lv st h := by
  intro p e R s m args below meth c E H locs cells slots ls P
  exact lv_sipush E.1 E.2.1 hd hv (kk p e R s m args below meth c E H locs cells slots ls P)
theorem x_iload_n {k : Fin 4} {x : Int32} (hd : decode M.2.1 pc = .ok (.iload_n k, 1)) (hl : lv[k.val]? = some (some (.int x))) (kk : Jx G M d Q (pc + 1) lv (.int x :: st) h) : Jx G M d Q pc lv st h := by
  intro p e R s m args below meth c E H locs cells slots ls P
  exact lv_iload_n E.1 E.2.1 hd rfl (P.1.2.2.2 _ _ hl).2 (kk p e R s m args below meth c E H locs cells slots ls P)
theorem x_iload {i : Nat} {x : Int32} (hd : decode M.2.1 pc = .ok (.iload i, 2)) (hl : lv[i]? = some (some (.int x))) (kk : Jx G M d Q (pc + 2) lv (.int x :: st) h) : Jx G M d Q pc lv st h := by
  intro p e R s m args below meth c E H locs cells slots ls P
  exact lv_iload E.1 E.2.1 hd (P.1.2.2.2 _ _ hl).2 (kk p e R s m args below meth c E H locs cells slots ls P)
theorem x_aload_n {k : Fin 4} {v : Value} (hd : decode M.2.1 pc = .ok (.aload_n k, 1)) (hl : lv[k.val]? = some (some v)) (hr : v.isRef = true) (kk : Jx G M d Q (pc + 1) lv (v :: st) h) : Jx G M d Q pc lv st h := by
  intro p e R s m args below meth c E H locs cells slots ls P
  cases v with
  | ref x => exact lv_aload_n E.1 E.2.1 hd rfl (P.1.2.2.2 _ _ hl).2 (kk p e R s m args below meth c E H locs cells slots ls P)
  | null => exact lv_aload_nN E.1 E.2.1 hd rfl (P.1.2.2.2 _ _ hl).2 (kk p e R s m args below meth c E H locs cells slots ls P)
  | _ => simp [Value.isRef] at hr
theorem x_aload {i : Nat} {v : Value} (hd : decode M.2.1 pc = .ok (.aload i, 2)) (hl : lv[i]? = some (some v)) (hr : v.isRef = true) (kk : Jx G M d Q (pc + 2) lv (v :: st) h) : Jx G M d Q pc lv st h := by
  intro p e R s m args below meth c E H locs cells slots ls P
  cases v with
  | ref x => exact lv_aload E.1 E.2.1 hd (P.1.2.2.2 _ _ hl).2 (kk p e R s m args below meth c E H locs cells slots ls P)
  | null => exact lv_aloadN E.1 E.2.1 hd (P.1.2.2.2 _ _ hl).2 (kk p e R s m args below meth c E H locs cells slots ls P)
  | _ => simp [Value.isRef] at hr
theorem x_istore_n {k : Fin 4} {x : Int32} (hd : decode M.2.1 pc = .ok (.istore_n k, 1)) (hi : (lv[k.val]?).isSome = true) (kk : Jx G M d Q (pc + 1) (lv.set k.val (some (.int x))) st h) : Jx G M d Q pc lv ((.int x) :: st) h := by
  intro p e R s m args below meth c E H locs cells slots ls P
  have hn : k.val < M.2.2.1 := by
    have := P.1.2.2.1
    obtain ⟨w, hw⟩ := Option.isSome_iff_exists.mp hi
    have := (List.getElem?_eq_some_iff.mp hw).1
    omega
  exact lv_istore_n E.1 E.2.1 hd rfl P.1.has hn rfl (fun ls1 h1 => kk p e R s m args below meth c E H locs cells slots ls1 ⟨P.1.stored rfl h1, P.2⟩)
theorem x_istore {i : Nat} {x : Int32} (hd : decode M.2.1 pc = .ok (.istore i, 2)) (hi : (lv[i]?).isSome = true) (kk : Jx G M d Q (pc + 2) (lv.set i (some (.int x))) st h) : Jx G M d Q pc lv ((.int x) :: st) h := by
  intro p e R s m args below meth c E H locs cells slots ls P
  have hn : i < M.2.2.1 := by
    have := P.1.2.2.1
    obtain ⟨w, hw⟩ := Option.isSome_iff_exists.mp hi
    have := (List.getElem?_eq_some_iff.mp hw).1
    omega
  exact lv_istore E.1 E.2.1 hd P.1.has hn rfl (fun ls1 h1 => kk p e R s m args below meth c E H locs cells slots ls1 ⟨P.1.stored rfl h1, P.2⟩)
theorem x_astore_nR {k : Fin 4} {x : Nat} (hd : decode M.2.1 pc = .ok (.astore_n k, 1)) (hi : (lv[k.val]?).isSome = true) (kk : Jx G M d Q (pc + 1) (lv.set k.val (some (.ref x))) st h) : Jx G M d Q pc lv ((.ref x) :: st) h := by
  intro p e R s m args below meth c E H locs cells slots ls P
  have hn : k.val < M.2.2.1 := by
    have := P.1.2.2.1
    obtain ⟨w, hw⟩ := Option.isSome_iff_exists.mp hi
    have := (List.getElem?_eq_some_iff.mp hw).1
    omega
  exact lv_astore_n E.1 E.2.1 hd rfl P.1.has hn rfl (fun ls1 h1 => kk p e R s m args below meth c E H locs cells slots ls1 ⟨P.1.stored rfl h1, P.2⟩)
theorem x_astoreR {i : Nat} {x : Nat} (hd : decode M.2.1 pc = .ok (.astore i, 2)) (hi : (lv[i]?).isSome = true) (kk : Jx G M d Q (pc + 2) (lv.set i (some (.ref x))) st h) : Jx G M d Q pc lv ((.ref x) :: st) h := by
  intro p e R s m args below meth c E H locs cells slots ls P
  have hn : i < M.2.2.1 := by
    have := P.1.2.2.1
    obtain ⟨w, hw⟩ := Option.isSome_iff_exists.mp hi
    have := (List.getElem?_eq_some_iff.mp hw).1
    omega
  exact lv_astore E.1 E.2.1 hd P.1.has hn rfl (fun ls1 h1 => kk p e R s m args below meth c E H locs cells slots ls1 ⟨P.1.stored rfl h1, P.2⟩)
theorem x_astore_nN {k : Fin 4} (hd : decode M.2.1 pc = .ok (.astore_n k, 1)) (hi : (lv[k.val]?).isSome = true) (kk : Jx G M d Q (pc + 1) (lv.set k.val (some Value.null)) st h) : Jx G M d Q pc lv (Value.null :: st) h := by
  intro p e R s m args below meth c E H locs cells slots ls P
  have hn : k.val < M.2.2.1 := by
    have := P.1.2.2.1
    obtain ⟨w, hw⟩ := Option.isSome_iff_exists.mp hi
    have := (List.getElem?_eq_some_iff.mp hw).1
    omega
  exact lv_astore_nN E.1 E.2.1 hd rfl P.1.has hn rfl (fun ls1 h1 => kk p e R s m args below meth c E H locs cells slots ls1 ⟨P.1.stored rfl h1, P.2⟩)
theorem x_astoreN {i : Nat} (hd : decode M.2.1 pc = .ok (.astore i, 2)) (hi : (lv[i]?).isSome = true) (kk : Jx G M d Q (pc + 2) (lv.set i (some Value.null)) st h) : Jx G M d Q pc lv (Value.null :: st) h := by
  intro p e R s m args below meth c E H locs cells slots ls P
  have hn : i < M.2.2.1 := by
    have := P.1.2.2.1
    obtain ⟨w, hw⟩ := Option.isSome_iff_exists.mp hi
    have := (List.getElem?_eq_some_iff.mp hw).1
    omega
  exact lv_astoreN E.1 E.2.1 hd P.1.has hn rfl (fun ls1 h1 => kk p e R s m args below meth c E H locs cells slots ls1 ⟨P.1.stored rfl h1, P.2⟩)
theorem x_astore_n {k : Fin 4} {v : Value} (hd : decode M.2.1 pc = .ok (.astore_n k, 1)) (hi : (lv[k.val]?).isSome = true) (hr : v.isRef = true) (kk : Jx G M d Q (pc + 1) (lv.set k.val (some v)) st h) : Jx G M d Q pc lv (v :: st) h := by
  cases v with
  | ref x => exact x_astore_nR hd hi kk
  | null => exact x_astore_nN hd hi kk
  | _ => simp [Value.isRef] at hr
theorem x_astore {i : Nat} {v : Value} (hd : decode M.2.1 pc = .ok (.astore i, 2)) (hi : (lv[i]?).isSome = true) (hr : v.isRef = true) (kk : Jx G M d Q (pc + 2) (lv.set i (some v)) st h) : Jx G M d Q pc lv (v :: st) h := by
  cases v with
  | ref x => exact x_astoreR hd hi kk
  | null => exact x_astoreN hd hi kk
  | _ => simp [Value.isRef] at hr
theorem x_iinc {i : Nat} {n : Int} {x v : Int32} (hd : decode M.2.1 pc = .ok (.iinc i n, 3)) (hl : lv[i]? = some (some (.int x))) (hv : x + Int32.ofInt n = v) (kk : Jx G M d Q (pc + 3) (lv.set i (some (.int v))) st h) : Jx G M d Q pc lv st h := by
  intro p e R s m args below meth c E H locs cells slots ls P
  have hn : i < M.2.2.1 := by
    have := P.1.2.2.1
    have := (List.getElem?_eq_some_iff.mp hl).1
    omega
  obtain ⟨k, hk⟩ := List.getElem?_of_mem ((lvA_mem lv 0 i (.int x)).mpr ⟨i, by omega, hl⟩)
  exact lv_iinc E.1 E.2.1 hd P.1.has hk hv hn rfl (fun ls1 h1 => kk p e R s m args below meth c E H locs cells slots ls1 ⟨P.1.stored rfl h1, P.2⟩)
theorem x_iadd {x y : Int32} (hd : decode M.2.1 pc = .ok (.iadd, 1)) (kk : Jx G M d Q (pc + 1) lv (.int (x + y) :: st) h) : Jx G M d Q pc lv (.int y :: .int x :: st) h := by
  intro p e R s m args below meth c E H locs cells slots ls P
  exact lv_iadd E.1 E.2.1 hd (kk p e R s m args below meth c E H locs cells slots ls P)
theorem x_isub {x y : Int32} (hd : decode M.2.1 pc = .ok (.isub, 1)) (kk : Jx G M d Q (pc + 1) lv (.int (x - y) :: st) h) : Jx G M d Q pc lv (.int y :: .int x :: st) h := by
  intro p e R s m args below meth c E H locs cells slots ls P
  exact lv_isub E.1 E.2.1 hd (kk p e R s m args below meth c E H locs cells slots ls P)
theorem x_imul {x y : Int32} (hd : decode M.2.1 pc = .ok (.imul, 1)) (kk : Jx G M d Q (pc + 1) lv (.int (x * y) :: st) h) : Jx G M d Q pc lv (.int y :: .int x :: st) h := by
  intro p e R s m args below meth c E H locs cells slots ls P
  exact lv_imul E.1 E.2.1 hd (kk p e R s m args below meth c E H locs cells slots ls P)
theorem x_iand {x y : Int32} (hd : decode M.2.1 pc = .ok (.iand, 1)) (kk : Jx G M d Q (pc + 1) lv (.int (x &&& y) :: st) h) : Jx G M d Q pc lv (.int y :: .int x :: st) h := by
  intro p e R s m args below meth c E H locs cells slots ls P
  exact lv_iand E.1 E.2.1 hd (kk p e R s m args below meth c E H locs cells slots ls P)
theorem x_iushr {x y v : Int32} (hd : decode M.2.1 pc = .ok (.iushr, 1)) (hv : (x.toUInt32 >>> (y.toUInt32 &&& Int32.toUInt32 31)).toInt32 = v) (kk : Jx G M d Q (pc + 1) lv (.int v :: st) h) : Jx G M d Q pc lv (.int y :: .int x :: st) h := by
  intro p e R s m args below meth c E H locs cells slots ls P
  exact lv_iushr E.1 E.2.1 hd hv (kk p e R s m args below meth c E H locs cells slots ls P)
theorem x_ishr {x y v : Int32} (hd : decode M.2.1 pc = .ok (.ishr, 1)) (hv : x >>> (y &&& 31) = v) (kk : Jx G M d Q (pc + 1) lv (.int v :: st) h) : Jx G M d Q pc lv (.int y :: .int x :: st) h := by
  intro p e R s m args below meth c E H locs cells slots ls P
  exact (by subst hv; exact lv_ishr E.1 E.2.1 hd (kk p e R s m args below meth c E H locs cells slots ls P))
theorem x_i2l {x : Int32} (hd : decode M.2.1 pc = .ok (.i2l, 1)) (kk : Jx G M d Q (pc + 1) lv (.long x.toInt64 :: st) h) : Jx G M d Q pc lv (.int x :: st) h := by
  intro p e R s m args below meth c E H locs cells slots ls P
  exact lv_i2l E.1 E.2.1 hd rfl (kk p e R s m args below meth c E H locs cells slots ls P)
theorem x_lcmp {x y : Int64} (hd : decode M.2.1 pc = .ok (.lcmp, 1)) (kk : Jx G M d Q (pc + 1) lv (.int (lg_cmp x y) :: st) h) : Jx G M d Q pc lv (.long y :: .long x :: st) h := by
  intro p e R s m args below meth c E H locs cells slots ls P
  exact W.lcmp E.1 E.2.1 hd (kk p e R s m args below meth c E H locs cells slots ls P)
theorem x_dup {v : Value} (hd : decode M.2.1 pc = .ok (.dup, 1)) (hv : v.category = 1) (kk : Jx G M d Q (pc + 1) lv (v :: v :: st) h) : Jx G M d Q pc lv (v :: st) h := by
  intro p e R s m args below meth c E H locs cells slots ls P
  exact lv_dup E.1 E.2.1 hd hv (kk p e R s m args below meth c E H locs cells slots ls P)
theorem x_pop {v : Value} (hd : decode M.2.1 pc = .ok (.pop, 1)) (hv : v.category = 1) (kk : Jx G M d Q (pc + 1) lv st h) : Jx G M d Q pc lv (v :: st) h := by
  intro p e R s m args below meth c E H locs cells slots ls P
  exact lv_pop E.1 E.2.1 hd hv (kk p e R s m args below meth c E H locs cells slots ls P)
theorem x_dup_x1 {v w : Value} (hd : decode M.2.1 pc = .ok (.dup_x1, 1)) (hv : v.category = 1) (hw : w.category = 1) (kk : Jx G M d Q (pc + 1) lv (v :: w :: v :: st) h) : Jx G M d Q pc lv (v :: w :: st) h := by
  intro p e R s m args below meth c E H locs cells slots ls P
  exact lv_dup_x1 E.1 E.2.1 hd hv hw (kk p e R s m args below meth c E H locs cells slots ls P)
theorem x_dup2 {v w : Value} (hd : decode M.2.1 pc = .ok (.dup2, 1)) (hv : v.category = 1) (hw : w.category = 1) (kk : Jx G M d Q (pc + 1) lv (v :: w :: v :: w :: st) h) : Jx G M d Q pc lv (v :: w :: st) h := by
  intro p e R s m args below meth c E H locs cells slots ls P
  exact lv_dup2_11 E.1 E.2.1 hd hv hw (kk p e R s m args below meth c E H locs cells slots ls P)
theorem x_null (hd : decode M.2.1 pc = .ok (.aconst_null, 1)) (kk : Jx G M d Q (pc + 1) lv (.null :: st) h) : Jx G M d Q pc lv st h := by
  intro p e R s m args below meth c E H locs cells slots ls P
  exact lv_null E.1 E.2.1 hd (kk p e R s m args below meth c E H locs cells slots ls P)
theorem x_goto {off : Int} {tgt : Nat} (hd : decode M.2.1 pc = .ok (.goto off, 3)) (ht : (pc : Int) + off = (tgt : Int)) (kk : Jx G M d Q tgt lv st h) : Jx G M d Q pc lv st h := by
  intro p e R s m args below meth c E H locs cells slots ls P
  exact lv_goto E.1 E.2.1 hd ht (kk p e R s m args below meth c E H locs cells slots ls P)
theorem x_if_eq {x : Int32} {off : Int} {tgt : Nat} (hd : decode M.2.1 pc = .ok (.ifCond .eq off, 3)) (ht : (pc : Int) + off = (tgt : Int)) (kt : x = 0 → Jx G M d Q tgt lv st h) (kf : ¬ x = 0 → Jx G M d Q (pc + 3) lv st h) : Jx G M d Q pc lv (.int x :: st) h := by
  intro p e R s m args below meth c E H locs cells slots ls P
  exact lv_if_eq E.1 E.2.1 hd ht (fun q => kt q p e R s m args below meth c E H locs cells slots ls P) (fun q => kf q p e R s m args below meth c E H locs cells slots ls P)
theorem x_icmp_eq {x y : Int32} {off : Int} {tgt : Nat} (hd : decode M.2.1 pc = .ok (.if_icmp .eq off, 3)) (ht : (pc : Int) + off = (tgt : Int)) (kt : x = y → Jx G M d Q tgt lv st h) (kf : ¬ x = y → Jx G M d Q (pc + 3) lv st h) : Jx G M d Q pc lv (.int y :: .int x :: st) h := by
  intro p e R s m args below meth c E H locs cells slots ls P
  exact lv_icmp_eq E.1 E.2.1 hd ht (fun q => kt q p e R s m args below meth c E H locs cells slots ls P) (fun q => kf q p e R s m args below meth c E H locs cells slots ls P)
theorem x_if_ne {x : Int32} {off : Int} {tgt : Nat} (hd : decode M.2.1 pc = .ok (.ifCond .ne off, 3)) (ht : (pc : Int) + off = (tgt : Int)) (kt : ¬ x = 0 → Jx G M d Q tgt lv st h) (kf : x = 0 → Jx G M d Q (pc + 3) lv st h) : Jx G M d Q pc lv (.int x :: st) h := by
  intro p e R s m args below meth c E H locs cells slots ls P
  exact lv_if_ne E.1 E.2.1 hd ht (fun q => kt q p e R s m args below meth c E H locs cells slots ls P) (fun q => kf q p e R s m args below meth c E H locs cells slots ls P)
theorem x_icmp_ne {x y : Int32} {off : Int} {tgt : Nat} (hd : decode M.2.1 pc = .ok (.if_icmp .ne off, 3)) (ht : (pc : Int) + off = (tgt : Int)) (kt : ¬ x = y → Jx G M d Q tgt lv st h) (kf : x = y → Jx G M d Q (pc + 3) lv st h) : Jx G M d Q pc lv (.int y :: .int x :: st) h := by
  intro p e R s m args below meth c E H locs cells slots ls P
  exact lv_icmp_ne E.1 E.2.1 hd ht (fun q => kt q p e R s m args below meth c E H locs cells slots ls P) (fun q => kf q p e R s m args below meth c E H locs cells slots ls P)
theorem x_if_lt {x : Int32} {off : Int} {tgt : Nat} (hd : decode M.2.1 pc = .ok (.ifCond .lt off, 3)) (ht : (pc : Int) + off = (tgt : Int)) (kt : x < 0 → Jx G M d Q tgt lv st h) (kf : ¬ x < 0 → Jx G M d Q (pc + 3) lv st h) : Jx G M d Q pc lv (.int x :: st) h := by
  intro p e R s m args below meth c E H locs cells slots ls P
  exact lv_if_lt E.1 E.2.1 hd ht (fun q => kt q p e R s m args below meth c E H locs cells slots ls P) (fun q => kf q p e R s m args below meth c E H locs cells slots ls P)
theorem x_icmp_lt {x y : Int32} {off : Int} {tgt : Nat} (hd : decode M.2.1 pc = .ok (.if_icmp .lt off, 3)) (ht : (pc : Int) + off = (tgt : Int)) (kt : x < y → Jx G M d Q tgt lv st h) (kf : ¬ x < y → Jx G M d Q (pc + 3) lv st h) : Jx G M d Q pc lv (.int y :: .int x :: st) h := by
  intro p e R s m args below meth c E H locs cells slots ls P
  exact lv_icmp_lt E.1 E.2.1 hd ht (fun q => kt q p e R s m args below meth c E H locs cells slots ls P) (fun q => kf q p e R s m args below meth c E H locs cells slots ls P)
theorem x_if_ge {x : Int32} {off : Int} {tgt : Nat} (hd : decode M.2.1 pc = .ok (.ifCond .ge off, 3)) (ht : (pc : Int) + off = (tgt : Int)) (kt : 0 ≤ x → Jx G M d Q tgt lv st h) (kf : ¬ 0 ≤ x → Jx G M d Q (pc + 3) lv st h) : Jx G M d Q pc lv (.int x :: st) h := by
  intro p e R s m args below meth c E H locs cells slots ls P
  exact lv_if_ge E.1 E.2.1 hd ht (fun q => kt q p e R s m args below meth c E H locs cells slots ls P) (fun q => kf q p e R s m args below meth c E H locs cells slots ls P)
theorem x_icmp_ge {x y : Int32} {off : Int} {tgt : Nat} (hd : decode M.2.1 pc = .ok (.if_icmp .ge off, 3)) (ht : (pc : Int) + off = (tgt : Int)) (kt : y ≤ x → Jx G M d Q tgt lv st h) (kf : ¬ y ≤ x → Jx G M d Q (pc + 3) lv st h) : Jx G M d Q pc lv (.int y :: .int x :: st) h := by
  intro p e R s m args below meth c E H locs cells slots ls P
  exact lv_icmp_ge E.1 E.2.1 hd ht (fun q => kt q p e R s m args below meth c E H locs cells slots ls P) (fun q => kf q p e R s m args below meth c E H locs cells slots ls P)
theorem x_if_gt {x : Int32} {off : Int} {tgt : Nat} (hd : decode M.2.1 pc = .ok (.ifCond .gt off, 3)) (ht : (pc : Int) + off = (tgt : Int)) (kt : 0 < x → Jx G M d Q tgt lv st h) (kf : ¬ 0 < x → Jx G M d Q (pc + 3) lv st h) : Jx G M d Q pc lv (.int x :: st) h := by
  intro p e R s m args below meth c E H locs cells slots ls P
  exact lv_if_gt E.1 E.2.1 hd ht (fun q => kt q p e R s m args below meth c E H locs cells slots ls P) (fun q => kf q p e R s m args below meth c E H locs cells slots ls P)
theorem x_icmp_gt {x y : Int32} {off : Int} {tgt : Nat} (hd : decode M.2.1 pc = .ok (.if_icmp .gt off, 3)) (ht : (pc : Int) + off = (tgt : Int)) (kt : y < x → Jx G M d Q tgt lv st h) (kf : ¬ y < x → Jx G M d Q (pc + 3) lv st h) : Jx G M d Q pc lv (.int y :: .int x :: st) h := by
  intro p e R s m args below meth c E H locs cells slots ls P
  exact lv_icmp_gt E.1 E.2.1 hd ht (fun q => kt q p e R s m args below meth c E H locs cells slots ls P) (fun q => kf q p e R s m args below meth c E H locs cells slots ls P)
theorem x_if_le {x : Int32} {off : Int} {tgt : Nat} (hd : decode M.2.1 pc = .ok (.ifCond .le off, 3)) (ht : (pc : Int) + off = (tgt : Int)) (kt : x ≤ 0 → Jx G M d Q tgt lv st h) (kf : ¬ x ≤ 0 → Jx G M d Q (pc + 3) lv st h) : Jx G M d Q pc lv (.int x :: st) h := by
  intro p e R s m args below meth c E H locs cells slots ls P
  exact lv_if_le E.1 E.2.1 hd ht (fun q => kt q p e R s m args below meth c E H locs cells slots ls P) (fun q => kf q p e R s m args below meth c E H locs cells slots ls P)
theorem x_icmp_le {x y : Int32} {off : Int} {tgt : Nat} (hd : decode M.2.1 pc = .ok (.if_icmp .le off, 3)) (ht : (pc : Int) + off = (tgt : Int)) (kt : x ≤ y → Jx G M d Q tgt lv st h) (kf : ¬ x ≤ y → Jx G M d Q (pc + 3) lv st h) : Jx G M d Q pc lv (.int y :: .int x :: st) h := by
  intro p e R s m args below meth c E H locs cells slots ls P
  exact lv_icmp_le E.1 E.2.1 hd ht (fun q => kt q p e R s m args below meth c E H locs cells slots ls P) (fun q => kf q p e R s m args below meth c E H locs cells slots ls P)
theorem x_acmp_eq {rx ry : Option Nat} {off : Int} {tgt : Nat} (hd : decode M.2.1 pc = .ok (.if_acmp .eq off, 3)) (ht : (pc : Int) + off = (tgt : Int)) (kt : rx = ry → Jx G M d Q tgt lv st h) (kf : ¬ rx = ry → Jx G M d Q (pc + 3) lv st h) : Jx G M d Q pc lv (va_rf ry :: va_rf rx :: st) h := by
  intro p e R s m args below meth c E H locs cells slots ls P
  exact lv_acmp_eq E.1 E.2.1 hd ht (fun q => kt q p e R s m args below meth c E H locs cells slots ls P) (fun q => kf q p e R s m args below meth c E H locs cells slots ls P)
theorem x_acmp_ne {rx ry : Option Nat} {off : Int} {tgt : Nat} (hd : decode M.2.1 pc = .ok (.if_acmp .ne off, 3)) (ht : (pc : Int) + off = (tgt : Int)) (kt : ¬ rx = ry → Jx G M d Q tgt lv st h) (kf : rx = ry → Jx G M d Q (pc + 3) lv st h) : Jx G M d Q pc lv (va_rf ry :: va_rf rx :: st) h := by
  intro p e R s m args below meth c E H locs cells slots ls P
  exact lv_acmp_ne E.1 E.2.1 hd ht (fun q => kt q p e R s m args below meth c E H locs cells slots ls P) (fun q => kf q p e R s m args below meth c E H locs cells slots ls P)
theorem x_ifnull {r : Option Nat} {off : Int} {tgt : Nat} (hd : decode M.2.1 pc = .ok (.ifnull off, 3)) (ht : (pc : Int) + off = (tgt : Int)) (kt : r = none → Jx G M d Q tgt lv st h) (kf : ∀ a, r = some a → Jx G M d Q (pc + 3) lv st h) : Jx G M d Q pc lv (va_rf r :: st) h := by
  intro p e R s m args below meth c E H locs cells slots ls P
  cases r with
  | none => exact lv_ifnullN E.1 E.2.1 hd ht (kt rfl p e R s m args below meth c E H locs cells slots ls P)
  | some a => exact lv_ifnull E.1 E.2.1 hd (kf a rfl p e R s m args below meth c E H locs cells slots ls P)
theorem x_ifnonnull {r : Option Nat} {off : Int} {tgt : Nat} (hd : decode M.2.1 pc = .ok (.ifnonnull off, 3)) (ht : (pc : Int) + off = (tgt : Int)) (kt : ∀ a, r = some a → Jx G M d Q tgt lv st h) (kf : r = none → Jx G M d Q (pc + 3) lv st h) : Jx G M d Q pc lv (va_rf r :: st) h := by
  intro p e R s m args below meth c E H locs cells slots ls P
  cases r with
  | none => exact lv_ifnonnullN E.1 E.2.1 hd (kf rfl p e R s m args below meth c E H locs cells slots ls P)
  | some a => exact lv_ifnonnull E.1 E.2.1 hd ht (kt a rfl p e R s m args below meth c E H locs cells slots ls P)
theorem x_tableOut {dflt lo hi : Int} {offs : Array Int} {len : Nat} {x : Int32} {tgt : Nat} (hd : decode M.2.1 pc = .ok (.tableswitch dflt lo hi offs, len)) (hx : x.toInt < lo ∨ hi < x.toInt) (ht : (pc : Int) + dflt = (tgt : Int)) (kk : Jx G M d Q tgt lv st h) : Jx G M d Q pc lv (.int x :: st) h := by
  intro p e R s m args below meth c E H locs cells slots ls P
  exact lv_tableOut E.1 E.2.1 hd hx ht (kk p e R s m args below meth c E H locs cells slots ls P)
theorem x_tableIn {dflt lo hi : Int} {offs : Array Int} {len : Nat} {x : Int32} {off : Int} {tgt : Nat} (hd : decode M.2.1 pc = .ok (.tableswitch dflt lo hi offs, len)) (h1 : ¬ x.toInt < lo) (h2 : ¬ hi < x.toInt) (ho : offs[(x.toInt - lo).toNat]? = some off) (ht : (pc : Int) + off = (tgt : Int)) (kk : Jx G M d Q tgt lv st h) : Jx G M d Q pc lv (.int x :: st) h := by
  intro p e R s m args below meth c E H locs cells slots ls P
  exact lv_tableIn E.1 E.2.1 hd h1 h2 ho ht (kk p e R s m args below meth c E H locs cells slots ls P)
theorem x_ldc {index : Nat} {v : Int32} (hd : decode M.2.1 pc = .ok (.ldc index, 2)) (hw : Cond.constant M.1.cls index v ∈ TT) (kk : Jx G M d Q (pc + 2) lv (.int v :: st) h) : Jx G M d Q pc lv st h := by
  intro p e R s m args below meth c E H locs cells slots ls P
  exact lv_ldc E.1 E.2.1 E.2.2.2.2.2.1 (E.2.2.2.2.2.2.2.2.2.2.word hw) hd (kk p e R s m args below meth c E H locs cells slots ls P)
theorem x_ldcw {index : Nat} {v : Int32} (hd : decode M.2.1 pc = .ok (.ldc_w index, 3)) (hw : Cond.constant M.1.cls index v ∈ TT) (kk : Jx G M d Q (pc + 3) lv (.int v :: st) h) : Jx G M d Q pc lv st h := by
  intro p e R s m args below meth c E H locs cells slots ls P
  exact lv_ldcw E.1 E.2.1 E.2.2.2.2.2.1 (E.2.2.2.2.2.2.2.2.2.2.word hw) hd (kk p e R s m args below meth c E H locs cells slots ls P)
theorem x_ireturn {v : Int32} (hd : decode M.2.1 pc = .ok (.ireturn, 1)) (hr : M.2.2.2.1 = some .int) (hq : Q (.returned (some (.int v))) h) : Jx G M d Q pc lv [.int v] h := by
  intro p e R s m args below meth c E H locs cells slots ls P
  refine W.monoQ (Q := MQ below (fun _ s o t => o = .returned (some (.int v)) ∧ t.heap = H) args s cells slots (fun q => gb G ≤ q)) ?_ (W.iret E.1 E.2.1 (E.2.2.1.trans hr) (fun t ht _ => ⟨rfl, ht⟩) P.2.2.1 hd E.2.2.2.1)
  rintro t ⟨o, a1, a2, ⟨rfl, a3⟩, L, ⟨-, a4, a5⟩, a6⟩
  exact ⟨_, h, L, cells, slots, a1, a2, hq, by rw [a3]; exact P.2.1, ⟨a4, a5⟩, a6, P.2.2.2.1, P.2.2.2.2⟩
theorem x_zreturn {v : Int32} (hd : decode M.2.1 pc = .ok (.ireturn, 1)) (hr : M.2.2.2.1 = some .boolean) (hn : narrow .boolean (.int v) = .int v) (hq : Q (.returned (some (.int v))) h) : Jx G M d Q pc lv [.int v] h := by
  intro p e R s m args below meth c E H locs cells slots ls P
  refine W.monoQ (Q := MQ below (fun _ s o t => o = .returned (some (.int v)) ∧ t.heap = H) args s cells slots (fun q => gb G ≤ q)) ?_ (W.zret E.1 E.2.1 (E.2.2.1.trans hr) hn (fun t ht _ => ⟨rfl, ht⟩) P.2.2.1 hd E.2.2.2.1)
  rintro t ⟨o, a1, a2, ⟨rfl, a3⟩, L, ⟨-, a4, a5⟩, a6⟩
  exact ⟨_, h, L, cells, slots, a1, a2, hq, by rw [a3]; exact P.2.1, ⟨a4, a5⟩, a6, P.2.2.2.1, P.2.2.2.2⟩
theorem x_vreturn (hd : decode M.2.1 pc = .ok (.return_, 1)) (hr : M.2.2.2.1 = none) (hq : Q (.returned none) h) : Jx G M d Q pc lv [] h := by
  intro p e R s m args below meth c E H locs cells slots ls P
  refine W.monoQ (Q := MQ below (fun _ s o t => o = .returned none ∧ t.heap = H) args s cells slots (fun q => gb G ≤ q)) ?_ (W.vret E.1 E.2.1 (E.2.2.1.trans hr) (fun t ht _ => ⟨rfl, ht⟩) P.2.2.1 hd E.2.2.2.1)
  rintro t ⟨o, a1, a2, ⟨rfl, a3⟩, L, ⟨-, a4, a5⟩, a6⟩
  exact ⟨_, h, L, cells, slots, a1, a2, hq, by rw [a3]; exact P.2.1, ⟨a4, a5⟩, a6, P.2.2.2.1, P.2.2.2.2⟩
theorem x_areturn {v : Value} {rt : FieldType} (hd : decode M.2.1 pc = .ok (.areturn, 1)) (hr : M.2.2.2.1 = some rt) (hrt : (∃ n, rt = .object n) ∨ ∃ t, rt = .array t) (hv : v = .null ∨ ∃ a, v = .ref a) (hq : Q (.returned (some v)) h) : Jx G M d Q pc lv [v] h := by
  intro p e R s m args below meth c E H locs cells slots ls P
  refine W.monoQ (Q := MQ below (fun _ s o t => o = .returned (some v) ∧ t.heap = H) args s cells slots (fun q => gb G ≤ q)) ?_ (W.aret E.1 E.2.1 (E.2.2.1.trans hr) hrt hv (fun t ht _ => ⟨rfl, ht⟩) P.2.2.1 hd E.2.2.2.1)
  rintro t ⟨o, a1, a2, ⟨rfl, a3⟩, L, ⟨-, a4, a5⟩, a6⟩
  exact ⟨_, h, L, cells, slots, a1, a2, hq, by rw [a3]; exact P.2.1, ⟨a4, a5⟩, a6, P.2.2.2.1, P.2.2.2.2⟩
end OPS
