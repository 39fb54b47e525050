section KCX
variable {G : GT} {M : MD} {d : Nat} {Q : Outcome → Hp → Prop} {pc : Nat} {lv : List (Option Value)} {rest st : List Value} {h : Hp}
theorem kc_v {v : Value} (hr : rest = st) (kk : Jx G M d Q pc lv (v :: st) h) : Kc G M d Q pc lv rest (.returned (some v)) h := by subst hr; exact kk
theorem kc_n (hr : rest = st) (kk : Jx G M d Q pc lv st h) : Kc G M d Q pc lv rest (.returned none) h := by subst hr; exact kk
theorem kc_t {x : Addr} (kk : Q (.threw x) h) : Kc G M d Q pc lv rest (.threw x) h := kk
end KCX
theorem dr_1 {a0 : Value} {t : List Value} : List.drop 1 (a0 :: t) = t := rfl
theorem dr_2 {a0 a1 : Value} {t : List Value} : List.drop 2 (a0 :: a1 :: t) = t := rfl
theorem dr_3 {a0 a1 a2 : Value} {t : List Value} : List.drop 3 (a0 :: a1 :: a2 :: t) = t := rfl
theorem dr_4 {a0 a1 a2 a3 : Value} {t : List Value} : List.drop 4 (a0 :: a1 :: a2 :: a3 :: t) = t := rfl
theorem dr_5 {a0 a1 a2 a3 a4 : Value} {t : List Value} : List.drop 5 (a0 :: a1 :: a2 :: a3 :: a4 :: t) = t := rfl
theorem dr_6 {a0 a1 a2 a3 a4 a5 : Value} {t : List Value} : List.drop 6 (a0 :: a1 :: a2 :: a3 :: a4 :: a5 :: t) = t := rfl
theorem dr_7 {a0 a1 a2 a3 a4 a5 a6 : Value} {t : List Value} : List.drop 7 (a0 :: a1 :: a2 :: a3 :: a4 :: a5 :: a6 :: t) = t := rfl
theorem dr_8 {a0 a1 a2 a3 a4 a5 a6 a7 : Value} {t : List Value} : List.drop 8 (a0 :: a1 :: a2 :: a3 :: a4 :: a5 :: a6 :: a7 :: t) = t := rfl
theorem dr_9 {a0 a1 a2 a3 a4 a5 a6 a7 a8 : Value} {t : List Value} : List.drop 9 (a0 :: a1 :: a2 :: a3 :: a4 :: a5 :: a6 :: a7 :: a8 :: t) = t := rfl
theorem dr_10 {a0 a1 a2 a3 a4 a5 a6 a7 a8 a9 : Value} {t : List Value} : List.drop 10 (a0 :: a1 :: a2 :: a3 :: a4 :: a5 :: a6 :: a7 :: a8 :: a9 :: t) = t := rfl
theorem dr_11 {a0 a1 a2 a3 a4 a5 a6 a7 a8 a9 a10 : Value} {t : List Value} : List.drop 11 (a0 :: a1 :: a2 :: a3 :: a4 :: a5 :: a6 :: a7 :: a8 :: a9 :: a10 :: t) = t := rfl
