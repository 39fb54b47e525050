theorem lvs_1_0 {l0 v : Option Value} : List.set [l0] 0 v = [v] := rfl
theorem lvs_2_0 {l0 l1 v : Option Value} : List.set [l0, l1] 0 v = [v, l1] := rfl
theorem lvs_2_1 {l0 l1 v : Option Value} : List.set [l0, l1] 1 v = [l0, v] := rfl
theorem lvs_3_0 {l0 l1 l2 v : Option Value} : List.set [l0, l1, l2] 0 v = [v, l1, l2] := rfl
theorem lvs_3_1 {l0 l1 l2 v : Option Value} : List.set [l0, l1, l2] 1 v = [l0, v, l2] := rfl
theorem lvs_3_2 {l0 l1 l2 v : Option Value} : List.set [l0, l1, l2] 2 v = [l0, l1, v] := rfl
theorem lvs_4_0 {l0 l1 l2 l3 v : Option Value} : List.set [l0, l1, l2, l3] 0 v = [v, l1, l2, l3] := rfl
theorem lvs_4_1 {l0 l1 l2 l3 v : Option Value} : List.set [l0, l1, l2, l3] 1 v = [l0, v, l2, l3] := rfl
theorem lvs_4_2 {l0 l1 l2 l3 v : Option Value} : List.set [l0, l1, l2, l3] 2 v = [l0, l1, v, l3] := rfl
theorem lvs_4_3 {l0 l1 l2 l3 v : Option Value} : List.set [l0, l1, l2, l3] 3 v = [l0, l1, l2, v] := rfl
theorem lvs_5_0 {l0 l1 l2 l3 l4 v : Option Value} : List.set [l0, l1, l2, l3, l4] 0 v = [v, l1, l2, l3, l4] := rfl
theorem lvs_5_1 {l0 l1 l2 l3 l4 v : Option Value} : List.set [l0, l1, l2, l3, l4] 1 v = [l0, v, l2, l3, l4] := rfl
theorem lvs_5_2 {l0 l1 l2 l3 l4 v : Option Value} : List.set [l0, l1, l2, l3, l4] 2 v = [l0, l1, v, l3, l4] := rfl
theorem lvs_5_3 {l0 l1 l2 l3 l4 v : Option Value} : List.set [l0, l1, l2, l3, l4] 3 v = [l0, l1, l2, v, l4] := rfl
theorem lvs_5_4 {l0 l1 l2 l3 l4 v : Option Value} : List.set [l0, l1, l2, l3, l4] 4 v = [l0, l1, l2, l3, v] := rfl
theorem lvs_6_0 {l0 l1 l2 l3 l4 l5 v : Option Value} : List.set [l0, l1, l2, l3, l4, l5] 0 v = [v, l1, l2, l3, l4, l5] := rfl
theorem lvs_6_1 {l0 l1 l2 l3 l4 l5 v : Option Value} : List.set [l0, l1, l2, l3, l4, l5] 1 v = [l0, v, l2, l3, l4, l5] := rfl
theorem lvs_6_2 {l0 l1 l2 l3 l4 l5 v : Option Value} : List.set [l0, l1, l2, l3, l4, l5] 2 v = [l0, l1, v, l3, l4, l5] := rfl
theorem lvs_6_3 {l0 l1 l2 l3 l4 l5 v : Option Value} : List.set [l0, l1, l2, l3, l4, l5] 3 v = [l0, l1, l2, v, l4, l5] := rfl
theorem lvs_6_4 {l0 l1 l2 l3 l4 l5 v : Option Value} : List.set [l0, l1, l2, l3, l4, l5] 4 v = [l0, l1, l2, l3, v, l5] := rfl
theorem lvs_6_5 {l0 l1 l2 l3 l4 l5 v : Option Value} : List.set [l0, l1, l2, l3, l4, l5] 5 v = [l0, l1, l2, l3, l4, v] := rfl
theorem lvs_7_0 {l0 l1 l2 l3 l4 l5 l6 v : Option Value} : List.set [l0, l1, l2, l3, l4, l5, l6] 0 v = [v, l1, l2, l3, l4, l5, l6] := rfl
theorem lvs_7_1 {l0 l1 l2 l3 l4 l5 l6 v : Option Value} : List.set [l0, l1, l2, l3, l4, l5, l6] 1 v = [l0, v, l2, l3, l4, l5, l6] := rfl
theorem lvs_7_2 {l0 l1 l2 l3 l4 l5 l6 v : Option Value} : List.set [l0, l1, l2, l3, l4, l5, l6] 2 v = [l0, l1, v, l3, l4, l5, l6] := rfl
theorem lvs_7_3 {l0 l1 l2 l3 l4 l5 l6 v : Option Value} : List.set [l0, l1, l2, l3, l4, l5, l6] 3 v = [l0, l1, l2, v, l4, l5, l6] := rfl
theorem lvs_7_4 {l0 l1 l2 l3 l4 l5 l6 v : Option Value} : List.set [l0, l1, l2, l3, l4, l5, l6] 4 v = [l0, l1, l2, l3, v, l5, l6] := rfl
theorem lvs_7_5 {l0 l1 l2 l3 l4 l5 l6 v : Option Value} : List.set [l0, l1, l2, l3, l4, l5, l6] 5 v = [l0, l1, l2, l3, l4, v, l6] := rfl
theorem lvs_7_6 {l0 l1 l2 l3 l4 l5 l6 v : Option Value} : List.set [l0, l1, l2, l3, l4, l5, l6] 6 v = [l0, l1, l2, l3, l4, l5, v] := rfl
theorem lvs_8_0 {l0 l1 l2 l3 l4 l5 l6 l7 v : Option Value} : List.set [l0, l1, l2, l3, l4, l5, l6, l7] 0 v = [v, l1, l2, l3, l4, l5, l6, l7] := rfl
theorem lvs_8_1 {l0 l1 l2 l3 l4 l5 l6 l7 v : Option Value} : List.set [l0, l1, l2, l3, l4, l5, l6, l7] 1 v = [l0, v, l2, l3, l4, l5, l6, l7] := rfl
theorem lvs_8_2 {l0 l1 l2 l3 l4 l5 l6 l7 v : Option Value} : List.set [l0, l1, l2, l3, l4, l5, l6, l7] 2 v = [l0, l1, v, l3, l4, l5, l6, l7] := rfl
theorem lvs_8_3 {l0 l1 l2 l3 l4 l5 l6 l7 v : Option Value} : List.set [l0, l1, l2, l3, l4, l5, l6, l7] 3 v = [l0, l1, l2, v, l4, l5, l6, l7] := rfl
theorem lvs_8_4 {l0 l1 l2 l3 l4 l5 l6 l7 v : Option Value} : List.set [l0, l1, l2, l3, l4, l5, l6, l7] 4 v = [l0, l1, l2, l3, v, l5, l6, l7] := rfl
theorem lvs_8_5 {l0 l1 l2 l3 l4 l5 l6 l7 v : Option Value} : List.set [l0, l1, l2, l3, l4, l5, l6, l7] 5 v = [l0, l1, l2, l3, l4, v, l6, l7] := rfl
theorem lvs_8_6 {l0 l1 l2 l3 l4 l5 l6 l7 v : Option Value} : List.set [l0, l1, l2, l3, l4, l5, l6, l7] 6 v = [l0, l1, l2, l3, l4, l5, v, l7] := rfl
theorem lvs_8_7 {l0 l1 l2 l3 l4 l5 l6 l7 v : Option Value} : List.set [l0, l1, l2, l3, l4, l5, l6, l7] 7 v = [l0, l1, l2, l3, l4, l5, l6, v] := rfl
theorem lvs_9_0 {l0 l1 l2 l3 l4 l5 l6 l7 l8 v : Option Value} : List.set [l0, l1, l2, l3, l4, l5, l6, l7, l8] 0 v = [v, l1, l2, l3, l4, l5, l6, l7, l8] := rfl
theorem lvs_9_1 {l0 l1 l2 l3 l4 l5 l6 l7 l8 v : Option Value} : List.set [l0, l1, l2, l3, l4, l5, l6, l7, l8] 1 v = [l0, v, l2, l3, l4, l5, l6, l7, l8] := rfl
theorem lvs_9_2 {l0 l1 l2 l3 l4 l5 l6 l7 l8 v : Option Value} : List.set [l0, l1, l2, l3, l4, l5, l6, l7, l8] 2 v = [l0, l1, v, l3, l4, l5, l6, l7, l8] := rfl
theorem lvs_9_3 {l0 l1 l2 l3 l4 l5 l6 l7 l8 v : Option Value} : List.set [l0, l1, l2, l3, l4, l5, l6, l7, l8] 3 v = [l0, l1, l2, v, l4, l5, l6, l7, l8] := rfl
theorem lvs_9_4 {l0 l1 l2 l3 l4 l5 l6 l7 l8 v : Option Value} : List.set [l0, l1, l2, l3, l4, l5, l6, l7, l8] 4 v = [l0, l1, l2, l3, v, l5, l6, l7, l8] := rfl
theorem lvs_9_5 {l0 l1 l2 l3 l4 l5 l6 l7 l8 v : Option Value} : List.set [l0, l1, l2, l3, l4, l5, l6, l7, l8] 5 v = [l0, l1, l2, l3, l4, v, l6, l7, l8] := rfl
theorem lvs_9_6 {l0 l1 l2 l3 l4 l5 l6 l7 l8 v : Option Value} : List.set [l0, l1, l2, l3, l4, l5, l6, l7, l8] 6 v = [l0, l1, l2, l3, l4, l5, v, l7, l8] := rfl
theorem lvs_9_7 {l0 l1 l2 l3 l4 l5 l6 l7 l8 v : Option Value} : List.set [l0, l1, l2, l3, l4, l5, l6, l7, l8] 7 v = [l0, l1, l2, l3, l4, l5, l6, v, l8] := rfl
theorem lvs_9_8 {l0 l1 l2 l3 l4 l5 l6 l7 l8 v : Option Value} : List.set [l0, l1, l2, l3, l4, l5, l6, l7, l8] 8 v = [l0, l1, l2, l3, l4, l5, l6, l7, v] := rfl
theorem lvs_10_0 {l0 l1 l2 l3 l4 l5 l6 l7 l8 l9 v : Option Value} : List.set [l0, l1, l2, l3, l4, l5, l6, l7, l8, l9] 0 v = [v, l1, l2, l3, l4, l5, l6, l7, l8, l9] := rfl
theorem lvs_10_1 {l0 l1 l2 l3 l4 l5 l6 l7 l8 l9 v : Option Value} : List.set [l0, l1, l2, l3, l4, l5, l6, l7, l8, l9] 1 v = [l0, v, l2, l3, l4, l5, l6, l7, l8, l9] := rfl
theorem lvs_10_2 {l0 l1 l2 l3 l4 l5 l6 l7 l8 l9 v : Option Value} : List.set [l0, l1, l2, l3, l4, l5, l6, l7, l8, l9] 2 v = [l0, l1, v, l3, l4, l5, l6, l7, l8, l9] := rfl
theorem lvs_10_3 {l0 l1 l2 l3 l4 l5 l6 l7 l8 l9 v : Option Value} : List.set [l0, l1, l2, l3, l4, l5, l6, l7, l8, l9] 3 v = [l0, l1, l2, v, l4, l5, l6, l7, l8, l9] := rfl
theorem lvs_10_4 {l0 l1 l2 l3 l4 l5 l6 l7 l8 l9 v : Option Value} : List.set [l0, l1, l2, l3, l4, l5, l6, l7, l8, l9] 4 v = [l0, l1, l2, l3, v, l5, l6, l7, l8, l9] := rfl
theorem lvs_10_5 {l0 l1 l2 l3 l4 l5 l6 l7 l8 l9 v : Option Value} : List.set [l0, l1, l2, l3, l4, l5, l6, l7, l8, l9] 5 v = [l0, l1, l2, l3, l4, v, l6, l7, l8, l9] := rfl
theorem lvs_10_6 {l0 l1 l2 l3 l4 l5 l6 l7 l8 l9 v : Option Value} : List.set [l0, l1, l2, l3, l4, l5, l6, l7, l8, l9] 6 v = [l0, l1, l2, l3, l4, l5, v, l7, l8, l9] := rfl
theorem lvs_10_7 {l0 l1 l2 l3 l4 l5 l6 l7 l8 l9 v : Option Value} : List.set [l0, l1, l2, l3, l4, l5, l6, l7, l8, l9] 7 v = [l0, l1, l2, l3, l4, l5, l6, v, l8, l9] := rfl
theorem lvs_10_8 {l0 l1 l2 l3 l4 l5 l6 l7 l8 l9 v : Option Value} : List.set [l0, l1, l2, l3, l4, l5, l6, l7, l8, l9] 8 v = [l0, l1, l2, l3, l4, l5, l6, l7, v, l9] := rfl
theorem lvs_10_9 {l0 l1 l2 l3 l4 l5 l6 l7 l8 l9 v : Option Value} : List.set [l0, l1, l2, l3, l4, l5, l6, l7, l8, l9] 9 v = [l0, l1, l2, l3, l4, l5, l6, l7, l8, v] := rfl
theorem lvs_11_0 {l0 l1 l2 l3 l4 l5 l6 l7 l8 l9 l10 v : Option Value} : List.set [l0, l1, l2, l3, l4, l5, l6, l7, l8, l9, l10] 0 v = [v, l1, l2, l3, l4, l5, l6, l7, l8, l9, l10] := rfl
theorem lvs_11_1 {l0 l1 l2 l3 l4 l5 l6 l7 l8 l9 l10 v : Option Value} : List.set [l0, l1, l2, l3, l4, l5, l6, l7, l8, l9, l10] 1 v = [l0, v, l2, l3, l4, l5, l6, l7, l8, l9, l10] := rfl
theorem lvs_11_2 {l0 l1 l2 l3 l4 l5 l6 l7 l8 l9 l10 v : Option Value} : List.set [l0, l1, l2, l3, l4, l5, l6, l7, l8, l9, l10] 2 v = [l0, l1, v, l3, l4, l5, l6, l7, l8, l9, l10] := rfl
theorem lvs_11_3 {l0 l1 l2 l3 l4 l5 l6 l7 l8 l9 l10 v : Option Value} : List.set [l0, l1, l2, l3, l4, l5, l6, l7, l8, l9, l10] 3 v = [l0, l1, l2, v, l4, l5, l6, l7, l8, l9, l10] := rfl
theorem lvs_11_4 {l0 l1 l2 l3 l4 l5 l6 l7 l8 l9 l10 v : Option Value} : List.set [l0, l1, l2, l3, l4, l5, l6, l7, l8, l9, l10] 4 v = [l0, l1, l2, l3, v, l5, l6, l7, l8, l9, l10] := rfl
theorem lvs_11_5 {l0 l1 l2 l3 l4 l5 l6 l7 l8 l9 l10 v : Option Value} : List.set [l0, l1, l2, l3, l4, l5, l6, l7, l8, l9, l10] 5 v = [l0, l1, l2, l3, l4, v, l6, l7, l8, l9, l10] := rfl
theorem lvs_11_6 {l0 l1 l2 l3 l4 l5 l6 l7 l8 l9 l10 v : Option Value} : List.set [l0, l1, l2, l3, l4, l5, l6, l7, l8, l9, l10] 6 v = [l0, l1, l2, l3, l4, l5, v, l7, l8, l9, l10] := rfl
theorem lvs_11_7 {l0 l1 l2 l3 l4 l5 l6 l7 l8 l9 l10 v : Option Value} : List.set [l0, l1, l2, l3, l4, l5, l6, l7, l8, l9, l10] 7 v = [l0, l1, l2, l3, l4, l5, l6, v, l8, l9, l10] := rfl
theorem lvs_11_8 {l0 l1 l2 l3 l4 l5 l6 l7 l8 l9 l10 v : Option Value} : List.set [l0, l1, l2, l3, l4, l5, l6, l7, l8, l9, l10] 8 v = [l0, l1, l2, l3, l4, l5, l6, l7, v, l9, l10] := rfl
theorem lvs_11_9 {l0 l1 l2 l3 l4 l5 l6 l7 l8 l9 l10 v : Option Value} : List.set [l0, l1, l2, l3, l4, l5, l6, l7, l8, l9, l10] 9 v = [l0, l1, l2, l3, l4, l5, l6, l7, l8, v, l10] := rfl
theorem lvs_11_10 {l0 l1 l2 l3 l4 l5 l6 l7 l8 l9 l10 v : Option Value} : List.set [l0, l1, l2, l3, l4, l5, l6, l7, l8, l9, l10] 10 v = [l0, l1, l2, l3, l4, l5, l6, l7, l8, l9, v] := rfl
theorem lvs_12_0 {l0 l1 l2 l3 l4 l5 l6 l7 l8 l9 l10 l11 v : Option Value} : List.set [l0, l1, l2, l3, l4, l5, l6, l7, l8, l9, l10, l11] 0 v = [v, l1, l2, l3, l4, l5, l6, l7, l8, l9, l10, l11] := rfl
theorem lvs_12_1 {l0 l1 l2 l3 l4 l5 l6 l7 l8 l9 l10 l11 v : Option Value} : List.set [l0, l1, l2, l3, l4, l5, l6, l7, l8, l9, l10, l11] 1 v = [l0, v, l2, l3, l4, l5, l6, l7, l8, l9, l10, l11] := rfl
theorem lvs_12_2 {l0 l1 l2 l3 l4 l5 l6 l7 l8 l9 l10 l11 v : Option Value} : List.set [l0, l1, l2, l3, l4, l5, l6, l7, l8, l9, l10, l11] 2 v = [l0, l1, v, l3, l4, l5, l6, l7, l8, l9, l10, l11] := rfl
theorem lvs_12_3 {l0 l1 l2 l3 l4 l5 l6 l7 l8 l9 l10 l11 v : Option Value} : List.set [l0, l1, l2, l3, l4, l5, l6, l7, l8, l9, l10, l11] 3 v = [l0, l1, l2, v, l4, l5, l6, l7, l8, l9, l10, l11] := rfl
theorem lvs_12_4 {l0 l1 l2 l3 l4 l5 l6 l7 l8 l9 l10 l11 v : Option Value} : List.set [l0, l1, l2, l3, l4, l5, l6, l7, l8, l9, l10, l11] 4 v = [l0, l1, l2, l3, v, l5, l6, l7, l8, l9, l10, l11] := rfl
theorem lvs_12_5 {l0 l1 l2 l3 l4 l5 l6 l7 l8 l9 l10 l11 v : Option Value} : List.set [l0, l1, l2, l3, l4, l5, l6, l7, l8, l9, l10, l11] 5 v = [l0, l1, l2, l3, l4, v, l6, l7, l8, l9, l10, l11] := rfl
theorem lvs_12_6 {l0 l1 l2 l3 l4 l5 l6 l7 l8 l9 l10 l11 v : Option Value} : List.set [l0, l1, l2, l3, l4, l5, l6, l7, l8, l9, l10, l11] 6 v = [l0, l1, l2, l3, l4, l5, v, l7, l8, l9, l10, l11] := rfl
theorem lvs_12_7 {l0 l1 l2 l3 l4 l5 l6 l7 l8 l9 l10 l11 v : Option Value} : List.set [l0, l1, l2, l3, l4, l5, l6, l7, l8, l9, l10, l11] 7 v = [l0, l1, l2, l3, l4, l5, l6, v, l8, l9, l10, l11] := rfl
theorem lvs_12_8 {l0 l1 l2 l3 l4 l5 l6 l7 l8 l9 l10 l11 v : Option Value} : List.set [l0, l1, l2, l3, l4, l5, l6, l7, l8, l9, l10, l11] 8 v = [l0, l1, l2, l3, l4, l5, l6, l7, v, l9, l10, l11] := rfl
theorem lvs_12_9 {l0 l1 l2 l3 l4 l5 l6 l7 l8 l9 l10 l11 v : Option Value} : List.set [l0, l1, l2, l3, l4, l5, l6, l7, l8, l9, l10, l11] 9 v = [l0, l1, l2, l3, l4, l5, l6, l7, l8, v, l10, l11] := rfl
theorem lvs_12_10 {l0 l1 l2 l3 l4 l5 l6 l7 l8 l9 l10 l11 v : Option Value} : List.set [l0, l1, l2, l3, l4, l5, l6, l7, l8, l9, l10, l11] 10 v = [l0, l1, l2, l3, l4, l5, l6, l7, l8, l9, v, l11] := rfl
theorem lvs_12_11 {l0 l1 l2 l3 l4 l5 l6 l7 l8 l9 l10 l11 v : Option Value} : List.set [l0, l1, l2, l3, l4, l5, l6, l7, l8, l9, l10, l11] 11 v = [l0, l1, l2, l3, l4, l5, l6, l7, l8, l9, l10, v] := rfl
theorem lvs_13_0 {l0 l1 l2 l3 l4 l5 l6 l7 l8 l9 l10 l11 l12 v : Option Value} : List.set [l0, l1, l2, l3, l4, l5, l6, l7, l8, l9, l10, l11, l12] 0 v = [v, l1, l2, l3, l4, l5, l6, l7, l8, l9, l10, l11, l12] := rfl
theorem lvs_13_1 {l0 l1 l2 l3 l4 l5 l6 l7 l8 l9 l10 l11 l12 v : Option Value} : List.set [l0, l1, l2, l3, l4, l5, l6, l7, l8, l9, l10, l11, l12] 1 v = [l0, v, l2, l3, l4, l5, l6, l7, l8, l9, l10, l11, l12] := rfl
theorem lvs_13_2 {l0 l1 l2 l3 l4 l5 l6 l7 l8 l9 l10 l11 l12 v : Option Value} : List.set [l0, l1, l2, l3, l4, l5, l6, l7, l8, l9, l10, l11, l12] 2 v = [l0, l1, v, l3, l4, l5, l6, l7, l8, l9, l10, l11, l12] := rfl
theorem lvs_13_3 {l0 l1 l2 l3 l4 l5 l6 l7 l8 l9 l10 l11 l12 v : Option Value} : List.set [l0, l1, l2, l3, l4, l5, l6, l7, l8, l9, l10, l11, l12] 3 v = [l0, l1, l2, v, l4, l5, l6, l7, l8, l9, l10, l11, l12] := rfl
theorem lvs_13_4 {l0 l1 l2 l3 l4 l5 l6 l7 l8 l9 l10 l11 l12 v : Option Value} : List.set [l0, l1, l2, l3, l4, l5, l6, l7, l8, l9, l10, l11, l12] 4 v = [l0, l1, l2, l3, v, l5, l6, l7, l8, l9, l10, l11, l12] := rfl
theorem lvs_13_5 {l0 l1 l2 l3 l4 l5 l6 l7 l8 l9 l10 l11 l12 v : Option Value} : List.set [l0, l1, l2, l3, l4, l5, l6, l7, l8, l9, l10, l11, l12] 5 v = [l0, l1, l2, l3, l4, v, l6, l7, l8, l9, l10, l11, l12] := rfl
theorem lvs_13_6 {l0 l1 l2 l3 l4 l5 l6 l7 l8 l9 l10 l11 l12 v : Option Value} : List.set [l0, l1, l2, l3, l4, l5, l6, l7, l8, l9, l10, l11, l12] 6 v = [l0, l1, l2, l3, l4, l5, v, l7, l8, l9, l10, l11, l12] := rfl
theorem lvs_13_7 {l0 l1 l2 l3 l4 l5 l6 l7 l8 l9 l10 l11 l12 v : Option Value} : List.set [l0, l1, l2, l3, l4, l5, l6, l7, l8, l9, l10, l11, l12] 7 v = [l0, l1, l2, l3, l4, l5, l6, v, l8, l9, l10, l11, l12] := rfl
theorem lvs_13_8 {l0 l1 l2 l3 l4 l5 l6 l7 l8 l9 l10 l11 l12 v : Option Value} : List.set [l0, l1, l2, l3, l4, l5, l6, l7, l8, l9, l10, l11, l12] 8 v = [l0, l1, l2, l3, l4, l5, l6, l7, v, l9, l10, l11, l12] := rfl
theorem lvs_13_9 {l0 l1 l2 l3 l4 l5 l6 l7 l8 l9 l10 l11 l12 v : Option Value} : List.set [l0, l1, l2, l3, l4, l5, l6, l7, l8, l9, l10, l11, l12] 9 v = [l0, l1, l2, l3, l4, l5, l6, l7, l8, v, l10, l11, l12] := rfl
theorem lvs_13_10 {l0 l1 l2 l3 l4 l5 l6 l7 l8 l9 l10 l11 l12 v : Option Value} : List.set [l0, l1, l2, l3, l4, l5, l6, l7, l8, l9, l10, l11, l12] 10 v = [l0, l1, l2, l3, l4, l5, l6, l7, l8, l9, v, l11, l12] := rfl
theorem lvs_13_11 {l0 l1 l2 l3 l4 l5 l6 l7 l8 l9 l10 l11 l12 v : Option Value} : List.set [l0, l1, l2, l3, l4, l5, l6, l7, l8, l9, l10, l11, l12] 11 v = [l0, l1, l2, l3, l4, l5, l6, l7, l8, l9, l10, v, l12] := rfl
theorem lvs_13_12 {l0 l1 l2 l3 l4 l5 l6 l7 l8 l9 l10 l11 l12 v : Option Value} : List.set [l0, l1, l2, l3, l4, l5, l6, l7, l8, l9, l10, l11, l12] 12 v = [l0, l1, l2, l3, l4, l5, l6, l7, l8, l9, l10, l11, v] := rfl
section WRAPX
variable {G : GT} {M : MD} {d : Nat} {Q : Outcome → Hp → Prop} {pc : Nat} {lv lv' : List (Option Value)} {st : List Value} {h : Hp}
theorem y_istore_n {k : Fin 4} {x : Int32} (hd : decode M.2.1 pc = .ok (.istore_n k, 1)) (hi : (lv[k.val]?).isSome = true) (hs : lv.set k.val (some (.int x)) = lv') (kk : Jx G M d Q (pc + 1) lv' st h) : Jx G M d Q pc lv (.int x :: st) h := x_istore_n hd hi (hs ▸ kk)
theorem y_istore {i : Nat} {x : Int32} (hd : decode M.2.1 pc = .ok (.istore i, 2)) (hi : (lv[i]?).isSome = true) (hs : lv.set i (some (.int x)) = lv') (kk : Jx G M d Q (pc + 2) lv' st h) : Jx G M d Q pc lv (.int x :: st) h := x_istore hd hi (hs ▸ kk)
theorem y_astore_n {k : Fin 4} {v : Value} (hd : decode M.2.1 pc = .ok (.astore_n k, 1)) (hi : (lv[k.val]?).isSome = true) (hr : v.isRef = true) (hs : lv.set k.val (some v) = lv') (kk : Jx G M d Q (pc + 1) lv' st h) : Jx G M d Q pc lv (v :: st) h := x_astore_n hd hi hr (hs ▸ kk)
theorem y_astore {i : Nat} {v : Value} (hd : decode M.2.1 pc = .ok (.astore i, 2)) (hi : (lv[i]?).isSome = true) (hr : v.isRef = true) (hs : lv.set i (some v) = lv') (kk : Jx G M d Q (pc + 2) lv' st h) : Jx G M d Q pc lv (v :: st) h := x_astore hd hi hr (hs ▸ kk)
theorem y_iinc {i : Nat} {n : Int} {x k : Int32} (hd : decode M.2.1 pc = .ok (.iinc i n, 3)) (hl : lv[i]? = some (some (.int x))) (hk : Int32.ofInt n = k) (hs : lv.set i (some (.int (x + k))) = lv') (kk : Jx G M d Q (pc + 3) lv' st h) : Jx G M d Q pc lv st h := x_iinc hd hl (by rw [hk]) (hs ▸ kk)
theorem y_lv (hs : lv = lv') (kk : Jx G M d Q pc lv' st h) : Jx G M d Q pc lv st h := hs ▸ kk
theorem y_h {h' : Hp} (hs : h = h') (kk : Jx G M d Q pc lv st h') : Jx G M d Q pc lv st h := hs ▸ kk
theorem va_rf_isRef (r : Option Nat) : (va_rf r).isRef = true := by cases r <;> rfl
theorem va_rf_cat (r : Option Nat) : (va_rf r).category = 1 := by cases r <;> rfl
end WRAPX
