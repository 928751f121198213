/-! ===== constants that the code names (by program, wip/whole/gen9.py) ===== -/
section Consts
theorem ev_k0 : Int32.ofInt 0 = 0 := rfl
theorem ev_k1 : Int32.ofInt 1 = 1 := rfl
theorem ev_km : Int32.ofInt (-1) = -1 := rfl
theorem ev_k2 : Int32.ofInt 2 = nI 2 := rfl
theorem ev_k3 : Int32.ofInt 3 = nI 3 := rfl
theorem ev_k4 : Int32.ofInt 4 = nI 4 := rfl
theorem ev_k5 : Int32.ofInt 5 = nI 5 := rfl
theorem ev_l0 : Int64.ofNat ((0 : Fin 2) : Nat) = 0 := rfl
theorem ev_l1 : Int64.ofNat ((1 : Fin 2) : Nat) = 1 := rfl
theorem ev_b_6 : (Int8.ofInt (6)).toInt32 = nI 6 := by decide
theorem ev_b_7 : (Int8.ofInt (7)).toInt32 = nI 7 := by decide
theorem ev_b_8 : (Int8.ofInt (8)).toInt32 = nI 8 := by decide
theorem ev_b_9 : (Int8.ofInt (9)).toInt32 = nI 9 := by decide
theorem ev_b_10 : (Int8.ofInt (10)).toInt32 = nI 10 := by decide
theorem ev_b_13 : (Int8.ofInt (13)).toInt32 = nI 13 := by decide
theorem ev_b_16 : (Int8.ofInt (16)).toInt32 = nI 16 := by decide
theorem ev_b_20 : (Int8.ofInt (20)).toInt32 = nI 20 := by decide
theorem ev_b_23 : (Int8.ofInt (23)).toInt32 = nI 23 := by decide
theorem ev_b_24 : (Int8.ofInt (24)).toInt32 = nI 24 := by decide
theorem ev_b_30 : (Int8.ofInt (30)).toInt32 = nI 30 := by decide
theorem ev_b_32 : (Int8.ofInt (32)).toInt32 = nI 32 := by decide
theorem ev_b_33 : (Int8.ofInt (33)).toInt32 = nI 33 := by decide
theorem ev_b_40 : (Int8.ofInt (40)).toInt32 = nI 40 := by decide
theorem ev_b_41 : (Int8.ofInt (41)).toInt32 = nI 41 := by decide
theorem ev_b_42 : (Int8.ofInt (42)).toInt32 = nI 42 := by decide
theorem ev_b_43 : (Int8.ofInt (43)).toInt32 = nI 43 := by decide
theorem ev_b_44 : (Int8.ofInt (44)).toInt32 = nI 44 := by decide
theorem ev_b_45 : (Int8.ofInt (45)).toInt32 = nI 45 := by decide
theorem ev_b_47 : (Int8.ofInt (47)).toInt32 = nI 47 := by decide
theorem ev_b_48 : (Int8.ofInt (48)).toInt32 = nI 48 := by decide
theorem ev_b_57 : (Int8.ofInt (57)).toInt32 = nI 57 := by decide
theorem ev_b_59 : (Int8.ofInt (59)).toInt32 = nI 59 := by decide
theorem ev_b_61 : (Int8.ofInt (61)).toInt32 = nI 61 := by decide
theorem ev_b_63 : (Int8.ofInt (63)).toInt32 = nI 63 := by decide
theorem ev_b_64 : (Int8.ofInt (64)).toInt32 = nI 64 := by decide
theorem ev_b_97 : (Int8.ofInt (97)).toInt32 = nI 97 := by decide
theorem ev_b_100 : (Int8.ofInt (100)).toInt32 = nI 100 := by decide
theorem ev_b_122 : (Int8.ofInt (122)).toInt32 = nI 122 := by decide
theorem ev_h_200 : (Int16.ofInt (200)).toInt32 = nI 200 := by decide
theorem ev_h_255 : (Int16.ofInt (255)).toInt32 = nI 255 := by decide
theorem ev_h_480 : (Int16.ofInt (480)).toInt32 = nI 480 := by decide
theorem ev_h_500 : (Int16.ofInt (500)).toInt32 = nI 500 := by decide
theorem ev_h_501 : (Int16.ofInt (501)).toInt32 = nI 501 := by decide
theorem ev_h_900 : (Int16.ofInt (900)).toInt32 = nI 900 := by decide
theorem ev_h_952 : (Int16.ofInt (952)).toInt32 = nI 952 := by decide
theorem ev_h_1042 : (Int16.ofInt (1042)).toInt32 = nI 1042 := by decide
theorem ev_h_2084 : (Int16.ofInt (2084)).toInt32 = nI 2084 := by decide
theorem ev_h_7294 : (Int16.ofInt (7294)).toInt32 = nI 7294 := by decide
theorem ev_h_8336 : (Int16.ofInt (8336)).toInt32 = nI 8336 := by decide
theorem ev_i_m8 : Int32.ofInt (-8) = -8 := by decide
theorem ev_i_2 : Int32.ofInt (2) = nI 2 := by decide
theorem ev_i_6 : Int32.ofInt (6) = nI 6 := by decide
end Consts
