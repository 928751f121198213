/-! ===== the law's cases, by program (wip/whole/genlaw.py) ===== -/
section LCs
variable {G : ev_G} {μ : ev_M} {σ : ev_A} {p : Program} {e : Env} {s : State} {m : MethodId} {below : List Frame} {meth : Method} {c : Code} {b L : Nat} {xs : Nat → Int32} {Q : State → Prop} {k i : Nat}
theorem wl_RL : Cond.initialized RL ∈ ev_wd := lw_ix (k := 1) (j := 0) rfl rfl
theorem wl_X10 : Cond.initialized RX10 ∈ ev_wd := lw_ix (k := 1) (j := 1) rfl rfl
theorem wl_X11 : Cond.initialized RX11 ∈ ev_wd := lw_ix (k := 1) (j := 11) rfl rfl
theorem wl_thrown : lw_mw RX11 206 0 mi_X11_thrown := ⟨⟨lw_ix (k := 7) (j := 43) rfl rfl, wl_X11, lw_ix (k := 7) (j := 46) rfl rfl, Nat.le_of_ble_eq_true rfl, by decide +kernel⟩, lw_ix (k := 7) (j := 44) rfl rfl, lw_ix (k := 7) (j := 45) rfl rfl, Nat.le_of_ble_eq_true rfl⟩
theorem wl_m_append : lw_mw RX11 199 5 mi_X11_append := ⟨⟨lw_ix (k := 7) (j := 47) rfl rfl, wl_X11, lw_ix (k := 7) (j := 50) rfl rfl, Nat.le_of_ble_eq_true rfl, by decide +kernel⟩, lw_ix (k := 7) (j := 48) rfl rfl, lw_ix (k := 7) (j := 49) rfl rfl, Nat.le_of_ble_eq_true rfl⟩
theorem wl_x_append : lw_mw RX10 195 5 mi_X10_append := ⟨⟨lw_ix (k := 2) (j := 61) rfl rfl, wl_X10, lw_ix (k := 2) (j := 64) rfl rfl, Nat.le_of_ble_eq_true rfl, by decide +kernel⟩, lw_ix (k := 2) (j := 62) rfl rfl, lw_ix (k := 2) (j := 63) rfl rfl, Nat.le_of_ble_eq_true rfl⟩
set_option maxRecDepth 100000 in
theorem lq_append : lw_okd (lw_A 304 ++ (lw_D (304 + 1 + 30) 195 ++ lw_F (304 + 1 + 30 + 4 + 30) 199 3328)) = true := by decide +kernel
theorem lr_append : lw_okd (lw_ap (304 + 1) 5 1) = true ∧ lw_okd (lw_ap (304 + 1 + 30 + 4) 5 1) = true := by decide +kernel
theorem lc_append (hok : ev_ok sh_S G) (hnc : NCs G) (hkw : KW G) (hks : KS G) (hB : lw_B G p s m c b L xs) (hi : i + 5 < L) (hk : k < 599) (hBo : Bo σ μ) (h : ∀ (σ : ev_A) (μ2 : ev_M), Bo σ μ2 → LW G p e s m below meth c b Q (k + 1) 3700 (lw_l i) [] μ2) : LW G p e s m below meth c b Q k 304 (lw_l i) [] μ :=
  LW_cP (w := 6 * 5) (na := 5) (off := 3328) hB (LW_pu hB hi lr_append.1 (by decide)) (LW_pu hB hi lr_append.2 (by decide)) lq_append wl_x_append wl_m_append rfl (st_append hok hBo (xs (i + 1)) (xs (i + 2)) (xs (i + 3)) (xs (i + 4)) (xs (i + 5))) (by decide) hk h
theorem wl_m_parseSetup : lw_mw RX11 205 1 mi_X11_parseSetup := ⟨⟨lw_ix (k := 7) (j := 71) rfl rfl, wl_X11, lw_ix (k := 7) (j := 74) rfl rfl, Nat.le_of_ble_eq_true rfl, by decide +kernel⟩, lw_ix (k := 7) (j := 72) rfl rfl, lw_ix (k := 7) (j := 73) rfl rfl, Nat.le_of_ble_eq_true rfl⟩
theorem wl_h_parseSetup : lw_hw 200 3 hy_parseSetup hh_parseSetup := ⟨lw_ix (k := 2) (j := 92) rfl rfl, lw_ix (k := 2) (j := 93) rfl rfl, lw_ix (k := 2) (j := 94) rfl rfl, wl_RL, by decide +kernel, by decide +kernel⟩
set_option maxRecDepth 100000 in
theorem lq_parseSetup : lw_okd (lw_A 377 ++ (lw_M (377 + 1 + 6) 200 ++ (lw_R (377 + 1 + 6 + 7 + 6) 205 ++ (lw_th (377 + 1 + 6 + 7 + 6 + 5) 15 ++ lw_tI (377 + 1 + 6 + 7 + 6 + 5) 3270)))) = true := by decide +kernel
theorem lr_parseSetup : lw_okd (lw_ap (377 + 1) 1 1) = true ∧ lw_okd (lw_ap (377 + 1 + 6 + 7) 1 1) = true := by decide +kernel
theorem lc_parseSetup (hok : ev_ok sh_S G) (hnc : NCs G) (hkw : KW G) (hks : KS G) (hB : lw_B G p s m c b L xs) (hi : i + 5 < L) (hk : k < 599) (hBo : Bo σ μ) (h : ∀ (σ : ev_A) (μ2 : ev_M), Bo σ μ2 → LW G p e s m below meth c b Q (k + 1) 3700 (lw_l i) [] μ2) : LW G p e s m below meth c b Q k 377 (lw_l i) [] μ :=
  LW_cI (w := 6 * 1) (na := 1) (off := 3270) hB (LW_pu hB hi lr_parseSetup.1 (by decide)) (LW_pu hB hi lr_parseSetup.2 (by decide)) lq_parseSetup wl_thrown wl_h_parseSetup wl_m_parseSetup rfl (st_parseSetup hok hnc hkw hks hBo (xs (i + 1))) (by decide) hk h
theorem wl_m_parseErrorCode : lw_mw RX11 212 0 mi_X11_parseErrorCode := ⟨⟨lw_ix (k := 7) (j := 55) rfl rfl, wl_X11, lw_ix (k := 7) (j := 58) rfl rfl, Nat.le_of_ble_eq_true rfl, by decide +kernel⟩, lw_ix (k := 7) (j := 56) rfl rfl, lw_ix (k := 7) (j := 57) rfl rfl, Nat.le_of_ble_eq_true rfl⟩
theorem wl_x_parseErrorCode : lw_mw RX10 209 0 mi_X10_parseErrorCode := ⟨⟨lw_ix (k := 2) (j := 76) rfl rfl, wl_X10, lw_ix (k := 2) (j := 79) rfl rfl, Nat.le_of_ble_eq_true rfl, by decide +kernel⟩, lw_ix (k := 2) (j := 77) rfl rfl, lw_ix (k := 2) (j := 78) rfl rfl, Nat.le_of_ble_eq_true rfl⟩
set_option maxRecDepth 100000 in
theorem lq_parseErrorCode : lw_okd (lw_A 433 ++ (lw_D (433 + 1 + 0) 209 ++ lw_F (433 + 1 + 0 + 4 + 0) 212 3259)) = true := by decide +kernel
theorem lr_parseErrorCode : lw_okd (lw_ap (433 + 1) 0 1) = true ∧ lw_okd (lw_ap (433 + 1 + 0 + 4) 0 1) = true := by decide +kernel
theorem lc_parseErrorCode (hok : ev_ok sh_S G) (hnc : NCs G) (hkw : KW G) (hks : KS G) (hB : lw_B G p s m c b L xs) (hi : i + 5 < L) (hk : k < 599) (hBo : Bo σ μ) (h : ∀ (σ : ev_A) (μ2 : ev_M), Bo σ μ2 → LW G p e s m below meth c b Q (k + 1) 3700 (lw_l i) [] μ2) : LW G p e s m below meth c b Q k 433 (lw_l i) [] μ :=
  LW_cP (w := 6 * 0) (na := 0) (off := 3259) hB (LW_pu hB hi lr_parseErrorCode.1 (by decide)) (LW_pu hB hi lr_parseErrorCode.2 (by decide)) lq_parseErrorCode wl_x_parseErrorCode wl_m_parseErrorCode rfl (st_parseErrorCode hok hBo) (by decide) hk h
theorem wl_m_parseErrorPosition : lw_mw RX11 216 0 mi_X11_parseErrorPosition := ⟨⟨lw_ix (k := 7) (j := 63) rfl rfl, wl_X11, lw_ix (k := 7) (j := 66) rfl rfl, Nat.le_of_ble_eq_true rfl, by decide +kernel⟩, lw_ix (k := 7) (j := 64) rfl rfl, lw_ix (k := 7) (j := 65) rfl rfl, Nat.le_of_ble_eq_true rfl⟩
theorem wl_x_parseErrorPosition : lw_mw RX10 213 0 mi_X10_parseErrorPosition := ⟨⟨lw_ix (k := 2) (j := 80) rfl rfl, wl_X10, lw_ix (k := 2) (j := 83) rfl rfl, Nat.le_of_ble_eq_true rfl, by decide +kernel⟩, lw_ix (k := 2) (j := 81) rfl rfl, lw_ix (k := 2) (j := 82) rfl rfl, Nat.le_of_ble_eq_true rfl⟩
set_option maxRecDepth 100000 in
theorem lq_parseErrorPosition : lw_okd (lw_A 446 ++ (lw_D (446 + 1 + 0) 213 ++ lw_F (446 + 1 + 0 + 4 + 0) 216 3246)) = true := by decide +kernel
theorem lr_parseErrorPosition : lw_okd (lw_ap (446 + 1) 0 1) = true ∧ lw_okd (lw_ap (446 + 1 + 0 + 4) 0 1) = true := by decide +kernel
theorem lc_parseErrorPosition (hok : ev_ok sh_S G) (hnc : NCs G) (hkw : KW G) (hks : KS G) (hB : lw_B G p s m c b L xs) (hi : i + 5 < L) (hk : k < 599) (hBo : Bo σ μ) (h : ∀ (σ : ev_A) (μ2 : ev_M), Bo σ μ2 → LW G p e s m below meth c b Q (k + 1) 3700 (lw_l i) [] μ2) : LW G p e s m below meth c b Q k 446 (lw_l i) [] μ :=
  LW_cP (w := 6 * 0) (na := 0) (off := 3246) hB (LW_pu hB hi lr_parseErrorPosition.1 (by decide)) (LW_pu hB hi lr_parseErrorPosition.2 (by decide)) lq_parseErrorPosition wl_x_parseErrorPosition wl_m_parseErrorPosition rfl (st_parseErrorPosition hok hBo) (by decide) hk h
theorem wl_m_bufferLength : lw_mw RX11 220 0 mi_X11_bufferLength := ⟨⟨lw_ix (k := 7) (j := 67) rfl rfl, wl_X11, lw_ix (k := 7) (j := 70) rfl rfl, Nat.le_of_ble_eq_true rfl, by decide +kernel⟩, lw_ix (k := 7) (j := 68) rfl rfl, lw_ix (k := 7) (j := 69) rfl rfl, Nat.le_of_ble_eq_true rfl⟩
theorem wl_x_bufferLength : lw_mw RX10 217 0 mi_X10_bufferLength := ⟨⟨lw_ix (k := 2) (j := 84) rfl rfl, wl_X10, lw_ix (k := 2) (j := 87) rfl rfl, Nat.le_of_ble_eq_true rfl, by decide +kernel⟩, lw_ix (k := 2) (j := 85) rfl rfl, lw_ix (k := 2) (j := 86) rfl rfl, Nat.le_of_ble_eq_true rfl⟩
set_option maxRecDepth 100000 in
theorem lq_bufferLength : lw_okd (lw_A 459 ++ (lw_D (459 + 1 + 0) 217 ++ lw_F (459 + 1 + 0 + 4 + 0) 220 3233)) = true := by decide +kernel
theorem lr_bufferLength : lw_okd (lw_ap (459 + 1) 0 1) = true ∧ lw_okd (lw_ap (459 + 1 + 0 + 4) 0 1) = true := by decide +kernel
theorem lc_bufferLength (hok : ev_ok sh_S G) (hnc : NCs G) (hkw : KW G) (hks : KS G) (hB : lw_B G p s m c b L xs) (hi : i + 5 < L) (hk : k < 599) (hBo : Bo σ μ) (h : ∀ (σ : ev_A) (μ2 : ev_M), Bo σ μ2 → LW G p e s m below meth c b Q (k + 1) 3700 (lw_l i) [] μ2) : LW G p e s m below meth c b Q k 459 (lw_l i) [] μ :=
  LW_cP (w := 6 * 0) (na := 0) (off := 3233) hB (LW_pu hB hi lr_bufferLength.1 (by decide)) (LW_pu hB hi lr_bufferLength.2 (by decide)) lq_bufferLength wl_x_bufferLength wl_m_bufferLength rfl (st_bufferLength hok hBo) (by decide) hk h
theorem wl_m_pancakeCount : lw_mw RX11 224 0 mi_X11_pancakeCount := ⟨⟨lw_ix (k := 8) (j := 187) rfl rfl, wl_X11, lw_ix (k := 8) (j := 190) rfl rfl, Nat.le_of_ble_eq_true rfl, by decide +kernel⟩, lw_ix (k := 8) (j := 188) rfl rfl, lw_ix (k := 8) (j := 189) rfl rfl, Nat.le_of_ble_eq_true rfl⟩
theorem wl_h_pancakeCount : lw_hw 221 2 hy_pancakeCount hh_pancakeCount := ⟨lw_ix (k := 4) (j := 119) rfl rfl, lw_ix (k := 4) (j := 120) rfl rfl, lw_ix (k := 4) (j := 121) rfl rfl, wl_RL, by decide +kernel, by decide +kernel⟩
set_option maxRecDepth 100000 in
theorem lq_pancakeCount : lw_okd (lw_A 472 ++ (lw_M (472 + 1 + 0) 221 ++ (lw_R (472 + 1 + 0 + 7 + 0) 224 ++ (lw_th (472 + 1 + 0 + 7 + 0 + 5) 15 ++ lw_tI (472 + 1 + 0 + 7 + 0 + 5) 3187)))) = true := by decide +kernel
theorem lr_pancakeCount : lw_okd (lw_ap (472 + 1) 0 1) = true ∧ lw_okd (lw_ap (472 + 1 + 0 + 7) 0 1) = true := by decide +kernel
theorem lc_pancakeCount (hok : ev_ok sh_S G) (hnc : NCs G) (hkw : KW G) (hks : KS G) (hB : lw_B G p s m c b L xs) (hi : i + 5 < L) (hk : k < 599) (hBo : Bo σ μ) (h : ∀ (σ : ev_A) (μ2 : ev_M), Bo σ μ2 → LW G p e s m below meth c b Q (k + 1) 3700 (lw_l i) [] μ2) : LW G p e s m below meth c b Q k 472 (lw_l i) [] μ :=
  LW_cI (w := 6 * 0) (na := 0) (off := 3187) hB (LW_pu hB hi lr_pancakeCount.1 (by decide)) (LW_pu hB hi lr_pancakeCount.2 (by decide)) lq_pancakeCount wl_thrown wl_h_pancakeCount wl_m_pancakeCount rfl (st_pancakeCount hok hnc hBo) (by decide) hk h
theorem wl_m_topicOf : lw_mw RX11 227 1 mi_X11_topicOf := ⟨⟨lw_ix (k := 8) (j := 199) rfl rfl, wl_X11, lw_ix (k := 8) (j := 202) rfl rfl, Nat.le_of_ble_eq_true rfl, by decide +kernel⟩, lw_ix (k := 8) (j := 200) rfl rfl, lw_ix (k := 8) (j := 201) rfl rfl, Nat.le_of_ble_eq_true rfl⟩
theorem wl_h_topicOf : lw_hw 225 3 hy_topicOf hh_topicOf := ⟨lw_ix (k := 4) (j := 147) rfl rfl, lw_ix (k := 4) (j := 148) rfl rfl, lw_ix (k := 4) (j := 149) rfl rfl, wl_RL, by decide +kernel, by decide +kernel⟩
set_option maxRecDepth 100000 in
theorem lq_topicOf : lw_okd (lw_A 516 ++ (lw_M (516 + 1 + 6) 225 ++ (lw_R (516 + 1 + 6 + 7 + 6) 227 ++ (lw_th (516 + 1 + 6 + 7 + 6 + 5) 15 ++ lw_tI (516 + 1 + 6 + 7 + 6 + 5) 3131)))) = true := by decide +kernel
theorem lr_topicOf : lw_okd (lw_ap (516 + 1) 1 1) = true ∧ lw_okd (lw_ap (516 + 1 + 6 + 7) 1 1) = true := by decide +kernel
theorem lc_topicOf (hok : ev_ok sh_S G) (hnc : NCs G) (hkw : KW G) (hks : KS G) (hB : lw_B G p s m c b L xs) (hi : i + 5 < L) (hk : k < 599) (hBo : Bo σ μ) (h : ∀ (σ : ev_A) (μ2 : ev_M), Bo σ μ2 → LW G p e s m below meth c b Q (k + 1) 3700 (lw_l i) [] μ2) : LW G p e s m below meth c b Q k 516 (lw_l i) [] μ :=
  LW_cI (w := 6 * 1) (na := 1) (off := 3131) hB (LW_pu hB hi lr_topicOf.1 (by decide)) (LW_pu hB hi lr_topicOf.2 (by decide)) lq_topicOf wl_thrown wl_h_topicOf wl_m_topicOf rfl (st_topicOf hok hnc hBo (xs (i + 1))) (by decide) hk h
theorem wl_m_cookCount : lw_mw RX11 230 1 mi_X11_cookCount := ⟨⟨lw_ix (k := 8) (j := 219) rfl rfl, wl_X11, lw_ix (k := 8) (j := 222) rfl rfl, Nat.le_of_ble_eq_true rfl, by decide +kernel⟩, lw_ix (k := 8) (j := 220) rfl rfl, lw_ix (k := 8) (j := 221) rfl rfl, Nat.le_of_ble_eq_true rfl⟩
theorem wl_h_cookCount : lw_hw 228 3 hy_cookCount hh_cookCount := ⟨lw_ix (k := 4) (j := 160) rfl rfl, lw_ix (k := 4) (j := 161) rfl rfl, lw_ix (k := 4) (j := 162) rfl rfl, wl_RL, by decide +kernel, by decide +kernel⟩
set_option maxRecDepth 100000 in
theorem lq_cookCount : lw_okd (lw_A 572 ++ (lw_M (572 + 1 + 6) 228 ++ (lw_R (572 + 1 + 6 + 7 + 6) 230 ++ (lw_th (572 + 1 + 6 + 7 + 6 + 5) 15 ++ lw_tI (572 + 1 + 6 + 7 + 6 + 5) 3075)))) = true := by decide +kernel
theorem lr_cookCount : lw_okd (lw_ap (572 + 1) 1 1) = true ∧ lw_okd (lw_ap (572 + 1 + 6 + 7) 1 1) = true := by decide +kernel
theorem lc_cookCount (hok : ev_ok sh_S G) (hnc : NCs G) (hkw : KW G) (hks : KS G) (hB : lw_B G p s m c b L xs) (hi : i + 5 < L) (hk : k < 599) (hBo : Bo σ μ) (h : ∀ (σ : ev_A) (μ2 : ev_M), Bo σ μ2 → LW G p e s m below meth c b Q (k + 1) 3700 (lw_l i) [] μ2) : LW G p e s m below meth c b Q k 572 (lw_l i) [] μ :=
  LW_cI (w := 6 * 1) (na := 1) (off := 3075) hB (LW_pu hB hi lr_cookCount.1 (by decide)) (LW_pu hB hi lr_cookCount.2 (by decide)) lq_cookCount wl_thrown wl_h_cookCount wl_m_cookCount rfl (st_cookCount hok hnc hBo (xs (i + 1))) (by decide) hk h
theorem wl_m_cookAt : lw_mw RX11 234 2 mi_X11_cookAt := ⟨⟨lw_ix (k := 8) (j := 223) rfl rfl, wl_X11, lw_ix (k := 8) (j := 226) rfl rfl, Nat.le_of_ble_eq_true rfl, by decide +kernel⟩, lw_ix (k := 8) (j := 224) rfl rfl, lw_ix (k := 8) (j := 225) rfl rfl, Nat.le_of_ble_eq_true rfl⟩
theorem wl_h_cookAt : lw_hw 231 4 hy_cookAt hh_cookAt := ⟨lw_ix (k := 4) (j := 168) rfl rfl, lw_ix (k := 4) (j := 169) rfl rfl, lw_ix (k := 4) (j := 170) rfl rfl, wl_RL, by decide +kernel, by decide +kernel⟩
set_option maxRecDepth 100000 in
theorem lq_cookAt : lw_okd (lw_A 628 ++ (lw_M (628 + 1 + 12) 231 ++ (lw_R (628 + 1 + 12 + 7 + 12) 234 ++ (lw_th (628 + 1 + 12 + 7 + 12 + 5) 15 ++ lw_tI (628 + 1 + 12 + 7 + 12 + 5) 3007)))) = true := by decide +kernel
theorem lr_cookAt : lw_okd (lw_ap (628 + 1) 2 1) = true ∧ lw_okd (lw_ap (628 + 1 + 12 + 7) 2 1) = true := by decide +kernel
theorem lc_cookAt (hok : ev_ok sh_S G) (hnc : NCs G) (hkw : KW G) (hks : KS G) (hB : lw_B G p s m c b L xs) (hi : i + 5 < L) (hk : k < 599) (hBo : Bo σ μ) (h : ∀ (σ : ev_A) (μ2 : ev_M), Bo σ μ2 → LW G p e s m below meth c b Q (k + 1) 3700 (lw_l i) [] μ2) : LW G p e s m below meth c b Q k 628 (lw_l i) [] μ :=
  LW_cI (w := 6 * 2) (na := 2) (off := 3007) hB (LW_pu hB hi lr_cookAt.1 (by decide)) (LW_pu hB hi lr_cookAt.2 (by decide)) lq_cookAt wl_thrown wl_h_cookAt wl_m_cookAt rfl (st_cookAt hok hnc hBo (xs (i + 1)) (xs (i + 2))) (by decide) hk h
theorem wl_m_personCount : lw_mw RX11 237 0 mi_X11_personCount := ⟨⟨lw_ix (k := 8) (j := 231) rfl rfl, wl_X11, lw_ix (k := 8) (j := 234) rfl rfl, Nat.le_of_ble_eq_true rfl, by decide +kernel⟩, lw_ix (k := 8) (j := 232) rfl rfl, lw_ix (k := 8) (j := 233) rfl rfl, Nat.le_of_ble_eq_true rfl⟩
theorem wl_h_personCount : lw_hw 235 2 hy_personCount hh_personCount := ⟨lw_ix (k := 4) (j := 177) rfl rfl, lw_ix (k := 4) (j := 178) rfl rfl, lw_ix (k := 4) (j := 179) rfl rfl, wl_RL, by decide +kernel, by decide +kernel⟩
set_option maxRecDepth 100000 in
theorem lq_personCount : lw_okd (lw_A 696 ++ (lw_M (696 + 1 + 0) 235 ++ (lw_R (696 + 1 + 0 + 7 + 0) 237 ++ (lw_th (696 + 1 + 0 + 7 + 0 + 5) 15 ++ lw_tI (696 + 1 + 0 + 7 + 0 + 5) 2963)))) = true := by decide +kernel
theorem lr_personCount : lw_okd (lw_ap (696 + 1) 0 1) = true ∧ lw_okd (lw_ap (696 + 1 + 0 + 7) 0 1) = true := by decide +kernel
theorem lc_personCount (hok : ev_ok sh_S G) (hnc : NCs G) (hkw : KW G) (hks : KS G) (hB : lw_B G p s m c b L xs) (hi : i + 5 < L) (hk : k < 599) (hBo : Bo σ μ) (h : ∀ (σ : ev_A) (μ2 : ev_M), Bo σ μ2 → LW G p e s m below meth c b Q (k + 1) 3700 (lw_l i) [] μ2) : LW G p e s m below meth c b Q k 696 (lw_l i) [] μ :=
  LW_cI (w := 6 * 0) (na := 0) (off := 2963) hB (LW_pu hB hi lr_personCount.1 (by decide)) (LW_pu hB hi lr_personCount.2 (by decide)) lq_personCount wl_thrown wl_h_personCount wl_m_personCount rfl (st_personCount hok hnc hBo) (by decide) hk h
theorem wl_m_nameLetter : lw_mw RX11 240 2 mi_X11_nameLetter := ⟨⟨lw_ix (k := 8) (j := 235) rfl rfl, wl_X11, lw_ix (k := 8) (j := 238) rfl rfl, Nat.le_of_ble_eq_true rfl, by decide +kernel⟩, lw_ix (k := 8) (j := 236) rfl rfl, lw_ix (k := 8) (j := 237) rfl rfl, Nat.le_of_ble_eq_true rfl⟩
theorem wl_h_nameLetter : lw_hw 238 4 hy_nameLetter hh_nameLetter := ⟨lw_ix (k := 4) (j := 184) rfl rfl, lw_ix (k := 4) (j := 185) rfl rfl, lw_ix (k := 4) (j := 186) rfl rfl, wl_RL, by decide +kernel, by decide +kernel⟩
set_option maxRecDepth 100000 in
theorem lq_nameLetter : lw_okd (lw_A 740 ++ (lw_M (740 + 1 + 12) 238 ++ (lw_R (740 + 1 + 12 + 7 + 12) 240 ++ (lw_th (740 + 1 + 12 + 7 + 12 + 5) 15 ++ lw_tI (740 + 1 + 12 + 7 + 12 + 5) 2895)))) = true := by decide +kernel
theorem lr_nameLetter : lw_okd (lw_ap (740 + 1) 2 1) = true ∧ lw_okd (lw_ap (740 + 1 + 12 + 7) 2 1) = true := by decide +kernel
theorem lc_nameLetter (hok : ev_ok sh_S G) (hnc : NCs G) (hkw : KW G) (hks : KS G) (hB : lw_B G p s m c b L xs) (hi : i + 5 < L) (hk : k < 599) (hBo : Bo σ μ) (h : ∀ (σ : ev_A) (μ2 : ev_M), Bo σ μ2 → LW G p e s m below meth c b Q (k + 1) 3700 (lw_l i) [] μ2) : LW G p e s m below meth c b Q k 740 (lw_l i) [] μ :=
  LW_cI (w := 6 * 2) (na := 2) (off := 2895) hB (LW_pu hB hi lr_nameLetter.1 (by decide)) (LW_pu hB hi lr_nameLetter.2 (by decide)) lq_nameLetter wl_thrown wl_h_nameLetter wl_m_nameLetter rfl (st_nameLetter hok hnc hBo (xs (i + 1)) (xs (i + 2))) (by decide) hk h
theorem wl_m_kitchenOf : lw_mw RX11 243 1 mi_X11_kitchenOf := ⟨⟨lw_ix (k := 9) (j := 7) rfl rfl, wl_X11, lw_ix (k := 9) (j := 10) rfl rfl, Nat.le_of_ble_eq_true rfl, by decide +kernel⟩, lw_ix (k := 9) (j := 8) rfl rfl, lw_ix (k := 9) (j := 9) rfl rfl, Nat.le_of_ble_eq_true rfl⟩
theorem wl_h_kitchenOf : lw_hw 241 3 hy_kitchenOf hh_kitchenOf := ⟨lw_ix (k := 4) (j := 201) rfl rfl, lw_ix (k := 4) (j := 202) rfl rfl, lw_ix (k := 4) (j := 203) rfl rfl, wl_RL, by decide +kernel, by decide +kernel⟩
set_option maxRecDepth 100000 in
theorem lq_kitchenOf : lw_okd (lw_A 808 ++ (lw_M (808 + 1 + 6) 241 ++ (lw_R (808 + 1 + 6 + 7 + 6) 243 ++ (lw_th (808 + 1 + 6 + 7 + 6 + 5) 15 ++ lw_tI (808 + 1 + 6 + 7 + 6 + 5) 2839)))) = true := by decide +kernel
theorem lr_kitchenOf : lw_okd (lw_ap (808 + 1) 1 1) = true ∧ lw_okd (lw_ap (808 + 1 + 6 + 7) 1 1) = true := by decide +kernel
theorem lc_kitchenOf (hok : ev_ok sh_S G) (hnc : NCs G) (hkw : KW G) (hks : KS G) (hB : lw_B G p s m c b L xs) (hi : i + 5 < L) (hk : k < 599) (hBo : Bo σ μ) (h : ∀ (σ : ev_A) (μ2 : ev_M), Bo σ μ2 → LW G p e s m below meth c b Q (k + 1) 3700 (lw_l i) [] μ2) : LW G p e s m below meth c b Q k 808 (lw_l i) [] μ :=
  LW_cI (w := 6 * 1) (na := 1) (off := 2839) hB (LW_pu hB hi lr_kitchenOf.1 (by decide)) (LW_pu hB hi lr_kitchenOf.2 (by decide)) lq_kitchenOf wl_thrown wl_h_kitchenOf wl_m_kitchenOf rfl (st_kitchenOf hok hnc hBo (xs (i + 1))) (by decide) hk h
theorem wl_m_isTaster : lw_mw RX11 246 1 mi_X11_isTaster := ⟨⟨lw_ix (k := 9) (j := 15) rfl rfl, wl_X11, lw_ix (k := 9) (j := 18) rfl rfl, Nat.le_of_ble_eq_true rfl, by decide +kernel⟩, lw_ix (k := 9) (j := 16) rfl rfl, lw_ix (k := 9) (j := 17) rfl rfl, Nat.le_of_ble_eq_true rfl⟩
theorem wl_h_isTaster : lw_hw 244 3 hy_isTaster hh_isTaster := ⟨lw_ix (k := 4) (j := 208) rfl rfl, lw_ix (k := 4) (j := 209) rfl rfl, lw_ix (k := 4) (j := 210) rfl rfl, wl_RL, by decide +kernel, by decide +kernel⟩
set_option maxRecDepth 100000 in
theorem lq_isTaster : lw_okd (lw_A 864 ++ (lw_M (864 + 1 + 6) 244 ++ (lw_R (864 + 1 + 6 + 7 + 6) 246 ++ (lw_th (864 + 1 + 6 + 7 + 6 + 5) 22 ++ lw_tZ (864 + 1 + 6 + 7 + 6 + 5) 2776)))) = true := by decide +kernel
theorem lr_isTaster : lw_okd (lw_ap (864 + 1) 1 1) = true ∧ lw_okd (lw_ap (864 + 1 + 6 + 7) 1 1) = true := by decide +kernel
theorem lc_isTaster (hok : ev_ok sh_S G) (hnc : NCs G) (hkw : KW G) (hks : KS G) (hB : lw_B G p s m c b L xs) (hi : i + 5 < L) (hk : k < 599) (hBo : Bo σ μ) (h : ∀ (σ : ev_A) (μ2 : ev_M), Bo σ μ2 → LW G p e s m below meth c b Q (k + 1) 3700 (lw_l i) [] μ2) : LW G p e s m below meth c b Q k 864 (lw_l i) [] μ :=
  LW_cZ (w := 6 * 1) (na := 1) (off := 2776) hB (LW_pu hB hi lr_isTaster.1 (by decide)) (LW_pu hB hi lr_isTaster.2 (by decide)) lq_isTaster wl_thrown wl_h_isTaster wl_m_isTaster rfl (st_isTaster hok hnc hBo (xs (i + 1))) (by decide) hk h
theorem wl_m_limitOf : lw_mw RX11 249 1 mi_X11_limitOf := ⟨⟨lw_ix (k := 9) (j := 19) rfl rfl, wl_X11, lw_ix (k := 9) (j := 22) rfl rfl, Nat.le_of_ble_eq_true rfl, by decide +kernel⟩, lw_ix (k := 9) (j := 20) rfl rfl, lw_ix (k := 9) (j := 21) rfl rfl, Nat.le_of_ble_eq_true rfl⟩
theorem wl_h_limitOf : lw_hw 247 3 hy_limitOf hh_limitOf := ⟨lw_ix (k := 4) (j := 216) rfl rfl, lw_ix (k := 4) (j := 217) rfl rfl, lw_ix (k := 4) (j := 218) rfl rfl, wl_RL, by decide +kernel, by decide +kernel⟩
set_option maxRecDepth 100000 in
theorem lq_limitOf : lw_okd (lw_A 927 ++ (lw_M (927 + 1 + 6) 247 ++ (lw_R (927 + 1 + 6 + 7 + 6) 249 ++ (lw_th (927 + 1 + 6 + 7 + 6 + 5) 15 ++ lw_tI (927 + 1 + 6 + 7 + 6 + 5) 2720)))) = true := by decide +kernel
theorem lr_limitOf : lw_okd (lw_ap (927 + 1) 1 1) = true ∧ lw_okd (lw_ap (927 + 1 + 6 + 7) 1 1) = true := by decide +kernel
theorem lc_limitOf (hok : ev_ok sh_S G) (hnc : NCs G) (hkw : KW G) (hks : KS G) (hB : lw_B G p s m c b L xs) (hi : i + 5 < L) (hk : k < 599) (hBo : Bo σ μ) (h : ∀ (σ : ev_A) (μ2 : ev_M), Bo σ μ2 → LW G p e s m below meth c b Q (k + 1) 3700 (lw_l i) [] μ2) : LW G p e s m below meth c b Q k 927 (lw_l i) [] μ :=
  LW_cI (w := 6 * 1) (na := 1) (off := 2720) hB (LW_pu hB hi lr_limitOf.1 (by decide)) (LW_pu hB hi lr_limitOf.2 (by decide)) lq_limitOf wl_thrown wl_h_limitOf wl_m_limitOf rfl (st_limitOf hok hnc hBo (xs (i + 1))) (by decide) hk h
theorem wl_m_tasteOf : lw_mw RX11 252 2 mi_X11_tasteOf := ⟨⟨lw_ix (k := 9) (j := 23) rfl rfl, wl_X11, lw_ix (k := 9) (j := 26) rfl rfl, Nat.le_of_ble_eq_true rfl, by decide +kernel⟩, lw_ix (k := 9) (j := 24) rfl rfl, lw_ix (k := 9) (j := 25) rfl rfl, Nat.le_of_ble_eq_true rfl⟩
theorem wl_h_tasteOf : lw_hw 250 4 hy_tasteOf hh_tasteOf := ⟨lw_ix (k := 4) (j := 223) rfl rfl, lw_ix (k := 4) (j := 224) rfl rfl, lw_ix (k := 4) (j := 225) rfl rfl, wl_RL, by decide +kernel, by decide +kernel⟩
set_option maxRecDepth 100000 in
theorem lq_tasteOf : lw_okd (lw_A 983 ++ (lw_M (983 + 1 + 12) 250 ++ (lw_R (983 + 1 + 12 + 7 + 12) 252 ++ (lw_th (983 + 1 + 12 + 7 + 12 + 5) 15 ++ lw_tI (983 + 1 + 12 + 7 + 12 + 5) 2652)))) = true := by decide +kernel
theorem lr_tasteOf : lw_okd (lw_ap (983 + 1) 2 1) = true ∧ lw_okd (lw_ap (983 + 1 + 12 + 7) 2 1) = true := by decide +kernel
theorem lc_tasteOf (hok : ev_ok sh_S G) (hnc : NCs G) (hkw : KW G) (hks : KS G) (hB : lw_B G p s m c b L xs) (hi : i + 5 < L) (hk : k < 599) (hBo : Bo σ μ) (h : ∀ (σ : ev_A) (μ2 : ev_M), Bo σ μ2 → LW G p e s m below meth c b Q (k + 1) 3700 (lw_l i) [] μ2) : LW G p e s m below meth c b Q k 983 (lw_l i) [] μ :=
  LW_cI (w := 6 * 2) (na := 2) (off := 2652) hB (LW_pu hB hi lr_tasteOf.1 (by decide)) (LW_pu hB hi lr_tasteOf.2 (by decide)) lq_tasteOf wl_thrown wl_h_tasteOf wl_m_tasteOf rfl (st_tasteOf hok hnc hBo (xs (i + 1)) (xs (i + 2))) (by decide) hk h
theorem wl_m_bidOf : lw_mw RX11 255 2 mi_X11_bidOf := ⟨⟨lw_ix (k := 9) (j := 27) rfl rfl, wl_X11, lw_ix (k := 9) (j := 30) rfl rfl, Nat.le_of_ble_eq_true rfl, by decide +kernel⟩, lw_ix (k := 9) (j := 28) rfl rfl, lw_ix (k := 9) (j := 29) rfl rfl, Nat.le_of_ble_eq_true rfl⟩
theorem wl_h_bidOf : lw_hw 253 4 hy_bidOf hh_bidOf := ⟨lw_ix (k := 4) (j := 232) rfl rfl, lw_ix (k := 4) (j := 233) rfl rfl, lw_ix (k := 4) (j := 234) rfl rfl, wl_RL, by decide +kernel, by decide +kernel⟩
set_option maxRecDepth 100000 in
theorem lq_bidOf : lw_okd (lw_A 1051 ++ (lw_M (1051 + 1 + 12) 253 ++ (lw_R (1051 + 1 + 12 + 7 + 12) 255 ++ (lw_th (1051 + 1 + 12 + 7 + 12 + 5) 15 ++ lw_tI (1051 + 1 + 12 + 7 + 12 + 5) 2584)))) = true := by decide +kernel
theorem lr_bidOf : lw_okd (lw_ap (1051 + 1) 2 1) = true ∧ lw_okd (lw_ap (1051 + 1 + 12 + 7) 2 1) = true := by decide +kernel
theorem lc_bidOf (hok : ev_ok sh_S G) (hnc : NCs G) (hkw : KW G) (hks : KS G) (hB : lw_B G p s m c b L xs) (hi : i + 5 < L) (hk : k < 599) (hBo : Bo σ μ) (h : ∀ (σ : ev_A) (μ2 : ev_M), Bo σ μ2 → LW G p e s m below meth c b Q (k + 1) 3700 (lw_l i) [] μ2) : LW G p e s m below meth c b Q k 1051 (lw_l i) [] μ :=
  LW_cI (w := 6 * 2) (na := 2) (off := 2584) hB (LW_pu hB hi lr_bidOf.1 (by decide)) (LW_pu hB hi lr_bidOf.2 (by decide)) lq_bidOf wl_thrown wl_h_bidOf wl_m_bidOf rfl (st_bidOf hok hnc hBo (xs (i + 1)) (xs (i + 2))) (by decide) hk h
theorem wl_m_preference : lw_mw RX11 258 2 mi_X11_preference := ⟨⟨lw_ix (k := 9) (j := 39) rfl rfl, wl_X11, lw_ix (k := 9) (j := 42) rfl rfl, Nat.le_of_ble_eq_true rfl, by decide +kernel⟩, lw_ix (k := 9) (j := 40) rfl rfl, lw_ix (k := 9) (j := 41) rfl rfl, Nat.le_of_ble_eq_true rfl⟩
theorem wl_h_preference : lw_hw 256 4 hy_preference hh_preference := ⟨lw_ix (k := 5) (j := 3) rfl rfl, lw_ix (k := 5) (j := 4) rfl rfl, lw_ix (k := 5) (j := 5) rfl rfl, wl_RL, by decide +kernel, by decide +kernel⟩
set_option maxRecDepth 100000 in
theorem lq_preference : lw_okd (lw_A 1119 ++ (lw_M (1119 + 1 + 12) 256 ++ (lw_R (1119 + 1 + 12 + 7 + 12) 258 ++ (lw_th (1119 + 1 + 12 + 7 + 12 + 5) 15 ++ lw_tI (1119 + 1 + 12 + 7 + 12 + 5) 2516)))) = true := by decide +kernel
theorem lr_preference : lw_okd (lw_ap (1119 + 1) 2 1) = true ∧ lw_okd (lw_ap (1119 + 1 + 12 + 7) 2 1) = true := by decide +kernel
theorem lc_preference (hok : ev_ok sh_S G) (hnc : NCs G) (hkw : KW G) (hks : KS G) (hB : lw_B G p s m c b L xs) (hi : i + 5 < L) (hk : k < 599) (hBo : Bo σ μ) (h : ∀ (σ : ev_A) (μ2 : ev_M), Bo σ μ2 → LW G p e s m below meth c b Q (k + 1) 3700 (lw_l i) [] μ2) : LW G p e s m below meth c b Q k 1119 (lw_l i) [] μ :=
  LW_cI (w := 6 * 2) (na := 2) (off := 2516) hB (LW_pu hB hi lr_preference.1 (by decide)) (LW_pu hB hi lr_preference.2 (by decide)) lq_preference wl_thrown wl_h_preference wl_m_preference rfl (st_preference hok hnc hBo (xs (i + 1)) (xs (i + 2))) (by decide) hk h
theorem wl_m_conflict : lw_mw RX11 261 2 mi_X11_conflict := ⟨⟨lw_ix (k := 9) (j := 43) rfl rfl, wl_X11, lw_ix (k := 9) (j := 46) rfl rfl, Nat.le_of_ble_eq_true rfl, by decide +kernel⟩, lw_ix (k := 9) (j := 44) rfl rfl, lw_ix (k := 9) (j := 45) rfl rfl, Nat.le_of_ble_eq_true rfl⟩
theorem wl_h_conflict : lw_hw 259 4 hy_conflict hh_conflict := ⟨lw_ix (k := 5) (j := 11) rfl rfl, lw_ix (k := 5) (j := 12) rfl rfl, lw_ix (k := 5) (j := 13) rfl rfl, wl_RL, by decide +kernel, by decide +kernel⟩
set_option maxRecDepth 100000 in
theorem lq_conflict : lw_okd (lw_A 1187 ++ (lw_M (1187 + 1 + 12) 259 ++ (lw_R (1187 + 1 + 12 + 7 + 12) 261 ++ (lw_th (1187 + 1 + 12 + 7 + 12 + 5) 15 ++ lw_tI (1187 + 1 + 12 + 7 + 12 + 5) 2448)))) = true := by decide +kernel
theorem lr_conflict : lw_okd (lw_ap (1187 + 1) 2 1) = true ∧ lw_okd (lw_ap (1187 + 1 + 12 + 7) 2 1) = true := by decide +kernel
theorem lc_conflict (hok : ev_ok sh_S G) (hnc : NCs G) (hkw : KW G) (hks : KS G) (hB : lw_B G p s m c b L xs) (hi : i + 5 < L) (hk : k < 599) (hBo : Bo σ μ) (h : ∀ (σ : ev_A) (μ2 : ev_M), Bo σ μ2 → LW G p e s m below meth c b Q (k + 1) 3700 (lw_l i) [] μ2) : LW G p e s m below meth c b Q k 1187 (lw_l i) [] μ :=
  LW_cI (w := 6 * 2) (na := 2) (off := 2448) hB (LW_pu hB hi lr_conflict.1 (by decide)) (LW_pu hB hi lr_conflict.2 (by decide)) lq_conflict wl_thrown wl_h_conflict wl_m_conflict rfl (st_conflict hok hnc hBo (xs (i + 1)) (xs (i + 2))) (by decide) hk h
theorem wl_m_conflictCount : lw_mw RX11 264 1 mi_X11_conflictCount := ⟨⟨lw_ix (k := 9) (j := 51) rfl rfl, wl_X11, lw_ix (k := 9) (j := 54) rfl rfl, Nat.le_of_ble_eq_true rfl, by decide +kernel⟩, lw_ix (k := 9) (j := 52) rfl rfl, lw_ix (k := 9) (j := 53) rfl rfl, Nat.le_of_ble_eq_true rfl⟩
theorem wl_h_conflictCount : lw_hw 262 3 hy_conflictCount hh_conflictCount := ⟨lw_ix (k := 5) (j := 19) rfl rfl, lw_ix (k := 5) (j := 20) rfl rfl, lw_ix (k := 5) (j := 21) rfl rfl, wl_RL, by decide +kernel, by decide +kernel⟩
set_option maxRecDepth 100000 in
theorem lq_conflictCount : lw_okd (lw_A 1255 ++ (lw_M (1255 + 1 + 6) 262 ++ (lw_R (1255 + 1 + 6 + 7 + 6) 264 ++ (lw_th (1255 + 1 + 6 + 7 + 6 + 5) 15 ++ lw_tI (1255 + 1 + 6 + 7 + 6 + 5) 2392)))) = true := by decide +kernel
theorem lr_conflictCount : lw_okd (lw_ap (1255 + 1) 1 1) = true ∧ lw_okd (lw_ap (1255 + 1 + 6 + 7) 1 1) = true := by decide +kernel
theorem lc_conflictCount (hok : ev_ok sh_S G) (hnc : NCs G) (hkw : KW G) (hks : KS G) (hB : lw_B G p s m c b L xs) (hi : i + 5 < L) (hk : k < 599) (hBo : Bo σ μ) (h : ∀ (σ : ev_A) (μ2 : ev_M), Bo σ μ2 → LW G p e s m below meth c b Q (k + 1) 3700 (lw_l i) [] μ2) : LW G p e s m below meth c b Q k 1255 (lw_l i) [] μ :=
  LW_cI (w := 6 * 1) (na := 1) (off := 2392) hB (LW_pu hB hi lr_conflictCount.1 (by decide)) (LW_pu hB hi lr_conflictCount.2 (by decide)) lq_conflictCount wl_thrown wl_h_conflictCount wl_m_conflictCount rfl (st_conflictCount hok hnc hBo (xs (i + 1))) (by decide) hk h
theorem wl_m_favoriteOf : lw_mw RX11 267 1 mi_X11_favoriteOf := ⟨⟨lw_ix (k := 9) (j := 47) rfl rfl, wl_X11, lw_ix (k := 9) (j := 50) rfl rfl, Nat.le_of_ble_eq_true rfl, by decide +kernel⟩, lw_ix (k := 9) (j := 48) rfl rfl, lw_ix (k := 9) (j := 49) rfl rfl, Nat.le_of_ble_eq_true rfl⟩
theorem wl_h_favoriteOf : lw_hw 265 3 hy_favoriteOf hh_favoriteOf := ⟨lw_ix (k := 5) (j := 30) rfl rfl, lw_ix (k := 5) (j := 31) rfl rfl, lw_ix (k := 5) (j := 32) rfl rfl, wl_RL, by decide +kernel, by decide +kernel⟩
set_option maxRecDepth 100000 in
theorem lq_favoriteOf : lw_okd (lw_A 1311 ++ (lw_M (1311 + 1 + 6) 265 ++ (lw_R (1311 + 1 + 6 + 7 + 6) 267 ++ (lw_th (1311 + 1 + 6 + 7 + 6 + 5) 15 ++ lw_tI (1311 + 1 + 6 + 7 + 6 + 5) 2336)))) = true := by decide +kernel
theorem lr_favoriteOf : lw_okd (lw_ap (1311 + 1) 1 1) = true ∧ lw_okd (lw_ap (1311 + 1 + 6 + 7) 1 1) = true := by decide +kernel
theorem lc_favoriteOf (hok : ev_ok sh_S G) (hnc : NCs G) (hkw : KW G) (hks : KS G) (hB : lw_B G p s m c b L xs) (hi : i + 5 < L) (hk : k < 599) (hBo : Bo σ μ) (h : ∀ (σ : ev_A) (μ2 : ev_M), Bo σ μ2 → LW G p e s m below meth c b Q (k + 1) 3700 (lw_l i) [] μ2) : LW G p e s m below meth c b Q k 1311 (lw_l i) [] μ :=
  LW_cI (w := 6 * 1) (na := 1) (off := 2336) hB (LW_pu hB hi lr_favoriteOf.1 (by decide)) (LW_pu hB hi lr_favoriteOf.2 (by decide)) lq_favoriteOf wl_thrown wl_h_favoriteOf wl_m_favoriteOf rfl (st_favoriteOf hok hnc hBo (xs (i + 1))) (by decide) hk h
theorem wl_m_seatCount : lw_mw RX11 270 1 mi_X11_seatCount := ⟨⟨lw_ix (k := 9) (j := 55) rfl rfl, wl_X11, lw_ix (k := 9) (j := 58) rfl rfl, Nat.le_of_ble_eq_true rfl, by decide +kernel⟩, lw_ix (k := 9) (j := 56) rfl rfl, lw_ix (k := 9) (j := 57) rfl rfl, Nat.le_of_ble_eq_true rfl⟩
theorem wl_h_seatCount : lw_hw 268 3 hy_seatCount hh_seatCount := ⟨lw_ix (k := 5) (j := 41) rfl rfl, lw_ix (k := 5) (j := 42) rfl rfl, lw_ix (k := 5) (j := 43) rfl rfl, wl_RL, by decide +kernel, by decide +kernel⟩
set_option maxRecDepth 100000 in
theorem lq_seatCount : lw_okd (lw_A 1367 ++ (lw_M (1367 + 1 + 6) 268 ++ (lw_R (1367 + 1 + 6 + 7 + 6) 270 ++ (lw_th (1367 + 1 + 6 + 7 + 6 + 5) 15 ++ lw_tI (1367 + 1 + 6 + 7 + 6 + 5) 2280)))) = true := by decide +kernel
theorem lr_seatCount : lw_okd (lw_ap (1367 + 1) 1 1) = true ∧ lw_okd (lw_ap (1367 + 1 + 6 + 7) 1 1) = true := by decide +kernel
theorem lc_seatCount (hok : ev_ok sh_S G) (hnc : NCs G) (hkw : KW G) (hks : KS G) (hB : lw_B G p s m c b L xs) (hi : i + 5 < L) (hk : k < 599) (hBo : Bo σ μ) (h : ∀ (σ : ev_A) (μ2 : ev_M), Bo σ μ2 → LW G p e s m below meth c b Q (k + 1) 3700 (lw_l i) [] μ2) : LW G p e s m below meth c b Q k 1367 (lw_l i) [] μ :=
  LW_cI (w := 6 * 1) (na := 1) (off := 2280) hB (LW_pu hB hi lr_seatCount.1 (by decide)) (LW_pu hB hi lr_seatCount.2 (by decide)) lq_seatCount wl_thrown wl_h_seatCount wl_m_seatCount rfl (st_seatCount hok hnc hBo (xs (i + 1))) (by decide) hk h
theorem wl_m_seatAt : lw_mw RX11 273 2 mi_X11_seatAt := ⟨⟨lw_ix (k := 9) (j := 59) rfl rfl, wl_X11, lw_ix (k := 9) (j := 62) rfl rfl, Nat.le_of_ble_eq_true rfl, by decide +kernel⟩, lw_ix (k := 9) (j := 60) rfl rfl, lw_ix (k := 9) (j := 61) rfl rfl, Nat.le_of_ble_eq_true rfl⟩
theorem wl_h_seatAt : lw_hw 271 4 hy_seatAt hh_seatAt := ⟨lw_ix (k := 5) (j := 48) rfl rfl, lw_ix (k := 5) (j := 49) rfl rfl, lw_ix (k := 5) (j := 50) rfl rfl, wl_RL, by decide +kernel, by decide +kernel⟩
set_option maxRecDepth 100000 in
theorem lq_seatAt : lw_okd (lw_A 1423 ++ (lw_M (1423 + 1 + 12) 271 ++ (lw_R (1423 + 1 + 12 + 7 + 12) 273 ++ (lw_th (1423 + 1 + 12 + 7 + 12 + 5) 15 ++ lw_tI (1423 + 1 + 12 + 7 + 12 + 5) 2212)))) = true := by decide +kernel
theorem lr_seatAt : lw_okd (lw_ap (1423 + 1) 2 1) = true ∧ lw_okd (lw_ap (1423 + 1 + 12 + 7) 2 1) = true := by decide +kernel
theorem lc_seatAt (hok : ev_ok sh_S G) (hnc : NCs G) (hkw : KW G) (hks : KS G) (hB : lw_B G p s m c b L xs) (hi : i + 5 < L) (hk : k < 599) (hBo : Bo σ μ) (h : ∀ (σ : ev_A) (μ2 : ev_M), Bo σ μ2 → LW G p e s m below meth c b Q (k + 1) 3700 (lw_l i) [] μ2) : LW G p e s m below meth c b Q k 1423 (lw_l i) [] μ :=
  LW_cI (w := 6 * 2) (na := 2) (off := 2212) hB (LW_pu hB hi lr_seatAt.1 (by decide)) (LW_pu hB hi lr_seatAt.2 (by decide)) lq_seatAt wl_thrown wl_h_seatAt wl_m_seatAt rfl (st_seatAt hok hnc hBo (xs (i + 1)) (xs (i + 2))) (by decide) hk h
theorem wl_m_loadOf : lw_mw RX11 276 1 mi_X11_loadOf := ⟨⟨lw_ix (k := 9) (j := 63) rfl rfl, wl_X11, lw_ix (k := 9) (j := 66) rfl rfl, Nat.le_of_ble_eq_true rfl, by decide +kernel⟩, lw_ix (k := 9) (j := 64) rfl rfl, lw_ix (k := 9) (j := 65) rfl rfl, Nat.le_of_ble_eq_true rfl⟩
theorem wl_h_loadOf : lw_hw 274 3 hy_loadOf hh_loadOf := ⟨lw_ix (k := 5) (j := 56) rfl rfl, lw_ix (k := 5) (j := 57) rfl rfl, lw_ix (k := 5) (j := 58) rfl rfl, wl_RL, by decide +kernel, by decide +kernel⟩
set_option maxRecDepth 100000 in
theorem lq_loadOf : lw_okd (lw_A 1491 ++ (lw_M (1491 + 1 + 6) 274 ++ (lw_R (1491 + 1 + 6 + 7 + 6) 276 ++ (lw_th (1491 + 1 + 6 + 7 + 6 + 5) 15 ++ lw_tI (1491 + 1 + 6 + 7 + 6 + 5) 2156)))) = true := by decide +kernel
theorem lr_loadOf : lw_okd (lw_ap (1491 + 1) 1 1) = true ∧ lw_okd (lw_ap (1491 + 1 + 6 + 7) 1 1) = true := by decide +kernel
theorem lc_loadOf (hok : ev_ok sh_S G) (hnc : NCs G) (hkw : KW G) (hks : KS G) (hB : lw_B G p s m c b L xs) (hi : i + 5 < L) (hk : k < 599) (hBo : Bo σ μ) (h : ∀ (σ : ev_A) (μ2 : ev_M), Bo σ μ2 → LW G p e s m below meth c b Q (k + 1) 3700 (lw_l i) [] μ2) : LW G p e s m below meth c b Q k 1491 (lw_l i) [] μ :=
  LW_cI (w := 6 * 1) (na := 1) (off := 2156) hB (LW_pu hB hi lr_loadOf.1 (by decide)) (LW_pu hB hi lr_loadOf.2 (by decide)) lq_loadOf wl_thrown wl_h_loadOf wl_m_loadOf rfl (st_loadOf hok hnc hBo (xs (i + 1))) (by decide) hk h
theorem wl_m_refusal : lw_mw RX11 279 2 mi_X11_refusal := ⟨⟨lw_ix (k := 9) (j := 67) rfl rfl, wl_X11, lw_ix (k := 9) (j := 70) rfl rfl, Nat.le_of_ble_eq_true rfl, by decide +kernel⟩, lw_ix (k := 9) (j := 68) rfl rfl, lw_ix (k := 9) (j := 69) rfl rfl, Nat.le_of_ble_eq_true rfl⟩
theorem wl_h_refusal : lw_hw 277 4 hy_refusal hh_refusal := ⟨lw_ix (k := 5) (j := 64) rfl rfl, lw_ix (k := 5) (j := 65) rfl rfl, lw_ix (k := 5) (j := 66) rfl rfl, wl_RL, by decide +kernel, by decide +kernel⟩
set_option maxRecDepth 100000 in
theorem lq_refusal : lw_okd (lw_A 1547 ++ (lw_M (1547 + 1 + 12) 277 ++ (lw_R (1547 + 1 + 12 + 7 + 12) 279 ++ (lw_th (1547 + 1 + 12 + 7 + 12 + 5) 15 ++ lw_tI (1547 + 1 + 12 + 7 + 12 + 5) 2088)))) = true := by decide +kernel
theorem lr_refusal : lw_okd (lw_ap (1547 + 1) 2 1) = true ∧ lw_okd (lw_ap (1547 + 1 + 12 + 7) 2 1) = true := by decide +kernel
theorem lc_refusal (hok : ev_ok sh_S G) (hnc : NCs G) (hkw : KW G) (hks : KS G) (hB : lw_B G p s m c b L xs) (hi : i + 5 < L) (hk : k < 599) (hBo : Bo σ μ) (h : ∀ (σ : ev_A) (μ2 : ev_M), Bo σ μ2 → LW G p e s m below meth c b Q (k + 1) 3700 (lw_l i) [] μ2) : LW G p e s m below meth c b Q k 1547 (lw_l i) [] μ :=
  LW_cI (w := 6 * 2) (na := 2) (off := 2088) hB (LW_pu hB hi lr_refusal.1 (by decide)) (LW_pu hB hi lr_refusal.2 (by decide)) lq_refusal wl_thrown wl_h_refusal wl_m_refusal rfl (st_refusal hok hnc hBo (xs (i + 1)) (xs (i + 2))) (by decide) hk h
theorem wl_m_bestTaster : lw_mw RX11 282 1 mi_X11_bestTaster := ⟨⟨lw_ix (k := 9) (j := 71) rfl rfl, wl_X11, lw_ix (k := 9) (j := 74) rfl rfl, Nat.le_of_ble_eq_true rfl, by decide +kernel⟩, lw_ix (k := 9) (j := 72) rfl rfl, lw_ix (k := 9) (j := 73) rfl rfl, Nat.le_of_ble_eq_true rfl⟩
theorem wl_h_bestTaster : lw_hw 280 3 hy_bestTaster hh_bestTaster := ⟨lw_ix (k := 5) (j := 72) rfl rfl, lw_ix (k := 5) (j := 73) rfl rfl, lw_ix (k := 5) (j := 74) rfl rfl, wl_RL, by decide +kernel, by decide +kernel⟩
set_option maxRecDepth 100000 in
theorem lq_bestTaster : lw_okd (lw_A 1615 ++ (lw_M (1615 + 1 + 6) 280 ++ (lw_R (1615 + 1 + 6 + 7 + 6) 282 ++ (lw_th (1615 + 1 + 6 + 7 + 6 + 5) 15 ++ lw_tI (1615 + 1 + 6 + 7 + 6 + 5) 2032)))) = true := by decide +kernel
theorem lr_bestTaster : lw_okd (lw_ap (1615 + 1) 1 1) = true ∧ lw_okd (lw_ap (1615 + 1 + 6 + 7) 1 1) = true := by decide +kernel
theorem lc_bestTaster (hok : ev_ok sh_S G) (hnc : NCs G) (hkw : KW G) (hks : KS G) (hB : lw_B G p s m c b L xs) (hi : i + 5 < L) (hk : k < 599) (hBo : Bo σ μ) (h : ∀ (σ : ev_A) (μ2 : ev_M), Bo σ μ2 → LW G p e s m below meth c b Q (k + 1) 3700 (lw_l i) [] μ2) : LW G p e s m below meth c b Q k 1615 (lw_l i) [] μ :=
  LW_cI (w := 6 * 1) (na := 1) (off := 2032) hB (LW_pu hB hi lr_bestTaster.1 (by decide)) (LW_pu hB hi lr_bestTaster.2 (by decide)) lq_bestTaster wl_thrown wl_h_bestTaster wl_m_bestTaster rfl (st_bestTaster hok hnc hBo (xs (i + 1))) (by decide) hk h
theorem wl_m_lacking : lw_mw RX11 285 0 mi_X11_lacking := ⟨⟨lw_ix (k := 9) (j := 75) rfl rfl, wl_X11, lw_ix (k := 9) (j := 78) rfl rfl, Nat.le_of_ble_eq_true rfl, by decide +kernel⟩, lw_ix (k := 9) (j := 76) rfl rfl, lw_ix (k := 9) (j := 77) rfl rfl, Nat.le_of_ble_eq_true rfl⟩
theorem wl_h_lacking : lw_hw 283 2 hy_lacking hh_lacking := ⟨lw_ix (k := 5) (j := 80) rfl rfl, lw_ix (k := 5) (j := 81) rfl rfl, lw_ix (k := 5) (j := 82) rfl rfl, wl_RL, by decide +kernel, by decide +kernel⟩
set_option maxRecDepth 100000 in
theorem lq_lacking : lw_okd (lw_A 1671 ++ (lw_M (1671 + 1 + 0) 283 ++ (lw_R (1671 + 1 + 0 + 7 + 0) 285 ++ (lw_th (1671 + 1 + 0 + 7 + 0 + 5) 15 ++ lw_tI (1671 + 1 + 0 + 7 + 0 + 5) 1988)))) = true := by decide +kernel
theorem lr_lacking : lw_okd (lw_ap (1671 + 1) 0 1) = true ∧ lw_okd (lw_ap (1671 + 1 + 0 + 7) 0 1) = true := by decide +kernel
theorem lc_lacking (hok : ev_ok sh_S G) (hnc : NCs G) (hkw : KW G) (hks : KS G) (hB : lw_B G p s m c b L xs) (hi : i + 5 < L) (hk : k < 599) (hBo : Bo σ μ) (h : ∀ (σ : ev_A) (μ2 : ev_M), Bo σ μ2 → LW G p e s m below meth c b Q (k + 1) 3700 (lw_l i) [] μ2) : LW G p e s m below meth c b Q k 1671 (lw_l i) [] μ :=
  LW_cI (w := 6 * 0) (na := 0) (off := 1988) hB (LW_pu hB hi lr_lacking.1 (by decide)) (LW_pu hB hi lr_lacking.2 (by decide)) lq_lacking wl_thrown wl_h_lacking wl_m_lacking rfl (st_lacking hok hnc hBo) (by decide) hk h
theorem wl_m_lackingAfterFilling : lw_mw RX11 288 0 mi_X11_lackingAfterFilling := ⟨⟨lw_ix (k := 9) (j := 83) rfl rfl, wl_X11, lw_ix (k := 9) (j := 86) rfl rfl, Nat.le_of_ble_eq_true rfl, by decide +kernel⟩, lw_ix (k := 9) (j := 84) rfl rfl, lw_ix (k := 9) (j := 85) rfl rfl, Nat.le_of_ble_eq_true rfl⟩
theorem wl_h_lackingAfterFilling : lw_hw 286 2 hy_lackingAfterFilling hh_lackingAfterFilling := ⟨lw_ix (k := 5) (j := 95) rfl rfl, lw_ix (k := 5) (j := 96) rfl rfl, lw_ix (k := 5) (j := 97) rfl rfl, wl_RL, by decide +kernel, by decide +kernel⟩
set_option maxRecDepth 100000 in
theorem lq_lackingAfterFilling : lw_okd (lw_A 1715 ++ (lw_M (1715 + 1 + 0) 286 ++ (lw_R (1715 + 1 + 0 + 7 + 0) 288 ++ (lw_th (1715 + 1 + 0 + 7 + 0 + 5) 15 ++ lw_tI (1715 + 1 + 0 + 7 + 0 + 5) 1944)))) = true := by decide +kernel
theorem lr_lackingAfterFilling : lw_okd (lw_ap (1715 + 1) 0 1) = true ∧ lw_okd (lw_ap (1715 + 1 + 0 + 7) 0 1) = true := by decide +kernel
theorem lc_lackingAfterFilling (hok : ev_ok sh_S G) (hnc : NCs G) (hkw : KW G) (hks : KS G) (hB : lw_B G p s m c b L xs) (hi : i + 5 < L) (hk : k < 599) (hBo : Bo σ μ) (h : ∀ (σ : ev_A) (μ2 : ev_M), Bo σ μ2 → LW G p e s m below meth c b Q (k + 1) 3700 (lw_l i) [] μ2) : LW G p e s m below meth c b Q k 1715 (lw_l i) [] μ :=
  LW_cI (w := 6 * 0) (na := 0) (off := 1944) hB (LW_pu hB hi lr_lackingAfterFilling.1 (by decide)) (LW_pu hB hi lr_lackingAfterFilling.2 (by decide)) lq_lackingAfterFilling wl_thrown wl_h_lackingAfterFilling wl_m_lackingAfterFilling rfl (st_lackingAfterFilling hok hnc hBo) (by decide) hk h
theorem wl_m_scoreOf : lw_mw RX11 291 2 mi_X11_scoreOf := ⟨⟨lw_ix (k := 9) (j := 87) rfl rfl, wl_X11, lw_ix (k := 9) (j := 90) rfl rfl, Nat.le_of_ble_eq_true rfl, by decide +kernel⟩, lw_ix (k := 9) (j := 88) rfl rfl, lw_ix (k := 9) (j := 89) rfl rfl, Nat.le_of_ble_eq_true rfl⟩
theorem wl_h_scoreOf : lw_hw 289 4 hy_scoreOf hh_scoreOf := ⟨lw_ix (k := 5) (j := 103) rfl rfl, lw_ix (k := 5) (j := 104) rfl rfl, lw_ix (k := 5) (j := 105) rfl rfl, wl_RL, by decide +kernel, by decide +kernel⟩
set_option maxRecDepth 100000 in
theorem lq_scoreOf : lw_okd (lw_A 1759 ++ (lw_M (1759 + 1 + 12) 289 ++ (lw_R (1759 + 1 + 12 + 7 + 12) 291 ++ (lw_th (1759 + 1 + 12 + 7 + 12 + 5) 15 ++ lw_tI (1759 + 1 + 12 + 7 + 12 + 5) 1876)))) = true := by decide +kernel
theorem lr_scoreOf : lw_okd (lw_ap (1759 + 1) 2 1) = true ∧ lw_okd (lw_ap (1759 + 1 + 12 + 7) 2 1) = true := by decide +kernel
theorem lc_scoreOf (hok : ev_ok sh_S G) (hnc : NCs G) (hkw : KW G) (hks : KS G) (hB : lw_B G p s m c b L xs) (hi : i + 5 < L) (hk : k < 599) (hBo : Bo σ μ) (h : ∀ (σ : ev_A) (μ2 : ev_M), Bo σ μ2 → LW G p e s m below meth c b Q (k + 1) 3700 (lw_l i) [] μ2) : LW G p e s m below meth c b Q k 1759 (lw_l i) [] μ :=
  LW_cI (w := 6 * 2) (na := 2) (off := 1876) hB (LW_pu hB hi lr_scoreOf.1 (by decide)) (LW_pu hB hi lr_scoreOf.2 (by decide)) lq_scoreOf wl_thrown wl_h_scoreOf wl_m_scoreOf rfl (st_scoreOf hok hnc hBo (xs (i + 1)) (xs (i + 2))) (by decide) hk h
theorem wl_m_scoreCount : lw_mw RX11 294 1 mi_X11_scoreCount := ⟨⟨lw_ix (k := 9) (j := 91) rfl rfl, wl_X11, lw_ix (k := 9) (j := 94) rfl rfl, Nat.le_of_ble_eq_true rfl, by decide +kernel⟩, lw_ix (k := 9) (j := 92) rfl rfl, lw_ix (k := 9) (j := 93) rfl rfl, Nat.le_of_ble_eq_true rfl⟩
theorem wl_h_scoreCount : lw_hw 292 3 hy_scoreCount hh_scoreCount := ⟨lw_ix (k := 5) (j := 111) rfl rfl, lw_ix (k := 5) (j := 112) rfl rfl, lw_ix (k := 5) (j := 113) rfl rfl, wl_RL, by decide +kernel, by decide +kernel⟩
set_option maxRecDepth 100000 in
theorem lq_scoreCount : lw_okd (lw_A 1827 ++ (lw_M (1827 + 1 + 6) 292 ++ (lw_R (1827 + 1 + 6 + 7 + 6) 294 ++ (lw_th (1827 + 1 + 6 + 7 + 6 + 5) 15 ++ lw_tI (1827 + 1 + 6 + 7 + 6 + 5) 1820)))) = true := by decide +kernel
theorem lr_scoreCount : lw_okd (lw_ap (1827 + 1) 1 1) = true ∧ lw_okd (lw_ap (1827 + 1 + 6 + 7) 1 1) = true := by decide +kernel
theorem lc_scoreCount (hok : ev_ok sh_S G) (hnc : NCs G) (hkw : KW G) (hks : KS G) (hB : lw_B G p s m c b L xs) (hi : i + 5 < L) (hk : k < 599) (hBo : Bo σ μ) (h : ∀ (σ : ev_A) (μ2 : ev_M), Bo σ μ2 → LW G p e s m below meth c b Q (k + 1) 3700 (lw_l i) [] μ2) : LW G p e s m below meth c b Q k 1827 (lw_l i) [] μ :=
  LW_cI (w := 6 * 1) (na := 1) (off := 1820) hB (LW_pu hB hi lr_scoreCount.1 (by decide)) (LW_pu hB hi lr_scoreCount.2 (by decide)) lq_scoreCount wl_thrown wl_h_scoreCount wl_m_scoreCount rfl (st_scoreCount hok hnc hBo (xs (i + 1))) (by decide) hk h
theorem wl_m_meanOf : lw_mw RX11 297 1 mi_X11_meanOf := ⟨⟨lw_ix (k := 9) (j := 95) rfl rfl, wl_X11, lw_ix (k := 9) (j := 98) rfl rfl, Nat.le_of_ble_eq_true rfl, by decide +kernel⟩, lw_ix (k := 9) (j := 96) rfl rfl, lw_ix (k := 9) (j := 97) rfl rfl, Nat.le_of_ble_eq_true rfl⟩
theorem wl_h_meanOf : lw_hw 295 3 hy_meanOf hh_meanOf := ⟨lw_ix (k := 5) (j := 119) rfl rfl, lw_ix (k := 5) (j := 120) rfl rfl, lw_ix (k := 5) (j := 121) rfl rfl, wl_RL, by decide +kernel, by decide +kernel⟩
set_option maxRecDepth 100000 in
theorem lq_meanOf : lw_okd (lw_A 1883 ++ (lw_M (1883 + 1 + 6) 295 ++ (lw_R (1883 + 1 + 6 + 7 + 6) 297 ++ (lw_th (1883 + 1 + 6 + 7 + 6 + 5) 15 ++ lw_tI (1883 + 1 + 6 + 7 + 6 + 5) 1764)))) = true := by decide +kernel
theorem lr_meanOf : lw_okd (lw_ap (1883 + 1) 1 1) = true ∧ lw_okd (lw_ap (1883 + 1 + 6 + 7) 1 1) = true := by decide +kernel
theorem lc_meanOf (hok : ev_ok sh_S G) (hnc : NCs G) (hkw : KW G) (hks : KS G) (hB : lw_B G p s m c b L xs) (hi : i + 5 < L) (hk : k < 599) (hBo : Bo σ μ) (h : ∀ (σ : ev_A) (μ2 : ev_M), Bo σ μ2 → LW G p e s m below meth c b Q (k + 1) 3700 (lw_l i) [] μ2) : LW G p e s m below meth c b Q k 1883 (lw_l i) [] μ :=
  LW_cI (w := 6 * 1) (na := 1) (off := 1764) hB (LW_pu hB hi lr_meanOf.1 (by decide)) (LW_pu hB hi lr_meanOf.2 (by decide)) lq_meanOf wl_thrown wl_h_meanOf wl_m_meanOf rfl (st_meanOf hok hnc hBo (xs (i + 1))) (by decide) hk h
theorem wl_m_harshest : lw_mw RX11 300 0 mi_X11_harshest := ⟨⟨lw_ix (k := 9) (j := 127) rfl rfl, wl_X11, lw_ix (k := 9) (j := 130) rfl rfl, Nat.le_of_ble_eq_true rfl, by decide +kernel⟩, lw_ix (k := 9) (j := 128) rfl rfl, lw_ix (k := 9) (j := 129) rfl rfl, Nat.le_of_ble_eq_true rfl⟩
theorem wl_h_harshest : lw_hw 298 2 hy_harshest hh_harshest := ⟨lw_ix (k := 5) (j := 130) rfl rfl, lw_ix (k := 5) (j := 131) rfl rfl, lw_ix (k := 5) (j := 132) rfl rfl, wl_RL, by decide +kernel, by decide +kernel⟩
set_option maxRecDepth 100000 in
theorem lq_harshest : lw_okd (lw_A 1939 ++ (lw_M (1939 + 1 + 0) 298 ++ (lw_R (1939 + 1 + 0 + 7 + 0) 300 ++ (lw_th (1939 + 1 + 0 + 7 + 0 + 5) 15 ++ lw_tI (1939 + 1 + 0 + 7 + 0 + 5) 1720)))) = true := by decide +kernel
theorem lr_harshest : lw_okd (lw_ap (1939 + 1) 0 1) = true ∧ lw_okd (lw_ap (1939 + 1 + 0 + 7) 0 1) = true := by decide +kernel
theorem lc_harshest (hok : ev_ok sh_S G) (hnc : NCs G) (hkw : KW G) (hks : KS G) (hB : lw_B G p s m c b L xs) (hi : i + 5 < L) (hk : k < 599) (hBo : Bo σ μ) (h : ∀ (σ : ev_A) (μ2 : ev_M), Bo σ μ2 → LW G p e s m below meth c b Q (k + 1) 3700 (lw_l i) [] μ2) : LW G p e s m below meth c b Q k 1939 (lw_l i) [] μ :=
  LW_cI (w := 6 * 0) (na := 0) (off := 1720) hB (LW_pu hB hi lr_harshest.1 (by decide)) (LW_pu hB hi lr_harshest.2 (by decide)) lq_harshest wl_thrown wl_h_harshest wl_m_harshest rfl (st_harshest hok hnc hBo) (by decide) hk h
theorem wl_m_disagreement : lw_mw RX11 303 1 mi_X11_disagreement := ⟨⟨lw_ix (k := 9) (j := 131) rfl rfl, wl_X11, lw_ix (k := 9) (j := 134) rfl rfl, Nat.le_of_ble_eq_true rfl, by decide +kernel⟩, lw_ix (k := 9) (j := 132) rfl rfl, lw_ix (k := 9) (j := 133) rfl rfl, Nat.le_of_ble_eq_true rfl⟩
theorem wl_h_disagreement : lw_hw 301 3 hy_disagreement hh_disagreement := ⟨lw_ix (k := 5) (j := 142) rfl rfl, lw_ix (k := 5) (j := 143) rfl rfl, lw_ix (k := 5) (j := 144) rfl rfl, wl_RL, by decide +kernel, by decide +kernel⟩
set_option maxRecDepth 100000 in
theorem lq_disagreement : lw_okd (lw_A 1983 ++ (lw_M (1983 + 1 + 6) 301 ++ (lw_R (1983 + 1 + 6 + 7 + 6) 303 ++ (lw_th (1983 + 1 + 6 + 7 + 6 + 5) 15 ++ lw_tI (1983 + 1 + 6 + 7 + 6 + 5) 1664)))) = true := by decide +kernel
theorem lr_disagreement : lw_okd (lw_ap (1983 + 1) 1 1) = true ∧ lw_okd (lw_ap (1983 + 1 + 6 + 7) 1 1) = true := by decide +kernel
theorem lc_disagreement (hok : ev_ok sh_S G) (hnc : NCs G) (hkw : KW G) (hks : KS G) (hB : lw_B G p s m c b L xs) (hi : i + 5 < L) (hk : k < 599) (hBo : Bo σ μ) (h : ∀ (σ : ev_A) (μ2 : ev_M), Bo σ μ2 → LW G p e s m below meth c b Q (k + 1) 3700 (lw_l i) [] μ2) : LW G p e s m below meth c b Q k 1983 (lw_l i) [] μ :=
  LW_cI (w := 6 * 1) (na := 1) (off := 1664) hB (LW_pu hB hi lr_disagreement.1 (by decide)) (LW_pu hB hi lr_disagreement.2 (by decide)) lq_disagreement wl_thrown wl_h_disagreement wl_m_disagreement rfl (st_disagreement hok hnc hBo (xs (i + 1))) (by decide) hk h
theorem wl_m_adjustedScore : lw_mw RX11 306 2 mi_X11_adjustedScore := ⟨⟨lw_ix (k := 9) (j := 111) rfl rfl, wl_X11, lw_ix (k := 9) (j := 114) rfl rfl, Nat.le_of_ble_eq_true rfl, by decide +kernel⟩, lw_ix (k := 9) (j := 112) rfl rfl, lw_ix (k := 9) (j := 113) rfl rfl, Nat.le_of_ble_eq_true rfl⟩
theorem wl_h_adjustedScore : lw_hw 304 4 hy_adjustedScore hh_adjustedScore := ⟨lw_ix (k := 5) (j := 165) rfl rfl, lw_ix (k := 5) (j := 166) rfl rfl, lw_ix (k := 5) (j := 167) rfl rfl, wl_RL, by decide +kernel, by decide +kernel⟩
set_option maxRecDepth 100000 in
theorem lq_adjustedScore : lw_okd (lw_A 2039 ++ (lw_M (2039 + 1 + 12) 304 ++ (lw_R (2039 + 1 + 12 + 7 + 12) 306 ++ (lw_th (2039 + 1 + 12 + 7 + 12 + 5) 15 ++ lw_tI (2039 + 1 + 12 + 7 + 12 + 5) 1596)))) = true := by decide +kernel
theorem lr_adjustedScore : lw_okd (lw_ap (2039 + 1) 2 1) = true ∧ lw_okd (lw_ap (2039 + 1 + 12 + 7) 2 1) = true := by decide +kernel
theorem lc_adjustedScore (hok : ev_ok sh_S G) (hnc : NCs G) (hkw : KW G) (hks : KS G) (hB : lw_B G p s m c b L xs) (hi : i + 5 < L) (hk : k < 599) (hBo : Bo σ μ) (h : ∀ (σ : ev_A) (μ2 : ev_M), Bo σ μ2 → LW G p e s m below meth c b Q (k + 1) 3700 (lw_l i) [] μ2) : LW G p e s m below meth c b Q k 2039 (lw_l i) [] μ :=
  LW_cI (w := 6 * 2) (na := 2) (off := 1596) hB (LW_pu hB hi lr_adjustedScore.1 (by decide)) (LW_pu hB hi lr_adjustedScore.2 (by decide)) lq_adjustedScore wl_thrown wl_h_adjustedScore wl_m_adjustedScore rfl (st_adjustedScore hok hnc hBo (xs (i + 1)) (xs (i + 2))) (by decide) hk h
theorem wl_m_totalOf : lw_mw RX11 309 1 mi_X11_totalOf := ⟨⟨lw_ix (k := 9) (j := 139) rfl rfl, wl_X11, lw_ix (k := 9) (j := 142) rfl rfl, Nat.le_of_ble_eq_true rfl, by decide +kernel⟩, lw_ix (k := 9) (j := 140) rfl rfl, lw_ix (k := 9) (j := 141) rfl rfl, Nat.le_of_ble_eq_true rfl⟩
theorem wl_h_totalOf : lw_hw 307 3 hy_totalOf hh_totalOf := ⟨lw_ix (k := 5) (j := 173) rfl rfl, lw_ix (k := 5) (j := 174) rfl rfl, lw_ix (k := 5) (j := 175) rfl rfl, wl_RL, by decide +kernel, by decide +kernel⟩
set_option maxRecDepth 100000 in
theorem lq_totalOf : lw_okd (lw_A 2107 ++ (lw_M (2107 + 1 + 6) 307 ++ (lw_R (2107 + 1 + 6 + 7 + 6) 309 ++ (lw_th (2107 + 1 + 6 + 7 + 6 + 5) 15 ++ lw_tI (2107 + 1 + 6 + 7 + 6 + 5) 1540)))) = true := by decide +kernel
theorem lr_totalOf : lw_okd (lw_ap (2107 + 1) 1 1) = true ∧ lw_okd (lw_ap (2107 + 1 + 6 + 7) 1 1) = true := by decide +kernel
theorem lc_totalOf (hok : ev_ok sh_S G) (hnc : NCs G) (hkw : KW G) (hks : KS G) (hB : lw_B G p s m c b L xs) (hi : i + 5 < L) (hk : k < 599) (hBo : Bo σ μ) (h : ∀ (σ : ev_A) (μ2 : ev_M), Bo σ μ2 → LW G p e s m below meth c b Q (k + 1) 3700 (lw_l i) [] μ2) : LW G p e s m below meth c b Q k 2107 (lw_l i) [] μ :=
  LW_cI (w := 6 * 1) (na := 1) (off := 1540) hB (LW_pu hB hi lr_totalOf.1 (by decide)) (LW_pu hB hi lr_totalOf.2 (by decide)) lq_totalOf wl_thrown wl_h_totalOf wl_m_totalOf rfl (st_totalOf hok hnc hBo (xs (i + 1))) (by decide) hk h
theorem wl_m_spreadOf : lw_mw RX11 312 1 mi_X11_spreadOf := ⟨⟨lw_ix (k := 9) (j := 143) rfl rfl, wl_X11, lw_ix (k := 9) (j := 146) rfl rfl, Nat.le_of_ble_eq_true rfl, by decide +kernel⟩, lw_ix (k := 9) (j := 144) rfl rfl, lw_ix (k := 9) (j := 145) rfl rfl, Nat.le_of_ble_eq_true rfl⟩
theorem wl_h_spreadOf : lw_hw 310 3 hy_spreadOf hh_spreadOf := ⟨lw_ix (k := 5) (j := 181) rfl rfl, lw_ix (k := 5) (j := 182) rfl rfl, lw_ix (k := 5) (j := 183) rfl rfl, wl_RL, by decide +kernel, by decide +kernel⟩
set_option maxRecDepth 100000 in
theorem lq_spreadOf : lw_okd (lw_A 2163 ++ (lw_M (2163 + 1 + 6) 310 ++ (lw_R (2163 + 1 + 6 + 7 + 6) 312 ++ (lw_th (2163 + 1 + 6 + 7 + 6 + 5) 15 ++ lw_tI (2163 + 1 + 6 + 7 + 6 + 5) 1484)))) = true := by decide +kernel
theorem lr_spreadOf : lw_okd (lw_ap (2163 + 1) 1 1) = true ∧ lw_okd (lw_ap (2163 + 1 + 6 + 7) 1 1) = true := by decide +kernel
theorem lc_spreadOf (hok : ev_ok sh_S G) (hnc : NCs G) (hkw : KW G) (hks : KS G) (hB : lw_B G p s m c b L xs) (hi : i + 5 < L) (hk : k < 599) (hBo : Bo σ μ) (h : ∀ (σ : ev_A) (μ2 : ev_M), Bo σ μ2 → LW G p e s m below meth c b Q (k + 1) 3700 (lw_l i) [] μ2) : LW G p e s m below meth c b Q k 2163 (lw_l i) [] μ :=
  LW_cI (w := 6 * 1) (na := 1) (off := 1484) hB (LW_pu hB hi lr_spreadOf.1 (by decide)) (LW_pu hB hi lr_spreadOf.2 (by decide)) lq_spreadOf wl_thrown wl_h_spreadOf wl_m_spreadOf rfl (st_spreadOf hok hnc hBo (xs (i + 1))) (by decide) hk h
theorem wl_m_needsTalk : lw_mw RX11 315 1 mi_X11_needsTalk := ⟨⟨lw_ix (k := 9) (j := 153) rfl rfl, wl_X11, lw_ix (k := 9) (j := 156) rfl rfl, Nat.le_of_ble_eq_true rfl, by decide +kernel⟩, lw_ix (k := 9) (j := 154) rfl rfl, lw_ix (k := 9) (j := 155) rfl rfl, Nat.le_of_ble_eq_true rfl⟩
theorem wl_h_needsTalk : lw_hw 313 3 hy_needsTalk hh_needsTalk := ⟨lw_ix (k := 5) (j := 192) rfl rfl, lw_ix (k := 5) (j := 193) rfl rfl, lw_ix (k := 5) (j := 194) rfl rfl, wl_RL, by decide +kernel, by decide +kernel⟩
set_option maxRecDepth 100000 in
theorem lq_needsTalk : lw_okd (lw_A 2219 ++ (lw_M (2219 + 1 + 6) 313 ++ (lw_R (2219 + 1 + 6 + 7 + 6) 315 ++ (lw_th (2219 + 1 + 6 + 7 + 6 + 5) 22 ++ lw_tZ (2219 + 1 + 6 + 7 + 6 + 5) 1421)))) = true := by decide +kernel
theorem lr_needsTalk : lw_okd (lw_ap (2219 + 1) 1 1) = true ∧ lw_okd (lw_ap (2219 + 1 + 6 + 7) 1 1) = true := by decide +kernel
theorem lc_needsTalk (hok : ev_ok sh_S G) (hnc : NCs G) (hkw : KW G) (hks : KS G) (hB : lw_B G p s m c b L xs) (hi : i + 5 < L) (hk : k < 599) (hBo : Bo σ μ) (h : ∀ (σ : ev_A) (μ2 : ev_M), Bo σ μ2 → LW G p e s m below meth c b Q (k + 1) 3700 (lw_l i) [] μ2) : LW G p e s m below meth c b Q k 2219 (lw_l i) [] μ :=
  LW_cZ (w := 6 * 1) (na := 1) (off := 1421) hB (LW_pu hB hi lr_needsTalk.1 (by decide)) (LW_pu hB hi lr_needsTalk.2 (by decide)) lq_needsTalk wl_thrown wl_h_needsTalk wl_m_needsTalk rfl (st_needsTalk hok hnc hBo (xs (i + 1))) (by decide) hk h
theorem wl_m_spreadAfterTalk : lw_mw RX11 318 1 mi_X11_spreadAfterTalk := ⟨⟨lw_ix (k := 9) (j := 161) rfl rfl, wl_X11, lw_ix (k := 9) (j := 164) rfl rfl, Nat.le_of_ble_eq_true rfl, by decide +kernel⟩, lw_ix (k := 9) (j := 162) rfl rfl, lw_ix (k := 9) (j := 163) rfl rfl, Nat.le_of_ble_eq_true rfl⟩
theorem wl_h_spreadAfterTalk : lw_hw 316 3 hy_spreadAfterTalk hh_spreadAfterTalk := ⟨lw_ix (k := 5) (j := 204) rfl rfl, lw_ix (k := 5) (j := 205) rfl rfl, lw_ix (k := 5) (j := 206) rfl rfl, wl_RL, by decide +kernel, by decide +kernel⟩
set_option maxRecDepth 100000 in
theorem lq_spreadAfterTalk : lw_okd (lw_A 2282 ++ (lw_M (2282 + 1 + 6) 316 ++ (lw_R (2282 + 1 + 6 + 7 + 6) 318 ++ (lw_th (2282 + 1 + 6 + 7 + 6 + 5) 15 ++ lw_tI (2282 + 1 + 6 + 7 + 6 + 5) 1365)))) = true := by decide +kernel
theorem lr_spreadAfterTalk : lw_okd (lw_ap (2282 + 1) 1 1) = true ∧ lw_okd (lw_ap (2282 + 1 + 6 + 7) 1 1) = true := by decide +kernel
theorem lc_spreadAfterTalk (hok : ev_ok sh_S G) (hnc : NCs G) (hkw : KW G) (hks : KS G) (hB : lw_B G p s m c b L xs) (hi : i + 5 < L) (hk : k < 599) (hBo : Bo σ μ) (h : ∀ (σ : ev_A) (μ2 : ev_M), Bo σ μ2 → LW G p e s m below meth c b Q (k + 1) 3700 (lw_l i) [] μ2) : LW G p e s m below meth c b Q k 2282 (lw_l i) [] μ :=
  LW_cI (w := 6 * 1) (na := 1) (off := 1365) hB (LW_pu hB hi lr_spreadAfterTalk.1 (by decide)) (LW_pu hB hi lr_spreadAfterTalk.2 (by decide)) lq_spreadAfterTalk wl_thrown wl_h_spreadAfterTalk wl_m_spreadAfterTalk rfl (st_spreadAfterTalk hok hnc hBo (xs (i + 1))) (by decide) hk h
theorem wl_m_rankOf : lw_mw RX11 321 1 mi_X11_rankOf := ⟨⟨lw_ix (k := 9) (j := 165) rfl rfl, wl_X11, lw_ix (k := 9) (j := 168) rfl rfl, Nat.le_of_ble_eq_true rfl, by decide +kernel⟩, lw_ix (k := 9) (j := 166) rfl rfl, lw_ix (k := 9) (j := 167) rfl rfl, Nat.le_of_ble_eq_true rfl⟩
theorem wl_h_rankOf : lw_hw 319 3 hy_rankOf hh_rankOf := ⟨lw_ix (k := 5) (j := 213) rfl rfl, lw_ix (k := 5) (j := 214) rfl rfl, lw_ix (k := 5) (j := 215) rfl rfl, wl_RL, by decide +kernel, by decide +kernel⟩
set_option maxRecDepth 100000 in
theorem lq_rankOf : lw_okd (lw_A 2338 ++ (lw_M (2338 + 1 + 6) 319 ++ (lw_R (2338 + 1 + 6 + 7 + 6) 321 ++ (lw_th (2338 + 1 + 6 + 7 + 6 + 5) 15 ++ lw_tI (2338 + 1 + 6 + 7 + 6 + 5) 1309)))) = true := by decide +kernel
theorem lr_rankOf : lw_okd (lw_ap (2338 + 1) 1 1) = true ∧ lw_okd (lw_ap (2338 + 1 + 6 + 7) 1 1) = true := by decide +kernel
theorem lc_rankOf (hok : ev_ok sh_S G) (hnc : NCs G) (hkw : KW G) (hks : KS G) (hB : lw_B G p s m c b L xs) (hi : i + 5 < L) (hk : k < 599) (hBo : Bo σ μ) (h : ∀ (σ : ev_A) (μ2 : ev_M), Bo σ μ2 → LW G p e s m below meth c b Q (k + 1) 3700 (lw_l i) [] μ2) : LW G p e s m below meth c b Q k 2338 (lw_l i) [] μ :=
  LW_cI (w := 6 * 1) (na := 1) (off := 1309) hB (LW_pu hB hi lr_rankOf.1 (by decide)) (LW_pu hB hi lr_rankOf.2 (by decide)) lq_rankOf wl_thrown wl_h_rankOf wl_m_rankOf rfl (st_rankOf hok hnc hBo (xs (i + 1))) (by decide) hk h
theorem wl_m_pancakeAt : lw_mw RX11 324 1 mi_X11_pancakeAt := ⟨⟨lw_ix (k := 9) (j := 177) rfl rfl, wl_X11, lw_ix (k := 9) (j := 180) rfl rfl, Nat.le_of_ble_eq_true rfl, by decide +kernel⟩, lw_ix (k := 9) (j := 178) rfl rfl, lw_ix (k := 9) (j := 179) rfl rfl, Nat.le_of_ble_eq_true rfl⟩
theorem wl_h_pancakeAt : lw_hw 322 3 hy_pancakeAt hh_pancakeAt := ⟨lw_ix (k := 5) (j := 228) rfl rfl, lw_ix (k := 5) (j := 229) rfl rfl, lw_ix (k := 5) (j := 230) rfl rfl, wl_RL, by decide +kernel, by decide +kernel⟩
set_option maxRecDepth 100000 in
theorem lq_pancakeAt : lw_okd (lw_A 2394 ++ (lw_M (2394 + 1 + 6) 322 ++ (lw_R (2394 + 1 + 6 + 7 + 6) 324 ++ (lw_th (2394 + 1 + 6 + 7 + 6 + 5) 15 ++ lw_tI (2394 + 1 + 6 + 7 + 6 + 5) 1253)))) = true := by decide +kernel
theorem lr_pancakeAt : lw_okd (lw_ap (2394 + 1) 1 1) = true ∧ lw_okd (lw_ap (2394 + 1 + 6 + 7) 1 1) = true := by decide +kernel
theorem lc_pancakeAt (hok : ev_ok sh_S G) (hnc : NCs G) (hkw : KW G) (hks : KS G) (hB : lw_B G p s m c b L xs) (hi : i + 5 < L) (hk : k < 599) (hBo : Bo σ μ) (h : ∀ (σ : ev_A) (μ2 : ev_M), Bo σ μ2 → LW G p e s m below meth c b Q (k + 1) 3700 (lw_l i) [] μ2) : LW G p e s m below meth c b Q k 2394 (lw_l i) [] μ :=
  LW_cI (w := 6 * 1) (na := 1) (off := 1253) hB (LW_pu hB hi lr_pancakeAt.1 (by decide)) (LW_pu hB hi lr_pancakeAt.2 (by decide)) lq_pancakeAt wl_thrown wl_h_pancakeAt wl_m_pancakeAt rfl (st_pancakeAt hok hnc hBo (xs (i + 1))) (by decide) hk h
theorem wl_m_isAccepted : lw_mw RX11 327 1 mi_X11_isAccepted := ⟨⟨lw_ix (k := 9) (j := 181) rfl rfl, wl_X11, lw_ix (k := 9) (j := 184) rfl rfl, Nat.le_of_ble_eq_true rfl, by decide +kernel⟩, lw_ix (k := 9) (j := 182) rfl rfl, lw_ix (k := 9) (j := 183) rfl rfl, Nat.le_of_ble_eq_true rfl⟩
theorem wl_h_isAccepted : lw_hw 325 3 hy_isAccepted hh_isAccepted := ⟨lw_ix (k := 6) (j := 1) rfl rfl, lw_ix (k := 6) (j := 2) rfl rfl, lw_ix (k := 6) (j := 3) rfl rfl, wl_RL, by decide +kernel, by decide +kernel⟩
set_option maxRecDepth 100000 in
theorem lq_isAccepted : lw_okd (lw_A 2450 ++ (lw_M (2450 + 1 + 6) 325 ++ (lw_R (2450 + 1 + 6 + 7 + 6) 327 ++ (lw_th (2450 + 1 + 6 + 7 + 6 + 5) 22 ++ lw_tZ (2450 + 1 + 6 + 7 + 6 + 5) 1190)))) = true := by decide +kernel
theorem lr_isAccepted : lw_okd (lw_ap (2450 + 1) 1 1) = true ∧ lw_okd (lw_ap (2450 + 1 + 6 + 7) 1 1) = true := by decide +kernel
theorem lc_isAccepted (hok : ev_ok sh_S G) (hnc : NCs G) (hkw : KW G) (hks : KS G) (hB : lw_B G p s m c b L xs) (hi : i + 5 < L) (hk : k < 599) (hBo : Bo σ μ) (h : ∀ (σ : ev_A) (μ2 : ev_M), Bo σ μ2 → LW G p e s m below meth c b Q (k + 1) 3700 (lw_l i) [] μ2) : LW G p e s m below meth c b Q k 2450 (lw_l i) [] μ :=
  LW_cZ (w := 6 * 1) (na := 1) (off := 1190) hB (LW_pu hB hi lr_isAccepted.1 (by decide)) (LW_pu hB hi lr_isAccepted.2 (by decide)) lq_isAccepted wl_thrown wl_h_isAccepted wl_m_isAccepted rfl (st_isAccepted hok hnc hBo (xs (i + 1))) (by decide) hk h
theorem wl_m_fillCount : lw_mw RX11 330 0 mi_X11_fillCount := ⟨⟨lw_ix (k := 9) (j := 185) rfl rfl, wl_X11, lw_ix (k := 9) (j := 188) rfl rfl, Nat.le_of_ble_eq_true rfl, by decide +kernel⟩, lw_ix (k := 9) (j := 186) rfl rfl, lw_ix (k := 9) (j := 187) rfl rfl, Nat.le_of_ble_eq_true rfl⟩
theorem wl_h_fillCount : lw_hw 328 2 hy_fillCount hh_fillCount := ⟨lw_ix (k := 6) (j := 8) rfl rfl, lw_ix (k := 6) (j := 9) rfl rfl, lw_ix (k := 6) (j := 10) rfl rfl, wl_RL, by decide +kernel, by decide +kernel⟩
set_option maxRecDepth 100000 in
theorem lq_fillCount : lw_okd (lw_A 2513 ++ (lw_M (2513 + 1 + 0) 328 ++ (lw_R (2513 + 1 + 0 + 7 + 0) 330 ++ (lw_th (2513 + 1 + 0 + 7 + 0 + 5) 15 ++ lw_tI (2513 + 1 + 0 + 7 + 0 + 5) 1146)))) = true := by decide +kernel
theorem lr_fillCount : lw_okd (lw_ap (2513 + 1) 0 1) = true ∧ lw_okd (lw_ap (2513 + 1 + 0 + 7) 0 1) = true := by decide +kernel
theorem lc_fillCount (hok : ev_ok sh_S G) (hnc : NCs G) (hkw : KW G) (hks : KS G) (hB : lw_B G p s m c b L xs) (hi : i + 5 < L) (hk : k < 599) (hBo : Bo σ μ) (h : ∀ (σ : ev_A) (μ2 : ev_M), Bo σ μ2 → LW G p e s m below meth c b Q (k + 1) 3700 (lw_l i) [] μ2) : LW G p e s m below meth c b Q k 2513 (lw_l i) [] μ :=
  LW_cI (w := 6 * 0) (na := 0) (off := 1146) hB (LW_pu hB hi lr_fillCount.1 (by decide)) (LW_pu hB hi lr_fillCount.2 (by decide)) lq_fillCount wl_thrown wl_h_fillCount wl_m_fillCount rfl (st_fillCount hok hnc hBo) (by decide) hk h
theorem wl_m_moveCount : lw_mw RX11 333 0 mi_X11_moveCount := ⟨⟨lw_ix (k := 9) (j := 189) rfl rfl, wl_X11, lw_ix (k := 9) (j := 192) rfl rfl, Nat.le_of_ble_eq_true rfl, by decide +kernel⟩, lw_ix (k := 9) (j := 190) rfl rfl, lw_ix (k := 9) (j := 191) rfl rfl, Nat.le_of_ble_eq_true rfl⟩
theorem wl_h_moveCount : lw_hw 331 2 hy_moveCount hh_moveCount := ⟨lw_ix (k := 6) (j := 15) rfl rfl, lw_ix (k := 6) (j := 16) rfl rfl, lw_ix (k := 6) (j := 17) rfl rfl, wl_RL, by decide +kernel, by decide +kernel⟩
set_option maxRecDepth 100000 in
theorem lq_moveCount : lw_okd (lw_A 2557 ++ (lw_M (2557 + 1 + 0) 331 ++ (lw_R (2557 + 1 + 0 + 7 + 0) 333 ++ (lw_th (2557 + 1 + 0 + 7 + 0 + 5) 15 ++ lw_tI (2557 + 1 + 0 + 7 + 0 + 5) 1102)))) = true := by decide +kernel
theorem lr_moveCount : lw_okd (lw_ap (2557 + 1) 0 1) = true ∧ lw_okd (lw_ap (2557 + 1 + 0 + 7) 0 1) = true := by decide +kernel
theorem lc_moveCount (hok : ev_ok sh_S G) (hnc : NCs G) (hkw : KW G) (hks : KS G) (hB : lw_B G p s m c b L xs) (hi : i + 5 < L) (hk : k < 599) (hBo : Bo σ μ) (h : ∀ (σ : ev_A) (μ2 : ev_M), Bo σ μ2 → LW G p e s m below meth c b Q (k + 1) 3700 (lw_l i) [] μ2) : LW G p e s m below meth c b Q k 2557 (lw_l i) [] μ :=
  LW_cI (w := 6 * 0) (na := 0) (off := 1102) hB (LW_pu hB hi lr_moveCount.1 (by decide)) (LW_pu hB hi lr_moveCount.2 (by decide)) lq_moveCount wl_thrown wl_h_moveCount wl_m_moveCount rfl (st_moveCount hok hnc hBo) (by decide) hk h
theorem wl_m_talkCount : lw_mw RX11 336 0 mi_X11_talkCount := ⟨⟨lw_ix (k := 9) (j := 193) rfl rfl, wl_X11, lw_ix (k := 9) (j := 196) rfl rfl, Nat.le_of_ble_eq_true rfl, by decide +kernel⟩, lw_ix (k := 9) (j := 194) rfl rfl, lw_ix (k := 9) (j := 195) rfl rfl, Nat.le_of_ble_eq_true rfl⟩
theorem wl_h_talkCount : lw_hw 334 2 hy_talkCount hh_talkCount := ⟨lw_ix (k := 6) (j := 22) rfl rfl, lw_ix (k := 6) (j := 23) rfl rfl, lw_ix (k := 6) (j := 24) rfl rfl, wl_RL, by decide +kernel, by decide +kernel⟩
set_option maxRecDepth 100000 in
theorem lq_talkCount : lw_okd (lw_A 2601 ++ (lw_M (2601 + 1 + 0) 334 ++ (lw_R (2601 + 1 + 0 + 7 + 0) 336 ++ (lw_th (2601 + 1 + 0 + 7 + 0 + 5) 15 ++ lw_tI (2601 + 1 + 0 + 7 + 0 + 5) 1058)))) = true := by decide +kernel
theorem lr_talkCount : lw_okd (lw_ap (2601 + 1) 0 1) = true ∧ lw_okd (lw_ap (2601 + 1 + 0 + 7) 0 1) = true := by decide +kernel
theorem lc_talkCount (hok : ev_ok sh_S G) (hnc : NCs G) (hkw : KW G) (hks : KS G) (hB : lw_B G p s m c b L xs) (hi : i + 5 < L) (hk : k < 599) (hBo : Bo σ μ) (h : ∀ (σ : ev_A) (μ2 : ev_M), Bo σ μ2 → LW G p e s m below meth c b Q (k + 1) 3700 (lw_l i) [] μ2) : LW G p e s m below meth c b Q k 2601 (lw_l i) [] μ :=
  LW_cI (w := 6 * 0) (na := 0) (off := 1058) hB (LW_pu hB hi lr_talkCount.1 (by decide)) (LW_pu hB hi lr_talkCount.2 (by decide)) lq_talkCount wl_thrown wl_h_talkCount wl_m_talkCount rfl (st_talkCount hok hnc hBo) (by decide) hk h
theorem wl_m_changeCount : lw_mw RX11 339 0 mi_X11_changeCount := ⟨⟨lw_ix (k := 9) (j := 197) rfl rfl, wl_X11, lw_ix (k := 9) (j := 200) rfl rfl, Nat.le_of_ble_eq_true rfl, by decide +kernel⟩, lw_ix (k := 9) (j := 198) rfl rfl, lw_ix (k := 9) (j := 199) rfl rfl, Nat.le_of_ble_eq_true rfl⟩
theorem wl_h_changeCount : lw_hw 337 2 hy_changeCount hh_changeCount := ⟨lw_ix (k := 6) (j := 29) rfl rfl, lw_ix (k := 6) (j := 30) rfl rfl, lw_ix (k := 6) (j := 31) rfl rfl, wl_RL, by decide +kernel, by decide +kernel⟩
set_option maxRecDepth 100000 in
theorem lq_changeCount : lw_okd (lw_A 2645 ++ (lw_M (2645 + 1 + 0) 337 ++ (lw_R (2645 + 1 + 0 + 7 + 0) 339 ++ (lw_th (2645 + 1 + 0 + 7 + 0 + 5) 15 ++ lw_tI (2645 + 1 + 0 + 7 + 0 + 5) 1014)))) = true := by decide +kernel
theorem lr_changeCount : lw_okd (lw_ap (2645 + 1) 0 1) = true ∧ lw_okd (lw_ap (2645 + 1 + 0 + 7) 0 1) = true := by decide +kernel
theorem lc_changeCount (hok : ev_ok sh_S G) (hnc : NCs G) (hkw : KW G) (hks : KS G) (hB : lw_B G p s m c b L xs) (hi : i + 5 < L) (hk : k < 599) (hBo : Bo σ μ) (h : ∀ (σ : ev_A) (μ2 : ev_M), Bo σ μ2 → LW G p e s m below meth c b Q (k + 1) 3700 (lw_l i) [] μ2) : LW G p e s m below meth c b Q k 2645 (lw_l i) [] μ :=
  LW_cI (w := 6 * 0) (na := 0) (off := 1014) hB (LW_pu hB hi lr_changeCount.1 (by decide)) (LW_pu hB hi lr_changeCount.2 (by decide)) lq_changeCount wl_thrown wl_h_changeCount wl_m_changeCount rfl (st_changeCount hok hnc hBo) (by decide) hk h
theorem wl_m_averageScore : lw_mw RX11 343 0 mi_X11_averageScore := ⟨⟨lw_ix (k := 9) (j := 201) rfl rfl, wl_X11, lw_ix (k := 9) (j := 204) rfl rfl, Nat.le_of_ble_eq_true rfl, by decide +kernel⟩, lw_ix (k := 9) (j := 202) rfl rfl, lw_ix (k := 9) (j := 203) rfl rfl, Nat.le_of_ble_eq_true rfl⟩
theorem wl_h_averageScore : lw_hw 340 2 hy_averageScore hh_averageScore := ⟨lw_ix (k := 6) (j := 36) rfl rfl, lw_ix (k := 6) (j := 37) rfl rfl, lw_ix (k := 6) (j := 38) rfl rfl, wl_RL, by decide +kernel, by decide +kernel⟩
def lp_averageScore : List (Nat × Instr × Nat) := [(2689, .aload_n 1, 1), (2690, .aload 4, 2), (2692, .invokestatic 340, 3), (2695, .istore 6, 2), (2697, .aload_n 2, 1), (2698, .invokevirtual 343, 3), (2701, .dstore 7, 2), (2703, .aload_n 2, 1), (2704, .invokevirtual 206, 3), (2707, .iload 6, 2), (2709, .if_icmp .eq 5, 3), (2712, .iconst 0, 1), (2713, .ireturn, 1), (2714, .iload 6, 2), (2716, .ifCond .ne 35, 3), (2719, .aload 4, 2), (2721, .iconst 0, 1), (2722, .daload, 1), (2723, .dload 7, 2), (2725, .dcmp .l, 1), (2726, .ifCond .eq 25, 3), (2729, .aload 4, 2), (2731, .iconst 0, 1), (2732, .daload, 1), (2733, .aload 4, 2), (2735, .iconst 0, 1), (2736, .daload, 1), (2737, .dcmp .l, 1), (2738, .ifCond .eq 11, 3), (2741, .dload 7, 2), (2743, .dload 7, 2), (2745, .dcmp .l, 1), (2746, .ifCond .ne 5, 3), (2749, .iconst 0, 1), (2750, .ireturn, 1), (2751, .goto 949, 3)]
set_option maxRecDepth 100000 in
theorem lq_averageScore : lw_okd lp_averageScore = true := by decide +kernel
theorem lc_averageScore (hok : ev_ok sh_S G) (hnc : NCs G) (hkw : KW G) (hks : KS G) (hB : lw_B G p s m c b L xs) (hi : i + 5 < L) (hk : k < 599) (hBo : Bo σ μ) (h : ∀ (σ : ev_A) (μ2 : ev_M), Bo σ μ2 → LW G p e s m below meth c b Q (k + 1) 3700 (lw_l i) [] μ2) : LW G p e s m below meth c b Q k 2689 (lw_l i) [] μ := by
  obtain ⟨n, v, μ1, μ2, a1, a2, a3, a4, a5, a6⟩ := st_averageScore hok hnc hBo
  have hg : LW G p e s m below meth c b Q (k + 1) 2751 (lw_l i) [] μ2 := LW_gt hB (lw_d lq_averageScore 35 rfl) (by decide) (h σ μ2 a6)
  have hs : ∀ q ∈ lw_l i, q ∈ ev_st2 (ev_st1 (lw_l i) 6 (.int n)) 7 (.double v) := fun q hq => List.mem_cons_of_mem _ (List.mem_cons_of_mem _ hq)
  refine LW_al hB (lw_d lq_averageScore 0 rfl) (a := 0) rfl ?_
  refine LW_ald hB (lw_d lq_averageScore 1 rfl) (a := 311) rfl ?_
  refine LW_hp (As := [.ref 0, .ref 311]) hB wl_h_averageScore rfl a1 (lw_d lq_averageScore 2 rfl) (by omega) ?_
  refine LW_is hB (lw_d lq_averageScore 3 rfl) (by decide) ?_
  refine LW_al hB (lw_d lq_averageScore 4 rfl) (a := 301) rfl ?_
  refine LW_m (As := []) (st := []) hB wl_m_averageScore rfl (by decide) a2 (lw_d lq_averageScore 5 rfl) (by omega) ?_
  refine LW_ds hB (lw_d lq_averageScore 6 rfl) (by decide) ?_
  refine LW_al hB (lw_d lq_averageScore 7 rfl) (a := 301) rfl ?_
  refine LW_m (As := []) (st := []) hB wl_thrown rfl (by decide) (m_X11_thrown hok) (lw_d lq_averageScore 8 rfl) (by omega) ?_
  refine LW_il hB (lw_d lq_averageScore 9 rfl) (x := n) rfl ?_
  refine LW_ce (t := 2714) hB (lw_d lq_averageScore 10 rfl) (by decide) a3 ?_
  refine LW_il hB (lw_d lq_averageScore 13 rfl) (x := n) rfl ?_
  refine LW_in (t := 2751) hB (lw_d lq_averageScore 14 rfl) (by decide) (fun _ => LW_sub hs hg) (fun z => ?_)
  refine LW_ald hB (lw_d lq_averageScore 15 rfl) (a := 311) rfl ?_
  refine LW_ic (v := 0) hB (lw_d lq_averageScore 16 rfl) rfl ?_
  refine LW_dd0 hB (lw_d lq_averageScore 17 rfl) ?_
  rw [show (μ2.2.1 311 0).toUInt64 = v by rw [a4 z]; simp]
  refine LW_dl hB (lw_d lq_averageScore 18 rfl) (x := v) rfl ?_
  refine LW_dcm hB (lw_d lq_averageScore 19 rfl) ?_
  rw [fp_nc a5]
  exact LW_ie (t := 2751) hB (lw_d lq_averageScore 20 rfl) (by decide) (fun _ => LW_sub hs hg) (fun q => absurd rfl q)
theorem wl_m_seatShare : lw_mw RX11 346 0 mi_X11_seatShare := ⟨⟨lw_ix (k := 9) (j := 205) rfl rfl, wl_X11, lw_ix (k := 9) (j := 208) rfl rfl, Nat.le_of_ble_eq_true rfl, by decide +kernel⟩, lw_ix (k := 9) (j := 206) rfl rfl, lw_ix (k := 9) (j := 207) rfl rfl, Nat.le_of_ble_eq_true rfl⟩
theorem wl_h_seatShare : lw_hw 344 2 hy_seatShare hh_seatShare := ⟨lw_ix (k := 6) (j := 43) rfl rfl, lw_ix (k := 6) (j := 44) rfl rfl, lw_ix (k := 6) (j := 45) rfl rfl, wl_RL, by decide +kernel, by decide +kernel⟩
def lp_seatShare : List (Nat × Instr × Nat) := [(2754, .aload_n 1, 1), (2755, .aload 4, 2), (2757, .invokestatic 344, 3), (2760, .istore 6, 2), (2762, .aload_n 2, 1), (2763, .invokevirtual 346, 3), (2766, .fstore 7, 2), (2768, .aload_n 2, 1), (2769, .invokevirtual 206, 3), (2772, .iload 6, 2), (2774, .if_icmp .eq 5, 3), (2777, .iconst 0, 1), (2778, .ireturn, 1), (2779, .iload 6, 2), (2781, .ifCond .ne 36, 3), (2784, .aload 4, 2), (2786, .iconst 0, 1), (2787, .daload, 1), (2788, .fload 7, 2), (2790, .f2d, 1), (2791, .dcmp .l, 1), (2792, .ifCond .eq 25, 3), (2795, .aload 4, 2), (2797, .iconst 0, 1), (2798, .daload, 1), (2799, .aload 4, 2), (2801, .iconst 0, 1), (2802, .daload, 1), (2803, .dcmp .l, 1), (2804, .ifCond .eq 11, 3), (2807, .fload 7, 2), (2809, .fload 7, 2), (2811, .fcmp .l, 1), (2812, .ifCond .ne 5, 3), (2815, .iconst 0, 1), (2816, .ireturn, 1), (2817, .goto 883, 3)]
set_option maxRecDepth 100000 in
theorem lq_seatShare : lw_okd lp_seatShare = true := by decide +kernel
theorem lc_seatShare (hok : ev_ok sh_S G) (hnc : NCs G) (hkw : KW G) (hks : KS G) (hB : lw_B G p s m c b L xs) (hi : i + 5 < L) (hk : k < 599) (hBo : Bo σ μ) (h : ∀ (σ : ev_A) (μ2 : ev_M), Bo σ μ2 → LW G p e s m below meth c b Q (k + 1) 3700 (lw_l i) [] μ2) : LW G p e s m below meth c b Q k 2754 (lw_l i) [] μ := by
  obtain ⟨n, v, μ1, μ2, a1, a2, a3, a4, a5, a6⟩ := st_seatShare hok hnc hBo
  have hg : LW G p e s m below meth c b Q (k + 1) 2817 (lw_l i) [] μ2 := LW_gt hB (lw_d lq_seatShare 36 rfl) (by decide) (h σ μ2 a6)
  have hs : ∀ q ∈ lw_l i, q ∈ ev_st1 (ev_st1 (lw_l i) 6 (.int n)) 7 (.float v) := fun q hq => List.mem_cons_of_mem _ (List.mem_cons_of_mem _ hq)
  refine LW_al hB (lw_d lq_seatShare 0 rfl) (a := 0) rfl ?_
  refine LW_ald hB (lw_d lq_seatShare 1 rfl) (a := 311) rfl ?_
  refine LW_hp (As := [.ref 0, .ref 311]) hB wl_h_seatShare rfl a1 (lw_d lq_seatShare 2 rfl) (by omega) ?_
  refine LW_is hB (lw_d lq_seatShare 3 rfl) (by decide) ?_
  refine LW_al hB (lw_d lq_seatShare 4 rfl) (a := 301) rfl ?_
  refine LW_m (As := []) (st := []) hB wl_m_seatShare rfl (by decide) a2 (lw_d lq_seatShare 5 rfl) (by omega) ?_
  refine LW_fs hB (lw_d lq_seatShare 6 rfl) (by decide) ?_
  refine LW_al hB (lw_d lq_seatShare 7 rfl) (a := 301) rfl ?_
  refine LW_m (As := []) (st := []) hB wl_thrown rfl (by decide) (m_X11_thrown hok) (lw_d lq_seatShare 8 rfl) (by omega) ?_
  refine LW_il hB (lw_d lq_seatShare 9 rfl) (x := n) rfl ?_
  refine LW_ce (t := 2779) hB (lw_d lq_seatShare 10 rfl) (by decide) a3 ?_
  refine LW_il hB (lw_d lq_seatShare 13 rfl) (x := n) rfl ?_
  refine LW_in (t := 2817) hB (lw_d lq_seatShare 14 rfl) (by decide) (fun _ => LW_sub hs hg) (fun z => ?_)
  refine LW_ald hB (lw_d lq_seatShare 15 rfl) (a := 311) rfl ?_
  refine LW_ic (v := 0) hB (lw_d lq_seatShare 16 rfl) rfl ?_
  refine LW_dd0 hB (lw_d lq_seatShare 17 rfl) ?_
  rw [show (μ2.2.1 311 0).toUInt64 = FP.f2d v by rw [a4 z]; simp]
  refine LW_fl hB (lw_d lq_seatShare 18 rfl) (x := v) rfl ?_
  refine LW_f2d hB (lw_d lq_seatShare 19 rfl) a5 ?_
  refine LW_dcm hB (lw_d lq_seatShare 20 rfl) ?_
  rw [fp_nc a5]
  exact LW_ie (t := 2817) hB (lw_d lq_seatShare 21 rfl) (by decide) (fun _ => LW_sub hs hg) (fun q => absurd rfl q)
theorem wl_m_imbalance : lw_mw RX11 349 0 mi_X11_imbalance := ⟨⟨lw_ix (k := 9) (j := 209) rfl rfl, wl_X11, lw_ix (k := 9) (j := 212) rfl rfl, Nat.le_of_ble_eq_true rfl, by decide +kernel⟩, lw_ix (k := 9) (j := 210) rfl rfl, lw_ix (k := 9) (j := 211) rfl rfl, Nat.le_of_ble_eq_true rfl⟩
theorem wl_h_imbalance : lw_hw 347 2 hy_imbalance hh_imbalance := ⟨lw_ix (k := 6) (j := 51) rfl rfl, lw_ix (k := 6) (j := 52) rfl rfl, lw_ix (k := 6) (j := 53) rfl rfl, wl_RL, by decide +kernel, by decide +kernel⟩
set_option maxRecDepth 100000 in
theorem lq_imbalance : lw_okd (lw_A 2820 ++ (lw_M (2820 + 1 + 0) 347 ++ (lw_R (2820 + 1 + 0 + 7 + 0) 349 ++ (lw_th (2820 + 1 + 0 + 7 + 0 + 5) 15 ++ lw_tI (2820 + 1 + 0 + 7 + 0 + 5) 839)))) = true := by decide +kernel
theorem lr_imbalance : lw_okd (lw_ap (2820 + 1) 0 1) = true ∧ lw_okd (lw_ap (2820 + 1 + 0 + 7) 0 1) = true := by decide +kernel
theorem lc_imbalance (hok : ev_ok sh_S G) (hnc : NCs G) (hkw : KW G) (hks : KS G) (hB : lw_B G p s m c b L xs) (hi : i + 5 < L) (hk : k < 599) (hBo : Bo σ μ) (h : ∀ (σ : ev_A) (μ2 : ev_M), Bo σ μ2 → LW G p e s m below meth c b Q (k + 1) 3700 (lw_l i) [] μ2) : LW G p e s m below meth c b Q k 2820 (lw_l i) [] μ :=
  LW_cI (w := 6 * 0) (na := 0) (off := 839) hB (LW_pu hB hi lr_imbalance.1 (by decide)) (LW_pu hB hi lr_imbalance.2 (by decide)) lq_imbalance wl_thrown wl_h_imbalance wl_m_imbalance rfl (st_imbalance hok hnc hBo) (by decide) hk h
theorem wl_m_writePancake : lw_mw RX11 352 1 mi_X11_writePancake := ⟨⟨lw_ix (k := 9) (j := 217) rfl rfl, wl_X11, lw_ix (k := 9) (j := 220) rfl rfl, Nat.le_of_ble_eq_true rfl, by decide +kernel⟩, lw_ix (k := 9) (j := 218) rfl rfl, lw_ix (k := 9) (j := 219) rfl rfl, Nat.le_of_ble_eq_true rfl⟩
theorem wl_h_writePancake : lw_hw 350 3 hy_writePancake hh_writePancake := ⟨lw_ix (k := 6) (j := 75) rfl rfl, lw_ix (k := 6) (j := 76) rfl rfl, lw_ix (k := 6) (j := 77) rfl rfl, wl_RL, by decide +kernel, by decide +kernel⟩
set_option maxRecDepth 100000 in
theorem lq_writePancake : lw_okd (lw_A 2864 ++ (lw_M (2864 + 1 + 6) 350 ++ (lw_R (2864 + 1 + 6 + 7 + 6) 352 ++ (lw_th (2864 + 1 + 6 + 7 + 6 + 5) 15 ++ lw_tI (2864 + 1 + 6 + 7 + 6 + 5) 783)))) = true := by decide +kernel
theorem lr_writePancake : lw_okd (lw_ap (2864 + 1) 1 1) = true ∧ lw_okd (lw_ap (2864 + 1 + 6 + 7) 1 1) = true := by decide +kernel
theorem lc_writePancake (hok : ev_ok sh_S G) (hnc : NCs G) (hkw : KW G) (hks : KS G) (hB : lw_B G p s m c b L xs) (hi : i + 5 < L) (hk : k < 599) (hBo : Bo σ μ) (h : ∀ (σ : ev_A) (μ2 : ev_M), Bo σ μ2 → LW G p e s m below meth c b Q (k + 1) 3700 (lw_l i) [] μ2) : LW G p e s m below meth c b Q k 2864 (lw_l i) [] μ :=
  LW_cI (w := 6 * 1) (na := 1) (off := 783) hB (LW_pu hB hi lr_writePancake.1 (by decide)) (LW_pu hB hi lr_writePancake.2 (by decide)) lq_writePancake wl_thrown wl_h_writePancake wl_m_writePancake rfl (st_writePancake hok hnc hBo (xs (i + 1))) (by decide) hk h
theorem wl_m_writeBids : lw_mw RX11 355 1 mi_X11_writeBids := ⟨⟨lw_ix (k := 9) (j := 229) rfl rfl, wl_X11, lw_ix (k := 9) (j := 232) rfl rfl, Nat.le_of_ble_eq_true rfl, by decide +kernel⟩, lw_ix (k := 9) (j := 230) rfl rfl, lw_ix (k := 9) (j := 231) rfl rfl, Nat.le_of_ble_eq_true rfl⟩
theorem wl_h_writeBids : lw_hw 353 3 hy_writeBids hh_writeBids := ⟨lw_ix (k := 6) (j := 99) rfl rfl, lw_ix (k := 6) (j := 100) rfl rfl, lw_ix (k := 6) (j := 101) rfl rfl, wl_RL, by decide +kernel, by decide +kernel⟩
set_option maxRecDepth 100000 in
theorem lq_writeBids : lw_okd (lw_A 2920 ++ (lw_M (2920 + 1 + 6) 353 ++ (lw_R (2920 + 1 + 6 + 7 + 6) 355 ++ (lw_th (2920 + 1 + 6 + 7 + 6 + 5) 15 ++ lw_tI (2920 + 1 + 6 + 7 + 6 + 5) 727)))) = true := by decide +kernel
theorem lr_writeBids : lw_okd (lw_ap (2920 + 1) 1 1) = true ∧ lw_okd (lw_ap (2920 + 1 + 6 + 7) 1 1) = true := by decide +kernel
theorem lc_writeBids (hok : ev_ok sh_S G) (hnc : NCs G) (hkw : KW G) (hks : KS G) (hB : lw_B G p s m c b L xs) (hi : i + 5 < L) (hk : k < 599) (hBo : Bo σ μ) (h : ∀ (σ : ev_A) (μ2 : ev_M), Bo σ μ2 → LW G p e s m below meth c b Q (k + 1) 3700 (lw_l i) [] μ2) : LW G p e s m below meth c b Q k 2920 (lw_l i) [] μ :=
  LW_cI (w := 6 * 1) (na := 1) (off := 727) hB (LW_pu hB hi lr_writeBids.1 (by decide)) (LW_pu hB hi lr_writeBids.2 (by decide)) lq_writeBids wl_thrown wl_h_writeBids wl_m_writeBids rfl (st_writeBids hok hnc hBo (xs (i + 1))) (by decide) hk h
theorem wl_m_outputByte : lw_mw RX11 358 1 mi_X11_outputByte := ⟨⟨lw_ix (k := 9) (j := 233) rfl rfl, wl_X11, lw_ix (k := 9) (j := 236) rfl rfl, Nat.le_of_ble_eq_true rfl, by decide +kernel⟩, lw_ix (k := 9) (j := 234) rfl rfl, lw_ix (k := 9) (j := 235) rfl rfl, Nat.le_of_ble_eq_true rfl⟩
theorem wl_h_outputByte : lw_hw 356 3 hy_outputByte hh_outputByte := ⟨lw_ix (k := 6) (j := 107) rfl rfl, lw_ix (k := 6) (j := 108) rfl rfl, lw_ix (k := 6) (j := 109) rfl rfl, wl_RL, by decide +kernel, by decide +kernel⟩
set_option maxRecDepth 100000 in
theorem lq_outputByte : lw_okd (lw_A 2976 ++ (lw_M (2976 + 1 + 6) 356 ++ (lw_R (2976 + 1 + 6 + 7 + 6) 358 ++ (lw_th (2976 + 1 + 6 + 7 + 6 + 5) 15 ++ lw_tI (2976 + 1 + 6 + 7 + 6 + 5) 671)))) = true := by decide +kernel
theorem lr_outputByte : lw_okd (lw_ap (2976 + 1) 1 1) = true ∧ lw_okd (lw_ap (2976 + 1 + 6 + 7) 1 1) = true := by decide +kernel
theorem lc_outputByte (hok : ev_ok sh_S G) (hnc : NCs G) (hkw : KW G) (hks : KS G) (hB : lw_B G p s m c b L xs) (hi : i + 5 < L) (hk : k < 599) (hBo : Bo σ μ) (h : ∀ (σ : ev_A) (μ2 : ev_M), Bo σ μ2 → LW G p e s m below meth c b Q (k + 1) 3700 (lw_l i) [] μ2) : LW G p e s m below meth c b Q k 2976 (lw_l i) [] μ :=
  LW_cI (w := 6 * 1) (na := 1) (off := 671) hB (LW_pu hB hi lr_outputByte.1 (by decide)) (LW_pu hB hi lr_outputByte.2 (by decide)) lq_outputByte wl_thrown wl_h_outputByte wl_m_outputByte rfl (st_outputByte hok hnc hBo (xs (i + 1))) (by decide) hk h
theorem wl_m_bid : lw_mw RX11 362 3 mi_X11_bid := ⟨⟨lw_ix (k := 9) (j := 237) rfl rfl, wl_X11, lw_ix (k := 10) (j := 0) rfl rfl, Nat.le_of_ble_eq_true rfl, by decide +kernel⟩, lw_ix (k := 9) (j := 238) rfl rfl, lw_ix (k := 9) (j := 239) rfl rfl, Nat.le_of_ble_eq_true rfl⟩
theorem wl_h_bid : lw_hw 359 5 hy_bid hh_bid := ⟨lw_ix (k := 6) (j := 116) rfl rfl, lw_ix (k := 6) (j := 117) rfl rfl, lw_ix (k := 6) (j := 118) rfl rfl, wl_RL, by decide +kernel, by decide +kernel⟩
set_option maxRecDepth 100000 in
theorem lq_bid : lw_okd (lw_A 3032 ++ (lw_M (3032 + 1 + 18) 359 ++ (lw_R (3032 + 1 + 18 + 7 + 18) 362 ++ (lw_th (3032 + 1 + 18 + 7 + 18 + 5) 15 ++ lw_tI (3032 + 1 + 18 + 7 + 18 + 5) 591)))) = true := by decide +kernel
theorem lr_bid : lw_okd (lw_ap (3032 + 1) 3 1) = true ∧ lw_okd (lw_ap (3032 + 1 + 18 + 7) 3 1) = true := by decide +kernel
theorem lc_bid (hok : ev_ok sh_S G) (hnc : NCs G) (hkw : KW G) (hks : KS G) (hB : lw_B G p s m c b L xs) (hi : i + 5 < L) (hk : k < 599) (hBo : Bo σ μ) (h : ∀ (σ : ev_A) (μ2 : ev_M), Bo σ μ2 → LW G p e s m below meth c b Q (k + 1) 3700 (lw_l i) [] μ2) : LW G p e s m below meth c b Q k 3032 (lw_l i) [] μ :=
  LW_cI (w := 6 * 3) (na := 3) (off := 591) hB (LW_pu hB hi lr_bid.1 (by decide)) (LW_pu hB hi lr_bid.2 (by decide)) lq_bid wl_thrown wl_h_bid wl_m_bid rfl (st_bid hok hnc hBo (xs (i + 1)) (xs (i + 2)) (xs (i + 3))) (by decide) hk h
theorem wl_m_assign : lw_mw RX11 365 2 mi_X11_assign := ⟨⟨lw_ix (k := 10) (j := 5) rfl rfl, wl_X11, lw_ix (k := 10) (j := 8) rfl rfl, Nat.le_of_ble_eq_true rfl, by decide +kernel⟩, lw_ix (k := 10) (j := 6) rfl rfl, lw_ix (k := 10) (j := 7) rfl rfl, Nat.le_of_ble_eq_true rfl⟩
theorem wl_h_assign : lw_hw 363 4 hy_assign hh_assign := ⟨lw_ix (k := 6) (j := 131) rfl rfl, lw_ix (k := 6) (j := 132) rfl rfl, lw_ix (k := 6) (j := 133) rfl rfl, wl_RL, by decide +kernel, by decide +kernel⟩
set_option maxRecDepth 100000 in
theorem lq_assign : lw_okd (lw_A 3112 ++ (lw_M (3112 + 1 + 12) 363 ++ (lw_R (3112 + 1 + 12 + 7 + 12) 365 ++ (lw_th (3112 + 1 + 12 + 7 + 12 + 5) 15 ++ lw_tI (3112 + 1 + 12 + 7 + 12 + 5) 523)))) = true := by decide +kernel
theorem lr_assign : lw_okd (lw_ap (3112 + 1) 2 1) = true ∧ lw_okd (lw_ap (3112 + 1 + 12 + 7) 2 1) = true := by decide +kernel
theorem lc_assign (hok : ev_ok sh_S G) (hnc : NCs G) (hkw : KW G) (hks : KS G) (hB : lw_B G p s m c b L xs) (hi : i + 5 < L) (hk : k < 599) (hBo : Bo σ μ) (h : ∀ (σ : ev_A) (μ2 : ev_M), Bo σ μ2 → LW G p e s m below meth c b Q (k + 1) 3700 (lw_l i) [] μ2) : LW G p e s m below meth c b Q k 3112 (lw_l i) [] μ :=
  LW_cI (w := 6 * 2) (na := 2) (off := 523) hB (LW_pu hB hi lr_assign.1 (by decide)) (LW_pu hB hi lr_assign.2 (by decide)) lq_assign wl_thrown wl_h_assign wl_m_assign rfl (st_assign hok hnc hBo (xs (i + 1)) (xs (i + 2))) (by decide) hk h
theorem wl_m_unassign : lw_mw RX11 368 2 mi_X11_unassign := ⟨⟨lw_ix (k := 10) (j := 9) rfl rfl, wl_X11, lw_ix (k := 10) (j := 12) rfl rfl, Nat.le_of_ble_eq_true rfl, by decide +kernel⟩, lw_ix (k := 10) (j := 10) rfl rfl, lw_ix (k := 10) (j := 11) rfl rfl, Nat.le_of_ble_eq_true rfl⟩
theorem wl_h_unassign : lw_hw 366 4 hy_unassign hh_unassign := ⟨lw_ix (k := 6) (j := 140) rfl rfl, lw_ix (k := 6) (j := 141) rfl rfl, lw_ix (k := 6) (j := 142) rfl rfl, wl_RL, by decide +kernel, by decide +kernel⟩
set_option maxRecDepth 100000 in
theorem lq_unassign : lw_okd (lw_A 3180 ++ (lw_M (3180 + 1 + 12) 366 ++ (lw_R (3180 + 1 + 12 + 7 + 12) 368 ++ (lw_th (3180 + 1 + 12 + 7 + 12 + 5) 15 ++ lw_tI (3180 + 1 + 12 + 7 + 12 + 5) 455)))) = true := by decide +kernel
theorem lr_unassign : lw_okd (lw_ap (3180 + 1) 2 1) = true ∧ lw_okd (lw_ap (3180 + 1 + 12 + 7) 2 1) = true := by decide +kernel
theorem lc_unassign (hok : ev_ok sh_S G) (hnc : NCs G) (hkw : KW G) (hks : KS G) (hB : lw_B G p s m c b L xs) (hi : i + 5 < L) (hk : k < 599) (hBo : Bo σ μ) (h : ∀ (σ : ev_A) (μ2 : ev_M), Bo σ μ2 → LW G p e s m below meth c b Q (k + 1) 3700 (lw_l i) [] μ2) : LW G p e s m below meth c b Q k 3180 (lw_l i) [] μ :=
  LW_cI (w := 6 * 2) (na := 2) (off := 455) hB (LW_pu hB hi lr_unassign.1 (by decide)) (LW_pu hB hi lr_unassign.2 (by decide)) lq_unassign wl_thrown wl_h_unassign wl_m_unassign rfl (st_unassign hok hnc hBo (xs (i + 1)) (xs (i + 2))) (by decide) hk h
theorem wl_m_fill : lw_mw RX11 371 0 mi_X11_fill := ⟨⟨lw_ix (k := 10) (j := 13) rfl rfl, wl_X11, lw_ix (k := 10) (j := 16) rfl rfl, Nat.le_of_ble_eq_true rfl, by decide +kernel⟩, lw_ix (k := 10) (j := 14) rfl rfl, lw_ix (k := 10) (j := 15) rfl rfl, Nat.le_of_ble_eq_true rfl⟩
theorem wl_h_fill : lw_hw 369 2 hy_fill hh_fill := ⟨lw_ix (k := 6) (j := 153) rfl rfl, lw_ix (k := 6) (j := 154) rfl rfl, lw_ix (k := 6) (j := 155) rfl rfl, wl_RL, by decide +kernel, by decide +kernel⟩
set_option maxRecDepth 100000 in
theorem lq_fill : lw_okd (lw_A 3248 ++ (lw_M (3248 + 1 + 0) 369 ++ (lw_R (3248 + 1 + 0 + 7 + 0) 371 ++ (lw_th (3248 + 1 + 0 + 7 + 0 + 5) 15 ++ lw_tI (3248 + 1 + 0 + 7 + 0 + 5) 411)))) = true := by decide +kernel
theorem lr_fill : lw_okd (lw_ap (3248 + 1) 0 1) = true ∧ lw_okd (lw_ap (3248 + 1 + 0 + 7) 0 1) = true := by decide +kernel
theorem lc_fill (hok : ev_ok sh_S G) (hnc : NCs G) (hkw : KW G) (hks : KS G) (hB : lw_B G p s m c b L xs) (hi : i + 5 < L) (hk : k < 599) (hBo : Bo σ μ) (h : ∀ (σ : ev_A) (μ2 : ev_M), Bo σ μ2 → LW G p e s m below meth c b Q (k + 1) 3700 (lw_l i) [] μ2) : LW G p e s m below meth c b Q k 3248 (lw_l i) [] μ :=
  LW_cI (w := 6 * 0) (na := 0) (off := 411) hB (LW_pu hB hi lr_fill.1 (by decide)) (LW_pu hB hi lr_fill.2 (by decide)) lq_fill wl_thrown wl_h_fill wl_m_fill rfl (st_fill hok hnc hBo) (by decide) hk h
theorem wl_m_score : lw_mw RX11 374 3 mi_X11_score := ⟨⟨lw_ix (k := 10) (j := 17) rfl rfl, wl_X11, lw_ix (k := 10) (j := 20) rfl rfl, Nat.le_of_ble_eq_true rfl, by decide +kernel⟩, lw_ix (k := 10) (j := 18) rfl rfl, lw_ix (k := 10) (j := 19) rfl rfl, Nat.le_of_ble_eq_true rfl⟩
theorem wl_h_score : lw_hw 372 5 hy_score hh_score := ⟨lw_ix (k := 6) (j := 160) rfl rfl, lw_ix (k := 6) (j := 161) rfl rfl, lw_ix (k := 6) (j := 162) rfl rfl, wl_RL, by decide +kernel, by decide +kernel⟩
set_option maxRecDepth 100000 in
theorem lq_score : lw_okd (lw_A 3292 ++ (lw_M (3292 + 1 + 18) 372 ++ (lw_R (3292 + 1 + 18 + 7 + 18) 374 ++ (lw_th (3292 + 1 + 18 + 7 + 18 + 5) 15 ++ lw_tI (3292 + 1 + 18 + 7 + 18 + 5) 331)))) = true := by decide +kernel
theorem lr_score : lw_okd (lw_ap (3292 + 1) 3 1) = true ∧ lw_okd (lw_ap (3292 + 1 + 18 + 7) 3 1) = true := by decide +kernel
theorem lc_score (hok : ev_ok sh_S G) (hnc : NCs G) (hkw : KW G) (hks : KS G) (hB : lw_B G p s m c b L xs) (hi : i + 5 < L) (hk : k < 599) (hBo : Bo σ μ) (h : ∀ (σ : ev_A) (μ2 : ev_M), Bo σ μ2 → LW G p e s m below meth c b Q (k + 1) 3700 (lw_l i) [] μ2) : LW G p e s m below meth c b Q k 3292 (lw_l i) [] μ :=
  LW_cI (w := 6 * 3) (na := 3) (off := 331) hB (LW_pu hB hi lr_score.1 (by decide)) (LW_pu hB hi lr_score.2 (by decide)) lq_score wl_thrown wl_h_score wl_m_score rfl (st_score hok hnc hBo (xs (i + 1)) (xs (i + 2)) (xs (i + 3))) (by decide) hk h
theorem wl_m_talk : lw_mw RX11 377 1 mi_X11_talk := ⟨⟨lw_ix (k := 10) (j := 21) rfl rfl, wl_X11, lw_ix (k := 10) (j := 24) rfl rfl, Nat.le_of_ble_eq_true rfl, by decide +kernel⟩, lw_ix (k := 10) (j := 22) rfl rfl, lw_ix (k := 10) (j := 23) rfl rfl, Nat.le_of_ble_eq_true rfl⟩
theorem wl_h_talk : lw_hw 375 3 hy_talk hh_talk := ⟨lw_ix (k := 6) (j := 169) rfl rfl, lw_ix (k := 6) (j := 170) rfl rfl, lw_ix (k := 6) (j := 171) rfl rfl, wl_RL, by decide +kernel, by decide +kernel⟩
set_option maxRecDepth 100000 in
theorem lq_talk : lw_okd (lw_A 3372 ++ (lw_M (3372 + 1 + 6) 375 ++ (lw_R (3372 + 1 + 6 + 7 + 6) 377 ++ (lw_th (3372 + 1 + 6 + 7 + 6 + 5) 15 ++ lw_tI (3372 + 1 + 6 + 7 + 6 + 5) 275)))) = true := by decide +kernel
theorem lr_talk : lw_okd (lw_ap (3372 + 1) 1 1) = true ∧ lw_okd (lw_ap (3372 + 1 + 6 + 7) 1 1) = true := by decide +kernel
theorem lc_talk (hok : ev_ok sh_S G) (hnc : NCs G) (hkw : KW G) (hks : KS G) (hB : lw_B G p s m c b L xs) (hi : i + 5 < L) (hk : k < 599) (hBo : Bo σ μ) (h : ∀ (σ : ev_A) (μ2 : ev_M), Bo σ μ2 → LW G p e s m below meth c b Q (k + 1) 3700 (lw_l i) [] μ2) : LW G p e s m below meth c b Q k 3372 (lw_l i) [] μ :=
  LW_cI (w := 6 * 1) (na := 1) (off := 275) hB (LW_pu hB hi lr_talk.1 (by decide)) (LW_pu hB hi lr_talk.2 (by decide)) lq_talk wl_thrown wl_h_talk wl_m_talk rfl (st_talk hok hnc hBo (xs (i + 1))) (by decide) hk h
theorem wl_m_declare : lw_mw RX11 381 3 mi_X11_declare := ⟨⟨lw_ix (k := 10) (j := 25) rfl rfl, wl_X11, lw_ix (k := 10) (j := 28) rfl rfl, Nat.le_of_ble_eq_true rfl, by decide +kernel⟩, lw_ix (k := 10) (j := 26) rfl rfl, lw_ix (k := 10) (j := 27) rfl rfl, Nat.le_of_ble_eq_true rfl⟩
theorem wl_h_declare : lw_hw 378 5 hy_declare hh_declare := ⟨lw_ix (k := 6) (j := 177) rfl rfl, lw_ix (k := 6) (j := 178) rfl rfl, lw_ix (k := 6) (j := 179) rfl rfl, wl_RL, by decide +kernel, by decide +kernel⟩
theorem lqd_1 : lw_okd (lw_ap 3429 2 1 ++ (lw_a1 3441 3 ++ [(3447, .ifCond .eq 7, 3), (3450, .iconst 1, 1), (3451, .goto 4, 3), (3454, .iconst 0, 1)])) = true := by decide +kernel
theorem lpd_1 (hB : lw_B G p s m c b L xs) (hi : i + 5 < L) : lw_pu G p e s m below meth c b Q i 3429 26 [.int (xs (i + 1)), .int (xs (i + 2)), .int (nI (if xs (i + 3) = 0 then 0 else 1))] := by
  intro k l st μ hl9 h
  have h1 := lw_okd_1 lqd_1
  have h2 := lw_okd_1 (lw_okd_2 lqd_1)
  have h3 := lw_okd_2 (lw_okd_2 lqd_1)
  refine LW_ap hB hl9 hi 2 3429 1 st h1 (by decide) ?_
  refine LW_a1 hB h2 hl9 (by decide) hi ?_
  refine LW_ie (t := 3454) hB (lw_d h3 0 rfl) (by decide) (fun q => ?_) (fun q => ?_)
  · refine LW_ic (v := nI 0) hB (lw_d h3 3 rfl) (by decide) ?_
    rw [if_pos q] at h
    exact h
  · refine LW_ic (v := nI 1) hB (lw_d h3 1 rfl) (by decide) ?_
    refine LW_gt (t := 3455) hB (lw_d h3 2 rfl) (by decide) ?_
    rw [if_neg q] at h
    exact h
theorem lqd_2 : lw_okd (lw_ap 3462 2 1 ++ (lw_a1 3474 3 ++ [(3480, .ifCond .eq 7, 3), (3483, .iconst 1, 1), (3484, .goto 4, 3), (3487, .iconst 0, 1)])) = true := by decide +kernel
theorem lpd_2 (hB : lw_B G p s m c b L xs) (hi : i + 5 < L) : lw_pu G p e s m below meth c b Q i 3462 26 [.int (xs (i + 1)), .int (xs (i + 2)), .int (nI (if xs (i + 3) = 0 then 0 else 1))] := by
  intro k l st μ hl9 h
  have h1 := lw_okd_1 lqd_2
  have h2 := lw_okd_1 (lw_okd_2 lqd_2)
  have h3 := lw_okd_2 (lw_okd_2 lqd_2)
  refine LW_ap hB hl9 hi 2 3462 1 st h1 (by decide) ?_
  refine LW_a1 hB h2 hl9 (by decide) hi ?_
  refine LW_ie (t := 3487) hB (lw_d h3 0 rfl) (by decide) (fun q => ?_) (fun q => ?_)
  · refine LW_ic (v := nI 0) hB (lw_d h3 3 rfl) (by decide) ?_
    rw [if_pos q] at h
    exact h
  · refine LW_ic (v := nI 1) hB (lw_d h3 1 rfl) (by decide) ?_
    refine LW_gt (t := 3488) hB (lw_d h3 2 rfl) (by decide) ?_
    rw [if_neg q] at h
    exact h
set_option maxRecDepth 100000 in
theorem lq_declare : lw_okd (lw_A 3428 ++ (lw_M (3428 + 1 + 26) 378 ++ (lw_R (3428 + 1 + 26 + 7 + 26) 381 ++ (lw_th (3428 + 1 + 26 + 7 + 26 + 5) 22 ++ lw_tZ (3428 + 1 + 26 + 7 + 26 + 5) 172)))) = true := by decide +kernel
theorem lc_declare (hok : ev_ok sh_S G) (hnc : NCs G) (hkw : KW G) (hks : KS G) (hB : lw_B G p s m c b L xs) (hi : i + 5 < L) (hk : k < 599) (hBo : Bo σ μ) (h : ∀ (σ : ev_A) (μ2 : ev_M), Bo σ μ2 → LW G p e s m below meth c b Q (k + 1) 3700 (lw_l i) [] μ2) : LW G p e s m below meth c b Q k 3428 (lw_l i) [] μ :=
  LW_cZ (w := 26) (na := 3) (off := 172) hB (lpd_1 hB hi) (lpd_2 hB hi) lq_declare wl_thrown wl_h_declare wl_m_declare rfl (st_declare hok hnc hBo (xs (i + 1)) (xs (i + 2)) (by split <;> omega)) (by decide) hk h
theorem wl_m_undo : lw_mw RX11 384 0 mi_X11_undo := ⟨⟨lw_ix (k := 10) (j := 29) rfl rfl, wl_X11, lw_ix (k := 10) (j := 32) rfl rfl, Nat.le_of_ble_eq_true rfl, by decide +kernel⟩, lw_ix (k := 10) (j := 30) rfl rfl, lw_ix (k := 10) (j := 31) rfl rfl, Nat.le_of_ble_eq_true rfl⟩
theorem wl_h_undo : lw_hw 382 2 hy_undo hh_undo := ⟨lw_ix (k := 6) (j := 184) rfl rfl, lw_ix (k := 6) (j := 185) rfl rfl, lw_ix (k := 6) (j := 186) rfl rfl, wl_RL, by decide +kernel, by decide +kernel⟩
set_option maxRecDepth 100000 in
theorem lq_undo : lw_okd (lw_A 3531 ++ (lw_M (3531 + 1 + 0) 382 ++ (lw_R (3531 + 1 + 0 + 7 + 0) 384 ++ (lw_th (3531 + 1 + 0 + 7 + 0 + 5) 15 ++ lw_tI (3531 + 1 + 0 + 7 + 0 + 5) 128)))) = true := by decide +kernel
theorem lr_undo : lw_okd (lw_ap (3531 + 1) 0 1) = true ∧ lw_okd (lw_ap (3531 + 1 + 0 + 7) 0 1) = true := by decide +kernel
theorem lc_undo (hok : ev_ok sh_S G) (hnc : NCs G) (hkw : KW G) (hks : KS G) (hB : lw_B G p s m c b L xs) (hi : i + 5 < L) (hk : k < 599) (hBo : Bo σ μ) (h : ∀ (σ : ev_A) (μ2 : ev_M), Bo σ μ2 → LW G p e s m below meth c b Q (k + 1) 3700 (lw_l i) [] μ2) : LW G p e s m below meth c b Q k 3531 (lw_l i) [] μ :=
  LW_cI (w := 6 * 0) (na := 0) (off := 128) hB (LW_pu hB hi lr_undo.1 (by decide)) (LW_pu hB hi lr_undo.2 (by decide)) lq_undo wl_thrown wl_h_undo wl_m_undo rfl (st_undo hok hnc hBo) (by decide) hk h
theorem wl_m_undoCount : lw_mw RX11 388 0 mi_X11_undoCount := ⟨⟨lw_ix (k := 10) (j := 33) rfl rfl, wl_X11, lw_ix (k := 10) (j := 36) rfl rfl, Nat.le_of_ble_eq_true rfl, by decide +kernel⟩, lw_ix (k := 10) (j := 34) rfl rfl, lw_ix (k := 10) (j := 35) rfl rfl, Nat.le_of_ble_eq_true rfl⟩
theorem wl_x_undoCount : lw_mw RX10 385 0 mi_X10_undoCount := ⟨⟨lw_ix (k := 2) (j := 88) rfl rfl, wl_X10, lw_ix (k := 2) (j := 91) rfl rfl, Nat.le_of_ble_eq_true rfl, by decide +kernel⟩, lw_ix (k := 2) (j := 89) rfl rfl, lw_ix (k := 2) (j := 90) rfl rfl, Nat.le_of_ble_eq_true rfl⟩
set_option maxRecDepth 100000 in
theorem lq_undoCount : lw_okd (lw_A 3575 ++ (lw_D (3575 + 1 + 0) 385 ++ lw_F (3575 + 1 + 0 + 4 + 0) 388 117)) = true := by decide +kernel
theorem lr_undoCount : lw_okd (lw_ap (3575 + 1) 0 1) = true ∧ lw_okd (lw_ap (3575 + 1 + 0 + 4) 0 1) = true := by decide +kernel
theorem lc_undoCount (hok : ev_ok sh_S G) (hnc : NCs G) (hkw : KW G) (hks : KS G) (hB : lw_B G p s m c b L xs) (hi : i + 5 < L) (hk : k < 599) (hBo : Bo σ μ) (h : ∀ (σ : ev_A) (μ2 : ev_M), Bo σ μ2 → LW G p e s m below meth c b Q (k + 1) 3700 (lw_l i) [] μ2) : LW G p e s m below meth c b Q k 3575 (lw_l i) [] μ :=
  LW_cP (w := 6 * 0) (na := 0) (off := 117) hB (LW_pu hB hi lr_undoCount.1 (by decide)) (LW_pu hB hi lr_undoCount.2 (by decide)) lq_undoCount wl_x_undoCount wl_m_undoCount rfl (st_undoCount hok hBo) (by decide) hk h
theorem wl_m_saveState : lw_mw RX11 391 1 mi_X11_saveState := ⟨⟨lw_ix (k := 10) (j := 37) rfl rfl, wl_X11, lw_ix (k := 10) (j := 40) rfl rfl, Nat.le_of_ble_eq_true rfl, by decide +kernel⟩, lw_ix (k := 10) (j := 38) rfl rfl, lw_ix (k := 10) (j := 39) rfl rfl, Nat.le_of_ble_eq_true rfl⟩
theorem wl_h_saveState : lw_hw 389 3 hy_saveState hh_saveState := ⟨lw_ix (k := 6) (j := 196) rfl rfl, lw_ix (k := 6) (j := 197) rfl rfl, lw_ix (k := 6) (j := 198) rfl rfl, wl_RL, by decide +kernel, by decide +kernel⟩
set_option maxRecDepth 100000 in
theorem lq_saveState : lw_okd (lw_A 3588 ++ (lw_M (3588 + 1 + 6) 389 ++ (lw_R (3588 + 1 + 6 + 7 + 6) 391 ++ (lw_th (3588 + 1 + 6 + 7 + 6 + 5) 15 ++ lw_tI (3588 + 1 + 6 + 7 + 6 + 5) 59)))) = true := by decide +kernel
theorem lr_saveState : lw_okd (lw_ap (3588 + 1) 1 1) = true ∧ lw_okd (lw_ap (3588 + 1 + 6 + 7) 1 1) = true := by decide +kernel
theorem lc_saveState (hok : ev_ok sh_S G) (hnc : NCs G) (hkw : KW G) (hks : KS G) (hB : lw_B G p s m c b L xs) (hi : i + 5 < L) (hk : k < 599) (hBo : Bo σ μ) (h : ∀ (σ : ev_A) (μ2 : ev_M), Bo σ μ2 → LW G p e s m below meth c b Q (k + 1) 3700 (lw_l i) [] μ2) : LW G p e s m below meth c b Q k 3588 (lw_l i) [] μ :=
  LW_cI (w := 6 * 1) (na := 1) (off := 59) hB (LW_pu hB hi lr_saveState.1 (by decide)) (LW_pu hB hi lr_saveState.2 (by decide)) lq_saveState wl_thrown wl_h_saveState wl_m_saveState rfl (st_saveState hok hnc hBo (xs (i + 1))) (by decide) hk h
theorem wl_m_restoreState : lw_mw RX11 394 1 mi_X11_restoreState := ⟨⟨lw_ix (k := 10) (j := 44) rfl rfl, wl_X11, lw_ix (k := 10) (j := 47) rfl rfl, Nat.le_of_ble_eq_true rfl, by decide +kernel⟩, lw_ix (k := 10) (j := 45) rfl rfl, lw_ix (k := 10) (j := 46) rfl rfl, Nat.le_of_ble_eq_true rfl⟩
theorem wl_h_restoreState : lw_hw 392 3 hy_restoreState hh_restoreState := ⟨lw_ix (k := 6) (j := 204) rfl rfl, lw_ix (k := 6) (j := 205) rfl rfl, lw_ix (k := 6) (j := 206) rfl rfl, wl_RL, by decide +kernel, by decide +kernel⟩
set_option maxRecDepth 100000 in
theorem lq_restoreState : lw_okd (lw_A 3644 ++ (lw_M (3644 + 1 + 6) 392 ++ (lw_R (3644 + 1 + 6 + 7 + 6) 394 ++ (lw_th (3644 + 1 + 6 + 7 + 6 + 5) 15 ++ lw_tI (3644 + 1 + 6 + 7 + 6 + 5) 3)))) = true := by decide +kernel
theorem lr_restoreState : lw_okd (lw_ap (3644 + 1) 1 1) = true ∧ lw_okd (lw_ap (3644 + 1 + 6 + 7) 1 1) = true := by decide +kernel
theorem lc_restoreState (hok : ev_ok sh_S G) (hnc : NCs G) (hkw : KW G) (hks : KS G) (hB : lw_B G p s m c b L xs) (hi : i + 5 < L) (hk : k < 599) (hBo : Bo σ μ) (h : ∀ (σ : ev_A) (μ2 : ev_M), Bo σ μ2 → LW G p e s m below meth c b Q (k + 1) 3700 (lw_l i) [] μ2) : LW G p e s m below meth c b Q k 3644 (lw_l i) [] μ :=
  LW_cI (w := 6 * 1) (na := 1) (off := 3) hB (LW_pu hB hi lr_restoreState.1 (by decide)) (LW_pu hB hi lr_restoreState.2 (by decide)) lq_restoreState wl_thrown wl_h_restoreState wl_m_restoreState rfl (st_restoreState hok hnc hBo (xs (i + 1))) (by decide) hk h
end LCs
