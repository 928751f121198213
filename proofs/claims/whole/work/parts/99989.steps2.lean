/-! ===== a step of each call that changes something ===== -/
section Steps2
variable {G : ev_G} {μ μ' : ev_M} {σ : ev_A}
theorem sn_bid {x y z : Int32} : (s_bid σ x y z).1 < 4 := by unfold s_bid; (repeat' split) <;> exact Nat.le_of_ble_eq_true rfl
theorem sn_assign {x y : Int32} : (s_assign σ x y).1 < 4 := by unfold s_assign; (repeat' split) <;> exact Nat.le_of_ble_eq_true rfl
theorem sn_unassign {x y : Int32} : (s_unassign σ x y).1 < 4 := by unfold s_unassign; (repeat' split) <;> exact Nat.le_of_ble_eq_true rfl
theorem sn_score {x y z : Int32} : (s_score σ x y z).1 < 4 := by unfold s_score; (repeat' split) <;> exact Nat.le_of_ble_eq_true rfl
theorem sn_talk {x : Int32} : (s_talk σ x).1 < 4 := by unfold s_talk; (repeat' split) <;> exact Nat.le_of_ble_eq_true rfl
theorem sn_fill : (s_fill σ).1 < 2 := by unfold s_fill; (repeat' split) <;> exact Nat.le_of_ble_eq_true rfl
theorem sn_declare {x y : Int32} {z : Nat} : (s_declare σ x y z).1 < 3 := by unfold s_declare; (repeat' split) <;> exact Nat.le_of_ble_eq_true rfl
theorem sn_undo : (s_undo σ).1 < 2 := by unfold s_undo; (repeat' split) <;> exact Nat.le_of_ble_eq_true rfl
theorem sn_saveState {x : Int32} : (s_saveState σ x).1 < 3 := by unfold s_saveState; (repeat' split) <;> exact Nat.le_of_ble_eq_true rfl
theorem sn_restoreState {x : Int32} : (s_restoreState σ x).1 < 3 := by unfold s_restoreState; (repeat' split) <;> exact Nat.le_of_ble_eq_true rfl
theorem sn_outputByte {x : Int32} : (s_outputByte σ x).1 < 2 := by unfold s_outputByte; (repeat' split) <;> exact Nat.le_of_ble_eq_true rfl
theorem nx_IOA {n : Nat} (h : n < 4) : n ≠ 0 → xE n ∈ [eI, eO, eA] ∧ hbi [eI, eO, eA] (xE n) = n := by
  intro c
  rcases (show n = 1 ∨ n = 2 ∨ n = 3 by omega) with rfl | rfl | rfl
  · exact ⟨hme_I, by show (if eI = eI then 1 else _) = 1; rw [if_pos rfl]⟩
  · exact ⟨hme_O, by show (if eO = eI then 1 else (if eO = eO then 1 else _) + 1) = 2; rw [if_neg ne_OI, if_pos rfl]⟩
  · exact ⟨hme_A, by show (if eA = eI then 1 else (if eA = eO then 1 else (if eA = eA then 1 else _) + 1) + 1) = 3; rw [if_neg ne_AI, if_neg ne_AO, if_pos rfl]⟩
theorem nx_O {n : Nat} (h : n < 2) : n ≠ 0 → xE2 n ∈ [eO] ∧ hbi [eO] (xE2 n) = n := by
  intro c
  have : n = 1 := by omega
  subst this
  exact ⟨List.mem_cons_self, by show (if eO = eO then 1 else _) = 1; rw [if_pos rfl]⟩
theorem nx_OI {n : Nat} (h : n < 3) : n ≠ 0 → xE2 n ∈ [eO, eI] ∧ hbi [eO, eI] (xE2 n) = n := by
  intro c
  rcases (show n = 1 ∨ n = 2 by omega) with rfl | rfl
  · exact ⟨List.mem_cons_self, by show (if eO = eO then 1 else _) = 1; rw [if_pos rfl]⟩
  · exact ⟨List.mem_cons_of_mem _ List.mem_cons_self, by show (if eI = eO then 1 else (if eI = eI then 1 else _) + 1) = 2; rw [if_neg ne_IO, if_pos rfl]⟩
theorem st_bid (hok : ev_ok sh_S G) (hnc : NCs G) (hB : Bo σ μ) (x y z : Int32) : stq G hy_bid hh_bid mi_X11_bid [.int x, .int y, .int z] fI μ :=
  st_c (X := xE) hB (Nat.lt_of_lt_of_le sn_bid (by decide)) (x_X10_bid hok hB.1 hB.2.2 x y z) (nx_IOA sn_bid) (fun res' h1 h2 => by rw [← hbf_I]; exact hb_bid hok hnc x y z h1 h2) (fun μ1 h1 => M_bid hok h1 hB.2.2 x y z) (OKA_bid hB.2.2 x y z)
theorem st_assign (hok : ev_ok sh_S G) (hnc : NCs G) (hB : Bo σ μ) (x y : Int32) : stq G hy_assign hh_assign mi_X11_assign [.int x, .int y] fI μ :=
  st_c (X := xE) hB (Nat.lt_of_lt_of_le sn_assign (by decide)) (x_X10_assign hok hB.1 hB.2.2 x y) (nx_IOA sn_assign) (fun res' h1 h2 => by rw [← hbf_I]; exact hb_assign hok hnc x y h1 h2) (fun μ1 h1 => M_assign hok h1 hB.2.2 x y) (OKA_assign hB.2.2 x y)
theorem st_unassign (hok : ev_ok sh_S G) (hnc : NCs G) (hB : Bo σ μ) (x y : Int32) : stq G hy_unassign hh_unassign mi_X11_unassign [.int x, .int y] fI μ :=
  st_c (X := xE) hB (Nat.lt_of_lt_of_le sn_unassign (by decide)) (x_X10_unassign hok hB.1 hB.2.2 x y) (nx_IOA sn_unassign) (fun res' h1 h2 => by rw [← hbf_I]; exact hb_unassign hok hnc x y h1 h2) (fun μ1 h1 => M_unassign hok h1 hB.2.2 x y) (OKA_unassign hB.2.2 x y)
theorem st_score (hok : ev_ok sh_S G) (hnc : NCs G) (hB : Bo σ μ) (x y z : Int32) : stq G hy_score hh_score mi_X11_score [.int x, .int y, .int z] fI μ :=
  st_c (X := xE) hB (Nat.lt_of_lt_of_le sn_score (by decide)) (x_X10_score hok hB.1 hB.2.2 x y z) (nx_IOA sn_score) (fun res' h1 h2 => by rw [← hbf_I]; exact hb_score hok hnc x y z h1 h2) (fun μ1 h1 => M_score hok h1 hB.2.2 x y z) (OKA_score hB.2.2 x y z)
theorem st_talk (hok : ev_ok sh_S G) (hnc : NCs G) (hB : Bo σ μ) (x : Int32) : stq G hy_talk hh_talk mi_X11_talk [.int x] fI μ :=
  st_c (X := xE) hB (Nat.lt_of_lt_of_le sn_talk (by decide)) (x_X10_talk hok hB.1 hB.2.2 x) (nx_IOA sn_talk) (fun res' h1 h2 => by rw [← hbf_I]; exact hb_talk hok hnc x h1 h2) (fun μ1 h1 => M_talk hok h1 hB.2.2 x) (OKA_talk hB.2.2 x)
theorem st_fill (hok : ev_ok sh_S G) (hnc : NCs G) (hB : Bo σ μ) : stq G hy_fill hh_fill mi_X11_fill [] fI μ :=
  st_c (X := xE) hB (Nat.lt_of_lt_of_le sn_fill (by decide)) (x_X10_fill hok hB.1 hB.2.2) (nx_I sn_fill) (fun res' h1 h2 => by rw [← hbf_I]; exact hb_fill hok hnc h1 h2) (fun μ1 h1 => M_fill hok h1 hB.2.2) (OKA_fill hB.2.2)
theorem st_declare (hok : ev_ok sh_S G) (hnc : NCs G) (hB : Bo σ μ) (x y : Int32) {z : Nat} (hz : z < 2) : stq G hy_declare hh_declare mi_X11_declare [.int x, .int y, .int (nI z)] fZ μ :=
  st_c (X := xE) hB (Nat.lt_of_lt_of_le sn_declare (by decide)) (x_X10_declare hok hB.1 hB.2.2 x y hz) (nx_IO sn_declare) (fun res' h1 h2 => by rw [← hbf_Z]; exact hb_declare hok hnc x y (nI z) h1 h2) (fun μ1 h1 => M_declare hok h1 hB.2.2 x y hz) (OKA_declare hB.2.2 x y hz)
theorem st_undo (hok : ev_ok sh_S G) (hnc : NCs G) (hB : Bo σ μ) : stq G hy_undo hh_undo mi_X11_undo [] fI μ :=
  st_c (X := xE) hB (Nat.lt_of_lt_of_le sn_undo (by decide)) (x_X10_undo hok hB.1 hB.2.2) (nx_I sn_undo) (fun res' h1 h2 => by rw [← hbf_I]; exact hb_undo hok hnc h1 h2) (fun μ1 h1 => M_undo hok h1 hB.2.2) (OKA_undo hB.2.2)
theorem st_saveState (hok : ev_ok sh_S G) (hnc : NCs G) (hB : Bo σ μ) (x : Int32) : stq G hy_saveState hh_saveState mi_X11_saveState [.int x] fI μ :=
  st_c (X := xE) hB (Nat.lt_of_lt_of_le sn_saveState (by decide)) (x_X10_saveState hok hB.1 hB.2.2 x) (nx_IO sn_saveState) (fun res' h1 h2 => by rw [← hbf_I]; exact hb_saveState hok hnc x h1 h2) (fun μ1 h1 => M_saveState hok h1 hB.2.2 x) (OKA_saveState hB.2.2 x)
theorem st_restoreState (hok : ev_ok sh_S G) (hnc : NCs G) (hB : Bo σ μ) (x : Int32) : stq G hy_restoreState hh_restoreState mi_X11_restoreState [.int x] fI μ :=
  st_c (X := xE2) hB (Nat.lt_of_lt_of_le sn_restoreState (by decide)) (x_X10_restoreState hok hB.1 hB.2.2 x) (nx_OI sn_restoreState) (fun res' h1 h2 => by rw [← hbf_I]; exact hb_restoreState hok hnc x h1 h2) (fun μ1 h1 => M_restoreState hok h1 hB.2.2 x) (OKA_restoreState hB.2.2 x)
theorem st_writePancake (hok : ev_ok sh_S G) (hnc : NCs G) (hB : Bo σ μ) (x : Int32) : stq G hy_writePancake hh_writePancake mi_X11_writePancake [.int x] fI μ :=
  st_c (X := xE) hB (Nat.lt_of_lt_of_le (show (s_writePancake σ x).1 < 3 from c1_lt) (by decide)) (x_X10_writePancake hok hB.1 hB.2.2 x) (nx_IO c1_lt) (fun res' h1 h2 => by rw [← hbf_I]; exact hb_writePancake hok hnc x h1 h2) (fun μ1 h1 => M_writePancake hok h1 hB.2.2 x) (OKA_writePancake hB.2.2 x)
theorem st_writeBids (hok : ev_ok sh_S G) (hnc : NCs G) (hB : Bo σ μ) (x : Int32) : stq G hy_writeBids hh_writeBids mi_X11_writeBids [.int x] fI μ :=
  st_c (X := xE) hB (Nat.lt_of_lt_of_le (show (s_writeBids σ x).1 < 3 from c1_lt) (by decide)) (x_X10_writeBids hok hB.1 hB.2.2 x) (nx_IO c1_lt) (fun res' h1 h2 => by rw [← hbf_I]; exact hb_writeBids hok hnc x h1 h2) (fun μ1 h1 => M_writeBids hok h1 hB.2.2 x) (OKA_writeBids hB.2.2 x)
theorem st_outputByte (hok : ev_ok sh_S G) (hnc : NCs G) (hB : Bo σ μ) (x : Int32) : stq G hy_outputByte hh_outputByte mi_X11_outputByte [.int x] fI μ :=
  st_c (X := xE2) hB (Nat.lt_of_lt_of_le sn_outputByte (by decide)) (x_X10_outputByte hok hB.1 hB.2.2 x) (nx_O sn_outputByte) (fun res' h1 h2 => by rw [← hbf_I]; exact hb_outputByte hok hnc x h1 h2) (fun μ1 h1 => M_outputByte hok h1 hB.2.2 x) (OKA_outputByte hB.2.2 x)
theorem st_lackingAfterFilling (hok : ev_ok sh_S G) (hnc : NCs G) (hB : Bo σ μ) : stq G hy_lackingAfterFilling hh_lackingAfterFilling mi_X11_lackingAfterFilling [] fI μ :=
  st_c (X := xE) hB (Nat.lt_of_lt_of_le th_lt (by decide)) (x_X10_lackingAfterFilling hok hB.1 hB.2.2) (nx_I th_lt) (fun res' h1 h2 => by rw [← hbf_I]; exact hb_lackingAfterFilling hok hnc h1 h2) (fun μ1 h1 => by
    obtain ⟨μ2, a1, a2, a3, a4⟩ := m_X11_lackingAfterFilling hok h1.1 hB.2.2.1 h1.2.1 hB.2.2.2.1
    exact ⟨μ2, a1, MS_m h1 a3 a2, Fq_m a3, a4⟩) hB.2.2
theorem st_spreadAfterTalk (hok : ev_ok sh_S G) (hnc : NCs G) (hB : Bo σ μ) (x : Int32) : stq G hy_spreadAfterTalk hh_spreadAfterTalk mi_X11_spreadAfterTalk [.int x] fI μ :=
  st_c (X := xE) hB (Nat.lt_of_lt_of_le c1_lt (by decide)) (x_X10_spreadAfterTalk hok hB.1 hB.2.2 x) (nx_IO c1_lt) (fun res' h1 h2 => by rw [← hbf_I]; exact hb_spreadAfterTalk hok hnc x h1 h2) (fun μ1 h1 => by
    obtain ⟨μ2, a1, a2, a3, a4⟩ := m_X11_spreadAfterTalk hok h1.1 hB.2.2.1 h1.2.1 hB.2.2.2.1 x
    exact ⟨μ2, a1, MS_m h1 a3 a2, Fq_m a3, a4⟩) hB.2.2
def xEp : Nat → String := fun n => if n = 1 then eO else eA
theorem nx_OA {n : Nat} (h : n < 3) : n ≠ 0 → xEp n ∈ [eO, eA] ∧ hbi [eO, eA] (xEp n) = n := by
  intro c
  rcases (show n = 1 ∨ n = 2 by omega) with rfl | rfl
  · exact ⟨List.mem_cons_self, by show (if eO = eO then 1 else _) = 1; rw [if_pos rfl]⟩
  · exact ⟨List.mem_cons_of_mem _ List.mem_cons_self, by show (if eA = eO then 1 else (if eA = eA then 1 else _) + 1) = 2; rw [if_neg ne_AO, if_pos rfl]⟩
theorem sn_parse {t : PS} {x : Int32} : (s_parse σ t x).1 < 3 := by unfold s_parse; (repeat' split) <;> exact Nat.le_of_ble_eq_true rfl
theorem pe_all (hok : ev_ok sh_S G) (hks : KS G) (hA : OKA σ) (x : Int32) : ∃ k t, (∀ j, rx (aBn σ + 1) x = some j → PE (aB σ) j k t) ∧ OKA (s_parse σ t x).2.2 := by
  have hb5 : aBn σ ≤ 500 := hA.2.2.2.2.2.2.1
  have h8 : ∀ i, aB σ i < 256 := hA.2.2.2.2.2.2.2.1
  cases h : rx (aBn σ + 1) x with
  | none =>
    obtain ⟨k, t, hp⟩ := PE_ex (B := aB σ) (n := 0) hok hks (Nat.zero_le _) h8
    exact ⟨k, t, fun j hj => (by cases hj), OKA_parse hA hp x⟩
  | some j =>
    have hj := (rx_s (by omega) h).1
    obtain ⟨k, t, hp⟩ := PE_ex (B := aB σ) (n := j) hok hks (by omega) h8
    exact ⟨k, t, fun i hi => by cases hi; exact hp, OKA_parse hA hp x⟩
theorem st_parseSetup (hok : ev_ok sh_S G) (hnc : NCs G) (hkw : KW G) (hks : KS G) (hB : Bo σ μ) (x : Int32) : stq G hy_parseSetup hh_parseSetup mi_X11_parseSetup [.int x] fI μ := by
  obtain ⟨k, t, hP, hO⟩ := pe_all (σ := σ) hok hks hB.2.2 x
  exact st_c (X := xEp) hB (Nat.lt_of_lt_of_le sn_parse (by decide)) (x_X10_parseSetup hok hkw hB.1 hB.2.2 x hP) (nx_OA sn_parse) (fun res' h1 h2 => by rw [← hbf_I]; exact hb_parseSetup hok hnc x h1 h2) (fun μ1 h1 => M_parseSetup hok hks h1 hB.2.2 x hP) hO
end Steps2
