
def mmO (bits pl lt : Nat) : Nat := if pl = 0 ∧ bits.testBit lt = true then 1 else 2
def mmR (t : Nat → Nat → Nat) (pl lt : Nat) : Nat := t 1 (pl * 3 + lt)
def maR (en : Int32) (pl : Nat) : Bool := decide (¬ (en >>> (nI pl &&& 31)) &&& (nI 1) = 0)
def mmB (t u : Nat → Nat → Nat) (pl lt : Nat) : Nat := t 1 (pl / 10 * 3 + lt) * 10 + u 1 (pl % 10 * 3 + lt)
def maB (how : Nat) (t u : Nat → Nat → Nat) (pl : Nat) : Bool :=
  if how = 0 then (t 0 1).testBit (pl / 10) || (u 0 1).testBit (pl % 10)
  else if how = 1 then (t 0 1).testBit (pl / 10) && (u 0 1).testBit (pl % 10)
  else if how = 2 then (t 0 1).testBit (pl / 10) && !(u 0 1).testBit (pl % 10)
  else (t 0 1).testBit (pl / 10) != (u 0 1).testBit (pl % 10)
def mwB (t : Nat → Nat → Nat) (a S : Nat) : Nat := a * 1024 + (S ||| ((t 0 1).testBit a).toNat)
def mmH (t u : Nat → Nat → Nat) (pl lt : Nat) : Nat := mwB t (t 1 (pl / 1024 * 3 + lt)) (aAll (pl % 1024) (fun r => u 1 (r * 3 + lt)) (u 0 0) &&& u 0 2)
def maH (u : Nat → Nat → Nat) (pl : Nat) : Bool := decide (¬ pl % 1024 &&& u 0 1 = 0)
def mnS (t : Nat → Nat → Nat) (pl lt : Nat) : Nat := aAll (if pl = 1024 then 1 else pl) (fun r => t 1 (r * 3 + lt)) (t 0 0) &&& t 0 2
def mmN (t : Nat → Nat → Nat) (pl lt : Nat) : Nat := if mnS t pl lt &&& t 0 1 = 0 then mnS t pl lt else mnS t pl lt ||| 1
def maN (t : Nat → Nat → Nat) (pl : Nat) : Bool := decide (pl = 1024 ∨ ¬ pl &&& t 0 1 = 0)
def mmK (t : Nat → Nat → Nat) (pl lt : Nat) : Nat := bAll pl (fun r => t 1 (r * 3 + lt)) (t 0 0)
def maK (pl : Nat) : Bool := decide (¬ pl % 2 = 0)
theorem pl_lt {a n : Nat} (h : a < 2 ^ n) (hn : n ≤ 10) : a < 2 ^ 31 := Nat.lt_of_lt_of_le h (Nat.pow_le_pow_right (by decide) (by omega))

abbrev rm_O_start : Room := { frames := 0, cells := 0, slots := 0, locals := 0 }
set_option maxRecDepth 100000 in
set_option maxHeartbeats 4000000 in
theorem c_O_start (l : Launch) (Γ : gG) (d : Nat → Nat) (hm : Nat) (so : Nat → Nat → Nat) (tl : Nat → Nat → Int64) (tb : Nat → Nat → Nat → Nat) (wr : va_W) (bits fst : Nat) : cT l Γ my_O_start bc_O_start 1 (some .int) rm_O_start [.ref hm] (xW Γ d hm (.inr (4, [.int (nI bits), .int (nI fst)])) so tl tb wr) (S := Unit) (fun v _ => v = some (.int (nI (fst)))) (fun _ => xW Γ d hm (.inr (4, [.int (nI bits), .int (nI fst)])) so tl tb wr) := by
  refine cT.start (by decide) (Nat.le_of_ble_eq_true rfl) (fun p e s m args below meth c ls Q hQ C hmn h hl => ?_)
  replace hl : lv_has ls 1 [(0, .ref hm)] := hl
  refine lv_aload_n C.x C.b dc_O_start_0 rfl (lv_at hl 0 rfl) ?_
  refine rg_get C h 4 rfl rfl in_O 1 (by decide) fl_O_13 rfl dc_O_start_1 ?_
  rw [hQ]
  exact rt_i C () h (rfl) dc_O_start_4

abbrev rm_R_start : Room := { frames := 0, cells := 0, slots := 0, locals := 0 }
set_option maxRecDepth 100000 in
set_option maxHeartbeats 4000000 in
theorem c_R_start (l : Launch) (Γ : gG) (d : Nat → Nat) (hm : Nat) (so : Nat → Nat → Nat) (tl : Nat → Nat → Int64) (tb : Nat → Nat → Nat → Nat) (wr : va_W) (i fst : Nat) (en : Int32) (hi : i < 80) : cT l Γ my_R_start bc_R_start 1 (some .int) rm_R_start [.ref hm] (xW Γ d hm (.inr (5, [.ref (d (20 + 3 * i)), .int (nI fst), .int en])) so tl tb wr) (S := Unit) (fun v _ => v = some (.int (nI (fst)))) (fun _ => xW Γ d hm (.inr (5, [.ref (d (20 + 3 * i)), .int (nI fst), .int en])) so tl tb wr) := by
  refine cT.start (by decide) (Nat.le_of_ble_eq_true rfl) (fun p e s m args below meth c ls Q hQ C hmn h hl => ?_)
  replace hl : lv_has ls 1 [(0, .ref hm)] := hl
  refine lv_aload_n C.x C.b dc_R_start_0 rfl (lv_at hl 0 rfl) ?_
  refine rg_get C h 4 rfl rfl in_R 1 (by decide) fl_R_13 rfl dc_R_start_1 ?_
  rw [hQ]
  exact rt_i C () h (rfl) dc_R_start_4

abbrev rm_B_start : Room := { frames := 0, cells := 0, slots := 0, locals := 0 }
set_option maxRecDepth 100000 in
set_option maxHeartbeats 4000000 in
theorem c_B_start (l : Launch) (Γ : gG) (d : Nat → Nat) (hm : Nat) (so : Nat → Nat → Nat) (tl : Nat → Nat → Int64) (tb : Nat → Nat → Nat → Nat) (wr : va_W) (how i j : Nat) (hi : i < 80) (hj : j < 80) : cT l Γ my_B_start bc_B_start 1 (some .int) rm_B_start [.ref hm] (xW Γ d hm (.inr (6, [.int (nI how), .ref (d (20 + 3 * i)), .ref (d (20 + 3 * j))])) so tl tb wr) (S := Unit) (fun v _ => v = some (.int (nI (0)))) (fun _ => xW Γ d hm (.inr (6, [.int (nI how), .ref (d (20 + 3 * i)), .ref (d (20 + 3 * j))])) so tl tb wr) := by
  refine cT.start (by decide) (Nat.le_of_ble_eq_true rfl) (fun p e s m args below meth c ls Q hQ C hmn h hl => ?_)
  replace hl : lv_has ls 1 [(0, .ref hm)] := hl
  refine lv_iconst (v := (nI 0)) C.x C.b dc_B_start_0 (by decide +kernel) ?_
  rw [hQ]
  exact rt_i C () h (rfl) dc_B_start_1

abbrev rm_N_start : Room := { frames := 0, cells := 0, slots := 0, locals := 0 }
set_option maxRecDepth 100000 in
set_option maxHeartbeats 4000000 in
theorem c_N_start (l : Launch) (Γ : gG) (d : Nat → Nat) (hm : Nat) (so : Nat → Nat → Nat) (tl : Nat → Nat → Int64) (tb : Nat → Nat → Nat → Nat) (wr : va_W) (i : Nat) (hi : i < 80) : cT l Γ my_N_start bc_N_start 1 (some .int) rm_N_start [.ref hm] (xW Γ d hm (.inr (8, [.ref (d (20 + 3 * i))])) so tl tb wr) (S := Unit) (fun v _ => v = some (.int (nI (1024)))) (fun _ => xW Γ d hm (.inr (8, [.ref (d (20 + 3 * i))])) so tl tb wr) := by
  refine cT.start (by decide) (Nat.le_of_ble_eq_true rfl) (fun p e s m args below meth c ls Q hQ C hmn h hl => ?_)
  replace hl : lv_has ls 1 [(0, .ref hm)] := hl
  refine lv_sipush (v := (nI 1024)) C.x C.b dc_N_start_0 (by decide +kernel) ?_
  rw [hQ]
  exact rt_i C () h (rfl) dc_N_start_3

abbrev rm_K_start : Room := { frames := 0, cells := 0, slots := 0, locals := 0 }
set_option maxRecDepth 100000 in
set_option maxHeartbeats 4000000 in
theorem c_K_start (l : Launch) (Γ : gG) (d : Nat → Nat) (hm : Nat) (so : Nat → Nat → Nat) (tl : Nat → Nat → Int64) (tb : Nat → Nat → Nat → Nat) (wr : va_W) (i : Nat) (hi : i < 80) : cT l Γ my_K_start bc_K_start 1 (some .int) rm_K_start [.ref hm] (xW Γ d hm (.inr (9, [.ref (d (20 + 3 * i))])) so tl tb wr) (S := Unit) (fun v _ => v = some (.int (nI (tb i 0 1)))) (fun _ => xW Γ d hm (.inr (9, [.ref (d (20 + 3 * i))])) so tl tb wr) := by
  refine cT.start (by decide) (Nat.le_of_ble_eq_true rfl) (fun p e s m args below meth c ls Q hQ C hmn h hl => ?_)
  replace hl : lv_has ls 1 [(0, .ref hm)] := hl
  refine lv_aload_n C.x C.b dc_K_start_0 rfl (lv_at hl 0 rfl) ?_
  refine rg_get C h 4 rfl rfl in_K 0 (by decide) fl_K_7 rfl dc_K_start_1 ?_
  refine rg_getN C h (17 + i) (lk_T (hi)) rfl in_T 1 (by decide) fl_K_13 rfl dc_K_start_4 ?_
  rw [hQ]
  exact rt_i C () h (rfl) dc_K_start_7

abbrev rm_O_step : Room := { frames := 0, cells := 0, slots := 0, locals := 0 }
set_option maxRecDepth 100000 in
set_option maxHeartbeats 4000000 in
theorem c_O_step (l : Launch) (Γ : gG) (d : Nat → Nat) (hm : Nat) (so : Nat → Nat → Nat) (tl : Nat → Nat → Int64) (tb : Nat → Nat → Nat → Nat) (wr : va_W) (bits fst : Nat) (pl lt : Nat) (hp : pl < 2 ^ 31) (hlt : lt < 3) (hbt : bits < 2 ^ 31) : cT l Γ my_O_step bc_O_step 3 (some .int) rm_O_step [.ref hm, .int (nI pl), .int (nI lt)] (xW Γ d hm (.inr (4, [.int (nI bits), .int (nI fst)])) so tl tb wr) (S := Unit) (fun v _ => v = some (.int (nI (mmO bits pl lt)))) (fun _ => xW Γ d hm (.inr (4, [.int (nI bits), .int (nI fst)])) so tl tb wr) := by
  refine cT.start (by decide) (Nat.le_of_ble_eq_true rfl) (fun p e s m args below meth c ls Q hQ C hmn h hl => ?_)
  replace hl : lv_has ls 3 [(0, .ref hm), (1, .int (nI pl)), (2, .int (nI lt))] := hl
  refine lv_iload_n C.x C.b dc_O_step_0 rfl (lv_at hl 1 rfl) ?_
  refine bz_ne (tgt := 19) C (by omega) dc_O_step_1 (by decide) (fun q1 => ?_) (fun q1 => ?_)
  · refine lv_iconst (v := (nI 2)) C.x C.b dc_O_step_19 (by decide +kernel) ?_
    rw [hQ]
    exact rt_i C () h (by rw [mmO, if_neg (fun z => q1 z.1)]) dc_O_step_20
  · refine lv_aload_n C.x C.b dc_O_step_4 rfl (lv_at hl 0 rfl) ?_
    refine rg_get C h 4 rfl rfl in_O 0 (by decide) fl_O_7 rfl dc_O_step_5 ?_
    refine lv_iload_n C.x C.b dc_O_step_8 rfl (lv_at hl 2 rfl) ?_
    refine lv_ishr C.x C.b dc_O_step_9 ?_
    refine tp_i (nI_shr (a := bits) (n := lt) (by omega) (by omega)) ?_
    refine lv_iconst (v := (nI 1)) C.x C.b dc_O_step_10 (by decide +kernel) ?_
    refine lv_iand C.x C.b dc_O_step_11 ?_
    refine tp_i (nI_and1 (bits / 2 ^ lt)) ?_
    refine bz_eq (tgt := 19) C (by omega) dc_O_step_12 (by decide) (fun q12 => ?_) (fun q12 => ?_)
    · refine lv_iconst (v := (nI 2)) C.x C.b dc_O_step_19 (by decide +kernel) ?_
      rw [hQ]
      exact rt_i C () h (by rw [mmO, if_neg (fun z => by rw [(tb_iff0 _ _).mp q12] at z; cases z.2)]) dc_O_step_20
    · refine lv_iconst (v := (nI 1)) C.x C.b dc_O_step_15 (by decide +kernel) ?_
      refine lv_goto (tgt := 20) C.x C.b dc_O_step_16 (by decide) ?_
      rw [hQ]
      exact rt_i C () h (by rw [mmO, if_pos ⟨q1, (tb_iff _ _).mp q12⟩]) dc_O_step_20

abbrev rm_O_accepts : Room := { frames := 0, cells := 0, slots := 0, locals := 0 }
set_option maxRecDepth 100000 in
set_option maxHeartbeats 4000000 in
theorem c_O_accepts (l : Launch) (Γ : gG) (d : Nat → Nat) (hm : Nat) (so : Nat → Nat → Nat) (tl : Nat → Nat → Int64) (tb : Nat → Nat → Nat → Nat) (wr : va_W) (bits fst : Nat) (pl : Nat) (hp : pl < 2 ^ 31) : cT l Γ my_O_accepts bc_O_accepts 2 (some .boolean) rm_O_accepts [.ref hm, .int (nI pl)] (xW Γ d hm (.inr (4, [.int (nI bits), .int (nI fst)])) so tl tb wr) (S := Unit) (fun v _ => v = some (.int (bI (decide (pl = 1))))) (fun _ => xW Γ d hm (.inr (4, [.int (nI bits), .int (nI fst)])) so tl tb wr) := by
  refine cT.start (by decide) (Nat.le_of_ble_eq_true rfl) (fun p e s m args below meth c ls Q hQ C hmn h hl => ?_)
  replace hl : lv_has ls 2 [(0, .ref hm), (1, .int (nI pl))] := hl
  refine lv_iload_n C.x C.b dc_O_accepts_0 rfl (lv_at hl 1 rfl) ?_
  refine lv_iconst (v := (nI 1)) C.x C.b dc_O_accepts_1 (by decide +kernel) ?_
  refine bc_ne (tgt := 9) C (by omega) (by omega) dc_O_accepts_2 (by decide) (fun q2 => ?_) (fun q2 => ?_)
  · refine lv_iconst (v := (nI 0)) C.x C.b dc_O_accepts_9 (by decide +kernel) ?_
    rw [hQ]
    exact rt_z C () h (rb_f (decide_eq_false q2)) (by decide +kernel) dc_O_accepts_10
  · refine lv_iconst (v := (nI 1)) C.x C.b dc_O_accepts_5 (by decide +kernel) ?_
    refine lv_goto (tgt := 10) C.x C.b dc_O_accepts_6 (by decide) ?_
    rw [hQ]
    exact rt_z C () h (rb_t (decide_eq_true q2)) (by decide +kernel) dc_O_accepts_10

abbrev rm_R_step : Room := { frames := 1, cells := 0, slots := 0, locals := 22 }
set_option maxRecDepth 100000 in
set_option maxHeartbeats 4000000 in
theorem c_R_step (l : Launch) (Γ : gG) (d : Nat → Nat) (hm : Nat) (so : Nat → Nat → Nat) (tl : Nat → Nat → Int64) (tb : Nat → Nat → Nat → Nat) (wr : va_W) (i fst : Nat) (en : Int32) (hi : i < 80) (pl lt : Nat) (hp : pl < 10) (hlt : lt < 3) : cT l Γ my_R_step bc_R_step 3 (some .int) rm_R_step [.ref hm, .int (nI pl), .int (nI lt)] (xW Γ d hm (.inr (5, [.ref (d (20 + 3 * i)), .int (nI fst), .int en])) so tl tb wr) (S := Unit) (fun v _ => v = some (.int (nI (mmR (tb i) pl lt)))) (fun _ => xW Γ d hm (.inr (5, [.ref (d (20 + 3 * i)), .int (nI fst), .int en])) so tl tb wr) := by
  refine cT.start (by decide) (Nat.le_of_ble_eq_true rfl) (fun p e s m args below meth c ls Q hQ C hmn h hl => ?_)
  replace hl : lv_has ls 3 [(0, .ref hm), (1, .int (nI pl)), (2, .int (nI lt))] := hl
  refine lv_aload_n C.x C.b dc_R_step_0 rfl (lv_at hl 0 rfl) ?_
  refine rg_get C h 4 rfl rfl in_R 0 (by decide) fl_R_7 rfl dc_R_step_1 ?_
  refine lv_iload_n C.x C.b dc_R_step_4 rfl (lv_at hl 1 rfl) ?_
  refine lv_iload_n C.x C.b dc_R_step_5 rfl (lv_at hl 2 rfl) ?_
  refine kv_V (As := [.int (nI pl), .int (nI lt)]) (rest := []) C h hl.1 (c_T_after l Γ d hm (.inr (5, [.ref (d (20 + 3 * i)), .int (nI fst), .int en])) so tl tb wr i pl lt (hi) (by omega) (by omega)) mw_T_after lk_R_20 (q0 := (17 + i)) (lk_T (hi)) rfl rfl (by decide) (by decide) (Nat.le_of_ble_eq_true rfl) dc_R_step_6 (fun v u H locs hp h => ?_)
  obtain rfl := hp
  replace h : sT Γ s (xW Γ d hm (.inr (5, [.ref (d (20 + 3 * i)), .int (nI fst), .int en])) so tl tb wr) H locs := h
  refine W.eq (g2 := F0 m 9 ls [.int (nI (tb i 1 (pl * 3 + lt)))]) rfl ?_
  rw [hQ]
  exact rt_i C () h (rfl) dc_R_step_9

abbrev rm_R_accepts : Room := { frames := 0, cells := 0, slots := 0, locals := 0 }
set_option maxRecDepth 100000 in
set_option maxHeartbeats 4000000 in
theorem c_R_accepts (l : Launch) (Γ : gG) (d : Nat → Nat) (hm : Nat) (so : Nat → Nat → Nat) (tl : Nat → Nat → Int64) (tb : Nat → Nat → Nat → Nat) (wr : va_W) (i fst : Nat) (en : Int32) (hi : i < 80) (pl : Nat) : cT l Γ my_R_accepts bc_R_accepts 2 (some .boolean) rm_R_accepts [.ref hm, .int (nI pl)] (xW Γ d hm (.inr (5, [.ref (d (20 + 3 * i)), .int (nI fst), .int en])) so tl tb wr) (S := Unit) (fun v _ => v = some (.int (bI (maR en pl)))) (fun _ => xW Γ d hm (.inr (5, [.ref (d (20 + 3 * i)), .int (nI fst), .int en])) so tl tb wr) := by
  refine cT.start (by decide) (Nat.le_of_ble_eq_true rfl) (fun p e s m args below meth c ls Q hQ C hmn h hl => ?_)
  replace hl : lv_has ls 2 [(0, .ref hm), (1, .int (nI pl))] := hl
  refine lv_aload_n C.x C.b dc_R_accepts_0 rfl (lv_at hl 0 rfl) ?_
  refine rg_get C h 4 rfl rfl in_R 2 (by decide) fl_R_17 rfl dc_R_accepts_1 ?_
  refine lv_iload_n C.x C.b dc_R_accepts_4 rfl (lv_at hl 1 rfl) ?_
  refine lv_ishr C.x C.b dc_R_accepts_5 ?_
  refine lv_iconst (v := (nI 1)) C.x C.b dc_R_accepts_6 (by decide +kernel) ?_
  refine lv_iand C.x C.b dc_R_accepts_7 ?_
  refine lv_if_eq (tgt := 15) C.x C.b dc_R_accepts_8 (by decide) (fun q8 => ?_) (fun q8 => ?_)
  · refine lv_iconst (v := (nI 0)) C.x C.b dc_R_accepts_15 (by decide +kernel) ?_
    rw [hQ]
    exact rt_z C () h (rb_f (decide_eq_false (fun z => z q8))) (by decide +kernel) dc_R_accepts_16
  · refine lv_iconst (v := (nI 1)) C.x C.b dc_R_accepts_11 (by decide +kernel) ?_
    refine lv_goto (tgt := 16) C.x C.b dc_R_accepts_12 (by decide) ?_
    rw [hQ]
    exact rt_z C () h (rb_t (decide_eq_true q8)) (by decide +kernel) dc_R_accepts_16

abbrev rm_B_step : Room := { frames := 1, cells := 0, slots := 0, locals := 22 }
set_option maxRecDepth 100000 in
set_option maxHeartbeats 4000000 in
theorem c_B_step (l : Launch) (Γ : gG) (d : Nat → Nat) (hm : Nat) (so : Nat → Nat → Nat) (tl : Nat → Nat → Int64) (tb : Nat → Nat → Nat → Nat) (wr : va_W) (how i j : Nat) (hi : i < 80) (hj : j < 80) (pl lt : Nat) (hp : pl < 100) (hlt : lt < 3) : cT l Γ my_B_step bc_B_step 4 (some .int) rm_B_step [.ref hm, .int (nI pl), .int (nI lt)] (xW Γ d hm (.inr (6, [.int (nI how), .ref (d (20 + 3 * i)), .ref (d (20 + 3 * j))])) so tl tb wr) (S := Unit) (fun v _ => v = some (.int (nI (mmB (tb i) (tb j) pl lt)))) (fun _ => xW Γ d hm (.inr (6, [.int (nI how), .ref (d (20 + 3 * i)), .ref (d (20 + 3 * j))])) so tl tb wr) := by
  refine cT.start (by decide) (Nat.le_of_ble_eq_true rfl) (fun p e s m args below meth c ls Q hQ C hmn h hl => ?_)
  replace hl : lv_has ls 4 [(0, .ref hm), (1, .int (nI pl)), (2, .int (nI lt))] := hl
  refine lv_aload_n C.x C.b dc_B_step_0 rfl (lv_at hl 0 rfl) ?_
  refine rg_get C h 4 rfl rfl in_B 1 (by decide) fl_B_15 rfl dc_B_step_1 ?_
  refine lv_iload_n C.x C.b dc_B_step_4 rfl (lv_at hl 1 rfl) ?_
  refine lv_bipush (v := (nI 10)) C.x C.b dc_B_step_5 (by decide +kernel) ?_
  refine lv_idiv C.x C.b dc_B_step_7 (by decide +kernel) ?_
  refine tp_i (pk_div (a := pl) (d := 10) (by omega) (by decide) (by decide)) ?_
  refine lv_iload_n C.x C.b dc_B_step_8 rfl (lv_at hl 2 rfl) ?_
  refine kv_V (As := [.int (nI (pl / 10)), .int (nI lt)]) (rest := []) C h hl.1 (c_T_after l Γ d hm (.inr (6, [.int (nI how), .ref (d (20 + 3 * i)), .ref (d (20 + 3 * j))])) so tl tb wr i (pl / 10) lt (hi) (by omega) (by omega)) mw_T_after lk_B_22 (q0 := (17 + i)) (lk_T (hi)) rfl rfl (by decide) (by decide) (Nat.le_of_ble_eq_true rfl) dc_B_step_9 (fun v u H locs hp h => ?_)
  obtain rfl := hp
  replace h : sT Γ s (xW Γ d hm (.inr (6, [.int (nI how), .ref (d (20 + 3 * i)), .ref (d (20 + 3 * j))])) so tl tb wr) H locs := h
  refine W.eq (g2 := F0 m 12 ls [.int (nI (tb i 1 ((pl / 10) * 3 + lt)))]) rfl ?_
  refine lv_istore_n (lv' := [(3, .int (nI (tb i 1 ((pl / 10) * 3 + lt)))), (0, .ref hm), (1, .int (nI pl)), (2, .int (nI lt))]) C.x C.b dc_B_step_12 rfl hl (by decide) rfl (fun ls hl => ?_)
  refine lv_iload_n C.x C.b dc_B_step_13 rfl (lv_at hl 0 rfl) ?_
  refine lv_bipush (v := (nI 10)) C.x C.b dc_B_step_14 (by decide +kernel) ?_
  refine lv_imul C.x C.b dc_B_step_16 ?_
  refine tp_i (pk_mul (tb i 1 ((pl / 10) * 3 + lt)) 10) ?_
  refine lv_aload_n C.x C.b dc_B_step_17 rfl (lv_at hl 1 rfl) ?_
  refine rg_get C h 4 rfl rfl in_B 2 (by decide) fl_B_19 rfl dc_B_step_18 ?_
  refine lv_iload_n C.x C.b dc_B_step_21 rfl (lv_at hl 2 rfl) ?_
  refine lv_bipush (v := (nI 10)) C.x C.b dc_B_step_22 (by decide +kernel) ?_
  refine lv_irem C.x C.b dc_B_step_24 (by decide +kernel) ?_
  refine tp_i (pk_rem (a := pl) (d := 10) (by omega) (by decide) (by decide)) ?_
  refine lv_iload_n C.x C.b dc_B_step_25 rfl (lv_at hl 3 rfl) ?_
  refine kv_V (As := [.int (nI (pl % 10)), .int (nI lt)]) (rest := [.int (nI ((tb i 1 ((pl / 10) * 3 + lt)) * 10))]) C h hl.1 (c_T_after l Γ d hm (.inr (6, [.int (nI how), .ref (d (20 + 3 * i)), .ref (d (20 + 3 * j))])) so tl tb wr j (pl % 10) lt (hj) (by omega) (by omega)) mw_T_after lk_B_22 (q0 := (17 + j)) (lk_T (hj)) rfl rfl (by decide) (by decide) (Nat.le_of_ble_eq_true rfl) dc_B_step_26 (fun v u H locs hp h => ?_)
  obtain rfl := hp
  replace h : sT Γ s (xW Γ d hm (.inr (6, [.int (nI how), .ref (d (20 + 3 * i)), .ref (d (20 + 3 * j))])) so tl tb wr) H locs := h
  refine W.eq (g2 := F0 m 29 ls [.int (nI (tb j 1 ((pl % 10) * 3 + lt))), .int (nI ((tb i 1 ((pl / 10) * 3 + lt)) * 10))]) rfl ?_
  refine lv_iadd C.x C.b dc_B_step_29 ?_
  refine tp_i (nI_add ((tb i 1 ((pl / 10) * 3 + lt)) * 10) (tb j 1 ((pl % 10) * 3 + lt))) ?_
  rw [hQ]
  exact rt_i C () h (rfl) dc_B_step_30

abbrev rm_B_accepts : Room := { frames := 1, cells := 0, slots := 0, locals := 21 }
set_option maxRecDepth 100000 in
set_option maxHeartbeats 4000000 in
theorem c_B_accepts (l : Launch) (Γ : gG) (d : Nat → Nat) (hm : Nat) (so : Nat → Nat → Nat) (tl : Nat → Nat → Int64) (tb : Nat → Nat → Nat → Nat) (wr : va_W) (how i j : Nat) (hi : i < 80) (hj : j < 80) (pl : Nat) (hp : pl < 100) (hw : how < 4) (hei : tb i 0 1 < 2 ^ 31) (hej : tb j 0 1 < 2 ^ 31) : cT l Γ my_B_accepts bc_B_accepts 4 (some .boolean) rm_B_accepts [.ref hm, .int (nI pl)] (xW Γ d hm (.inr (6, [.int (nI how), .ref (d (20 + 3 * i)), .ref (d (20 + 3 * j))])) so tl tb wr) (S := Unit) (fun v _ => v = some (.int (bI (maB how (tb i) (tb j) pl)))) (fun _ => xW Γ d hm (.inr (6, [.int (nI how), .ref (d (20 + 3 * i)), .ref (d (20 + 3 * j))])) so tl tb wr) := by
  refine cT.start (by decide) (Nat.le_of_ble_eq_true rfl) (fun p e s m args below meth c ls Q hQ C hmn h hl => ?_)
  replace hl : lv_has ls 4 [(0, .ref hm), (1, .int (nI pl))] := hl
  refine lv_aload_n C.x C.b dc_B_accepts_0 rfl (lv_at hl 0 rfl) ?_
  refine rg_get C h 4 rfl rfl in_B 1 (by decide) fl_B_15 rfl dc_B_accepts_1 ?_
  refine lv_iload_n C.x C.b dc_B_accepts_4 rfl (lv_at hl 1 rfl) ?_
  refine lv_bipush (v := (nI 10)) C.x C.b dc_B_accepts_5 (by decide +kernel) ?_
  refine lv_idiv C.x C.b dc_B_accepts_7 (by decide +kernel) ?_
  refine tp_i (pk_div (a := pl) (d := 10) (by omega) (by decide) (by decide)) ?_
  refine kv_V (As := [.int (nI (pl / 10))]) (rest := []) C h hl.1 (c_T_endsAt l Γ d hm (.inr (6, [.int (nI how), .ref (d (20 + 3 * i)), .ref (d (20 + 3 * j))])) so tl tb wr i (pl / 10) (hi) (by omega) (by omega)) mw_T_endsAt lk_B_28 (q0 := (17 + i)) (lk_T (hi)) rfl rfl (by decide) (by decide) (Nat.le_of_ble_eq_true rfl) dc_B_accepts_8 (fun v u H locs hp h => ?_)
  obtain rfl := hp
  replace h : sT Γ s (xW Γ d hm (.inr (6, [.int (nI how), .ref (d (20 + 3 * i)), .ref (d (20 + 3 * j))])) so tl tb wr) H locs := h
  refine W.eq (g2 := F0 m 11 ls [.int (bI ((tb i 0 1).testBit (pl / 10)))]) rfl ?_
  refine lv_istore_n (lv' := [(2, .int (bI ((tb i 0 1).testBit (pl / 10)))), (0, .ref hm), (1, .int (nI pl))]) C.x C.b dc_B_accepts_11 rfl hl (by decide) rfl (fun ls hl => ?_)
  refine lv_aload_n C.x C.b dc_B_accepts_12 rfl (lv_at hl 1 rfl) ?_
  refine rg_get C h 4 rfl rfl in_B 2 (by decide) fl_B_19 rfl dc_B_accepts_13 ?_
  refine lv_iload_n C.x C.b dc_B_accepts_16 rfl (lv_at hl 2 rfl) ?_
  refine lv_bipush (v := (nI 10)) C.x C.b dc_B_accepts_17 (by decide +kernel) ?_
  refine lv_irem C.x C.b dc_B_accepts_19 (by decide +kernel) ?_
  refine tp_i (pk_rem (a := pl) (d := 10) (by omega) (by decide) (by decide)) ?_
  refine kv_V (As := [.int (nI (pl % 10))]) (rest := []) C h hl.1 (c_T_endsAt l Γ d hm (.inr (6, [.int (nI how), .ref (d (20 + 3 * i)), .ref (d (20 + 3 * j))])) so tl tb wr j (pl % 10) (hj) (by omega) (by omega)) mw_T_endsAt lk_B_28 (q0 := (17 + j)) (lk_T (hj)) rfl rfl (by decide) (by decide) (Nat.le_of_ble_eq_true rfl) dc_B_accepts_20 (fun v u H locs hp h => ?_)
  obtain rfl := hp
  replace h : sT Γ s (xW Γ d hm (.inr (6, [.int (nI how), .ref (d (20 + 3 * i)), .ref (d (20 + 3 * j))])) so tl tb wr) H locs := h
  refine W.eq (g2 := F0 m 23 ls [.int (bI ((tb j 0 1).testBit (pl % 10)))]) rfl ?_
  refine lv_istore_n (lv' := [(3, .int (bI ((tb j 0 1).testBit (pl % 10)))), (2, .int (bI ((tb i 0 1).testBit (pl / 10)))), (0, .ref hm), (1, .int (nI pl))]) C.x C.b dc_B_accepts_23 rfl hl (by decide) rfl (fun ls hl => ?_)
  refine lv_aload_n C.x C.b dc_B_accepts_24 rfl (lv_at hl 2 rfl) ?_
  refine rg_get C h 4 rfl rfl in_B 0 (by decide) fl_B_9 rfl dc_B_accepts_25 ?_
  by_cases hw0 : how = 0
  · subst hw0
    refine lv_tableIn (off := 28) (tgt := 56) C.x C.b dc_B_accepts_28 (by decide +kernel) (by decide +kernel) (by decide +kernel) (by decide) ?_
    refine lv_iload_n C.x C.b dc_B_accepts_56 rfl (lv_at hl 1 rfl) ?_
    refine bb_ne (tgt := 64) C dc_B_accepts_57 (by decide) (fun q57 => ?_) (fun q57 => ?_)
    · refine lv_iconst (v := (nI 1)) C.x C.b dc_B_accepts_64 (by decide +kernel) ?_
      refine lv_goto (tgt := 69) C.x C.b dc_B_accepts_65 (by decide) ?_
      rw [hQ]
      exact rt_z C () h (rb_t (by simp [maB, q57])) (by decide +kernel) dc_B_accepts_69
    · refine lv_iload_n C.x C.b dc_B_accepts_60 rfl (lv_at hl 0 rfl) ?_
      refine bb_eq (tgt := 68) C dc_B_accepts_61 (by decide) (fun q61 => ?_) (fun q61 => ?_)
      · refine lv_iconst (v := (nI 0)) C.x C.b dc_B_accepts_68 (by decide +kernel) ?_
        rw [hQ]
        exact rt_z C () h (rb_f (by simp [maB, q57, q61])) (by decide +kernel) dc_B_accepts_69
      · refine lv_iconst (v := (nI 1)) C.x C.b dc_B_accepts_64 (by decide +kernel) ?_
        refine lv_goto (tgt := 69) C.x C.b dc_B_accepts_65 (by decide) ?_
        rw [hQ]
        exact rt_z C () h (rb_t (by simp [maB, q57, q61])) (by decide +kernel) dc_B_accepts_69
  by_cases hw1 : how = 1
  · subst hw1
    refine lv_tableIn (off := 42) (tgt := 70) C.x C.b dc_B_accepts_28 (by decide +kernel) (by decide +kernel) (by decide +kernel) (by decide) ?_
    refine lv_iload_n C.x C.b dc_B_accepts_70 rfl (lv_at hl 1 rfl) ?_
    refine bb_eq (tgt := 82) C dc_B_accepts_71 (by decide) (fun q71 => ?_) (fun q71 => ?_)
    · refine lv_iconst (v := (nI 0)) C.x C.b dc_B_accepts_82 (by decide +kernel) ?_
      rw [hQ]
      exact rt_z C () h (rb_f (by simp [maB, q71])) (by decide +kernel) dc_B_accepts_83
    · refine lv_iload_n C.x C.b dc_B_accepts_74 rfl (lv_at hl 0 rfl) ?_
      refine bb_eq (tgt := 82) C dc_B_accepts_75 (by decide) (fun q75 => ?_) (fun q75 => ?_)
      · refine lv_iconst (v := (nI 0)) C.x C.b dc_B_accepts_82 (by decide +kernel) ?_
        rw [hQ]
        exact rt_z C () h (rb_f (by simp [maB, q71, q75])) (by decide +kernel) dc_B_accepts_83
      · refine lv_iconst (v := (nI 1)) C.x C.b dc_B_accepts_78 (by decide +kernel) ?_
        refine lv_goto (tgt := 83) C.x C.b dc_B_accepts_79 (by decide) ?_
        rw [hQ]
        exact rt_z C () h (rb_t (by simp [maB, q71, q75])) (by decide +kernel) dc_B_accepts_83
  by_cases hw2 : how = 2
  · subst hw2
    refine lv_tableIn (off := 56) (tgt := 84) C.x C.b dc_B_accepts_28 (by decide +kernel) (by decide +kernel) (by decide +kernel) (by decide) ?_
    refine lv_iload_n C.x C.b dc_B_accepts_84 rfl (lv_at hl 1 rfl) ?_
    refine bb_eq (tgt := 96) C dc_B_accepts_85 (by decide) (fun q85 => ?_) (fun q85 => ?_)
    · refine lv_iconst (v := (nI 0)) C.x C.b dc_B_accepts_96 (by decide +kernel) ?_
      rw [hQ]
      exact rt_z C () h (rb_f (by simp [maB, q85])) (by decide +kernel) dc_B_accepts_97
    · refine lv_iload_n C.x C.b dc_B_accepts_88 rfl (lv_at hl 0 rfl) ?_
      refine bb_ne (tgt := 96) C dc_B_accepts_89 (by decide) (fun q89 => ?_) (fun q89 => ?_)
      · refine lv_iconst (v := (nI 0)) C.x C.b dc_B_accepts_96 (by decide +kernel) ?_
        rw [hQ]
        exact rt_z C () h (rb_f (by simp [maB, q85, q89])) (by decide +kernel) dc_B_accepts_97
      · refine lv_iconst (v := (nI 1)) C.x C.b dc_B_accepts_92 (by decide +kernel) ?_
        refine lv_goto (tgt := 97) C.x C.b dc_B_accepts_93 (by decide) ?_
        rw [hQ]
        exact rt_z C () h (rb_t (by simp [maB, q85, q89])) (by decide +kernel) dc_B_accepts_97
  · refine lv_tableOut (tgt := 98) C.x C.b dc_B_accepts_28 (Or.inr (by rw [nI_toInt (by omega)]; omega)) (by decide) ?_
    refine lv_iload_n C.x C.b dc_B_accepts_98 rfl (lv_at hl 1 rfl) ?_
    refine lv_iload_n C.x C.b dc_B_accepts_99 rfl (lv_at hl 0 rfl) ?_
    rw [bI_n]
    rw [bI_n]
    refine bc_eq (tgt := 107) C (by cases (tb i 0 1).testBit (pl / 10) <;> decide) (by cases (tb j 0 1).testBit (pl % 10) <;> decide) dc_B_accepts_100 (by decide) (fun q100 => ?_) (fun q100 => ?_)
    · refine lv_iconst (v := (nI 0)) C.x C.b dc_B_accepts_107 (by decide +kernel) ?_
      rw [hQ]
      exact rt_z C () h (rb_f (by rw [maB, if_neg hw0, if_neg hw1, if_neg hw2]; revert q100; cases (tb i 0 1).testBit (pl / 10) <;> cases (tb j 0 1).testBit (pl % 10) <;> decide)) (by decide +kernel) dc_B_accepts_108
    · refine lv_iconst (v := (nI 1)) C.x C.b dc_B_accepts_103 (by decide +kernel) ?_
      refine lv_goto (tgt := 108) C.x C.b dc_B_accepts_104 (by decide) ?_
      rw [hQ]
      exact rt_z C () h (rb_t (by rw [maB, if_neg hw0, if_neg hw1, if_neg hw2]; revert q100; cases (tb i 0 1).testBit (pl / 10) <;> cases (tb j 0 1).testBit (pl % 10) <;> decide)) (by decide +kernel) dc_B_accepts_108

abbrev rm_H_withBegun : Room := { frames := 1, cells := 0, slots := 0, locals := 21 }
set_option maxRecDepth 100000 in
set_option maxHeartbeats 4000000 in
theorem c_H_withBegun (l : Launch) (Γ : gG) (d : Nat → Nat) (hm : Nat) (so : Nat → Nat → Nat) (tl : Nat → Nat → Int64) (tb : Nat → Nat → Nat → Nat) (wr : va_W) (i j : Nat) (hi : i < 80) (hj : j < 80) (a S : Nat) (ha : a < 10) (hei : tb i 0 1 < 2 ^ 31) : cT l Γ my_H_withBegun bc_H_withBegun 4 (some .int) rm_H_withBegun [.ref hm, .int (nI a), .int (nI S)] (xW Γ d hm (.inr (7, [.ref (d (20 + 3 * i)), .ref (d (20 + 3 * j))])) so tl tb wr) (S := Unit) (fun v _ => v = some (.int (nI (mwB (tb i) a S)))) (fun _ => xW Γ d hm (.inr (7, [.ref (d (20 + 3 * i)), .ref (d (20 + 3 * j))])) so tl tb wr) := by
  refine cT.start (by decide) (Nat.le_of_ble_eq_true rfl) (fun p e s m args below meth c ls Q hQ C hmn h hl => ?_)
  replace hl : lv_has ls 4 [(0, .ref hm), (1, .int (nI a)), (2, .int (nI S))] := hl
  refine lv_aload_n C.x C.b dc_H_withBegun_0 rfl (lv_at hl 0 rfl) ?_
  refine rg_get C h 4 rfl rfl in_H 0 (by decide) fl_H_9 rfl dc_H_withBegun_1 ?_
  refine lv_iload_n C.x C.b dc_H_withBegun_4 rfl (lv_at hl 1 rfl) ?_
  refine kv_V (As := [.int (nI a)]) (rest := []) C h hl.1 (c_T_endsAt l Γ d hm (.inr (7, [.ref (d (20 + 3 * i)), .ref (d (20 + 3 * j))])) so tl tb wr i a (hi) (by omega) (by omega)) mw_T_endsAt lk_H_34 (q0 := (17 + i)) (lk_T (hi)) rfl rfl (by decide) (by decide) (Nat.le_of_ble_eq_true rfl) dc_H_withBegun_5 (fun v u H locs hp h => ?_)
  obtain rfl := hp
  replace h : sT Γ s (xW Γ d hm (.inr (7, [.ref (d (20 + 3 * i)), .ref (d (20 + 3 * j))])) so tl tb wr) H locs := h
  refine W.eq (g2 := F0 m 8 ls [.int (bI ((tb i 0 1).testBit a))]) rfl ?_
  refine bb_eq (tgt := 15) C dc_H_withBegun_8 (by decide) (fun q8 => ?_) (fun q8 => ?_)
  · refine lv_iconst (v := (nI 0)) C.x C.b dc_H_withBegun_15 (by decide +kernel) ?_
    refine lv_istore_n (lv' := [(3, .int (nI 0)), (0, .ref hm), (1, .int (nI a)), (2, .int (nI S))]) C.x C.b dc_H_withBegun_16 rfl hl (by decide) rfl (fun ls hl => ?_)
    refine lv_iload_n C.x C.b dc_H_withBegun_17 rfl (lv_at hl 2 rfl) ?_
    refine lv_sipush (v := (nI 1024)) C.x C.b dc_H_withBegun_18 (by decide +kernel) ?_
    refine lv_imul C.x C.b dc_H_withBegun_21 ?_
    refine tp_i (pk_mul a 1024) ?_
    refine lv_iload_n C.x C.b dc_H_withBegun_22 rfl (lv_at hl 3 rfl) ?_
    refine lv_iload_n C.x C.b dc_H_withBegun_23 rfl (lv_at hl 0 rfl) ?_
    refine lv_ior C.x C.b dc_H_withBegun_24 ?_
    refine tp_i (nI_or S 0) ?_
    refine lv_iadd C.x C.b dc_H_withBegun_25 ?_
    refine tp_i (nI_add (a * 1024) (S ||| 0)) ?_
    rw [hQ]
    exact rt_i C () h (by rw [mwB, q8]; rfl) dc_H_withBegun_26
  · refine lv_iconst (v := (nI 1)) C.x C.b dc_H_withBegun_11 (by decide +kernel) ?_
    refine lv_goto (tgt := 16) C.x C.b dc_H_withBegun_12 (by decide) ?_
    refine lv_istore_n (lv' := [(3, .int (nI 1)), (0, .ref hm), (1, .int (nI a)), (2, .int (nI S))]) C.x C.b dc_H_withBegun_16 rfl hl (by decide) rfl (fun ls hl => ?_)
    refine lv_iload_n C.x C.b dc_H_withBegun_17 rfl (lv_at hl 2 rfl) ?_
    refine lv_sipush (v := (nI 1024)) C.x C.b dc_H_withBegun_18 (by decide +kernel) ?_
    refine lv_imul C.x C.b dc_H_withBegun_21 ?_
    refine tp_i (pk_mul a 1024) ?_
    refine lv_iload_n C.x C.b dc_H_withBegun_22 rfl (lv_at hl 3 rfl) ?_
    refine lv_iload_n C.x C.b dc_H_withBegun_23 rfl (lv_at hl 0 rfl) ?_
    refine lv_ior C.x C.b dc_H_withBegun_24 ?_
    refine tp_i (nI_or S 1) ?_
    refine lv_iadd C.x C.b dc_H_withBegun_25 ?_
    refine tp_i (nI_add (a * 1024) (S ||| 1)) ?_
    rw [hQ]
    exact rt_i C () h (by rw [mwB, q8]; rfl) dc_H_withBegun_26

abbrev rm_H_start : Room := { frames := 2, cells := 0, slots := 0, locals := 44 }
set_option maxRecDepth 100000 in
set_option maxHeartbeats 4000000 in
theorem c_H_start (l : Launch) (Γ : gG) (d : Nat → Nat) (hm : Nat) (so : Nat → Nat → Nat) (tl : Nat → Nat → Int64) (tb : Nat → Nat → Nat → Nat) (wr : va_W) (i j : Nat) (hi : i < 80) (hj : j < 80) (hei : tb i 0 1 < 2 ^ 31) : cT l Γ my_H_start bc_H_start 1 (some .int) rm_H_start [.ref hm] (xW Γ d hm (.inr (7, [.ref (d (20 + 3 * i)), .ref (d (20 + 3 * j))])) so tl tb wr) (S := Unit) (fun v _ => v = some (.int (nI (mwB (tb i) 0 0)))) (fun _ => xW Γ d hm (.inr (7, [.ref (d (20 + 3 * i)), .ref (d (20 + 3 * j))])) so tl tb wr) := by
  refine cT.start (by decide) (Nat.le_of_ble_eq_true rfl) (fun p e s m args below meth c ls Q hQ C hmn h hl => ?_)
  replace hl : lv_has ls 1 [(0, .ref hm)] := hl
  refine lv_aload_n C.x C.b dc_H_start_0 rfl (lv_at hl 0 rfl) ?_
  refine lv_iconst (v := (nI 0)) C.x C.b dc_H_start_1 (by decide +kernel) ?_
  refine lv_iconst (v := (nI 0)) C.x C.b dc_H_start_2 (by decide +kernel) ?_
  refine kv_V (As := [.int (nI 0), .int (nI 0)]) (rest := []) C h hl.1 (c_H_withBegun l Γ d hm so tl tb wr i j hi hj 0 0 (by decide) hei) mw_H_withBegun lk_H_18 (q0 := 4) rfl rfl rfl (by decide) (by decide) (Nat.le_of_ble_eq_true rfl) dc_H_start_3 (fun v u H locs hp h => ?_)
  obtain rfl := hp
  replace h : sT Γ s (xW Γ d hm (.inr (7, [.ref (d (20 + 3 * i)), .ref (d (20 + 3 * j))])) so tl tb wr) H locs := h
  refine W.eq (g2 := F0 m 6 ls [.int (nI (mwB (tb i) 0 0))]) rfl ?_
  rw [hQ]
  exact rt_i C () h (rfl) dc_H_start_6

abbrev rm_H_step : Room := { frames := 2, cells := 0, slots := 0, locals := 46 }
set_option maxRecDepth 100000 in
set_option maxHeartbeats 4000000 in
theorem c_H_step (l : Launch) (Γ : gG) (d : Nat → Nat) (hm : Nat) (so : Nat → Nat → Nat) (tl : Nat → Nat → Int64) (tb : Nat → Nat → Nat → Nat) (wr : va_W) (i j : Nat) (hi : i < 80) (hj : j < 80) (pl lt : Nat) (hp : pl / 1024 < 10) (hlt : lt < 3) (hei : tb i 0 1 < 2 ^ 31) (hx : tb i 1 (pl / 1024 * 3 + lt) < 10) (hrc : tb j 0 0 ≤ 10) (hnx : ∀ r, r < tb j 0 0 → tb j 1 (r * 3 + lt) < 10) : cT l Γ my_H_step bc_H_step 4 (some .int) rm_H_step [.ref hm, .int (nI pl), .int (nI lt)] (xW Γ d hm (.inr (7, [.ref (d (20 + 3 * i)), .ref (d (20 + 3 * j))])) so tl tb wr) (S := Unit) (fun v _ => v = some (.int (nI (mmH (tb i) (tb j) pl lt)))) (fun _ => xW Γ d hm (.inr (7, [.ref (d (20 + 3 * i)), .ref (d (20 + 3 * j))])) so tl tb wr) := by
  refine cT.start (by decide) (Nat.le_of_ble_eq_true rfl) (fun p e s m args below meth c ls Q hQ C hmn h hl => ?_)
  replace hl : lv_has ls 4 [(0, .ref hm), (1, .int (nI pl)), (2, .int (nI lt))] := hl
  refine lv_aload_n C.x C.b dc_H_step_0 rfl (lv_at hl 0 rfl) ?_
  refine rg_get C h 4 rfl rfl in_H 0 (by decide) fl_H_9 rfl dc_H_step_1 ?_
  refine lv_iload_n C.x C.b dc_H_step_4 rfl (lv_at hl 1 rfl) ?_
  refine lv_sipush (v := (nI 1024)) C.x C.b dc_H_step_5 (by decide +kernel) ?_
  refine lv_idiv C.x C.b dc_H_step_8 (by decide +kernel) ?_
  refine tp_i (pk_div (a := pl) (d := 1024) (by omega) (by decide) (by decide)) ?_
  refine lv_iload_n C.x C.b dc_H_step_9 rfl (lv_at hl 2 rfl) ?_
  refine kv_V (As := [.int (nI (pl / 1024)), .int (nI lt)]) (rest := []) C h hl.1 (c_T_after l Γ d hm (.inr (7, [.ref (d (20 + 3 * i)), .ref (d (20 + 3 * j))])) so tl tb wr i (pl / 1024) lt (hi) (by omega) (by omega)) mw_T_after lk_H_22 (q0 := (17 + i)) (lk_T (hi)) rfl rfl (by decide) (by decide) (Nat.le_of_ble_eq_true rfl) dc_H_step_10 (fun v u H locs hp h => ?_)
  obtain rfl := hp
  replace h : sT Γ s (xW Γ d hm (.inr (7, [.ref (d (20 + 3 * i)), .ref (d (20 + 3 * j))])) so tl tb wr) H locs := h
  refine W.eq (g2 := F0 m 13 ls [.int (nI (tb i 1 ((pl / 1024) * 3 + lt)))]) rfl ?_
  refine lv_istore_n (lv' := [(3, .int (nI (tb i 1 ((pl / 1024) * 3 + lt)))), (0, .ref hm), (1, .int (nI pl)), (2, .int (nI lt))]) C.x C.b dc_H_step_13 rfl hl (by decide) rfl (fun ls hl => ?_)
  refine lv_aload_n C.x C.b dc_H_step_14 rfl (lv_at hl 1 rfl) ?_
  refine lv_iload_n C.x C.b dc_H_step_15 rfl (lv_at hl 0 rfl) ?_
  refine lv_aload_n C.x C.b dc_H_step_16 rfl (lv_at hl 1 rfl) ?_
  refine rg_get C h 4 rfl rfl in_H 1 (by decide) fl_H_15 rfl dc_H_step_17 ?_
  refine lv_iload_n C.x C.b dc_H_step_20 rfl (lv_at hl 2 rfl) ?_
  refine lv_sipush (v := (nI 1024)) C.x C.b dc_H_step_21 (by decide +kernel) ?_
  refine lv_irem C.x C.b dc_H_step_24 (by decide +kernel) ?_
  refine tp_i (pk_rem (a := pl) (d := 1024) (by omega) (by decide) (by decide)) ?_
  refine lv_iload_n C.x C.b dc_H_step_25 rfl (lv_at hl 3 rfl) ?_
  refine kv_V (As := [.int (nI (pl % 1024)), .int (nI lt)]) (rest := [.int (nI (tb i 1 ((pl / 1024) * 3 + lt))), .ref hm]) C h hl.1 (c_T_afterAll l Γ d hm (.inr (7, [.ref (d (20 + 3 * i)), .ref (d (20 + 3 * j))])) so tl tb wr j (pl % 1024) lt (hj) (by omega) hlt hrc hnx) mw_T_afterAll lk_H_27 (q0 := (17 + j)) (lk_T (hj)) rfl rfl (by decide) (by decide) (Nat.le_of_ble_eq_true rfl) dc_H_step_26 (fun v u H locs hp h => ?_)
  obtain rfl := hp
  replace h : sT Γ s (xW Γ d hm (.inr (7, [.ref (d (20 + 3 * i)), .ref (d (20 + 3 * j))])) so tl tb wr) H locs := h
  refine W.eq (g2 := F0 m 29 ls [.int (nI (aAll (pl % 1024) (fun r => tb j 1 (r * 3 + lt)) (tb j 0 0) &&& tb j 0 2)), .int (nI (tb i 1 ((pl / 1024) * 3 + lt))), .ref hm]) rfl ?_
  refine kv_V (As := [.int (nI (tb i 1 ((pl / 1024) * 3 + lt))), .int (nI (aAll (pl % 1024) (fun r => tb j 1 (r * 3 + lt)) (tb j 0 0) &&& tb j 0 2))]) (rest := []) C h hl.1 (c_H_withBegun l Γ d hm so tl tb wr i j hi hj (tb i 1 ((pl / 1024) * 3 + lt)) (aAll (pl % 1024) (fun r => tb j 1 (r * 3 + lt)) (tb j 0 0) &&& tb j 0 2) hx hei) mw_H_withBegun lk_H_18 (q0 := 4) rfl rfl rfl (by decide) (by decide) (Nat.le_of_ble_eq_true rfl) dc_H_step_29 (fun v u H locs hp h => ?_)
  obtain rfl := hp
  replace h : sT Γ s (xW Γ d hm (.inr (7, [.ref (d (20 + 3 * i)), .ref (d (20 + 3 * j))])) so tl tb wr) H locs := h
  refine W.eq (g2 := F0 m 32 ls [.int (nI (mwB (tb i) (tb i 1 ((pl / 1024) * 3 + lt)) (aAll (pl % 1024) (fun r => tb j 1 (r * 3 + lt)) (tb j 0 0) &&& tb j 0 2)))]) rfl ?_
  rw [hQ]
  exact rt_i C () h (rfl) dc_H_step_32

abbrev rm_H_accepts : Room := { frames := 0, cells := 0, slots := 0, locals := 0 }
set_option maxRecDepth 100000 in
set_option maxHeartbeats 4000000 in
theorem c_H_accepts (l : Launch) (Γ : gG) (d : Nat → Nat) (hm : Nat) (so : Nat → Nat → Nat) (tl : Nat → Nat → Int64) (tb : Nat → Nat → Nat → Nat) (wr : va_W) (i j : Nat) (hi : i < 80) (hj : j < 80) (pl : Nat) (hp : pl < 2 ^ 31) : cT l Γ my_H_accepts bc_H_accepts 2 (some .boolean) rm_H_accepts [.ref hm, .int (nI pl)] (xW Γ d hm (.inr (7, [.ref (d (20 + 3 * i)), .ref (d (20 + 3 * j))])) so tl tb wr) (S := Unit) (fun v _ => v = some (.int (bI (maH (tb j) pl)))) (fun _ => xW Γ d hm (.inr (7, [.ref (d (20 + 3 * i)), .ref (d (20 + 3 * j))])) so tl tb wr) := by
  refine cT.start (by decide) (Nat.le_of_ble_eq_true rfl) (fun p e s m args below meth c ls Q hQ C hmn h hl => ?_)
  replace hl : lv_has ls 2 [(0, .ref hm), (1, .int (nI pl))] := hl
  refine lv_iload_n C.x C.b dc_H_accepts_0 rfl (lv_at hl 1 rfl) ?_
  refine lv_sipush (v := (nI 1024)) C.x C.b dc_H_accepts_1 (by decide +kernel) ?_
  refine lv_irem C.x C.b dc_H_accepts_4 (by decide +kernel) ?_
  refine tp_i (pk_rem (a := pl) (d := 1024) (by omega) (by decide) (by decide)) ?_
  refine lv_aload_n C.x C.b dc_H_accepts_5 rfl (lv_at hl 0 rfl) ?_
  refine rg_get C h 4 rfl rfl in_H 1 (by decide) fl_H_15 rfl dc_H_accepts_6 ?_
  refine rg_getN C h (17 + j) (lk_T (hj)) rfl in_T 1 (by decide) fl_H_30 rfl dc_H_accepts_9 ?_
  refine lv_iand C.x C.b dc_H_accepts_12 ?_
  refine tp_i (nI_and (pl % 1024) (tb j 0 1)) ?_
  refine bz_eq (tgt := 20) C (Nat.lt_of_le_of_lt Nat.and_le_left (by omega)) dc_H_accepts_13 (by decide) (fun q13 => ?_) (fun q13 => ?_)
  · refine lv_iconst (v := (nI 0)) C.x C.b dc_H_accepts_20 (by decide +kernel) ?_
    rw [hQ]
    exact rt_z C () h (rb_f (decide_eq_false (fun z => z q13))) (by decide +kernel) dc_H_accepts_21
  · refine lv_iconst (v := (nI 1)) C.x C.b dc_H_accepts_16 (by decide +kernel) ?_
    refine lv_goto (tgt := 21) C.x C.b dc_H_accepts_17 (by decide) ?_
    rw [hQ]
    exact rt_z C () h (rb_t (decide_eq_true q13)) (by decide +kernel) dc_H_accepts_21

abbrev rm_N_step : Room := { frames := 2, cells := 0, slots := 0, locals := 46 }
set_option maxRecDepth 100000 in
set_option maxHeartbeats 4000000 in
theorem c_N_step (l : Launch) (Γ : gG) (d : Nat → Nat) (hm : Nat) (so : Nat → Nat → Nat) (tl : Nat → Nat → Int64) (tb : Nat → Nat → Nat → Nat) (wr : va_W) (i : Nat) (hi : i < 80) (pl lt : Nat) (hp : pl < 2 ^ 31) (hlt : lt < 3) (hrc : tb i 0 0 ≤ 10) (hnx : ∀ r, r < tb i 0 0 → tb i 1 (r * 3 + lt) < 10) (hlv : tb i 0 2 < 2 ^ 31) : cT l Γ my_N_step bc_N_step 4 (some .int) rm_N_step [.ref hm, .int (nI pl), .int (nI lt)] (xW Γ d hm (.inr (8, [.ref (d (20 + 3 * i))])) so tl tb wr) (S := Unit) (fun v _ => v = some (.int (nI (mmN (tb i) pl lt)))) (fun _ => xW Γ d hm (.inr (8, [.ref (d (20 + 3 * i))])) so tl tb wr) := by
  refine cT.start (by decide) (Nat.le_of_ble_eq_true rfl) (fun p e s m args below meth c ls Q hQ C hmn h hl => ?_)
  replace hl : lv_has ls 4 [(0, .ref hm), (1, .int (nI pl)), (2, .int (nI lt))] := hl
  refine lv_aload_n C.x C.b dc_N_step_0 rfl (lv_at hl 0 rfl) ?_
  refine rg_get C h 4 rfl rfl in_N 0 (by decide) fl_N_9 rfl dc_N_step_1 ?_
  refine lv_iload_n C.x C.b dc_N_step_4 rfl (lv_at hl 1 rfl) ?_
  refine lv_sipush (v := (nI 1024)) C.x C.b dc_N_step_5 (by decide +kernel) ?_
  refine bc_ne (tgt := 15) C (by omega) (by omega) dc_N_step_8 (by decide) (fun q8 => ?_) (fun q8 => ?_)
  · refine lv_iload_n C.x C.b dc_N_step_15 rfl (lv_at hl 1 rfl) ?_
    refine lv_iload_n C.x C.b dc_N_step_16 rfl (lv_at hl 2 rfl) ?_
    refine kv_V (As := [.int (nI pl), .int (nI lt)]) (rest := []) C h hl.1 (c_T_afterAll l Γ d hm (.inr (8, [.ref (d (20 + 3 * i))])) so tl tb wr i pl lt (hi) (by omega) hlt hrc hnx) mw_T_afterAll lk_N_15 (q0 := (17 + i)) (lk_T (hi)) rfl rfl (by decide) (by decide) (Nat.le_of_ble_eq_true rfl) dc_N_step_17 (fun v u H locs hp h => ?_)
    obtain rfl := hp
    replace h : sT Γ s (xW Γ d hm (.inr (8, [.ref (d (20 + 3 * i))])) so tl tb wr) H locs := h
    refine W.eq (g2 := F0 m 20 ls [.int (nI (aAll pl (fun r => tb i 1 (r * 3 + lt)) (tb i 0 0) &&& tb i 0 2))]) rfl ?_
    refine lv_istore_n (lv' := [(3, .int (nI (aAll pl (fun r => tb i 1 (r * 3 + lt)) (tb i 0 0) &&& tb i 0 2))), (0, .ref hm), (1, .int (nI pl)), (2, .int (nI lt))]) C.x C.b dc_N_step_20 rfl hl (by decide) rfl (fun ls hl => ?_)
    refine lv_iload_n C.x C.b dc_N_step_21 rfl (lv_at hl 0 rfl) ?_
    refine lv_aload_n C.x C.b dc_N_step_22 rfl (lv_at hl 1 rfl) ?_
    refine rg_get C h 4 rfl rfl in_N 0 (by decide) fl_N_9 rfl dc_N_step_23 ?_
    refine rg_getN C h (17 + i) (lk_T (hi)) rfl in_T 1 (by decide) fl_N_21 rfl dc_N_step_26 ?_
    refine lv_iand C.x C.b dc_N_step_29 ?_
    refine tp_i (nI_and (aAll pl (fun r => tb i 1 (r * 3 + lt)) (tb i 0 0) &&& tb i 0 2) (tb i 0 1)) ?_
    refine bz_eq (tgt := 39) C (Nat.lt_of_le_of_lt Nat.and_le_left (Nat.lt_of_le_of_lt Nat.and_le_right hlv)) dc_N_step_30 (by decide) (fun q30 => ?_) (fun q30 => ?_)
    · refine lv_iload_n C.x C.b dc_N_step_39 rfl (lv_at hl 0 rfl) ?_
      rw [hQ]
      exact rt_i C () h (by rw [mmN, mnS, if_neg q8, if_pos q30]) dc_N_step_40
    · refine lv_iload_n C.x C.b dc_N_step_33 rfl (lv_at hl 0 rfl) ?_
      refine lv_iconst (v := (nI 1)) C.x C.b dc_N_step_34 (by decide +kernel) ?_
      refine lv_ior C.x C.b dc_N_step_35 ?_
      refine tp_i (nI_or (aAll pl (fun r => tb i 1 (r * 3 + lt)) (tb i 0 0) &&& tb i 0 2) 1) ?_
      refine lv_goto (tgt := 40) C.x C.b dc_N_step_36 (by decide) ?_
      rw [hQ]
      exact rt_i C () h (by rw [mmN, mnS, if_neg q8, if_neg q30]) dc_N_step_40
  · refine lv_iconst (v := (nI 1)) C.x C.b dc_N_step_11 (by decide +kernel) ?_
    refine lv_goto (tgt := 16) C.x C.b dc_N_step_12 (by decide) ?_
    refine lv_iload_n C.x C.b dc_N_step_16 rfl (lv_at hl 2 rfl) ?_
    refine kv_V (As := [.int (nI 1), .int (nI lt)]) (rest := []) C h hl.1 (c_T_afterAll l Γ d hm (.inr (8, [.ref (d (20 + 3 * i))])) so tl tb wr i 1 lt (hi) (by omega) hlt hrc hnx) mw_T_afterAll lk_N_15 (q0 := (17 + i)) (lk_T (hi)) rfl rfl (by decide) (by decide) (Nat.le_of_ble_eq_true rfl) dc_N_step_17 (fun v u H locs hp h => ?_)
    obtain rfl := hp
    replace h : sT Γ s (xW Γ d hm (.inr (8, [.ref (d (20 + 3 * i))])) so tl tb wr) H locs := h
    refine W.eq (g2 := F0 m 20 ls [.int (nI (aAll 1 (fun r => tb i 1 (r * 3 + lt)) (tb i 0 0) &&& tb i 0 2))]) rfl ?_
    refine lv_istore_n (lv' := [(3, .int (nI (aAll 1 (fun r => tb i 1 (r * 3 + lt)) (tb i 0 0) &&& tb i 0 2))), (0, .ref hm), (1, .int (nI pl)), (2, .int (nI lt))]) C.x C.b dc_N_step_20 rfl hl (by decide) rfl (fun ls hl => ?_)
    refine lv_iload_n C.x C.b dc_N_step_21 rfl (lv_at hl 0 rfl) ?_
    refine lv_aload_n C.x C.b dc_N_step_22 rfl (lv_at hl 1 rfl) ?_
    refine rg_get C h 4 rfl rfl in_N 0 (by decide) fl_N_9 rfl dc_N_step_23 ?_
    refine rg_getN C h (17 + i) (lk_T (hi)) rfl in_T 1 (by decide) fl_N_21 rfl dc_N_step_26 ?_
    refine lv_iand C.x C.b dc_N_step_29 ?_
    refine tp_i (nI_and (aAll 1 (fun r => tb i 1 (r * 3 + lt)) (tb i 0 0) &&& tb i 0 2) (tb i 0 1)) ?_
    refine bz_eq (tgt := 39) C (Nat.lt_of_le_of_lt Nat.and_le_left (Nat.lt_of_le_of_lt Nat.and_le_right hlv)) dc_N_step_30 (by decide) (fun q30 => ?_) (fun q30 => ?_)
    · refine lv_iload_n C.x C.b dc_N_step_39 rfl (lv_at hl 0 rfl) ?_
      rw [hQ]
      exact rt_i C () h (by rw [mmN, mnS, if_pos q8, if_pos q30]) dc_N_step_40
    · refine lv_iload_n C.x C.b dc_N_step_33 rfl (lv_at hl 0 rfl) ?_
      refine lv_iconst (v := (nI 1)) C.x C.b dc_N_step_34 (by decide +kernel) ?_
      refine lv_ior C.x C.b dc_N_step_35 ?_
      refine tp_i (nI_or (aAll 1 (fun r => tb i 1 (r * 3 + lt)) (tb i 0 0) &&& tb i 0 2) 1) ?_
      refine lv_goto (tgt := 40) C.x C.b dc_N_step_36 (by decide) ?_
      rw [hQ]
      exact rt_i C () h (by rw [mmN, mnS, if_pos q8, if_neg q30]) dc_N_step_40

abbrev rm_N_accepts : Room := { frames := 0, cells := 0, slots := 0, locals := 0 }
set_option maxRecDepth 100000 in
set_option maxHeartbeats 4000000 in
theorem c_N_accepts (l : Launch) (Γ : gG) (d : Nat → Nat) (hm : Nat) (so : Nat → Nat → Nat) (tl : Nat → Nat → Int64) (tb : Nat → Nat → Nat → Nat) (wr : va_W) (i : Nat) (hi : i < 80) (pl : Nat) (hp : pl < 2 ^ 31) : cT l Γ my_N_accepts bc_N_accepts 2 (some .boolean) rm_N_accepts [.ref hm, .int (nI pl)] (xW Γ d hm (.inr (8, [.ref (d (20 + 3 * i))])) so tl tb wr) (S := Unit) (fun v _ => v = some (.int (bI (maN (tb i) pl)))) (fun _ => xW Γ d hm (.inr (8, [.ref (d (20 + 3 * i))])) so tl tb wr) := by
  refine cT.start (by decide) (Nat.le_of_ble_eq_true rfl) (fun p e s m args below meth c ls Q hQ C hmn h hl => ?_)
  replace hl : lv_has ls 2 [(0, .ref hm), (1, .int (nI pl))] := hl
  refine lv_iload_n C.x C.b dc_N_accepts_0 rfl (lv_at hl 1 rfl) ?_
  refine lv_sipush (v := (nI 1024)) C.x C.b dc_N_accepts_1 (by decide +kernel) ?_
  refine bc_eq (tgt := 19) C (by omega) (by omega) dc_N_accepts_4 (by decide) (fun q4 => ?_) (fun q4 => ?_)
  · refine lv_iconst (v := (nI 1)) C.x C.b dc_N_accepts_19 (by decide +kernel) ?_
    refine lv_goto (tgt := 24) C.x C.b dc_N_accepts_20 (by decide) ?_
    rw [hQ]
    exact rt_z C () h (rb_t (decide_eq_true (Or.inl q4))) (by decide +kernel) dc_N_accepts_24
  · refine lv_iload_n C.x C.b dc_N_accepts_7 rfl (lv_at hl 1 rfl) ?_
    refine lv_aload_n C.x C.b dc_N_accepts_8 rfl (lv_at hl 0 rfl) ?_
    refine rg_get C h 4 rfl rfl in_N 0 (by decide) fl_N_9 rfl dc_N_accepts_9 ?_
    refine rg_getN C h (17 + i) (lk_T (hi)) rfl in_T 1 (by decide) fl_N_21 rfl dc_N_accepts_12 ?_
    refine lv_iand C.x C.b dc_N_accepts_15 ?_
    refine tp_i (nI_and pl (tb i 0 1)) ?_
    refine bz_eq (tgt := 23) C (Nat.lt_of_le_of_lt Nat.and_le_left (by omega)) dc_N_accepts_16 (by decide) (fun q16 => ?_) (fun q16 => ?_)
    · refine lv_iconst (v := (nI 0)) C.x C.b dc_N_accepts_23 (by decide +kernel) ?_
      rw [hQ]
      exact rt_z C () h (rb_f (decide_eq_false (fun z => z.elim q4 (fun y => y q16)))) (by decide +kernel) dc_N_accepts_24
    · refine lv_iconst (v := (nI 1)) C.x C.b dc_N_accepts_19 (by decide +kernel) ?_
      refine lv_goto (tgt := 24) C.x C.b dc_N_accepts_20 (by decide) ?_
      rw [hQ]
      exact rt_z C () h (rb_t (decide_eq_true (Or.inr q16))) (by decide +kernel) dc_N_accepts_24

abbrev rm_K_step : Room := { frames := 2, cells := 0, slots := 0, locals := 46 }
set_option maxRecDepth 100000 in
set_option maxHeartbeats 4000000 in
theorem c_K_step (l : Launch) (Γ : gG) (d : Nat → Nat) (hm : Nat) (so : Nat → Nat → Nat) (tl : Nat → Nat → Int64) (tb : Nat → Nat → Nat → Nat) (wr : va_W) (i : Nat) (hi : i < 80) (pl lt : Nat) (hp : pl < 2 ^ 31) (hlt : lt < 3) (hrc : tb i 0 0 ≤ 10) (hnx : ∀ r, r < tb i 0 0 → tb i 1 (r * 3 + lt) < 10) : cT l Γ my_K_step bc_K_step 3 (some .int) rm_K_step [.ref hm, .int (nI pl), .int (nI lt)] (xW Γ d hm (.inr (9, [.ref (d (20 + 3 * i))])) so tl tb wr) (S := Unit) (fun v _ => v = some (.int (nI (mmK (tb i) pl lt)))) (fun _ => xW Γ d hm (.inr (9, [.ref (d (20 + 3 * i))])) so tl tb wr) := by
  refine cT.start (by decide) (Nat.le_of_ble_eq_true rfl) (fun p e s m args below meth c ls Q hQ C hmn h hl => ?_)
  replace hl : lv_has ls 3 [(0, .ref hm), (1, .int (nI pl)), (2, .int (nI lt))] := hl
  refine lv_aload_n C.x C.b dc_K_step_0 rfl (lv_at hl 0 rfl) ?_
  refine rg_get C h 4 rfl rfl in_K 0 (by decide) fl_K_7 rfl dc_K_step_1 ?_
  refine lv_iload_n C.x C.b dc_K_step_4 rfl (lv_at hl 1 rfl) ?_
  refine lv_iload_n C.x C.b dc_K_step_5 rfl (lv_at hl 2 rfl) ?_
  refine kv_V (As := [.int (nI pl), .int (nI lt)]) (rest := []) C h hl.1 (c_T_beforeAll l Γ d hm (.inr (9, [.ref (d (20 + 3 * i))])) so tl tb wr i pl lt (hi) (by omega) hlt hrc hnx) mw_T_beforeAll lk_K_19 (q0 := (17 + i)) (lk_T (hi)) rfl rfl (by decide) (by decide) (Nat.le_of_ble_eq_true rfl) dc_K_step_6 (fun v u H locs hp h => ?_)
  obtain rfl := hp
  replace h : sT Γ s (xW Γ d hm (.inr (9, [.ref (d (20 + 3 * i))])) so tl tb wr) H locs := h
  refine W.eq (g2 := F0 m 9 ls [.int (nI (bAll pl (fun r => tb i 1 (r * 3 + lt)) (tb i 0 0)))]) rfl ?_
  rw [hQ]
  exact rt_i C () h (rfl) dc_K_step_9

abbrev rm_K_accepts : Room := { frames := 0, cells := 0, slots := 0, locals := 0 }
set_option maxRecDepth 100000 in
set_option maxHeartbeats 4000000 in
theorem c_K_accepts (l : Launch) (Γ : gG) (d : Nat → Nat) (hm : Nat) (so : Nat → Nat → Nat) (tl : Nat → Nat → Int64) (tb : Nat → Nat → Nat → Nat) (wr : va_W) (i : Nat) (hi : i < 80) (pl : Nat) (hp : pl < 2 ^ 31) : cT l Γ my_K_accepts bc_K_accepts 2 (some .boolean) rm_K_accepts [.ref hm, .int (nI pl)] (xW Γ d hm (.inr (9, [.ref (d (20 + 3 * i))])) so tl tb wr) (S := Unit) (fun v _ => v = some (.int (bI (maK pl)))) (fun _ => xW Γ d hm (.inr (9, [.ref (d (20 + 3 * i))])) so tl tb wr) := by
  refine cT.start (by decide) (Nat.le_of_ble_eq_true rfl) (fun p e s m args below meth c ls Q hQ C hmn h hl => ?_)
  replace hl : lv_has ls 2 [(0, .ref hm), (1, .int (nI pl))] := hl
  refine lv_iload_n C.x C.b dc_K_accepts_0 rfl (lv_at hl 1 rfl) ?_
  refine lv_iconst (v := (nI 1)) C.x C.b dc_K_accepts_1 (by decide +kernel) ?_
  refine lv_iand C.x C.b dc_K_accepts_2 ?_
  refine tp_i (nI_and1 pl) ?_
  refine bz_eq (tgt := 10) C (by omega) dc_K_accepts_3 (by decide) (fun q3 => ?_) (fun q3 => ?_)
  · refine lv_iconst (v := (nI 0)) C.x C.b dc_K_accepts_10 (by decide +kernel) ?_
    rw [hQ]
    exact rt_z C () h (rb_f (decide_eq_false (fun z => z q3))) (by decide +kernel) dc_K_accepts_11
  · refine lv_iconst (v := (nI 1)) C.x C.b dc_K_accepts_6 (by decide +kernel) ?_
    refine lv_goto (tgt := 11) C.x C.b dc_K_accepts_7 (by decide) ?_
    rw [hQ]
    exact rt_z C () h (rb_t (decide_eq_true q3)) (by decide +kernel) dc_K_accepts_11

