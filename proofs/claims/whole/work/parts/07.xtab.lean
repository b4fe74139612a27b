
theorem rb_t {b : Bool} (h : b = true) : some (Value.int (nI 1)) = some (.int (bI b)) := by subst h; decide +kernel
theorem rb_f {b : Bool} (h : b = false) : some (Value.int (nI 0)) = some (.int (bI b)) := by subst h; decide +kernel
/-- the rests that the rests S of n come to -/
def aAll (S : Nat) (nx : Nat → Nat) : Nat → Nat
  | 0 => 0
  | k + 1 => if S.testBit k then aAll S nx k ||| 2 ^ nx k else aAll S nx k
/-- the rests of n that come into S -/
def bAll (S : Nat) (nx : Nat → Nat) : Nat → Nat
  | 0 => 0
  | k + 1 => if S.testBit (nx k) then bAll S nx k ||| 2 ^ k else bAll S nx k
theorem aAll_s {S : Nat} {nx : Nat → Nat} {k : Nat} (h : S.testBit k = true) : aAll S nx (k + 1) = aAll S nx k ||| 2 ^ nx k := by rw [aAll, if_pos h]
theorem aAll_n {S : Nat} {nx : Nat → Nat} {k : Nat} (h : S.testBit k = false) : aAll S nx (k + 1) = aAll S nx k := by rw [aAll, if_neg (by rw [h]; decide)]
theorem bAll_s {S : Nat} {nx : Nat → Nat} {k : Nat} (h : S.testBit (nx k) = true) : bAll S nx (k + 1) = bAll S nx k ||| 2 ^ k := by rw [bAll, if_pos h]
theorem bAll_n {S : Nat} {nx : Nat → Nat} {k : Nat} (h : S.testBit (nx k) = false) : bAll S nx (k + 1) = bAll S nx k := by rw [bAll, if_neg (by rw [h]; decide)]

abbrev rm_T_after : Room := { frames := 0, cells := 0, slots := 0, locals := 0 }
set_option maxRecDepth 100000 in
set_option maxHeartbeats 4000000 in
theorem c_T_after (l : Launch) (Γ : gG) (d : Nat → Nat) (hm : Nat) (mc : va_E) (so : Nat → Nat → Nat) (tl : Nat → Nat → Int64) (tb : Nat → Nat → Nat → Nat) (wr : va_W) (i r lt : Nat) (hi : i < 80) (hr : r < 10) (hlt : lt < 3) : cT l Γ my_T_after bc_T_after 3 (some .int) rm_T_after [.ref (d (20 + 3 * i)), .int (nI r), .int (nI lt)] (xW Γ d hm mc so tl tb wr) (S := Unit) (fun v _ => v = some (.int (nI (tb i 1 (r * 3 + lt))))) (fun _ => xW Γ d hm mc so tl tb wr) := by
  refine cT.start (by decide) (Nat.le_of_ble_eq_true rfl) (fun p e s m args below meth c ls Q hQ C hmn h hl => ?_)
  replace hl : lv_has ls 3 [(0, .ref (d (20 + 3 * i))), (1, .int (nI r)), (2, .int (nI lt))] := hl
  refine lv_aload_n C.x C.b dc_T_after_0 rfl (lv_at hl 0 rfl) ?_
  refine rg_get C h (17 + i) (lk_T (hi)) rfl in_T 3 (by decide) fl_T_9 rfl dc_T_after_1 ?_
  refine lv_iload_n C.x C.b dc_T_after_4 rfl (lv_at hl 1 rfl) ?_
  refine lv_iconst (v := (nI 3)) C.x C.b dc_T_after_5 (by decide +kernel) ?_
  refine lv_imul C.x C.b dc_T_after_6 ?_
  refine tp_i (pk_mul r 3) ?_
  refine lv_iload_n C.x C.b dc_T_after_7 rfl (lv_at hl 2 rfl) ?_
  refine lv_iadd C.x C.b dc_T_after_8 ?_
  refine tp_i (nI_add (r * 3) lt) ?_
  refine rg_ild C h (97 + i) (lk_N (hi)) (by omega) (by decide) dc_T_after_9 ?_
  rw [hQ]
  exact rt_i C () h (rfl) dc_T_after_10

abbrev rm_T_endsAt : Room := { frames := 0, cells := 0, slots := 0, locals := 0 }
set_option maxRecDepth 100000 in
set_option maxHeartbeats 4000000 in
theorem c_T_endsAt (l : Launch) (Γ : gG) (d : Nat → Nat) (hm : Nat) (mc : va_E) (so : Nat → Nat → Nat) (tl : Nat → Nat → Int64) (tb : Nat → Nat → Nat → Nat) (wr : va_W) (i r : Nat) (hi : i < 80) (hr : r < 31) (he : tb i 0 1 < 2 ^ 31) : cT l Γ my_T_endsAt bc_T_endsAt 2 (some .boolean) rm_T_endsAt [.ref (d (20 + 3 * i)), .int (nI r)] (xW Γ d hm mc so tl tb wr) (S := Unit) (fun v _ => v = some (.int (bI ((tb i 0 1).testBit r)))) (fun _ => xW Γ d hm mc so tl tb wr) := by
  refine cT.start (by decide) (Nat.le_of_ble_eq_true rfl) (fun p e s m args below meth c ls Q hQ C hmn h hl => ?_)
  replace hl : lv_has ls 2 [(0, .ref (d (20 + 3 * i))), (1, .int (nI r))] := hl
  refine lv_aload_n C.x C.b dc_T_endsAt_0 rfl (lv_at hl 0 rfl) ?_
  refine rg_get C h (17 + i) (lk_T (hi)) rfl in_T 1 (by decide) fl_T_18 rfl dc_T_endsAt_1 ?_
  refine lv_iload_n C.x C.b dc_T_endsAt_4 rfl (lv_at hl 1 rfl) ?_
  refine lv_ishr C.x C.b dc_T_endsAt_5 ?_
  refine tp_i (nI_shr (a := (tb i 0 1)) (n := r) (by omega) (by omega)) ?_
  refine lv_iconst (v := (nI 1)) C.x C.b dc_T_endsAt_6 (by decide +kernel) ?_
  refine lv_iand C.x C.b dc_T_endsAt_7 ?_
  refine tp_i (nI_and1 ((tb i 0 1) / 2 ^ r)) ?_
  refine bz_eq (tgt := 15) C (by omega) dc_T_endsAt_8 (by decide) (fun q8 => ?_) (fun q8 => ?_)
  · refine lv_iconst (v := (nI 0)) C.x C.b dc_T_endsAt_15 (by decide +kernel) ?_
    rw [hQ]
    exact rt_z C () h (rb_f ((tb_iff0 _ _).mp q8)) (by decide +kernel) dc_T_endsAt_16
  · refine lv_iconst (v := (nI 1)) C.x C.b dc_T_endsAt_11 (by decide +kernel) ?_
    refine lv_goto (tgt := 16) C.x C.b dc_T_endsAt_12 (by decide) ?_
    rw [hQ]
    exact rt_z C () h (rb_t ((tb_iff _ _).mp q8)) (by decide +kernel) dc_T_endsAt_16

abbrev rm_T_afterAll : Room := { frames := 1, cells := 0, slots := 0, locals := 22 }
set_option maxRecDepth 100000 in
set_option maxHeartbeats 4000000 in
theorem c_T_afterAll (l : Launch) (Γ : gG) (d : Nat → Nat) (hm : Nat) (mc : va_E) (so : Nat → Nat → Nat) (tl : Nat → Nat → Int64) (tb : Nat → Nat → Nat → Nat) (wr : va_W) (i S lt : Nat) (hi : i < 80) (hS : S < 2 ^ 31) (hlt : lt < 3) (hrc : tb i 0 0 ≤ 10) (hnx : ∀ r, r < tb i 0 0 → tb i 1 (r * 3 + lt) < 10) : cT l Γ my_T_afterAll bc_T_afterAll 5 (some .int) rm_T_afterAll [.ref (d (20 + 3 * i)), .int (nI S), .int (nI lt)] (xW Γ d hm mc so tl tb wr) (S := Unit) (fun v _ => v = some (.int (nI (aAll S (fun r => tb i 1 (r * 3 + lt)) (tb i 0 0) &&& tb i 0 2)))) (fun _ => xW Γ d hm mc so tl tb wr) := by
  refine cT.start (by decide) (Nat.le_of_ble_eq_true rfl) (fun p e s m args below meth c ls Q hQ C hmn h hl => ?_)
  replace hl : lv_has ls 5 [(0, .ref (d (20 + 3 * i))), (1, .int (nI S)), (2, .int (nI lt))] := hl
  refine lv_iconst (v := (nI 0)) C.x C.b dc_T_afterAll_0 (by decide +kernel) ?_
  refine lv_istore_n (lv' := [(3, .int (nI 0)), (0, .ref (d (20 + 3 * i))), (1, .int (nI S)), (2, .int (nI lt))]) C.x C.b dc_T_afterAll_1 rfl hl (by decide) rfl (fun ls hl => ?_)
  refine lv_iconst (v := (nI 0)) C.x C.b dc_T_afterAll_2 (by decide +kernel) ?_
  refine lv_istore (lv' := [(4, .int (nI 0)), (3, .int (nI 0)), (0, .ref (d (20 + 3 * i))), (1, .int (nI S)), (2, .int (nI lt))]) C.x C.b dc_T_afterAll_3 hl (by decide) rfl (fun ls hl => ?_)
  have lp_5 : ∀ (n_5 : Nat) (k : Nat) (H : Heap) (locs : List Loc) (ls : Array Slot), tb i 0 0 - k < n_5 → (k ≤ tb i 0 0) → sT Γ s (xW Γ d hm mc so tl tb wr) H locs → lv_has ls 5 [(4, .int (nI k)), (3, .int (nI (aAll S (fun r => tb i 1 (r * 3 + lt)) k))), (0, .ref (d (20 + 3 * i))), (1, .int (nI S)), (2, .int (nI lt))] → W p l e rm_T_afterAll s m args below meth c H locs 0 0 Q (F0 m 5 ls []) := by
    intro n_5
    induction n_5 with
    | zero => intro k H locs ls hms; exact absurd hms (Nat.not_lt_zero _)
    | succ n_5 ih_5 =>
      intro k H locs ls hms hk h hl
      refine lv_iload C.x C.b dc_T_afterAll_5 (lv_at hl 0 rfl) ?_
      refine lv_aload_n C.x C.b dc_T_afterAll_7 rfl (lv_at hl 2 rfl) ?_
      refine rg_get C h (17 + i) (lk_T (hi)) rfl in_T 0 (by decide) fl_T_22 rfl dc_T_afterAll_8 ?_
      refine bc_ge (tgt := 41) C (by omega) (by omega) dc_T_afterAll_11 (by decide) (fun q11 => ?_) (fun q11 => ?_)
      · refine lv_iload_n C.x C.b dc_T_afterAll_41 rfl (lv_at hl 1 rfl) ?_
        refine lv_aload_n C.x C.b dc_T_afterAll_42 rfl (lv_at hl 2 rfl) ?_
        refine rg_get C h (17 + i) (lk_T (hi)) rfl in_T 2 (by decide) fl_T_29 rfl dc_T_afterAll_43 ?_
        refine lv_iand C.x C.b dc_T_afterAll_46 ?_
        refine tp_i (nI_and (aAll S (fun r => tb i 1 (r * 3 + lt)) k) (tb i 0 2)) ?_
        rw [hQ]
        exact rt_i C () h (by rw [show k = tb i 0 0 by omega]) dc_T_afterAll_47
      · refine lv_iload_n C.x C.b dc_T_afterAll_14 rfl (lv_at hl 3 rfl) ?_
        refine lv_iload C.x C.b dc_T_afterAll_15 (lv_at hl 0 rfl) ?_
        refine lv_ishr C.x C.b dc_T_afterAll_17 ?_
        refine tp_i (nI_shr (a := S) (n := k) (by omega) (by omega)) ?_
        refine lv_iconst (v := (nI 1)) C.x C.b dc_T_afterAll_18 (by decide +kernel) ?_
        refine lv_iand C.x C.b dc_T_afterAll_19 ?_
        refine tp_i (nI_and1 (S / 2 ^ k)) ?_
        refine bz_eq (tgt := 35) C (by omega) dc_T_afterAll_20 (by decide) (fun q20 => ?_) (fun q20 => ?_)
        · refine lv_iinc (v := nI (k + 1)) (lv' := [(4, .int (nI (k + 1))), (3, .int (nI (aAll S (fun r => tb i 1 (r * 3 + lt)) k))), (0, .ref (d (20 + 3 * i))), (1, .int (nI S)), (2, .int (nI lt))]) C.x C.b dc_T_afterAll_35 hl (k := 0) rfl (nI_1 k) (by decide) rfl (fun ls hl => ?_)
          refine lv_goto (tgt := 5) C.x C.b dc_T_afterAll_38 (by decide) ?_
          rw [show aAll S (fun r => tb i 1 (r * 3 + lt)) k = aAll S (fun r => tb i 1 (r * 3 + lt)) (k + 1) from (aAll_n ((tb_iff0 _ _).mp q20)).symm] at hl
          exact ih_5 (k + 1) _ _ _ (by omega) (by first | assumption | omega) h (lv_sub hl [0, 1, 2, 3, 4] rfl)
        · refine lv_iload_n C.x C.b dc_T_afterAll_23 rfl (lv_at hl 1 rfl) ?_
          refine lv_iconst (v := (nI 1)) C.x C.b dc_T_afterAll_24 (by decide +kernel) ?_
          refine lv_aload_n C.x C.b dc_T_afterAll_25 rfl (lv_at hl 2 rfl) ?_
          refine lv_iload C.x C.b dc_T_afterAll_26 (lv_at hl 0 rfl) ?_
          refine lv_iload_n C.x C.b dc_T_afterAll_28 rfl (lv_at hl 4 rfl) ?_
          refine kv_V (As := [.int (nI k), .int (nI lt)]) (rest := [.int (nI 1), .int (nI (aAll S (fun r => tb i 1 (r * 3 + lt)) k))]) C h hl.1 (c_T_after l Γ d hm mc so tl tb wr i k lt (hi) (by omega) (by omega)) mw_T_after lk_T_25 (q0 := (17 + i)) (lk_T (hi)) rfl rfl (by decide) (by decide) (Nat.le_of_ble_eq_true rfl) dc_T_afterAll_29 (fun v u H locs hp h => ?_)
          obtain rfl := hp
          replace h : sT Γ s (xW Γ d hm mc so tl tb wr) H locs := h
          refine W.eq (g2 := F0 m 32 ls [.int (nI (tb i 1 (k * 3 + lt))), .int (nI 1), .int (nI (aAll S (fun r => tb i 1 (r * 3 + lt)) k))]) rfl ?_
          refine lv_ishl C.x C.b dc_T_afterAll_32 ?_
          refine tp_i (nI_shl1 (n := (tb i 1 (k * 3 + lt))) (Nat.lt_of_lt_of_le (hnx _ (by omega)) (by decide))) ?_
          refine lv_ior C.x C.b dc_T_afterAll_33 ?_
          refine tp_i (nI_or (aAll S (fun r => tb i 1 (r * 3 + lt)) k) (2 ^ (tb i 1 (k * 3 + lt)))) ?_
          refine lv_istore_n (lv' := [(3, .int (nI ((aAll S (fun r => tb i 1 (r * 3 + lt)) k) ||| (2 ^ (tb i 1 (k * 3 + lt)))))), (4, .int (nI k)), (0, .ref (d (20 + 3 * i))), (1, .int (nI S)), (2, .int (nI lt))]) C.x C.b dc_T_afterAll_34 rfl hl (by decide) rfl (fun ls hl => ?_)
          refine lv_iinc (v := nI (k + 1)) (lv' := [(4, .int (nI (k + 1))), (3, .int (nI ((aAll S (fun r => tb i 1 (r * 3 + lt)) k) ||| (2 ^ (tb i 1 (k * 3 + lt)))))), (0, .ref (d (20 + 3 * i))), (1, .int (nI S)), (2, .int (nI lt))]) C.x C.b dc_T_afterAll_35 hl (k := 1) rfl (nI_1 k) (by decide) rfl (fun ls hl => ?_)
          refine lv_goto (tgt := 5) C.x C.b dc_T_afterAll_38 (by decide) ?_
          rw [show aAll S (fun r => tb i 1 (r * 3 + lt)) k ||| 2 ^ tb i 1 (k * 3 + lt) = aAll S (fun r => tb i 1 (r * 3 + lt)) (k + 1) from (aAll_s (nx := (fun r => tb i 1 (r * 3 + lt))) ((tb_iff _ _).mp q20)).symm] at hl
          exact ih_5 (k + 1) _ _ _ (by omega) (by first | assumption | omega) h (lv_sub hl [0, 1, 2, 3, 4] rfl)
  exact lp_5 _ 0 _ _ _ (Nat.lt_succ_self _) (by first | assumption | omega) h (lv_sub hl [0, 1, 2, 3, 4] rfl)

abbrev rm_T_beforeAll : Room := { frames := 1, cells := 0, slots := 0, locals := 22 }
set_option maxRecDepth 100000 in
set_option maxHeartbeats 4000000 in
theorem c_T_beforeAll (l : Launch) (Γ : gG) (d : Nat → Nat) (hm : Nat) (mc : va_E) (so : Nat → Nat → Nat) (tl : Nat → Nat → Int64) (tb : Nat → Nat → Nat → Nat) (wr : va_W) (i S lt : Nat) (hi : i < 80) (hS : S < 2 ^ 31) (hlt : lt < 3) (hrc : tb i 0 0 ≤ 10) (hnx : ∀ r, r < tb i 0 0 → tb i 1 (r * 3 + lt) < 10) : cT l Γ my_T_beforeAll bc_T_beforeAll 5 (some .int) rm_T_beforeAll [.ref (d (20 + 3 * i)), .int (nI S), .int (nI lt)] (xW Γ d hm mc so tl tb wr) (S := Unit) (fun v _ => v = some (.int (nI (bAll S (fun r => tb i 1 (r * 3 + lt)) (tb i 0 0))))) (fun _ => xW Γ d hm mc so tl tb wr) := by
  refine cT.start (by decide) (Nat.le_of_ble_eq_true rfl) (fun p e s m args below meth c ls Q hQ C hmn h hl => ?_)
  replace hl : lv_has ls 5 [(0, .ref (d (20 + 3 * i))), (1, .int (nI S)), (2, .int (nI lt))] := hl
  refine lv_iconst (v := (nI 0)) C.x C.b dc_T_beforeAll_0 (by decide +kernel) ?_
  refine lv_istore_n (lv' := [(3, .int (nI 0)), (0, .ref (d (20 + 3 * i))), (1, .int (nI S)), (2, .int (nI lt))]) C.x C.b dc_T_beforeAll_1 rfl hl (by decide) rfl (fun ls hl => ?_)
  refine lv_iconst (v := (nI 0)) C.x C.b dc_T_beforeAll_2 (by decide +kernel) ?_
  refine lv_istore (lv' := [(4, .int (nI 0)), (3, .int (nI 0)), (0, .ref (d (20 + 3 * i))), (1, .int (nI S)), (2, .int (nI lt))]) C.x C.b dc_T_beforeAll_3 hl (by decide) rfl (fun ls hl => ?_)
  have lp_5 : ∀ (n_5 : Nat) (k : Nat) (H : Heap) (locs : List Loc) (ls : Array Slot), tb i 0 0 - k < n_5 → (k ≤ tb i 0 0) → sT Γ s (xW Γ d hm mc so tl tb wr) H locs → lv_has ls 5 [(4, .int (nI k)), (3, .int (nI (bAll S (fun r => tb i 1 (r * 3 + lt)) k))), (0, .ref (d (20 + 3 * i))), (1, .int (nI S)), (2, .int (nI lt))] → W p l e rm_T_beforeAll s m args below meth c H locs 0 0 Q (F0 m 5 ls []) := by
    intro n_5
    induction n_5 with
    | zero => intro k H locs ls hms; exact absurd hms (Nat.not_lt_zero _)
    | succ n_5 ih_5 =>
      intro k H locs ls hms hk h hl
      refine lv_iload C.x C.b dc_T_beforeAll_5 (lv_at hl 0 rfl) ?_
      refine lv_aload_n C.x C.b dc_T_beforeAll_7 rfl (lv_at hl 2 rfl) ?_
      refine rg_get C h (17 + i) (lk_T (hi)) rfl in_T 0 (by decide) fl_T_22 rfl dc_T_beforeAll_8 ?_
      refine bc_ge (tgt := 41) C (by omega) (by omega) dc_T_beforeAll_11 (by decide) (fun q11 => ?_) (fun q11 => ?_)
      · refine lv_iload_n C.x C.b dc_T_beforeAll_41 rfl (lv_at hl 1 rfl) ?_
        rw [hQ]
        exact rt_i C () h (by rw [show k = tb i 0 0 by omega]) dc_T_beforeAll_42
      · refine lv_iload_n C.x C.b dc_T_beforeAll_14 rfl (lv_at hl 3 rfl) ?_
        refine lv_aload_n C.x C.b dc_T_beforeAll_15 rfl (lv_at hl 2 rfl) ?_
        refine lv_iload C.x C.b dc_T_beforeAll_16 (lv_at hl 0 rfl) ?_
        refine lv_iload_n C.x C.b dc_T_beforeAll_18 rfl (lv_at hl 4 rfl) ?_
        refine kv_V (As := [.int (nI k), .int (nI lt)]) (rest := [.int (nI S)]) C h hl.1 (c_T_after l Γ d hm mc so tl tb wr i k lt (hi) (by omega) (by omega)) mw_T_after lk_T_25 (q0 := (17 + i)) (lk_T (hi)) rfl rfl (by decide) (by decide) (Nat.le_of_ble_eq_true rfl) dc_T_beforeAll_19 (fun v u H locs hp h => ?_)
        obtain rfl := hp
        replace h : sT Γ s (xW Γ d hm mc so tl tb wr) H locs := h
        refine W.eq (g2 := F0 m 22 ls [.int (nI (tb i 1 (k * 3 + lt))), .int (nI S)]) rfl ?_
        refine lv_ishr C.x C.b dc_T_beforeAll_22 ?_
        refine tp_i (nI_shr (a := S) (n := (tb i 1 (k * 3 + lt))) (by omega) (Nat.lt_of_lt_of_le (hnx _ (by omega)) (by decide))) ?_
        refine lv_iconst (v := (nI 1)) C.x C.b dc_T_beforeAll_23 (by decide +kernel) ?_
        refine lv_iand C.x C.b dc_T_beforeAll_24 ?_
        refine tp_i (nI_and1 (S / 2 ^ (tb i 1 (k * 3 + lt)))) ?_
        refine bz_eq (tgt := 35) C (by omega) dc_T_beforeAll_25 (by decide) (fun q25 => ?_) (fun q25 => ?_)
        · refine lv_iinc (v := nI (k + 1)) (lv' := [(4, .int (nI (k + 1))), (3, .int (nI (bAll S (fun r => tb i 1 (r * 3 + lt)) k))), (0, .ref (d (20 + 3 * i))), (1, .int (nI S)), (2, .int (nI lt))]) C.x C.b dc_T_beforeAll_35 hl (k := 0) rfl (nI_1 k) (by decide) rfl (fun ls hl => ?_)
          refine lv_goto (tgt := 5) C.x C.b dc_T_beforeAll_38 (by decide) ?_
          rw [show bAll S (fun r => tb i 1 (r * 3 + lt)) k = bAll S (fun r => tb i 1 (r * 3 + lt)) (k + 1) from (bAll_n (nx := (fun r => tb i 1 (r * 3 + lt))) ((tb_iff0 _ _).mp q25)).symm] at hl
          exact ih_5 (k + 1) _ _ _ (by omega) (by first | assumption | omega) h (lv_sub hl [0, 1, 2, 3, 4] rfl)
        · refine lv_iload_n C.x C.b dc_T_beforeAll_28 rfl (lv_at hl 1 rfl) ?_
          refine lv_iconst (v := (nI 1)) C.x C.b dc_T_beforeAll_29 (by decide +kernel) ?_
          refine lv_iload C.x C.b dc_T_beforeAll_30 (lv_at hl 0 rfl) ?_
          refine lv_ishl C.x C.b dc_T_beforeAll_32 ?_
          refine tp_i (nI_shl1 (n := k) (by omega)) ?_
          refine lv_ior C.x C.b dc_T_beforeAll_33 ?_
          refine tp_i (nI_or (bAll S (fun r => tb i 1 (r * 3 + lt)) k) (2 ^ k)) ?_
          refine lv_istore_n (lv' := [(3, .int (nI ((bAll S (fun r => tb i 1 (r * 3 + lt)) k) ||| (2 ^ k)))), (4, .int (nI k)), (0, .ref (d (20 + 3 * i))), (1, .int (nI S)), (2, .int (nI lt))]) C.x C.b dc_T_beforeAll_34 rfl hl (by decide) rfl (fun ls hl => ?_)
          refine lv_iinc (v := nI (k + 1)) (lv' := [(4, .int (nI (k + 1))), (3, .int (nI ((bAll S (fun r => tb i 1 (r * 3 + lt)) k) ||| (2 ^ k)))), (0, .ref (d (20 + 3 * i))), (1, .int (nI S)), (2, .int (nI lt))]) C.x C.b dc_T_beforeAll_35 hl (k := 1) rfl (nI_1 k) (by decide) rfl (fun ls hl => ?_)
          refine lv_goto (tgt := 5) C.x C.b dc_T_beforeAll_38 (by decide) ?_
          rw [show bAll S (fun r => tb i 1 (r * 3 + lt)) k ||| 2 ^ k = bAll S (fun r => tb i 1 (r * 3 + lt)) (k + 1) from (bAll_s (nx := (fun r => tb i 1 (r * 3 + lt))) ((tb_iff _ _).mp q25)).symm] at hl
          exact ih_5 (k + 1) _ _ _ (by omega) (by first | assumption | omega) h (lv_sub hl [0, 1, 2, 3, 4] rfl)
  exact lp_5 _ 0 _ _ _ (Nat.lt_succ_self _) (by first | assumption | omega) h (lv_sub hl [0, 1, 2, 3, 4] rfl)


/-- is there a word of k letters from rest r? -/
def dlv (e : Nat) (nx : Nat → Nat) : Nat → Nat → Bool
  | 0, r => e.testBit r
  | k + 1, r => dlv e nx k (nx (r * 3)) || (dlv e nx k (nx (r * 3 + 1)) || dlv e nx k (nx (r * 3 + 2)))
theorem dlv_s {e : Nat} {nx : Nat → Nat} {k r : Nat} : dlv e nx (k + 1) r = true ↔ ∃ l, l < 3 ∧ dlv e nx k (nx (r * 3 + l)) = true := by
  simp only [dlv, Bool.or_eq_true]
  constructor
  · rintro (h | h | h)
    · exact ⟨0, by decide, h⟩
    · exact ⟨1, by decide, h⟩
    · exact ⟨2, by decide, h⟩
  · rintro ⟨l, hl, h⟩
    have : l = 0 ∨ l = 1 ∨ l = 2 := by omega
    rcases this with rfl | rfl | rfl
    · exact Or.inl h
    · exact Or.inr (Or.inl h)
    · exact Or.inr (Or.inr h)
/-- the code c (0: none, k + 1: k) is the length of r's shortest word, as far as words of fewer than b letters go -/
def fOK (e : Nat) (nx : Nat → Nat) (b r c : Nat) : Prop := (c = 0 → ∀ k, k < b → dlv e nx k r = false) ∧ ∀ k, c = k + 1 → dlv e nx k r = true ∧ ∀ j, j < k → dlv e nx j r = false
def mK (tb tb' : Nat → Nat → Nat → Nat) (i : Nat) : Prop := (∀ a, a ≠ i → tb' a = tb a) ∧ tb' i 0 0 = tb i 0 0 ∧ tb' i 0 1 = tb i 0 1 ∧ tb' i 1 = tb i 1
theorem mK.rf {tb : Nat → Nat → Nat → Nat} {i : Nat} : mK tb tb i := ⟨fun _ _ => rfl, rfl, rfl, rfl⟩
theorem mK.far {tb tb' : Nat → Nat → Nat → Nat} {i : Nat} (h : mK tb tb' i) (f : Nat → Nat) : mK tb (us tb' i (us (tb' i) 2 f)) i := by
  obtain ⟨h1, h2, h3, h4⟩ := h
  refine ⟨fun a ha => by rw [us_n _ _ ha]; exact h1 a ha, ?_, ?_, ?_⟩
  · rw [us_s, us_n _ _ (by decide)]; exact h2
  · rw [us_s, us_n _ _ (by decide)]; exact h3
  · rw [us_s, us_n _ _ (by decide)]; exact h4
theorem mK.live {tb tb' : Nat → Nat → Nat → Nat} {i : Nat} (h : mK tb tb' i) (v : Nat) : mK tb (us tb' i (us (tb' i) 0 (us (tb' i 0) 2 v))) i := by
  obtain ⟨h1, h2, h3, h4⟩ := h
  refine ⟨fun a ha => by rw [us_n _ _ ha]; exact h1 a ha, ?_, ?_, ?_⟩
  · rw [us_s, us_s, us_n _ _ (by decide)]; exact h2
  · rw [us_s, us_s, us_n _ _ (by decide)]; exact h3
  · rw [us_s, us_n _ _ (by decide)]; exact h4
def mL1 (tb tb' : Nat → Nat → Nat → Nat) (i k : Nat) : Prop := mK tb tb' i ∧ tb' i 0 2 = tb i 0 1 ∧ ∀ r, r < k → tb' i 2 r = if (tb i 0 1).testBit r then 1 else 0
theorem mL1.st {tb tb' : Nat → Nat → Nat → Nat} {i k v : Nat} (h : mL1 tb tb' i k) (hv : v = if (tb i 0 1).testBit k then 1 else 0) : mL1 tb (us tb' i (us (tb' i) 2 (us (tb' i 2) k v))) i (k + 1) := by
  refine ⟨h.1.far _, ?_, fun r hr => ?_⟩
  · rw [us_s, us_n _ _ (by decide)]; exact h.2.1
  · rw [us_s, us_s]
    by_cases hk : r = k
    · subst hk; rw [us_s]; exact hv
    · rw [us_n _ _ hk]; exact h.2.2 r (by omega)
def mL2 (tb tb' : Nat → Nat → Nat → Nat) (i L r0 : Nat) : Prop := mK tb tb' i ∧ tb' i 0 2 < 1024 ∧ ∀ r, r < tb i 0 0 → fOK (tb i 0 1) (tb i 1) (if r < r0 then L + 1 else L) r (tb' i 2 r) ∧ tb' i 2 r ≤ L + 1 ∧ (tb' i 0 2).testBit r = decide (tb' i 2 r ≠ 0)
theorem mL2.of {tb tb' : Nat → Nat → Nat → Nat} {i : Nat} (h : mL1 tb tb' i (tb i 0 0)) (he : tb i 0 1 < 1024) : mL2 tb tb' i 1 0 := by
  refine ⟨h.1, by rw [h.2.1]; exact he, fun r hr => ?_⟩
  rw [h.2.2 r hr, h.2.1]
  cases hb : (tb i 0 1).testBit r
  · refine ⟨⟨fun _ k hk => ?_, fun k hk => ?_⟩, by simp, by simp⟩
    · simp at hk; subst hk; exact hb
    · simp at hk
  · refine ⟨⟨fun hk => ?_, fun k hk => ?_⟩, by simp, by simp⟩
    · simp at hk
    · simp at hk; subst hk; exact ⟨hb, fun j hj => absurd hj (Nat.not_lt_zero _)⟩
theorem mL2.up {tb tb' : Nat → Nat → Nat → Nat} {i L r0 : Nat} (h : mL2 tb tb' i L r0) (hr : tb i 0 0 ≤ r0) : mL2 tb tb' i (L + 1) 0 := by
  refine ⟨h.1, h.2.1, fun r q => ?_⟩
  obtain ⟨a, b, c⟩ := h.2.2 r q
  rw [if_pos (by omega)] at a
  rw [if_neg (Nat.not_lt_zero _)]
  exact ⟨a, by omega, c⟩
/-- nothing new at r0: it has a code, or no letter leads to a rest with a word of L - 1 letters -/
theorem mL2.no {tb tb' : Nat → Nat → Nat → Nat} {i L r0 : Nat} (hL : 1 ≤ L) (hr0 : r0 < tb i 0 0) (hnx : ∀ r l, r < tb i 0 0 → l < 3 → tb i 1 (r * 3 + l) < tb i 0 0) (h : mL2 tb tb' i L r0) (hn : tb' i 2 r0 ≠ 0 ∨ ∀ l, l < 3 → tb' i 2 (tb i 1 (r0 * 3 + l)) ≠ L) : mL2 tb tb' i L (r0 + 1) := by
  refine ⟨h.1, h.2.1, fun r q => ?_⟩
  obtain ⟨a, b, c⟩ := h.2.2 r q
  refine ⟨?_, b, c⟩
  by_cases hr : r = r0
  · subst hr
    rw [if_neg (Nat.lt_irrefl _)] at a
    rw [if_pos (Nat.lt_succ_self _)]
    refine ⟨fun h0 k hk => ?_, a.2⟩
    by_cases hk2 : k < L
    · exact a.1 h0 k hk2
    · have e : k = L := by omega
      subst e
      cases hd : dlv (tb i 0 1) (tb i 1) k r with
      | false => rfl
      | true =>
        exfalso
        obtain ⟨j, rfl⟩ : ∃ j, k = j + 1 := ⟨k - 1, by omega⟩
        obtain ⟨l, hl, hd2⟩ := dlv_s.mp hd
        have hn2 := hn.resolve_left (fun z => z h0) l hl
        have hx := hnx r l q hl
        obtain ⟨a2, -, -⟩ := h.2.2 _ hx
        have hb : j < (if tb i 1 (r * 3 + l) < r then j + 1 + 1 else j + 1) := by split <;> omega
        cases hc : tb' i 2 (tb i 1 (r * 3 + l)) with
        | zero => rw [a2.1 hc j hb] at hd2; cases hd2
        | succ z =>
          obtain ⟨z1, z2⟩ := a2.2 z hc
          have hz : z ≠ j := fun e => hn2 (by rw [hc, e])
          by_cases hz2 : z < j
          · have := a.1 h0 (z + 1) (by omega)
            rw [dlv_s.mpr ⟨l, hl, z1⟩] at this
            cases this
          · have := z2 j (by omega)
            rw [this] at hd2
            cases hd2
  · by_cases hr2 : r < r0
    · rw [if_pos hr2] at a; rw [if_pos (by omega)]; exact a
    · rw [if_neg hr2] at a; rw [if_neg (by omega)]; exact a
theorem mL2.yes {tb tb' : Nat → Nat → Nat → Nat} {i L r0 l : Nat} (hL : 1 ≤ L) (hr0 : r0 < tb i 0 0) (h10 : tb i 0 0 ≤ 10) (hnx : ∀ r l, r < tb i 0 0 → l < 3 → tb i 1 (r * 3 + l) < tb i 0 0) (h : mL2 tb tb' i L r0) (h0 : tb' i 2 r0 = 0) (hl : l < 3) (hc : tb' i 2 (tb i 1 (r0 * 3 + l)) = L) {t1 t2 : Nat → Nat → Nat → Nat} (e1 : t1 = us tb' i (us (tb' i) 2 (us (tb' i 2) r0 (L + 1)))) (e2 : t2 = us t1 i (us (t1 i) 0 (us (t1 i 0) 2 (t1 i 0 2 ||| 2 ^ r0)))) : mL2 tb t2 i L (r0 + 1) := by
  have k1 : mK tb t1 i := by rw [e1]; exact h.1.far _
  have l1 : t1 i 0 2 = tb' i 0 2 := by rw [e1, us_s, us_n _ _ (by decide)]
  have f1 : t2 i 2 = us (tb' i 2) r0 (L + 1) := by rw [e2, us_s, us_n _ _ (by decide), e1, us_s, us_s]
  have l2 : t2 i 0 2 = tb' i 0 2 ||| 2 ^ r0 := by rw [e2, us_s, us_s, us_s, l1]
  refine ⟨by rw [e2]; exact k1.live _, ?_, fun r q => ?_⟩
  · rw [l2]
    exact Nat.or_lt_two_pow (n := 10) h.2.1 (Nat.pow_lt_pow_right (by decide) (by omega))
  obtain ⟨a, b, c⟩ := h.2.2 r q
  rw [f1, l2, Nat.testBit_or, Nat.testBit_two_pow, c]
  by_cases hr : r = r0
  · subst hr
    rw [us_s]
    refine ⟨⟨fun z => by omega, fun k hk => ?_⟩, by omega, by simp⟩
    have e : k = L := by omega
    subst e
    rw [if_neg (Nat.lt_irrefl _)] at a
    obtain ⟨j, rfl⟩ : ∃ j, k = j + 1 := ⟨k - 1, by omega⟩
    exact ⟨dlv_s.mpr ⟨l, hl, ((h.2.2 _ (hnx r l q hl)).1.2 j hc).1⟩, a.1 h0⟩
  · rw [us_n _ _ hr]
    refine ⟨?_, b, by simp [Ne.symm hr]⟩
    by_cases hr2 : r < r0
    · rw [if_pos hr2] at a; rw [if_pos (by omega)]; exact a
    · rw [if_neg hr2] at a; rw [if_neg (by omega)]; exact a

abbrev rm_T_matches : Room := { frames := 0, cells := 0, slots := 0, locals := 0 }
set_option maxRecDepth 100000 in
set_option maxHeartbeats 4000000 in
theorem c_T_matches (l : Launch) (Γ : gG) (d : Nat → Nat) (hm : Nat) (mc : va_E) (so : Nat → Nat → Nat) (tl : Nat → Nat → Int64) (tb : Nat → Nat → Nat → Nat) (wr : va_W) (i j : Nat) (hi : i < 80) (hj : j < 80) (hrc : tb i 0 0 ≤ 10) (hrj : tb j 0 0 ≤ 10) (hei : tb i 0 1 < 2 ^ 31) (hej : tb j 0 1 < 2 ^ 31) (hni : ∀ k, k < tb i 0 0 * 3 → tb i 1 k < 10) (hnj : ∀ k, k < tb j 0 0 * 3 → tb j 1 k < 10) : cT l Γ my_T_matches bc_T_matches 3 (some .boolean) rm_T_matches [.ref (d (20 + 3 * i)), .ref (d (20 + 3 * j))] (xW Γ d hm mc so tl tb wr) (S := Bool) (fun v b => v = some (.int (bI b)) ∧ (b = true ↔ (tb i 0 0 = tb j 0 0 ∧ tb i 0 1 = tb j 0 1 ∧ ∀ k, k < tb i 0 0 * 3 → tb i 1 k = tb j 1 k))) (fun _ => xW Γ d hm mc so tl tb wr) := by
  refine cT.start (by decide) (Nat.le_of_ble_eq_true rfl) (fun p e s m args below meth c ls Q hQ C hmn h hl => ?_)
  replace hl : lv_has ls 3 [(0, .ref (d (20 + 3 * i))), (1, .ref (d (20 + 3 * j)))] := hl
  refine lv_aload_n C.x C.b dc_T_matches_0 rfl (lv_at hl 0 rfl) ?_
  refine rg_get C h (17 + i) (lk_T (hi)) rfl in_T 0 (by decide) fl_T_22 rfl dc_T_matches_1 ?_
  refine lv_aload_n C.x C.b dc_T_matches_4 rfl (lv_at hl 1 rfl) ?_
  refine rg_get C h (17 + j) (lk_T (hj)) rfl in_T 0 (by decide) fl_T_22 rfl dc_T_matches_5 ?_
  refine bc_ne (tgt := 22) C (by omega) (by omega) dc_T_matches_8 (by decide) (fun q8 => ?_) (fun q8 => ?_)
  · refine lv_iconst (v := (nI 0)) C.x C.b dc_T_matches_22 (by decide +kernel) ?_
    rw [hQ]
    exact rt_z C false h (⟨by decide +kernel, fun z => (by cases z), fun z => absurd z.1 q8⟩) (by decide +kernel) dc_T_matches_23
  · refine lv_aload_n C.x C.b dc_T_matches_11 rfl (lv_at hl 0 rfl) ?_
    refine rg_get C h (17 + i) (lk_T (hi)) rfl in_T 1 (by decide) fl_T_18 rfl dc_T_matches_12 ?_
    refine lv_aload_n C.x C.b dc_T_matches_15 rfl (lv_at hl 1 rfl) ?_
    refine rg_get C h (17 + j) (lk_T (hj)) rfl in_T 1 (by decide) fl_T_18 rfl dc_T_matches_16 ?_
    refine bc_eq (tgt := 24) C (by omega) (by omega) dc_T_matches_19 (by decide) (fun q19 => ?_) (fun q19 => ?_)
    · refine lv_iconst (v := (nI 0)) C.x C.b dc_T_matches_24 (by decide +kernel) ?_
      refine lv_istore_n (lv' := [(2, .int (nI 0)), (0, .ref (d (20 + 3 * i))), (1, .ref (d (20 + 3 * j)))]) C.x C.b dc_T_matches_25 rfl hl (by decide) rfl (fun ls hl => ?_)
      have hA : ∀ z, z < 0 → tb i 1 z = tb j 1 z := fun _ q => absurd q (Nat.not_lt_zero _)
      have lp_26 : ∀ (n_26 : Nat) (k : Nat) (H : Heap) (locs : List Loc) (ls : Array Slot), tb i 0 0 * 3 - k < n_26 → (k ≤ tb i 0 0 * 3) → (∀ z, z < k → tb i 1 z = tb j 1 z) → sT Γ s (xW Γ d hm mc so tl tb wr) H locs → lv_has ls 3 [(2, .int (nI k)), (0, .ref (d (20 + 3 * i))), (1, .ref (d (20 + 3 * j)))] → W p l e rm_T_matches s m args below meth c H locs 0 0 Q (F0 m 26 ls []) := by
        intro n_26
        induction n_26 with
        | zero => intro k H locs ls hms; exact absurd hms (Nat.not_lt_zero _)
        | succ n_26 ih_26 =>
          intro k H locs ls hms hk hA h hl
          refine lv_iload_n C.x C.b dc_T_matches_26 rfl (lv_at hl 0 rfl) ?_
          refine lv_aload_n C.x C.b dc_T_matches_27 rfl (lv_at hl 1 rfl) ?_
          refine rg_get C h (17 + i) (lk_T (hi)) rfl in_T 0 (by decide) fl_T_22 rfl dc_T_matches_28 ?_
          refine lv_iconst (v := (nI 3)) C.x C.b dc_T_matches_31 (by decide +kernel) ?_
          refine lv_imul C.x C.b dc_T_matches_32 ?_
          refine tp_i (pk_mul (tb i 0 0) 3) ?_
          refine bc_ge (tgt := 59) C (by omega) (by omega) dc_T_matches_33 (by decide) (fun q33 => ?_) (fun q33 => ?_)
          · refine lv_iconst (v := (nI 1)) C.x C.b dc_T_matches_59 (by decide +kernel) ?_
            rw [hQ]
            exact rt_z C true h (⟨by decide +kernel, fun _ => ⟨q8, q19, fun z hz => hA z (by omega)⟩, fun _ => rfl⟩) (by decide +kernel) dc_T_matches_60
          · refine lv_aload_n C.x C.b dc_T_matches_36 rfl (lv_at hl 1 rfl) ?_
            refine rg_get C h (17 + i) (lk_T (hi)) rfl in_T 3 (by decide) fl_T_9 rfl dc_T_matches_37 ?_
            refine lv_iload_n C.x C.b dc_T_matches_40 rfl (lv_at hl 0 rfl) ?_
            refine rg_ild C h (97 + i) (lk_N (hi)) (by omega) (by decide) dc_T_matches_41 ?_
            refine lv_aload_n C.x C.b dc_T_matches_42 rfl (lv_at hl 2 rfl) ?_
            refine rg_get C h (17 + j) (lk_T (hj)) rfl in_T 3 (by decide) fl_T_9 rfl dc_T_matches_43 ?_
            refine lv_iload_n C.x C.b dc_T_matches_46 rfl (lv_at hl 0 rfl) ?_
            refine rg_ild C h (97 + j) (lk_N (hj)) (by omega) (by decide) dc_T_matches_47 ?_
            refine bc_eq (tgt := 53) C (Nat.lt_of_lt_of_le (hni k (by omega)) (by decide)) (Nat.lt_of_lt_of_le (hnj k (by rw [← q8]; omega)) (by decide)) dc_T_matches_48 (by decide) (fun q48 => ?_) (fun q48 => ?_)
            · refine lv_iinc (v := nI (k + 1)) (lv' := [(2, .int (nI (k + 1))), (0, .ref (d (20 + 3 * i))), (1, .ref (d (20 + 3 * j)))]) C.x C.b dc_T_matches_53 hl (k := 0) rfl (nI_1 k) (by decide) rfl (fun ls hl => ?_)
              refine lv_goto (tgt := 26) C.x C.b dc_T_matches_56 (by decide) ?_
              have hA : ∀ z, z < k + 1 → tb i 1 z = tb j 1 z := fun z q => by
                by_cases e : z = k
                · rw [e]; exact q48
                · exact hA z (by omega)
              exact ih_26 (k + 1) _ _ _ (by omega) (by first | assumption | omega) (by first | assumption | omega) h (lv_sub hl [0, 1, 2] rfl)
            · refine lv_iconst (v := (nI 0)) C.x C.b dc_T_matches_51 (by decide +kernel) ?_
              rw [hQ]
              exact rt_z C false h (⟨by decide +kernel, fun z => (by cases z), fun z => absurd (z.2.2 k (by omega)) q48⟩) (by decide +kernel) dc_T_matches_52
      exact lp_26 _ 0 _ _ _ (Nat.lt_succ_self _) (by first | assumption | omega) (by first | assumption | omega) h (lv_sub hl [0, 1, 2] rfl)
    · refine lv_iconst (v := (nI 0)) C.x C.b dc_T_matches_22 (by decide +kernel) ?_
      rw [hQ]
      exact rt_z C false h (⟨by decide +kernel, fun z => (by cases z), fun z => absurd z.2.1 q19⟩) (by decide +kernel) dc_T_matches_23

abbrev rm_T_letterToward : Room := { frames := 1, cells := 0, slots := 0, locals := 22 }
set_option maxRecDepth 100000 in
set_option maxHeartbeats 4000000 in
theorem c_T_letterToward (l : Launch) (Γ : gG) (d : Nat → Nat) (hm : Nat) (mc : va_E) (so : Nat → Nat → Nat) (tl : Nat → Nat → Int64) (tb : Nat → Nat → Nat → Nat) (wr : va_W) (i r dd : Nat) (hi : i < 80) (hr : r < 10) (hdd : dd + 1 < 2 ^ 31) (hnx : ∀ l, l < 3 → tb i 1 (r * 3 + l) < 10) (hfr : ∀ l, l < 3 → tb i 2 (tb i 1 (r * 3 + l)) < 2 ^ 31) : cT l Γ my_T_letterToward bc_T_letterToward 4 (some .int) rm_T_letterToward [.ref (d (20 + 3 * i)), .int (nI r), .int (nI dd)] (xW Γ d hm mc so tl tb wr) (S := Nat) (fun v q => v = some (.int (nI q)) ∧ q ≤ 3 ∧ (∀ l, l < q → tb i 2 (tb i 1 (r * 3 + l)) ≠ dd + 1) ∧ (q < 3 → tb i 2 (tb i 1 (r * 3 + q)) = dd + 1)) (fun _ => xW Γ d hm mc so tl tb wr) := by
  refine cT.start (by decide) (Nat.le_of_ble_eq_true rfl) (fun p e s m args below meth c ls Q hQ C hmn h hl => ?_)
  replace hl : lv_has ls 4 [(0, .ref (d (20 + 3 * i))), (1, .int (nI r)), (2, .int (nI dd))] := hl
  refine lv_iconst (v := (nI 0)) C.x C.b dc_T_letterToward_0 (by decide +kernel) ?_
  refine lv_istore_n (lv' := [(3, .int (nI 0)), (0, .ref (d (20 + 3 * i))), (1, .int (nI r)), (2, .int (nI dd))]) C.x C.b dc_T_letterToward_1 rfl hl (by decide) rfl (fun ls hl => ?_)
  have hA : ∀ l, l < 0 → tb i 2 (tb i 1 (r * 3 + l)) ≠ dd + 1 := fun _ q => absurd q (Nat.not_lt_zero _)
  have lp_2 : ∀ (n_2 : Nat) (k : Nat) (H : Heap) (locs : List Loc) (ls : Array Slot), 3 - k < n_2 → (k ≤ 3) → (∀ l, l < k → tb i 2 (tb i 1 (r * 3 + l)) ≠ dd + 1) → sT Γ s (xW Γ d hm mc so tl tb wr) H locs → lv_has ls 4 [(3, .int (nI k)), (0, .ref (d (20 + 3 * i))), (1, .int (nI r)), (2, .int (nI dd))] → W p l e rm_T_letterToward s m args below meth c H locs 0 0 Q (F0 m 2 ls []) := by
    intro n_2
    induction n_2 with
    | zero => intro k H locs ls hms; exact absurd hms (Nat.not_lt_zero _)
    | succ n_2 ih_2 =>
      intro k H locs ls hms hk hA h hl
      refine lv_iload_n C.x C.b dc_T_letterToward_2 rfl (lv_at hl 0 rfl) ?_
      refine lv_iconst (v := (nI 3)) C.x C.b dc_T_letterToward_3 (by decide +kernel) ?_
      refine bc_ge (tgt := 30) C (by omega) (by omega) dc_T_letterToward_4 (by decide) (fun q4 => ?_) (fun q4 => ?_)
      · refine lv_iconst (v := (nI 3)) C.x C.b dc_T_letterToward_30 (by decide +kernel) ?_
        rw [hQ]
        exact rt_i C 3 h (⟨rfl, by omega, fun l hl => hA l (by omega), fun z => absurd z (by decide)⟩) dc_T_letterToward_31
      · refine lv_aload_n C.x C.b dc_T_letterToward_7 rfl (lv_at hl 1 rfl) ?_
        refine rg_get C h (17 + i) (lk_T (hi)) rfl in_T 4 (by decide) fl_T_15 rfl dc_T_letterToward_8 ?_
        refine lv_aload_n C.x C.b dc_T_letterToward_11 rfl (lv_at hl 1 rfl) ?_
        refine lv_iload_n C.x C.b dc_T_letterToward_12 rfl (lv_at hl 2 rfl) ?_
        refine lv_iload_n C.x C.b dc_T_letterToward_13 rfl (lv_at hl 0 rfl) ?_
        refine kv_V (As := [.int (nI r), .int (nI k)]) (rest := [.ref (d (22 + 3 * i))]) C h hl.1 (c_T_after l Γ d hm mc so tl tb wr i r k (hi) (by omega) (by omega)) mw_T_after lk_T_25 (q0 := (17 + i)) (lk_T (hi)) rfl rfl (by decide) (by decide) (Nat.le_of_ble_eq_true rfl) dc_T_letterToward_14 (fun v u H locs hp h => ?_)
        obtain rfl := hp
        replace h : sT Γ s (xW Γ d hm mc so tl tb wr) H locs := h
        refine W.eq (g2 := F0 m 17 ls [.int (nI (tb i 1 (r * 3 + k))), .ref (d (22 + 3 * i))]) rfl ?_
        refine rg_mld C h (177 + i) (lk_F (hi)) (hnx k (by omega)) (by decide) dc_T_letterToward_17 ?_
        refine lv_iload_n C.x C.b dc_T_letterToward_18 rfl (lv_at hl 3 rfl) ?_
        refine tp_i (mI_s dd) ?_
        refine bn_ne (tgt := 24) C (hfr k (by omega)) (by omega) dc_T_letterToward_19 (by decide) (fun q19 => ?_) (fun q19 => ?_)
        · refine lv_iinc (v := nI (k + 1)) (lv' := [(3, .int (nI (k + 1))), (0, .ref (d (20 + 3 * i))), (1, .int (nI r)), (2, .int (nI dd))]) C.x C.b dc_T_letterToward_24 hl (k := 0) rfl (nI_1 k) (by decide) rfl (fun ls hl => ?_)
          refine lv_goto (tgt := 2) C.x C.b dc_T_letterToward_27 (by decide) ?_
          have hA : ∀ l, l < k + 1 → tb i 2 (tb i 1 (r * 3 + l)) ≠ dd + 1 := fun l q => by
            by_cases e : l = k
            · rw [e]; exact q19
            · exact hA l (by omega)
          exact ih_2 (k + 1) _ _ _ (by omega) (by first | assumption | omega) (by first | assumption | omega) h (lv_sub hl [0, 1, 2, 3] rfl)
        · refine lv_iload_n C.x C.b dc_T_letterToward_22 rfl (lv_at hl 0 rfl) ?_
          rw [hQ]
          exact rt_i C k h (⟨rfl, by omega, hA, fun _ => q19⟩) dc_T_letterToward_23
  exact lp_2 _ 0 _ _ _ (Nat.lt_succ_self _) (by first | assumption | omega) (by first | assumption | omega) h (lv_sub hl [0, 1, 2, 3] rfl)

abbrev rm_T_measure : Room := { frames := 2, cells := 0, slots := 0, locals := 45 }
set_option maxRecDepth 100000 in
set_option maxHeartbeats 4000000 in
theorem c_T_measure (l : Launch) (Γ : gG) (d : Nat → Nat) (hm : Nat) (mc : va_E) (so : Nat → Nat → Nat) (tl : Nat → Nat → Int64) (tb : Nat → Nat → Nat → Nat) (wr : va_W) (i : Nat) (hi : i < 80) (h1 : 1 ≤ tb i 0 0) (h10 : tb i 0 0 ≤ 10) (he : tb i 0 1 < 1024) (hnx : ∀ r l, r < tb i 0 0 → l < 3 → tb i 1 (r * 3 + l) < tb i 0 0) : cT l Γ my_T_measure bc_T_measure 3 none rm_T_measure [.ref (d (20 + 3 * i))] (xW Γ d hm mc so tl tb wr) (S := Nat → Nat → Nat → Nat) (fun v t => v = none ∧ mL2 tb t i (tb i 0 0) 0) (fun t => xW Γ d hm mc so tl t wr) := by
  refine cT.start (by decide) (Nat.le_of_ble_eq_true rfl) (fun p e s m args below meth c ls Q hQ C hmn h hl => ?_)
  replace hl : lv_has ls 3 [(0, .ref (d (20 + 3 * i)))] := hl
  refine lv_aload_n C.x C.b dc_T_measure_0 rfl (lv_at hl 0 rfl) ?_
  refine lv_aload_n C.x C.b dc_T_measure_1 rfl (lv_at hl 0 rfl) ?_
  refine rg_get C h (17 + i) (lk_T (hi)) rfl in_T 1 (by decide) fl_T_18 rfl dc_T_measure_2 ?_
  refine rg_put (ty := .int) C h (17 + i) (lk_T (hi)) rfl in_T tk_T nm_T 2 (by decide) fl_T_29 rfl (by decide +kernel) rfl rfl (by simp) dc_T_measure_5 (fun H locs h => ?_)
  replace h := h.eq (st_T (hi) 2 (tb i 0 1) _ rfl)
  obtain ⟨tb_1, etb_1⟩ : ∃ zz9, zz9 = us tb i (us (tb i) 0 (us (tb i 0) 2 (tb i 0 1))) := ⟨_, rfl⟩
  replace h : sT Γ s (xW Γ d hm mc so tl tb_1 wr) H locs := by rw [etb_1]; exact h
  refine lv_iconst (v := (nI 0)) C.x C.b dc_T_measure_8 (by decide +kernel) ?_
  refine lv_istore_n (lv' := [(1, .int (nI 0)), (0, .ref (d (20 + 3 * i)))]) C.x C.b dc_T_measure_9 rfl hl (by decide) rfl (fun ls hl => ?_)
  have hM : mL1 tb tb_1 i 0 := by rw [etb_1]; exact ⟨mK.rf.live _, by rw [us_s, us_s, us_s], fun _ q => absurd q (Nat.not_lt_zero _)⟩
  have lp_10 : ∀ (n_10 : Nat) (k : Nat) (t : Nat → Nat → Nat → Nat) (H : Heap) (locs : List Loc) (ls : Array Slot), tb i 0 0 - k < n_10 → (k ≤ tb i 0 0) → (mL1 tb t i k) → sT Γ s (xW Γ d hm mc so tl t wr) H locs → lv_has ls 3 [(1, .int (nI k)), (0, .ref (d (20 + 3 * i)))] → W p l e rm_T_measure s m args below meth c H locs 0 0 Q (F0 m 10 ls []) := by
    intro n_10
    induction n_10 with
    | zero => intro k t H locs ls hms; exact absurd hms (Nat.not_lt_zero _)
    | succ n_10 ih_10 =>
      intro k t H locs ls hms hk hM h hl
      obtain ⟨hMa, hMb, hMc, hMd⟩ := id hM.1
      refine lv_iload_n C.x C.b dc_T_measure_10 rfl (lv_at hl 0 rfl) ?_
      refine lv_aload_n C.x C.b dc_T_measure_11 rfl (lv_at hl 1 rfl) ?_
      refine rg_get C h (17 + i) (lk_T (hi)) rfl in_T 0 (by decide) fl_T_22 rfl dc_T_measure_12 ?_
      refine bc_ge (tgt := 43) C (by omega) (by omega) dc_T_measure_15 (by decide) (fun q15 => ?_) (fun q15 => ?_)
      · refine lv_iconst (v := (nI 1)) C.x C.b dc_T_measure_43 (by decide +kernel) ?_
        refine lv_istore_n (lv' := [(1, .int (nI 1)), (0, .ref (d (20 + 3 * i)))]) C.x C.b dc_T_measure_44 rfl hl (by decide) rfl (fun ls hl => ?_)
        have hM := mL2.of (by rw [← show k = tb i 0 0 by omega]; exact hM) he
        have lp_45 : ∀ (n_45 : Nat) (L : Nat) (t : Nat → Nat → Nat → Nat) (H : Heap) (locs : List Loc) (ls : Array Slot), tb i 0 0 - L < n_45 → (1 ≤ L) → (L ≤ tb i 0 0) → (mL2 tb t i L 0) → sT Γ s (xW Γ d hm mc so tl t wr) H locs → lv_has ls 3 [(1, .int (nI L)), (0, .ref (d (20 + 3 * i)))] → W p l e rm_T_measure s m args below meth c H locs 0 0 Q (F0 m 45 ls []) := by
          intro n_45
          induction n_45 with
          | zero => intro L t H locs ls hms; exact absurd hms (Nat.not_lt_zero _)
          | succ n_45 ih_45 =>
            intro L t H locs ls hms hL hL2 hM h hl
            obtain ⟨hMa, hMb, hMc, hMd⟩ := id hM.1
            refine lv_iload_n C.x C.b dc_T_measure_45 rfl (lv_at hl 0 rfl) ?_
            refine lv_aload_n C.x C.b dc_T_measure_46 rfl (lv_at hl 1 rfl) ?_
            refine rg_get C h (17 + i) (lk_T (hi)) rfl in_T 0 (by decide) fl_T_22 rfl dc_T_measure_47 ?_
            refine bc_ge (tgt := 116) C (by omega) (by omega) dc_T_measure_50 (by decide) (fun q50 => ?_) (fun q50 => ?_)
            · rw [hQ]
              exact rt_v C _ h (⟨rfl, by rw [show L = tb i 0 0 by omega] at hM; exact hM⟩) dc_T_measure_116
            · refine lv_iconst (v := (nI 0)) C.x C.b dc_T_measure_53 (by decide +kernel) ?_
              refine lv_istore_n (lv' := [(2, .int (nI 0)), (1, .int (nI L)), (0, .ref (d (20 + 3 * i)))]) C.x C.b dc_T_measure_54 rfl hl (by decide) rfl (fun ls hl => ?_)
              have lp_55 : ∀ (n_55 : Nat) (r : Nat) (t : Nat → Nat → Nat → Nat) (H : Heap) (locs : List Loc) (ls : Array Slot), tb i 0 0 - r < n_55 → (r ≤ tb i 0 0) → (mL2 tb t i L r) → sT Γ s (xW Γ d hm mc so tl t wr) H locs → lv_has ls 3 [(2, .int (nI r)), (1, .int (nI L)), (0, .ref (d (20 + 3 * i)))] → W p l e rm_T_measure s m args below meth c H locs 0 0 Q (F0 m 55 ls []) := by
                intro n_55
                induction n_55 with
                | zero => intro r t H locs ls hms; exact absurd hms (Nat.not_lt_zero _)
                | succ n_55 ih_55 =>
                  intro r t H locs ls hms hr hM h hl
                  obtain ⟨hMa, hMb, hMc, hMd⟩ := id hM.1
                  refine lv_iload_n C.x C.b dc_T_measure_55 rfl (lv_at hl 0 rfl) ?_
                  refine lv_aload_n C.x C.b dc_T_measure_56 rfl (lv_at hl 2 rfl) ?_
                  refine rg_get C h (17 + i) (lk_T (hi)) rfl in_T 0 (by decide) fl_T_22 rfl dc_T_measure_57 ?_
                  refine bc_ge (tgt := 110) C (by omega) (by omega) dc_T_measure_60 (by decide) (fun q60 => ?_) (fun q60 => ?_)
                  · refine lv_iinc (v := nI (L + 1)) (lv' := [(1, .int (nI (L + 1))), (2, .int (nI r)), (0, .ref (d (20 + 3 * i)))]) C.x C.b dc_T_measure_110 hl (k := 1) rfl (nI_1 L) (by decide) rfl (fun ls hl => ?_)
                    refine lv_goto (tgt := 45) C.x C.b dc_T_measure_113 (by decide) ?_
                    have hM := hM.up (by omega)
                    exact ih_45 (L + 1) t _ _ _ (by omega) (by first | assumption | omega) (by first | assumption | omega) (by first | assumption | omega) h (lv_sub hl [0, 2] rfl)
                  · refine lv_aload_n C.x C.b dc_T_measure_63 rfl (lv_at hl 2 rfl) ?_
                    refine rg_get C h (17 + i) (lk_T (hi)) rfl in_T 4 (by decide) fl_T_15 rfl dc_T_measure_64 ?_
                    refine lv_iload_n C.x C.b dc_T_measure_67 rfl (lv_at hl 0 rfl) ?_
                    refine rg_mld C h (177 + i) (lk_F (hi)) (by omega) (by decide) dc_T_measure_68 ?_
                    refine lv_iconst (v := (mI 0)) C.x C.b dc_T_measure_69 (by decide +kernel) ?_
                    refine bn_ne (tgt := 104) C (by have := (hM.2.2 r (by omega)).2.1; omega) (by decide) dc_T_measure_70 (by decide) (fun q70 => ?_) (fun q70 => ?_)
                    · refine lv_iinc (v := nI (r + 1)) (lv' := [(2, .int (nI (r + 1))), (1, .int (nI L)), (0, .ref (d (20 + 3 * i)))]) C.x C.b dc_T_measure_104 hl (k := 0) rfl (nI_1 r) (by decide) rfl (fun ls hl => ?_)
                      refine lv_goto (tgt := 55) C.x C.b dc_T_measure_107 (by decide) ?_
                      have hM := hM.no hL (by omega) hnx (Or.inl q70)
                      exact ih_55 (r + 1) t _ _ _ (by omega) (by first | assumption | omega) (by first | assumption | omega) h (lv_sub hl [0, 1, 2] rfl)
                    · refine lv_aload_n C.x C.b dc_T_measure_73 rfl (lv_at hl 2 rfl) ?_
                      refine lv_iload_n C.x C.b dc_T_measure_74 rfl (lv_at hl 0 rfl) ?_
                      refine lv_iload_n C.x C.b dc_T_measure_75 rfl (lv_at hl 1 rfl) ?_
                      refine lv_iconst (v := (nI 1)) C.x C.b dc_T_measure_76 (by decide +kernel) ?_
                      refine lv_isub C.x C.b dc_T_measure_77 ?_
                      refine tp_i (pk_sub (a := L) (b := 1) (by omega)) ?_
                      refine kv_V (As := [.int (nI r), .int (nI (L - 1))]) (rest := []) C h hl.1 (c_T_letterToward l Γ d hm mc so tl t wr i r (L - 1) (hi) (by omega) (by omega) (fun l hl => by rw [hMd]; exact Nat.lt_of_lt_of_le (hnx r l (by omega) hl) h10) (fun l hl => by rw [hMd]; have := (hM.2.2 _ (hnx r l (by omega) hl)).2.1; omega)) mw_T_letterToward lk_T_36 (q0 := (17 + i)) (lk_T (hi)) rfl rfl (by decide) (by decide) (Nat.le_of_ble_eq_true rfl) dc_T_measure_78 (fun v u H locs hp h => ?_)
                      obtain ⟨rfl, lt_2_3, lt_2_n, lt_2_y⟩ := hp
                      obtain ⟨lt_2, rfl⟩ : ∃ zz9, zz9 = u := ⟨_, rfl⟩
                      replace h : sT Γ s (xW Γ d hm mc so tl t wr) H locs := h
                      refine W.eq (g2 := F0 m 81 ls [.int (nI lt_2)]) rfl ?_
                      refine lv_iconst (v := (nI 3)) C.x C.b dc_T_measure_81 (by decide +kernel) ?_
                      refine bc_ge (tgt := 104) C (by omega) (by omega) dc_T_measure_82 (by decide) (fun q82 => ?_) (fun q82 => ?_)
                      · refine lv_iinc (v := nI (r + 1)) (lv' := [(2, .int (nI (r + 1))), (1, .int (nI L)), (0, .ref (d (20 + 3 * i)))]) C.x C.b dc_T_measure_104 hl (k := 0) rfl (nI_1 r) (by decide) rfl (fun ls hl => ?_)
                        refine lv_goto (tgt := 55) C.x C.b dc_T_measure_107 (by decide) ?_
                        have hM := hM.no hL (by omega) hnx (Or.inr (fun l hl => by have z := lt_2_n l (by omega); rw [hMd] at z; omega))
                        exact ih_55 (r + 1) t _ _ _ (by omega) (by first | assumption | omega) (by first | assumption | omega) h (lv_sub hl [0, 1, 2] rfl)
                      · refine lv_aload_n C.x C.b dc_T_measure_85 rfl (lv_at hl 2 rfl) ?_
                        refine rg_get C h (17 + i) (lk_T (hi)) rfl in_T 4 (by decide) fl_T_15 rfl dc_T_measure_86 ?_
                        refine lv_iload_n C.x C.b dc_T_measure_89 rfl (lv_at hl 0 rfl) ?_
                        refine lv_iload_n C.x C.b dc_T_measure_90 rfl (lv_at hl 1 rfl) ?_
                        refine tp_i (mI_s L) ?_
                        refine rg_mst C h (177 + i) (lk_F (hi)) (by omega) (by decide) dc_T_measure_91 (fun H locs h => ?_)
                        replace h := h.eq (st_F (hi) _)
                        obtain ⟨tb_3, etb_3⟩ : ∃ zz9, zz9 = us t i (us (t i) 2 (us (t i 2) r (L + 1))) := ⟨_, rfl⟩
                        replace h : sT Γ s (xW Γ d hm mc so tl tb_3 wr) H locs := by rw [etb_3]; exact h
                        refine lv_aload_n C.x C.b dc_T_measure_92 rfl (lv_at hl 2 rfl) ?_
                        refine lv_dup C.x C.b dc_T_measure_93 rfl ?_
                        refine rg_get C h (17 + i) (lk_T (hi)) rfl in_T 2 (by decide) fl_T_29 rfl dc_T_measure_94 ?_
                        refine lv_iconst (v := (nI 1)) C.x C.b dc_T_measure_97 (by decide +kernel) ?_
                        refine lv_iload_n C.x C.b dc_T_measure_98 rfl (lv_at hl 0 rfl) ?_
                        refine lv_ishl C.x C.b dc_T_measure_99 ?_
                        refine tp_i (nI_shl1 (n := r) (by omega)) ?_
                        refine lv_ior C.x C.b dc_T_measure_100 ?_
                        refine tp_i (nI_or (tb_3 i 0 2) (2 ^ r)) ?_
                        refine rg_put (ty := .int) C h (17 + i) (lk_T (hi)) rfl in_T tk_T nm_T 2 (by decide) fl_T_29 rfl (by decide +kernel) rfl rfl (by simp) dc_T_measure_101 (fun H locs h => ?_)
                        replace h := h.eq (st_T (hi) 2 ((tb_3 i 0 2) ||| (2 ^ r)) _ rfl)
                        obtain ⟨tb_4, etb_4⟩ : ∃ zz9, zz9 = us tb_3 i (us (tb_3 i) 0 (us (tb_3 i 0) 2 ((tb_3 i 0 2) ||| (2 ^ r)))) := ⟨_, rfl⟩
                        replace h : sT Γ s (xW Γ d hm mc so tl tb_4 wr) H locs := by rw [etb_4]; exact h
                        refine lv_iinc (v := nI (r + 1)) (lv' := [(2, .int (nI (r + 1))), (1, .int (nI L)), (0, .ref (d (20 + 3 * i)))]) C.x C.b dc_T_measure_104 hl (k := 0) rfl (nI_1 r) (by decide) rfl (fun ls hl => ?_)
                        refine lv_goto (tgt := 55) C.x C.b dc_T_measure_107 (by decide) ?_
                        have hM := hM.yes hL (by omega) h10 hnx q70 (by omega) (by have z := lt_2_y (by omega); rw [hMd] at z; omega) etb_3 etb_4
                        exact ih_55 (r + 1) tb_4 _ _ _ (by omega) (by first | assumption | omega) (by first | assumption | omega) h (lv_sub hl [0, 1, 2] rfl)
              exact lp_55 _ 0 t _ _ _ (Nat.lt_succ_self _) (by first | assumption | omega) (by first | assumption | omega) h (lv_sub hl [0, 1, 2] rfl)
        exact lp_45 _ 1 t _ _ _ (Nat.lt_succ_self _) (by first | assumption | omega) (by first | assumption | omega) (by first | assumption | omega) h (lv_sub hl [0, 1] rfl)
      · refine lv_aload_n C.x C.b dc_T_measure_18 rfl (lv_at hl 1 rfl) ?_
        refine rg_get C h (17 + i) (lk_T (hi)) rfl in_T 4 (by decide) fl_T_15 rfl dc_T_measure_19 ?_
        refine lv_iload_n C.x C.b dc_T_measure_22 rfl (lv_at hl 0 rfl) ?_
        refine lv_aload_n C.x C.b dc_T_measure_23 rfl (lv_at hl 1 rfl) ?_
        refine lv_iload_n C.x C.b dc_T_measure_24 rfl (lv_at hl 0 rfl) ?_
        refine kv_V (As := [.int (nI k)]) (rest := [.int (nI k), .ref (d (22 + 3 * i))]) C h hl.1 (c_T_endsAt l Γ d hm mc so tl t wr i k (hi) (by omega) (by rw [hMc]; omega)) mw_T_endsAt lk_T_32 (q0 := (17 + i)) (lk_T (hi)) rfl rfl (by decide) (by decide) (Nat.le_of_ble_eq_true rfl) dc_T_measure_25 (fun v u H locs hp h => ?_)
        obtain rfl := hp
        replace h : sT Γ s (xW Γ d hm mc so tl t wr) H locs := h
        refine W.eq (g2 := F0 m 28 ls [.int (bI ((t i 0 1).testBit k)), .int (nI k), .ref (d (22 + 3 * i))]) rfl ?_
        rw [hMc]
        refine bb_eq (tgt := 35) C dc_T_measure_28 (by decide) (fun q28 => ?_) (fun q28 => ?_)
        · refine lv_iconst (v := (mI 0)) C.x C.b dc_T_measure_35 (by decide +kernel) ?_
          refine rg_mst C h (177 + i) (lk_F (hi)) (by omega) (by decide) dc_T_measure_36 (fun H locs h => ?_)
          replace h := h.eq (st_F (hi) _)
          obtain ⟨tb_5, etb_5⟩ : ∃ zz9, zz9 = us t i (us (t i) 2 (us (t i 2) k 0)) := ⟨_, rfl⟩
          replace h : sT Γ s (xW Γ d hm mc so tl tb_5 wr) H locs := by rw [etb_5]; exact h
          refine lv_iinc (v := nI (k + 1)) (lv' := [(1, .int (nI (k + 1))), (0, .ref (d (20 + 3 * i)))]) C.x C.b dc_T_measure_37 hl (k := 0) rfl (nI_1 k) (by decide) rfl (fun ls hl => ?_)
          refine lv_goto (tgt := 10) C.x C.b dc_T_measure_40 (by decide) ?_
          have hM : mL1 tb tb_5 i (k + 1) := by rw [etb_5]; exact hM.st (by rw [q28]; rfl)
          exact ih_10 (k + 1) tb_5 _ _ _ (by omega) (by first | assumption | omega) (by first | assumption | omega) h (lv_sub hl [0, 1] rfl)
        · refine lv_iconst (v := (nI 0)) C.x C.b dc_T_measure_31 (by decide +kernel) ?_
          refine lv_goto (tgt := 36) C.x C.b dc_T_measure_32 (by decide) ?_
          refine tp_i (mI_s 0) ?_
          refine rg_mst C h (177 + i) (lk_F (hi)) (by omega) (by decide) dc_T_measure_36 (fun H locs h => ?_)
          replace h := h.eq (st_F (hi) _)
          obtain ⟨tb_6, etb_6⟩ : ∃ zz9, zz9 = us t i (us (t i) 2 (us (t i 2) k (0 + 1))) := ⟨_, rfl⟩
          replace h : sT Γ s (xW Γ d hm mc so tl tb_6 wr) H locs := by rw [etb_6]; exact h
          refine lv_iinc (v := nI (k + 1)) (lv' := [(1, .int (nI (k + 1))), (0, .ref (d (20 + 3 * i)))]) C.x C.b dc_T_measure_37 hl (k := 0) rfl (nI_1 k) (by decide) rfl (fun ls hl => ?_)
          refine lv_goto (tgt := 10) C.x C.b dc_T_measure_40 (by decide) ?_
          have hM : mL1 tb tb_6 i (k + 1) := by rw [etb_6]; exact hM.st (by rw [q28]; rfl)
          exact ih_10 (k + 1) tb_6 _ _ _ (by omega) (by first | assumption | omega) (by first | assumption | omega) h (lv_sub hl [0, 1] rfl)
  exact lp_10 _ 0 tb_1 _ _ _ (Nat.lt_succ_self _) (by first | assumption | omega) (by first | assumption | omega) h (lv_sub hl [0, 1] rfl)

abbrev rm_T_nearer : Room := { frames := 2, cells := 0, slots := 0, locals := 45 }
set_option maxRecDepth 100000 in
set_option maxHeartbeats 4000000 in
theorem c_T_nearer (l : Launch) (Γ : gG) (d : Nat → Nat) (hm : Nat) (mc : va_E) (so : Nat → Nat → Nat) (tl : Nat → Nat → Int64) (tb : Nat → Nat → Nat → Nat) (wr : va_W) (i r k : Nat) (hi : i < 80) (hr : r < 10) (hk : tb i 2 r = k + 2) (hk2 : k + 2 < 2 ^ 31) (hnx : ∀ l, l < 3 → tb i 1 (r * 3 + l) < 10) (hfr : ∀ l, l < 3 → tb i 2 (tb i 1 (r * 3 + l)) < 2 ^ 31) : cT l Γ my_T_nearer bc_T_nearer 2 (some .int) rm_T_nearer [.ref (d (20 + 3 * i)), .int (nI r)] (xW Γ d hm mc so tl tb wr) (S := Nat) (fun v q => v = some (.int (nI q)) ∧ q ≤ 3 ∧ (∀ l, l < q → tb i 2 (tb i 1 (r * 3 + l)) ≠ k + 1) ∧ (q < 3 → tb i 2 (tb i 1 (r * 3 + q)) = k + 1)) (fun _ => xW Γ d hm mc so tl tb wr) := by
  refine cT.start (by decide) (Nat.le_of_ble_eq_true rfl) (fun p e s m args below meth c ls Q hQ C hmn h hl => ?_)
  replace hl : lv_has ls 2 [(0, .ref (d (20 + 3 * i))), (1, .int (nI r))] := hl
  refine lv_aload_n C.x C.b dc_T_nearer_0 rfl (lv_at hl 0 rfl) ?_
  refine lv_iload_n C.x C.b dc_T_nearer_1 rfl (lv_at hl 1 rfl) ?_
  refine lv_aload_n C.x C.b dc_T_nearer_2 rfl (lv_at hl 0 rfl) ?_
  refine rg_get C h (17 + i) (lk_T (hi)) rfl in_T 4 (by decide) fl_T_15 rfl dc_T_nearer_3 ?_
  refine lv_iload_n C.x C.b dc_T_nearer_6 rfl (lv_at hl 1 rfl) ?_
  refine rg_mld C h (177 + i) (lk_F (hi)) (by omega) (by decide) dc_T_nearer_7 ?_
  refine lv_iconst (v := (nI 1)) C.x C.b dc_T_nearer_8 (by decide +kernel) ?_
  refine lv_isub C.x C.b dc_T_nearer_9 ?_
  refine tp_i (y := (nI k)) (by rw [hk, ← mI_s (k + 1)]; try exact nI_pred k) ?_
  refine kv_V (As := [.int (nI r), .int (nI k)]) (rest := []) C h hl.1 (c_T_letterToward l Γ d hm mc so tl tb wr i r k (hi) (by omega) (by omega) hnx hfr) mw_T_letterToward lk_T_36 (q0 := (17 + i)) (lk_T (hi)) rfl rfl (by decide) (by decide) (Nat.le_of_ble_eq_true rfl) dc_T_nearer_10 (fun v u H locs hp h => ?_)
  obtain ⟨rfl, lt_1_3, lt_1_n, lt_1_y⟩ := hp
  obtain ⟨lt_1, rfl⟩ : ∃ zz9, zz9 = u := ⟨_, rfl⟩
  replace h : sT Γ s (xW Γ d hm mc so tl tb wr) H locs := h
  refine W.eq (g2 := F0 m 13 ls [.int (nI lt_1)]) rfl ?_
  rw [hQ]
  exact rt_i C lt_1 h (⟨rfl, lt_1_3, lt_1_n, lt_1_y⟩) dc_T_nearer_13

