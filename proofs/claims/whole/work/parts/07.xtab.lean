
theorem rb_t {b : Bool} (h : b = true) : some (Value.int (nI 1)) = some (.int (bI b)) := by subst h; decide +kernel
theorem rb_f {b : Bool} (h : b = false) : some (Value.int (nI 0)) = some (.int (bI b)) := by subst h; decide +kernel
/-- the rests that the rests S of n come to -/
def aAll (S : Nat) (nx : Nat → Nat) : Nat → Nat
  | 0 => 0
  | k + 1 => if S.testBit k then aAll S nx k ||| 2 ^ nx k else aAll S nx k
/-- the rests of n that come into S -/
def bAll (S : Nat) (nx : Nat → Nat) : Nat → Nat
  | 0 => 0
  | k + 1 => if S.testBit (nx k) then bAll S nx k ||| 2 ^ k else bAll S nx k
theorem aAll_s {S : Nat} {nx : Nat → Nat} {k : Nat} (h : S.testBit k = true) : aAll S nx (k + 1) = aAll S nx k ||| 2 ^ nx k := by rw [aAll, if_pos h]
theorem aAll_n {S : Nat} {nx : Nat → Nat} {k : Nat} (h : S.testBit k = false) : aAll S nx (k + 1) = aAll S nx k := by rw [aAll, if_neg (by rw [h]; decide)]
theorem bAll_s {S : Nat} {nx : Nat → Nat} {k : Nat} (h : S.testBit (nx k) = true) : bAll S nx (k + 1) = bAll S nx k ||| 2 ^ k := by rw [bAll, if_pos h]
theorem bAll_n {S : Nat} {nx : Nat → Nat} {k : Nat} (h : S.testBit (nx k) = false) : bAll S nx (k + 1) = bAll S nx k := by rw [bAll, if_neg (by rw [h]; decide)]

abbrev rm_T_after : Room := { frames := 0, cells := 0, slots := 0, locals := 0 }
set_option maxRecDepth 100000 in
set_option maxHeartbeats 4000000 in
theorem c_T_after (l : Launch) (Γ : gG) (d : Nat → Nat) (hm : Nat) (mc : va_E) (so : Nat → Nat → Nat) (tl : Nat → Nat → Int64) (tb : Nat → Nat → Nat → Nat) (wr : va_W) (i r lt : Nat) (hi : i < 80) (hr : r < 10) (hlt : lt < 3) : cT l Γ my_T_after bc_T_after 3 (some .int) rm_T_after [.ref (d (20 + 3 * i)), .int (nI r), .int (nI lt)] (xW Γ d hm mc so tl tb wr) (S := Unit) (fun v _ => v = some (.int (nI (tb i 1 (r * 3 + lt))))) (fun _ => xW Γ d hm mc so tl tb wr) := by
  refine cT.start (by decide) (Nat.le_of_ble_eq_true rfl) (fun p e s m args below meth c ls Q hQ C hmn h hl => ?_)
  replace hl : lv_has ls 3 [(0, .ref (d (20 + 3 * i))), (1, .int (nI r)), (2, .int (nI lt))] := hl
  refine lv_aload_n C.x C.b dc_T_after_0 rfl (lv_at hl 0 rfl) ?_
  refine rg_get C h (17 + i) (lk_T (hi)) rfl in_T 3 (by decide) fl_T_9 rfl dc_T_after_1 ?_
  refine lv_iload_n C.x C.b dc_T_after_4 rfl (lv_at hl 1 rfl) ?_
  refine lv_iconst (v := (nI 3)) C.x C.b dc_T_after_5 (by decide +kernel) ?_
  refine lv_imul C.x C.b dc_T_after_6 ?_
  refine tp_i (pk_mul r 3) ?_
  refine lv_iload_n C.x C.b dc_T_after_7 rfl (lv_at hl 2 rfl) ?_
  refine lv_iadd C.x C.b dc_T_after_8 ?_
  refine tp_i (nI_add (r * 3) lt) ?_
  refine rg_ild C h (97 + i) (lk_N (hi)) (by omega) (by decide) dc_T_after_9 ?_
  rw [hQ]
  exact rt_i C () h (rfl) dc_T_after_10

abbrev rm_T_endsAt : Room := { frames := 0, cells := 0, slots := 0, locals := 0 }
set_option maxRecDepth 100000 in
set_option maxHeartbeats 4000000 in
theorem c_T_endsAt (l : Launch) (Γ : gG) (d : Nat → Nat) (hm : Nat) (mc : va_E) (so : Nat → Nat → Nat) (tl : Nat → Nat → Int64) (tb : Nat → Nat → Nat → Nat) (wr : va_W) (i r : Nat) (hi : i < 80) (hr : r < 31) (he : tb i 0 1 < 2 ^ 31) : cT l Γ my_T_endsAt bc_T_endsAt 2 (some .boolean) rm_T_endsAt [.ref (d (20 + 3 * i)), .int (nI r)] (xW Γ d hm mc so tl tb wr) (S := Unit) (fun v _ => v = some (.int (bI ((tb i 0 1).testBit r)))) (fun _ => xW Γ d hm mc so tl tb wr) := by
  refine cT.start (by decide) (Nat.le_of_ble_eq_true rfl) (fun p e s m args below meth c ls Q hQ C hmn h hl => ?_)
  replace hl : lv_has ls 2 [(0, .ref (d (20 + 3 * i))), (1, .int (nI r))] := hl
  refine lv_aload_n C.x C.b dc_T_endsAt_0 rfl (lv_at hl 0 rfl) ?_
  refine rg_get C h (17 + i) (lk_T (hi)) rfl in_T 1 (by decide) fl_T_18 rfl dc_T_endsAt_1 ?_
  refine lv_iload_n C.x C.b dc_T_endsAt_4 rfl (lv_at hl 1 rfl) ?_
  refine lv_ishr C.x C.b dc_T_endsAt_5 ?_
  refine tp_i (nI_shr (a := (tb i 0 1)) (n := r) (by omega) (by omega)) ?_
  refine lv_iconst (v := (nI 1)) C.x C.b dc_T_endsAt_6 (by decide +kernel) ?_
  refine lv_iand C.x C.b dc_T_endsAt_7 ?_
  refine tp_i (nI_and1 ((tb i 0 1) / 2 ^ r)) ?_
  refine bz_eq (tgt := 15) C (by omega) dc_T_endsAt_8 (by decide) (fun q8 => ?_) (fun q8 => ?_)
  · refine lv_iconst (v := (nI 0)) C.x C.b dc_T_endsAt_15 (by decide +kernel) ?_
    rw [hQ]
    exact rt_z C () h (rb_f ((tb_iff0 _ _).mp q8)) (by decide +kernel) dc_T_endsAt_16
  · refine lv_iconst (v := (nI 1)) C.x C.b dc_T_endsAt_11 (by decide +kernel) ?_
    refine lv_goto (tgt := 16) C.x C.b dc_T_endsAt_12 (by decide) ?_
    rw [hQ]
    exact rt_z C () h (rb_t ((tb_iff _ _).mp q8)) (by decide +kernel) dc_T_endsAt_16

abbrev rm_T_afterAll : Room := { frames := 1, cells := 0, slots := 0, locals := 22 }
set_option maxRecDepth 100000 in
set_option maxHeartbeats 4000000 in
theorem c_T_afterAll (l : Launch) (Γ : gG) (d : Nat → Nat) (hm : Nat) (mc : va_E) (so : Nat → Nat → Nat) (tl : Nat → Nat → Int64) (tb : Nat → Nat → Nat → Nat) (wr : va_W) (i S lt : Nat) (hi : i < 80) (hS : S < 2 ^ 31) (hlt : lt < 3) (hrc : tb i 0 0 ≤ 10) (hnx : ∀ k, k < 30 → tb i 1 k < 10) : cT l Γ my_T_afterAll bc_T_afterAll 5 (some .int) rm_T_afterAll [.ref (d (20 + 3 * i)), .int (nI S), .int (nI lt)] (xW Γ d hm mc so tl tb wr) (S := Unit) (fun v _ => v = some (.int (nI (aAll S (fun r => tb i 1 (r * 3 + lt)) (tb i 0 0) &&& tb i 0 2)))) (fun _ => xW Γ d hm mc so tl tb wr) := by
  refine cT.start (by decide) (Nat.le_of_ble_eq_true rfl) (fun p e s m args below meth c ls Q hQ C hmn h hl => ?_)
  replace hl : lv_has ls 5 [(0, .ref (d (20 + 3 * i))), (1, .int (nI S)), (2, .int (nI lt))] := hl
  refine lv_iconst (v := (nI 0)) C.x C.b dc_T_afterAll_0 (by decide +kernel) ?_
  refine lv_istore_n (lv' := [(3, .int (nI 0)), (0, .ref (d (20 + 3 * i))), (1, .int (nI S)), (2, .int (nI lt))]) C.x C.b dc_T_afterAll_1 rfl hl (by decide) rfl (fun ls hl => ?_)
  refine lv_iconst (v := (nI 0)) C.x C.b dc_T_afterAll_2 (by decide +kernel) ?_
  refine lv_istore (lv' := [(4, .int (nI 0)), (3, .int (nI 0)), (0, .ref (d (20 + 3 * i))), (1, .int (nI S)), (2, .int (nI lt))]) C.x C.b dc_T_afterAll_3 hl (by decide) rfl (fun ls hl => ?_)
  have lp_5 : ∀ (n_5 : Nat) (k : Nat) (H : Heap) (locs : List Loc) (ls : Array Slot), tb i 0 0 - k < n_5 → (k ≤ tb i 0 0) → sT Γ s (xW Γ d hm mc so tl tb wr) H locs → lv_has ls 5 [(4, .int (nI k)), (3, .int (nI (aAll S (fun r => tb i 1 (r * 3 + lt)) k))), (0, .ref (d (20 + 3 * i))), (1, .int (nI S)), (2, .int (nI lt))] → W p l e rm_T_afterAll s m args below meth c H locs 0 0 Q (F0 m 5 ls []) := by
    intro n_5
    induction n_5 with
    | zero => intro k H locs ls hms; exact absurd hms (Nat.not_lt_zero _)
    | succ n_5 ih_5 =>
      intro k H locs ls hms hk h hl
      refine lv_iload C.x C.b dc_T_afterAll_5 (lv_at hl 0 rfl) ?_
      refine lv_aload_n C.x C.b dc_T_afterAll_7 rfl (lv_at hl 2 rfl) ?_
      refine rg_get C h (17 + i) (lk_T (hi)) rfl in_T 0 (by decide) fl_T_22 rfl dc_T_afterAll_8 ?_
      refine bc_ge (tgt := 41) C (by omega) (by omega) dc_T_afterAll_11 (by decide) (fun q11 => ?_) (fun q11 => ?_)
      · refine lv_iload_n C.x C.b dc_T_afterAll_41 rfl (lv_at hl 1 rfl) ?_
        refine lv_aload_n C.x C.b dc_T_afterAll_42 rfl (lv_at hl 2 rfl) ?_
        refine rg_get C h (17 + i) (lk_T (hi)) rfl in_T 2 (by decide) fl_T_29 rfl dc_T_afterAll_43 ?_
        refine lv_iand C.x C.b dc_T_afterAll_46 ?_
        refine tp_i (nI_and (aAll S (fun r => tb i 1 (r * 3 + lt)) k) (tb i 0 2)) ?_
        rw [hQ]
        exact rt_i C () h (by rw [show k = tb i 0 0 by omega]) dc_T_afterAll_47
      · refine lv_iload_n C.x C.b dc_T_afterAll_14 rfl (lv_at hl 3 rfl) ?_
        refine lv_iload C.x C.b dc_T_afterAll_15 (lv_at hl 0 rfl) ?_
        refine lv_ishr C.x C.b dc_T_afterAll_17 ?_
        refine tp_i (nI_shr (a := S) (n := k) (by omega) (by omega)) ?_
        refine lv_iconst (v := (nI 1)) C.x C.b dc_T_afterAll_18 (by decide +kernel) ?_
        refine lv_iand C.x C.b dc_T_afterAll_19 ?_
        refine tp_i (nI_and1 (S / 2 ^ k)) ?_
        refine bz_eq (tgt := 35) C (by omega) dc_T_afterAll_20 (by decide) (fun q20 => ?_) (fun q20 => ?_)
        · refine lv_iinc (v := nI (k + 1)) (lv' := [(4, .int (nI (k + 1))), (3, .int (nI (aAll S (fun r => tb i 1 (r * 3 + lt)) k))), (0, .ref (d (20 + 3 * i))), (1, .int (nI S)), (2, .int (nI lt))]) C.x C.b dc_T_afterAll_35 hl (k := 0) rfl (nI_1 k) (by decide) rfl (fun ls hl => ?_)
          refine lv_goto (tgt := 5) C.x C.b dc_T_afterAll_38 (by decide) ?_
          rw [show aAll S (fun r => tb i 1 (r * 3 + lt)) k = aAll S (fun r => tb i 1 (r * 3 + lt)) (k + 1) from (aAll_n ((tb_iff0 _ _).mp q20)).symm] at hl
          exact ih_5 (k + 1) _ _ _ (by omega) (by first | assumption | omega) h (lv_sub hl [0, 1, 2, 3, 4] rfl)
        · refine lv_iload_n C.x C.b dc_T_afterAll_23 rfl (lv_at hl 1 rfl) ?_
          refine lv_iconst (v := (nI 1)) C.x C.b dc_T_afterAll_24 (by decide +kernel) ?_
          refine lv_aload_n C.x C.b dc_T_afterAll_25 rfl (lv_at hl 2 rfl) ?_
          refine lv_iload C.x C.b dc_T_afterAll_26 (lv_at hl 0 rfl) ?_
          refine lv_iload_n C.x C.b dc_T_afterAll_28 rfl (lv_at hl 4 rfl) ?_
          refine kv_V (As := [.int (nI k), .int (nI lt)]) (rest := [.int (nI 1), .int (nI (aAll S (fun r => tb i 1 (r * 3 + lt)) k))]) C h hl.1 (c_T_after l Γ d hm mc so tl tb wr i k lt (hi) (by omega) (by omega)) mw_T_after lk_T_25 (q0 := (17 + i)) (lk_T (hi)) rfl rfl (by decide) (by decide) (Nat.le_of_ble_eq_true rfl) dc_T_afterAll_29 (fun v u H locs hp h => ?_)
          obtain rfl := hp
          replace h : sT Γ s (xW Γ d hm mc so tl tb wr) H locs := h
          refine W.eq (g2 := F0 m 32 ls [.int (nI (tb i 1 (k * 3 + lt))), .int (nI 1), .int (nI (aAll S (fun r => tb i 1 (r * 3 + lt)) k))]) rfl ?_
          refine lv_ishl C.x C.b dc_T_afterAll_32 ?_
          refine tp_i (nI_shl1 (n := (tb i 1 (k * 3 + lt))) (Nat.lt_of_lt_of_le (hnx _ (by omega)) (by decide))) ?_
          refine lv_ior C.x C.b dc_T_afterAll_33 ?_
          refine tp_i (nI_or (aAll S (fun r => tb i 1 (r * 3 + lt)) k) (2 ^ (tb i 1 (k * 3 + lt)))) ?_
          refine lv_istore_n (lv' := [(3, .int (nI ((aAll S (fun r => tb i 1 (r * 3 + lt)) k) ||| (2 ^ (tb i 1 (k * 3 + lt)))))), (4, .int (nI k)), (0, .ref (d (20 + 3 * i))), (1, .int (nI S)), (2, .int (nI lt))]) C.x C.b dc_T_afterAll_34 rfl hl (by decide) rfl (fun ls hl => ?_)
          refine lv_iinc (v := nI (k + 1)) (lv' := [(4, .int (nI (k + 1))), (3, .int (nI ((aAll S (fun r => tb i 1 (r * 3 + lt)) k) ||| (2 ^ (tb i 1 (k * 3 + lt)))))), (0, .ref (d (20 + 3 * i))), (1, .int (nI S)), (2, .int (nI lt))]) C.x C.b dc_T_afterAll_35 hl (k := 1) rfl (nI_1 k) (by decide) rfl (fun ls hl => ?_)
          refine lv_goto (tgt := 5) C.x C.b dc_T_afterAll_38 (by decide) ?_
          rw [show aAll S (fun r => tb i 1 (r * 3 + lt)) k ||| 2 ^ tb i 1 (k * 3 + lt) = aAll S (fun r => tb i 1 (r * 3 + lt)) (k + 1) from (aAll_s (nx := (fun r => tb i 1 (r * 3 + lt))) ((tb_iff _ _).mp q20)).symm] at hl
          exact ih_5 (k + 1) _ _ _ (by omega) (by first | assumption | omega) h (lv_sub hl [0, 1, 2, 3, 4] rfl)
  exact lp_5 _ 0 _ _ _ (Nat.lt_succ_self _) (by first | assumption | omega) h (lv_sub hl [0, 1, 2, 3, 4] rfl)

abbrev rm_T_beforeAll : Room := { frames := 1, cells := 0, slots := 0, locals := 22 }
set_option maxRecDepth 100000 in
set_option maxHeartbeats 4000000 in
theorem c_T_beforeAll (l : Launch) (Γ : gG) (d : Nat → Nat) (hm : Nat) (mc : va_E) (so : Nat → Nat → Nat) (tl : Nat → Nat → Int64) (tb : Nat → Nat → Nat → Nat) (wr : va_W) (i S lt : Nat) (hi : i < 80) (hS : S < 2 ^ 31) (hlt : lt < 3) (hrc : tb i 0 0 ≤ 10) (hnx : ∀ k, k < 30 → tb i 1 k < 10) : cT l Γ my_T_beforeAll bc_T_beforeAll 5 (some .int) rm_T_beforeAll [.ref (d (20 + 3 * i)), .int (nI S), .int (nI lt)] (xW Γ d hm mc so tl tb wr) (S := Unit) (fun v _ => v = some (.int (nI (bAll S (fun r => tb i 1 (r * 3 + lt)) (tb i 0 0))))) (fun _ => xW Γ d hm mc so tl tb wr) := by
  refine cT.start (by decide) (Nat.le_of_ble_eq_true rfl) (fun p e s m args below meth c ls Q hQ C hmn h hl => ?_)
  replace hl : lv_has ls 5 [(0, .ref (d (20 + 3 * i))), (1, .int (nI S)), (2, .int (nI lt))] := hl
  refine lv_iconst (v := (nI 0)) C.x C.b dc_T_beforeAll_0 (by decide +kernel) ?_
  refine lv_istore_n (lv' := [(3, .int (nI 0)), (0, .ref (d (20 + 3 * i))), (1, .int (nI S)), (2, .int (nI lt))]) C.x C.b dc_T_beforeAll_1 rfl hl (by decide) rfl (fun ls hl => ?_)
  refine lv_iconst (v := (nI 0)) C.x C.b dc_T_beforeAll_2 (by decide +kernel) ?_
  refine lv_istore (lv' := [(4, .int (nI 0)), (3, .int (nI 0)), (0, .ref (d (20 + 3 * i))), (1, .int (nI S)), (2, .int (nI lt))]) C.x C.b dc_T_beforeAll_3 hl (by decide) rfl (fun ls hl => ?_)
  have lp_5 : ∀ (n_5 : Nat) (k : Nat) (H : Heap) (locs : List Loc) (ls : Array Slot), tb i 0 0 - k < n_5 → (k ≤ tb i 0 0) → sT Γ s (xW Γ d hm mc so tl tb wr) H locs → lv_has ls 5 [(4, .int (nI k)), (3, .int (nI (bAll S (fun r => tb i 1 (r * 3 + lt)) k))), (0, .ref (d (20 + 3 * i))), (1, .int (nI S)), (2, .int (nI lt))] → W p l e rm_T_beforeAll s m args below meth c H locs 0 0 Q (F0 m 5 ls []) := by
    intro n_5
    induction n_5 with
    | zero => intro k H locs ls hms; exact absurd hms (Nat.not_lt_zero _)
    | succ n_5 ih_5 =>
      intro k H locs ls hms hk h hl
      refine lv_iload C.x C.b dc_T_beforeAll_5 (lv_at hl 0 rfl) ?_
      refine lv_aload_n C.x C.b dc_T_beforeAll_7 rfl (lv_at hl 2 rfl) ?_
      refine rg_get C h (17 + i) (lk_T (hi)) rfl in_T 0 (by decide) fl_T_22 rfl dc_T_beforeAll_8 ?_
      refine bc_ge (tgt := 41) C (by omega) (by omega) dc_T_beforeAll_11 (by decide) (fun q11 => ?_) (fun q11 => ?_)
      · refine lv_iload_n C.x C.b dc_T_beforeAll_41 rfl (lv_at hl 1 rfl) ?_
        rw [hQ]
        exact rt_i C () h (by rw [show k = tb i 0 0 by omega]) dc_T_beforeAll_42
      · refine lv_iload_n C.x C.b dc_T_beforeAll_14 rfl (lv_at hl 3 rfl) ?_
        refine lv_aload_n C.x C.b dc_T_beforeAll_15 rfl (lv_at hl 2 rfl) ?_
        refine lv_iload C.x C.b dc_T_beforeAll_16 (lv_at hl 0 rfl) ?_
        refine lv_iload_n C.x C.b dc_T_beforeAll_18 rfl (lv_at hl 4 rfl) ?_
        refine kv_V (As := [.int (nI k), .int (nI lt)]) (rest := [.int (nI S)]) C h hl.1 (c_T_after l Γ d hm mc so tl tb wr i k lt (hi) (by omega) (by omega)) mw_T_after lk_T_25 (q0 := (17 + i)) (lk_T (hi)) rfl rfl (by decide) (by decide) (Nat.le_of_ble_eq_true rfl) dc_T_beforeAll_19 (fun v u H locs hp h => ?_)
        obtain rfl := hp
        replace h : sT Γ s (xW Γ d hm mc so tl tb wr) H locs := h
        refine W.eq (g2 := F0 m 22 ls [.int (nI (tb i 1 (k * 3 + lt))), .int (nI S)]) rfl ?_
        refine lv_ishr C.x C.b dc_T_beforeAll_22 ?_
        refine tp_i (nI_shr (a := S) (n := (tb i 1 (k * 3 + lt))) (by omega) (Nat.lt_of_lt_of_le (hnx _ (by omega)) (by decide))) ?_
        refine lv_iconst (v := (nI 1)) C.x C.b dc_T_beforeAll_23 (by decide +kernel) ?_
        refine lv_iand C.x C.b dc_T_beforeAll_24 ?_
        refine tp_i (nI_and1 (S / 2 ^ (tb i 1 (k * 3 + lt)))) ?_
        refine bz_eq (tgt := 35) C (by omega) dc_T_beforeAll_25 (by decide) (fun q25 => ?_) (fun q25 => ?_)
        · refine lv_iinc (v := nI (k + 1)) (lv' := [(4, .int (nI (k + 1))), (3, .int (nI (bAll S (fun r => tb i 1 (r * 3 + lt)) k))), (0, .ref (d (20 + 3 * i))), (1, .int (nI S)), (2, .int (nI lt))]) C.x C.b dc_T_beforeAll_35 hl (k := 0) rfl (nI_1 k) (by decide) rfl (fun ls hl => ?_)
          refine lv_goto (tgt := 5) C.x C.b dc_T_beforeAll_38 (by decide) ?_
          rw [show bAll S (fun r => tb i 1 (r * 3 + lt)) k = bAll S (fun r => tb i 1 (r * 3 + lt)) (k + 1) from (bAll_n (nx := (fun r => tb i 1 (r * 3 + lt))) ((tb_iff0 _ _).mp q25)).symm] at hl
          exact ih_5 (k + 1) _ _ _ (by omega) (by first | assumption | omega) h (lv_sub hl [0, 1, 2, 3, 4] rfl)
        · refine lv_iload_n C.x C.b dc_T_beforeAll_28 rfl (lv_at hl 1 rfl) ?_
          refine lv_iconst (v := (nI 1)) C.x C.b dc_T_beforeAll_29 (by decide +kernel) ?_
          refine lv_iload C.x C.b dc_T_beforeAll_30 (lv_at hl 0 rfl) ?_
          refine lv_ishl C.x C.b dc_T_beforeAll_32 ?_
          refine tp_i (nI_shl1 (n := k) (by omega)) ?_
          refine lv_ior C.x C.b dc_T_beforeAll_33 ?_
          refine tp_i (nI_or (bAll S (fun r => tb i 1 (r * 3 + lt)) k) (2 ^ k)) ?_
          refine lv_istore_n (lv' := [(3, .int (nI ((bAll S (fun r => tb i 1 (r * 3 + lt)) k) ||| (2 ^ k)))), (4, .int (nI k)), (0, .ref (d (20 + 3 * i))), (1, .int (nI S)), (2, .int (nI lt))]) C.x C.b dc_T_beforeAll_34 rfl hl (by decide) rfl (fun ls hl => ?_)
          refine lv_iinc (v := nI (k + 1)) (lv' := [(4, .int (nI (k + 1))), (3, .int (nI ((bAll S (fun r => tb i 1 (r * 3 + lt)) k) ||| (2 ^ k)))), (0, .ref (d (20 + 3 * i))), (1, .int (nI S)), (2, .int (nI lt))]) C.x C.b dc_T_beforeAll_35 hl (k := 1) rfl (nI_1 k) (by decide) rfl (fun ls hl => ?_)
          refine lv_goto (tgt := 5) C.x C.b dc_T_beforeAll_38 (by decide) ?_
          rw [show bAll S (fun r => tb i 1 (r * 3 + lt)) k ||| 2 ^ k = bAll S (fun r => tb i 1 (r * 3 + lt)) (k + 1) from (bAll_s (nx := (fun r => tb i 1 (r * 3 + lt))) ((tb_iff _ _).mp q25)).symm] at hl
          exact ih_5 (k + 1) _ _ _ (by omega) (by first | assumption | omega) h (lv_sub hl [0, 1, 2, 3, 4] rfl)
  exact lp_5 _ 0 _ _ _ (Nat.lt_succ_self _) (by first | assumption | omega) h (lv_sub hl [0, 1, 2, 3, 4] rfl)

