set_option maxRecDepth 100000 in
set_option maxHeartbeats 4000000 in
theorem law_back {p : Program} {l : Launch} {e : Env} {s : State} {m : MethodId} {below : List Frame} {meth : Method} {c : Code} {Q : State → Prop} {Γ : gG} {b L : Nat} {xs : Nat → Int32} {d : Nat → Nat} {hm : Nat} {mc : va_E} {so : Nat → Nat → Nat} {tl : Nat → Nat → Int64} {tb : Nat → Nat → Nat → Nat} {r : Nat → Nat} {ri : Nat → Nat → Nat} {rl : Nat → Nat → Int64} {o : Nat} {g : Nat → Int64} {i cells slots : Nat} {H : Heap} {locs : List Loc} {ls : Array Slot} (C0 : lwC l Γ p s m meth c b L xs) (hi : i + 5 ≤ L) (hc : cells + 20 ≤ 601024) (hsl : slots + 200 ≤ 7293034) (hJ : JS so tb ri) (h : sT Γ s (jW Γ d hm mc so tl tb r ri rl o g) H locs) (hl : lv_has ls 8 [(0, .ref b), (1, .ref (d 0)), (2, .ref (r 0)), (3, .ref o), (4, .int (nI i))]) (hk : ∀ (hm : Nat) (mc : va_E) (so : Nat → Nat → Nat) (tl : Nat → Nat → Int64) (tb : Nat → Nat → Nat → Nat) (ri : Nat → Nat → Nat) (rl : Nat → Nat → Int64) (g : Nat → Int64) (H : Heap) (locs : List Loc) (ls : Array Slot), JS so tb ri → sT Γ s (jW Γ d hm mc so tl tb r ri rl o g) H locs → lv_has ls 8 [(0, .ref b), (1, .ref (d 0)), (2, .ref (r 0)), (3, .ref o), (4, .int (nI i))] → W p l e room_1 s m #[Value.ref b] below meth c H locs (cells + 20) (slots + 200) Q (F0 m 1249 ls [])) : W p l e room_1 s m #[Value.ref b] below meth c H locs cells slots Q (F0 m 484 ls []) := by
  obtain ⟨C, hX, hN, hS, hL, hst⟩ := C0
  refine lv_aload_n C.x C.b dc_L_law_484 rfl (lv_at hl 1 rfl) ?_
  refine lv_aload_n C.x C.b dc_L_law_485 rfl (lv_at hl 0 rfl) ?_
  refine lv_iload C.x C.b dc_L_law_486 (lv_at hl 4 rfl) ?_
  refine lv_iconst (v := (nI 1)) C.x C.b dc_L_law_488 (by decide +kernel) ?_
  refine lv_iadd C.x C.b dc_L_law_489 ?_
  refine tp_i (nI_add i 1) ?_
  refine rg_sld C h hS  (by omega) (by omega) dc_L_law_490 ?_
  refine lv_aload_n C.x C.b dc_L_law_491 rfl (lv_at hl 3 rfl) ?_
  refine kv_SW (n := 3) (As := [.ref (d 0), .int (xs (i + 1)), .ref o]) (rest := []) C hX hN h hl.1 (c_L_back l Γ d hm mc so tl tb _ o g (xs (i + 1)) hJ.1 hst) mc_L_back ms_L_back in_L lk_L_104 (by decide +kernel) rfl (by decide) (by show cells + 8 ≤ 601024 ∧ slots + 48 ≤ 7293034; omega) (Nat.le_of_ble_eq_true rfl) dc_L_law_492 (fun v u H locs hp h => ?_)
  obtain ⟨k, u, tl2, g2⟩ := u
  obtain ⟨rfl, hk3, hp⟩ := hp
  replace hk3 : k ≤ 2 := hk3
  replace h : sT Γ s (jW Γ d u.1 u.2.1 u.2.2.1 tl2 u.2.2.2 r ri rl o g2) _ _ := h
  refine W.eq (g2 := F0 m 495 ls [.int (nI k)]) rfl ?_
  refine lv_istore (lv' := [(5, .int (nI k)), (0, .ref b), (1, .ref (d 0)), (2, .ref (r 0)), (3, .ref o), (4, .int (nI i))]) C.x C.b dc_L_law_495 hl (by decide) rfl (fun ls hl => ?_)
  refine lv_aload_n C.x C.b dc_L_law_497 rfl (lv_at hl 3 rfl) ?_
  refine lv_aload_n C.x C.b dc_L_law_498 rfl (lv_at hl 1 rfl) ?_
  refine lv_iload C.x C.b dc_L_law_499 (lv_at hl 5 rfl) ?_
  refine lv_iconst (v := (nI 1)) C.x C.b dc_L_law_501 (by decide +kernel) ?_
  refine lv_iadd C.x C.b dc_L_law_502 ?_
  refine tp_i (nI_add i 1) ?_
  refine rg_sld C h hS  (by omega) (by omega) dc_L_law_503 ?_
  replace h := jw_r h
  refine kv_V (As := [.int (xs (i + 1))]) (rest := []) C h hl.1 (c_M_back l Γ r ri rl _ (xs (i + 1)) hJ.2.1) mw_M_back lk_L_106 (q0 := 0) rfl rfl rfl (by decide) (by show cells + 8 + 0 ≤ 601024 ∧ slots + 48 + 0 ≤ 7293034; omega) (Nat.le_of_ble_eq_true rfl) dc_L_law_504 (fun v u2 H locs hp2 h => ?_)
  have J := jn_back hJ hp hp2
  obtain ⟨hJ2, J2, x, rfl, J3⟩ := J
  replace J2 : u2 20 0 = k := J2
  replace J3 : k = 0 → g2 0 = x.toInt64 := J3
  replace h : sT Γ s (rW Γ r u2 rl (xW Γ d u.1 u.2.1 u.2.2.1 tl2 u.2.2.2 [(o, oE Γ g2)])) _ _ := h
  refine W.eq (g2 := F0 m 507 ls [.int x]) rfl ?_
  refine lv_istore (lv' := [(6, .int x), (5, .int (nI k)), (0, .ref b), (1, .ref (d 0)), (2, .ref (r 0)), (3, .ref o), (4, .int (nI i))]) C.x C.b dc_L_law_507 hl (by decide) rfl (fun ls hl => ?_)
  refine lv_aload_n C.x C.b dc_L_law_509 rfl (lv_at hl 4 rfl) ?_
  refine kv_V (As := []) (rest := []) C h hl.1 (c_M_thrown l Γ r u2 rl _) mw_M_thrown lk_L_83 (q0 := 0) rfl rfl rfl (by decide) (by show cells + 8 + 0 + 0 ≤ 601024 ∧ slots + 48 + 0 + 0 ≤ 7293034; omega) (Nat.le_of_ble_eq_true rfl) dc_L_law_510 (fun v _ H locs hp3 h => ?_)
  obtain rfl := hp3
  replace h : sT Γ s (rW Γ r u2 rl (xW Γ d u.1 u.2.1 u.2.2.1 tl2 u.2.2.2 [(o, oE Γ g2)])) _ _ := h
  refine W.eq (g2 := F0 m 513 ls [.int (nI (u2 20 0))]) rfl ?_
  refine lv_iload C.x C.b dc_L_law_513 (lv_at hl 1 rfl) ?_
  refine bc_eq (tgt := 520) C (by omega) (by omega) dc_L_law_515 (by decide) (fun q515 => ?_) (fun q515 => ?_)
  · refine lv_iload C.x C.b dc_L_law_520 (lv_at hl 1 rfl) ?_
    refine bz_ne (tgt := 537) C (by omega) dc_L_law_522 (by decide) (fun q522 => ?_) (fun q522 => ?_)
    · refine lv_goto (tgt := 1249) C.x C.b dc_L_law_537 (by decide) ?_
      replace h := jr_w h
      refine W.widen (k := cells + 20) (n := slots + 200) (by show cells + 8 + 0 + 0 ≤ cells + 20; omega) (by show slots + 48 + 0 + 0 ≤ slots + 200; omega) ?_
      exact hk _ _ _ _ _ _ _ _ _ _ _ hJ2 h (lv_sub hl [2, 3, 4, 5, 6] rfl)
    · refine lv_aload_n C.x C.b dc_L_law_525 rfl (lv_at hl 5 rfl) ?_
      refine lv_iconst (v := (nI 0)) C.x C.b dc_L_law_526 (by decide +kernel) ?_
      replace h := jr_w h
      refine rg_lld C h 257 lk_o (by omega) (by decide) dc_L_law_527 ?_
      refine lv_iload C.x C.b dc_L_law_528 (lv_at hl 0 rfl) ?_
      refine lv_i2l C.x C.b dc_L_law_530 rfl ?_
      refine W.lcmp C.x C.b dc_L_law_531 ?_
      refine lv_if_eq (tgt := 537) C.x C.b dc_L_law_532 (by decide) (fun q532 => ?_) (fun q532 => ?_)
      · refine lv_goto (tgt := 1249) C.x C.b dc_L_law_537 (by decide) ?_
        refine W.widen (k := cells + 20) (n := slots + 200) (by show cells + 8 + 0 + 0 ≤ cells + 20; omega) (by show slots + 48 + 0 + 0 ≤ slots + 200; omega) ?_
        exact hk _ _ _ _ _ _ _ _ _ _ _ hJ2 h (lv_sub hl [2, 3, 4, 5, 6] rfl)
      · exact absurd (by rw [J3 q522]; exact lg_rf _) q532
  · exact absurd J2 q515

set_option maxRecDepth 100000 in
set_option maxHeartbeats 4000000 in
theorem law_rest {p : Program} {l : Launch} {e : Env} {s : State} {m : MethodId} {below : List Frame} {meth : Method} {c : Code} {Q : State → Prop} {Γ : gG} {b L : Nat} {xs : Nat → Int32} {d : Nat → Nat} {hm : Nat} {mc : va_E} {so : Nat → Nat → Nat} {tl : Nat → Nat → Int64} {tb : Nat → Nat → Nat → Nat} {r : Nat → Nat} {ri : Nat → Nat → Nat} {rl : Nat → Nat → Int64} {o : Nat} {g : Nat → Int64} {i cells slots : Nat} {H : Heap} {locs : List Loc} {ls : Array Slot} (C0 : lwC l Γ p s m meth c b L xs) (hi : i + 5 ≤ L) (hc : cells + 20 ≤ 601024) (hsl : slots + 200 ≤ 7293034) (hJ : JS so tb ri) (h : sT Γ s (jW Γ d hm mc so tl tb r ri rl o g) H locs) (hl : lv_has ls 8 [(0, .ref b), (1, .ref (d 0)), (2, .ref (r 0)), (3, .ref o), (4, .int (nI i))]) (hk : ∀ (hm : Nat) (mc : va_E) (so : Nat → Nat → Nat) (tl : Nat → Nat → Int64) (tb : Nat → Nat → Nat → Nat) (ri : Nat → Nat → Nat) (rl : Nat → Nat → Int64) (g : Nat → Int64) (H : Heap) (locs : List Loc) (ls : Array Slot), JS so tb ri → sT Γ s (jW Γ d hm mc so tl tb r ri rl o g) H locs → lv_has ls 8 [(0, .ref b), (1, .ref (d 0)), (2, .ref (r 0)), (3, .ref o), (4, .int (nI i))] → W p l e room_1 s m #[Value.ref b] below meth c H locs (cells + 20) (slots + 200) Q (F0 m 1249 ls [])) : W p l e room_1 s m #[Value.ref b] below meth c H locs cells slots Q (F0 m 540 ls []) := by
  obtain ⟨C, hX, hN, hS, hL, hst⟩ := C0
  refine lv_aload_n C.x C.b dc_L_law_540 rfl (lv_at hl 1 rfl) ?_
  refine lv_aload_n C.x C.b dc_L_law_541 rfl (lv_at hl 0 rfl) ?_
  refine lv_iload C.x C.b dc_L_law_542 (lv_at hl 4 rfl) ?_
  refine lv_iconst (v := (nI 1)) C.x C.b dc_L_law_544 (by decide +kernel) ?_
  refine lv_iadd C.x C.b dc_L_law_545 ?_
  refine tp_i (nI_add i 1) ?_
  refine rg_sld C h hS  (by omega) (by omega) dc_L_law_546 ?_
  refine lv_aload_n C.x C.b dc_L_law_547 rfl (lv_at hl 0 rfl) ?_
  refine lv_iload C.x C.b dc_L_law_548 (lv_at hl 4 rfl) ?_
  refine lv_iconst (v := (nI 2)) C.x C.b dc_L_law_550 (by decide +kernel) ?_
  refine lv_iadd C.x C.b dc_L_law_551 ?_
  refine tp_i (nI_add i 2) ?_
  refine rg_sld C h hS  (by omega) (by omega) dc_L_law_552 ?_
  refine lv_aload_n C.x C.b dc_L_law_553 rfl (lv_at hl 3 rfl) ?_
  refine kv_SW (n := 4) (As := [.ref (d 0), .int (xs (i + 1)), .int (xs (i + 2)), .ref o]) (rest := []) C hX hN h hl.1 (c_L_rest l Γ d hm mc so tl tb _ o g (xs (i + 1)) (xs (i + 2)) hJ.1 hst) mc_L_rest ms_L_rest in_L lk_L_107 (by decide +kernel) rfl (by decide) (by show cells + 8 ≤ 601024 ∧ slots + 48 ≤ 7293034; omega) (Nat.le_of_ble_eq_true rfl) dc_L_law_554 (fun v u H locs hp h => ?_)
  obtain ⟨k, u, tl2, g2⟩ := u
  obtain ⟨rfl, hk3, hp⟩ := hp
  replace hk3 : k ≤ 2 := hk3
  replace h : sT Γ s (jW Γ d u.1 u.2.1 u.2.2.1 tl2 u.2.2.2 r ri rl o g2) _ _ := h
  refine W.eq (g2 := F0 m 557 ls [.int (nI k)]) rfl ?_
  refine lv_istore (lv' := [(5, .int (nI k)), (0, .ref b), (1, .ref (d 0)), (2, .ref (r 0)), (3, .ref o), (4, .int (nI i))]) C.x C.b dc_L_law_557 hl (by decide) rfl (fun ls hl => ?_)
  refine lv_aload_n C.x C.b dc_L_law_559 rfl (lv_at hl 3 rfl) ?_
  refine lv_aload_n C.x C.b dc_L_law_560 rfl (lv_at hl 1 rfl) ?_
  refine lv_iload C.x C.b dc_L_law_561 (lv_at hl 5 rfl) ?_
  refine lv_iconst (v := (nI 1)) C.x C.b dc_L_law_563 (by decide +kernel) ?_
  refine lv_iadd C.x C.b dc_L_law_564 ?_
  refine tp_i (nI_add i 1) ?_
  refine rg_sld C h hS  (by omega) (by omega) dc_L_law_565 ?_
  refine lv_aload_n C.x C.b dc_L_law_566 rfl (lv_at hl 1 rfl) ?_
  refine lv_iload C.x C.b dc_L_law_567 (lv_at hl 5 rfl) ?_
  refine lv_iconst (v := (nI 2)) C.x C.b dc_L_law_569 (by decide +kernel) ?_
  refine lv_iadd C.x C.b dc_L_law_570 ?_
  refine tp_i (nI_add i 2) ?_
  refine rg_sld C h hS  (by omega) (by omega) dc_L_law_571 ?_
  replace h := jw_r h
  refine kv_V (As := [.int (xs (i + 1)), .int (xs (i + 2))]) (rest := []) C h hl.1 (c_M_rest l Γ r ri rl _ (xs (i + 1)) (xs (i + 2)) hJ.2.1) mw_M_rest lk_L_109 (q0 := 0) rfl rfl rfl (by decide) (by show cells + 8 + 0 ≤ 601024 ∧ slots + 48 + 0 ≤ 7293034; omega) (Nat.le_of_ble_eq_true rfl) dc_L_law_572 (fun v u2 H locs hp2 h => ?_)
  have J := jn_rest hJ hp hp2
  obtain ⟨hJ2, J2, x, rfl, J3⟩ := J
  replace J2 : u2 20 0 = k := J2
  replace J3 : k = 0 → g2 0 = x.toInt64 := J3
  replace h : sT Γ s (rW Γ r u2 rl (xW Γ d u.1 u.2.1 u.2.2.1 tl2 u.2.2.2 [(o, oE Γ g2)])) _ _ := h
  refine W.eq (g2 := F0 m 575 ls [.int x]) rfl ?_
  refine lv_istore (lv' := [(6, .int x), (5, .int (nI k)), (0, .ref b), (1, .ref (d 0)), (2, .ref (r 0)), (3, .ref o), (4, .int (nI i))]) C.x C.b dc_L_law_575 hl (by decide) rfl (fun ls hl => ?_)
  refine lv_aload_n C.x C.b dc_L_law_577 rfl (lv_at hl 4 rfl) ?_
  refine kv_V (As := []) (rest := []) C h hl.1 (c_M_thrown l Γ r u2 rl _) mw_M_thrown lk_L_83 (q0 := 0) rfl rfl rfl (by decide) (by show cells + 8 + 0 + 0 ≤ 601024 ∧ slots + 48 + 0 + 0 ≤ 7293034; omega) (Nat.le_of_ble_eq_true rfl) dc_L_law_578 (fun v _ H locs hp3 h => ?_)
  obtain rfl := hp3
  replace h : sT Γ s (rW Γ r u2 rl (xW Γ d u.1 u.2.1 u.2.2.1 tl2 u.2.2.2 [(o, oE Γ g2)])) _ _ := h
  refine W.eq (g2 := F0 m 581 ls [.int (nI (u2 20 0))]) rfl ?_
  refine lv_iload C.x C.b dc_L_law_581 (lv_at hl 1 rfl) ?_
  refine bc_eq (tgt := 588) C (by omega) (by omega) dc_L_law_583 (by decide) (fun q583 => ?_) (fun q583 => ?_)
  · refine lv_iload C.x C.b dc_L_law_588 (lv_at hl 1 rfl) ?_
    refine bz_ne (tgt := 605) C (by omega) dc_L_law_590 (by decide) (fun q590 => ?_) (fun q590 => ?_)
    · refine lv_goto (tgt := 1249) C.x C.b dc_L_law_605 (by decide) ?_
      replace h := jr_w h
      refine W.widen (k := cells + 20) (n := slots + 200) (by show cells + 8 + 0 + 0 ≤ cells + 20; omega) (by show slots + 48 + 0 + 0 ≤ slots + 200; omega) ?_
      exact hk _ _ _ _ _ _ _ _ _ _ _ hJ2 h (lv_sub hl [2, 3, 4, 5, 6] rfl)
    · refine lv_aload_n C.x C.b dc_L_law_593 rfl (lv_at hl 5 rfl) ?_
      refine lv_iconst (v := (nI 0)) C.x C.b dc_L_law_594 (by decide +kernel) ?_
      replace h := jr_w h
      refine rg_lld C h 257 lk_o (by omega) (by decide) dc_L_law_595 ?_
      refine lv_iload C.x C.b dc_L_law_596 (lv_at hl 0 rfl) ?_
      refine lv_i2l C.x C.b dc_L_law_598 rfl ?_
      refine W.lcmp C.x C.b dc_L_law_599 ?_
      refine lv_if_eq (tgt := 605) C.x C.b dc_L_law_600 (by decide) (fun q600 => ?_) (fun q600 => ?_)
      · refine lv_goto (tgt := 1249) C.x C.b dc_L_law_605 (by decide) ?_
        refine W.widen (k := cells + 20) (n := slots + 200) (by show cells + 8 + 0 + 0 ≤ cells + 20; omega) (by show slots + 48 + 0 + 0 ≤ slots + 200; omega) ?_
        exact hk _ _ _ _ _ _ _ _ _ _ _ hJ2 h (lv_sub hl [2, 3, 4, 5, 6] rfl)
      · exact absurd (by rw [J3 q590]; exact lg_rf _) q600
  · exact absurd J2 q583

set_option maxRecDepth 100000 in
set_option maxHeartbeats 4000000 in
theorem law_beginnings {p : Program} {l : Launch} {e : Env} {s : State} {m : MethodId} {below : List Frame} {meth : Method} {c : Code} {Q : State → Prop} {Γ : gG} {b L : Nat} {xs : Nat → Int32} {d : Nat → Nat} {hm : Nat} {mc : va_E} {so : Nat → Nat → Nat} {tl : Nat → Nat → Int64} {tb : Nat → Nat → Nat → Nat} {r : Nat → Nat} {ri : Nat → Nat → Nat} {rl : Nat → Nat → Int64} {o : Nat} {g : Nat → Int64} {i cells slots : Nat} {H : Heap} {locs : List Loc} {ls : Array Slot} (C0 : lwC l Γ p s m meth c b L xs) (hi : i + 5 ≤ L) (hc : cells + 20 ≤ 601024) (hsl : slots + 200 ≤ 7293034) (hJ : JS so tb ri) (h : sT Γ s (jW Γ d hm mc so tl tb r ri rl o g) H locs) (hl : lv_has ls 8 [(0, .ref b), (1, .ref (d 0)), (2, .ref (r 0)), (3, .ref o), (4, .int (nI i))]) (hk : ∀ (hm : Nat) (mc : va_E) (so : Nat → Nat → Nat) (tl : Nat → Nat → Int64) (tb : Nat → Nat → Nat → Nat) (ri : Nat → Nat → Nat) (rl : Nat → Nat → Int64) (g : Nat → Int64) (H : Heap) (locs : List Loc) (ls : Array Slot), JS so tb ri → sT Γ s (jW Γ d hm mc so tl tb r ri rl o g) H locs → lv_has ls 8 [(0, .ref b), (1, .ref (d 0)), (2, .ref (r 0)), (3, .ref o), (4, .int (nI i))] → W p l e room_1 s m #[Value.ref b] below meth c H locs (cells + 20) (slots + 200) Q (F0 m 1249 ls [])) : W p l e room_1 s m #[Value.ref b] below meth c H locs cells slots Q (F0 m 608 ls []) := by
  obtain ⟨C, hX, hN, hS, hL, hst⟩ := C0
  refine lv_aload_n C.x C.b dc_L_law_608 rfl (lv_at hl 1 rfl) ?_
  refine lv_aload_n C.x C.b dc_L_law_609 rfl (lv_at hl 0 rfl) ?_
  refine lv_iload C.x C.b dc_L_law_610 (lv_at hl 4 rfl) ?_
  refine lv_iconst (v := (nI 1)) C.x C.b dc_L_law_612 (by decide +kernel) ?_
  refine lv_iadd C.x C.b dc_L_law_613 ?_
  refine tp_i (nI_add i 1) ?_
  refine rg_sld C h hS  (by omega) (by omega) dc_L_law_614 ?_
  refine lv_aload_n C.x C.b dc_L_law_615 rfl (lv_at hl 3 rfl) ?_
  refine kv_SW (n := 3) (As := [.ref (d 0), .int (xs (i + 1)), .ref o]) (rest := []) C hX hN h hl.1 (c_L_beginnings l Γ d hm mc so tl tb _ o g (xs (i + 1)) hJ.1 hst) mc_L_beginnings ms_L_beginnings in_L lk_L_110 (by decide +kernel) rfl (by decide) (by show cells + 8 ≤ 601024 ∧ slots + 48 ≤ 7293034; omega) (Nat.le_of_ble_eq_true rfl) dc_L_law_616 (fun v u H locs hp h => ?_)
  obtain ⟨k, u, tl2, g2⟩ := u
  obtain ⟨rfl, hk3, hp⟩ := hp
  replace hk3 : k ≤ 2 := hk3
  replace h : sT Γ s (jW Γ d u.1 u.2.1 u.2.2.1 tl2 u.2.2.2 r ri rl o g2) _ _ := h
  refine W.eq (g2 := F0 m 619 ls [.int (nI k)]) rfl ?_
  refine lv_istore (lv' := [(5, .int (nI k)), (0, .ref b), (1, .ref (d 0)), (2, .ref (r 0)), (3, .ref o), (4, .int (nI i))]) C.x C.b dc_L_law_619 hl (by decide) rfl (fun ls hl => ?_)
  refine lv_aload_n C.x C.b dc_L_law_621 rfl (lv_at hl 3 rfl) ?_
  refine lv_aload_n C.x C.b dc_L_law_622 rfl (lv_at hl 1 rfl) ?_
  refine lv_iload C.x C.b dc_L_law_623 (lv_at hl 5 rfl) ?_
  refine lv_iconst (v := (nI 1)) C.x C.b dc_L_law_625 (by decide +kernel) ?_
  refine lv_iadd C.x C.b dc_L_law_626 ?_
  refine tp_i (nI_add i 1) ?_
  refine rg_sld C h hS  (by omega) (by omega) dc_L_law_627 ?_
  replace h := jw_r h
  refine kv_V (As := [.int (xs (i + 1))]) (rest := []) C h hl.1 (c_M_beginnings l Γ r ri rl _ (xs (i + 1)) hJ.2.1) mw_M_beginnings lk_L_112 (q0 := 0) rfl rfl rfl (by decide) (by show cells + 8 + 0 ≤ 601024 ∧ slots + 48 + 0 ≤ 7293034; omega) (Nat.le_of_ble_eq_true rfl) dc_L_law_628 (fun v u2 H locs hp2 h => ?_)
  have J := jn_beginnings hJ hp hp2
  obtain ⟨hJ2, J2, x, rfl, J3⟩ := J
  replace J2 : u2 20 0 = k := J2
  replace J3 : k = 0 → g2 0 = x.toInt64 := J3
  replace h : sT Γ s (rW Γ r u2 rl (xW Γ d u.1 u.2.1 u.2.2.1 tl2 u.2.2.2 [(o, oE Γ g2)])) _ _ := h
  refine W.eq (g2 := F0 m 631 ls [.int x]) rfl ?_
  refine lv_istore (lv' := [(6, .int x), (5, .int (nI k)), (0, .ref b), (1, .ref (d 0)), (2, .ref (r 0)), (3, .ref o), (4, .int (nI i))]) C.x C.b dc_L_law_631 hl (by decide) rfl (fun ls hl => ?_)
  refine lv_aload_n C.x C.b dc_L_law_633 rfl (lv_at hl 4 rfl) ?_
  refine kv_V (As := []) (rest := []) C h hl.1 (c_M_thrown l Γ r u2 rl _) mw_M_thrown lk_L_83 (q0 := 0) rfl rfl rfl (by decide) (by show cells + 8 + 0 + 0 ≤ 601024 ∧ slots + 48 + 0 + 0 ≤ 7293034; omega) (Nat.le_of_ble_eq_true rfl) dc_L_law_634 (fun v _ H locs hp3 h => ?_)
  obtain rfl := hp3
  replace h : sT Γ s (rW Γ r u2 rl (xW Γ d u.1 u.2.1 u.2.2.1 tl2 u.2.2.2 [(o, oE Γ g2)])) _ _ := h
  refine W.eq (g2 := F0 m 637 ls [.int (nI (u2 20 0))]) rfl ?_
  refine lv_iload C.x C.b dc_L_law_637 (lv_at hl 1 rfl) ?_
  refine bc_eq (tgt := 644) C (by omega) (by omega) dc_L_law_639 (by decide) (fun q639 => ?_) (fun q639 => ?_)
  · refine lv_iload C.x C.b dc_L_law_644 (lv_at hl 1 rfl) ?_
    refine bz_ne (tgt := 661) C (by omega) dc_L_law_646 (by decide) (fun q646 => ?_) (fun q646 => ?_)
    · refine lv_goto (tgt := 1249) C.x C.b dc_L_law_661 (by decide) ?_
      replace h := jr_w h
      refine W.widen (k := cells + 20) (n := slots + 200) (by show cells + 8 + 0 + 0 ≤ cells + 20; omega) (by show slots + 48 + 0 + 0 ≤ slots + 200; omega) ?_
      exact hk _ _ _ _ _ _ _ _ _ _ _ hJ2 h (lv_sub hl [2, 3, 4, 5, 6] rfl)
    · refine lv_aload_n C.x C.b dc_L_law_649 rfl (lv_at hl 5 rfl) ?_
      refine lv_iconst (v := (nI 0)) C.x C.b dc_L_law_650 (by decide +kernel) ?_
      replace h := jr_w h
      refine rg_lld C h 257 lk_o (by omega) (by decide) dc_L_law_651 ?_
      refine lv_iload C.x C.b dc_L_law_652 (lv_at hl 0 rfl) ?_
      refine lv_i2l C.x C.b dc_L_law_654 rfl ?_
      refine W.lcmp C.x C.b dc_L_law_655 ?_
      refine lv_if_eq (tgt := 661) C.x C.b dc_L_law_656 (by decide) (fun q656 => ?_) (fun q656 => ?_)
      · refine lv_goto (tgt := 1249) C.x C.b dc_L_law_661 (by decide) ?_
        refine W.widen (k := cells + 20) (n := slots + 200) (by show cells + 8 + 0 + 0 ≤ cells + 20; omega) (by show slots + 48 + 0 + 0 ≤ slots + 200; omega) ?_
        exact hk _ _ _ _ _ _ _ _ _ _ _ hJ2 h (lv_sub hl [2, 3, 4, 5, 6] rfl)
      · exact absurd (by rw [J3 q646]; exact lg_rf _) q656
  · exact absurd J2 q639

set_option maxRecDepth 100000 in
set_option maxHeartbeats 4000000 in
theorem law_has {p : Program} {l : Launch} {e : Env} {s : State} {m : MethodId} {below : List Frame} {meth : Method} {c : Code} {Q : State → Prop} {Γ : gG} {b L : Nat} {xs : Nat → Int32} {d : Nat → Nat} {hm : Nat} {mc : va_E} {so : Nat → Nat → Nat} {tl : Nat → Nat → Int64} {tb : Nat → Nat → Nat → Nat} {r : Nat → Nat} {ri : Nat → Nat → Nat} {rl : Nat → Nat → Int64} {o : Nat} {g : Nat → Int64} {i cells slots : Nat} {H : Heap} {locs : List Loc} {ls : Array Slot} (C0 : lwC l Γ p s m meth c b L xs) (hi : i + 5 ≤ L) (hc : cells + 20 ≤ 601024) (hsl : slots + 200 ≤ 7293034) (hJ : JS so tb ri) (h : sT Γ s (jW Γ d hm mc so tl tb r ri rl o g) H locs) (hl : lv_has ls 8 [(0, .ref b), (1, .ref (d 0)), (2, .ref (r 0)), (3, .ref o), (4, .int (nI i))]) (hk : ∀ (hm : Nat) (mc : va_E) (so : Nat → Nat → Nat) (tl : Nat → Nat → Int64) (tb : Nat → Nat → Nat → Nat) (ri : Nat → Nat → Nat) (rl : Nat → Nat → Int64) (g : Nat → Int64) (H : Heap) (locs : List Loc) (ls : Array Slot), JS so tb ri → sT Γ s (jW Γ d hm mc so tl tb r ri rl o g) H locs → lv_has ls 8 [(0, .ref b), (1, .ref (d 0)), (2, .ref (r 0)), (3, .ref o), (4, .int (nI i))] → W p l e room_1 s m #[Value.ref b] below meth c H locs (cells + 20) (slots + 200) Q (F0 m 1249 ls [])) : W p l e room_1 s m #[Value.ref b] below meth c H locs cells slots Q (F0 m 664 ls []) := by
  obtain ⟨C, hX, hN, hS, hL, hst⟩ := C0
  refine lv_aload_n C.x C.b dc_L_law_664 rfl (lv_at hl 1 rfl) ?_
  refine lv_aload_n C.x C.b dc_L_law_665 rfl (lv_at hl 0 rfl) ?_
  refine lv_iload C.x C.b dc_L_law_666 (lv_at hl 4 rfl) ?_
  refine lv_iconst (v := (nI 1)) C.x C.b dc_L_law_668 (by decide +kernel) ?_
  refine lv_iadd C.x C.b dc_L_law_669 ?_
  refine tp_i (nI_add i 1) ?_
  refine rg_sld C h hS  (by omega) (by omega) dc_L_law_670 ?_
  refine lv_aload_n C.x C.b dc_L_law_671 rfl (lv_at hl 0 rfl) ?_
  refine lv_iload C.x C.b dc_L_law_672 (lv_at hl 4 rfl) ?_
  refine lv_iconst (v := (nI 2)) C.x C.b dc_L_law_674 (by decide +kernel) ?_
  refine lv_iadd C.x C.b dc_L_law_675 ?_
  refine tp_i (nI_add i 2) ?_
  refine rg_sld C h hS  (by omega) (by omega) dc_L_law_676 ?_
  refine lv_aload_n C.x C.b dc_L_law_677 rfl (lv_at hl 0 rfl) ?_
  refine lv_iload C.x C.b dc_L_law_678 (lv_at hl 4 rfl) ?_
  refine lv_iconst (v := (nI 3)) C.x C.b dc_L_law_680 (by decide +kernel) ?_
  refine lv_iadd C.x C.b dc_L_law_681 ?_
  refine tp_i (nI_add i 3) ?_
  refine rg_sld C h hS  (by omega) (by omega) dc_L_law_682 ?_
  refine lv_i2l C.x C.b dc_L_law_683 rfl ?_
  refine lv_bipush (v := (nI 32)) C.x C.b dc_L_law_684 (by decide +kernel) ?_
  refine lv_lshl C.x C.b dc_L_law_686 rfl ?_
  refine lv_aload_n C.x C.b dc_L_law_687 rfl (lv_at hl 0 rfl) ?_
  refine lv_iload C.x C.b dc_L_law_688 (lv_at hl 4 rfl) ?_
  refine lv_iconst (v := (nI 4)) C.x C.b dc_L_law_690 (by decide +kernel) ?_
  refine lv_iadd C.x C.b dc_L_law_691 ?_
  refine tp_i (nI_add i 4) ?_
  refine rg_sld C h hS  (by omega) (by omega) dc_L_law_692 ?_
  refine lv_i2l C.x C.b dc_L_law_693 rfl ?_
  refine lv_ldc2 C.x C.b C.o (C.t _ gw_l113) dc_L_law_694 ?_
  refine lv_land C.x C.b dc_L_law_697 ?_
  refine lv_lor C.x C.b dc_L_law_698 ?_
  refine lv_topl (fun wd ewd => ?_)
  refine lv_aload_n C.x C.b dc_L_law_699 rfl (lv_at hl 3 rfl) ?_
  refine kv_SW (n := 5) (As := [.ref (d 0), .int (xs (i + 1)), .int (xs (i + 2)), .long wd, .ref o]) (rest := []) C hX hN h hl.1 (c_L_has l Γ d hm mc so tl tb _ o g (xs (i + 1)) (xs (i + 2)) wd hJ.1 hst) mc_L_has ms_L_has in_L lk_L_115 (by decide +kernel) rfl (by decide) (by show cells + 6 ≤ 601024 ∧ slots + 40 ≤ 7293034; omega) (Nat.le_of_ble_eq_true rfl) dc_L_law_700 (fun v u H locs hp h => ?_)
  obtain ⟨k, u, tl2, g2⟩ := u
  obtain ⟨rfl, hk3, ⟨c1, c2, c3⟩, hp⟩ := hp
  replace hk3 : k ≤ 2 := hk3
  replace h : sT Γ s (jW Γ d u.1 u.2.1 u.2.2.1 tl2 u.2.2.2 r ri rl o g2) _ _ := h
  replace c3 : u.2.2.2 = tb := c3
  rw [c3] at h
  refine W.eq (g2 := F0 m 703 ls [.int (nI k)]) rfl ?_
  refine lv_istore (lv' := [(5, .int (nI k)), (0, .ref b), (1, .ref (d 0)), (2, .ref (r 0)), (3, .ref o), (4, .int (nI i))]) C.x C.b dc_L_law_703 hl (by decide) rfl (fun ls hl => ?_)
  refine lv_aload_n C.x C.b dc_L_law_705 rfl (lv_at hl 3 rfl) ?_
  refine lv_aload_n C.x C.b dc_L_law_706 rfl (lv_at hl 1 rfl) ?_
  refine lv_iload C.x C.b dc_L_law_707 (lv_at hl 5 rfl) ?_
  refine lv_iconst (v := (nI 1)) C.x C.b dc_L_law_709 (by decide +kernel) ?_
  refine lv_iadd C.x C.b dc_L_law_710 ?_
  refine tp_i (nI_add i 1) ?_
  refine rg_sld C h hS  (by omega) (by omega) dc_L_law_711 ?_
  refine lv_aload_n C.x C.b dc_L_law_712 rfl (lv_at hl 1 rfl) ?_
  refine lv_iload C.x C.b dc_L_law_713 (lv_at hl 5 rfl) ?_
  refine lv_iconst (v := (nI 2)) C.x C.b dc_L_law_715 (by decide +kernel) ?_
  refine lv_iadd C.x C.b dc_L_law_716 ?_
  refine tp_i (nI_add i 2) ?_
  refine rg_sld C h hS  (by omega) (by omega) dc_L_law_717 ?_
  refine lv_aload_n C.x C.b dc_L_law_718 rfl (lv_at hl 1 rfl) ?_
  refine lv_iload C.x C.b dc_L_law_719 (lv_at hl 5 rfl) ?_
  refine lv_iconst (v := (nI 3)) C.x C.b dc_L_law_721 (by decide +kernel) ?_
  refine lv_iadd C.x C.b dc_L_law_722 ?_
  refine tp_i (nI_add i 3) ?_
  refine rg_sld C h hS  (by omega) (by omega) dc_L_law_723 ?_
  refine lv_i2l C.x C.b dc_L_law_724 rfl ?_
  refine lv_bipush (v := (nI 32)) C.x C.b dc_L_law_725 (by decide +kernel) ?_
  refine lv_lshl C.x C.b dc_L_law_727 rfl ?_
  refine lv_aload_n C.x C.b dc_L_law_728 rfl (lv_at hl 1 rfl) ?_
  refine lv_iload C.x C.b dc_L_law_729 (lv_at hl 5 rfl) ?_
  refine lv_iconst (v := (nI 4)) C.x C.b dc_L_law_731 (by decide +kernel) ?_
  refine lv_iadd C.x C.b dc_L_law_732 ?_
  refine tp_i (nI_add i 4) ?_
  refine rg_sld C h hS  (by omega) (by omega) dc_L_law_733 ?_
  refine lv_i2l C.x C.b dc_L_law_734 rfl ?_
  refine lv_ldc2 C.x C.b C.o (C.t _ gw_l113) dc_L_law_735 ?_
  refine lv_land C.x C.b dc_L_law_738 ?_
  refine lv_lor C.x C.b dc_L_law_739 ?_
  refine tp_l ewd.symm ?_
  replace h := jw_r h
  refine kv_V (As := [.int (xs (i + 1)), .int (xs (i + 2)), .long wd]) (rest := []) C h hl.1 (c_M_has l Γ r ri rl _ (xs (i + 1)) (xs (i + 2)) wd hJ.2.1) mw_M_has lk_L_118 (q0 := 0) rfl rfl rfl (by decide) (by show cells + 6 + 0 ≤ 601024 ∧ slots + 40 + 0 ≤ 7293034; omega) (Nat.le_of_ble_eq_true rfl) dc_L_law_740 (fun v u2 H locs hp2 h => ?_)
  have J := jn_has hJ c1 c2 hp hp2
  obtain ⟨hJ2, J2, x, rfl, J3⟩ := J
  replace J2 : u2 20 0 = k := J2
  replace J3 : k = 0 → g2 0 = if x = 0 then 0 else 1 := J3
  replace h : sT Γ s (rW Γ r u2 rl (xW Γ d u.1 u.2.1 u.2.2.1 tl2 tb [(o, oE Γ g2)])) _ _ := h
  refine W.eq (g2 := F0 m 743 ls [.int x]) rfl ?_
  refine lv_istore (lv' := [(6, .int x), (5, .int (nI k)), (0, .ref b), (1, .ref (d 0)), (2, .ref (r 0)), (3, .ref o), (4, .int (nI i))]) C.x C.b dc_L_law_743 hl (by decide) rfl (fun ls hl => ?_)
  refine lv_aload_n C.x C.b dc_L_law_745 rfl (lv_at hl 4 rfl) ?_
  refine kv_V (As := []) (rest := []) C h hl.1 (c_M_thrown l Γ r u2 rl _) mw_M_thrown lk_L_83 (q0 := 0) rfl rfl rfl (by decide) (by show cells + 6 + 0 + 0 ≤ 601024 ∧ slots + 40 + 0 + 0 ≤ 7293034; omega) (Nat.le_of_ble_eq_true rfl) dc_L_law_746 (fun v _ H locs hp3 h => ?_)
  obtain rfl := hp3
  replace h : sT Γ s (rW Γ r u2 rl (xW Γ d u.1 u.2.1 u.2.2.1 tl2 tb [(o, oE Γ g2)])) _ _ := h
  refine W.eq (g2 := F0 m 749 ls [.int (nI (u2 20 0))]) rfl ?_
  refine lv_iload C.x C.b dc_L_law_749 (lv_at hl 1 rfl) ?_
  refine bc_eq (tgt := 756) C (by omega) (by omega) dc_L_law_751 (by decide) (fun q751 => ?_) (fun q751 => ?_)
  · refine lv_iload C.x C.b dc_L_law_756 (lv_at hl 1 rfl) ?_
    refine bz_ne (tgt := 780) C (by omega) dc_L_law_758 (by decide) (fun q758 => ?_) (fun q758 => ?_)
    · refine lv_goto (tgt := 1249) C.x C.b dc_L_law_780 (by decide) ?_
      replace h := jr_w h
      refine W.widen (k := cells + 20) (n := slots + 200) (by show cells + 6 + 0 + 0 ≤ cells + 20; omega) (by show slots + 40 + 0 + 0 ≤ slots + 200; omega) ?_
      exact hk _ _ _ _ _ _ _ _ _ _ _ hJ2 h (lv_sub hl [2, 3, 4, 5, 6] rfl)
    · refine lv_aload_n C.x C.b dc_L_law_761 rfl (lv_at hl 5 rfl) ?_
      refine lv_iconst (v := (nI 0)) C.x C.b dc_L_law_762 (by decide +kernel) ?_
      replace h := jr_w h
      refine rg_lld C h 257 lk_o (by omega) (by decide) dc_L_law_763 ?_
      refine lv_iload C.x C.b dc_L_law_764 (lv_at hl 0 rfl) ?_
      refine lv_if_eq (tgt := 773) C.x C.b dc_L_law_766 (by decide) (fun q766 => ?_) (fun q766 => ?_)
      · refine lv_lconst (v := 0) C.x C.b dc_L_law_773 (by decide +kernel) ?_
        refine W.lcmp C.x C.b dc_L_law_774 ?_
        refine lv_if_eq (tgt := 780) C.x C.b dc_L_law_775 (by decide) (fun q775 => ?_) (fun q775 => ?_)
        · refine lv_goto (tgt := 1249) C.x C.b dc_L_law_780 (by decide) ?_
          refine W.widen (k := cells + 20) (n := slots + 200) (by show cells + 6 + 0 + 0 ≤ cells + 20; omega) (by show slots + 40 + 0 + 0 ≤ slots + 200; omega) ?_
          exact hk _ _ _ _ _ _ _ _ _ _ _ hJ2 h (lv_sub hl [2, 3, 4, 5, 6] rfl)
        · exact absurd (by rw [J3 q758, if_pos q766]; exact lg_rf _) q775
      · refine lv_lconst (v := 1) C.x C.b dc_L_law_769 (by decide +kernel) ?_
        refine lv_goto (tgt := 774) C.x C.b dc_L_law_770 (by decide) ?_
        refine W.lcmp C.x C.b dc_L_law_774 ?_
        refine lv_if_eq (tgt := 780) C.x C.b dc_L_law_775 (by decide) (fun q775 => ?_) (fun q775 => ?_)
        · refine lv_goto (tgt := 1249) C.x C.b dc_L_law_780 (by decide) ?_
          refine W.widen (k := cells + 20) (n := slots + 200) (by show cells + 6 + 0 + 0 ≤ cells + 20; omega) (by show slots + 40 + 0 + 0 ≤ slots + 200; omega) ?_
          exact hk _ _ _ _ _ _ _ _ _ _ _ hJ2 h (lv_sub hl [2, 3, 4, 5, 6] rfl)
        · exact absurd (by rw [J3 q758, if_neg q766]; exact lg_rf _) q775
  · exact absurd J2 q751

set_option maxRecDepth 100000 in
set_option maxHeartbeats 4000000 in
theorem law_same {p : Program} {l : Launch} {e : Env} {s : State} {m : MethodId} {below : List Frame} {meth : Method} {c : Code} {Q : State → Prop} {Γ : gG} {b L : Nat} {xs : Nat → Int32} {d : Nat → Nat} {hm : Nat} {mc : va_E} {so : Nat → Nat → Nat} {tl : Nat → Nat → Int64} {tb : Nat → Nat → Nat → Nat} {r : Nat → Nat} {ri : Nat → Nat → Nat} {rl : Nat → Nat → Int64} {o : Nat} {g : Nat → Int64} {i cells slots : Nat} {H : Heap} {locs : List Loc} {ls : Array Slot} (C0 : lwC l Γ p s m meth c b L xs) (hi : i + 5 ≤ L) (hc : cells + 20 ≤ 601024) (hsl : slots + 200 ≤ 7293034) (hJ : JS so tb ri) (h : sT Γ s (jW Γ d hm mc so tl tb r ri rl o g) H locs) (hl : lv_has ls 8 [(0, .ref b), (1, .ref (d 0)), (2, .ref (r 0)), (3, .ref o), (4, .int (nI i))]) (hk : ∀ (hm : Nat) (mc : va_E) (so : Nat → Nat → Nat) (tl : Nat → Nat → Int64) (tb : Nat → Nat → Nat → Nat) (ri : Nat → Nat → Nat) (rl : Nat → Nat → Int64) (g : Nat → Int64) (H : Heap) (locs : List Loc) (ls : Array Slot), JS so tb ri → sT Γ s (jW Γ d hm mc so tl tb r ri rl o g) H locs → lv_has ls 8 [(0, .ref b), (1, .ref (d 0)), (2, .ref (r 0)), (3, .ref o), (4, .int (nI i))] → W p l e room_1 s m #[Value.ref b] below meth c H locs (cells + 20) (slots + 200) Q (F0 m 1249 ls [])) : W p l e room_1 s m #[Value.ref b] below meth c H locs cells slots Q (F0 m 783 ls []) := by
  obtain ⟨C, hX, hN, hS, hL, hst⟩ := C0
  refine lv_aload_n C.x C.b dc_L_law_783 rfl (lv_at hl 1 rfl) ?_
  refine lv_aload_n C.x C.b dc_L_law_784 rfl (lv_at hl 0 rfl) ?_
  refine lv_iload C.x C.b dc_L_law_785 (lv_at hl 4 rfl) ?_
  refine lv_iconst (v := (nI 1)) C.x C.b dc_L_law_787 (by decide +kernel) ?_
  refine lv_iadd C.x C.b dc_L_law_788 ?_
  refine tp_i (nI_add i 1) ?_
  refine rg_sld C h hS  (by omega) (by omega) dc_L_law_789 ?_
  refine lv_aload_n C.x C.b dc_L_law_790 rfl (lv_at hl 0 rfl) ?_
  refine lv_iload C.x C.b dc_L_law_791 (lv_at hl 4 rfl) ?_
  refine lv_iconst (v := (nI 2)) C.x C.b dc_L_law_793 (by decide +kernel) ?_
  refine lv_iadd C.x C.b dc_L_law_794 ?_
  refine tp_i (nI_add i 2) ?_
  refine rg_sld C h hS  (by omega) (by omega) dc_L_law_795 ?_
  refine lv_aload_n C.x C.b dc_L_law_796 rfl (lv_at hl 3 rfl) ?_
  refine kv_SW (n := 4) (As := [.ref (d 0), .int (xs (i + 1)), .int (xs (i + 2)), .ref o]) (rest := []) C hX hN h hl.1 (c_L_same l Γ d hm mc so tl tb _ o g (xs (i + 1)) (xs (i + 2)) hJ.1 hst) mc_L_same ms_L_same in_L lk_L_119 (by decide +kernel) rfl (by decide) (by show cells + 6 ≤ 601024 ∧ slots + 40 ≤ 7293034; omega) (Nat.le_of_ble_eq_true rfl) dc_L_law_797 (fun v u H locs hp h => ?_)
  obtain ⟨k, u, tl2, g2⟩ := u
  obtain ⟨rfl, hk3, ⟨c1, c2, c3⟩, hp⟩ := hp
  replace hk3 : k ≤ 2 := hk3
  replace h : sT Γ s (jW Γ d u.1 u.2.1 u.2.2.1 tl2 u.2.2.2 r ri rl o g2) _ _ := h
  replace c3 : u.2.2.2 = tb := c3
  rw [c3] at h
  refine W.eq (g2 := F0 m 800 ls [.int (nI k)]) rfl ?_
  refine lv_istore (lv' := [(5, .int (nI k)), (0, .ref b), (1, .ref (d 0)), (2, .ref (r 0)), (3, .ref o), (4, .int (nI i))]) C.x C.b dc_L_law_800 hl (by decide) rfl (fun ls hl => ?_)
  refine lv_aload_n C.x C.b dc_L_law_802 rfl (lv_at hl 3 rfl) ?_
  refine lv_aload_n C.x C.b dc_L_law_803 rfl (lv_at hl 1 rfl) ?_
  refine lv_iload C.x C.b dc_L_law_804 (lv_at hl 5 rfl) ?_
  refine lv_iconst (v := (nI 1)) C.x C.b dc_L_law_806 (by decide +kernel) ?_
  refine lv_iadd C.x C.b dc_L_law_807 ?_
  refine tp_i (nI_add i 1) ?_
  refine rg_sld C h hS  (by omega) (by omega) dc_L_law_808 ?_
  refine lv_aload_n C.x C.b dc_L_law_809 rfl (lv_at hl 1 rfl) ?_
  refine lv_iload C.x C.b dc_L_law_810 (lv_at hl 5 rfl) ?_
  refine lv_iconst (v := (nI 2)) C.x C.b dc_L_law_812 (by decide +kernel) ?_
  refine lv_iadd C.x C.b dc_L_law_813 ?_
  refine tp_i (nI_add i 2) ?_
  refine rg_sld C h hS  (by omega) (by omega) dc_L_law_814 ?_
  replace h := jw_r h
  refine kv_V (As := [.int (xs (i + 1)), .int (xs (i + 2))]) (rest := []) C h hl.1 (c_M_same l Γ r ri rl _ (xs (i + 1)) (xs (i + 2)) hJ.2.1) mw_M_same lk_L_121 (q0 := 0) rfl rfl rfl (by decide) (by show cells + 6 + 0 ≤ 601024 ∧ slots + 40 + 0 ≤ 7293034; omega) (Nat.le_of_ble_eq_true rfl) dc_L_law_815 (fun v u2 H locs hp2 h => ?_)
  have J := jn_same hJ c1 c2 hp hp2
  obtain ⟨hJ2, J2, x, rfl, J3⟩ := J
  replace J2 : u2 20 0 = k := J2
  replace J3 : k = 0 → g2 0 = if x = 0 then 0 else 1 := J3
  replace h : sT Γ s (rW Γ r u2 rl (xW Γ d u.1 u.2.1 u.2.2.1 tl2 tb [(o, oE Γ g2)])) _ _ := h
  refine W.eq (g2 := F0 m 818 ls [.int x]) rfl ?_
  refine lv_istore (lv' := [(6, .int x), (5, .int (nI k)), (0, .ref b), (1, .ref (d 0)), (2, .ref (r 0)), (3, .ref o), (4, .int (nI i))]) C.x C.b dc_L_law_818 hl (by decide) rfl (fun ls hl => ?_)
  refine lv_aload_n C.x C.b dc_L_law_820 rfl (lv_at hl 4 rfl) ?_
  refine kv_V (As := []) (rest := []) C h hl.1 (c_M_thrown l Γ r u2 rl _) mw_M_thrown lk_L_83 (q0 := 0) rfl rfl rfl (by decide) (by show cells + 6 + 0 + 0 ≤ 601024 ∧ slots + 40 + 0 + 0 ≤ 7293034; omega) (Nat.le_of_ble_eq_true rfl) dc_L_law_821 (fun v _ H locs hp3 h => ?_)
  obtain rfl := hp3
  replace h : sT Γ s (rW Γ r u2 rl (xW Γ d u.1 u.2.1 u.2.2.1 tl2 tb [(o, oE Γ g2)])) _ _ := h
  refine W.eq (g2 := F0 m 824 ls [.int (nI (u2 20 0))]) rfl ?_
  refine lv_iload C.x C.b dc_L_law_824 (lv_at hl 1 rfl) ?_
  refine bc_eq (tgt := 831) C (by omega) (by omega) dc_L_law_826 (by decide) (fun q826 => ?_) (fun q826 => ?_)
  · refine lv_iload C.x C.b dc_L_law_831 (lv_at hl 1 rfl) ?_
    refine bz_ne (tgt := 855) C (by omega) dc_L_law_833 (by decide) (fun q833 => ?_) (fun q833 => ?_)
    · refine lv_goto (tgt := 1249) C.x C.b dc_L_law_855 (by decide) ?_
      replace h := jr_w h
      refine W.widen (k := cells + 20) (n := slots + 200) (by show cells + 6 + 0 + 0 ≤ cells + 20; omega) (by show slots + 40 + 0 + 0 ≤ slots + 200; omega) ?_
      exact hk _ _ _ _ _ _ _ _ _ _ _ hJ2 h (lv_sub hl [2, 3, 4, 5, 6] rfl)
    · refine lv_aload_n C.x C.b dc_L_law_836 rfl (lv_at hl 5 rfl) ?_
      refine lv_iconst (v := (nI 0)) C.x C.b dc_L_law_837 (by decide +kernel) ?_
      replace h := jr_w h
      refine rg_lld C h 257 lk_o (by omega) (by decide) dc_L_law_838 ?_
      refine lv_iload C.x C.b dc_L_law_839 (lv_at hl 0 rfl) ?_
      refine lv_if_eq (tgt := 848) C.x C.b dc_L_law_841 (by decide) (fun q841 => ?_) (fun q841 => ?_)
      · refine lv_lconst (v := 0) C.x C.b dc_L_law_848 (by decide +kernel) ?_
        refine W.lcmp C.x C.b dc_L_law_849 ?_
        refine lv_if_eq (tgt := 855) C.x C.b dc_L_law_850 (by decide) (fun q850 => ?_) (fun q850 => ?_)
        · refine lv_goto (tgt := 1249) C.x C.b dc_L_law_855 (by decide) ?_
          refine W.widen (k := cells + 20) (n := slots + 200) (by show cells + 6 + 0 + 0 ≤ cells + 20; omega) (by show slots + 40 + 0 + 0 ≤ slots + 200; omega) ?_
          exact hk _ _ _ _ _ _ _ _ _ _ _ hJ2 h (lv_sub hl [2, 3, 4, 5, 6] rfl)
        · exact absurd (by rw [J3 q833, if_pos q841]; exact lg_rf _) q850
      · refine lv_lconst (v := 1) C.x C.b dc_L_law_844 (by decide +kernel) ?_
        refine lv_goto (tgt := 849) C.x C.b dc_L_law_845 (by decide) ?_
        refine W.lcmp C.x C.b dc_L_law_849 ?_
        refine lv_if_eq (tgt := 855) C.x C.b dc_L_law_850 (by decide) (fun q850 => ?_) (fun q850 => ?_)
        · refine lv_goto (tgt := 1249) C.x C.b dc_L_law_855 (by decide) ?_
          refine W.widen (k := cells + 20) (n := slots + 200) (by show cells + 6 + 0 + 0 ≤ cells + 20; omega) (by show slots + 40 + 0 + 0 ≤ slots + 200; omega) ?_
          exact hk _ _ _ _ _ _ _ _ _ _ _ hJ2 h (lv_sub hl [2, 3, 4, 5, 6] rfl)
        · exact absurd (by rw [J3 q833, if_neg q841]; exact lg_rf _) q850
  · exact absurd J2 q826

set_option maxRecDepth 100000 in
set_option maxHeartbeats 4000000 in
theorem law_inside {p : Program} {l : Launch} {e : Env} {s : State} {m : MethodId} {below : List Frame} {meth : Method} {c : Code} {Q : State → Prop} {Γ : gG} {b L : Nat} {xs : Nat → Int32} {d : Nat → Nat} {hm : Nat} {mc : va_E} {so : Nat → Nat → Nat} {tl : Nat → Nat → Int64} {tb : Nat → Nat → Nat → Nat} {r : Nat → Nat} {ri : Nat → Nat → Nat} {rl : Nat → Nat → Int64} {o : Nat} {g : Nat → Int64} {i cells slots : Nat} {H : Heap} {locs : List Loc} {ls : Array Slot} (C0 : lwC l Γ p s m meth c b L xs) (hi : i + 5 ≤ L) (hc : cells + 20 ≤ 601024) (hsl : slots + 200 ≤ 7293034) (hJ : JS so tb ri) (h : sT Γ s (jW Γ d hm mc so tl tb r ri rl o g) H locs) (hl : lv_has ls 8 [(0, .ref b), (1, .ref (d 0)), (2, .ref (r 0)), (3, .ref o), (4, .int (nI i))]) (hk : ∀ (hm : Nat) (mc : va_E) (so : Nat → Nat → Nat) (tl : Nat → Nat → Int64) (tb : Nat → Nat → Nat → Nat) (ri : Nat → Nat → Nat) (rl : Nat → Nat → Int64) (g : Nat → Int64) (H : Heap) (locs : List Loc) (ls : Array Slot), JS so tb ri → sT Γ s (jW Γ d hm mc so tl tb r ri rl o g) H locs → lv_has ls 8 [(0, .ref b), (1, .ref (d 0)), (2, .ref (r 0)), (3, .ref o), (4, .int (nI i))] → W p l e room_1 s m #[Value.ref b] below meth c H locs (cells + 20) (slots + 200) Q (F0 m 1249 ls [])) : W p l e room_1 s m #[Value.ref b] below meth c H locs cells slots Q (F0 m 858 ls []) := by
  obtain ⟨C, hX, hN, hS, hL, hst⟩ := C0
  refine lv_aload_n C.x C.b dc_L_law_858 rfl (lv_at hl 1 rfl) ?_
  refine lv_aload_n C.x C.b dc_L_law_859 rfl (lv_at hl 0 rfl) ?_
  refine lv_iload C.x C.b dc_L_law_860 (lv_at hl 4 rfl) ?_
  refine lv_iconst (v := (nI 1)) C.x C.b dc_L_law_862 (by decide +kernel) ?_
  refine lv_iadd C.x C.b dc_L_law_863 ?_
  refine tp_i (nI_add i 1) ?_
  refine rg_sld C h hS  (by omega) (by omega) dc_L_law_864 ?_
  refine lv_aload_n C.x C.b dc_L_law_865 rfl (lv_at hl 0 rfl) ?_
  refine lv_iload C.x C.b dc_L_law_866 (lv_at hl 4 rfl) ?_
  refine lv_iconst (v := (nI 2)) C.x C.b dc_L_law_868 (by decide +kernel) ?_
  refine lv_iadd C.x C.b dc_L_law_869 ?_
  refine tp_i (nI_add i 2) ?_
  refine rg_sld C h hS  (by omega) (by omega) dc_L_law_870 ?_
  refine lv_aload_n C.x C.b dc_L_law_871 rfl (lv_at hl 3 rfl) ?_
  refine kv_SW (n := 4) (As := [.ref (d 0), .int (xs (i + 1)), .int (xs (i + 2)), .ref o]) (rest := []) C hX hN h hl.1 (c_L_inside l Γ d hm mc so tl tb _ o g (xs (i + 1)) (xs (i + 2)) hJ.1 hst) mc_L_inside ms_L_inside in_L lk_L_122 (by decide +kernel) rfl (by decide) (by show cells + 6 ≤ 601024 ∧ slots + 40 ≤ 7293034; omega) (Nat.le_of_ble_eq_true rfl) dc_L_law_872 (fun v u H locs hp h => ?_)
  obtain ⟨k, u, tl2, g2⟩ := u
  obtain ⟨rfl, hk3, ⟨c1, c2, c3⟩, hp⟩ := hp
  replace hk3 : k ≤ 2 := hk3
  replace h : sT Γ s (jW Γ d u.1 u.2.1 u.2.2.1 tl2 u.2.2.2 r ri rl o g2) _ _ := h
  replace c3 : u.2.2.2 = tb := c3
  rw [c3] at h
  refine W.eq (g2 := F0 m 875 ls [.int (nI k)]) rfl ?_
  refine lv_istore (lv' := [(5, .int (nI k)), (0, .ref b), (1, .ref (d 0)), (2, .ref (r 0)), (3, .ref o), (4, .int (nI i))]) C.x C.b dc_L_law_875 hl (by decide) rfl (fun ls hl => ?_)
  refine lv_aload_n C.x C.b dc_L_law_877 rfl (lv_at hl 3 rfl) ?_
  refine lv_aload_n C.x C.b dc_L_law_878 rfl (lv_at hl 1 rfl) ?_
  refine lv_iload C.x C.b dc_L_law_879 (lv_at hl 5 rfl) ?_
  refine lv_iconst (v := (nI 1)) C.x C.b dc_L_law_881 (by decide +kernel) ?_
  refine lv_iadd C.x C.b dc_L_law_882 ?_
  refine tp_i (nI_add i 1) ?_
  refine rg_sld C h hS  (by omega) (by omega) dc_L_law_883 ?_
  refine lv_aload_n C.x C.b dc_L_law_884 rfl (lv_at hl 1 rfl) ?_
  refine lv_iload C.x C.b dc_L_law_885 (lv_at hl 5 rfl) ?_
  refine lv_iconst (v := (nI 2)) C.x C.b dc_L_law_887 (by decide +kernel) ?_
  refine lv_iadd C.x C.b dc_L_law_888 ?_
  refine tp_i (nI_add i 2) ?_
  refine rg_sld C h hS  (by omega) (by omega) dc_L_law_889 ?_
  replace h := jw_r h
  refine kv_V (As := [.int (xs (i + 1)), .int (xs (i + 2))]) (rest := []) C h hl.1 (c_M_inside l Γ r ri rl _ (xs (i + 1)) (xs (i + 2)) hJ.2.1) mw_M_inside lk_L_124 (q0 := 0) rfl rfl rfl (by decide) (by show cells + 6 + 0 ≤ 601024 ∧ slots + 40 + 0 ≤ 7293034; omega) (Nat.le_of_ble_eq_true rfl) dc_L_law_890 (fun v u2 H locs hp2 h => ?_)
  have J := jn_inside hJ c1 c2 hp hp2
  obtain ⟨hJ2, J2, x, rfl, J3⟩ := J
  replace J2 : u2 20 0 = k := J2
  replace J3 : k = 0 → g2 0 = if x = 0 then 0 else 1 := J3
  replace h : sT Γ s (rW Γ r u2 rl (xW Γ d u.1 u.2.1 u.2.2.1 tl2 tb [(o, oE Γ g2)])) _ _ := h
  refine W.eq (g2 := F0 m 893 ls [.int x]) rfl ?_
  refine lv_istore (lv' := [(6, .int x), (5, .int (nI k)), (0, .ref b), (1, .ref (d 0)), (2, .ref (r 0)), (3, .ref o), (4, .int (nI i))]) C.x C.b dc_L_law_893 hl (by decide) rfl (fun ls hl => ?_)
  refine lv_aload_n C.x C.b dc_L_law_895 rfl (lv_at hl 4 rfl) ?_
  refine kv_V (As := []) (rest := []) C h hl.1 (c_M_thrown l Γ r u2 rl _) mw_M_thrown lk_L_83 (q0 := 0) rfl rfl rfl (by decide) (by show cells + 6 + 0 + 0 ≤ 601024 ∧ slots + 40 + 0 + 0 ≤ 7293034; omega) (Nat.le_of_ble_eq_true rfl) dc_L_law_896 (fun v _ H locs hp3 h => ?_)
  obtain rfl := hp3
  replace h : sT Γ s (rW Γ r u2 rl (xW Γ d u.1 u.2.1 u.2.2.1 tl2 tb [(o, oE Γ g2)])) _ _ := h
  refine W.eq (g2 := F0 m 899 ls [.int (nI (u2 20 0))]) rfl ?_
  refine lv_iload C.x C.b dc_L_law_899 (lv_at hl 1 rfl) ?_
  refine bc_eq (tgt := 906) C (by omega) (by omega) dc_L_law_901 (by decide) (fun q901 => ?_) (fun q901 => ?_)
  · refine lv_iload C.x C.b dc_L_law_906 (lv_at hl 1 rfl) ?_
    refine bz_ne (tgt := 930) C (by omega) dc_L_law_908 (by decide) (fun q908 => ?_) (fun q908 => ?_)
    · refine lv_goto (tgt := 1249) C.x C.b dc_L_law_930 (by decide) ?_
      replace h := jr_w h
      refine W.widen (k := cells + 20) (n := slots + 200) (by show cells + 6 + 0 + 0 ≤ cells + 20; omega) (by show slots + 40 + 0 + 0 ≤ slots + 200; omega) ?_
      exact hk _ _ _ _ _ _ _ _ _ _ _ hJ2 h (lv_sub hl [2, 3, 4, 5, 6] rfl)
    · refine lv_aload_n C.x C.b dc_L_law_911 rfl (lv_at hl 5 rfl) ?_
      refine lv_iconst (v := (nI 0)) C.x C.b dc_L_law_912 (by decide +kernel) ?_
      replace h := jr_w h
      refine rg_lld C h 257 lk_o (by omega) (by decide) dc_L_law_913 ?_
      refine lv_iload C.x C.b dc_L_law_914 (lv_at hl 0 rfl) ?_
      refine lv_if_eq (tgt := 923) C.x C.b dc_L_law_916 (by decide) (fun q916 => ?_) (fun q916 => ?_)
      · refine lv_lconst (v := 0) C.x C.b dc_L_law_923 (by decide +kernel) ?_
        refine W.lcmp C.x C.b dc_L_law_924 ?_
        refine lv_if_eq (tgt := 930) C.x C.b dc_L_law_925 (by decide) (fun q925 => ?_) (fun q925 => ?_)
        · refine lv_goto (tgt := 1249) C.x C.b dc_L_law_930 (by decide) ?_
          refine W.widen (k := cells + 20) (n := slots + 200) (by show cells + 6 + 0 + 0 ≤ cells + 20; omega) (by show slots + 40 + 0 + 0 ≤ slots + 200; omega) ?_
          exact hk _ _ _ _ _ _ _ _ _ _ _ hJ2 h (lv_sub hl [2, 3, 4, 5, 6] rfl)
        · exact absurd (by rw [J3 q908, if_pos q916]; exact lg_rf _) q925
      · refine lv_lconst (v := 1) C.x C.b dc_L_law_919 (by decide +kernel) ?_
        refine lv_goto (tgt := 924) C.x C.b dc_L_law_920 (by decide) ?_
        refine W.lcmp C.x C.b dc_L_law_924 ?_
        refine lv_if_eq (tgt := 930) C.x C.b dc_L_law_925 (by decide) (fun q925 => ?_) (fun q925 => ?_)
        · refine lv_goto (tgt := 1249) C.x C.b dc_L_law_930 (by decide) ?_
          refine W.widen (k := cells + 20) (n := slots + 200) (by show cells + 6 + 0 + 0 ≤ cells + 20; omega) (by show slots + 40 + 0 + 0 ≤ slots + 200; omega) ?_
          exact hk _ _ _ _ _ _ _ _ _ _ _ hJ2 h (lv_sub hl [2, 3, 4, 5, 6] rfl)
        · exact absurd (by rw [J3 q908, if_neg q916]; exact lg_rf _) q925
  · exact absurd J2 q901
