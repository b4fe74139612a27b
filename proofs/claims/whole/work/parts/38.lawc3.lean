set_option maxRecDepth 100000 in
set_option maxHeartbeats 4000000 in
theorem law_rests {p : Program} {l : Launch} {e : Env} {s : State} {m : MethodId} {below : List Frame} {meth : Method} {c : Code} {Q : State → Prop} {Γ : gG} {b L : Nat} {xs : Nat → Int32} {d : Nat → Nat} {hm : Nat} {mc : va_E} {so : Nat → Nat → Nat} {tl : Nat → Nat → Int64} {tb : Nat → Nat → Nat → Nat} {r : Nat → Nat} {ri : Nat → Nat → Nat} {rl : Nat → Nat → Int64} {o : Nat} {g : Nat → Int64} {i cells slots : Nat} {H : Heap} {locs : List Loc} {ls : Array Slot} (C0 : lwC l Γ p s m meth c b L xs) (hi : i + 5 ≤ L) (hc : cells + 20 ≤ 601024) (hsl : slots + 200 ≤ 7293034) (hJ : JS so tb ri) (h : sT Γ s (jW Γ d hm mc so tl tb r ri rl o g) H locs) (hl : lv_has ls 8 [(0, .ref b), (1, .ref (d 0)), (2, .ref (r 0)), (3, .ref o), (4, .int (nI i))]) (hk : ∀ (hm : Nat) (mc : va_E) (so : Nat → Nat → Nat) (tl : Nat → Nat → Int64) (tb : Nat → Nat → Nat → Nat) (ri : Nat → Nat → Nat) (rl : Nat → Nat → Int64) (g : Nat → Int64) (H : Heap) (locs : List Loc) (ls : Array Slot), JS so tb ri → sT Γ s (jW Γ d hm mc so tl tb r ri rl o g) H locs → lv_has ls 8 [(0, .ref b), (1, .ref (d 0)), (2, .ref (r 0)), (3, .ref o), (4, .int (nI i))] → W p l e room_1 s m #[Value.ref b] below meth c H locs (cells + 20) (slots + 200) Q (F0 m 1249 ls [])) : W p l e room_1 s m #[Value.ref b] below meth c H locs cells slots Q (F0 m 933 ls []) := by
  obtain ⟨C, hX, hN, hS, hL, hst⟩ := C0
  refine lv_aload_n C.x C.b dc_L_law_933 rfl (lv_at hl 1 rfl) ?_
  refine lv_aload_n C.x C.b dc_L_law_934 rfl (lv_at hl 0 rfl) ?_
  refine lv_iload C.x C.b dc_L_law_935 (lv_at hl 4 rfl) ?_
  refine lv_iconst (v := (nI 1)) C.x C.b dc_L_law_937 (by decide +kernel) ?_
  refine lv_iadd C.x C.b dc_L_law_938 ?_
  refine tp_i (nI_add i 1) ?_
  refine rg_sld C h hS  (by omega) (by omega) dc_L_law_939 ?_
  refine lv_aload_n C.x C.b dc_L_law_940 rfl (lv_at hl 3 rfl) ?_
  refine kv_SW (n := 3) (As := [.ref (d 0), .int (xs (i + 1)), .ref o]) (rest := []) C hX hN h hl.1 (c_L_rests l Γ d hm mc so tl tb _ o g (xs (i + 1)) hJ.1 hst) mc_L_rests ms_L_rests in_L lk_L_125 (by decide +kernel) rfl (by decide) (by show cells + 6 ≤ 601024 ∧ slots + 40 ≤ 7293034; omega) (Nat.le_of_ble_eq_true rfl) dc_L_law_941 (fun v u H locs hp h => ?_)
  obtain ⟨k, u, tl2, g2⟩ := u
  obtain ⟨rfl, hk3, ⟨c1, c2, c3⟩, hp⟩ := hp
  replace hk3 : k ≤ 2 := hk3
  replace h : sT Γ s (jW Γ d u.1 u.2.1 u.2.2.1 tl2 u.2.2.2 r ri rl o g2) _ _ := h
  replace c3 : u.2.2.2 = tb := c3
  rw [c3] at h
  refine W.eq (g2 := F0 m 944 ls [.int (nI k)]) rfl ?_
  refine lv_istore (lv' := [(5, .int (nI k)), (0, .ref b), (1, .ref (d 0)), (2, .ref (r 0)), (3, .ref o), (4, .int (nI i))]) C.x C.b dc_L_law_944 hl (by decide) rfl (fun ls hl => ?_)
  refine lv_aload_n C.x C.b dc_L_law_946 rfl (lv_at hl 3 rfl) ?_
  refine lv_aload_n C.x C.b dc_L_law_947 rfl (lv_at hl 1 rfl) ?_
  refine lv_iload C.x C.b dc_L_law_948 (lv_at hl 5 rfl) ?_
  refine lv_iconst (v := (nI 1)) C.x C.b dc_L_law_950 (by decide +kernel) ?_
  refine lv_iadd C.x C.b dc_L_law_951 ?_
  refine tp_i (nI_add i 1) ?_
  refine rg_sld C h hS  (by omega) (by omega) dc_L_law_952 ?_
  replace h := jw_r h
  refine kv_V (As := [.int (xs (i + 1))]) (rest := []) C h hl.1 (c_M_rests l Γ r ri rl _ (xs (i + 1)) hJ.2.1) mw_M_rests lk_L_127 (q0 := 0) rfl rfl rfl (by decide) (by show cells + 6 + 0 ≤ 601024 ∧ slots + 40 + 0 ≤ 7293034; omega) (Nat.le_of_ble_eq_true rfl) dc_L_law_953 (fun v u2 H locs hp2 h => ?_)
  have J := jn_rests hJ c1 c2 hp hp2
  obtain ⟨hJ2, J2, x, rfl, J3⟩ := J
  replace J2 : u2 20 0 = k := J2
  replace J3 : k = 0 → g2 0 = x.toInt64 := J3
  replace h : sT Γ s (rW Γ r u2 rl (xW Γ d u.1 u.2.1 u.2.2.1 tl2 tb [(o, oE Γ g2)])) _ _ := h
  refine W.eq (g2 := F0 m 956 ls [.int x]) rfl ?_
  refine lv_istore (lv' := [(6, .int x), (5, .int (nI k)), (0, .ref b), (1, .ref (d 0)), (2, .ref (r 0)), (3, .ref o), (4, .int (nI i))]) C.x C.b dc_L_law_956 hl (by decide) rfl (fun ls hl => ?_)
  refine lv_aload_n C.x C.b dc_L_law_958 rfl (lv_at hl 4 rfl) ?_
  refine kv_V (As := []) (rest := []) C h hl.1 (c_M_thrown l Γ r u2 rl _) mw_M_thrown lk_L_83 (q0 := 0) rfl rfl rfl (by decide) (by show cells + 6 + 0 + 0 ≤ 601024 ∧ slots + 40 + 0 + 0 ≤ 7293034; omega) (Nat.le_of_ble_eq_true rfl) dc_L_law_959 (fun v _ H locs hp3 h => ?_)
  obtain rfl := hp3
  replace h : sT Γ s (rW Γ r u2 rl (xW Γ d u.1 u.2.1 u.2.2.1 tl2 tb [(o, oE Γ g2)])) _ _ := h
  refine W.eq (g2 := F0 m 962 ls [.int (nI (u2 20 0))]) rfl ?_
  refine lv_iload C.x C.b dc_L_law_962 (lv_at hl 1 rfl) ?_
  refine bc_eq (tgt := 969) C (by omega) (by omega) dc_L_law_964 (by decide) (fun q964 => ?_) (fun q964 => ?_)
  · refine lv_iload C.x C.b dc_L_law_969 (lv_at hl 1 rfl) ?_
    refine bz_ne (tgt := 986) C (by omega) dc_L_law_971 (by decide) (fun q971 => ?_) (fun q971 => ?_)
    · refine lv_goto (tgt := 1249) C.x C.b dc_L_law_986 (by decide) ?_
      replace h := jr_w h
      refine W.widen (k := cells + 20) (n := slots + 200) (by show cells + 6 + 0 + 0 ≤ cells + 20; omega) (by show slots + 40 + 0 + 0 ≤ slots + 200; omega) ?_
      exact hk _ _ _ _ _ _ _ _ _ _ _ hJ2 h (lv_sub hl [2, 3, 4, 5, 6] rfl)
    · refine lv_aload_n C.x C.b dc_L_law_974 rfl (lv_at hl 5 rfl) ?_
      refine lv_iconst (v := (nI 0)) C.x C.b dc_L_law_975 (by decide +kernel) ?_
      replace h := jr_w h
      refine rg_lld C h 257 lk_o (by omega) (by decide) dc_L_law_976 ?_
      refine lv_iload C.x C.b dc_L_law_977 (lv_at hl 0 rfl) ?_
      refine lv_i2l C.x C.b dc_L_law_979 rfl ?_
      refine W.lcmp C.x C.b dc_L_law_980 ?_
      refine lv_if_eq (tgt := 986) C.x C.b dc_L_law_981 (by decide) (fun q981 => ?_) (fun q981 => ?_)
      · refine lv_goto (tgt := 1249) C.x C.b dc_L_law_986 (by decide) ?_
        refine W.widen (k := cells + 20) (n := slots + 200) (by show cells + 6 + 0 + 0 ≤ cells + 20; omega) (by show slots + 40 + 0 + 0 ≤ slots + 200; omega) ?_
        exact hk _ _ _ _ _ _ _ _ _ _ _ hJ2 h (lv_sub hl [2, 3, 4, 5, 6] rfl)
      · exact absurd (by rw [J3 q971]; exact lg_rf _) q981
  · exact absurd J2 q964

set_option maxRecDepth 100000 in
set_option maxHeartbeats 4000000 in
theorem law_words {p : Program} {l : Launch} {e : Env} {s : State} {m : MethodId} {below : List Frame} {meth : Method} {c : Code} {Q : State → Prop} {Γ : gG} {b L : Nat} {xs : Nat → Int32} {d : Nat → Nat} {hm : Nat} {mc : va_E} {so : Nat → Nat → Nat} {tl : Nat → Nat → Int64} {tb : Nat → Nat → Nat → Nat} {r : Nat → Nat} {ri : Nat → Nat → Nat} {rl : Nat → Nat → Int64} {o : Nat} {g : Nat → Int64} {i cells slots : Nat} {H : Heap} {locs : List Loc} {ls : Array Slot} (C0 : lwC l Γ p s m meth c b L xs) (hi : i + 5 ≤ L) (hc : cells + 20 ≤ 601024) (hsl : slots + 200 ≤ 7293034) (hJ : JS so tb ri) (h : sT Γ s (jW Γ d hm mc so tl tb r ri rl o g) H locs) (hl : lv_has ls 8 [(0, .ref b), (1, .ref (d 0)), (2, .ref (r 0)), (3, .ref o), (4, .int (nI i))]) (hk : ∀ (hm : Nat) (mc : va_E) (so : Nat → Nat → Nat) (tl : Nat → Nat → Int64) (tb : Nat → Nat → Nat → Nat) (ri : Nat → Nat → Nat) (rl : Nat → Nat → Int64) (g : Nat → Int64) (H : Heap) (locs : List Loc) (ls : Array Slot), JS so tb ri → sT Γ s (jW Γ d hm mc so tl tb r ri rl o g) H locs → lv_has ls 8 [(0, .ref b), (1, .ref (d 0)), (2, .ref (r 0)), (3, .ref o), (4, .int (nI i))] → W p l e room_1 s m #[Value.ref b] below meth c H locs (cells + 20) (slots + 200) Q (F0 m 1249 ls [])) : W p l e room_1 s m #[Value.ref b] below meth c H locs cells slots Q (F0 m 989 ls []) := by
  obtain ⟨C, hX, hN, hS, hL, hst⟩ := C0
  refine lv_aload_n C.x C.b dc_L_law_989 rfl (lv_at hl 1 rfl) ?_
  refine lv_aload_n C.x C.b dc_L_law_990 rfl (lv_at hl 0 rfl) ?_
  refine lv_iload C.x C.b dc_L_law_991 (lv_at hl 4 rfl) ?_
  refine lv_iconst (v := (nI 1)) C.x C.b dc_L_law_993 (by decide +kernel) ?_
  refine lv_iadd C.x C.b dc_L_law_994 ?_
  refine tp_i (nI_add i 1) ?_
  refine rg_sld C h hS  (by omega) (by omega) dc_L_law_995 ?_
  refine lv_aload_n C.x C.b dc_L_law_996 rfl (lv_at hl 0 rfl) ?_
  refine lv_iload C.x C.b dc_L_law_997 (lv_at hl 4 rfl) ?_
  refine lv_iconst (v := (nI 2)) C.x C.b dc_L_law_999 (by decide +kernel) ?_
  refine lv_iadd C.x C.b dc_L_law_1000 ?_
  refine tp_i (nI_add i 2) ?_
  refine rg_sld C h hS  (by omega) (by omega) dc_L_law_1001 ?_
  refine lv_aload_n C.x C.b dc_L_law_1002 rfl (lv_at hl 3 rfl) ?_
  refine kv_SW (n := 4) (As := [.ref (d 0), .int (xs (i + 1)), .int (xs (i + 2)), .ref o]) (rest := []) C hX hN h hl.1 (c_L_words l Γ d hm mc so tl tb _ o g (xs (i + 1)) (xs (i + 2)) hJ.1 hst) mc_L_words ms_L_words in_L lk_L_128 (by decide +kernel) rfl (by decide) (by show cells + 6 ≤ 601024 ∧ slots + 40 ≤ 7293034; omega) (Nat.le_of_ble_eq_true rfl) dc_L_law_1003 (fun v u H locs hp h => ?_)
  obtain ⟨k, u, tl2, g2⟩ := u
  obtain ⟨rfl, hk3, ⟨c1, c2, c3⟩, hp⟩ := hp
  replace hk3 : k ≤ 2 := hk3
  replace h : sT Γ s (jW Γ d u.1 u.2.1 u.2.2.1 tl2 u.2.2.2 r ri rl o g2) _ _ := h
  replace c3 : u.2.2.2 = tb := c3
  rw [c3] at h
  refine W.eq (g2 := F0 m 1006 ls [.int (nI k)]) rfl ?_
  refine lv_istore (lv' := [(5, .int (nI k)), (0, .ref b), (1, .ref (d 0)), (2, .ref (r 0)), (3, .ref o), (4, .int (nI i))]) C.x C.b dc_L_law_1006 hl (by decide) rfl (fun ls hl => ?_)
  refine lv_aload_n C.x C.b dc_L_law_1008 rfl (lv_at hl 3 rfl) ?_
  refine lv_aload_n C.x C.b dc_L_law_1009 rfl (lv_at hl 1 rfl) ?_
  refine lv_iload C.x C.b dc_L_law_1010 (lv_at hl 5 rfl) ?_
  refine lv_iconst (v := (nI 1)) C.x C.b dc_L_law_1012 (by decide +kernel) ?_
  refine lv_iadd C.x C.b dc_L_law_1013 ?_
  refine tp_i (nI_add i 1) ?_
  refine rg_sld C h hS  (by omega) (by omega) dc_L_law_1014 ?_
  refine lv_aload_n C.x C.b dc_L_law_1015 rfl (lv_at hl 1 rfl) ?_
  refine lv_iload C.x C.b dc_L_law_1016 (lv_at hl 5 rfl) ?_
  refine lv_iconst (v := (nI 2)) C.x C.b dc_L_law_1018 (by decide +kernel) ?_
  refine lv_iadd C.x C.b dc_L_law_1019 ?_
  refine tp_i (nI_add i 2) ?_
  refine rg_sld C h hS  (by omega) (by omega) dc_L_law_1020 ?_
  replace h := jw_r h
  refine kv_V (As := [.int (xs (i + 1)), .int (xs (i + 2))]) (rest := []) C h hl.1 (c_M_words l Γ r ri rl _ (xs (i + 1)) (xs (i + 2)) hJ.2.1) mw_M_words lk_L_130 (q0 := 0) rfl rfl rfl (by decide) (by show cells + 6 + 0 ≤ 601024 ∧ slots + 40 + 0 ≤ 7293034; omega) (Nat.le_of_ble_eq_true rfl) dc_L_law_1021 (fun v u2 H locs hp2 h => ?_)
  obtain ⟨u2, rl2⟩ := u2
  have J := jn_words hJ c1 c2 hp hp2
  obtain ⟨hJ2, J2, x, rfl, J3⟩ := J
  replace J2 : u2 20 0 = k := J2
  replace J3 : k = 0 → g2 0 = x := J3
  replace h : sT Γ s (rW Γ r u2 rl2 (xW Γ d u.1 u.2.1 u.2.2.1 tl2 tb [(o, oE Γ g2)])) _ _ := h
  refine W.eq (g2 := F0 m 1024 ls [.long x]) rfl ?_
  refine lv_lstore (lv' := [(6, .long x), (5, .int (nI k)), (0, .ref b), (1, .ref (d 0)), (2, .ref (r 0)), (3, .ref o), (4, .int (nI i))]) C.x C.b dc_L_law_1024 hl (by decide) rfl (fun ls hl => ?_)
  refine lv_aload_n C.x C.b dc_L_law_1026 rfl (lv_at hl 4 rfl) ?_
  refine kv_V (As := []) (rest := []) C h hl.1 (c_M_thrown l Γ r u2 rl2 _) mw_M_thrown lk_L_83 (q0 := 0) rfl rfl rfl (by decide) (by show cells + 6 + 0 + 0 ≤ 601024 ∧ slots + 40 + 0 + 0 ≤ 7293034; omega) (Nat.le_of_ble_eq_true rfl) dc_L_law_1027 (fun v _ H locs hp3 h => ?_)
  obtain rfl := hp3
  replace h : sT Γ s (rW Γ r u2 rl2 (xW Γ d u.1 u.2.1 u.2.2.1 tl2 tb [(o, oE Γ g2)])) _ _ := h
  refine W.eq (g2 := F0 m 1030 ls [.int (nI (u2 20 0))]) rfl ?_
  refine lv_iload C.x C.b dc_L_law_1030 (lv_at hl 1 rfl) ?_
  refine bc_eq (tgt := 1037) C (by omega) (by omega) dc_L_law_1032 (by decide) (fun q1032 => ?_) (fun q1032 => ?_)
  · refine lv_iload C.x C.b dc_L_law_1037 (lv_at hl 1 rfl) ?_
    refine bz_ne (tgt := 1053) C (by omega) dc_L_law_1039 (by decide) (fun q1039 => ?_) (fun q1039 => ?_)
    · refine lv_goto (tgt := 1249) C.x C.b dc_L_law_1053 (by decide) ?_
      replace h := jr_w h
      refine W.widen (k := cells + 20) (n := slots + 200) (by show cells + 6 + 0 + 0 ≤ cells + 20; omega) (by show slots + 40 + 0 + 0 ≤ slots + 200; omega) ?_
      exact hk _ _ _ _ _ _ _ _ _ _ _ hJ2 h (lv_sub hl [2, 3, 4, 5, 6] rfl)
    · refine lv_aload_n C.x C.b dc_L_law_1042 rfl (lv_at hl 5 rfl) ?_
      refine lv_iconst (v := (nI 0)) C.x C.b dc_L_law_1043 (by decide +kernel) ?_
      replace h := jr_w h
      refine rg_lld C h 257 lk_o (by omega) (by decide) dc_L_law_1044 ?_
      refine lv_lload C.x C.b dc_L_law_1045 (lv_at hl 0 rfl) ?_
      refine W.lcmp C.x C.b dc_L_law_1047 ?_
      refine lv_if_eq (tgt := 1053) C.x C.b dc_L_law_1048 (by decide) (fun q1048 => ?_) (fun q1048 => ?_)
      · refine lv_goto (tgt := 1249) C.x C.b dc_L_law_1053 (by decide) ?_
        refine W.widen (k := cells + 20) (n := slots + 200) (by show cells + 6 + 0 + 0 ≤ cells + 20; omega) (by show slots + 40 + 0 + 0 ≤ slots + 200; omega) ?_
        exact hk _ _ _ _ _ _ _ _ _ _ _ hJ2 h (lv_sub hl [2, 3, 4, 5, 6] rfl)
      · exact absurd (by rw [J3 q1039]; exact lg_rf _) q1048
  · exact absurd J2 q1032

set_option maxRecDepth 100000 in
set_option maxHeartbeats 4000000 in
theorem law_shortest {p : Program} {l : Launch} {e : Env} {s : State} {m : MethodId} {below : List Frame} {meth : Method} {c : Code} {Q : State → Prop} {Γ : gG} {b L : Nat} {xs : Nat → Int32} {d : Nat → Nat} {hm : Nat} {mc : va_E} {so : Nat → Nat → Nat} {tl : Nat → Nat → Int64} {tb : Nat → Nat → Nat → Nat} {r : Nat → Nat} {ri : Nat → Nat → Nat} {rl : Nat → Nat → Int64} {o : Nat} {g : Nat → Int64} {i cells slots : Nat} {H : Heap} {locs : List Loc} {ls : Array Slot} (C0 : lwC l Γ p s m meth c b L xs) (hi : i + 5 ≤ L) (hc : cells + 20 ≤ 601024) (hsl : slots + 200 ≤ 7293034) (hJ : JS so tb ri) (h : sT Γ s (jW Γ d hm mc so tl tb r ri rl o g) H locs) (hl : lv_has ls 8 [(0, .ref b), (1, .ref (d 0)), (2, .ref (r 0)), (3, .ref o), (4, .int (nI i))]) (hk : ∀ (hm : Nat) (mc : va_E) (so : Nat → Nat → Nat) (tl : Nat → Nat → Int64) (tb : Nat → Nat → Nat → Nat) (ri : Nat → Nat → Nat) (rl : Nat → Nat → Int64) (g : Nat → Int64) (H : Heap) (locs : List Loc) (ls : Array Slot), JS so tb ri → sT Γ s (jW Γ d hm mc so tl tb r ri rl o g) H locs → lv_has ls 8 [(0, .ref b), (1, .ref (d 0)), (2, .ref (r 0)), (3, .ref o), (4, .int (nI i))] → W p l e room_1 s m #[Value.ref b] below meth c H locs (cells + 20) (slots + 200) Q (F0 m 1249 ls [])) : W p l e room_1 s m #[Value.ref b] below meth c H locs cells slots Q (F0 m 1056 ls []) := by
  obtain ⟨C, hX, hN, hS, hL, hst⟩ := C0
  refine lv_aload_n C.x C.b dc_L_law_1056 rfl (lv_at hl 1 rfl) ?_
  refine lv_aload_n C.x C.b dc_L_law_1057 rfl (lv_at hl 0 rfl) ?_
  refine lv_iload C.x C.b dc_L_law_1058 (lv_at hl 4 rfl) ?_
  refine lv_iconst (v := (nI 1)) C.x C.b dc_L_law_1060 (by decide +kernel) ?_
  refine lv_iadd C.x C.b dc_L_law_1061 ?_
  refine tp_i (nI_add i 1) ?_
  refine rg_sld C h hS  (by omega) (by omega) dc_L_law_1062 ?_
  refine lv_aload_n C.x C.b dc_L_law_1063 rfl (lv_at hl 3 rfl) ?_
  refine kv_SW (n := 3) (As := [.ref (d 0), .int (xs (i + 1)), .ref o]) (rest := []) C hX hN h hl.1 (c_L_shortest l Γ d hm mc so tl tb _ o g (xs (i + 1)) hJ.1 hst) mc_L_shortest ms_L_shortest in_L lk_L_131 (by decide +kernel) rfl (by decide) (by show cells + 6 ≤ 601024 ∧ slots + 40 ≤ 7293034; omega) (Nat.le_of_ble_eq_true rfl) dc_L_law_1064 (fun v u H locs hp h => ?_)
  obtain ⟨k, u, tl2, g2⟩ := u
  obtain ⟨rfl, hk3, ⟨c1, c2, c3⟩, hp⟩ := hp
  replace hk3 : k ≤ 2 := hk3
  replace h : sT Γ s (jW Γ d u.1 u.2.1 u.2.2.1 tl2 u.2.2.2 r ri rl o g2) _ _ := h
  replace c3 : u.2.2.2 = tb := c3
  rw [c3] at h
  refine W.eq (g2 := F0 m 1067 ls [.int (nI k)]) rfl ?_
  refine lv_istore (lv' := [(5, .int (nI k)), (0, .ref b), (1, .ref (d 0)), (2, .ref (r 0)), (3, .ref o), (4, .int (nI i))]) C.x C.b dc_L_law_1067 hl (by decide) rfl (fun ls hl => ?_)
  refine lv_aload_n C.x C.b dc_L_law_1069 rfl (lv_at hl 3 rfl) ?_
  refine lv_aload_n C.x C.b dc_L_law_1070 rfl (lv_at hl 1 rfl) ?_
  refine lv_iload C.x C.b dc_L_law_1071 (lv_at hl 5 rfl) ?_
  refine lv_iconst (v := (nI 1)) C.x C.b dc_L_law_1073 (by decide +kernel) ?_
  refine lv_iadd C.x C.b dc_L_law_1074 ?_
  refine tp_i (nI_add i 1) ?_
  refine rg_sld C h hS  (by omega) (by omega) dc_L_law_1075 ?_
  replace h := jw_r h
  refine kv_V (As := [.int (xs (i + 1))]) (rest := []) C h hl.1 (c_M_shortest l Γ r ri rl _ (xs (i + 1)) hJ.2.1) mw_M_shortest lk_L_133 (q0 := 0) rfl rfl rfl (by decide) (by show cells + 6 + 0 ≤ 601024 ∧ slots + 40 + 0 ≤ 7293034; omega) (Nat.le_of_ble_eq_true rfl) dc_L_law_1076 (fun v u2 H locs hp2 h => ?_)
  have J := jn_shortest hJ c1 c2 hp hp2
  obtain ⟨hJ2, J2, x, rfl, J3⟩ := J
  replace J2 : u2 20 0 = k := J2
  replace J3 : k = 0 → g2 0 = x.toInt64 := J3
  replace h : sT Γ s (rW Γ r u2 rl (xW Γ d u.1 u.2.1 u.2.2.1 tl2 tb [(o, oE Γ g2)])) _ _ := h
  refine W.eq (g2 := F0 m 1079 ls [.int x]) rfl ?_
  refine lv_istore (lv' := [(6, .int x), (5, .int (nI k)), (0, .ref b), (1, .ref (d 0)), (2, .ref (r 0)), (3, .ref o), (4, .int (nI i))]) C.x C.b dc_L_law_1079 hl (by decide) rfl (fun ls hl => ?_)
  refine lv_aload_n C.x C.b dc_L_law_1081 rfl (lv_at hl 4 rfl) ?_
  refine kv_V (As := []) (rest := []) C h hl.1 (c_M_thrown l Γ r u2 rl _) mw_M_thrown lk_L_83 (q0 := 0) rfl rfl rfl (by decide) (by show cells + 6 + 0 + 0 ≤ 601024 ∧ slots + 40 + 0 + 0 ≤ 7293034; omega) (Nat.le_of_ble_eq_true rfl) dc_L_law_1082 (fun v _ H locs hp3 h => ?_)
  obtain rfl := hp3
  replace h : sT Γ s (rW Γ r u2 rl (xW Γ d u.1 u.2.1 u.2.2.1 tl2 tb [(o, oE Γ g2)])) _ _ := h
  refine W.eq (g2 := F0 m 1085 ls [.int (nI (u2 20 0))]) rfl ?_
  refine lv_iload C.x C.b dc_L_law_1085 (lv_at hl 1 rfl) ?_
  refine bc_eq (tgt := 1092) C (by omega) (by omega) dc_L_law_1087 (by decide) (fun q1087 => ?_) (fun q1087 => ?_)
  · refine lv_iload C.x C.b dc_L_law_1092 (lv_at hl 1 rfl) ?_
    refine bz_ne (tgt := 1109) C (by omega) dc_L_law_1094 (by decide) (fun q1094 => ?_) (fun q1094 => ?_)
    · refine lv_goto (tgt := 1249) C.x C.b dc_L_law_1109 (by decide) ?_
      replace h := jr_w h
      refine W.widen (k := cells + 20) (n := slots + 200) (by show cells + 6 + 0 + 0 ≤ cells + 20; omega) (by show slots + 40 + 0 + 0 ≤ slots + 200; omega) ?_
      exact hk _ _ _ _ _ _ _ _ _ _ _ hJ2 h (lv_sub hl [2, 3, 4, 5, 6] rfl)
    · refine lv_aload_n C.x C.b dc_L_law_1097 rfl (lv_at hl 5 rfl) ?_
      refine lv_iconst (v := (nI 0)) C.x C.b dc_L_law_1098 (by decide +kernel) ?_
      replace h := jr_w h
      refine rg_lld C h 257 lk_o (by omega) (by decide) dc_L_law_1099 ?_
      refine lv_iload C.x C.b dc_L_law_1100 (lv_at hl 0 rfl) ?_
      refine lv_i2l C.x C.b dc_L_law_1102 rfl ?_
      refine W.lcmp C.x C.b dc_L_law_1103 ?_
      refine lv_if_eq (tgt := 1109) C.x C.b dc_L_law_1104 (by decide) (fun q1104 => ?_) (fun q1104 => ?_)
      · refine lv_goto (tgt := 1249) C.x C.b dc_L_law_1109 (by decide) ?_
        refine W.widen (k := cells + 20) (n := slots + 200) (by show cells + 6 + 0 + 0 ≤ cells + 20; omega) (by show slots + 40 + 0 + 0 ≤ slots + 200; omega) ?_
        exact hk _ _ _ _ _ _ _ _ _ _ _ hJ2 h (lv_sub hl [2, 3, 4, 5, 6] rfl)
      · exact absurd (by rw [J3 q1094]; exact lg_rf _) q1104
  · exact absurd J2 q1087

set_option maxRecDepth 100000 in
set_option maxHeartbeats 4000000 in
theorem law_letter {p : Program} {l : Launch} {e : Env} {s : State} {m : MethodId} {below : List Frame} {meth : Method} {c : Code} {Q : State → Prop} {Γ : gG} {b L : Nat} {xs : Nat → Int32} {d : Nat → Nat} {hm : Nat} {mc : va_E} {so : Nat → Nat → Nat} {tl : Nat → Nat → Int64} {tb : Nat → Nat → Nat → Nat} {r : Nat → Nat} {ri : Nat → Nat → Nat} {rl : Nat → Nat → Int64} {o : Nat} {g : Nat → Int64} {i cells slots : Nat} {H : Heap} {locs : List Loc} {ls : Array Slot} (C0 : lwC l Γ p s m meth c b L xs) (hi : i + 5 ≤ L) (hc : cells + 20 ≤ 601024) (hsl : slots + 200 ≤ 7293034) (hJ : JS so tb ri) (h : sT Γ s (jW Γ d hm mc so tl tb r ri rl o g) H locs) (hl : lv_has ls 8 [(0, .ref b), (1, .ref (d 0)), (2, .ref (r 0)), (3, .ref o), (4, .int (nI i))]) (hk : ∀ (hm : Nat) (mc : va_E) (so : Nat → Nat → Nat) (tl : Nat → Nat → Int64) (tb : Nat → Nat → Nat → Nat) (ri : Nat → Nat → Nat) (rl : Nat → Nat → Int64) (g : Nat → Int64) (H : Heap) (locs : List Loc) (ls : Array Slot), JS so tb ri → sT Γ s (jW Γ d hm mc so tl tb r ri rl o g) H locs → lv_has ls 8 [(0, .ref b), (1, .ref (d 0)), (2, .ref (r 0)), (3, .ref o), (4, .int (nI i))] → W p l e room_1 s m #[Value.ref b] below meth c H locs (cells + 20) (slots + 200) Q (F0 m 1249 ls [])) : W p l e room_1 s m #[Value.ref b] below meth c H locs cells slots Q (F0 m 1112 ls []) := by
  obtain ⟨C, hX, hN, hS, hL, hst⟩ := C0
  refine lv_aload_n C.x C.b dc_L_law_1112 rfl (lv_at hl 1 rfl) ?_
  refine lv_aload_n C.x C.b dc_L_law_1113 rfl (lv_at hl 0 rfl) ?_
  refine lv_iload C.x C.b dc_L_law_1114 (lv_at hl 4 rfl) ?_
  refine lv_iconst (v := (nI 1)) C.x C.b dc_L_law_1116 (by decide +kernel) ?_
  refine lv_iadd C.x C.b dc_L_law_1117 ?_
  refine tp_i (nI_add i 1) ?_
  refine rg_sld C h hS  (by omega) (by omega) dc_L_law_1118 ?_
  refine lv_aload_n C.x C.b dc_L_law_1119 rfl (lv_at hl 0 rfl) ?_
  refine lv_iload C.x C.b dc_L_law_1120 (lv_at hl 4 rfl) ?_
  refine lv_iconst (v := (nI 2)) C.x C.b dc_L_law_1122 (by decide +kernel) ?_
  refine lv_iadd C.x C.b dc_L_law_1123 ?_
  refine tp_i (nI_add i 2) ?_
  refine rg_sld C h hS  (by omega) (by omega) dc_L_law_1124 ?_
  refine lv_aload_n C.x C.b dc_L_law_1125 rfl (lv_at hl 3 rfl) ?_
  refine kv_SW (n := 4) (As := [.ref (d 0), .int (xs (i + 1)), .int (xs (i + 2)), .ref o]) (rest := []) C hX hN h hl.1 (c_L_letter l Γ d hm mc so tl tb _ o g (xs (i + 1)) (xs (i + 2)) hJ.1 hst) mc_L_letter ms_L_letter in_L lk_L_134 (by decide +kernel) rfl (by decide) (by show cells + 6 ≤ 601024 ∧ slots + 40 ≤ 7293034; omega) (Nat.le_of_ble_eq_true rfl) dc_L_law_1126 (fun v u H locs hp h => ?_)
  obtain ⟨k, u, tl2, g2⟩ := u
  obtain ⟨rfl, hk3, ⟨c1, c2, c3⟩, hp⟩ := hp
  replace hk3 : k ≤ 2 := hk3
  replace h : sT Γ s (jW Γ d u.1 u.2.1 u.2.2.1 tl2 u.2.2.2 r ri rl o g2) _ _ := h
  replace c3 : u.2.2.2 = tb := c3
  rw [c3] at h
  refine W.eq (g2 := F0 m 1129 ls [.int (nI k)]) rfl ?_
  refine lv_istore (lv' := [(5, .int (nI k)), (0, .ref b), (1, .ref (d 0)), (2, .ref (r 0)), (3, .ref o), (4, .int (nI i))]) C.x C.b dc_L_law_1129 hl (by decide) rfl (fun ls hl => ?_)
  refine lv_aload_n C.x C.b dc_L_law_1131 rfl (lv_at hl 3 rfl) ?_
  refine lv_aload_n C.x C.b dc_L_law_1132 rfl (lv_at hl 1 rfl) ?_
  refine lv_iload C.x C.b dc_L_law_1133 (lv_at hl 5 rfl) ?_
  refine lv_iconst (v := (nI 1)) C.x C.b dc_L_law_1135 (by decide +kernel) ?_
  refine lv_iadd C.x C.b dc_L_law_1136 ?_
  refine tp_i (nI_add i 1) ?_
  refine rg_sld C h hS  (by omega) (by omega) dc_L_law_1137 ?_
  refine lv_aload_n C.x C.b dc_L_law_1138 rfl (lv_at hl 1 rfl) ?_
  refine lv_iload C.x C.b dc_L_law_1139 (lv_at hl 5 rfl) ?_
  refine lv_iconst (v := (nI 2)) C.x C.b dc_L_law_1141 (by decide +kernel) ?_
  refine lv_iadd C.x C.b dc_L_law_1142 ?_
  refine tp_i (nI_add i 2) ?_
  refine rg_sld C h hS  (by omega) (by omega) dc_L_law_1143 ?_
  replace h := jw_r h
  refine kv_V (As := [.int (xs (i + 1)), .int (xs (i + 2))]) (rest := []) C h hl.1 (c_M_letter l Γ r ri rl _ (xs (i + 1)) (xs (i + 2)) hJ.2.1) mw_M_letter lk_L_136 (q0 := 0) rfl rfl rfl (by decide) (by show cells + 6 + 0 ≤ 601024 ∧ slots + 40 + 0 ≤ 7293034; omega) (Nat.le_of_ble_eq_true rfl) dc_L_law_1144 (fun v u2 H locs hp2 h => ?_)
  have J := jn_letter hJ c1 c2 hp hp2
  obtain ⟨hJ2, J2, x, rfl, J3⟩ := J
  replace J2 : u2 20 0 = k := J2
  replace J3 : k = 0 → g2 0 = x.toInt64 := J3
  replace h : sT Γ s (rW Γ r u2 rl (xW Γ d u.1 u.2.1 u.2.2.1 tl2 tb [(o, oE Γ g2)])) _ _ := h
  refine W.eq (g2 := F0 m 1147 ls [.int x]) rfl ?_
  refine lv_istore (lv' := [(6, .int x), (5, .int (nI k)), (0, .ref b), (1, .ref (d 0)), (2, .ref (r 0)), (3, .ref o), (4, .int (nI i))]) C.x C.b dc_L_law_1147 hl (by decide) rfl (fun ls hl => ?_)
  refine lv_aload_n C.x C.b dc_L_law_1149 rfl (lv_at hl 4 rfl) ?_
  refine kv_V (As := []) (rest := []) C h hl.1 (c_M_thrown l Γ r u2 rl _) mw_M_thrown lk_L_83 (q0 := 0) rfl rfl rfl (by decide) (by show cells + 6 + 0 + 0 ≤ 601024 ∧ slots + 40 + 0 + 0 ≤ 7293034; omega) (Nat.le_of_ble_eq_true rfl) dc_L_law_1150 (fun v _ H locs hp3 h => ?_)
  obtain rfl := hp3
  replace h : sT Γ s (rW Γ r u2 rl (xW Γ d u.1 u.2.1 u.2.2.1 tl2 tb [(o, oE Γ g2)])) _ _ := h
  refine W.eq (g2 := F0 m 1153 ls [.int (nI (u2 20 0))]) rfl ?_
  refine lv_iload C.x C.b dc_L_law_1153 (lv_at hl 1 rfl) ?_
  refine bc_eq (tgt := 1160) C (by omega) (by omega) dc_L_law_1155 (by decide) (fun q1155 => ?_) (fun q1155 => ?_)
  · refine lv_iload C.x C.b dc_L_law_1160 (lv_at hl 1 rfl) ?_
    refine bz_ne (tgt := 1177) C (by omega) dc_L_law_1162 (by decide) (fun q1162 => ?_) (fun q1162 => ?_)
    · refine lv_goto (tgt := 1249) C.x C.b dc_L_law_1177 (by decide) ?_
      replace h := jr_w h
      refine W.widen (k := cells + 20) (n := slots + 200) (by show cells + 6 + 0 + 0 ≤ cells + 20; omega) (by show slots + 40 + 0 + 0 ≤ slots + 200; omega) ?_
      exact hk _ _ _ _ _ _ _ _ _ _ _ hJ2 h (lv_sub hl [2, 3, 4, 5, 6] rfl)
    · refine lv_aload_n C.x C.b dc_L_law_1165 rfl (lv_at hl 5 rfl) ?_
      refine lv_iconst (v := (nI 0)) C.x C.b dc_L_law_1166 (by decide +kernel) ?_
      replace h := jr_w h
      refine rg_lld C h 257 lk_o (by omega) (by decide) dc_L_law_1167 ?_
      refine lv_iload C.x C.b dc_L_law_1168 (lv_at hl 0 rfl) ?_
      refine lv_i2l C.x C.b dc_L_law_1170 rfl ?_
      refine W.lcmp C.x C.b dc_L_law_1171 ?_
      refine lv_if_eq (tgt := 1177) C.x C.b dc_L_law_1172 (by decide) (fun q1172 => ?_) (fun q1172 => ?_)
      · refine lv_goto (tgt := 1249) C.x C.b dc_L_law_1177 (by decide) ?_
        refine W.widen (k := cells + 20) (n := slots + 200) (by show cells + 6 + 0 + 0 ≤ cells + 20; omega) (by show slots + 40 + 0 + 0 ≤ slots + 200; omega) ?_
        exact hk _ _ _ _ _ _ _ _ _ _ _ hJ2 h (lv_sub hl [2, 3, 4, 5, 6] rfl)
      · exact absurd (by rw [J3 q1162]; exact lg_rf _) q1172
  · exact absurd J2 q1155

set_option maxRecDepth 100000 in
set_option maxHeartbeats 4000000 in
theorem law_size {p : Program} {l : Launch} {e : Env} {s : State} {m : MethodId} {below : List Frame} {meth : Method} {c : Code} {Q : State → Prop} {Γ : gG} {b L : Nat} {xs : Nat → Int32} {d : Nat → Nat} {hm : Nat} {mc : va_E} {so : Nat → Nat → Nat} {tl : Nat → Nat → Int64} {tb : Nat → Nat → Nat → Nat} {r : Nat → Nat} {ri : Nat → Nat → Nat} {rl : Nat → Nat → Int64} {o : Nat} {g : Nat → Int64} {i cells slots : Nat} {H : Heap} {locs : List Loc} {ls : Array Slot} (C0 : lwC l Γ p s m meth c b L xs) (hi : i + 5 ≤ L) (hc : cells + 20 ≤ 601024) (hsl : slots + 200 ≤ 7293034) (hJ : JS so tb ri) (h : sT Γ s (jW Γ d hm mc so tl tb r ri rl o g) H locs) (hl : lv_has ls 8 [(0, .ref b), (1, .ref (d 0)), (2, .ref (r 0)), (3, .ref o), (4, .int (nI i))]) (hk : ∀ (hm : Nat) (mc : va_E) (so : Nat → Nat → Nat) (tl : Nat → Nat → Int64) (tb : Nat → Nat → Nat → Nat) (ri : Nat → Nat → Nat) (rl : Nat → Nat → Int64) (g : Nat → Int64) (H : Heap) (locs : List Loc) (ls : Array Slot), JS so tb ri → sT Γ s (jW Γ d hm mc so tl tb r ri rl o g) H locs → lv_has ls 8 [(0, .ref b), (1, .ref (d 0)), (2, .ref (r 0)), (3, .ref o), (4, .int (nI i))] → W p l e room_1 s m #[Value.ref b] below meth c H locs (cells + 20) (slots + 200) Q (F0 m 1249 ls [])) : W p l e room_1 s m #[Value.ref b] below meth c H locs cells slots Q (F0 m 1180 ls []) := by
  obtain ⟨C, hX, hN, hS, hL, hst⟩ := C0
  refine lv_aload_n C.x C.b dc_L_law_1180 rfl (lv_at hl 1 rfl) ?_
  refine lv_aload_n C.x C.b dc_L_law_1181 rfl (lv_at hl 0 rfl) ?_
  refine lv_iload C.x C.b dc_L_law_1182 (lv_at hl 4 rfl) ?_
  refine lv_iconst (v := (nI 1)) C.x C.b dc_L_law_1184 (by decide +kernel) ?_
  refine lv_iadd C.x C.b dc_L_law_1185 ?_
  refine tp_i (nI_add i 1) ?_
  refine rg_sld C h hS  (by omega) (by omega) dc_L_law_1186 ?_
  refine lv_aload_n C.x C.b dc_L_law_1187 rfl (lv_at hl 3 rfl) ?_
  refine kv_SW (n := 3) (As := [.ref (d 0), .int (xs (i + 1)), .ref o]) (rest := []) C hX hN h hl.1 (c_L_size l Γ d hm mc so tl tb _ o g (xs (i + 1)) hJ.1 hst) mc_L_size ms_L_size in_L lk_L_137 (by decide +kernel) rfl (by decide) (by show cells + 6 ≤ 601024 ∧ slots + 40 ≤ 7293034; omega) (Nat.le_of_ble_eq_true rfl) dc_L_law_1188 (fun v u H locs hp h => ?_)
  obtain ⟨k, u, tl2, g2⟩ := u
  obtain ⟨rfl, hk3, ⟨c1, c2, c3⟩, hp⟩ := hp
  replace hk3 : k ≤ 2 := hk3
  replace h : sT Γ s (jW Γ d u.1 u.2.1 u.2.2.1 tl2 u.2.2.2 r ri rl o g2) _ _ := h
  replace c3 : u.2.2.2 = tb := c3
  rw [c3] at h
  refine W.eq (g2 := F0 m 1191 ls [.int (nI k)]) rfl ?_
  refine lv_istore (lv' := [(5, .int (nI k)), (0, .ref b), (1, .ref (d 0)), (2, .ref (r 0)), (3, .ref o), (4, .int (nI i))]) C.x C.b dc_L_law_1191 hl (by decide) rfl (fun ls hl => ?_)
  refine lv_aload_n C.x C.b dc_L_law_1193 rfl (lv_at hl 3 rfl) ?_
  refine lv_aload_n C.x C.b dc_L_law_1194 rfl (lv_at hl 1 rfl) ?_
  refine lv_iload C.x C.b dc_L_law_1195 (lv_at hl 5 rfl) ?_
  refine lv_iconst (v := (nI 1)) C.x C.b dc_L_law_1197 (by decide +kernel) ?_
  refine lv_iadd C.x C.b dc_L_law_1198 ?_
  refine tp_i (nI_add i 1) ?_
  refine rg_sld C h hS  (by omega) (by omega) dc_L_law_1199 ?_
  replace h := jw_r h
  refine kv_V (As := [.int (xs (i + 1))]) (rest := []) C h hl.1 (c_M_size l Γ r ri rl _ (xs (i + 1)) hJ.2.1) mw_M_size lk_L_139 (q0 := 0) rfl rfl rfl (by decide) (by show cells + 6 + 0 ≤ 601024 ∧ slots + 40 + 0 ≤ 7293034; omega) (Nat.le_of_ble_eq_true rfl) dc_L_law_1200 (fun v u2 H locs hp2 h => ?_)
  obtain ⟨u2, rl2⟩ := u2
  have J := jn_size hJ c1 c2 hp hp2
  obtain ⟨hJ2, J2, x, rfl, J3⟩ := J
  replace J2 : u2 20 0 = k := J2
  replace J3 : k = 0 → g2 0 = x.toInt64 := J3
  replace h : sT Γ s (rW Γ r u2 rl2 (xW Γ d u.1 u.2.1 u.2.2.1 tl2 tb [(o, oE Γ g2)])) _ _ := h
  refine W.eq (g2 := F0 m 1203 ls [.int x]) rfl ?_
  refine lv_istore (lv' := [(6, .int x), (5, .int (nI k)), (0, .ref b), (1, .ref (d 0)), (2, .ref (r 0)), (3, .ref o), (4, .int (nI i))]) C.x C.b dc_L_law_1203 hl (by decide) rfl (fun ls hl => ?_)
  refine lv_aload_n C.x C.b dc_L_law_1205 rfl (lv_at hl 4 rfl) ?_
  refine kv_V (As := []) (rest := []) C h hl.1 (c_M_thrown l Γ r u2 rl2 _) mw_M_thrown lk_L_83 (q0 := 0) rfl rfl rfl (by decide) (by show cells + 6 + 0 + 0 ≤ 601024 ∧ slots + 40 + 0 + 0 ≤ 7293034; omega) (Nat.le_of_ble_eq_true rfl) dc_L_law_1206 (fun v _ H locs hp3 h => ?_)
  obtain rfl := hp3
  replace h : sT Γ s (rW Γ r u2 rl2 (xW Γ d u.1 u.2.1 u.2.2.1 tl2 tb [(o, oE Γ g2)])) _ _ := h
  refine W.eq (g2 := F0 m 1209 ls [.int (nI (u2 20 0))]) rfl ?_
  refine lv_iload C.x C.b dc_L_law_1209 (lv_at hl 1 rfl) ?_
  refine bc_eq (tgt := 1216) C (by omega) (by omega) dc_L_law_1211 (by decide) (fun q1211 => ?_) (fun q1211 => ?_)
  · refine lv_iload C.x C.b dc_L_law_1216 (lv_at hl 1 rfl) ?_
    refine bz_ne (tgt := 1233) C (by omega) dc_L_law_1218 (by decide) (fun q1218 => ?_) (fun q1218 => ?_)
    · refine lv_goto (tgt := 1249) C.x C.b dc_L_law_1233 (by decide) ?_
      replace h := jr_w h
      refine W.widen (k := cells + 20) (n := slots + 200) (by show cells + 6 + 0 + 0 ≤ cells + 20; omega) (by show slots + 40 + 0 + 0 ≤ slots + 200; omega) ?_
      exact hk _ _ _ _ _ _ _ _ _ _ _ hJ2 h (lv_sub hl [2, 3, 4, 5, 6] rfl)
    · refine lv_aload_n C.x C.b dc_L_law_1221 rfl (lv_at hl 5 rfl) ?_
      refine lv_iconst (v := (nI 0)) C.x C.b dc_L_law_1222 (by decide +kernel) ?_
      replace h := jr_w h
      refine rg_lld C h 257 lk_o (by omega) (by decide) dc_L_law_1223 ?_
      refine lv_iload C.x C.b dc_L_law_1224 (lv_at hl 0 rfl) ?_
      refine lv_i2l C.x C.b dc_L_law_1226 rfl ?_
      refine W.lcmp C.x C.b dc_L_law_1227 ?_
      refine lv_if_eq (tgt := 1233) C.x C.b dc_L_law_1228 (by decide) (fun q1228 => ?_) (fun q1228 => ?_)
      · refine lv_goto (tgt := 1249) C.x C.b dc_L_law_1233 (by decide) ?_
        refine W.widen (k := cells + 20) (n := slots + 200) (by show cells + 6 + 0 + 0 ≤ cells + 20; omega) (by show slots + 40 + 0 + 0 ≤ slots + 200; omega) ?_
        exact hk _ _ _ _ _ _ _ _ _ _ _ hJ2 h (lv_sub hl [2, 3, 4, 5, 6] rfl)
      · exact absurd (by rw [J3 q1218]; exact lg_rf _) q1228
  · exact absurd J2 q1211

set_option maxRecDepth 100000 in
set_option maxHeartbeats 4000000 in
theorem law_count {p : Program} {l : Launch} {e : Env} {s : State} {m : MethodId} {below : List Frame} {meth : Method} {c : Code} {Q : State → Prop} {Γ : gG} {b L : Nat} {xs : Nat → Int32} {d : Nat → Nat} {hm : Nat} {mc : va_E} {so : Nat → Nat → Nat} {tl : Nat → Nat → Int64} {tb : Nat → Nat → Nat → Nat} {r : Nat → Nat} {ri : Nat → Nat → Nat} {rl : Nat → Nat → Int64} {o : Nat} {g : Nat → Int64} {i cells slots : Nat} {H : Heap} {locs : List Loc} {ls : Array Slot} (C0 : lwC l Γ p s m meth c b L xs) (hi : i + 5 ≤ L) (hc : cells + 20 ≤ 601024) (hsl : slots + 200 ≤ 7293034) (hJ : JS so tb ri) (h : sT Γ s (jW Γ d hm mc so tl tb r ri rl o g) H locs) (hl : lv_has ls 8 [(0, .ref b), (1, .ref (d 0)), (2, .ref (r 0)), (3, .ref o), (4, .int (nI i))]) (hk : ∀ (hm : Nat) (mc : va_E) (so : Nat → Nat → Nat) (tl : Nat → Nat → Int64) (tb : Nat → Nat → Nat → Nat) (ri : Nat → Nat → Nat) (rl : Nat → Nat → Int64) (g : Nat → Int64) (H : Heap) (locs : List Loc) (ls : Array Slot), JS so tb ri → sT Γ s (jW Γ d hm mc so tl tb r ri rl o g) H locs → lv_has ls 8 [(0, .ref b), (1, .ref (d 0)), (2, .ref (r 0)), (3, .ref o), (4, .int (nI i))] → W p l e room_1 s m #[Value.ref b] below meth c H locs (cells + 20) (slots + 200) Q (F0 m 1249 ls [])) : W p l e room_1 s m #[Value.ref b] below meth c H locs cells slots Q (F0 m 1236 ls []) := by
  obtain ⟨C, hX, hN, hS, hL, hst⟩ := C0
  refine lv_aload_n C.x C.b dc_L_law_1236 rfl (lv_at hl 1 rfl) ?_
  refine kv_V (As := []) (rest := []) C h hl.1 (c_X_count l Γ d hm mc so tl tb _) mw_X_count lk_L_140 (q0 := 0) rfl rfl rfl (by decide) (by show cells + 0 ≤ 601024 ∧ slots + 0 ≤ 7293034; omega) (Nat.le_of_ble_eq_true rfl) dc_L_law_1237 (fun v u H locs hp h => ?_)
  obtain rfl := hp
  replace h : sT Γ s (jW Γ d hm mc so tl tb r ri rl o g) _ _ := h
  refine W.eq (g2 := F0 m 1240 ls [.int (nI (so 10 3))]) rfl ?_
  refine lv_aload_n C.x C.b dc_L_law_1240 rfl (lv_at hl 2 rfl) ?_
  replace h := jw_r h
  refine kv_V (As := []) (rest := [.int (nI (so 10 3))]) C h hl.1 (c_M_count l Γ r ri rl _) mw_M_count lk_L_143 (q0 := 0) rfl rfl rfl (by decide) (by show cells + 0 + 0 ≤ 601024 ∧ slots + 0 + 0 ≤ 7293034; omega) (Nat.le_of_ble_eq_true rfl) dc_L_law_1241 (fun v u2 H locs hp h => ?_)
  obtain ⟨rfl, hq⟩ := hp
  have hJ2 := hJ.kp hJ.1 rfl hq.2.1 hq.2.2
  have hc3 := hJ.1.2.1
  have hc4 := hJ.2.2.1
  replace h : sT Γ s (rW Γ r u2 rl (xW Γ d hm mc so tl tb [(o, oE Γ g)])) _ _ := h
  refine W.eq (g2 := F0 m 1244 ls [.int (nI (ri 20 1)), .int (nI (so 10 3))]) rfl ?_
  refine bc_eq (tgt := 1249) C (by omega) (by omega) dc_L_law_1244 (by decide) (fun q1244 => ?_) (fun q1244 => ?_)
  · replace h := jr_w h
    refine W.widen (k := cells + 20) (n := slots + 200) (by show cells + 0 + 0 ≤ cells + 20; omega) (by show slots + 0 + 0 ≤ slots + 200; omega) ?_
    exact hk _ _ _ _ _ _ _ _ _ _ _ hJ2 h (lv_sub hl [0, 1, 2, 3, 4] rfl)
  · exact absurd hc4.symm q1244
