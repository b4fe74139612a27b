abbrev rm_L_letters : Room := { frames := 8, cells := 8, slots := 48, locals := 186 }
set_option maxRecDepth 100000 in
set_option maxHeartbeats 4000000 in
theorem c_L_letters (l : Launch) (Γ : gG) (d : Nat → Nat) (hm : Nat) (mc : va_E) (so : Nat → Nat → Nat) (tl : Nat → Nat → Int64) (tb : Nat → Nat → Nat → Nat) (wr : va_W) (o : Nat) (g : Nat → Int64) (bits : Int32) (hC0 : CS so tb) (hst : l.stackTraces = false) : cL l Γ my_L_letters bc_L_letters 4 [(0, 9, 12, 13), (0, 9, 15, 15)] rm_L_letters [.ref (d 0), .int bits, .ref o] (xW Γ d hm mc so tl tb ((o, oE Γ g) :: wr)) (S := Nat × xG × (Nat → Nat → Int64) × (Nat → Int64)) (fun v u => v = some (.int (nI u.1)) ∧ u.1 ≤ 2 ∧ wM hm mc so tb 2 (fun M => ∃ b, b < 8 ∧ bits = nI b ∧ M = mqO b 0) u.1 u.2.1 u.2.2.2) (fun u => xW Γ d u.2.1.1 u.2.1.2.1 u.2.1.2.2.1 u.2.2.1 u.2.1.2.2.2 ((o, oE Γ u.2.2.2) :: wr)) := by
  refine cL.start (by decide) (Nat.le_of_ble_eq_true rfl) (fun p e s m args below meth c ls Q hQ C hmn hT hX hC h hl => ?_)
  replace hl : lv_has ls 4 [(0, .ref (d 0)), (1, .int bits), (2, .ref o)] := hl
  refine lv_aload_n C.x C.b dc_L_letters_0 rfl (lv_at hl 2 rfl) ?_
  refine lv_iconst (v := nI 0) C.x C.b dc_L_letters_1 (by decide +kernel) ?_
  refine lv_aload_n C.x C.b dc_L_letters_2 rfl (lv_at hl 0 rfl) ?_
  refine lv_iload_n C.x C.b dc_L_letters_3 rfl (lv_at hl 1 rfl) ?_
  refine kx_V (As := [.int bits]) (rest := [.int (nI 0), .ref o]) C hX h hl.1 (c_X_letters l Γ d hm mc so tl tb _ bits hC0 hst) mw_X_letters lk_L_7 (q0 := 0) rfl rfl rfl (by decide) (by decide) (Nat.le_of_ble_eq_true rfl) dc_L_letters_4 (fun E ce q9 u H locs hp h hc1 hc2 hc3 => ?_) (fun v u H locs hp h => ?_)
  · rcases hp with ⟨rfl, rfl, hn⟩ | ⟨rfl, b, h0, h1, hq⟩
    · refine vx_catch (name := en_iae) C.o [] ⟨0, 9, 12, 13⟩ [⟨0, 9, 15, 15⟩] hT (fun z hz => absurd hz List.not_mem_nil) (by decide) (by decide) (C.t _ nk_L_13) (C.w.use _ kc_iae) hc1 hc2 hc3 ?_
      refine W.eq (g2 := F0 m 12 ls [.ref q9]) rfl ?_
      refine lv_astore_n (lv' := [(3, .ref q9), (0, .ref (d 0)), (1, .int bits), (2, .ref o)]) C.x C.b dc_L_letters_12 rfl hl (by decide) rfl (fun ls hl => ?_)
      refine lv_iconst (v := nI 1) C.x C.b dc_L_letters_13 (by decide +kernel) ?_
      rw [hQ]
      exact rt_i C (1, (hm, mc, so, tb), tl, g) h (⟨rfl, Nat.le_of_ble_eq_true rfl, Or.inr (Or.inl ⟨rfl, fun M ⟨b, h0, h1, _⟩ => hn ⟨b, h0, h1⟩, rfl⟩)⟩) dc_L_letters_14
    · refine vx_catch (name := en_ioe) C.o [⟨0, 9, 12, 13⟩] ⟨0, 9, 15, 15⟩ [] hT (fun z hz => by cases List.mem_singleton.mp hz; exact Or.inr ⟨by decide, en_iae, C.t _ nk_L_13, hC.1⟩) (by decide) (by decide) (C.t _ nk_L_15) (C.w.use _ kc_ioe) hc1 hc2 hc3 ?_
      refine W.eq (g2 := F0 m 15 ls [.ref q9]) rfl ?_
      refine lv_astore_n (lv' := [(3, .ref q9), (0, .ref (d 0)), (1, .int bits), (2, .ref o)]) C.x C.b dc_L_letters_15 rfl hl (by decide) rfl (fun ls hl => ?_)
      refine lv_iconst (v := nI 2) C.x C.b dc_L_letters_16 (by decide +kernel) ?_
      rw [hQ]
      exact rt_i C (2, u, tl, g) h (⟨rfl, Nat.le_of_ble_eq_true rfl, Or.inr (Or.inr ⟨rfl, _, ⟨b, h0, h1, rfl⟩, hq⟩)⟩) dc_L_letters_17
  obtain ⟨b, h0, h1, hq⟩ := hp
  have hv := hq.1
  subst hv
  replace h : sT Γ s (xW Γ d u.1 u.2.1 u.2.2.1 tl u.2.2.2 ((o, oE Γ g) :: wr)) _ _ := h
  refine W.eq (g2 := F0 m 7 ls [.int (nI (so 10 3)), .int (nI 0), .ref o]) rfl ?_
  refine lv_i2l C.x C.b dc_L_letters_7 rfl ?_
  refine rg_lst C h 257 lk_o (by decide) (by decide) dc_L_letters_8 (fun H locs h => ?_)
  rw [st_o] at h
  refine lv_goto (tgt := 18) C.x C.b dc_L_letters_9 (by decide) ?_
  refine lv_iconst (v := nI 0) C.x C.b dc_L_letters_18 (by decide +kernel) ?_
  rw [hQ]
  exact rt_i C (0, u, tl, us g 0 (nI (so 10 3)).toInt64) h (⟨rfl, Nat.le_of_ble_eq_true rfl, Or.inl ⟨rfl, _, _, ⟨b, h0, h1, rfl⟩, hq, rfl⟩⟩) dc_L_letters_19

abbrev rm_L_empty : Room := { frames := 8, cells := 8, slots := 48, locals := 185 }
set_option maxRecDepth 100000 in
set_option maxHeartbeats 4000000 in
theorem c_L_empty (l : Launch) (Γ : gG) (d : Nat → Nat) (hm : Nat) (mc : va_E) (so : Nat → Nat → Nat) (tl : Nat → Nat → Int64) (tb : Nat → Nat → Nat → Nat) (wr : va_W) (o : Nat) (g : Nat → Int64)  (hC0 : CS so tb) (hst : l.stackTraces = false) : cL l Γ my_L_empty bc_L_empty 3 [(0, 8, 11, 15)] rm_L_empty [.ref (d 0), .ref o] (xW Γ d hm mc so tl tb ((o, oE Γ g) :: wr)) (S := Nat × xG × (Nat → Nat → Int64) × (Nat → Int64)) (fun v u => v = some (.int (nI u.1)) ∧ u.1 ≤ 2 ∧ wM hm mc so tb 1 (fun M => ∃ b, b = 0 ∧ M = mqO 0 1) u.1 u.2.1 u.2.2.2) (fun u => xW Γ d u.2.1.1 u.2.1.2.1 u.2.1.2.2.1 u.2.2.1 u.2.1.2.2.2 ((o, oE Γ u.2.2.2) :: wr)) := by
  refine cL.start (by decide) (Nat.le_of_ble_eq_true rfl) (fun p e s m args below meth c ls Q hQ C hmn hT hX hC h hl => ?_)
  replace hl : lv_has ls 3 [(0, .ref (d 0)), (1, .ref o)] := hl
  refine lv_aload_n C.x C.b dc_L_empty_0 rfl (lv_at hl 1 rfl) ?_
  refine lv_iconst (v := nI 0) C.x C.b dc_L_empty_1 (by decide +kernel) ?_
  refine lv_aload_n C.x C.b dc_L_empty_2 rfl (lv_at hl 0 rfl) ?_
  refine kx_V (As := []) (rest := [.int (nI 0), .ref o]) C hX h hl.1 (c_X_empty l Γ d hm mc so tl tb _  hC0 hst) mw_X_empty lk_L_17 (q0 := 0) rfl rfl rfl (by decide) (by decide) (Nat.le_of_ble_eq_true rfl) dc_L_empty_3 (fun E ce q9 u H locs hp h hc1 hc2 hc3 => ?_) (fun v u H locs hp h => ?_)
  · rcases hp with ⟨rfl, rfl, hn⟩ | ⟨rfl, b, h0, hq⟩
    · exact absurd ⟨0, rfl⟩ hn
    · refine vx_catch (name := en_ioe) C.o [] ⟨0, 8, 11, 15⟩ [] hT (fun z hz => absurd hz List.not_mem_nil) (by decide) (by decide) (C.t _ nk_L_15) (C.w.use _ kc_ioe) hc1 hc2 hc3 ?_
      refine W.eq (g2 := F0 m 11 ls [.ref q9]) rfl ?_
      refine lv_astore_n (lv' := [(2, .ref q9), (0, .ref (d 0)), (1, .ref o)]) C.x C.b dc_L_empty_11 rfl hl (by decide) rfl (fun ls hl => ?_)
      refine lv_iconst (v := nI 1) C.x C.b dc_L_empty_12 (by decide +kernel) ?_
      rw [hQ]
      exact rt_i C (1, u, tl, g) h (⟨rfl, Nat.le_of_ble_eq_true rfl, Or.inr (Or.inr ⟨rfl, _, ⟨b, h0, rfl⟩, hq⟩)⟩) dc_L_empty_13
  obtain ⟨b, h0, hq⟩ := hp
  have hv := hq.1
  subst hv
  replace h : sT Γ s (xW Γ d u.1 u.2.1 u.2.2.1 tl u.2.2.2 ((o, oE Γ g) :: wr)) _ _ := h
  refine W.eq (g2 := F0 m 6 ls [.int (nI (so 10 3)), .int (nI 0), .ref o]) rfl ?_
  refine lv_i2l C.x C.b dc_L_empty_6 rfl ?_
  refine rg_lst C h 257 lk_o (by decide) (by decide) dc_L_empty_7 (fun H locs h => ?_)
  rw [st_o] at h
  refine lv_goto (tgt := 14) C.x C.b dc_L_empty_8 (by decide) ?_
  refine lv_iconst (v := nI 0) C.x C.b dc_L_empty_14 (by decide +kernel) ?_
  rw [hQ]
  exact rt_i C (0, u, tl, us g 0 (nI (so 10 3)).toInt64) h (⟨rfl, Nat.le_of_ble_eq_true rfl, Or.inl ⟨rfl, _, _, ⟨b, h0, rfl⟩, hq, rfl⟩⟩) dc_L_empty_15

abbrev rm_L_then : Room := { frames := 8, cells := 8, slots := 48, locals := 187 }
set_option maxRecDepth 100000 in
set_option maxHeartbeats 4000000 in
theorem c_L_then (l : Launch) (Γ : gG) (d : Nat → Nat) (hm : Nat) (mc : va_E) (so : Nat → Nat → Nat) (tl : Nat → Nat → Int64) (tb : Nat → Nat → Nat → Nat) (wr : va_W) (o : Nat) (g : Nat → Int64) (pp : Int32) (qq : Int32) (hC0 : CS so tb) (hst : l.stackTraces = false) : cL l Γ my_L_then bc_L_then 5 [(0, 10, 13, 13), (0, 10, 17, 15)] rm_L_then [.ref (d 0), .int pp, .int qq, .ref o] (xW Γ d hm mc so tl tb ((o, oE Γ g) :: wr)) (S := Nat × xG × (Nat → Nat → Int64) × (Nat → Int64)) (fun v u => v = some (.int (nI u.1)) ∧ u.1 ≤ 2 ∧ wM hm mc so tb 2 (fun M => ∃ i j, i < so 10 3 ∧ j < so 10 3 ∧ pp = nI i ∧ qq = nI j ∧ M = mqH (tb i) (tb j)) u.1 u.2.1 u.2.2.2) (fun u => xW Γ d u.2.1.1 u.2.1.2.1 u.2.1.2.2.1 u.2.2.1 u.2.1.2.2.2 ((o, oE Γ u.2.2.2) :: wr)) := by
  refine cL.start (by decide) (Nat.le_of_ble_eq_true rfl) (fun p e s m args below meth c ls Q hQ C hmn hT hX hC h hl => ?_)
  replace hl : lv_has ls 5 [(0, .ref (d 0)), (1, .int pp), (2, .int qq), (3, .ref o)] := hl
  refine lv_aload_n C.x C.b dc_L_then_0 rfl (lv_at hl 3 rfl) ?_
  refine lv_iconst (v := nI 0) C.x C.b dc_L_then_1 (by decide +kernel) ?_
  refine lv_aload_n C.x C.b dc_L_then_2 rfl (lv_at hl 0 rfl) ?_
  refine lv_iload_n C.x C.b dc_L_then_3 rfl (lv_at hl 1 rfl) ?_
  refine lv_iload_n C.x C.b dc_L_then_4 rfl (lv_at hl 2 rfl) ?_
  refine kx_V (As := [.int pp, .int qq]) (rest := [.int (nI 0), .ref o]) C hX h hl.1 (c_X_then l Γ d hm mc so tl tb _ pp qq hC0 hst) mw_X_then lk_L_21 (q0 := 0) rfl rfl rfl (by decide) (by decide) (Nat.le_of_ble_eq_true rfl) dc_L_then_5 (fun E ce q9 u H locs hp h hc1 hc2 hc3 => ?_) (fun v u H locs hp h => ?_)
  · rcases hp with ⟨rfl, rfl, hn⟩ | ⟨rfl, i, j, h0, h1, h2, h3, hq⟩
    · refine vx_catch (name := en_iae) C.o [] ⟨0, 10, 13, 13⟩ [⟨0, 10, 17, 15⟩] hT (fun z hz => absurd hz List.not_mem_nil) (by decide) (by decide) (C.t _ nk_L_13) (C.w.use _ kc_iae) hc1 hc2 hc3 ?_
      refine W.eq (g2 := F0 m 13 ls [.ref q9]) rfl ?_
      refine lv_astore (lv' := [(4, .ref q9), (0, .ref (d 0)), (1, .int pp), (2, .int qq), (3, .ref o)]) C.x C.b dc_L_then_13 hl (by decide) rfl (fun ls hl => ?_)
      refine lv_iconst (v := nI 1) C.x C.b dc_L_then_15 (by decide +kernel) ?_
      rw [hQ]
      exact rt_i C (1, (hm, mc, so, tb), tl, g) h (⟨rfl, Nat.le_of_ble_eq_true rfl, Or.inr (Or.inl ⟨rfl, fun M ⟨i, j, h0, h1, h2, h3, _⟩ => hn ⟨i, j, h0, h1, h2, h3⟩, rfl⟩)⟩) dc_L_then_16
    · refine vx_catch (name := en_ioe) C.o [⟨0, 10, 13, 13⟩] ⟨0, 10, 17, 15⟩ [] hT (fun z hz => by cases List.mem_singleton.mp hz; exact Or.inr ⟨by decide, en_iae, C.t _ nk_L_13, hC.1⟩) (by decide) (by decide) (C.t _ nk_L_15) (C.w.use _ kc_ioe) hc1 hc2 hc3 ?_
      refine W.eq (g2 := F0 m 17 ls [.ref q9]) rfl ?_
      refine lv_astore (lv' := [(4, .ref q9), (0, .ref (d 0)), (1, .int pp), (2, .int qq), (3, .ref o)]) C.x C.b dc_L_then_17 hl (by decide) rfl (fun ls hl => ?_)
      refine lv_iconst (v := nI 2) C.x C.b dc_L_then_19 (by decide +kernel) ?_
      rw [hQ]
      exact rt_i C (2, u, tl, g) h (⟨rfl, Nat.le_of_ble_eq_true rfl, Or.inr (Or.inr ⟨rfl, _, ⟨i, j, h0, h1, h2, h3, rfl⟩, hq⟩)⟩) dc_L_then_20
  obtain ⟨i, j, h0, h1, h2, h3, hq⟩ := hp
  have hv := hq.1
  subst hv
  replace h : sT Γ s (xW Γ d u.1 u.2.1 u.2.2.1 tl u.2.2.2 ((o, oE Γ g) :: wr)) _ _ := h
  refine W.eq (g2 := F0 m 8 ls [.int (nI (so 10 3)), .int (nI 0), .ref o]) rfl ?_
  refine lv_i2l C.x C.b dc_L_then_8 rfl ?_
  refine rg_lst C h 257 lk_o (by decide) (by decide) dc_L_then_9 (fun H locs h => ?_)
  rw [st_o] at h
  refine lv_goto (tgt := 21) C.x C.b dc_L_then_10 (by decide) ?_
  refine lv_iconst (v := nI 0) C.x C.b dc_L_then_21 (by decide +kernel) ?_
  rw [hQ]
  exact rt_i C (0, u, tl, us g 0 (nI (so 10 3)).toInt64) h (⟨rfl, Nat.le_of_ble_eq_true rfl, Or.inl ⟨rfl, _, _, ⟨i, j, h0, h1, h2, h3, rfl⟩, hq, rfl⟩⟩) dc_L_then_22

abbrev rm_L_both : Room := { frames := 8, cells := 8, slots := 48, locals := 188 }
set_option maxRecDepth 100000 in
set_option maxHeartbeats 4000000 in
theorem c_L_both (l : Launch) (Γ : gG) (d : Nat → Nat) (hm : Nat) (mc : va_E) (so : Nat → Nat → Nat) (tl : Nat → Nat → Int64) (tb : Nat → Nat → Nat → Nat) (wr : va_W) (o : Nat) (g : Nat → Int64) (hw : Int32) (pp : Int32) (qq : Int32) (hC0 : CS so tb) (hst : l.stackTraces = false) : cL l Γ my_L_both bc_L_both 6 [(0, 12, 15, 13), (0, 12, 19, 15)] rm_L_both [.ref (d 0), .int hw, .int pp, .int qq, .ref o] (xW Γ d hm mc so tl tb ((o, oE Γ g) :: wr)) (S := Nat × xG × (Nat → Nat → Int64) × (Nat → Int64)) (fun v u => v = some (.int (nI u.1)) ∧ u.1 ≤ 2 ∧ wM hm mc so tb 2 (fun M => ∃ w i j, w < 4 ∧ hw = nI w ∧ i < so 10 3 ∧ j < so 10 3 ∧ pp = nI i ∧ qq = nI j ∧ M = mqB w (tb i) (tb j)) u.1 u.2.1 u.2.2.2) (fun u => xW Γ d u.2.1.1 u.2.1.2.1 u.2.1.2.2.1 u.2.2.1 u.2.1.2.2.2 ((o, oE Γ u.2.2.2) :: wr)) := by
  refine cL.start (by decide) (Nat.le_of_ble_eq_true rfl) (fun p e s m args below meth c ls Q hQ C hmn hT hX hC h hl => ?_)
  replace hl : lv_has ls 6 [(0, .ref (d 0)), (1, .int hw), (2, .int pp), (3, .int qq), (4, .ref o)] := hl
  refine lv_aload C.x C.b dc_L_both_0 (lv_at hl 4 rfl) ?_
  refine lv_iconst (v := nI 0) C.x C.b dc_L_both_2 (by decide +kernel) ?_
  refine lv_aload_n C.x C.b dc_L_both_3 rfl (lv_at hl 0 rfl) ?_
  refine lv_iload_n C.x C.b dc_L_both_4 rfl (lv_at hl 1 rfl) ?_
  refine lv_iload_n C.x C.b dc_L_both_5 rfl (lv_at hl 2 rfl) ?_
  refine lv_iload_n C.x C.b dc_L_both_6 rfl (lv_at hl 3 rfl) ?_
  refine kx_V (As := [.int hw, .int pp, .int qq]) (rest := [.int (nI 0), .ref o]) C hX h hl.1 (c_X_both l Γ d hm mc so tl tb _ hw pp qq hC0 hst) mw_X_both lk_L_25 (q0 := 0) rfl rfl rfl (by decide) (by decide) (Nat.le_of_ble_eq_true rfl) dc_L_both_7 (fun E ce q9 u H locs hp h hc1 hc2 hc3 => ?_) (fun v u H locs hp h => ?_)
  · rcases hp with ⟨rfl, rfl, hn⟩ | ⟨rfl, w, i, j, h0, h1, h2, h3, h4, h5, hq⟩
    · refine vx_catch (name := en_iae) C.o [] ⟨0, 12, 15, 13⟩ [⟨0, 12, 19, 15⟩] hT (fun z hz => absurd hz List.not_mem_nil) (by decide) (by decide) (C.t _ nk_L_13) (C.w.use _ kc_iae) hc1 hc2 hc3 ?_
      refine W.eq (g2 := F0 m 15 ls [.ref q9]) rfl ?_
      refine lv_astore (lv' := [(5, .ref q9), (0, .ref (d 0)), (1, .int hw), (2, .int pp), (3, .int qq), (4, .ref o)]) C.x C.b dc_L_both_15 hl (by decide) rfl (fun ls hl => ?_)
      refine lv_iconst (v := nI 1) C.x C.b dc_L_both_17 (by decide +kernel) ?_
      rw [hQ]
      exact rt_i C (1, (hm, mc, so, tb), tl, g) h (⟨rfl, Nat.le_of_ble_eq_true rfl, Or.inr (Or.inl ⟨rfl, fun M ⟨w, i, j, h0, h1, h2, h3, h4, h5, _⟩ => hn ⟨w, i, j, h0, h1, h2, h3, h4, h5⟩, rfl⟩)⟩) dc_L_both_18
    · refine vx_catch (name := en_ioe) C.o [⟨0, 12, 15, 13⟩] ⟨0, 12, 19, 15⟩ [] hT (fun z hz => by cases List.mem_singleton.mp hz; exact Or.inr ⟨by decide, en_iae, C.t _ nk_L_13, hC.1⟩) (by decide) (by decide) (C.t _ nk_L_15) (C.w.use _ kc_ioe) hc1 hc2 hc3 ?_
      refine W.eq (g2 := F0 m 19 ls [.ref q9]) rfl ?_
      refine lv_astore (lv' := [(5, .ref q9), (0, .ref (d 0)), (1, .int hw), (2, .int pp), (3, .int qq), (4, .ref o)]) C.x C.b dc_L_both_19 hl (by decide) rfl (fun ls hl => ?_)
      refine lv_iconst (v := nI 2) C.x C.b dc_L_both_21 (by decide +kernel) ?_
      rw [hQ]
      exact rt_i C (2, u, tl, g) h (⟨rfl, Nat.le_of_ble_eq_true rfl, Or.inr (Or.inr ⟨rfl, _, ⟨w, i, j, h0, h1, h2, h3, h4, h5, rfl⟩, hq⟩)⟩) dc_L_both_22
  obtain ⟨w, i, j, h0, h1, h2, h3, h4, h5, hq⟩ := hp
  have hv := hq.1
  subst hv
  replace h : sT Γ s (xW Γ d u.1 u.2.1 u.2.2.1 tl u.2.2.2 ((o, oE Γ g) :: wr)) _ _ := h
  refine W.eq (g2 := F0 m 10 ls [.int (nI (so 10 3)), .int (nI 0), .ref o]) rfl ?_
  refine lv_i2l C.x C.b dc_L_both_10 rfl ?_
  refine rg_lst C h 257 lk_o (by decide) (by decide) dc_L_both_11 (fun H locs h => ?_)
  rw [st_o] at h
  refine lv_goto (tgt := 23) C.x C.b dc_L_both_12 (by decide) ?_
  refine lv_iconst (v := nI 0) C.x C.b dc_L_both_23 (by decide +kernel) ?_
  rw [hQ]
  exact rt_i C (0, u, tl, us g 0 (nI (so 10 3)).toInt64) h (⟨rfl, Nat.le_of_ble_eq_true rfl, Or.inl ⟨rfl, _, _, ⟨w, i, j, h0, h1, h2, h3, h4, h5, rfl⟩, hq, rfl⟩⟩) dc_L_both_24

abbrev rm_L_many : Room := { frames := 8, cells := 8, slots := 48, locals := 186 }
set_option maxRecDepth 100000 in
set_option maxHeartbeats 4000000 in
theorem c_L_many (l : Launch) (Γ : gG) (d : Nat → Nat) (hm : Nat) (mc : va_E) (so : Nat → Nat → Nat) (tl : Nat → Nat → Int64) (tb : Nat → Nat → Nat → Nat) (wr : va_W) (o : Nat) (g : Nat → Int64) (pp : Int32) (hC0 : CS so tb) (hst : l.stackTraces = false) : cL l Γ my_L_many bc_L_many 4 [(0, 9, 12, 13), (0, 9, 15, 15)] rm_L_many [.ref (d 0), .int pp, .ref o] (xW Γ d hm mc so tl tb ((o, oE Γ g) :: wr)) (S := Nat × xG × (Nat → Nat → Int64) × (Nat → Int64)) (fun v u => v = some (.int (nI u.1)) ∧ u.1 ≤ 2 ∧ wM hm mc so tb 2 (fun M => ∃ i, i < so 10 3 ∧ pp = nI i ∧ M = mqN (tb i)) u.1 u.2.1 u.2.2.2) (fun u => xW Γ d u.2.1.1 u.2.1.2.1 u.2.1.2.2.1 u.2.2.1 u.2.1.2.2.2 ((o, oE Γ u.2.2.2) :: wr)) := by
  refine cL.start (by decide) (Nat.le_of_ble_eq_true rfl) (fun p e s m args below meth c ls Q hQ C hmn hT hX hC h hl => ?_)
  replace hl : lv_has ls 4 [(0, .ref (d 0)), (1, .int pp), (2, .ref o)] := hl
  refine lv_aload_n C.x C.b dc_L_many_0 rfl (lv_at hl 2 rfl) ?_
  refine lv_iconst (v := nI 0) C.x C.b dc_L_many_1 (by decide +kernel) ?_
  refine lv_aload_n C.x C.b dc_L_many_2 rfl (lv_at hl 0 rfl) ?_
  refine lv_iload_n C.x C.b dc_L_many_3 rfl (lv_at hl 1 rfl) ?_
  refine kx_V (As := [.int pp]) (rest := [.int (nI 0), .ref o]) C hX h hl.1 (c_X_many l Γ d hm mc so tl tb _ pp hC0 hst) mw_X_many lk_L_29 (q0 := 0) rfl rfl rfl (by decide) (by decide) (Nat.le_of_ble_eq_true rfl) dc_L_many_4 (fun E ce q9 u H locs hp h hc1 hc2 hc3 => ?_) (fun v u H locs hp h => ?_)
  · rcases hp with ⟨rfl, rfl, hn⟩ | ⟨rfl, i, h0, h1, hq⟩
    · refine vx_catch (name := en_iae) C.o [] ⟨0, 9, 12, 13⟩ [⟨0, 9, 15, 15⟩] hT (fun z hz => absurd hz List.not_mem_nil) (by decide) (by decide) (C.t _ nk_L_13) (C.w.use _ kc_iae) hc1 hc2 hc3 ?_
      refine W.eq (g2 := F0 m 12 ls [.ref q9]) rfl ?_
      refine lv_astore_n (lv' := [(3, .ref q9), (0, .ref (d 0)), (1, .int pp), (2, .ref o)]) C.x C.b dc_L_many_12 rfl hl (by decide) rfl (fun ls hl => ?_)
      refine lv_iconst (v := nI 1) C.x C.b dc_L_many_13 (by decide +kernel) ?_
      rw [hQ]
      exact rt_i C (1, (hm, mc, so, tb), tl, g) h (⟨rfl, Nat.le_of_ble_eq_true rfl, Or.inr (Or.inl ⟨rfl, fun M ⟨i, h0, h1, _⟩ => hn ⟨i, h0, h1⟩, rfl⟩)⟩) dc_L_many_14
    · refine vx_catch (name := en_ioe) C.o [⟨0, 9, 12, 13⟩] ⟨0, 9, 15, 15⟩ [] hT (fun z hz => by cases List.mem_singleton.mp hz; exact Or.inr ⟨by decide, en_iae, C.t _ nk_L_13, hC.1⟩) (by decide) (by decide) (C.t _ nk_L_15) (C.w.use _ kc_ioe) hc1 hc2 hc3 ?_
      refine W.eq (g2 := F0 m 15 ls [.ref q9]) rfl ?_
      refine lv_astore_n (lv' := [(3, .ref q9), (0, .ref (d 0)), (1, .int pp), (2, .ref o)]) C.x C.b dc_L_many_15 rfl hl (by decide) rfl (fun ls hl => ?_)
      refine lv_iconst (v := nI 2) C.x C.b dc_L_many_16 (by decide +kernel) ?_
      rw [hQ]
      exact rt_i C (2, u, tl, g) h (⟨rfl, Nat.le_of_ble_eq_true rfl, Or.inr (Or.inr ⟨rfl, _, ⟨i, h0, h1, rfl⟩, hq⟩)⟩) dc_L_many_17
  obtain ⟨i, h0, h1, hq⟩ := hp
  have hv := hq.1
  subst hv
  replace h : sT Γ s (xW Γ d u.1 u.2.1 u.2.2.1 tl u.2.2.2 ((o, oE Γ g) :: wr)) _ _ := h
  refine W.eq (g2 := F0 m 7 ls [.int (nI (so 10 3)), .int (nI 0), .ref o]) rfl ?_
  refine lv_i2l C.x C.b dc_L_many_7 rfl ?_
  refine rg_lst C h 257 lk_o (by decide) (by decide) dc_L_many_8 (fun H locs h => ?_)
  rw [st_o] at h
  refine lv_goto (tgt := 18) C.x C.b dc_L_many_9 (by decide) ?_
  refine lv_iconst (v := nI 0) C.x C.b dc_L_many_18 (by decide +kernel) ?_
  rw [hQ]
  exact rt_i C (0, u, tl, us g 0 (nI (so 10 3)).toInt64) h (⟨rfl, Nat.le_of_ble_eq_true rfl, Or.inl ⟨rfl, _, _, ⟨i, h0, h1, rfl⟩, hq, rfl⟩⟩) dc_L_many_19

abbrev rm_L_contrary : Room := { frames := 8, cells := 8, slots := 48, locals := 187 }
set_option maxRecDepth 100000 in
set_option maxHeartbeats 4000000 in
theorem c_L_contrary (l : Launch) (Γ : gG) (d : Nat → Nat) (hm : Nat) (mc : va_E) (so : Nat → Nat → Nat) (tl : Nat → Nat → Int64) (tb : Nat → Nat → Nat → Nat) (wr : va_W) (o : Nat) (g : Nat → Int64) (pp : Int32) (hC0 : CS so tb) (hst : l.stackTraces = false) : cL l Γ my_L_contrary bc_L_contrary 4 [(0, 9, 12, 13), (0, 9, 15, 15)] rm_L_contrary [.ref (d 0), .int pp, .ref o] (xW Γ d hm mc so tl tb ((o, oE Γ g) :: wr)) (S := Nat × xG × (Nat → Nat → Int64) × (Nat → Int64)) (fun v u => v = some (.int (nI u.1)) ∧ u.1 ≤ 2 ∧ wM hm mc so tb 2 (fun M => ∃ i, i < so 10 3 ∧ pp = nI i ∧ M = mqR (tb i) 0 (nI (tb i 0 1) ^^^ mI 0)) u.1 u.2.1 u.2.2.2) (fun u => xW Γ d u.2.1.1 u.2.1.2.1 u.2.1.2.2.1 u.2.2.1 u.2.1.2.2.2 ((o, oE Γ u.2.2.2) :: wr)) := by
  refine cL.start (by decide) (Nat.le_of_ble_eq_true rfl) (fun p e s m args below meth c ls Q hQ C hmn hT hX hC h hl => ?_)
  replace hl : lv_has ls 4 [(0, .ref (d 0)), (1, .int pp), (2, .ref o)] := hl
  refine lv_aload_n C.x C.b dc_L_contrary_0 rfl (lv_at hl 2 rfl) ?_
  refine lv_iconst (v := nI 0) C.x C.b dc_L_contrary_1 (by decide +kernel) ?_
  refine lv_aload_n C.x C.b dc_L_contrary_2 rfl (lv_at hl 0 rfl) ?_
  refine lv_iload_n C.x C.b dc_L_contrary_3 rfl (lv_at hl 1 rfl) ?_
  refine kx_V (As := [.int pp]) (rest := [.int (nI 0), .ref o]) C hX h hl.1 (c_X_contrary l Γ d hm mc so tl tb _ pp hC0 hst) mw_X_contrary lk_L_32 (q0 := 0) rfl rfl rfl (by decide) (by decide) (Nat.le_of_ble_eq_true rfl) dc_L_contrary_4 (fun E ce q9 u H locs hp h hc1 hc2 hc3 => ?_) (fun v u H locs hp h => ?_)
  · rcases hp with ⟨rfl, rfl, hn⟩ | ⟨rfl, i, h0, h1, hq⟩
    · refine vx_catch (name := en_iae) C.o [] ⟨0, 9, 12, 13⟩ [⟨0, 9, 15, 15⟩] hT (fun z hz => absurd hz List.not_mem_nil) (by decide) (by decide) (C.t _ nk_L_13) (C.w.use _ kc_iae) hc1 hc2 hc3 ?_
      refine W.eq (g2 := F0 m 12 ls [.ref q9]) rfl ?_
      refine lv_astore_n (lv' := [(3, .ref q9), (0, .ref (d 0)), (1, .int pp), (2, .ref o)]) C.x C.b dc_L_contrary_12 rfl hl (by decide) rfl (fun ls hl => ?_)
      refine lv_iconst (v := nI 1) C.x C.b dc_L_contrary_13 (by decide +kernel) ?_
      rw [hQ]
      exact rt_i C (1, (hm, mc, so, tb), tl, g) h (⟨rfl, Nat.le_of_ble_eq_true rfl, Or.inr (Or.inl ⟨rfl, fun M ⟨i, h0, h1, _⟩ => hn ⟨i, h0, h1⟩, rfl⟩)⟩) dc_L_contrary_14
    · refine vx_catch (name := en_ioe) C.o [⟨0, 9, 12, 13⟩] ⟨0, 9, 15, 15⟩ [] hT (fun z hz => by cases List.mem_singleton.mp hz; exact Or.inr ⟨by decide, en_iae, C.t _ nk_L_13, hC.1⟩) (by decide) (by decide) (C.t _ nk_L_15) (C.w.use _ kc_ioe) hc1 hc2 hc3 ?_
      refine W.eq (g2 := F0 m 15 ls [.ref q9]) rfl ?_
      refine lv_astore_n (lv' := [(3, .ref q9), (0, .ref (d 0)), (1, .int pp), (2, .ref o)]) C.x C.b dc_L_contrary_15 rfl hl (by decide) rfl (fun ls hl => ?_)
      refine lv_iconst (v := nI 2) C.x C.b dc_L_contrary_16 (by decide +kernel) ?_
      rw [hQ]
      exact rt_i C (2, u, tl, g) h (⟨rfl, Nat.le_of_ble_eq_true rfl, Or.inr (Or.inr ⟨rfl, _, ⟨i, h0, h1, rfl⟩, hq⟩)⟩) dc_L_contrary_17
  obtain ⟨i, h0, h1, hq⟩ := hp
  have hv := hq.1
  subst hv
  replace h : sT Γ s (xW Γ d u.1 u.2.1 u.2.2.1 tl u.2.2.2 ((o, oE Γ g) :: wr)) _ _ := h
  refine W.eq (g2 := F0 m 7 ls [.int (nI (so 10 3)), .int (nI 0), .ref o]) rfl ?_
  refine lv_i2l C.x C.b dc_L_contrary_7 rfl ?_
  refine rg_lst C h 257 lk_o (by decide) (by decide) dc_L_contrary_8 (fun H locs h => ?_)
  rw [st_o] at h
  refine lv_goto (tgt := 18) C.x C.b dc_L_contrary_9 (by decide) ?_
  refine lv_iconst (v := nI 0) C.x C.b dc_L_contrary_18 (by decide +kernel) ?_
  rw [hQ]
  exact rt_i C (0, u, tl, us g 0 (nI (so 10 3)).toInt64) h (⟨rfl, Nat.le_of_ble_eq_true rfl, Or.inl ⟨rfl, _, _, ⟨i, h0, h1, rfl⟩, hq, rfl⟩⟩) dc_L_contrary_19

abbrev rm_L_back : Room := { frames := 8, cells := 8, slots := 48, locals := 186 }
set_option maxRecDepth 100000 in
set_option maxHeartbeats 4000000 in
theorem c_L_back (l : Launch) (Γ : gG) (d : Nat → Nat) (hm : Nat) (mc : va_E) (so : Nat → Nat → Nat) (tl : Nat → Nat → Int64) (tb : Nat → Nat → Nat → Nat) (wr : va_W) (o : Nat) (g : Nat → Int64) (pp : Int32) (hC0 : CS so tb) (hst : l.stackTraces = false) : cL l Γ my_L_back bc_L_back 4 [(0, 9, 12, 13), (0, 9, 15, 15)] rm_L_back [.ref (d 0), .int pp, .ref o] (xW Γ d hm mc so tl tb ((o, oE Γ g) :: wr)) (S := Nat × xG × (Nat → Nat → Int64) × (Nat → Int64)) (fun v u => v = some (.int (nI u.1)) ∧ u.1 ≤ 2 ∧ wM hm mc so tb 2 (fun M => ∃ i, i < so 10 3 ∧ pp = nI i ∧ M = mqK (tb i)) u.1 u.2.1 u.2.2.2) (fun u => xW Γ d u.2.1.1 u.2.1.2.1 u.2.1.2.2.1 u.2.2.1 u.2.1.2.2.2 ((o, oE Γ u.2.2.2) :: wr)) := by
  refine cL.start (by decide) (Nat.le_of_ble_eq_true rfl) (fun p e s m args below meth c ls Q hQ C hmn hT hX hC h hl => ?_)
  replace hl : lv_has ls 4 [(0, .ref (d 0)), (1, .int pp), (2, .ref o)] := hl
  refine lv_aload_n C.x C.b dc_L_back_0 rfl (lv_at hl 2 rfl) ?_
  refine lv_iconst (v := nI 0) C.x C.b dc_L_back_1 (by decide +kernel) ?_
  refine lv_aload_n C.x C.b dc_L_back_2 rfl (lv_at hl 0 rfl) ?_
  refine lv_iload_n C.x C.b dc_L_back_3 rfl (lv_at hl 1 rfl) ?_
  refine kx_V (As := [.int pp]) (rest := [.int (nI 0), .ref o]) C hX h hl.1 (c_X_back l Γ d hm mc so tl tb _ pp hC0 hst) mw_X_back lk_L_35 (q0 := 0) rfl rfl rfl (by decide) (by decide) (Nat.le_of_ble_eq_true rfl) dc_L_back_4 (fun E ce q9 u H locs hp h hc1 hc2 hc3 => ?_) (fun v u H locs hp h => ?_)
  · rcases hp with ⟨rfl, rfl, hn⟩ | ⟨rfl, i, h0, h1, hq⟩
    · refine vx_catch (name := en_iae) C.o [] ⟨0, 9, 12, 13⟩ [⟨0, 9, 15, 15⟩] hT (fun z hz => absurd hz List.not_mem_nil) (by decide) (by decide) (C.t _ nk_L_13) (C.w.use _ kc_iae) hc1 hc2 hc3 ?_
      refine W.eq (g2 := F0 m 12 ls [.ref q9]) rfl ?_
      refine lv_astore_n (lv' := [(3, .ref q9), (0, .ref (d 0)), (1, .int pp), (2, .ref o)]) C.x C.b dc_L_back_12 rfl hl (by decide) rfl (fun ls hl => ?_)
      refine lv_iconst (v := nI 1) C.x C.b dc_L_back_13 (by decide +kernel) ?_
      rw [hQ]
      exact rt_i C (1, (hm, mc, so, tb), tl, g) h (⟨rfl, Nat.le_of_ble_eq_true rfl, Or.inr (Or.inl ⟨rfl, fun M ⟨i, h0, h1, _⟩ => hn ⟨i, h0, h1⟩, rfl⟩)⟩) dc_L_back_14
    · refine vx_catch (name := en_ioe) C.o [⟨0, 9, 12, 13⟩] ⟨0, 9, 15, 15⟩ [] hT (fun z hz => by cases List.mem_singleton.mp hz; exact Or.inr ⟨by decide, en_iae, C.t _ nk_L_13, hC.1⟩) (by decide) (by decide) (C.t _ nk_L_15) (C.w.use _ kc_ioe) hc1 hc2 hc3 ?_
      refine W.eq (g2 := F0 m 15 ls [.ref q9]) rfl ?_
      refine lv_astore_n (lv' := [(3, .ref q9), (0, .ref (d 0)), (1, .int pp), (2, .ref o)]) C.x C.b dc_L_back_15 rfl hl (by decide) rfl (fun ls hl => ?_)
      refine lv_iconst (v := nI 2) C.x C.b dc_L_back_16 (by decide +kernel) ?_
      rw [hQ]
      exact rt_i C (2, u, tl, g) h (⟨rfl, Nat.le_of_ble_eq_true rfl, Or.inr (Or.inr ⟨rfl, _, ⟨i, h0, h1, rfl⟩, hq⟩)⟩) dc_L_back_17
  obtain ⟨i, h0, h1, hq⟩ := hp
  have hv := hq.1
  subst hv
  replace h : sT Γ s (xW Γ d u.1 u.2.1 u.2.2.1 tl u.2.2.2 ((o, oE Γ g) :: wr)) _ _ := h
  refine W.eq (g2 := F0 m 7 ls [.int (nI (so 10 3)), .int (nI 0), .ref o]) rfl ?_
  refine lv_i2l C.x C.b dc_L_back_7 rfl ?_
  refine rg_lst C h 257 lk_o (by decide) (by decide) dc_L_back_8 (fun H locs h => ?_)
  rw [st_o] at h
  refine lv_goto (tgt := 18) C.x C.b dc_L_back_9 (by decide) ?_
  refine lv_iconst (v := nI 0) C.x C.b dc_L_back_18 (by decide +kernel) ?_
  rw [hQ]
  exact rt_i C (0, u, tl, us g 0 (nI (so 10 3)).toInt64) h (⟨rfl, Nat.le_of_ble_eq_true rfl, Or.inl ⟨rfl, _, _, ⟨i, h0, h1, rfl⟩, hq, rfl⟩⟩) dc_L_back_19

abbrev rm_L_rest : Room := { frames := 8, cells := 8, slots := 48, locals := 188 }
set_option maxRecDepth 100000 in
set_option maxHeartbeats 4000000 in
theorem c_L_rest (l : Launch) (Γ : gG) (d : Nat → Nat) (hm : Nat) (mc : va_E) (so : Nat → Nat → Nat) (tl : Nat → Nat → Int64) (tb : Nat → Nat → Nat → Nat) (wr : va_W) (o : Nat) (g : Nat → Int64) (pp : Int32) (ll : Int32) (hC0 : CS so tb) (hst : l.stackTraces = false) : cL l Γ my_L_rest bc_L_rest 5 [(0, 10, 13, 13), (0, 10, 17, 15)] rm_L_rest [.ref (d 0), .int pp, .int ll, .ref o] (xW Γ d hm mc so tl tb ((o, oE Γ g) :: wr)) (S := Nat × xG × (Nat → Nat → Int64) × (Nat → Int64)) (fun v u => v = some (.int (nI u.1)) ∧ u.1 ≤ 2 ∧ wM hm mc so tb 2 (fun M => ∃ i lt, i < so 10 3 ∧ lt < 3 ∧ pp = nI i ∧ ll = nI lt ∧ M = mqR (tb i) (tb i 1 (0 * 3 + lt)) (nI (tb i 0 1))) u.1 u.2.1 u.2.2.2) (fun u => xW Γ d u.2.1.1 u.2.1.2.1 u.2.1.2.2.1 u.2.2.1 u.2.1.2.2.2 ((o, oE Γ u.2.2.2) :: wr)) := by
  refine cL.start (by decide) (Nat.le_of_ble_eq_true rfl) (fun p e s m args below meth c ls Q hQ C hmn hT hX hC h hl => ?_)
  replace hl : lv_has ls 5 [(0, .ref (d 0)), (1, .int pp), (2, .int ll), (3, .ref o)] := hl
  refine lv_aload_n C.x C.b dc_L_rest_0 rfl (lv_at hl 3 rfl) ?_
  refine lv_iconst (v := nI 0) C.x C.b dc_L_rest_1 (by decide +kernel) ?_
  refine lv_aload_n C.x C.b dc_L_rest_2 rfl (lv_at hl 0 rfl) ?_
  refine lv_iload_n C.x C.b dc_L_rest_3 rfl (lv_at hl 1 rfl) ?_
  refine lv_iload_n C.x C.b dc_L_rest_4 rfl (lv_at hl 2 rfl) ?_
  refine kx_V (As := [.int pp, .int ll]) (rest := [.int (nI 0), .ref o]) C hX h hl.1 (c_X_rest l Γ d hm mc so tl tb _ pp ll hC0 hst) mw_X_rest lk_L_38 (q0 := 0) rfl rfl rfl (by decide) (by decide) (Nat.le_of_ble_eq_true rfl) dc_L_rest_5 (fun E ce q9 u H locs hp h hc1 hc2 hc3 => ?_) (fun v u H locs hp h => ?_)
  · rcases hp with ⟨rfl, rfl, hn⟩ | ⟨rfl, i, lt, h0, h1, h2, h3, hq⟩
    · refine vx_catch (name := en_iae) C.o [] ⟨0, 10, 13, 13⟩ [⟨0, 10, 17, 15⟩] hT (fun z hz => absurd hz List.not_mem_nil) (by decide) (by decide) (C.t _ nk_L_13) (C.w.use _ kc_iae) hc1 hc2 hc3 ?_
      refine W.eq (g2 := F0 m 13 ls [.ref q9]) rfl ?_
      refine lv_astore (lv' := [(4, .ref q9), (0, .ref (d 0)), (1, .int pp), (2, .int ll), (3, .ref o)]) C.x C.b dc_L_rest_13 hl (by decide) rfl (fun ls hl => ?_)
      refine lv_iconst (v := nI 1) C.x C.b dc_L_rest_15 (by decide +kernel) ?_
      rw [hQ]
      exact rt_i C (1, (hm, mc, so, tb), tl, g) h (⟨rfl, Nat.le_of_ble_eq_true rfl, Or.inr (Or.inl ⟨rfl, fun M ⟨i, lt, h0, h1, h2, h3, _⟩ => hn ⟨i, lt, h0, h1, h2, h3⟩, rfl⟩)⟩) dc_L_rest_16
    · refine vx_catch (name := en_ioe) C.o [⟨0, 10, 13, 13⟩] ⟨0, 10, 17, 15⟩ [] hT (fun z hz => by cases List.mem_singleton.mp hz; exact Or.inr ⟨by decide, en_iae, C.t _ nk_L_13, hC.1⟩) (by decide) (by decide) (C.t _ nk_L_15) (C.w.use _ kc_ioe) hc1 hc2 hc3 ?_
      refine W.eq (g2 := F0 m 17 ls [.ref q9]) rfl ?_
      refine lv_astore (lv' := [(4, .ref q9), (0, .ref (d 0)), (1, .int pp), (2, .int ll), (3, .ref o)]) C.x C.b dc_L_rest_17 hl (by decide) rfl (fun ls hl => ?_)
      refine lv_iconst (v := nI 2) C.x C.b dc_L_rest_19 (by decide +kernel) ?_
      rw [hQ]
      exact rt_i C (2, u, tl, g) h (⟨rfl, Nat.le_of_ble_eq_true rfl, Or.inr (Or.inr ⟨rfl, _, ⟨i, lt, h0, h1, h2, h3, rfl⟩, hq⟩)⟩) dc_L_rest_20
  obtain ⟨i, lt, h0, h1, h2, h3, hq⟩ := hp
  have hv := hq.1
  subst hv
  replace h : sT Γ s (xW Γ d u.1 u.2.1 u.2.2.1 tl u.2.2.2 ((o, oE Γ g) :: wr)) _ _ := h
  refine W.eq (g2 := F0 m 8 ls [.int (nI (so 10 3)), .int (nI 0), .ref o]) rfl ?_
  refine lv_i2l C.x C.b dc_L_rest_8 rfl ?_
  refine rg_lst C h 257 lk_o (by decide) (by decide) dc_L_rest_9 (fun H locs h => ?_)
  rw [st_o] at h
  refine lv_goto (tgt := 21) C.x C.b dc_L_rest_10 (by decide) ?_
  refine lv_iconst (v := nI 0) C.x C.b dc_L_rest_21 (by decide +kernel) ?_
  rw [hQ]
  exact rt_i C (0, u, tl, us g 0 (nI (so 10 3)).toInt64) h (⟨rfl, Nat.le_of_ble_eq_true rfl, Or.inl ⟨rfl, _, _, ⟨i, lt, h0, h1, h2, h3, rfl⟩, hq, rfl⟩⟩) dc_L_rest_22

abbrev rm_L_beginnings : Room := { frames := 8, cells := 8, slots := 48, locals := 187 }
set_option maxRecDepth 100000 in
set_option maxHeartbeats 4000000 in
theorem c_L_beginnings (l : Launch) (Γ : gG) (d : Nat → Nat) (hm : Nat) (mc : va_E) (so : Nat → Nat → Nat) (tl : Nat → Nat → Int64) (tb : Nat → Nat → Nat → Nat) (wr : va_W) (o : Nat) (g : Nat → Int64) (pp : Int32) (hC0 : CS so tb) (hst : l.stackTraces = false) : cL l Γ my_L_beginnings bc_L_beginnings 4 [(0, 9, 12, 13), (0, 9, 15, 15)] rm_L_beginnings [.ref (d 0), .int pp, .ref o] (xW Γ d hm mc so tl tb ((o, oE Γ g) :: wr)) (S := Nat × xG × (Nat → Nat → Int64) × (Nat → Int64)) (fun v u => v = some (.int (nI u.1)) ∧ u.1 ≤ 2 ∧ wM hm mc so tb 2 (fun M => ∃ i, i < so 10 3 ∧ pp = nI i ∧ M = mqR (tb i) 0 (nI (tb i 0 2))) u.1 u.2.1 u.2.2.2) (fun u => xW Γ d u.2.1.1 u.2.1.2.1 u.2.1.2.2.1 u.2.2.1 u.2.1.2.2.2 ((o, oE Γ u.2.2.2) :: wr)) := by
  refine cL.start (by decide) (Nat.le_of_ble_eq_true rfl) (fun p e s m args below meth c ls Q hQ C hmn hT hX hC h hl => ?_)
  replace hl : lv_has ls 4 [(0, .ref (d 0)), (1, .int pp), (2, .ref o)] := hl
  refine lv_aload_n C.x C.b dc_L_beginnings_0 rfl (lv_at hl 2 rfl) ?_
  refine lv_iconst (v := nI 0) C.x C.b dc_L_beginnings_1 (by decide +kernel) ?_
  refine lv_aload_n C.x C.b dc_L_beginnings_2 rfl (lv_at hl 0 rfl) ?_
  refine lv_iload_n C.x C.b dc_L_beginnings_3 rfl (lv_at hl 1 rfl) ?_
  refine kx_V (As := [.int pp]) (rest := [.int (nI 0), .ref o]) C hX h hl.1 (c_X_beginnings l Γ d hm mc so tl tb _ pp hC0 hst) mw_X_beginnings lk_L_41 (q0 := 0) rfl rfl rfl (by decide) (by decide) (Nat.le_of_ble_eq_true rfl) dc_L_beginnings_4 (fun E ce q9 u H locs hp h hc1 hc2 hc3 => ?_) (fun v u H locs hp h => ?_)
  · rcases hp with ⟨rfl, rfl, hn⟩ | ⟨rfl, i, h0, h1, hq⟩
    · refine vx_catch (name := en_iae) C.o [] ⟨0, 9, 12, 13⟩ [⟨0, 9, 15, 15⟩] hT (fun z hz => absurd hz List.not_mem_nil) (by decide) (by decide) (C.t _ nk_L_13) (C.w.use _ kc_iae) hc1 hc2 hc3 ?_
      refine W.eq (g2 := F0 m 12 ls [.ref q9]) rfl ?_
      refine lv_astore_n (lv' := [(3, .ref q9), (0, .ref (d 0)), (1, .int pp), (2, .ref o)]) C.x C.b dc_L_beginnings_12 rfl hl (by decide) rfl (fun ls hl => ?_)
      refine lv_iconst (v := nI 1) C.x C.b dc_L_beginnings_13 (by decide +kernel) ?_
      rw [hQ]
      exact rt_i C (1, (hm, mc, so, tb), tl, g) h (⟨rfl, Nat.le_of_ble_eq_true rfl, Or.inr (Or.inl ⟨rfl, fun M ⟨i, h0, h1, _⟩ => hn ⟨i, h0, h1⟩, rfl⟩)⟩) dc_L_beginnings_14
    · refine vx_catch (name := en_ioe) C.o [⟨0, 9, 12, 13⟩] ⟨0, 9, 15, 15⟩ [] hT (fun z hz => by cases List.mem_singleton.mp hz; exact Or.inr ⟨by decide, en_iae, C.t _ nk_L_13, hC.1⟩) (by decide) (by decide) (C.t _ nk_L_15) (C.w.use _ kc_ioe) hc1 hc2 hc3 ?_
      refine W.eq (g2 := F0 m 15 ls [.ref q9]) rfl ?_
      refine lv_astore_n (lv' := [(3, .ref q9), (0, .ref (d 0)), (1, .int pp), (2, .ref o)]) C.x C.b dc_L_beginnings_15 rfl hl (by decide) rfl (fun ls hl => ?_)
      refine lv_iconst (v := nI 2) C.x C.b dc_L_beginnings_16 (by decide +kernel) ?_
      rw [hQ]
      exact rt_i C (2, u, tl, g) h (⟨rfl, Nat.le_of_ble_eq_true rfl, Or.inr (Or.inr ⟨rfl, _, ⟨i, h0, h1, rfl⟩, hq⟩)⟩) dc_L_beginnings_17
  obtain ⟨i, h0, h1, hq⟩ := hp
  have hv := hq.1
  subst hv
  replace h : sT Γ s (xW Γ d u.1 u.2.1 u.2.2.1 tl u.2.2.2 ((o, oE Γ g) :: wr)) _ _ := h
  refine W.eq (g2 := F0 m 7 ls [.int (nI (so 10 3)), .int (nI 0), .ref o]) rfl ?_
  refine lv_i2l C.x C.b dc_L_beginnings_7 rfl ?_
  refine rg_lst C h 257 lk_o (by decide) (by decide) dc_L_beginnings_8 (fun H locs h => ?_)
  rw [st_o] at h
  refine lv_goto (tgt := 18) C.x C.b dc_L_beginnings_9 (by decide) ?_
  refine lv_iconst (v := nI 0) C.x C.b dc_L_beginnings_18 (by decide +kernel) ?_
  rw [hQ]
  exact rt_i C (0, u, tl, us g 0 (nI (so 10 3)).toInt64) h (⟨rfl, Nat.le_of_ble_eq_true rfl, Or.inl ⟨rfl, _, _, ⟨i, h0, h1, rfl⟩, hq, rfl⟩⟩) dc_L_beginnings_19

abbrev rm_L_has : Room := { frames := 8, cells := 6, slots := 40, locals := 131 }
set_option maxRecDepth 100000 in
set_option maxHeartbeats 4000000 in
theorem c_L_has (l : Launch) (Γ : gG) (d : Nat → Nat) (hm : Nat) (mc : va_E) (so : Nat → Nat → Nat) (tl : Nat → Nat → Int64) (tb : Nat → Nat → Nat → Nat) (wr : va_W) (o : Nat) (g : Nat → Int64) (pp : Int32) (nn : Int32) (wd : Int64) (hC0 : CS so tb) (hst : l.stackTraces = false) : cL l Γ my_L_has bc_L_has 7 [(0, 19, 22, 13)] rm_L_has [.ref (d 0), .int pp, .int nn, .long wd, .ref o] (xW Γ d hm mc so tl tb ((o, oE Γ g) :: wr)) (S := Nat × xG × (Nat → Nat → Int64) × (Nat → Int64)) (fun v u => v = some (.int (nI u.1)) ∧ u.1 ≤ 2 ∧ (CS u.2.1.2.2.1 tb ∧ u.2.1.2.2.1 10 3 = so 10 3 ∧ u.2.1.2.2.2 = tb) ∧ ((u.1 = 0 ∧ ∃ x : Int32, (∃ i n, (i < so 10 3 ∧ pp = nI i ∧ n ≤ 30 ∧ nn = nI n ∧ ∀ k, k < n → wl wd k < 3) ∧ some (Value.int x) = some (.int (bI (macc (tM (tb i)) 0 (wL wd n))))) ∧ u.2.2.2 0 = if x = 0 then 0 else 1) ∨ (u.1 = 1 ∧ ¬ ∃ i n, i < so 10 3 ∧ pp = nI i ∧ n ≤ 30 ∧ nn = nI n ∧ ∀ k, k < n → wl wd k < 3))) (fun u => xW Γ d u.2.1.1 u.2.1.2.1 u.2.1.2.2.1 u.2.2.1 u.2.1.2.2.2 ((o, oE Γ u.2.2.2) :: wr)) := by
  refine cL.start (by decide) (Nat.le_of_ble_eq_true rfl) (fun p e s m args below meth c ls Q hQ C hmn hT hX hC h hl => ?_)
  replace hl : lv_has ls 7 [(0, .ref (d 0)), (1, .int pp), (2, .int nn), (3, .long wd), (5, .ref o)] := hl
  refine lv_aload C.x C.b dc_L_has_0 (lv_at hl 4 rfl) ?_
  refine lv_iconst (v := nI 0) C.x C.b dc_L_has_2 (by decide +kernel) ?_
  refine lv_aload_n C.x C.b dc_L_has_3 rfl (lv_at hl 0 rfl) ?_
  refine lv_iload_n C.x C.b dc_L_has_4 rfl (lv_at hl 1 rfl) ?_
  refine lv_iload_n C.x C.b dc_L_has_5 rfl (lv_at hl 2 rfl) ?_
  refine lv_lload_n C.x C.b dc_L_has_6 rfl (lv_at hl 3 rfl) ?_
  refine kx_V (As := [.int pp, .int nn, .long wd]) (rest := [.int (nI 0), .ref o]) C hX h hl.1 (c_X_has l Γ d hm mc so tl tb _ pp nn wd hC0 hst) mw_X_has lk_L_44 (q0 := 0) rfl rfl rfl (by decide) (by decide) (Nat.le_of_ble_eq_true rfl) dc_L_has_7 (fun E ce q9 u H locs hp h hc1 hc2 hc3 => ?_) (fun v u H locs hp h => ?_)
  · obtain ⟨rfl, hn⟩ := hp
    refine vx_catch (name := en_iae) C.o [] ⟨0, 19, 22, 13⟩ [] hT (fun z hz => absurd hz List.not_mem_nil) (by decide) (by decide) (C.t _ nk_L_13) (C.w.use _ kc_iae) hc1 hc2 hc3 ?_
    refine W.eq (g2 := F0 m 22 ls [.ref q9]) rfl ?_
    refine lv_astore (lv' := [(6, .ref q9), (0, .ref (d 0)), (1, .int pp), (2, .int nn), (3, .long wd), (5, .ref o)]) C.x C.b dc_L_has_22 hl (by decide) rfl (fun ls hl => ?_)
    refine lv_iconst (v := nI 1) C.x C.b dc_L_has_24 (by decide +kernel) ?_
    rw [hQ]
    exact rt_i C (1, (hm, mc, so, tb), tl, g) h (⟨rfl, Nat.le_of_ble_eq_true rfl, ⟨hC0, rfl, rfl⟩, Or.inr ⟨rfl, hn⟩⟩) dc_L_has_25
  obtain ⟨i, n, hi, rfl⟩ := hp
  replace h : sT Γ s (xW Γ d hm mc so tl tb ((o, oE Γ g) :: wr)) _ _ := h
  refine W.eq (g2 := F0 m 10 ls [.int (bI (macc (tM (tb i)) 0 (wL wd n))), .int (nI 0), .ref o]) rfl ?_
  refine bb_eq (tgt := 17) C dc_L_has_10 (by decide) (fun q => ?_) (fun q => ?_)
  · refine lv_lconst (v := 0) C.x C.b dc_L_has_17 (by decide +kernel) ?_
    refine rg_lst C h 257 lk_o (by decide) (by decide) dc_L_has_18 (fun H locs h => ?_)
    rw [st_o] at h
    refine lv_goto (tgt := 26) C.x C.b dc_L_has_19 (by decide) ?_
    refine lv_iconst (v := nI 0) C.x C.b dc_L_has_26 (by decide +kernel) ?_
    rw [hQ]
    exact rt_i C (0, (hm, mc, so, tb), tl, us g 0 0) h (⟨rfl, Nat.le_of_ble_eq_true rfl, ⟨hC0, rfl, rfl⟩, Or.inl ⟨rfl, _, ⟨i, n, hi, rfl⟩, by rw [q]; rfl⟩⟩) dc_L_has_27
  · refine lv_lconst (v := 1) C.x C.b dc_L_has_13 (by decide +kernel) ?_
    refine lv_goto (tgt := 18) C.x C.b dc_L_has_14 (by decide) ?_
    refine rg_lst C h 257 lk_o (by decide) (by decide) dc_L_has_18 (fun H locs h => ?_)
    rw [st_o] at h
    refine lv_goto (tgt := 26) C.x C.b dc_L_has_19 (by decide) ?_
    refine lv_iconst (v := nI 0) C.x C.b dc_L_has_26 (by decide +kernel) ?_
    rw [hQ]
    exact rt_i C (0, (hm, mc, so, tb), tl, us g 0 1) h (⟨rfl, Nat.le_of_ble_eq_true rfl, ⟨hC0, rfl, rfl⟩, Or.inl ⟨rfl, _, ⟨i, n, hi, rfl⟩, by rw [q]; rfl⟩⟩) dc_L_has_27

abbrev rm_L_same : Room := { frames := 8, cells := 6, slots := 40, locals := 125 }
set_option maxRecDepth 100000 in
set_option maxHeartbeats 4000000 in
theorem c_L_same (l : Launch) (Γ : gG) (d : Nat → Nat) (hm : Nat) (mc : va_E) (so : Nat → Nat → Nat) (tl : Nat → Nat → Int64) (tb : Nat → Nat → Nat → Nat) (wr : va_W) (o : Nat) (g : Nat → Int64) (pp : Int32) (qq : Int32) (hC0 : CS so tb) (hst : l.stackTraces = false) : cL l Γ my_L_same bc_L_same 5 [(0, 17, 20, 13)] rm_L_same [.ref (d 0), .int pp, .int qq, .ref o] (xW Γ d hm mc so tl tb ((o, oE Γ g) :: wr)) (S := Nat × xG × (Nat → Nat → Int64) × (Nat → Int64)) (fun v u => v = some (.int (nI u.1)) ∧ u.1 ≤ 2 ∧ (CS u.2.1.2.2.1 tb ∧ u.2.1.2.2.1 10 3 = so 10 3 ∧ u.2.1.2.2.2 = tb) ∧ ((u.1 = 0 ∧ ∃ x : Int32, (∃ i j, (i < so 10 3 ∧ j < so 10 3 ∧ pp = nI i ∧ qq = nI j) ∧ ∃ b : Bool, some (Value.int x) = some (.int (bI b)) ∧ (b = true ↔ (tb i 0 0 = tb j 0 0 ∧ tb i 0 1 = tb j 0 1 ∧ ∀ k, k < tb i 0 0 * 3 → tb i 1 k = tb j 1 k))) ∧ u.2.2.2 0 = if x = 0 then 0 else 1) ∨ (u.1 = 1 ∧ ¬ ∃ i j, i < so 10 3 ∧ j < so 10 3 ∧ pp = nI i ∧ qq = nI j))) (fun u => xW Γ d u.2.1.1 u.2.1.2.1 u.2.1.2.2.1 u.2.2.1 u.2.1.2.2.2 ((o, oE Γ u.2.2.2) :: wr)) := by
  refine cL.start (by decide) (Nat.le_of_ble_eq_true rfl) (fun p e s m args below meth c ls Q hQ C hmn hT hX hC h hl => ?_)
  replace hl : lv_has ls 5 [(0, .ref (d 0)), (1, .int pp), (2, .int qq), (3, .ref o)] := hl
  refine lv_aload_n C.x C.b dc_L_same_0 rfl (lv_at hl 3 rfl) ?_
  refine lv_iconst (v := nI 0) C.x C.b dc_L_same_1 (by decide +kernel) ?_
  refine lv_aload_n C.x C.b dc_L_same_2 rfl (lv_at hl 0 rfl) ?_
  refine lv_iload_n C.x C.b dc_L_same_3 rfl (lv_at hl 1 rfl) ?_
  refine lv_iload_n C.x C.b dc_L_same_4 rfl (lv_at hl 2 rfl) ?_
  refine kx_V (As := [.int pp, .int qq]) (rest := [.int (nI 0), .ref o]) C hX h hl.1 (c_X_same l Γ d hm mc so tl tb _ pp qq hC0 hst) mw_X_same lk_L_48 (q0 := 0) rfl rfl rfl (by decide) (by decide) (Nat.le_of_ble_eq_true rfl) dc_L_same_5 (fun E ce q9 u H locs hp h hc1 hc2 hc3 => ?_) (fun v u H locs hp h => ?_)
  · obtain ⟨rfl, hn⟩ := hp
    refine vx_catch (name := en_iae) C.o [] ⟨0, 17, 20, 13⟩ [] hT (fun z hz => absurd hz List.not_mem_nil) (by decide) (by decide) (C.t _ nk_L_13) (C.w.use _ kc_iae) hc1 hc2 hc3 ?_
    refine W.eq (g2 := F0 m 20 ls [.ref q9]) rfl ?_
    refine lv_astore (lv' := [(4, .ref q9), (0, .ref (d 0)), (1, .int pp), (2, .int qq), (3, .ref o)]) C.x C.b dc_L_same_20 hl (by decide) rfl (fun ls hl => ?_)
    refine lv_iconst (v := nI 1) C.x C.b dc_L_same_22 (by decide +kernel) ?_
    rw [hQ]
    exact rt_i C (1, (hm, mc, so, tb), tl, g) h (⟨rfl, Nat.le_of_ble_eq_true rfl, ⟨hC0, rfl, rfl⟩, Or.inr ⟨rfl, hn⟩⟩) dc_L_same_23
  obtain ⟨i, j, hi, b, rfl, hb⟩ := hp
  replace h : sT Γ s (xW Γ d hm mc so tl tb ((o, oE Γ g) :: wr)) _ _ := h
  refine W.eq (g2 := F0 m 8 ls [.int (bI b), .int (nI 0), .ref o]) rfl ?_
  refine bb_eq (tgt := 15) C dc_L_same_8 (by decide) (fun q => ?_) (fun q => ?_)
  · refine lv_lconst (v := 0) C.x C.b dc_L_same_15 (by decide +kernel) ?_
    refine rg_lst C h 257 lk_o (by decide) (by decide) dc_L_same_16 (fun H locs h => ?_)
    rw [st_o] at h
    refine lv_goto (tgt := 24) C.x C.b dc_L_same_17 (by decide) ?_
    refine lv_iconst (v := nI 0) C.x C.b dc_L_same_24 (by decide +kernel) ?_
    rw [hQ]
    exact rt_i C (0, (hm, mc, so, tb), tl, us g 0 0) h (⟨rfl, Nat.le_of_ble_eq_true rfl, ⟨hC0, rfl, rfl⟩, Or.inl ⟨rfl, _, ⟨i, j, hi, b, rfl, hb⟩, by rw [q]; rfl⟩⟩) dc_L_same_25
  · refine lv_lconst (v := 1) C.x C.b dc_L_same_11 (by decide +kernel) ?_
    refine lv_goto (tgt := 16) C.x C.b dc_L_same_12 (by decide) ?_
    refine rg_lst C h 257 lk_o (by decide) (by decide) dc_L_same_16 (fun H locs h => ?_)
    rw [st_o] at h
    refine lv_goto (tgt := 24) C.x C.b dc_L_same_17 (by decide) ?_
    refine lv_iconst (v := nI 0) C.x C.b dc_L_same_24 (by decide +kernel) ?_
    rw [hQ]
    exact rt_i C (0, (hm, mc, so, tb), tl, us g 0 1) h (⟨rfl, Nat.le_of_ble_eq_true rfl, ⟨hC0, rfl, rfl⟩, Or.inl ⟨rfl, _, ⟨i, j, hi, b, rfl, hb⟩, by rw [q]; rfl⟩⟩) dc_L_same_25

abbrev rm_L_inside : Room := { frames := 8, cells := 6, slots := 40, locals := 136 }
set_option maxRecDepth 100000 in
set_option maxHeartbeats 4000000 in
theorem c_L_inside (l : Launch) (Γ : gG) (d : Nat → Nat) (hm : Nat) (mc : va_E) (so : Nat → Nat → Nat) (tl : Nat → Nat → Int64) (tb : Nat → Nat → Nat → Nat) (wr : va_W) (o : Nat) (g : Nat → Int64) (pp : Int32) (qq : Int32) (hC0 : CS so tb) (hst : l.stackTraces = false) : cL l Γ my_L_inside bc_L_inside 5 [(0, 17, 20, 13)] rm_L_inside [.ref (d 0), .int pp, .int qq, .ref o] (xW Γ d hm mc so tl tb ((o, oE Γ g) :: wr)) (S := Nat × xG × (Nat → Nat → Int64) × (Nat → Int64)) (fun v u => v = some (.int (nI u.1)) ∧ u.1 ≤ 2 ∧ (CS u.2.1.2.2.1 tb ∧ u.2.1.2.2.1 10 3 = so 10 3 ∧ u.2.1.2.2.2 = tb) ∧ ((u.1 = 0 ∧ ∃ x : Int32, (∃ i j, (i < so 10 3 ∧ j < so 10 3 ∧ pp = nI i ∧ qq = nI j) ∧ ∃ b : Bool, some (Value.int x) = some (.int (bI b)) ∧ (b = true ↔ ∀ w, lts w → ¬ macc (mqB 2 (tb i) (tb j)) 0 w = true)) ∧ u.2.2.2 0 = if x = 0 then 0 else 1) ∨ (u.1 = 1 ∧ ¬ ∃ i j, i < so 10 3 ∧ j < so 10 3 ∧ pp = nI i ∧ qq = nI j))) (fun u => xW Γ d u.2.1.1 u.2.1.2.1 u.2.1.2.2.1 u.2.2.1 u.2.1.2.2.2 ((o, oE Γ u.2.2.2) :: wr)) := by
  refine cL.start (by decide) (Nat.le_of_ble_eq_true rfl) (fun p e s m args below meth c ls Q hQ C hmn hT hX hC h hl => ?_)
  replace hl : lv_has ls 5 [(0, .ref (d 0)), (1, .int pp), (2, .int qq), (3, .ref o)] := hl
  refine lv_aload_n C.x C.b dc_L_inside_0 rfl (lv_at hl 3 rfl) ?_
  refine lv_iconst (v := nI 0) C.x C.b dc_L_inside_1 (by decide +kernel) ?_
  refine lv_aload_n C.x C.b dc_L_inside_2 rfl (lv_at hl 0 rfl) ?_
  refine lv_iload_n C.x C.b dc_L_inside_3 rfl (lv_at hl 1 rfl) ?_
  refine lv_iload_n C.x C.b dc_L_inside_4 rfl (lv_at hl 2 rfl) ?_
  refine kx_V (As := [.int pp, .int qq]) (rest := [.int (nI 0), .ref o]) C hX h hl.1 (c_X_inside l Γ d hm mc so tl tb _ pp qq hC0 hst) mw_X_inside lk_L_52 (q0 := 0) rfl rfl rfl (by decide) (by decide) (Nat.le_of_ble_eq_true rfl) dc_L_inside_5 (fun E ce q9 u H locs hp h hc1 hc2 hc3 => ?_) (fun v u H locs hp h => ?_)
  · obtain ⟨rfl, rfl, hn⟩ := hp
    refine vx_catch (name := en_iae) C.o [] ⟨0, 17, 20, 13⟩ [] hT (fun z hz => absurd hz List.not_mem_nil) (by decide) (by decide) (C.t _ nk_L_13) (C.w.use _ kc_iae) hc1 hc2 hc3 ?_
    refine W.eq (g2 := F0 m 20 ls [.ref q9]) rfl ?_
    refine lv_astore (lv' := [(4, .ref q9), (0, .ref (d 0)), (1, .int pp), (2, .int qq), (3, .ref o)]) C.x C.b dc_L_inside_20 hl (by decide) rfl (fun ls hl => ?_)
    refine lv_iconst (v := nI 1) C.x C.b dc_L_inside_22 (by decide +kernel) ?_
    rw [hQ]
    exact rt_i C (1, (hm, mc, so, tb), tl, g) h (⟨rfl, Nat.le_of_ble_eq_true rfl, ⟨hC0, rfl, rfl⟩, Or.inr ⟨rfl, hn⟩⟩) dc_L_inside_23
  obtain ⟨i, j, hi, b, rfl, hb, hc4, hc5, hc6⟩ := hp
  replace h : sT Γ s (xW Γ d u.1 u.2.1 u.2.2.1 tl u.2.2.2 ((o, oE Γ g) :: wr)) _ _ := h
  refine W.eq (g2 := F0 m 8 ls [.int (bI b), .int (nI 0), .ref o]) rfl ?_
  refine bb_eq (tgt := 15) C dc_L_inside_8 (by decide) (fun q => ?_) (fun q => ?_)
  · refine lv_lconst (v := 0) C.x C.b dc_L_inside_15 (by decide +kernel) ?_
    refine rg_lst C h 257 lk_o (by decide) (by decide) dc_L_inside_16 (fun H locs h => ?_)
    rw [st_o] at h
    refine lv_goto (tgt := 24) C.x C.b dc_L_inside_17 (by decide) ?_
    refine lv_iconst (v := nI 0) C.x C.b dc_L_inside_24 (by decide +kernel) ?_
    rw [hQ]
    exact rt_i C (0, u, tl, us g 0 0) h (⟨rfl, Nat.le_of_ble_eq_true rfl, ⟨hc4, hc5, hc6⟩, Or.inl ⟨rfl, _, ⟨i, j, hi, b, rfl, hb⟩, by rw [q]; rfl⟩⟩) dc_L_inside_25
  · refine lv_lconst (v := 1) C.x C.b dc_L_inside_11 (by decide +kernel) ?_
    refine lv_goto (tgt := 16) C.x C.b dc_L_inside_12 (by decide) ?_
    refine rg_lst C h 257 lk_o (by decide) (by decide) dc_L_inside_16 (fun H locs h => ?_)
    rw [st_o] at h
    refine lv_goto (tgt := 24) C.x C.b dc_L_inside_17 (by decide) ?_
    refine lv_iconst (v := nI 0) C.x C.b dc_L_inside_24 (by decide +kernel) ?_
    rw [hQ]
    exact rt_i C (0, u, tl, us g 0 1) h (⟨rfl, Nat.le_of_ble_eq_true rfl, ⟨hc4, hc5, hc6⟩, Or.inl ⟨rfl, _, ⟨i, j, hi, b, rfl, hb⟩, by rw [q]; rfl⟩⟩) dc_L_inside_25

abbrev rm_L_rests : Room := { frames := 8, cells := 6, slots := 40, locals := 124 }
set_option maxRecDepth 100000 in
set_option maxHeartbeats 4000000 in
theorem c_L_rests (l : Launch) (Γ : gG) (d : Nat → Nat) (hm : Nat) (mc : va_E) (so : Nat → Nat → Nat) (tl : Nat → Nat → Int64) (tb : Nat → Nat → Nat → Nat) (wr : va_W) (o : Nat) (g : Nat → Int64) (pp : Int32) (hC0 : CS so tb) (hst : l.stackTraces = false) : cL l Γ my_L_rests bc_L_rests 4 [(0, 9, 12, 13)] rm_L_rests [.ref (d 0), .int pp, .ref o] (xW Γ d hm mc so tl tb ((o, oE Γ g) :: wr)) (S := Nat × xG × (Nat → Nat → Int64) × (Nat → Int64)) (fun v u => v = some (.int (nI u.1)) ∧ u.1 ≤ 2 ∧ (CS u.2.1.2.2.1 tb ∧ u.2.1.2.2.1 10 3 = so 10 3 ∧ u.2.1.2.2.2 = tb) ∧ ((u.1 = 0 ∧ ∃ x : Int32, (∃ i, (i < so 10 3 ∧ pp = nI i) ∧ some (Value.int x) = some (.int (nI (tb i 0 0)))) ∧ u.2.2.2 0 = x.toInt64) ∨ (u.1 = 1 ∧ ¬ ∃ i, i < so 10 3 ∧ pp = nI i))) (fun u => xW Γ d u.2.1.1 u.2.1.2.1 u.2.1.2.2.1 u.2.2.1 u.2.1.2.2.2 ((o, oE Γ u.2.2.2) :: wr)) := by
  refine cL.start (by decide) (Nat.le_of_ble_eq_true rfl) (fun p e s m args below meth c ls Q hQ C hmn hT hX hC h hl => ?_)
  replace hl : lv_has ls 4 [(0, .ref (d 0)), (1, .int pp), (2, .ref o)] := hl
  refine lv_aload_n C.x C.b dc_L_rests_0 rfl (lv_at hl 2 rfl) ?_
  refine lv_iconst (v := nI 0) C.x C.b dc_L_rests_1 (by decide +kernel) ?_
  refine lv_aload_n C.x C.b dc_L_rests_2 rfl (lv_at hl 0 rfl) ?_
  refine lv_iload_n C.x C.b dc_L_rests_3 rfl (lv_at hl 1 rfl) ?_
  refine kx_V (As := [.int pp]) (rest := [.int (nI 0), .ref o]) C hX h hl.1 (c_X_rests l Γ d hm mc so tl tb _ pp hC0 hst) mw_X_rests lk_L_55 (q0 := 0) rfl rfl rfl (by decide) (by decide) (Nat.le_of_ble_eq_true rfl) dc_L_rests_4 (fun E ce q9 u H locs hp h hc1 hc2 hc3 => ?_) (fun v u H locs hp h => ?_)
  · obtain ⟨rfl, hn⟩ := hp
    refine vx_catch (name := en_iae) C.o [] ⟨0, 9, 12, 13⟩ [] hT (fun z hz => absurd hz List.not_mem_nil) (by decide) (by decide) (C.t _ nk_L_13) (C.w.use _ kc_iae) hc1 hc2 hc3 ?_
    refine W.eq (g2 := F0 m 12 ls [.ref q9]) rfl ?_
    refine lv_astore_n (lv' := [(3, .ref q9), (0, .ref (d 0)), (1, .int pp), (2, .ref o)]) C.x C.b dc_L_rests_12 rfl hl (by decide) rfl (fun ls hl => ?_)
    refine lv_iconst (v := nI 1) C.x C.b dc_L_rests_13 (by decide +kernel) ?_
    rw [hQ]
    exact rt_i C (1, (hm, mc, so, tb), tl, g) h (⟨rfl, Nat.le_of_ble_eq_true rfl, ⟨hC0, rfl, rfl⟩, Or.inr ⟨rfl, hn⟩⟩) dc_L_rests_14
  obtain ⟨i, hi, rfl⟩ := hp
  replace h : sT Γ s (xW Γ d hm mc so tl tb ((o, oE Γ g) :: wr)) _ _ := h
  refine W.eq (g2 := F0 m 7 ls [.int (nI (tb i 0 0)), .int (nI 0), .ref o]) rfl ?_
  refine lv_i2l C.x C.b dc_L_rests_7 rfl ?_
  refine rg_lst C h 257 lk_o (by decide) (by decide) dc_L_rests_8 (fun H locs h => ?_)
  rw [st_o] at h
  refine lv_goto (tgt := 15) C.x C.b dc_L_rests_9 (by decide) ?_
  refine lv_iconst (v := nI 0) C.x C.b dc_L_rests_15 (by decide +kernel) ?_
  rw [hQ]
  exact rt_i C (0, (hm, mc, so, tb), tl, us g 0 (nI (tb i 0 0)).toInt64) h (⟨rfl, Nat.le_of_ble_eq_true rfl, ⟨hC0, rfl, rfl⟩, Or.inl ⟨rfl, _, ⟨i, hi, rfl⟩, rfl⟩⟩) dc_L_rests_16

abbrev rm_L_words : Room := { frames := 8, cells := 6, slots := 40, locals := 127 }
set_option maxRecDepth 100000 in
set_option maxHeartbeats 4000000 in
theorem c_L_words (l : Launch) (Γ : gG) (d : Nat → Nat) (hm : Nat) (mc : va_E) (so : Nat → Nat → Nat) (tl : Nat → Nat → Int64) (tb : Nat → Nat → Nat → Nat) (wr : va_W) (o : Nat) (g : Nat → Int64) (pp : Int32) (nn : Int32) (hC0 : CS so tb) (hst : l.stackTraces = false) : cL l Γ my_L_words bc_L_words 5 [(0, 9, 12, 13)] rm_L_words [.ref (d 0), .int pp, .int nn, .ref o] (xW Γ d hm mc so tl tb ((o, oE Γ g) :: wr)) (S := Nat × xG × (Nat → Nat → Int64) × (Nat → Int64)) (fun v u => v = some (.int (nI u.1)) ∧ u.1 ≤ 2 ∧ (CS u.2.1.2.2.1 tb ∧ u.2.1.2.2.1 10 3 = so 10 3 ∧ u.2.1.2.2.2 = tb) ∧ ((u.1 = 0 ∧ ∃ x : Int64, (∃ i n, (i < so 10 3 ∧ pp = nI i ∧ n < 40 ∧ nn = nI n) ∧ some (Value.long x) = some (.long (lI (cnt (tb i 0 1) (tb i 1) n 0)))) ∧ u.2.2.2 0 = x) ∨ (u.1 = 1 ∧ ¬ ∃ i n, i < so 10 3 ∧ pp = nI i ∧ n < 40 ∧ nn = nI n))) (fun u => xW Γ d u.2.1.1 u.2.1.2.1 u.2.1.2.2.1 u.2.2.1 u.2.1.2.2.2 ((o, oE Γ u.2.2.2) :: wr)) := by
  refine cL.start (by decide) (Nat.le_of_ble_eq_true rfl) (fun p e s m args below meth c ls Q hQ C hmn hT hX hC h hl => ?_)
  replace hl : lv_has ls 5 [(0, .ref (d 0)), (1, .int pp), (2, .int nn), (3, .ref o)] := hl
  refine lv_aload_n C.x C.b dc_L_words_0 rfl (lv_at hl 3 rfl) ?_
  refine lv_iconst (v := nI 0) C.x C.b dc_L_words_1 (by decide +kernel) ?_
  refine lv_aload_n C.x C.b dc_L_words_2 rfl (lv_at hl 0 rfl) ?_
  refine lv_iload_n C.x C.b dc_L_words_3 rfl (lv_at hl 1 rfl) ?_
  refine lv_iload_n C.x C.b dc_L_words_4 rfl (lv_at hl 2 rfl) ?_
  refine kx_V (As := [.int pp, .int nn]) (rest := [.int (nI 0), .ref o]) C hX h hl.1 (c_X_words l Γ d hm mc so tl tb _ pp nn hC0 hst) mw_X_words lk_L_58 (q0 := 0) rfl rfl rfl (by decide) (by decide) (Nat.le_of_ble_eq_true rfl) dc_L_words_5 (fun E ce q9 u H locs hp h hc1 hc2 hc3 => ?_) (fun v u H locs hp h => ?_)
  · obtain ⟨rfl, hn⟩ := hp
    refine vx_catch (name := en_iae) C.o [] ⟨0, 9, 12, 13⟩ [] hT (fun z hz => absurd hz List.not_mem_nil) (by decide) (by decide) (C.t _ nk_L_13) (C.w.use _ kc_iae) hc1 hc2 hc3 ?_
    refine W.eq (g2 := F0 m 12 ls [.ref q9]) rfl ?_
    refine lv_astore (lv' := [(4, .ref q9), (0, .ref (d 0)), (1, .int pp), (2, .int nn), (3, .ref o)]) C.x C.b dc_L_words_12 hl (by decide) rfl (fun ls hl => ?_)
    refine lv_iconst (v := nI 1) C.x C.b dc_L_words_14 (by decide +kernel) ?_
    rw [hQ]
    exact rt_i C (1, (hm, mc, so, tb), tl, g) h (⟨rfl, Nat.le_of_ble_eq_true rfl, ⟨hC0, rfl, rfl⟩, Or.inr ⟨rfl, hn⟩⟩) dc_L_words_15
  obtain ⟨i, n, hi, rfl⟩ := hp
  replace h : sT Γ s (xW Γ d hm mc so u tb ((o, oE Γ g) :: wr)) _ _ := h
  refine W.eq (g2 := F0 m 8 ls [.long (lI (cnt (tb i 0 1) (tb i 1) n 0)), .int (nI 0), .ref o]) rfl ?_
  refine rg_lst C h 257 lk_o (by decide) (by decide) dc_L_words_8 (fun H locs h => ?_)
  rw [st_o] at h
  refine lv_goto (tgt := 16) C.x C.b dc_L_words_9 (by decide) ?_
  refine lv_iconst (v := nI 0) C.x C.b dc_L_words_16 (by decide +kernel) ?_
  rw [hQ]
  exact rt_i C (0, (hm, mc, so, tb), u, us g 0 (lI (cnt (tb i 0 1) (tb i 1) n 0))) h (⟨rfl, Nat.le_of_ble_eq_true rfl, ⟨hC0, rfl, rfl⟩, Or.inl ⟨rfl, _, ⟨i, n, hi, rfl⟩, rfl⟩⟩) dc_L_words_17

abbrev rm_L_shortest : Room := { frames := 8, cells := 6, slots := 40, locals := 125 }
set_option maxRecDepth 100000 in
set_option maxHeartbeats 4000000 in
theorem c_L_shortest (l : Launch) (Γ : gG) (d : Nat → Nat) (hm : Nat) (mc : va_E) (so : Nat → Nat → Nat) (tl : Nat → Nat → Int64) (tb : Nat → Nat → Nat → Nat) (wr : va_W) (o : Nat) (g : Nat → Int64) (pp : Int32) (hC0 : CS so tb) (hst : l.stackTraces = false) : cL l Γ my_L_shortest bc_L_shortest 4 [(0, 9, 12, 13), (0, 9, 15, 65)] rm_L_shortest [.ref (d 0), .int pp, .ref o] (xW Γ d hm mc so tl tb ((o, oE Γ g) :: wr)) (S := Nat × xG × (Nat → Nat → Int64) × (Nat → Int64)) (fun v u => v = some (.int (nI u.1)) ∧ u.1 ≤ 2 ∧ (CS u.2.1.2.2.1 tb ∧ u.2.1.2.2.1 10 3 = so 10 3 ∧ u.2.1.2.2.2 = tb) ∧ ((u.1 = 0 ∧ ∃ x : Int32, (∃ i, (i < so 10 3 ∧ pp = nI i) ∧ tb i 2 0 ≠ 0 ∧ some (Value.int x) = some (.int (mI (tb i 2 0)))) ∧ u.2.2.2 0 = x.toInt64) ∨ (u.1 = 1 ∧ ¬ ∃ i, i < so 10 3 ∧ pp = nI i) ∨ (u.1 = 2 ∧ ∃ i, (i < so 10 3 ∧ pp = nI i) ∧ tb i 2 0 = 0))) (fun u => xW Γ d u.2.1.1 u.2.1.2.1 u.2.1.2.2.1 u.2.2.1 u.2.1.2.2.2 ((o, oE Γ u.2.2.2) :: wr)) := by
  refine cL.start (by decide) (Nat.le_of_ble_eq_true rfl) (fun p e s m args below meth c ls Q hQ C hmn hT hX hC h hl => ?_)
  replace hl : lv_has ls 4 [(0, .ref (d 0)), (1, .int pp), (2, .ref o)] := hl
  refine lv_aload_n C.x C.b dc_L_shortest_0 rfl (lv_at hl 2 rfl) ?_
  refine lv_iconst (v := nI 0) C.x C.b dc_L_shortest_1 (by decide +kernel) ?_
  refine lv_aload_n C.x C.b dc_L_shortest_2 rfl (lv_at hl 0 rfl) ?_
  refine lv_iload_n C.x C.b dc_L_shortest_3 rfl (lv_at hl 1 rfl) ?_
  refine kx_V (As := [.int pp]) (rest := [.int (nI 0), .ref o]) C hX h hl.1 (c_X_shortest l Γ d hm mc so tl tb _ pp hC0 hst) mw_X_shortest lk_L_62 (q0 := 0) rfl rfl rfl (by decide) (by decide) (Nat.le_of_ble_eq_true rfl) dc_L_shortest_4 (fun E ce q9 u H locs hp h hc1 hc2 hc3 => ?_) (fun v u H locs hp h => ?_)
  · rcases hp with ⟨rfl, hn⟩ | ⟨rfl, hn⟩
    · refine vx_catch (name := en_iae) C.o [] ⟨0, 9, 12, 13⟩ [⟨0, 9, 15, 65⟩] hT (fun z hz => absurd hz List.not_mem_nil) (by decide) (by decide) (C.t _ nk_L_13) (C.w.use _ kc_iae) hc1 hc2 hc3 ?_
      refine W.eq (g2 := F0 m 12 ls [.ref q9]) rfl ?_
      refine lv_astore_n (lv' := [(3, .ref q9), (0, .ref (d 0)), (1, .int pp), (2, .ref o)]) C.x C.b dc_L_shortest_12 rfl hl (by decide) rfl (fun ls hl => ?_)
      refine lv_iconst (v := nI 1) C.x C.b dc_L_shortest_13 (by decide +kernel) ?_
      rw [hQ]
      exact rt_i C (1, (hm, mc, so, tb), tl, g) h (⟨rfl, Nat.le_of_ble_eq_true rfl, ⟨hC0, rfl, rfl⟩, Or.inr (Or.inl ⟨rfl, hn⟩)⟩) dc_L_shortest_14
    · refine vx_catch (name := en_nse) C.o [⟨0, 9, 12, 13⟩] ⟨0, 9, 15, 65⟩ [] hT (fun z hz => by cases List.mem_singleton.mp hz; exact Or.inr ⟨by decide, en_iae, C.t _ nk_L_13, hC.2⟩) (by decide) (by decide) (C.t _ nk_L_65) (C.w.use _ kc_nse) hc1 hc2 hc3 ?_
      refine W.eq (g2 := F0 m 15 ls [.ref q9]) rfl ?_
      refine lv_astore_n (lv' := [(3, .ref q9), (0, .ref (d 0)), (1, .int pp), (2, .ref o)]) C.x C.b dc_L_shortest_15 rfl hl (by decide) rfl (fun ls hl => ?_)
      refine lv_iconst (v := nI 2) C.x C.b dc_L_shortest_16 (by decide +kernel) ?_
      rw [hQ]
      exact rt_i C (2, (hm, mc, so, tb), tl, g) h (⟨rfl, Nat.le_of_ble_eq_true rfl, ⟨hC0, rfl, rfl⟩, Or.inr (Or.inr ⟨rfl, hn⟩)⟩) dc_L_shortest_17
  obtain ⟨i, hi, h0, rfl⟩ := hp
  replace h : sT Γ s (xW Γ d hm mc so tl tb ((o, oE Γ g) :: wr)) _ _ := h
  refine W.eq (g2 := F0 m 7 ls [.int (mI (tb i 2 0)), .int (nI 0), .ref o]) rfl ?_
  refine lv_i2l C.x C.b dc_L_shortest_7 rfl ?_
  refine rg_lst C h 257 lk_o (by decide) (by decide) dc_L_shortest_8 (fun H locs h => ?_)
  rw [st_o] at h
  refine lv_goto (tgt := 18) C.x C.b dc_L_shortest_9 (by decide) ?_
  refine lv_iconst (v := nI 0) C.x C.b dc_L_shortest_18 (by decide +kernel) ?_
  rw [hQ]
  exact rt_i C (0, (hm, mc, so, tb), tl, us g 0 (mI (tb i 2 0)).toInt64) h (⟨rfl, Nat.le_of_ble_eq_true rfl, ⟨hC0, rfl, rfl⟩, Or.inl ⟨rfl, _, ⟨i, hi, h0, rfl⟩, rfl⟩⟩) dc_L_shortest_19

abbrev rm_L_letter : Room := { frames := 8, cells := 6, slots := 40, locals := 128 }
set_option maxRecDepth 100000 in
set_option maxHeartbeats 4000000 in
theorem c_L_letter (l : Launch) (Γ : gG) (d : Nat → Nat) (hm : Nat) (mc : va_E) (so : Nat → Nat → Nat) (tl : Nat → Nat → Int64) (tb : Nat → Nat → Nat → Nat) (wr : va_W) (o : Nat) (g : Nat → Int64) (pp : Int32) (ii : Int32) (hC0 : CS so tb) (hst : l.stackTraces = false) : cL l Γ my_L_letter bc_L_letter 5 [(0, 10, 13, 13), (0, 10, 17, 65)] rm_L_letter [.ref (d 0), .int pp, .int ii, .ref o] (xW Γ d hm mc so tl tb ((o, oE Γ g) :: wr)) (S := Nat × xG × (Nat → Nat → Int64) × (Nat → Int64)) (fun v u => v = some (.int (nI u.1)) ∧ u.1 ≤ 2 ∧ (CS u.2.1.2.2.1 tb ∧ u.2.1.2.2.1 10 3 = so 10 3 ∧ u.2.1.2.2.2 = tb) ∧ ((u.1 = 0 ∧ ∃ x : Int32, (∃ i q, ((i < so 10 3 ∧ pp = nI i) ∧ q + 1 < tb i 2 0 ∧ ii = nI q) ∧ some (Value.int x) = some (.int (nI (nxl (tb i 0 1) (tb i 1) (tb i 2 0 - q - 2) (lst (tb i 0 1) (tb i 1) (tb i 2 0 - 1) 0 q))))) ∧ u.2.2.2 0 = x.toInt64) ∨ (u.1 = 1 ∧ ¬ ∃ i, i < so 10 3 ∧ pp = nI i) ∨ (u.1 = 2 ∧ ∃ i, (i < so 10 3 ∧ pp = nI i) ∧ ¬ ∃ q, q + 1 < tb i 2 0 ∧ ii = nI q))) (fun u => xW Γ d u.2.1.1 u.2.1.2.1 u.2.1.2.2.1 u.2.2.1 u.2.1.2.2.2 ((o, oE Γ u.2.2.2) :: wr)) := by
  refine cL.start (by decide) (Nat.le_of_ble_eq_true rfl) (fun p e s m args below meth c ls Q hQ C hmn hT hX hC h hl => ?_)
  replace hl : lv_has ls 5 [(0, .ref (d 0)), (1, .int pp), (2, .int ii), (3, .ref o)] := hl
  refine lv_aload_n C.x C.b dc_L_letter_0 rfl (lv_at hl 3 rfl) ?_
  refine lv_iconst (v := nI 0) C.x C.b dc_L_letter_1 (by decide +kernel) ?_
  refine lv_aload_n C.x C.b dc_L_letter_2 rfl (lv_at hl 0 rfl) ?_
  refine lv_iload_n C.x C.b dc_L_letter_3 rfl (lv_at hl 1 rfl) ?_
  refine lv_iload_n C.x C.b dc_L_letter_4 rfl (lv_at hl 2 rfl) ?_
  refine kx_V (As := [.int pp, .int ii]) (rest := [.int (nI 0), .ref o]) C hX h hl.1 (c_X_letter l Γ d hm mc so tl tb _ pp ii hC0 hst) mw_X_letter lk_L_67 (q0 := 0) rfl rfl rfl (by decide) (by decide) (Nat.le_of_ble_eq_true rfl) dc_L_letter_5 (fun E ce q9 u H locs hp h hc1 hc2 hc3 => ?_) (fun v u H locs hp h => ?_)
  · rcases hp with ⟨rfl, hn⟩ | ⟨rfl, hn⟩
    · refine vx_catch (name := en_iae) C.o [] ⟨0, 10, 13, 13⟩ [⟨0, 10, 17, 65⟩] hT (fun z hz => absurd hz List.not_mem_nil) (by decide) (by decide) (C.t _ nk_L_13) (C.w.use _ kc_iae) hc1 hc2 hc3 ?_
      refine W.eq (g2 := F0 m 13 ls [.ref q9]) rfl ?_
      refine lv_astore (lv' := [(4, .ref q9), (0, .ref (d 0)), (1, .int pp), (2, .int ii), (3, .ref o)]) C.x C.b dc_L_letter_13 hl (by decide) rfl (fun ls hl => ?_)
      refine lv_iconst (v := nI 1) C.x C.b dc_L_letter_15 (by decide +kernel) ?_
      rw [hQ]
      exact rt_i C (1, (hm, mc, so, tb), tl, g) h (⟨rfl, Nat.le_of_ble_eq_true rfl, ⟨hC0, rfl, rfl⟩, Or.inr (Or.inl ⟨rfl, hn⟩)⟩) dc_L_letter_16
    · refine vx_catch (name := en_nse) C.o [⟨0, 10, 13, 13⟩] ⟨0, 10, 17, 65⟩ [] hT (fun z hz => by cases List.mem_singleton.mp hz; exact Or.inr ⟨by decide, en_iae, C.t _ nk_L_13, hC.2⟩) (by decide) (by decide) (C.t _ nk_L_65) (C.w.use _ kc_nse) hc1 hc2 hc3 ?_
      refine W.eq (g2 := F0 m 17 ls [.ref q9]) rfl ?_
      refine lv_astore (lv' := [(4, .ref q9), (0, .ref (d 0)), (1, .int pp), (2, .int ii), (3, .ref o)]) C.x C.b dc_L_letter_17 hl (by decide) rfl (fun ls hl => ?_)
      refine lv_iconst (v := nI 2) C.x C.b dc_L_letter_19 (by decide +kernel) ?_
      rw [hQ]
      exact rt_i C (2, (hm, mc, so, tb), tl, g) h (⟨rfl, Nat.le_of_ble_eq_true rfl, ⟨hC0, rfl, rfl⟩, Or.inr (Or.inr ⟨rfl, hn⟩)⟩) dc_L_letter_20
  obtain ⟨i, q, hi, rfl⟩ := hp
  replace h : sT Γ s (xW Γ d hm mc so tl tb ((o, oE Γ g) :: wr)) _ _ := h
  refine W.eq (g2 := F0 m 8 ls [.int (nI (nxl (tb i 0 1) (tb i 1) (tb i 2 0 - q - 2) (lst (tb i 0 1) (tb i 1) (tb i 2 0 - 1) 0 q))), .int (nI 0), .ref o]) rfl ?_
  refine lv_i2l C.x C.b dc_L_letter_8 rfl ?_
  refine rg_lst C h 257 lk_o (by decide) (by decide) dc_L_letter_9 (fun H locs h => ?_)
  rw [st_o] at h
  refine lv_goto (tgt := 21) C.x C.b dc_L_letter_10 (by decide) ?_
  refine lv_iconst (v := nI 0) C.x C.b dc_L_letter_21 (by decide +kernel) ?_
  rw [hQ]
  exact rt_i C (0, (hm, mc, so, tb), tl, us g 0 (nI (nxl (tb i 0 1) (tb i 1) (tb i 2 0 - q - 2) (lst (tb i 0 1) (tb i 1) (tb i 2 0 - 1) 0 q))).toInt64) h (⟨rfl, Nat.le_of_ble_eq_true rfl, ⟨hC0, rfl, rfl⟩, Or.inl ⟨rfl, _, ⟨i, q, hi, rfl⟩, rfl⟩⟩) dc_L_letter_22

abbrev rm_L_size : Room := { frames := 8, cells := 6, slots := 40, locals := 128 }
set_option maxRecDepth 100000 in
set_option maxHeartbeats 4000000 in
theorem c_L_size (l : Launch) (Γ : gG) (d : Nat → Nat) (hm : Nat) (mc : va_E) (so : Nat → Nat → Nat) (tl : Nat → Nat → Int64) (tb : Nat → Nat → Nat → Nat) (wr : va_W) (o : Nat) (g : Nat → Int64) (pp : Int32) (hC0 : CS so tb) (hst : l.stackTraces = false) : cL l Γ my_L_size bc_L_size 4 [(0, 9, 12, 13)] rm_L_size [.ref (d 0), .int pp, .ref o] (xW Γ d hm mc so tl tb ((o, oE Γ g) :: wr)) (S := Nat × xG × (Nat → Nat → Int64) × (Nat → Int64)) (fun v u => v = some (.int (nI u.1)) ∧ u.1 ≤ 2 ∧ (CS u.2.1.2.2.1 tb ∧ u.2.1.2.2.1 10 3 = so 10 3 ∧ u.2.1.2.2.2 = tb) ∧ ((u.1 = 0 ∧ ∃ x : Int32, (∃ i, (i < so 10 3 ∧ pp = nI i) ∧ (((∃ n, tb i 0 0 ≤ n ∧ n < 2 * tb i 0 0 ∧ 0 < cnt (tb i 0 1) (tb i 1) n 0) ∧ some (Value.int x) = some (.int (mI 0))) ∨ ((∀ n, tb i 0 0 ≤ n → n < 2 * tb i 0 0 → cnt (tb i 0 1) (tb i 1) n 0 = 0) ∧ ((1000000000 < scn (tb i 0 1) (tb i 1) 0 (2 * tb i 0 0) ∧ some (Value.int x) = some (.int (-2))) ∨ (scn (tb i 0 1) (tb i 1) 0 (2 * tb i 0 0) ≤ 1000000000 ∧ some (Value.int x) = some (.int (nI (scn (tb i 0 1) (tb i 1) 0 (2 * tb i 0 0))))))))) ∧ u.2.2.2 0 = x.toInt64) ∨ (u.1 = 1 ∧ ¬ ∃ i, i < so 10 3 ∧ pp = nI i))) (fun u => xW Γ d u.2.1.1 u.2.1.2.1 u.2.1.2.2.1 u.2.2.1 u.2.1.2.2.2 ((o, oE Γ u.2.2.2) :: wr)) := by
  refine cL.start (by decide) (Nat.le_of_ble_eq_true rfl) (fun p e s m args below meth c ls Q hQ C hmn hT hX hC h hl => ?_)
  replace hl : lv_has ls 4 [(0, .ref (d 0)), (1, .int pp), (2, .ref o)] := hl
  refine lv_aload_n C.x C.b dc_L_size_0 rfl (lv_at hl 2 rfl) ?_
  refine lv_iconst (v := nI 0) C.x C.b dc_L_size_1 (by decide +kernel) ?_
  refine lv_aload_n C.x C.b dc_L_size_2 rfl (lv_at hl 0 rfl) ?_
  refine lv_iload_n C.x C.b dc_L_size_3 rfl (lv_at hl 1 rfl) ?_
  refine kx_V (As := [.int pp]) (rest := [.int (nI 0), .ref o]) C hX h hl.1 (c_X_size l Γ d hm mc so tl tb _ pp hC0 hst) mw_X_size lk_L_70 (q0 := 0) rfl rfl rfl (by decide) (by decide) (Nat.le_of_ble_eq_true rfl) dc_L_size_4 (fun E ce q9 u H locs hp h hc1 hc2 hc3 => ?_) (fun v u H locs hp h => ?_)
  · obtain ⟨rfl, hn⟩ := hp
    refine vx_catch (name := en_iae) C.o [] ⟨0, 9, 12, 13⟩ [] hT (fun z hz => absurd hz List.not_mem_nil) (by decide) (by decide) (C.t _ nk_L_13) (C.w.use _ kc_iae) hc1 hc2 hc3 ?_
    refine W.eq (g2 := F0 m 12 ls [.ref q9]) rfl ?_
    refine lv_astore_n (lv' := [(3, .ref q9), (0, .ref (d 0)), (1, .int pp), (2, .ref o)]) C.x C.b dc_L_size_12 rfl hl (by decide) rfl (fun ls hl => ?_)
    refine lv_iconst (v := nI 1) C.x C.b dc_L_size_13 (by decide +kernel) ?_
    rw [hQ]
    exact rt_i C (1, (hm, mc, so, tb), tl, g) h (⟨rfl, Nat.le_of_ble_eq_true rfl, ⟨hC0, rfl, rfl⟩, Or.inr ⟨rfl, hn⟩⟩) dc_L_size_14
  obtain ⟨x, rfl⟩ : ∃ x : Int32, v = some (.int x) := by
    obtain ⟨i, hi, ⟨-, hv⟩ | ⟨-, ⟨-, hv⟩ | ⟨-, hv⟩⟩⟩ := hp <;> exact ⟨_, hv⟩
  replace h : sT Γ s (xW Γ d hm mc so u tb ((o, oE Γ g) :: wr)) _ _ := h
  refine W.eq (g2 := F0 m 7 ls [.int (x), .int (nI 0), .ref o]) rfl ?_
  refine lv_i2l C.x C.b dc_L_size_7 rfl ?_
  refine rg_lst C h 257 lk_o (by decide) (by decide) dc_L_size_8 (fun H locs h => ?_)
  rw [st_o] at h
  refine lv_goto (tgt := 15) C.x C.b dc_L_size_9 (by decide) ?_
  refine lv_iconst (v := nI 0) C.x C.b dc_L_size_15 (by decide +kernel) ?_
  rw [hQ]
  exact rt_i C (0, (hm, mc, so, tb), u, us g 0 (x).toInt64) h (⟨rfl, Nat.le_of_ble_eq_true rfl, ⟨hC0, rfl, rfl⟩, Or.inl ⟨rfl, _, hp, rfl⟩⟩) dc_L_size_16
