abbrev rm_M_words : Room := { frames := 2, cells := 0, slots := 0, locals := 47 }
set_option maxRecDepth 100000 in
set_option maxHeartbeats 4000000 in
theorem c_M_words (l : Launch) (Γ : gG) (r : Nat → Nat) (ri : Nat → Nat → Nat) (rl : Nat → Nat → Int64) (wr : va_W) (pp nn : Int32) (hS : RS ri) : cT l Γ my_M_words bc_M_words 3 (some .long) rm_M_words [.ref (r 0), .int pp, .int nn] (rW Γ r ri rl wr) (S := (Nat → Nat → Nat) × (Nat → Nat → Int64)) (fun v u => (¬ (∃ i n9, i < ri 20 1 ∧ n9 < 40 ∧ pp = nI i ∧ nn = nI n9) ∧ (u.1 20 0 = 1 ∧ (∃ x, v = some (.long x)) ∧ u.1 20 1 = ri 20 1 ∧ sS ri u.1 (ri 20 1))) ∨ ∃ i n9, (i < ri 20 1 ∧ n9 < 40 ∧ pp = nI i ∧ nn = nI n9) ∧ v = some (.long (lI (cnt (rT ri i 0 1) (rN ri i) n9 (ri 1 i)))) ∧ rQ 0 ri u.1) (fun u => rW Γ r u.1 u.2 wr) := by
  refine cT.start (by decide) (Nat.le_of_ble_eq_true rfl) (fun p e s m args below meth c ls Q hQ C hmn h hl => ?_)
  replace hl : lv_has ls 3 [(0, .ref (r 0)), (1, .int pp), (2, .int nn)] := hl
  have hS80 := hS.1
  refine lv_aload_n C.x C.b dc_M_words_0 rfl (lv_at hl 0 rfl) ?_
  refine lv_aload_n C.x C.b dc_M_words_1 rfl (lv_at hl 0 rfl) ?_
  refine lv_iload_n C.x C.b dc_M_words_2 rfl (lv_at hl 1 rfl) ?_
  refine kv_V (As := [.int pp]) (rest := [.ref (r 0)]) C h hl.1 (c_M_isSet l Γ r ri rl wr pp (by omega)) mw_M_isSet lk_M_115 (q0 := 0) rfl rfl rfl (by decide) (by decide) (Nat.le_of_ble_eq_true rfl) dc_M_words_3 (fun v u H locs hp h => ?_)
  obtain ⟨bs_1, rfl⟩ : ∃ zz9, zz9 = u := ⟨_, rfl⟩
  obtain ⟨rfl, hbs_1⟩ := hp
  replace h : sT Γ s (rW Γ r ri rl wr) _ _ := h
  refine W.eq (g2 := F0 m 6 ls [.int (bI bs_1), .ref (r 0)]) rfl ?_
  refine bb_eq (tgt := 23) C dc_M_words_6 (by decide) (fun q6 => ?_) (fun q6 => ?_)
  · refine lv_iconst (v := (nI 1)) C.x C.b dc_M_words_23 (by decide +kernel) ?_
    refine rg_put (ty := .int) C h 0 rfl rfl in_M tk_M nm_M 0 (by decide) fl_M_54 rfl (by decide +kernel) rfl rfl (by simp) dc_M_words_24 (fun H locs h => ?_)
    obtain ⟨ri_2, eri_2⟩ : ∃ zz9, zz9 = us ri 20 (us (ri 20) 0 1) := ⟨_, rfl⟩
    have fri_2 : ∀ zk, zk ≠ 20 → ri_2 zk = ri zk := fun zk hzk => by rw [eri_2, us_n _ _ hzk]
    have gri_2 : ri_2 20 = us (ri 20) 0 1 := by rw [eri_2, us_s]
    have xri_2 : ri_2 20 0 = 1 ∧ ri_2 20 1 = ri 20 1 ∧ ri_2 20 2 = ri 20 2 ∧ ri_2 20 3 = ri 20 3 ∧ ri_2 20 4 = ri 20 4 ∧ ri_2 20 5 = ri 20 5 ∧ ri_2 20 6 = ri 20 6 := by rw [gri_2]; exact ⟨us_s _ _ _, us_n _ _ (by decide), us_n _ _ (by decide), us_n _ _ (by decide), us_n _ _ (by decide), us_n _ _ (by decide), us_n _ _ (by decide)⟩
    replace h : sT Γ s (rW Γ r ri_2 rl wr) H locs := by rw [eri_2]; exact h
    have hss : sS ri ri_2 (ri 20 1) := sS.of (fri_2 0 (by decide)) (fri_2 1 (by decide)) (fri_2 2 (by decide)) (fri_2 3 (by decide))
    refine lv_aload_n C.x C.b dc_M_words_27 rfl (lv_at hl 0 rfl) ?_
    refine rg_get C h 0 rfl rfl in_M 0 (by decide) fl_M_54 rfl dc_M_words_28 ?_
    refine tp_i (y := nI 1) (by rw [show ri_2 20 0 = 1 by omega]) ?_
    refine bz_le (tgt := 38) C (by omega) dc_M_words_31 (by decide) (fun q31 => absurd q31 (by decide)) (fun q31 => ?_)
    refine lv_lconst (v := 0) C.x C.b dc_M_words_34 (by decide +kernel) ?_
    refine lv_goto (tgt := 44) C.x C.b dc_M_words_35 (by decide) ?_
    rw [hQ]
    exact rt_l C (ri_2, rl) h (Or.inl ⟨fun z => by first | (obtain ⟨i, n9, a, hb, c, e⟩ := z; subst e; exact nI_pos (by omega) q10) | (obtain ⟨i, n9, a, hb, c, e⟩ := z; subst e; exact absurd (nI_lt hb (by decide)) (Int32.not_lt.mpr q16)) | (obtain ⟨i, n9, a, hb, c, e⟩ := z; rw [hbs_1.mpr ⟨i, a, c⟩] at q6; exact Bool.noConfusion q6), by show ri_2 20 0 = 1; omega, ⟨_, rfl⟩, by show ri_2 20 1 = _; omega, hss⟩) dc_M_words_44
  · refine lv_iload_n C.x C.b dc_M_words_9 rfl (lv_at hl 2 rfl) ?_
    refine lv_if_lt (tgt := 23) C.x C.b dc_M_words_10 (by decide) (fun q10 => ?_) (fun q10 => ?_)
    · refine lv_iconst (v := (nI 1)) C.x C.b dc_M_words_23 (by decide +kernel) ?_
      refine rg_put (ty := .int) C h 0 rfl rfl in_M tk_M nm_M 0 (by decide) fl_M_54 rfl (by decide +kernel) rfl rfl (by simp) dc_M_words_24 (fun H locs h => ?_)
      obtain ⟨ri_3, eri_3⟩ : ∃ zz9, zz9 = us ri 20 (us (ri 20) 0 1) := ⟨_, rfl⟩
      have fri_3 : ∀ zk, zk ≠ 20 → ri_3 zk = ri zk := fun zk hzk => by rw [eri_3, us_n _ _ hzk]
      have gri_3 : ri_3 20 = us (ri 20) 0 1 := by rw [eri_3, us_s]
      have xri_3 : ri_3 20 0 = 1 ∧ ri_3 20 1 = ri 20 1 ∧ ri_3 20 2 = ri 20 2 ∧ ri_3 20 3 = ri 20 3 ∧ ri_3 20 4 = ri 20 4 ∧ ri_3 20 5 = ri 20 5 ∧ ri_3 20 6 = ri 20 6 := by rw [gri_3]; exact ⟨us_s _ _ _, us_n _ _ (by decide), us_n _ _ (by decide), us_n _ _ (by decide), us_n _ _ (by decide), us_n _ _ (by decide), us_n _ _ (by decide)⟩
      replace h : sT Γ s (rW Γ r ri_3 rl wr) H locs := by rw [eri_3]; exact h
      have hss : sS ri ri_3 (ri 20 1) := sS.of (fri_3 0 (by decide)) (fri_3 1 (by decide)) (fri_3 2 (by decide)) (fri_3 3 (by decide))
      refine lv_aload_n C.x C.b dc_M_words_27 rfl (lv_at hl 0 rfl) ?_
      refine rg_get C h 0 rfl rfl in_M 0 (by decide) fl_M_54 rfl dc_M_words_28 ?_
      refine tp_i (y := nI 1) (by rw [show ri_3 20 0 = 1 by omega]) ?_
      refine bz_le (tgt := 38) C (by omega) dc_M_words_31 (by decide) (fun q31 => absurd q31 (by decide)) (fun q31 => ?_)
      refine lv_lconst (v := 0) C.x C.b dc_M_words_34 (by decide +kernel) ?_
      refine lv_goto (tgt := 44) C.x C.b dc_M_words_35 (by decide) ?_
      rw [hQ]
      exact rt_l C (ri_3, rl) h (Or.inl ⟨fun z => by first | (obtain ⟨i, n9, a, hb, c, e⟩ := z; subst e; exact nI_pos (by omega) q10) | (obtain ⟨i, n9, a, hb, c, e⟩ := z; subst e; exact absurd (nI_lt hb (by decide)) (Int32.not_lt.mpr q16)) | (obtain ⟨i, n9, a, hb, c, e⟩ := z; rw [hbs_1.mpr ⟨i, a, c⟩] at q6; exact Bool.noConfusion q6), by show ri_3 20 0 = 1; omega, ⟨_, rfl⟩, by show ri_3 20 1 = _; omega, hss⟩) dc_M_words_44
    · refine lv_iload_n C.x C.b dc_M_words_13 rfl (lv_at hl 2 rfl) ?_
      refine lv_bipush (v := (nI 40)) C.x C.b dc_M_words_14 (by decide +kernel) ?_
      refine lv_icmp_ge (tgt := 23) C.x C.b dc_M_words_16 (by decide) (fun q16 => ?_) (fun q16 => ?_)
      · refine lv_iconst (v := (nI 1)) C.x C.b dc_M_words_23 (by decide +kernel) ?_
        refine rg_put (ty := .int) C h 0 rfl rfl in_M tk_M nm_M 0 (by decide) fl_M_54 rfl (by decide +kernel) rfl rfl (by simp) dc_M_words_24 (fun H locs h => ?_)
        obtain ⟨ri_4, eri_4⟩ : ∃ zz9, zz9 = us ri 20 (us (ri 20) 0 1) := ⟨_, rfl⟩
        have fri_4 : ∀ zk, zk ≠ 20 → ri_4 zk = ri zk := fun zk hzk => by rw [eri_4, us_n _ _ hzk]
        have gri_4 : ri_4 20 = us (ri 20) 0 1 := by rw [eri_4, us_s]
        have xri_4 : ri_4 20 0 = 1 ∧ ri_4 20 1 = ri 20 1 ∧ ri_4 20 2 = ri 20 2 ∧ ri_4 20 3 = ri 20 3 ∧ ri_4 20 4 = ri 20 4 ∧ ri_4 20 5 = ri 20 5 ∧ ri_4 20 6 = ri 20 6 := by rw [gri_4]; exact ⟨us_s _ _ _, us_n _ _ (by decide), us_n _ _ (by decide), us_n _ _ (by decide), us_n _ _ (by decide), us_n _ _ (by decide), us_n _ _ (by decide)⟩
        replace h : sT Γ s (rW Γ r ri_4 rl wr) H locs := by rw [eri_4]; exact h
        have hss : sS ri ri_4 (ri 20 1) := sS.of (fri_4 0 (by decide)) (fri_4 1 (by decide)) (fri_4 2 (by decide)) (fri_4 3 (by decide))
        refine lv_aload_n C.x C.b dc_M_words_27 rfl (lv_at hl 0 rfl) ?_
        refine rg_get C h 0 rfl rfl in_M 0 (by decide) fl_M_54 rfl dc_M_words_28 ?_
        refine tp_i (y := nI 1) (by rw [show ri_4 20 0 = 1 by omega]) ?_
        refine bz_le (tgt := 38) C (by omega) dc_M_words_31 (by decide) (fun q31 => absurd q31 (by decide)) (fun q31 => ?_)
        refine lv_lconst (v := 0) C.x C.b dc_M_words_34 (by decide +kernel) ?_
        refine lv_goto (tgt := 44) C.x C.b dc_M_words_35 (by decide) ?_
        rw [hQ]
        exact rt_l C (ri_4, rl) h (Or.inl ⟨fun z => by first | (obtain ⟨i, n9, a, hb, c, e⟩ := z; subst e; exact nI_pos (by omega) q10) | (obtain ⟨i, n9, a, hb, c, e⟩ := z; subst e; exact absurd (nI_lt hb (by decide)) (Int32.not_lt.mpr q16)) | (obtain ⟨i, n9, a, hb, c, e⟩ := z; rw [hbs_1.mpr ⟨i, a, c⟩] at q6; exact Bool.noConfusion q6), by show ri_4 20 0 = 1; omega, ⟨_, rfl⟩, by show ri_4 20 1 = _; omega, hss⟩) dc_M_words_44
      · refine lv_iconst (v := (nI 0)) C.x C.b dc_M_words_19 (by decide +kernel) ?_
        refine lv_goto (tgt := 24) C.x C.b dc_M_words_20 (by decide) ?_
        obtain ⟨i, hi, ei⟩ := hbs_1.mp q6
        subst ei
        obtain ⟨n9, hn9, en9⟩ : ∃ n9, n9 < 40 ∧ nn = nI n9 := by
          rcases pk_ix nn (n := 40) (by decide) with z | z | z
          · exact absurd z q10
          · exact absurd z q16
          · exact z
        subst en9
        refine rg_put (ty := .int) C h 0 rfl rfl in_M tk_M nm_M 0 (by decide) fl_M_54 rfl (by decide +kernel) rfl rfl (by simp) dc_M_words_24 (fun H locs h => ?_)
        obtain ⟨ri_5, eri_5⟩ : ∃ zz9, zz9 = us ri 20 (us (ri 20) 0 0) := ⟨_, rfl⟩
        have fri_5 : ∀ zk, zk ≠ 20 → ri_5 zk = ri zk := fun zk hzk => by rw [eri_5, us_n _ _ hzk]
        have gri_5 : ri_5 20 = us (ri 20) 0 0 := by rw [eri_5, us_s]
        have xri_5 : ri_5 20 0 = 0 ∧ ri_5 20 1 = ri 20 1 ∧ ri_5 20 2 = ri 20 2 ∧ ri_5 20 3 = ri 20 3 ∧ ri_5 20 4 = ri 20 4 ∧ ri_5 20 5 = ri 20 5 ∧ ri_5 20 6 = ri 20 6 := by rw [gri_5]; exact ⟨us_s _ _ _, us_n _ _ (by decide), us_n _ _ (by decide), us_n _ _ (by decide), us_n _ _ (by decide), us_n _ _ (by decide), us_n _ _ (by decide)⟩
        replace h : sT Γ s (rW Γ r ri_5 rl wr) H locs := by rw [eri_5]; exact h
        have hss : sS ri ri_5 (ri 20 1) := sS.of (fri_5 0 (by decide)) (fri_5 1 (by decide)) (fri_5 2 (by decide)) (fri_5 3 (by decide))
        refine lv_aload_n C.x C.b dc_M_words_27 rfl (lv_at hl 0 rfl) ?_
        refine rg_get C h 0 rfl rfl in_M 0 (by decide) fl_M_54 rfl dc_M_words_28 ?_
        refine tp_i (y := nI 0) (by rw [show ri_5 20 0 = 0 by omega]) ?_
        refine bz_le (tgt := 38) C (by omega) dc_M_words_31 (by decide) (fun q31 => ?_) (fun q31 => absurd q31 (by decide))
        have hO1 : rOK ri_5 i := hss.rok hi (hS.2 _ hi).1
        have hO := (hS.2 _ hi).1
        have hi80 := hO.1
        have hi10 := hO.2.2.1
        have eT := hss.tab hi hO.2.2.1
        have eN : rN ri_5 i = rN ri i := congrFun eT 1
        have e0 := (hss _ hi).1
        have e1 := (hss _ hi).2.1
        refine lv_aload_n C.x C.b dc_M_words_38 rfl (lv_at hl 0 rfl) ?_
        refine lv_iload_n C.x C.b dc_M_words_39 rfl (lv_at hl 1 rfl) ?_
        refine lv_iload_n C.x C.b dc_M_words_40 rfl (lv_at hl 2 rfl) ?_
        refine kv_V (As := [.int (nI i), .int (nI n9)]) (rest := []) C h hl.1 (c_M_countJ l Γ r ri_5 rl wr i n9 hO1 (by omega)) mw_M_countJ lk_M_128 (q0 := 0) rfl rfl rfl (by decide) (by decide) (Nat.le_of_ble_eq_true rfl) dc_M_words_41 (fun v u H locs hp h => ?_)
        obtain ⟨rl_6, rfl⟩ : ∃ zz9, zz9 = u := ⟨_, rfl⟩
        obtain rfl := hp
        replace h : sT Γ s (rW Γ r ri_5 rl_6 wr) _ _ := h
        refine W.eq (g2 := F0 m 44 ls [.long (lI (cnt (rT ri_5 i 0 1) (rN ri_5 i) n9 (ri_5 1 i)))]) rfl ?_
        rw [hQ]
        exact rt_l C (ri_5, rl_6) h (Or.inr ⟨i, n9, ⟨hi, hn9, rfl, rfl⟩, by rw [eT, eN, e1], by show ri_5 20 0 = 0; omega, by show ri_5 20 1 = _; omega, hss⟩) dc_M_words_44

abbrev rm_M_shortest : Room := { frames := 2, cells := 0, slots := 0, locals := 47 }
set_option maxRecDepth 100000 in
set_option maxHeartbeats 4000000 in
theorem c_M_shortest (l : Launch) (Γ : gG) (r : Nat → Nat) (ri : Nat → Nat → Nat) (rl : Nat → Nat → Int64) (wr : va_W) (pp : Int32) (hS : RS ri) : cT l Γ my_M_shortest bc_M_shortest 2 (some .int) rm_M_shortest [.ref (r 0), .int pp] (rW Γ r ri rl wr) (S := Nat → Nat → Nat) (fun v u => (¬ (∃ i, i < ri 20 1 ∧ pp = nI i) ∧ rbad 1 ri v u) ∨ ∃ i, (i < ri 20 1 ∧ pp = nI i) ∧ ∃ f, LD ri i f ∧ ((f (ri 1 i) = 0 ∧ (∃ x, v = some (.int x)) ∧ rQ 2 ri u) ∨ (¬ f (ri 1 i) = 0 ∧ v = some (.int (mI (f (ri 1 i)))) ∧ rQ 0 ri u))) (fun u => rW Γ r u rl wr) := by
  refine cT.start (by decide) (Nat.le_of_ble_eq_true rfl) (fun p e s m args below meth c ls Q hQ C hmn h hl => ?_)
  replace hl : lv_has ls 2 [(0, .ref (r 0)), (1, .int pp)] := hl
  have hS80 := hS.1
  refine lv_aload_n C.x C.b dc_M_shortest_0 rfl (lv_at hl 0 rfl) ?_
  refine lv_aload_n C.x C.b dc_M_shortest_1 rfl (lv_at hl 0 rfl) ?_
  refine lv_iload_n C.x C.b dc_M_shortest_2 rfl (lv_at hl 1 rfl) ?_
  refine kv_V (As := [.int pp]) (rest := [.ref (r 0)]) C h hl.1 (c_M_isSet l Γ r ri rl wr pp (by omega)) mw_M_isSet lk_M_115 (q0 := 0) rfl rfl rfl (by decide) (by decide) (Nat.le_of_ble_eq_true rfl) dc_M_shortest_3 (fun v u H locs hp h => ?_)
  obtain ⟨bs_1, rfl⟩ : ∃ zz9, zz9 = u := ⟨_, rfl⟩
  obtain ⟨rfl, hbs_1⟩ := hp
  replace h : sT Γ s (rW Γ r ri rl wr) _ _ := h
  refine W.eq (g2 := F0 m 6 ls [.int (bI bs_1), .ref (r 0)]) rfl ?_
  refine bb_eq (tgt := 13) C dc_M_shortest_6 (by decide) (fun q6 => ?_) (fun q6 => ?_)
  · refine lv_iconst (v := (nI 1)) C.x C.b dc_M_shortest_13 (by decide +kernel) ?_
    refine rg_put (ty := .int) C h 0 rfl rfl in_M tk_M nm_M 0 (by decide) fl_M_54 rfl (by decide +kernel) rfl rfl (by simp) dc_M_shortest_14 (fun H locs h => ?_)
    obtain ⟨ri_2, eri_2⟩ : ∃ zz9, zz9 = us ri 20 (us (ri 20) 0 1) := ⟨_, rfl⟩
    have fri_2 : ∀ zk, zk ≠ 20 → ri_2 zk = ri zk := fun zk hzk => by rw [eri_2, us_n _ _ hzk]
    have gri_2 : ri_2 20 = us (ri 20) 0 1 := by rw [eri_2, us_s]
    have xri_2 : ri_2 20 0 = 1 ∧ ri_2 20 1 = ri 20 1 ∧ ri_2 20 2 = ri 20 2 ∧ ri_2 20 3 = ri 20 3 ∧ ri_2 20 4 = ri 20 4 ∧ ri_2 20 5 = ri 20 5 ∧ ri_2 20 6 = ri 20 6 := by rw [gri_2]; exact ⟨us_s _ _ _, us_n _ _ (by decide), us_n _ _ (by decide), us_n _ _ (by decide), us_n _ _ (by decide), us_n _ _ (by decide), us_n _ _ (by decide)⟩
    replace h : sT Γ s (rW Γ r ri_2 rl wr) H locs := by rw [eri_2]; exact h
    have hss : sS ri ri_2 (ri 20 1) := sS.of (fri_2 0 (by decide)) (fri_2 1 (by decide)) (fri_2 2 (by decide)) (fri_2 3 (by decide))
    refine lv_aload_n C.x C.b dc_M_shortest_17 rfl (lv_at hl 0 rfl) ?_
    refine rg_get C h 0 rfl rfl in_M 0 (by decide) fl_M_54 rfl dc_M_shortest_18 ?_
    refine tp_i (y := nI 1) (by rw [show ri_2 20 0 = 1 by omega]) ?_
    refine bz_le (tgt := 26) C (by omega) dc_M_shortest_21 (by decide) (fun q21 => absurd q21 (by decide)) (fun q21 => ?_)
    refine lv_iconst (v := (nI 0)) C.x C.b dc_M_shortest_24 (by decide +kernel) ?_
    rw [hQ]
    exact rt_i C ri_2 h (Or.inl ⟨fun z => by first | (obtain ⟨i, a, c⟩ := z; rw [hbs_1.mpr ⟨i, a, c⟩] at q6; exact Bool.noConfusion q6), by omega, ⟨_, rfl⟩, by omega, hss⟩) dc_M_shortest_25
  · refine lv_iconst (v := (nI 0)) C.x C.b dc_M_shortest_9 (by decide +kernel) ?_
    refine lv_goto (tgt := 14) C.x C.b dc_M_shortest_10 (by decide) ?_
    obtain ⟨i, hi, ei⟩ := hbs_1.mp q6
    subst ei
    refine rg_put (ty := .int) C h 0 rfl rfl in_M tk_M nm_M 0 (by decide) fl_M_54 rfl (by decide +kernel) rfl rfl (by simp) dc_M_shortest_14 (fun H locs h => ?_)
    obtain ⟨ri_3, eri_3⟩ : ∃ zz9, zz9 = us ri 20 (us (ri 20) 0 0) := ⟨_, rfl⟩
    have fri_3 : ∀ zk, zk ≠ 20 → ri_3 zk = ri zk := fun zk hzk => by rw [eri_3, us_n _ _ hzk]
    have gri_3 : ri_3 20 = us (ri 20) 0 0 := by rw [eri_3, us_s]
    have xri_3 : ri_3 20 0 = 0 ∧ ri_3 20 1 = ri 20 1 ∧ ri_3 20 2 = ri 20 2 ∧ ri_3 20 3 = ri 20 3 ∧ ri_3 20 4 = ri 20 4 ∧ ri_3 20 5 = ri 20 5 ∧ ri_3 20 6 = ri 20 6 := by rw [gri_3]; exact ⟨us_s _ _ _, us_n _ _ (by decide), us_n _ _ (by decide), us_n _ _ (by decide), us_n _ _ (by decide), us_n _ _ (by decide), us_n _ _ (by decide)⟩
    replace h : sT Γ s (rW Γ r ri_3 rl wr) H locs := by rw [eri_3]; exact h
    have hss : sS ri ri_3 (ri 20 1) := sS.of (fri_3 0 (by decide)) (fri_3 1 (by decide)) (fri_3 2 (by decide)) (fri_3 3 (by decide))
    refine lv_aload_n C.x C.b dc_M_shortest_17 rfl (lv_at hl 0 rfl) ?_
    refine rg_get C h 0 rfl rfl in_M 0 (by decide) fl_M_54 rfl dc_M_shortest_18 ?_
    refine tp_i (y := nI 0) (by rw [show ri_3 20 0 = 0 by omega]) ?_
    refine bz_le (tgt := 26) C (by omega) dc_M_shortest_21 (by decide) (fun q21 => ?_) (fun q21 => absurd q21 (by decide))
    have hO1 : rOK ri_3 i := hss.rok hi (hS.2 _ hi).1
    have hO := (hS.2 _ hi).1
    have hi80 := hO.1
    have hi10 := hO.2.2.1
    have eT := hss.tab hi hO.2.2.1
    have eN : rN ri_3 i = rN ri i := congrFun eT 1
    have e0 := (hss _ hi).1
    have e1 := (hss _ hi).2.1
    refine lv_aload_n C.x C.b dc_M_shortest_26 rfl (lv_at hl 0 rfl) ?_
    refine lv_iload_n C.x C.b dc_M_shortest_27 rfl (lv_at hl 1 rfl) ?_
    refine kv_V (As := [.int (nI i)]) (rest := []) C h hl.1 (c_M_look l Γ r ri_3 rl wr i (hO1)) mw_M_look lk_M_118 (q0 := 0) rfl rfl rfl (by decide) (by decide) (Nat.le_of_ble_eq_true rfl) dc_M_shortest_28 (fun v u H locs hp h => ?_)
    obtain ⟨ri_4, rfl⟩ : ∃ zz9, zz9 = u := ⟨_, rfl⟩
    obtain ⟨rfl, kL_ri_4, lD_ri_4⟩ := hp
    replace h : sT Γ s (rW Γ r ri_4 rl wr) _ _ := h
    refine W.eq (g2 := F0 m 31 ls []) rfl ?_
    have lD : LD ri i (ri_4 11) := by
      have z9 := lD_ri_4
      unfold LD at z9
      rw [eT, eN, e0] at z9
      exact z9
    have l1 : ri_4 1 i = ri 1 i := by rw [kL_ri_4 1 (by decide)]; exact e1
    have hst := hO.2.2.2.1
    have lf := (lD _ hst).2
    have l20 : ri_4 20 0 = 0 ∧ ri_4 20 1 = ri 20 1 := by rw [kL_ri_4 20 (by decide)]; exact ⟨by omega, by omega⟩
    have hsl : sS ri ri_4 (ri 20 1) := hss.tr (sS.of (kL_ri_4 0 (by decide)) (kL_ri_4 1 (by decide)) (kL_ri_4 2 (by decide)) (kL_ri_4 3 (by decide)))
    have lN : rN ri_4 i = rN ri i := by rw [← eN]; unfold rN; rw [kL_ri_4 2 (by decide)]
    refine lv_aload_n C.x C.b dc_M_shortest_31 rfl (lv_at hl 0 rfl) ?_
    refine rg_get C h 0 rfl rfl in_M 18 (by decide) fl_M_44 rfl dc_M_shortest_32 ?_
    refine lv_aload_n C.x C.b dc_M_shortest_35 rfl (lv_at hl 0 rfl) ?_
    refine rg_get C h 0 rfl rfl in_M 3 (by decide) fl_M_13 rfl dc_M_shortest_36 ?_
    refine lv_iload_n C.x C.b dc_M_shortest_39 rfl (lv_at hl 1 rfl) ?_
    refine rg_ild C h 2 rfl (by omega) (by decide) dc_M_shortest_40 ?_
    refine rg_mld C h 12 rfl (by rw [l1]; omega) (by decide) dc_M_shortest_41 ?_
    refine bm_ge (tgt := 50) C (by rw [l1]; omega) dc_M_shortest_42 (by decide) (fun q42 => ?_) (fun q42 => ?_)
    · refine lv_aload_n C.x C.b dc_M_shortest_50 rfl (lv_at hl 0 rfl) ?_
      refine rg_get C h 0 rfl rfl in_M 0 (by decide) fl_M_54 rfl dc_M_shortest_51 ?_
      refine tp_i (y := nI 0) (by rw [show ri_4 20 0 = 0 by omega]) ?_
      refine bz_le (tgt := 61) C (by omega) dc_M_shortest_54 (by decide) (fun q54 => ?_) (fun q54 => absurd q54 (by decide))
      refine lv_aload_n C.x C.b dc_M_shortest_61 rfl (lv_at hl 0 rfl) ?_
      refine rg_get C h 0 rfl rfl in_M 18 (by decide) fl_M_44 rfl dc_M_shortest_62 ?_
      refine lv_aload_n C.x C.b dc_M_shortest_65 rfl (lv_at hl 0 rfl) ?_
      refine rg_get C h 0 rfl rfl in_M 3 (by decide) fl_M_13 rfl dc_M_shortest_66 ?_
      refine lv_iload_n C.x C.b dc_M_shortest_69 rfl (lv_at hl 1 rfl) ?_
      refine rg_ild C h 2 rfl (by omega) (by decide) dc_M_shortest_70 ?_
      refine rg_mld C h 12 rfl (by rw [l1]; omega) (by decide) dc_M_shortest_71 ?_
      rw [hQ]
      exact rt_i C ri_4 h (Or.inr ⟨i, ⟨hi, rfl⟩, ri_4 11, lD, Or.inr ⟨by rw [l1] at q42; exact q42, by rw [l1], by omega, by omega, hsl⟩⟩) dc_M_shortest_72
    · refine lv_aload_n C.x C.b dc_M_shortest_45 rfl (lv_at hl 0 rfl) ?_
      refine lv_iconst (v := (nI 2)) C.x C.b dc_M_shortest_46 (by decide +kernel) ?_
      refine rg_put (ty := .int) C h 0 rfl rfl in_M tk_M nm_M 0 (by decide) fl_M_54 rfl (by decide +kernel) rfl rfl (by simp) dc_M_shortest_47 (fun H locs h => ?_)
      obtain ⟨ri_5, eri_5⟩ : ∃ zz9, zz9 = us ri_4 20 (us (ri_4 20) 0 2) := ⟨_, rfl⟩
      have fri_5 : ∀ zk, zk ≠ 20 → ri_5 zk = ri_4 zk := fun zk hzk => by rw [eri_5, us_n _ _ hzk]
      have gri_5 : ri_5 20 = us (ri_4 20) 0 2 := by rw [eri_5, us_s]
      have xri_5 : ri_5 20 0 = 2 ∧ ri_5 20 1 = ri_4 20 1 ∧ ri_5 20 2 = ri_4 20 2 ∧ ri_5 20 3 = ri_4 20 3 ∧ ri_5 20 4 = ri_4 20 4 ∧ ri_5 20 5 = ri_4 20 5 ∧ ri_5 20 6 = ri_4 20 6 := by rw [gri_5]; exact ⟨us_s _ _ _, us_n _ _ (by decide), us_n _ _ (by decide), us_n _ _ (by decide), us_n _ _ (by decide), us_n _ _ (by decide), us_n _ _ (by decide)⟩
      replace h : sT Γ s (rW Γ r ri_5 rl wr) H locs := by rw [eri_5]; exact h
      refine lv_aload_n C.x C.b dc_M_shortest_50 rfl (lv_at hl 0 rfl) ?_
      refine rg_get C h 0 rfl rfl in_M 0 (by decide) fl_M_54 rfl dc_M_shortest_51 ?_
      refine tp_i (y := nI 2) (by rw [show ri_5 20 0 = 2 by omega]) ?_
      refine bz_le (tgt := 61) C (by omega) dc_M_shortest_54 (by decide) (fun q54 => absurd q54 (by decide)) (fun q54 => ?_)
      refine lv_iconst (v := (nI 0)) C.x C.b dc_M_shortest_57 (by decide +kernel) ?_
      refine lv_goto (tgt := 72) C.x C.b dc_M_shortest_58 (by decide) ?_
      rw [hQ]
      exact rt_i C ri_5 h (Or.inr ⟨i, ⟨hi, rfl⟩, ri_4 11, lD, Or.inl ⟨by rw [l1] at q42; exact q42, ⟨_, rfl⟩, by omega, by omega, hsl.tr (sS.of (fri_5 0 (by decide)) (fri_5 1 (by decide)) (fri_5 2 (by decide)) (fri_5 3 (by decide)))⟩⟩) dc_M_shortest_72

abbrev rm_M_letter : Room := { frames := 2, cells := 0, slots := 0, locals := 47 }
set_option maxRecDepth 100000 in
set_option maxHeartbeats 4000000 in
theorem c_M_letter (l : Launch) (Γ : gG) (r : Nat → Nat) (ri : Nat → Nat → Nat) (rl : Nat → Nat → Int64) (wr : va_W) (pp ii : Int32) (hS : RS ri) : cT l Γ my_M_letter bc_M_letter 6 (some .int) rm_M_letter [.ref (r 0), .int pp, .int ii] (rW Γ r ri rl wr) (S := Nat → Nat → Nat) (fun v u => (¬ (∃ i, i < ri 20 1 ∧ pp = nI i) ∧ rbad 1 ri v u) ∨ ∃ i, (i < ri 20 1 ∧ pp = nI i) ∧ ∃ f, LD ri i f ∧ (((¬ ∃ q, q + 1 < f (ri 1 i) ∧ ii = nI q) ∧ (∃ x, v = some (.int x)) ∧ rQ 2 ri u) ∨ ∃ q, q + 1 < f (ri 1 i) ∧ ii = nI q ∧ v = some (.int (nI (nxl (rT ri i 0 1) (rN ri i) (f (ri 1 i) - q - 2) (lst (rT ri i 0 1) (rN ri i) (f (ri 1 i) - 1) (ri 1 i) q)))) ∧ rQ 0 ri u)) (fun u => rW Γ r u rl wr) := by
  refine cT.start (by decide) (Nat.le_of_ble_eq_true rfl) (fun p e s m args below meth c ls Q hQ C hmn h hl => ?_)
  replace hl : lv_has ls 6 [(0, .ref (r 0)), (1, .int pp), (2, .int ii)] := hl
  have hS80 := hS.1
  refine lv_aload_n C.x C.b dc_M_letter_0 rfl (lv_at hl 0 rfl) ?_
  refine lv_aload_n C.x C.b dc_M_letter_1 rfl (lv_at hl 0 rfl) ?_
  refine lv_iload_n C.x C.b dc_M_letter_2 rfl (lv_at hl 1 rfl) ?_
  refine kv_V (As := [.int pp]) (rest := [.ref (r 0)]) C h hl.1 (c_M_isSet l Γ r ri rl wr pp (by omega)) mw_M_isSet lk_M_115 (q0 := 0) rfl rfl rfl (by decide) (by decide) (Nat.le_of_ble_eq_true rfl) dc_M_letter_3 (fun v u H locs hp h => ?_)
  obtain ⟨bs_1, rfl⟩ : ∃ zz9, zz9 = u := ⟨_, rfl⟩
  obtain ⟨rfl, hbs_1⟩ := hp
  replace h : sT Γ s (rW Γ r ri rl wr) _ _ := h
  refine W.eq (g2 := F0 m 6 ls [.int (bI bs_1), .ref (r 0)]) rfl ?_
  refine bb_eq (tgt := 13) C dc_M_letter_6 (by decide) (fun q6 => ?_) (fun q6 => ?_)
  · refine lv_iconst (v := (nI 1)) C.x C.b dc_M_letter_13 (by decide +kernel) ?_
    refine rg_put (ty := .int) C h 0 rfl rfl in_M tk_M nm_M 0 (by decide) fl_M_54 rfl (by decide +kernel) rfl rfl (by simp) dc_M_letter_14 (fun H locs h => ?_)
    obtain ⟨ri_2, eri_2⟩ : ∃ zz9, zz9 = us ri 20 (us (ri 20) 0 1) := ⟨_, rfl⟩
    have fri_2 : ∀ zk, zk ≠ 20 → ri_2 zk = ri zk := fun zk hzk => by rw [eri_2, us_n _ _ hzk]
    have gri_2 : ri_2 20 = us (ri 20) 0 1 := by rw [eri_2, us_s]
    have xri_2 : ri_2 20 0 = 1 ∧ ri_2 20 1 = ri 20 1 ∧ ri_2 20 2 = ri 20 2 ∧ ri_2 20 3 = ri 20 3 ∧ ri_2 20 4 = ri 20 4 ∧ ri_2 20 5 = ri 20 5 ∧ ri_2 20 6 = ri 20 6 := by rw [gri_2]; exact ⟨us_s _ _ _, us_n _ _ (by decide), us_n _ _ (by decide), us_n _ _ (by decide), us_n _ _ (by decide), us_n _ _ (by decide), us_n _ _ (by decide)⟩
    replace h : sT Γ s (rW Γ r ri_2 rl wr) H locs := by rw [eri_2]; exact h
    have hss : sS ri ri_2 (ri 20 1) := sS.of (fri_2 0 (by decide)) (fri_2 1 (by decide)) (fri_2 2 (by decide)) (fri_2 3 (by decide))
    refine lv_aload_n C.x C.b dc_M_letter_17 rfl (lv_at hl 0 rfl) ?_
    refine rg_get C h 0 rfl rfl in_M 0 (by decide) fl_M_54 rfl dc_M_letter_18 ?_
    refine tp_i (y := nI 1) (by rw [show ri_2 20 0 = 1 by omega]) ?_
    refine bz_le (tgt := 26) C (by omega) dc_M_letter_21 (by decide) (fun q21 => absurd q21 (by decide)) (fun q21 => ?_)
    refine lv_iconst (v := (nI 0)) C.x C.b dc_M_letter_24 (by decide +kernel) ?_
    rw [hQ]
    exact rt_i C ri_2 h (Or.inl ⟨fun z => by first | (obtain ⟨i, a, c⟩ := z; rw [hbs_1.mpr ⟨i, a, c⟩] at q6; exact Bool.noConfusion q6), by omega, ⟨_, rfl⟩, by omega, hss⟩) dc_M_letter_25
  · refine lv_iconst (v := (nI 0)) C.x C.b dc_M_letter_9 (by decide +kernel) ?_
    refine lv_goto (tgt := 14) C.x C.b dc_M_letter_10 (by decide) ?_
    obtain ⟨i, hi, ei⟩ := hbs_1.mp q6
    subst ei
    refine rg_put (ty := .int) C h 0 rfl rfl in_M tk_M nm_M 0 (by decide) fl_M_54 rfl (by decide +kernel) rfl rfl (by simp) dc_M_letter_14 (fun H locs h => ?_)
    obtain ⟨ri_3, eri_3⟩ : ∃ zz9, zz9 = us ri 20 (us (ri 20) 0 0) := ⟨_, rfl⟩
    have fri_3 : ∀ zk, zk ≠ 20 → ri_3 zk = ri zk := fun zk hzk => by rw [eri_3, us_n _ _ hzk]
    have gri_3 : ri_3 20 = us (ri 20) 0 0 := by rw [eri_3, us_s]
    have xri_3 : ri_3 20 0 = 0 ∧ ri_3 20 1 = ri 20 1 ∧ ri_3 20 2 = ri 20 2 ∧ ri_3 20 3 = ri 20 3 ∧ ri_3 20 4 = ri 20 4 ∧ ri_3 20 5 = ri 20 5 ∧ ri_3 20 6 = ri 20 6 := by rw [gri_3]; exact ⟨us_s _ _ _, us_n _ _ (by decide), us_n _ _ (by decide), us_n _ _ (by decide), us_n _ _ (by decide), us_n _ _ (by decide), us_n _ _ (by decide)⟩
    replace h : sT Γ s (rW Γ r ri_3 rl wr) H locs := by rw [eri_3]; exact h
    have hss : sS ri ri_3 (ri 20 1) := sS.of (fri_3 0 (by decide)) (fri_3 1 (by decide)) (fri_3 2 (by decide)) (fri_3 3 (by decide))
    refine lv_aload_n C.x C.b dc_M_letter_17 rfl (lv_at hl 0 rfl) ?_
    refine rg_get C h 0 rfl rfl in_M 0 (by decide) fl_M_54 rfl dc_M_letter_18 ?_
    refine tp_i (y := nI 0) (by rw [show ri_3 20 0 = 0 by omega]) ?_
    refine bz_le (tgt := 26) C (by omega) dc_M_letter_21 (by decide) (fun q21 => ?_) (fun q21 => absurd q21 (by decide))
    have hO1 : rOK ri_3 i := hss.rok hi (hS.2 _ hi).1
    have hO := (hS.2 _ hi).1
    have hi80 := hO.1
    have hi10 := hO.2.2.1
    have eT := hss.tab hi hO.2.2.1
    have eN : rN ri_3 i = rN ri i := congrFun eT 1
    have e0 := (hss _ hi).1
    have e1 := (hss _ hi).2.1
    refine lv_aload_n C.x C.b dc_M_letter_26 rfl (lv_at hl 0 rfl) ?_
    refine lv_iload_n C.x C.b dc_M_letter_27 rfl (lv_at hl 1 rfl) ?_
    refine kv_V (As := [.int (nI i)]) (rest := []) C h hl.1 (c_M_look l Γ r ri_3 rl wr i (hO1)) mw_M_look lk_M_118 (q0 := 0) rfl rfl rfl (by decide) (by decide) (Nat.le_of_ble_eq_true rfl) dc_M_letter_28 (fun v u H locs hp h => ?_)
    obtain ⟨ri_4, rfl⟩ : ∃ zz9, zz9 = u := ⟨_, rfl⟩
    obtain ⟨rfl, kL_ri_4, lD_ri_4⟩ := hp
    replace h : sT Γ s (rW Γ r ri_4 rl wr) _ _ := h
    refine W.eq (g2 := F0 m 31 ls []) rfl ?_
    have lD : LD ri i (ri_4 11) := by
      have z9 := lD_ri_4
      unfold LD at z9
      rw [eT, eN, e0] at z9
      exact z9
    have l1 : ri_4 1 i = ri 1 i := by rw [kL_ri_4 1 (by decide)]; exact e1
    have hst := hO.2.2.2.1
    have lf := (lD _ hst).2
    have l20 : ri_4 20 0 = 0 ∧ ri_4 20 1 = ri 20 1 := by rw [kL_ri_4 20 (by decide)]; exact ⟨by omega, by omega⟩
    have hsl : sS ri ri_4 (ri 20 1) := hss.tr (sS.of (kL_ri_4 0 (by decide)) (kL_ri_4 1 (by decide)) (kL_ri_4 2 (by decide)) (kL_ri_4 3 (by decide)))
    have lN : rN ri_4 i = rN ri i := by rw [← eN]; unfold rN; rw [kL_ri_4 2 (by decide)]
    refine lv_aload_n C.x C.b dc_M_letter_31 rfl (lv_at hl 0 rfl) ?_
    refine rg_get C h 0 rfl rfl in_M 3 (by decide) fl_M_13 rfl dc_M_letter_32 ?_
    refine lv_iload_n C.x C.b dc_M_letter_35 rfl (lv_at hl 1 rfl) ?_
    refine rg_ild C h 2 rfl (by omega) (by decide) dc_M_letter_36 ?_
    refine lv_istore_n (lv' := [(3, .int (nI (ri_4 1 i))), (0, .ref (r 0)), (1, .int (nI i)), (2, .int ii)]) C.x C.b dc_M_letter_37 rfl hl (by decide) rfl (fun ls hl => ?_)
    obtain ⟨fz, efz⟩ : ∃ zz9, zz9 = ri_4 11 := ⟨_, rfl⟩
    rw [← efz] at lD lf
    rw [l1] at hl
    have l80 : i < 80 := hi80
    refine lv_iload_n C.x C.b dc_M_letter_38 rfl (lv_at hl 3 rfl) ?_
    refine lv_if_lt (tgt := 52) C.x C.b dc_M_letter_39 (by decide) (fun q39 => ?_) (fun q39 => ?_)
    · refine lv_aload_n C.x C.b dc_M_letter_52 rfl (lv_at hl 1 rfl) ?_
      refine lv_iconst (v := (nI 2)) C.x C.b dc_M_letter_53 (by decide +kernel) ?_
      refine rg_put (ty := .int) C h 0 rfl rfl in_M tk_M nm_M 0 (by decide) fl_M_54 rfl (by decide +kernel) rfl rfl (by simp) dc_M_letter_54 (fun H locs h => ?_)
      obtain ⟨ri_5, eri_5⟩ : ∃ zz9, zz9 = us ri_4 20 (us (ri_4 20) 0 2) := ⟨_, rfl⟩
      have fri_5 : ∀ zk, zk ≠ 20 → ri_5 zk = ri_4 zk := fun zk hzk => by rw [eri_5, us_n _ _ hzk]
      have gri_5 : ri_5 20 = us (ri_4 20) 0 2 := by rw [eri_5, us_s]
      have xri_5 : ri_5 20 0 = 2 ∧ ri_5 20 1 = ri_4 20 1 ∧ ri_5 20 2 = ri_4 20 2 ∧ ri_5 20 3 = ri_4 20 3 ∧ ri_5 20 4 = ri_4 20 4 ∧ ri_5 20 5 = ri_4 20 5 ∧ ri_5 20 6 = ri_4 20 6 := by rw [gri_5]; exact ⟨us_s _ _ _, us_n _ _ (by decide), us_n _ _ (by decide), us_n _ _ (by decide), us_n _ _ (by decide), us_n _ _ (by decide), us_n _ _ (by decide)⟩
      replace h : sT Γ s (rW Γ r ri_5 rl wr) H locs := by rw [eri_5]; exact h
      refine lv_iconst (v := (nI 0)) C.x C.b dc_M_letter_57 (by decide +kernel) ?_
      rw [hQ]
      exact rt_i C ri_5 h (Or.inr ⟨i, ⟨hi, rfl⟩, fz, lD, Or.inl ⟨fun z => by obtain ⟨q, hq, e⟩ := z; subst e; first | exact nI_pos (by omega) q39 | exact q49 ((nI_mlt (by omega) (by omega)).mpr hq), ⟨_, rfl⟩, by omega, by omega, hsl.tr (sS.of (fri_5 0 (by decide)) (fri_5 1 (by decide)) (fri_5 2 (by decide)) (fri_5 3 (by decide)))⟩⟩) dc_M_letter_58
    · refine lv_iload_n C.x C.b dc_M_letter_42 rfl (lv_at hl 3 rfl) ?_
      refine lv_aload_n C.x C.b dc_M_letter_43 rfl (lv_at hl 1 rfl) ?_
      refine rg_get C h 0 rfl rfl in_M 18 (by decide) fl_M_44 rfl dc_M_letter_44 ?_
      refine lv_iload_n C.x C.b dc_M_letter_47 rfl (lv_at hl 0 rfl) ?_
      refine rg_mld C h 12 rfl (by omega) (by decide) dc_M_letter_48 ?_
      rw [← efz]
      refine lv_icmp_lt (tgt := 59) C.x C.b dc_M_letter_49 (by decide) (fun q49 => ?_) (fun q49 => ?_)
      · obtain ⟨q, hqq, eq9⟩ : ∃ q, q < 2 ^ 31 ∧ ii = nI q := by
          obtain ⟨j, hj, e9⟩ := nI_of q39
          exact ⟨j, hj, e9⟩
        subst eq9
        have hqF := (nI_mlt hqq (by omega)).mp q49
        have lNz : rN ri_4 i = rN ri i := lN
        refine lv_iconst (v := (nI 0)) C.x C.b dc_M_letter_59 (by decide +kernel) ?_
        refine lv_istore (lv' := [(4, .int (nI 0)), (3, .int (nI (ri 1 i))), (0, .ref (r 0)), (1, .int (nI i)), (2, .int (nI q))]) C.x C.b dc_M_letter_60 hl (by decide) rfl (fun ls hl => ?_)
        have hat1 : lst (rT ri i 0 1) (rN ri i) (fz (ri 1 i) - 1) (ri 1 i) 0 < ri 0 i := hst
        have hcd1 : fz (lst (rT ri i 0 1) (rN ri i) (fz (ri 1 i) - 1) (ri 1 i) 0) = fz (ri 1 i) - 0 - 2 + 2 := by show fz (ri 1 i) = _; omega
        have lp_62 : ∀ (n_62 : Nat) (k : Nat) (H : Heap) (locs : List Loc) (ls : Array Slot), q - k < n_62 → (k ≤ q) → (lst (rT ri i 0 1) (rN ri i) (fz (ri 1 i) - 1) (ri 1 i) k < ri 0 i) → (fz (lst (rT ri i 0 1) (rN ri i) (fz (ri 1 i) - 1) (ri 1 i) k) = fz (ri 1 i) - k - 2 + 2) → sT Γ s (rW Γ r ri_4 rl wr) H locs → lv_has ls 6 [(4, .int (nI k)), (3, .int (nI (lst (rT ri i 0 1) (rN ri i) (fz (ri 1 i) - 1) (ri 1 i) k))), (1, .int (nI i)), (2, .int (nI q)), (0, .ref (r 0))] → W p l e rm_M_letter s m args below meth c H locs 0 0 Q (F0 m 62 ls []) := by
          intro n_62
          induction n_62 with
          | zero => intro k H locs ls hms; exact absurd hms (Nat.not_lt_zero _)
          | succ n_62 ih_62 =>
            intro k H locs ls hms hk hat hcd h hl
            obtain ⟨lx, lx3, lxe⟩ := lD.some hO hat hcd (by omega)
            refine lv_iconst (v := (nI 0)) C.x C.b dc_M_letter_62 (by decide +kernel) ?_
            refine lv_istore (lv' := [(5, .int (nI 0)), (4, .int (nI k)), (3, .int (nI (lst (rT ri i 0 1) (rN ri i) (fz (ri 1 i) - 1) (ri 1 i) k))), (1, .int (nI i)), (2, .int (nI q)), (0, .ref (r 0))]) C.x C.b dc_M_letter_63 hl (by decide) rfl (fun ls hl => ?_)
            have hno1 : ∀ b, b < 0 → fz (rN ri i ((lst (rT ri i 0 1) (rN ri i) (fz (ri 1 i) - 1) (ri 1 i) k) * 3 + b)) ≠ fz (ri 1 i) - k - 2 + 1 := fun b hb => absurd hb (Nat.not_lt_zero _)
            have lp_65 : ∀ (n_65 : Nat) (l9 : Nat) (H : Heap) (locs : List Loc) (ls : Array Slot), 3 - l9 < n_65 → (l9 ≤ lx) → (∀ b, b < l9 → fz (rN ri i ((lst (rT ri i 0 1) (rN ri i) (fz (ri 1 i) - 1) (ri 1 i) k) * 3 + b)) ≠ fz (ri 1 i) - k - 2 + 1) → sT Γ s (rW Γ r ri_4 rl wr) H locs → lv_has ls 6 [(5, .int (nI l9)), (4, .int (nI k)), (3, .int (nI (lst (rT ri i 0 1) (rN ri i) (fz (ri 1 i) - 1) (ri 1 i) k))), (1, .int (nI i)), (2, .int (nI q)), (0, .ref (r 0))] → W p l e rm_M_letter s m args below meth c H locs 0 0 Q (F0 m 65 ls []) := by
              intro n_65
              induction n_65 with
              | zero => intro l9 H locs ls hms; exact absurd hms (Nat.not_lt_zero _)
              | succ n_65 ih_65 =>
                intro l9 H locs ls hms hl9 hno h hl
                refine lv_aload_n C.x C.b dc_M_letter_65 rfl (lv_at hl 5 rfl) ?_
                refine rg_get C h 0 rfl rfl in_M 18 (by decide) fl_M_44 rfl dc_M_letter_66 ?_
                refine lv_aload_n C.x C.b dc_M_letter_69 rfl (lv_at hl 5 rfl) ?_
                refine lv_iload_n C.x C.b dc_M_letter_70 rfl (lv_at hl 3 rfl) ?_
                refine lv_iload_n C.x C.b dc_M_letter_71 rfl (lv_at hl 2 rfl) ?_
                refine lv_iload C.x C.b dc_M_letter_72 (lv_at hl 0 rfl) ?_
                refine kv_V (As := [.int (nI i), .int (nI (lst (rT ri i 0 1) (rN ri i) (fz (ri 1 i) - 1) (ri 1 i) k)), .int (nI l9)]) (rest := [.ref (r 12)]) C h hl.1 (c_M_next l Γ r ri_4 rl wr i (lst (rT ri i 0 1) (rN ri i) (fz (ri 1 i) - 1) (ri 1 i) k) l9 (hi80) (by omega) (by omega)) mw_M_next lk_M_61 (q0 := 0) rfl rfl rfl (by decide) (by decide) (Nat.le_of_ble_eq_true rfl) dc_M_letter_74 (fun v u H locs hp h => ?_)
                obtain rfl := hp
                replace h : sT Γ s (rW Γ r ri_4 rl wr) _ _ := h
                refine W.eq (g2 := F0 m 77 ls [.int (nI (rN ri_4 i ((lst (rT ri i 0 1) (rN ri i) (fz (ri 1 i) - 1) (ri 1 i) k) * 3 + l9))), .ref (r 12)]) rfl ?_
                refine rg_mld C h 12 rfl (by rw [lNz]; have := hO.2.2.2.2.1 _ l9 hat (by omega); omega) (by decide) dc_M_letter_77 ?_
                rw [lNz, ← efz]
                have hnb := (lD _ (hO.2.2.2.2.1 _ l9 hat (by omega))).2
                refine lv_aload_n C.x C.b dc_M_letter_78 rfl (lv_at hl 5 rfl) ?_
                refine rg_get C h 0 rfl rfl in_M 18 (by decide) fl_M_44 rfl dc_M_letter_79 ?_
                refine lv_iload_n C.x C.b dc_M_letter_82 rfl (lv_at hl 2 rfl) ?_
                refine rg_mld C h 12 rfl (by omega) (by decide) dc_M_letter_83 ?_
                refine lv_iconst (v := (nI 1)) C.x C.b dc_M_letter_84 (by decide +kernel) ?_
                refine lv_isub C.x C.b dc_M_letter_85 ?_
                refine tp_i (y := (mI (fz (lst (rT ri i 0 1) (rN ri i) (fz (ri 1 i) - 1) (ri 1 i) k) - 1))) (by rw [← efz]; exact mI_pred (by omega)) ?_
                refine bn_eq (tgt := 95) C (by omega) (by have := (lD _ hat).2; omega) dc_M_letter_86 (by decide) (fun q86 => ?_) (fun q86 => ?_)
                · have hnl : l9 = nxl (rT ri i 0 1) (rN ri i) (fz (ri 1 i) - k - 2) (lst (rT ri i 0 1) (rN ri i) (fz (ri 1 i) - 1) (ri 1 i) k) := lD.nxl hO hat hcd (by omega) (by omega) hno (by
                    have z9 := q86
                    omega)
                  refine lv_iload C.x C.b dc_M_letter_95 (lv_at hl 1 rfl) ?_
                  refine lv_iload_n C.x C.b dc_M_letter_97 rfl (lv_at hl 4 rfl) ?_
                  refine bc_ne (tgt := 104) C (by omega) (by omega) dc_M_letter_98 (by decide) (fun q98 => ?_) (fun q98 => ?_)
                  · refine lv_aload_n C.x C.b dc_M_letter_104 rfl (lv_at hl 5 rfl) ?_
                    refine lv_iload_n C.x C.b dc_M_letter_105 rfl (lv_at hl 3 rfl) ?_
                    refine lv_iload_n C.x C.b dc_M_letter_106 rfl (lv_at hl 2 rfl) ?_
                    refine lv_iload C.x C.b dc_M_letter_107 (lv_at hl 0 rfl) ?_
                    refine kv_V (As := [.int (nI i), .int (nI (lst (rT ri i 0 1) (rN ri i) (fz (ri 1 i) - 1) (ri 1 i) k)), .int (nI l9)]) (rest := []) C h hl.1 (c_M_next l Γ r ri_4 rl wr i (lst (rT ri i 0 1) (rN ri i) (fz (ri 1 i) - 1) (ri 1 i) k) l9 (hi80) (by omega) (by omega)) mw_M_next lk_M_61 (q0 := 0) rfl rfl rfl (by decide) (by decide) (Nat.le_of_ble_eq_true rfl) dc_M_letter_109 (fun v u H locs hp h => ?_)
                    obtain rfl := hp
                    replace h : sT Γ s (rW Γ r ri_4 rl wr) _ _ := h
                    refine W.eq (g2 := F0 m 112 ls [.int (nI (rN ri_4 i ((lst (rT ri i 0 1) (rN ri i) (fz (ri 1 i) - 1) (ri 1 i) k) * 3 + l9)))]) rfl ?_
                    refine lv_istore_n (lv' := [(3, .int (nI (rN ri_4 i ((lst (rT ri i 0 1) (rN ri i) (fz (ri 1 i) - 1) (ri 1 i) k) * 3 + l9)))), (5, .int (nI l9)), (4, .int (nI k)), (1, .int (nI i)), (2, .int (nI q)), (0, .ref (r 0))]) C.x C.b dc_M_letter_112 rfl hl (by decide) rfl (fun ls hl => ?_)
                    refine lv_iinc (v := nI (k + 1)) (lv' := [(4, .int (nI (k + 1))), (3, .int (nI (rN ri_4 i ((lst (rT ri i 0 1) (rN ri i) (fz (ri 1 i) - 1) (ri 1 i) k) * 3 + l9)))), (5, .int (nI l9)), (1, .int (nI i)), (2, .int (nI q)), (0, .ref (r 0))]) C.x C.b dc_M_letter_113 hl (k := 2) rfl (nI_1 k) (by decide) rfl (fun ls hl => ?_)
                    refine lv_goto (tgt := 62) C.x C.b dc_M_letter_116 (by decide) ?_
                    have es : rN ri i ((lst (rT ri i 0 1) (rN ri i) (fz (ri 1 i) - 1) (ri 1 i) k) * 3 + l9) = lst (rT ri i 0 1) (rN ri i) (fz (ri 1 i) - 1) (ri 1 i) (k + 1) := by rw [hnl]; show _ = rN ri i (_ * 3 + nxl _ _ (fz (ri 1 i) - 1 - k - 1) _); rw [show fz (ri 1 i) - 1 - k - 1 = fz (ri 1 i) - k - 2 by omega]
                    rw [lNz, es] at hl
                    have hat1 : lst (rT ri i 0 1) (rN ri i) (fz (ri 1 i) - 1) (ri 1 i) (k + 1) < ri 0 i := by rw [← es]; exact hO.2.2.2.2.1 _ l9 hat (by omega)
                    have hcd1 : fz (lst (rT ri i 0 1) (rN ri i) (fz (ri 1 i) - 1) (ri 1 i) (k + 1)) = fz (ri 1 i) - (k + 1) - 2 + 2 := by rw [← es]; omega
                    exact ih_62 (k + 1) _ _ _ (by omega) (by first | assumption | omega) (hat1) (hcd1) h (lv_sub hl [0, 1, 3, 4, 5] rfl)
                  · refine lv_iload C.x C.b dc_M_letter_101 (lv_at hl 0 rfl) ?_
                    rw [hQ]
                    exact rt_i C ri_4 h (Or.inr ⟨i, ⟨hi, rfl⟩, fz, lD, Or.inr ⟨q, hqF, rfl, by rw [hnl, show k = q by omega], l20.1, l20.2, hsl⟩⟩) dc_M_letter_103
                · refine lv_iinc (v := nI (l9 + 1)) (lv' := [(5, .int (nI (l9 + 1))), (4, .int (nI k)), (3, .int (nI (lst (rT ri i 0 1) (rN ri i) (fz (ri 1 i) - 1) (ri 1 i) k))), (1, .int (nI i)), (2, .int (nI q)), (0, .ref (r 0))]) C.x C.b dc_M_letter_89 hl (k := 0) rfl (nI_1 l9) (by decide) rfl (fun ls hl => ?_)
                  refine lv_goto (tgt := 65) C.x C.b dc_M_letter_92 (by decide) ?_
                  have hno1 : ∀ b, b < l9 + 1 → fz (rN ri i ((lst (rT ri i 0 1) (rN ri i) (fz (ri 1 i) - 1) (ri 1 i) k) * 3 + b)) ≠ fz (ri 1 i) - k - 2 + 1 := fun b hb => by
                    by_cases e9 : b = l9
                    · rw [e9]; intro z9; exact q86 (by omega)
                    · exact hno b (by omega)
                  have hl91 : l9 + 1 ≤ lx := by
                    by_cases e9 : l9 = lx
                    · exfalso; rw [e9] at q86; exact q86 (by omega)
                    · omega
                  exact ih_65 (l9 + 1) _ _ _ (by omega) (by first | exact hl91 | omega) (hno1) h (lv_sub hl [0, 1, 2, 3, 4, 5] rfl)
            exact lp_65 _ 0 _ _ _ (Nat.lt_succ_self _) (by first | exact hl91 | omega) (hno1) h (lv_sub hl [0, 1, 2, 3, 4, 5] rfl)
        exact lp_62 _ 0 _ _ _ (Nat.lt_succ_self _) (by first | assumption | omega) (hat1) (hcd1) h (lv_sub hl [0, 1, 3, 4, 2] rfl)
      · refine lv_aload_n C.x C.b dc_M_letter_52 rfl (lv_at hl 1 rfl) ?_
        refine lv_iconst (v := (nI 2)) C.x C.b dc_M_letter_53 (by decide +kernel) ?_
        refine rg_put (ty := .int) C h 0 rfl rfl in_M tk_M nm_M 0 (by decide) fl_M_54 rfl (by decide +kernel) rfl rfl (by simp) dc_M_letter_54 (fun H locs h => ?_)
        obtain ⟨ri_6, eri_6⟩ : ∃ zz9, zz9 = us ri_4 20 (us (ri_4 20) 0 2) := ⟨_, rfl⟩
        have fri_6 : ∀ zk, zk ≠ 20 → ri_6 zk = ri_4 zk := fun zk hzk => by rw [eri_6, us_n _ _ hzk]
        have gri_6 : ri_6 20 = us (ri_4 20) 0 2 := by rw [eri_6, us_s]
        have xri_6 : ri_6 20 0 = 2 ∧ ri_6 20 1 = ri_4 20 1 ∧ ri_6 20 2 = ri_4 20 2 ∧ ri_6 20 3 = ri_4 20 3 ∧ ri_6 20 4 = ri_4 20 4 ∧ ri_6 20 5 = ri_4 20 5 ∧ ri_6 20 6 = ri_4 20 6 := by rw [gri_6]; exact ⟨us_s _ _ _, us_n _ _ (by decide), us_n _ _ (by decide), us_n _ _ (by decide), us_n _ _ (by decide), us_n _ _ (by decide), us_n _ _ (by decide)⟩
        replace h : sT Γ s (rW Γ r ri_6 rl wr) H locs := by rw [eri_6]; exact h
        refine lv_iconst (v := (nI 0)) C.x C.b dc_M_letter_57 (by decide +kernel) ?_
        rw [hQ]
        exact rt_i C ri_6 h (Or.inr ⟨i, ⟨hi, rfl⟩, fz, lD, Or.inl ⟨fun z => by obtain ⟨q, hq, e⟩ := z; subst e; first | exact nI_pos (by omega) q39 | exact q49 ((nI_mlt (by omega) (by omega)).mpr hq), ⟨_, rfl⟩, by omega, by omega, hsl.tr (sS.of (fri_6 0 (by decide)) (fri_6 1 (by decide)) (fri_6 2 (by decide)) (fri_6 3 (by decide)))⟩⟩) dc_M_letter_58

abbrev rm_M_size : Room := { frames := 2, cells := 0, slots := 0, locals := 47 }
set_option maxRecDepth 100000 in
set_option maxHeartbeats 4000000 in
theorem c_M_size (l : Launch) (Γ : gG) (r : Nat → Nat) (ri : Nat → Nat → Nat) (rl : Nat → Nat → Int64) (wr : va_W) (pp : Int32) (hS : RS ri) : cT l Γ my_M_size bc_M_size 7 (some .int) rm_M_size [.ref (r 0), .int pp] (rW Γ r ri rl wr) (S := (Nat → Nat → Nat) × (Nat → Nat → Int64)) (fun v u => (¬ (∃ i, i < ri 20 1 ∧ pp = nI i) ∧ (u.1 20 0 = 1 ∧ (∃ x, v = some (.int x)) ∧ u.1 20 1 = ri 20 1 ∧ sS ri u.1 (ri 20 1))) ∨ ∃ i, (i < ri 20 1 ∧ pp = nI i) ∧ (((∃ n, 10 ≤ n ∧ n < 20 ∧ 0 < cnt (rT ri i 0 1) (rN ri i) n (ri 1 i)) ∧ v = some (.int (mI 0))) ∨ ((∀ n, 10 ≤ n → n < 20 → cnt (rT ri i 0 1) (rN ri i) n (ri 1 i) = 0) ∧ ((1000000000 < scn (rT ri i 0 1) (rN ri i) (ri 1 i) 20 ∧ v = some (.int (-2))) ∨ (scn (rT ri i 0 1) (rN ri i) (ri 1 i) 20 ≤ 1000000000 ∧ v = some (.int (nI (scn (rT ri i 0 1) (rN ri i) (ri 1 i) 20))))))) ∧ rQ 0 ri u.1) (fun u => rW Γ r u.1 u.2 wr) := by
  refine cT.start (by decide) (Nat.le_of_ble_eq_true rfl) (fun p e s m args below meth c ls Q hQ C hmn h hl => ?_)
  replace hl : lv_has ls 7 [(0, .ref (r 0)), (1, .int pp)] := hl
  have hS80 := hS.1
  refine lv_aload_n C.x C.b dc_M_size_0 rfl (lv_at hl 0 rfl) ?_
  refine lv_aload_n C.x C.b dc_M_size_1 rfl (lv_at hl 0 rfl) ?_
  refine lv_iload_n C.x C.b dc_M_size_2 rfl (lv_at hl 1 rfl) ?_
  refine kv_V (As := [.int pp]) (rest := [.ref (r 0)]) C h hl.1 (c_M_isSet l Γ r ri rl wr pp (by omega)) mw_M_isSet lk_M_115 (q0 := 0) rfl rfl rfl (by decide) (by decide) (Nat.le_of_ble_eq_true rfl) dc_M_size_3 (fun v u H locs hp h => ?_)
  obtain ⟨bs_1, rfl⟩ : ∃ zz9, zz9 = u := ⟨_, rfl⟩
  obtain ⟨rfl, hbs_1⟩ := hp
  replace h : sT Γ s (rW Γ r ri rl wr) _ _ := h
  refine W.eq (g2 := F0 m 6 ls [.int (bI bs_1), .ref (r 0)]) rfl ?_
  refine bb_eq (tgt := 13) C dc_M_size_6 (by decide) (fun q6 => ?_) (fun q6 => ?_)
  · refine lv_iconst (v := (nI 1)) C.x C.b dc_M_size_13 (by decide +kernel) ?_
    refine rg_put (ty := .int) C h 0 rfl rfl in_M tk_M nm_M 0 (by decide) fl_M_54 rfl (by decide +kernel) rfl rfl (by simp) dc_M_size_14 (fun H locs h => ?_)
    obtain ⟨ri_2, eri_2⟩ : ∃ zz9, zz9 = us ri 20 (us (ri 20) 0 1) := ⟨_, rfl⟩
    have fri_2 : ∀ zk, zk ≠ 20 → ri_2 zk = ri zk := fun zk hzk => by rw [eri_2, us_n _ _ hzk]
    have gri_2 : ri_2 20 = us (ri 20) 0 1 := by rw [eri_2, us_s]
    have xri_2 : ri_2 20 0 = 1 ∧ ri_2 20 1 = ri 20 1 ∧ ri_2 20 2 = ri 20 2 ∧ ri_2 20 3 = ri 20 3 ∧ ri_2 20 4 = ri 20 4 ∧ ri_2 20 5 = ri 20 5 ∧ ri_2 20 6 = ri 20 6 := by rw [gri_2]; exact ⟨us_s _ _ _, us_n _ _ (by decide), us_n _ _ (by decide), us_n _ _ (by decide), us_n _ _ (by decide), us_n _ _ (by decide), us_n _ _ (by decide)⟩
    replace h : sT Γ s (rW Γ r ri_2 rl wr) H locs := by rw [eri_2]; exact h
    have hss : sS ri ri_2 (ri 20 1) := sS.of (fri_2 0 (by decide)) (fri_2 1 (by decide)) (fri_2 2 (by decide)) (fri_2 3 (by decide))
    refine lv_aload_n C.x C.b dc_M_size_17 rfl (lv_at hl 0 rfl) ?_
    refine rg_get C h 0 rfl rfl in_M 0 (by decide) fl_M_54 rfl dc_M_size_18 ?_
    refine tp_i (y := nI 1) (by rw [show ri_2 20 0 = 1 by omega]) ?_
    refine bz_le (tgt := 26) C (by omega) dc_M_size_21 (by decide) (fun q21 => absurd q21 (by decide)) (fun q21 => ?_)
    refine lv_iconst (v := (nI 0)) C.x C.b dc_M_size_24 (by decide +kernel) ?_
    rw [hQ]
    exact rt_i C (ri_2, rl) h (Or.inl ⟨fun z => by first | (obtain ⟨i, a, c⟩ := z; rw [hbs_1.mpr ⟨i, a, c⟩] at q6; exact Bool.noConfusion q6), by show ri_2 20 0 = 1; omega, ⟨_, rfl⟩, by show ri_2 20 1 = _; omega, hss⟩) dc_M_size_25
  · refine lv_iconst (v := (nI 0)) C.x C.b dc_M_size_9 (by decide +kernel) ?_
    refine lv_goto (tgt := 14) C.x C.b dc_M_size_10 (by decide) ?_
    obtain ⟨i, hi, ei⟩ := hbs_1.mp q6
    subst ei
    refine rg_put (ty := .int) C h 0 rfl rfl in_M tk_M nm_M 0 (by decide) fl_M_54 rfl (by decide +kernel) rfl rfl (by simp) dc_M_size_14 (fun H locs h => ?_)
    obtain ⟨ri_3, eri_3⟩ : ∃ zz9, zz9 = us ri 20 (us (ri 20) 0 0) := ⟨_, rfl⟩
    have fri_3 : ∀ zk, zk ≠ 20 → ri_3 zk = ri zk := fun zk hzk => by rw [eri_3, us_n _ _ hzk]
    have gri_3 : ri_3 20 = us (ri 20) 0 0 := by rw [eri_3, us_s]
    have xri_3 : ri_3 20 0 = 0 ∧ ri_3 20 1 = ri 20 1 ∧ ri_3 20 2 = ri 20 2 ∧ ri_3 20 3 = ri 20 3 ∧ ri_3 20 4 = ri 20 4 ∧ ri_3 20 5 = ri 20 5 ∧ ri_3 20 6 = ri 20 6 := by rw [gri_3]; exact ⟨us_s _ _ _, us_n _ _ (by decide), us_n _ _ (by decide), us_n _ _ (by decide), us_n _ _ (by decide), us_n _ _ (by decide), us_n _ _ (by decide)⟩
    replace h : sT Γ s (rW Γ r ri_3 rl wr) H locs := by rw [eri_3]; exact h
    have hss : sS ri ri_3 (ri 20 1) := sS.of (fri_3 0 (by decide)) (fri_3 1 (by decide)) (fri_3 2 (by decide)) (fri_3 3 (by decide))
    refine lv_aload_n C.x C.b dc_M_size_17 rfl (lv_at hl 0 rfl) ?_
    refine rg_get C h 0 rfl rfl in_M 0 (by decide) fl_M_54 rfl dc_M_size_18 ?_
    refine tp_i (y := nI 0) (by rw [show ri_3 20 0 = 0 by omega]) ?_
    refine bz_le (tgt := 26) C (by omega) dc_M_size_21 (by decide) (fun q21 => ?_) (fun q21 => absurd q21 (by decide))
    have hO1 : rOK ri_3 i := hss.rok hi (hS.2 _ hi).1
    have hO := (hS.2 _ hi).1
    have hi80 := hO.1
    have hi10 := hO.2.2.1
    have eT := hss.tab hi hO.2.2.1
    have eN : rN ri_3 i = rN ri i := congrFun eT 1
    have e0 := (hss _ hi).1
    have e1 := (hss _ hi).2.1
    refine lv_lconst (v := 0) C.x C.b dc_M_size_26 (by decide +kernel) ?_
    refine lv_lstore_n (lv' := [(2, .long 0), (0, .ref (r 0)), (1, .int (nI i))]) C.x C.b dc_M_size_27 rfl hl (by decide) rfl (fun ls hl => ?_)
    refine lv_iconst (v := (nI 0)) C.x C.b dc_M_size_28 (by decide +kernel) ?_
    refine lv_istore (lv' := [(4, .int (nI 0)), (2, .long (lI (scn (rT ri i 0 1) (rN ri i) (ri 1 i) 0))), (0, .ref (r 0)), (1, .int (nI i))]) C.x C.b dc_M_size_29 hl (by decide) rfl (fun ls hl => ?_)
    have hno1 : ∀ n, 10 ≤ n → n < 0 → cnt (rT ri i 0 1) (rN ri i) n (ri 1 i) = 0 := fun n _ b => absurd b (Nat.not_lt_zero _)
    have lp_31 : ∀ (n_31 : Nat) (k : Nat) (z : Nat → Nat → Int64) (H : Heap) (locs : List Loc) (ls : Array Slot), 20 - k < n_31 → (k ≤ 20) → (∀ n, 10 ≤ n → n < k → cnt (rT ri i 0 1) (rN ri i) n (ri 1 i) = 0) → sT Γ s (rW Γ r ri_3 z wr) H locs → lv_has ls 7 [(4, .int (nI k)), (2, .long (lI (scn (rT ri i 0 1) (rN ri i) (ri 1 i) k))), (1, .int (nI i)), (0, .ref (r 0))] → W p l e rm_M_size s m args below meth c H locs 0 0 Q (F0 m 31 ls []) := by
      intro n_31
      induction n_31 with
      | zero => intro k z H locs ls hms; exact absurd hms (Nat.not_lt_zero _)
      | succ n_31 ih_31 =>
        intro k z H locs ls hms hk hno h hl
        refine lv_iload C.x C.b dc_M_size_31 (lv_at hl 0 rfl) ?_
        refine lv_bipush (v := (nI 20)) C.x C.b dc_M_size_33 (by decide +kernel) ?_
        refine bc_ge (tgt := 74) C (by omega) (by omega) dc_M_size_35 (by decide) (fun q35 => ?_) (fun q35 => ?_)
        · have hs63 : scn (rT ri i 0 1) (rN ri i) (ri 1 i) k < 2 ^ 63 := by have a := scn_le (rT ri i 0 1) (rN ri i) (ri 1 i) k; have b := p3_20 k (by omega); omega
          have hk2 : k = 20 := by omega
          refine lv_lload_n C.x C.b dc_M_size_74 rfl (lv_at hl 1 rfl) ?_
          refine lv_ldc2 C.x C.b C.o (C.t _ gw_m132) dc_M_size_75 ?_
          refine W.lcmp C.x C.b dc_M_size_78 ?_
          refine lv_if_le (tgt := 87) C.x C.b dc_M_size_79 (by decide) (fun q79 => ?_) (fun q79 => ?_)
          · refine lv_lload_n C.x C.b dc_M_size_87 rfl (lv_at hl 1 rfl) ?_
            refine lv_l2i C.x C.b dc_M_size_88 (lI_i _) ?_
            rw [hQ]
            exact rt_i C (ri_3, z) h (Or.inr ⟨i, ⟨hi, rfl⟩, Or.inr ⟨fun n a b => hno n a (by omega), by rw [← hk2]; exact Or.inr ⟨(cmp_le hs63 (by decide)).mp q79, rfl⟩⟩, ⟨by show ri_3 20 0 = 0; omega, by show ri_3 20 1 = _; omega, hss⟩⟩) dc_M_size_89
          · refine lv_bipush (v := (-2)) C.x C.b dc_M_size_82 (by decide +kernel) ?_
            refine lv_goto (tgt := 89) C.x C.b dc_M_size_84 (by decide) ?_
            rw [hQ]
            exact rt_i C (ri_3, z) h (Or.inr ⟨i, ⟨hi, rfl⟩, Or.inr ⟨fun n a b => hno n a (by omega), by rw [← hk2]; exact Or.inl ⟨Nat.lt_of_not_le (fun z9 => q79 ((cmp_le (b := 1000000000) hs63 (by decide)).mpr z9)), rfl⟩⟩, ⟨by show ri_3 20 0 = 0; omega, by show ri_3 20 1 = _; omega, hss⟩⟩) dc_M_size_89
        · refine lv_aload_n C.x C.b dc_M_size_38 rfl (lv_at hl 3 rfl) ?_
          refine lv_iload_n C.x C.b dc_M_size_39 rfl (lv_at hl 2 rfl) ?_
          refine lv_iload C.x C.b dc_M_size_40 (lv_at hl 0 rfl) ?_
          refine kv_V (As := [.int (nI i), .int (nI k)]) (rest := []) C h hl.1 (c_M_countJ l Γ r ri_3 z wr i k hO1 (by omega)) mw_M_countJ lk_M_128 (q0 := 0) rfl rfl rfl (by decide) (by decide) (Nat.le_of_ble_eq_true rfl) dc_M_size_42 (fun v u H locs hp h => ?_)
          obtain ⟨rl_4, rfl⟩ : ∃ zz9, zz9 = u := ⟨_, rfl⟩
          obtain rfl := hp
          replace h : sT Γ s (rW Γ r ri_3 rl_4 wr) _ _ := h
          refine W.eq (g2 := F0 m 45 ls [.long (lI (cnt (rT ri_3 i 0 1) (rN ri_3 i) k (ri_3 1 i)))]) rfl ?_
          rw [eT, eN, e1]
          have hc63 : cnt (rT ri i 0 1) (rN ri i) k (ri 1 i) < 2 ^ 63 := Nat.lt_of_le_of_lt (Nat.le_trans (cnt_le _ _ k (ri 1 i)) (p3_20 k (by omega))) (by decide)
          refine lv_lstore (lv' := [(5, .long (lI (cnt (rT ri i 0 1) (rN ri i) k (ri 1 i)))), (4, .int (nI k)), (2, .long (lI (scn (rT ri i 0 1) (rN ri i) (ri 1 i) k))), (1, .int (nI i)), (0, .ref (r 0))]) C.x C.b dc_M_size_45 hl (by decide) rfl (fun ls hl => ?_)
          refine lv_iload C.x C.b dc_M_size_47 (lv_at hl 1 rfl) ?_
          refine lv_bipush (v := (nI 10)) C.x C.b dc_M_size_49 (by decide +kernel) ?_
          refine bc_lt (tgt := 63) C (by omega) (by omega) dc_M_size_51 (by decide) (fun q51 => ?_) (fun q51 => ?_)
          · refine lv_lload_n C.x C.b dc_M_size_63 rfl (lv_at hl 2 rfl) ?_
            refine lv_lload C.x C.b dc_M_size_64 (lv_at hl 0 rfl) ?_
            refine lv_ladd C.x C.b dc_M_size_66 ?_
            refine tp_l (y := lI (scn (rT ri i 0 1) (rN ri i) (ri 1 i) (k + 1))) (by rw [lI_add]; rfl) ?_
            refine lv_lstore_n (lv' := [(2, .long (lI (scn (rT ri i 0 1) (rN ri i) (ri 1 i) (k + 1)))), (5, .long (lI (cnt (rT ri i 0 1) (rN ri i) k (ri 1 i)))), (4, .int (nI k)), (1, .int (nI i)), (0, .ref (r 0))]) C.x C.b dc_M_size_67 rfl hl (by decide) rfl (fun ls hl => ?_)
            refine lv_iinc (v := nI (k + 1)) (lv' := [(4, .int (nI (k + 1))), (2, .long (lI (scn (rT ri i 0 1) (rN ri i) (ri 1 i) (k + 1)))), (5, .long (lI (cnt (rT ri i 0 1) (rN ri i) k (ri 1 i)))), (1, .int (nI i)), (0, .ref (r 0))]) C.x C.b dc_M_size_68 hl (k := 2) rfl (nI_1 k) (by decide) rfl (fun ls hl => ?_)
            refine lv_goto (tgt := 31) C.x C.b dc_M_size_71 (by decide) ?_
            have hno1 : ∀ n, 10 ≤ n → n < k + 1 → cnt (rT ri i 0 1) (rN ri i) n (ri 1 i) = 0 := fun n a b => by
              by_cases e9 : n = k
              · subst e9
                first
                | exact absurd a (by omega)
                | exact Nat.le_zero.mp ((cmp_le hc63 (by decide)).mp q58)
              · exact hno n a (by omega)
            exact ih_31 (k + 1) rl_4 _ _ _ (by omega) (by first | assumption | omega) (hno1) h (lv_sub hl [0, 1, 3, 4] rfl)
          · refine lv_lload C.x C.b dc_M_size_54 (lv_at hl 0 rfl) ?_
            refine lv_lconst (v := 0) C.x C.b dc_M_size_56 (by decide +kernel) ?_
            refine W.lcmp C.x C.b dc_M_size_57 ?_
            refine lv_if_le (tgt := 63) C.x C.b dc_M_size_58 (by decide) (fun q58 => ?_) (fun q58 => ?_)
            · refine lv_lload_n C.x C.b dc_M_size_63 rfl (lv_at hl 2 rfl) ?_
              refine lv_lload C.x C.b dc_M_size_64 (lv_at hl 0 rfl) ?_
              refine lv_ladd C.x C.b dc_M_size_66 ?_
              refine tp_l (y := lI (scn (rT ri i 0 1) (rN ri i) (ri 1 i) (k + 1))) (by rw [lI_add]; rfl) ?_
              refine lv_lstore_n (lv' := [(2, .long (lI (scn (rT ri i 0 1) (rN ri i) (ri 1 i) (k + 1)))), (5, .long (lI (cnt (rT ri i 0 1) (rN ri i) k (ri 1 i)))), (4, .int (nI k)), (1, .int (nI i)), (0, .ref (r 0))]) C.x C.b dc_M_size_67 rfl hl (by decide) rfl (fun ls hl => ?_)
              refine lv_iinc (v := nI (k + 1)) (lv' := [(4, .int (nI (k + 1))), (2, .long (lI (scn (rT ri i 0 1) (rN ri i) (ri 1 i) (k + 1)))), (5, .long (lI (cnt (rT ri i 0 1) (rN ri i) k (ri 1 i)))), (1, .int (nI i)), (0, .ref (r 0))]) C.x C.b dc_M_size_68 hl (k := 2) rfl (nI_1 k) (by decide) rfl (fun ls hl => ?_)
              refine lv_goto (tgt := 31) C.x C.b dc_M_size_71 (by decide) ?_
              have hno1 : ∀ n, 10 ≤ n → n < k + 1 → cnt (rT ri i 0 1) (rN ri i) n (ri 1 i) = 0 := fun n a b => by
                by_cases e9 : n = k
                · subst e9
                  first
                  | exact absurd a (by omega)
                  | exact Nat.le_zero.mp ((cmp_le hc63 (by decide)).mp q58)
                · exact hno n a (by omega)
              exact ih_31 (k + 1) rl_4 _ _ _ (by omega) (by first | assumption | omega) (hno1) h (lv_sub hl [0, 1, 3, 4] rfl)
            · refine lv_iconst (v := (mI 0)) C.x C.b dc_M_size_61 (by decide +kernel) ?_
              rw [hQ]
              exact rt_i C (ri_3, rl_4) h (Or.inr ⟨i, ⟨hi, rfl⟩, Or.inl ⟨⟨k, by omega, by omega, Nat.pos_of_ne_zero (fun e9 => q58 ((cmp_le (b := 0) hc63 (by decide)).mpr (by omega)))⟩, rfl⟩, ⟨by show ri_3 20 0 = 0; omega, by show ri_3 20 1 = _; omega, hss⟩⟩) dc_M_size_62
    exact lp_31 _ 0 rl _ _ _ (Nat.lt_succ_self _) (by first | assumption | omega) (hno1) h (lv_sub hl [0, 1, 3, 2] rfl)

