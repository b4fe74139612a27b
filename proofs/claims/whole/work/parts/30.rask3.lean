abbrev rm_M_has : Room := { frames := 1, cells := 0, slots := 0, locals := 23 }
set_option maxRecDepth 100000 in
set_option maxHeartbeats 4000000 in
theorem c_M_has (l : Launch) (Γ : gG) (r : Nat → Nat) (ri : Nat → Nat → Nat) (rl : Nat → Nat → Int64) (wr : va_W) (pp nn : Int32) (wd : Int64) (hS : RS ri) : cT l Γ my_M_has bc_M_has 8 (some .boolean) rm_M_has [.ref (r 0), .int pp, .int nn, .long wd] (rW Γ r ri rl wr) (S := Nat → Nat → Nat) (fun v u => (¬ (∃ i n9, i < ri 20 1 ∧ pp = nI i ∧ n9 ≤ 30 ∧ nn = nI n9 ∧ ∀ k, k < n9 → wl wd k < 3) ∧ rbad 1 ri v u) ∨ ∃ i n9, (i < ri 20 1 ∧ pp = nI i ∧ n9 ≤ 30 ∧ nn = nI n9 ∧ ∀ k, k < n9 → wl wd k < 3) ∧ v = some (.int (bI (macc (tM (rT ri i)) (ri 1 i) (wL wd n9)))) ∧ rQ 0 ri u) (fun u => rW Γ r u rl wr) := by
  refine cT.start (by decide) (Nat.le_of_ble_eq_true rfl) (fun p e s m args below meth c ls Q hQ C hmn h hl => ?_)
  replace hl : lv_has ls 8 [(0, .ref (r 0)), (1, .int pp), (2, .int nn), (3, .long wd)] := hl
  have hS80 := hS.1
  refine lv_aload_n C.x C.b dc_M_has_0 rfl (lv_at hl 0 rfl) ?_
  refine lv_iload_n C.x C.b dc_M_has_1 rfl (lv_at hl 1 rfl) ?_
  refine kv_V (As := [.int pp]) (rest := []) C h hl.1 (c_M_isSet l Γ r ri rl wr pp (by omega)) mw_M_isSet lk_M_115 (q0 := 0) rfl rfl rfl (by decide) (by decide) (Nat.le_of_ble_eq_true rfl) dc_M_has_2 (fun v u H locs hp h => ?_)
  obtain ⟨bs_1, rfl⟩ : ∃ zz9, zz9 = u := ⟨_, rfl⟩
  obtain ⟨rfl, hbs_1⟩ := hp
  replace h : sT Γ s (rW Γ r ri rl wr) _ _ := h
  refine W.eq (g2 := F0 m 5 ls [.int (bI bs_1)]) rfl ?_
  refine bb_eq (tgt := 22) C dc_M_has_5 (by decide) (fun q5 => ?_) (fun q5 => ?_)
  · refine lv_iconst (v := (nI 0)) C.x C.b dc_M_has_22 (by decide +kernel) ?_
    refine lv_istore (lv' := [(5, .int (nI 0)), (0, .ref (r 0)), (1, .int pp), (2, .int nn), (3, .long wd)]) C.x C.b dc_M_has_23 hl (by decide) rfl (fun ls hl => ?_)
    refine lv_iconst (v := (nI 0)) C.x C.b dc_M_has_25 (by decide +kernel) ?_
    refine lv_istore (lv' := [(6, .int (nI 0)), (5, .int (nI 0)), (0, .ref (r 0)), (1, .int pp), (2, .int nn), (3, .long wd)]) C.x C.b dc_M_has_26 hl (by decide) rfl (fun ls hl => ?_)
    refine lv_iload C.x C.b dc_M_has_28 (lv_at hl 1 rfl) ?_
    refine bz_eq (tgt := 69) C (by omega) dc_M_has_30 (by decide) (fun q30 => ?_) (fun q30 => absurd q30 (by decide))
    refine lv_aload_n C.x C.b dc_M_has_69 rfl (lv_at hl 2 rfl) ?_
    refine lv_iload C.x C.b dc_M_has_70 (lv_at hl 1 rfl) ?_
    refine bz_eq (tgt := 79) C (by omega) dc_M_has_72 (by decide) (fun q72 => ?_) (fun q72 => absurd q72 (by decide))
    refine lv_iconst (v := (nI 1)) C.x C.b dc_M_has_79 (by decide +kernel) ?_
    refine rg_put (ty := .int) C h 0 rfl rfl in_M tk_M nm_M 0 (by decide) fl_M_54 rfl (by decide +kernel) rfl rfl (by simp) dc_M_has_80 (fun H locs h => ?_)
    obtain ⟨ri_2, eri_2⟩ : ∃ zz9, zz9 = us ri 20 (us (ri 20) 0 1) := ⟨_, rfl⟩
    have fri_2 : ∀ zk, zk ≠ 20 → ri_2 zk = ri zk := fun zk hzk => by rw [eri_2, us_n _ _ hzk]
    have gri_2 : ri_2 20 = us (ri 20) 0 1 := by rw [eri_2, us_s]
    have xri_2 : ri_2 20 0 = 1 ∧ ri_2 20 1 = ri 20 1 ∧ ri_2 20 2 = ri 20 2 ∧ ri_2 20 3 = ri 20 3 ∧ ri_2 20 4 = ri 20 4 ∧ ri_2 20 5 = ri 20 5 ∧ ri_2 20 6 = ri 20 6 := by rw [gri_2]; exact ⟨us_s _ _ _, us_n _ _ (by decide), us_n _ _ (by decide), us_n _ _ (by decide), us_n _ _ (by decide), us_n _ _ (by decide), us_n _ _ (by decide)⟩
    replace h : sT Γ s (rW Γ r ri_2 rl wr) H locs := by rw [eri_2]; exact h
    have hss : sS ri ri_2 (ri 20 1) := sS.of (fri_2 0 (by decide)) (fri_2 1 (by decide)) (fri_2 2 (by decide)) (fri_2 3 (by decide))
    refine lv_aload_n C.x C.b dc_M_has_83 rfl (lv_at hl 2 rfl) ?_
    refine rg_get C h 0 rfl rfl in_M 0 (by decide) fl_M_54 rfl dc_M_has_84 ?_
    refine tp_i (y := nI 1) (by rw [show ri_2 20 0 = 1 by omega]) ?_
    refine bz_le (tgt := 92) C (by omega) dc_M_has_87 (by decide) (fun q87 => absurd q87 (by decide)) (fun q87 => ?_)
    refine lv_iconst (v := (nI 0)) C.x C.b dc_M_has_90 (by decide +kernel) ?_
    rw [hQ]
    exact rt_z C ri_2 h (Or.inl ⟨fun z => by first | (obtain ⟨i, n9, a, c, hb, e, hz⟩ := z; subst e; exact nI_pos (by omega) q9) | (obtain ⟨i, n9, a, c, hb, e, hz⟩ := z; subst e; exact absurd (nI_le (show n9 ≤ 30 by omega) (by decide)) (Int32.not_le.mpr q15)) | (obtain ⟨i, n9, a, c, hb, e, hz⟩ := z; rw [hbs_1.mpr ⟨i, a, c⟩] at q5; exact Bool.noConfusion q5), by omega, ⟨_, rfl⟩, by omega, hss⟩) (by decide +kernel) dc_M_has_91
  · refine lv_iload_n C.x C.b dc_M_has_8 rfl (lv_at hl 2 rfl) ?_
    refine lv_if_lt (tgt := 22) C.x C.b dc_M_has_9 (by decide) (fun q9 => ?_) (fun q9 => ?_)
    · refine lv_iconst (v := (nI 0)) C.x C.b dc_M_has_22 (by decide +kernel) ?_
      refine lv_istore (lv' := [(5, .int (nI 0)), (0, .ref (r 0)), (1, .int pp), (2, .int nn), (3, .long wd)]) C.x C.b dc_M_has_23 hl (by decide) rfl (fun ls hl => ?_)
      refine lv_iconst (v := (nI 0)) C.x C.b dc_M_has_25 (by decide +kernel) ?_
      refine lv_istore (lv' := [(6, .int (nI 0)), (5, .int (nI 0)), (0, .ref (r 0)), (1, .int pp), (2, .int nn), (3, .long wd)]) C.x C.b dc_M_has_26 hl (by decide) rfl (fun ls hl => ?_)
      refine lv_iload C.x C.b dc_M_has_28 (lv_at hl 1 rfl) ?_
      refine bz_eq (tgt := 69) C (by omega) dc_M_has_30 (by decide) (fun q30 => ?_) (fun q30 => absurd q30 (by decide))
      refine lv_aload_n C.x C.b dc_M_has_69 rfl (lv_at hl 2 rfl) ?_
      refine lv_iload C.x C.b dc_M_has_70 (lv_at hl 1 rfl) ?_
      refine bz_eq (tgt := 79) C (by omega) dc_M_has_72 (by decide) (fun q72 => ?_) (fun q72 => absurd q72 (by decide))
      refine lv_iconst (v := (nI 1)) C.x C.b dc_M_has_79 (by decide +kernel) ?_
      refine rg_put (ty := .int) C h 0 rfl rfl in_M tk_M nm_M 0 (by decide) fl_M_54 rfl (by decide +kernel) rfl rfl (by simp) dc_M_has_80 (fun H locs h => ?_)
      obtain ⟨ri_3, eri_3⟩ : ∃ zz9, zz9 = us ri 20 (us (ri 20) 0 1) := ⟨_, rfl⟩
      have fri_3 : ∀ zk, zk ≠ 20 → ri_3 zk = ri zk := fun zk hzk => by rw [eri_3, us_n _ _ hzk]
      have gri_3 : ri_3 20 = us (ri 20) 0 1 := by rw [eri_3, us_s]
      have xri_3 : ri_3 20 0 = 1 ∧ ri_3 20 1 = ri 20 1 ∧ ri_3 20 2 = ri 20 2 ∧ ri_3 20 3 = ri 20 3 ∧ ri_3 20 4 = ri 20 4 ∧ ri_3 20 5 = ri 20 5 ∧ ri_3 20 6 = ri 20 6 := by rw [gri_3]; exact ⟨us_s _ _ _, us_n _ _ (by decide), us_n _ _ (by decide), us_n _ _ (by decide), us_n _ _ (by decide), us_n _ _ (by decide), us_n _ _ (by decide)⟩
      replace h : sT Γ s (rW Γ r ri_3 rl wr) H locs := by rw [eri_3]; exact h
      have hss : sS ri ri_3 (ri 20 1) := sS.of (fri_3 0 (by decide)) (fri_3 1 (by decide)) (fri_3 2 (by decide)) (fri_3 3 (by decide))
      refine lv_aload_n C.x C.b dc_M_has_83 rfl (lv_at hl 2 rfl) ?_
      refine rg_get C h 0 rfl rfl in_M 0 (by decide) fl_M_54 rfl dc_M_has_84 ?_
      refine tp_i (y := nI 1) (by rw [show ri_3 20 0 = 1 by omega]) ?_
      refine bz_le (tgt := 92) C (by omega) dc_M_has_87 (by decide) (fun q87 => absurd q87 (by decide)) (fun q87 => ?_)
      refine lv_iconst (v := (nI 0)) C.x C.b dc_M_has_90 (by decide +kernel) ?_
      rw [hQ]
      exact rt_z C ri_3 h (Or.inl ⟨fun z => by first | (obtain ⟨i, n9, a, c, hb, e, hz⟩ := z; subst e; exact nI_pos (by omega) q9) | (obtain ⟨i, n9, a, c, hb, e, hz⟩ := z; subst e; exact absurd (nI_le (show n9 ≤ 30 by omega) (by decide)) (Int32.not_le.mpr q15)) | (obtain ⟨i, n9, a, c, hb, e, hz⟩ := z; rw [hbs_1.mpr ⟨i, a, c⟩] at q5; exact Bool.noConfusion q5), by omega, ⟨_, rfl⟩, by omega, hss⟩) (by decide +kernel) dc_M_has_91
    · refine lv_iload_n C.x C.b dc_M_has_12 rfl (lv_at hl 2 rfl) ?_
      refine lv_bipush (v := (nI 30)) C.x C.b dc_M_has_13 (by decide +kernel) ?_
      refine lv_icmp_gt (tgt := 22) C.x C.b dc_M_has_15 (by decide) (fun q15 => ?_) (fun q15 => ?_)
      · refine lv_iconst (v := (nI 0)) C.x C.b dc_M_has_22 (by decide +kernel) ?_
        refine lv_istore (lv' := [(5, .int (nI 0)), (0, .ref (r 0)), (1, .int pp), (2, .int nn), (3, .long wd)]) C.x C.b dc_M_has_23 hl (by decide) rfl (fun ls hl => ?_)
        refine lv_iconst (v := (nI 0)) C.x C.b dc_M_has_25 (by decide +kernel) ?_
        refine lv_istore (lv' := [(6, .int (nI 0)), (5, .int (nI 0)), (0, .ref (r 0)), (1, .int pp), (2, .int nn), (3, .long wd)]) C.x C.b dc_M_has_26 hl (by decide) rfl (fun ls hl => ?_)
        refine lv_iload C.x C.b dc_M_has_28 (lv_at hl 1 rfl) ?_
        refine bz_eq (tgt := 69) C (by omega) dc_M_has_30 (by decide) (fun q30 => ?_) (fun q30 => absurd q30 (by decide))
        refine lv_aload_n C.x C.b dc_M_has_69 rfl (lv_at hl 2 rfl) ?_
        refine lv_iload C.x C.b dc_M_has_70 (lv_at hl 1 rfl) ?_
        refine bz_eq (tgt := 79) C (by omega) dc_M_has_72 (by decide) (fun q72 => ?_) (fun q72 => absurd q72 (by decide))
        refine lv_iconst (v := (nI 1)) C.x C.b dc_M_has_79 (by decide +kernel) ?_
        refine rg_put (ty := .int) C h 0 rfl rfl in_M tk_M nm_M 0 (by decide) fl_M_54 rfl (by decide +kernel) rfl rfl (by simp) dc_M_has_80 (fun H locs h => ?_)
        obtain ⟨ri_4, eri_4⟩ : ∃ zz9, zz9 = us ri 20 (us (ri 20) 0 1) := ⟨_, rfl⟩
        have fri_4 : ∀ zk, zk ≠ 20 → ri_4 zk = ri zk := fun zk hzk => by rw [eri_4, us_n _ _ hzk]
        have gri_4 : ri_4 20 = us (ri 20) 0 1 := by rw [eri_4, us_s]
        have xri_4 : ri_4 20 0 = 1 ∧ ri_4 20 1 = ri 20 1 ∧ ri_4 20 2 = ri 20 2 ∧ ri_4 20 3 = ri 20 3 ∧ ri_4 20 4 = ri 20 4 ∧ ri_4 20 5 = ri 20 5 ∧ ri_4 20 6 = ri 20 6 := by rw [gri_4]; exact ⟨us_s _ _ _, us_n _ _ (by decide), us_n _ _ (by decide), us_n _ _ (by decide), us_n _ _ (by decide), us_n _ _ (by decide), us_n _ _ (by decide)⟩
        replace h : sT Γ s (rW Γ r ri_4 rl wr) H locs := by rw [eri_4]; exact h
        have hss : sS ri ri_4 (ri 20 1) := sS.of (fri_4 0 (by decide)) (fri_4 1 (by decide)) (fri_4 2 (by decide)) (fri_4 3 (by decide))
        refine lv_aload_n C.x C.b dc_M_has_83 rfl (lv_at hl 2 rfl) ?_
        refine rg_get C h 0 rfl rfl in_M 0 (by decide) fl_M_54 rfl dc_M_has_84 ?_
        refine tp_i (y := nI 1) (by rw [show ri_4 20 0 = 1 by omega]) ?_
        refine bz_le (tgt := 92) C (by omega) dc_M_has_87 (by decide) (fun q87 => absurd q87 (by decide)) (fun q87 => ?_)
        refine lv_iconst (v := (nI 0)) C.x C.b dc_M_has_90 (by decide +kernel) ?_
        rw [hQ]
        exact rt_z C ri_4 h (Or.inl ⟨fun z => by first | (obtain ⟨i, n9, a, c, hb, e, hz⟩ := z; subst e; exact nI_pos (by omega) q9) | (obtain ⟨i, n9, a, c, hb, e, hz⟩ := z; subst e; exact absurd (nI_le (show n9 ≤ 30 by omega) (by decide)) (Int32.not_le.mpr q15)) | (obtain ⟨i, n9, a, c, hb, e, hz⟩ := z; rw [hbs_1.mpr ⟨i, a, c⟩] at q5; exact Bool.noConfusion q5), by omega, ⟨_, rfl⟩, by omega, hss⟩) (by decide +kernel) dc_M_has_91
      · refine lv_iconst (v := (nI 1)) C.x C.b dc_M_has_18 (by decide +kernel) ?_
        refine lv_goto (tgt := 23) C.x C.b dc_M_has_19 (by decide) ?_
        obtain ⟨i, hi, ei⟩ := hbs_1.mp q5
        subst ei
        obtain ⟨n9, hn9, en9⟩ : ∃ n9, n9 < 31 ∧ nn = nI n9 := by
          rcases pk_ix nn (n := 31) (by decide) with z | z | z
          · exact absurd z q9
          · exact absurd (Int32.lt_of_lt_of_le (nI_lt (a := 30) (b := 31) (by decide) (by decide)) z) q15
          · exact z
        subst en9
        refine lv_istore (lv' := [(5, .int (nI 1)), (0, .ref (r 0)), (1, .int (nI i)), (2, .int (nI n9)), (3, .long wd)]) C.x C.b dc_M_has_23 hl (by decide) rfl (fun ls hl => ?_)
        refine lv_iconst (v := (nI 0)) C.x C.b dc_M_has_25 (by decide +kernel) ?_
        refine lv_istore (lv' := [(6, .int (nI 0)), (5, .int (nI 1)), (0, .ref (r 0)), (1, .int (nI i)), (2, .int (nI n9)), (3, .long wd)]) C.x C.b dc_M_has_26 hl (by decide) rfl (fun ls hl => ?_)
        have hA1 : ∀ x, x < 0 → wl wd x < 3 := fun x hx => absurd hx (Nat.not_lt_zero _)
        have lp_28 : ∀ (n_28 : Nat) (k : Nat) (H : Heap) (locs : List Loc) (ls : Array Slot), n9 - k < n_28 → (k ≤ n9) → (∀ x, x < k → wl wd x < 3) → sT Γ s (rW Γ r ri rl wr) H locs → lv_has ls 8 [(6, .int (nI k)), (5, .int (nI 1)), (1, .int (nI i)), (2, .int (nI n9)), (3, .long wd), (0, .ref (r 0))] → W p l e rm_M_has s m args below meth c H locs 0 0 Q (F0 m 28 ls []) := by
          intro n_28
          induction n_28 with
          | zero => intro k H locs ls hms; exact absurd hms (Nat.not_lt_zero _)
          | succ n_28 ih_28 =>
            intro k H locs ls hms hk hA h hl
            have hw63 : wl wd k < 2 ^ 63 := by unfold wl; omega
            refine lv_iload C.x C.b dc_M_has_28 (lv_at hl 1 rfl) ?_
            refine bz_eq (tgt := 69) C (by omega) dc_M_has_30 (by decide) (fun q30 => absurd q30 (by decide)) (fun q30 => ?_)
            refine lv_iload C.x C.b dc_M_has_33 (lv_at hl 0 rfl) ?_
            refine lv_iload_n C.x C.b dc_M_has_35 rfl (lv_at hl 3 rfl) ?_
            refine bc_ge (tgt := 69) C (by omega) (by omega) dc_M_has_36 (by decide) (fun q36 => ?_) (fun q36 => ?_)
            · refine lv_aload_n C.x C.b dc_M_has_69 rfl (lv_at hl 5 rfl) ?_
              refine lv_iload C.x C.b dc_M_has_70 (lv_at hl 1 rfl) ?_
              refine bz_eq (tgt := 79) C (by omega) dc_M_has_72 (by decide) (fun q72 => absurd q72 (by decide)) (fun q72 => ?_)
              refine lv_iconst (v := (nI 0)) C.x C.b dc_M_has_75 (by decide +kernel) ?_
              refine lv_goto (tgt := 80) C.x C.b dc_M_has_76 (by decide) ?_
              refine rg_put (ty := .int) C h 0 rfl rfl in_M tk_M nm_M 0 (by decide) fl_M_54 rfl (by decide +kernel) rfl rfl (by simp) dc_M_has_80 (fun H locs h => ?_)
              obtain ⟨ri_5, eri_5⟩ : ∃ zz9, zz9 = us ri 20 (us (ri 20) 0 0) := ⟨_, rfl⟩
              have fri_5 : ∀ zk, zk ≠ 20 → ri_5 zk = ri zk := fun zk hzk => by rw [eri_5, us_n _ _ hzk]
              have gri_5 : ri_5 20 = us (ri 20) 0 0 := by rw [eri_5, us_s]
              have xri_5 : ri_5 20 0 = 0 ∧ ri_5 20 1 = ri 20 1 ∧ ri_5 20 2 = ri 20 2 ∧ ri_5 20 3 = ri 20 3 ∧ ri_5 20 4 = ri 20 4 ∧ ri_5 20 5 = ri 20 5 ∧ ri_5 20 6 = ri 20 6 := by rw [gri_5]; exact ⟨us_s _ _ _, us_n _ _ (by decide), us_n _ _ (by decide), us_n _ _ (by decide), us_n _ _ (by decide), us_n _ _ (by decide), us_n _ _ (by decide)⟩
              replace h : sT Γ s (rW Γ r ri_5 rl wr) H locs := by rw [eri_5]; exact h
              have hss : sS ri ri_5 (ri 20 1) := sS.of (fri_5 0 (by decide)) (fri_5 1 (by decide)) (fri_5 2 (by decide)) (fri_5 3 (by decide))
              refine lv_aload_n C.x C.b dc_M_has_83 rfl (lv_at hl 5 rfl) ?_
              refine rg_get C h 0 rfl rfl in_M 0 (by decide) fl_M_54 rfl dc_M_has_84 ?_
              refine tp_i (y := nI 0) (by rw [show ri_5 20 0 = 0 by omega]) ?_
              refine bz_le (tgt := 92) C (by omega) dc_M_has_87 (by decide) (fun q87 => ?_) (fun q87 => absurd q87 (by decide))
              have hO1 : rOK ri_5 i := hss.rok hi (hS.2 _ hi).1
              have hO := (hS.2 _ hi).1
              have hi80 := hO.1
              have hi10 := hO.2.2.1
              have eT := hss.tab hi hO.2.2.1
              have eN : rN ri_5 i = rN ri i := congrFun eT 1
              have e0 := (hss _ hi).1
              have e1 := (hss _ hi).2.1
              refine lv_aload_n C.x C.b dc_M_has_92 rfl (lv_at hl 5 rfl) ?_
              refine rg_get C h 0 rfl rfl in_M 3 (by decide) fl_M_13 rfl dc_M_has_93 ?_
              refine lv_iload_n C.x C.b dc_M_has_96 rfl (lv_at hl 2 rfl) ?_
              refine rg_ild C h 2 rfl (by omega) (by decide) dc_M_has_97 ?_
              rw [e1]
              refine lv_istore (lv' := [(6, .int (nI (ri 1 i))), (5, .int (nI 1)), (1, .int (nI i)), (2, .int (nI n9)), (3, .long wd), (0, .ref (r 0))]) C.x C.b dc_M_has_98 hl (by decide) rfl (fun ls hl => ?_)
              refine lv_iconst (v := (nI 0)) C.x C.b dc_M_has_100 (by decide +kernel) ?_
              refine lv_istore (lv' := [(7, .int (nI 0)), (6, .int (nI (ri 1 i))), (5, .int (nI 1)), (1, .int (nI i)), (2, .int (nI n9)), (3, .long wd), (0, .ref (r 0))]) C.x C.b dc_M_has_101 hl (by decide) rfl (fun ls hl => ?_)
              have hat1 : mrun (tM (rT ri i)) (ri 1 i) (wL wd 0) < ri 0 i := hO.2.2.2.1
              replace hA : ∀ x, x < n9 → wl wd x < 3 := fun x hx => hA x (by omega)
              have lp_103 : ∀ (n_103 : Nat) (k : Nat) (H : Heap) (locs : List Loc) (ls : Array Slot), n9 - k < n_103 → (k ≤ n9) → (mrun (tM (rT ri i)) (ri 1 i) (wL wd k) < ri 0 i) → sT Γ s (rW Γ r ri_5 rl wr) H locs → lv_has ls 8 [(7, .int (nI k)), (6, .int (nI (mrun (tM (rT ri i)) (ri 1 i) (wL wd k)))), (1, .int (nI i)), (2, .int (nI n9)), (3, .long wd), (0, .ref (r 0))] → W p l e rm_M_has s m args below meth c H locs 0 0 Q (F0 m 103 ls []) := by
                intro n_103
                induction n_103 with
                | zero => intro k H locs ls hms; exact absurd hms (Nat.not_lt_zero _)
                | succ n_103 ih_103 =>
                  intro k H locs ls hms hk2 hat h hl
                  refine lv_iload C.x C.b dc_M_has_103 (lv_at hl 0 rfl) ?_
                  refine lv_iload_n C.x C.b dc_M_has_105 rfl (lv_at hl 3 rfl) ?_
                  refine bc_ge (tgt := 135) C (by omega) (by omega) dc_M_has_106 (by decide) (fun q106 => ?_) (fun q106 => ?_)
                  · refine lv_aload_n C.x C.b dc_M_has_135 rfl (lv_at hl 5 rfl) ?_
                    refine lv_iload_n C.x C.b dc_M_has_136 rfl (lv_at hl 2 rfl) ?_
                    refine lv_iload C.x C.b dc_M_has_137 (lv_at hl 1 rfl) ?_
                    refine kv_V (As := [.int (nI i), .int (nI (mrun (tM (rT ri i)) (ri 1 i) (wL wd k)))]) (rest := []) C h hl.1 (c_M_isEnd l Γ r ri_5 rl wr i (mrun (tM (rT ri i)) (ri 1 i) (wL wd k)) (by omega) (by omega) (by rw [show 10 * i + (mrun (tM (rT ri i)) (ri 1 i) (wL wd k)) = 10 * i + (mrun (tM (rT ri i)) (ri 1 i) (wL wd k)) from rfl, (hss _ hi).2.2.2 _ (by omega)]; exact hO.2.2.2.2.2 _ hat)) mw_M_isEnd lk_M_64 (q0 := 0) rfl rfl rfl (by decide) (by decide) (Nat.le_of_ble_eq_true rfl) dc_M_has_139 (fun v u H locs hp h => ?_)
                    obtain rfl := hp
                    replace h : sT Γ s (rW Γ r ri_5 rl wr) _ _ := h
                    refine W.eq (g2 := F0 m 142 ls [.int (bI (rEb ri_5 i (mrun (tM (rT ri i)) (ri 1 i) (wL wd k))))]) rfl ?_
                    rw [hQ]
                    exact rt_z C ri_5 h (Or.inr ⟨i, n9, ⟨hi, rfl, by omega, rfl, hA⟩, by
                      have kn : k = n9 := by omega
                      subst kn
                      have e9 := rT_bit (ri := ri) (p := i) hat
                      rw [show rEb ri_5 i = rEb ri i from by unfold rEb; rw [fri_5 3 (by decide)], ← e9]
                      rfl, by omega, by omega, hss⟩) (bI_01 _) dc_M_has_142
                  · refine lv_aload_n C.x C.b dc_M_has_109 rfl (lv_at hl 5 rfl) ?_
                    refine lv_iload_n C.x C.b dc_M_has_110 rfl (lv_at hl 2 rfl) ?_
                    refine lv_iload C.x C.b dc_M_has_111 (lv_at hl 1 rfl) ?_
                    refine lv_lload_n C.x C.b dc_M_has_113 rfl (lv_at hl 4 rfl) ?_
                    refine lv_iconst (v := (nI 2)) C.x C.b dc_M_has_114 (by decide +kernel) ?_
                    refine lv_iload C.x C.b dc_M_has_115 (lv_at hl 0 rfl) ?_
                    refine lv_imul C.x C.b dc_M_has_117 ?_
                    refine tp_i (pk_mul 2 k) ?_
                    refine lv_lshr C.x C.b dc_M_has_118 rfl ?_
                    refine lv_ldc2 C.x C.b C.o (C.t _ gw_m122) dc_M_has_119 ?_
                    refine lv_land C.x C.b dc_M_has_122 ?_
                    refine tp_l (y := lI (wl wd k)) (wl_r wd (by omega)) ?_
                    refine lv_l2i C.x C.b dc_M_has_123 (lI_i _) ?_
                    refine kv_V (As := [.int (nI i), .int (nI (mrun (tM (rT ri i)) (ri 1 i) (wL wd k))), .int (nI (wl wd k))]) (rest := []) C h hl.1 (c_M_next l Γ r ri_5 rl wr i (mrun (tM (rT ri i)) (ri 1 i) (wL wd k)) (wl wd k) (hi80) (by omega) (hA k (by omega))) mw_M_next lk_M_61 (q0 := 0) rfl rfl rfl (by decide) (by decide) (Nat.le_of_ble_eq_true rfl) dc_M_has_124 (fun v u H locs hp h => ?_)
                    obtain rfl := hp
                    replace h : sT Γ s (rW Γ r ri_5 rl wr) _ _ := h
                    refine W.eq (g2 := F0 m 127 ls [.int (nI (rN ri_5 i ((mrun (tM (rT ri i)) (ri 1 i) (wL wd k)) * 3 + (wl wd k))))]) rfl ?_
                    refine lv_istore (lv' := [(6, .int (nI (rN ri_5 i ((mrun (tM (rT ri i)) (ri 1 i) (wL wd k)) * 3 + (wl wd k))))), (7, .int (nI k)), (1, .int (nI i)), (2, .int (nI n9)), (3, .long wd), (0, .ref (r 0))]) C.x C.b dc_M_has_127 hl (by decide) rfl (fun ls hl => ?_)
                    refine lv_iinc (v := nI (k + 1)) (lv' := [(7, .int (nI (k + 1))), (6, .int (nI (rN ri_5 i ((mrun (tM (rT ri i)) (ri 1 i) (wL wd k)) * 3 + (wl wd k))))), (1, .int (nI i)), (2, .int (nI n9)), (3, .long wd), (0, .ref (r 0))]) C.x C.b dc_M_has_129 hl (k := 1) rfl (nI_1 k) (by decide) rfl (fun ls hl => ?_)
                    refine lv_goto (tgt := 103) C.x C.b dc_M_has_132 (by decide) ?_
                    rw [eN] at hl
                    have es : rN ri i ((mrun (tM (rT ri i)) (ri 1 i) (wL wd k)) * 3 + wl wd k) = mrun (tM (rT ri i)) (ri 1 i) (wL wd (k + 1)) := by rw [wL_s, mrun_snoc]; rfl
                    rw [es] at hl
                    have hat1 : mrun (tM (rT ri i)) (ri 1 i) (wL wd (k + 1)) < ri 0 i := by rw [← es]; exact hO.2.2.2.2.1 _ _ hat (hA k (by omega))
                    exact ih_103 (k + 1) _ _ _ (by omega) (by first | assumption | omega) (hat1) h (lv_sub hl [0, 1, 2, 3, 4, 5] rfl)
              exact lp_103 _ 0 _ _ _ (Nat.lt_succ_self _) (by first | assumption | omega) (hat1) h (lv_sub hl [0, 1, 3, 4, 5, 6] rfl)
            · refine lv_lload_n C.x C.b dc_M_has_39 rfl (lv_at hl 4 rfl) ?_
              refine lv_iconst (v := (nI 2)) C.x C.b dc_M_has_40 (by decide +kernel) ?_
              refine lv_iload C.x C.b dc_M_has_41 (lv_at hl 0 rfl) ?_
              refine lv_imul C.x C.b dc_M_has_43 ?_
              refine tp_i (pk_mul 2 k) ?_
              refine lv_lshr C.x C.b dc_M_has_44 rfl ?_
              refine lv_ldc2 C.x C.b C.o (C.t _ gw_m122) dc_M_has_45 ?_
              refine lv_land C.x C.b dc_M_has_48 ?_
              refine tp_l (y := lI (wl wd k)) (wl_r wd (by omega)) ?_
              refine lv_ldc2 C.x C.b C.o (C.t _ gw_m122) dc_M_has_49 ?_
              refine W.lcmp C.x C.b dc_M_has_52 ?_
              refine lv_if_ge (tgt := 60) C.x C.b dc_M_has_53 (by decide) (fun q53 => ?_) (fun q53 => ?_)
              · have hge3 : 3 ≤ wl wd k := (cmp_ge (b := 3) hw63 (by decide)).mp q53
                refine lv_iconst (v := (nI 0)) C.x C.b dc_M_has_60 (by decide +kernel) ?_
                refine lv_istore (lv' := [(5, .int (nI 0)), (6, .int (nI k)), (1, .int (nI i)), (2, .int (nI n9)), (3, .long wd), (0, .ref (r 0))]) C.x C.b dc_M_has_61 hl (by decide) rfl (fun ls hl => ?_)
                refine lv_iinc (v := nI (k + 1)) (lv' := [(6, .int (nI (k + 1))), (5, .int (nI 0)), (1, .int (nI i)), (2, .int (nI n9)), (3, .long wd), (0, .ref (r 0))]) C.x C.b dc_M_has_63 hl (k := 1) rfl (nI_1 k) (by decide) rfl (fun ls hl => ?_)
                refine lv_goto (tgt := 28) C.x C.b dc_M_has_66 (by decide) ?_
                refine lv_iload C.x C.b dc_M_has_28 (lv_at hl 1 rfl) ?_
                refine bz_eq (tgt := 69) C (by omega) dc_M_has_30 (by decide) (fun q30 => ?_) (fun q30 => absurd q30 (by decide))
                refine lv_aload_n C.x C.b dc_M_has_69 rfl (lv_at hl 5 rfl) ?_
                refine lv_iload C.x C.b dc_M_has_70 (lv_at hl 1 rfl) ?_
                refine bz_eq (tgt := 79) C (by omega) dc_M_has_72 (by decide) (fun q72 => ?_) (fun q72 => absurd q72 (by decide))
                refine lv_iconst (v := (nI 1)) C.x C.b dc_M_has_79 (by decide +kernel) ?_
                refine rg_put (ty := .int) C h 0 rfl rfl in_M tk_M nm_M 0 (by decide) fl_M_54 rfl (by decide +kernel) rfl rfl (by simp) dc_M_has_80 (fun H locs h => ?_)
                obtain ⟨ri_6, eri_6⟩ : ∃ zz9, zz9 = us ri 20 (us (ri 20) 0 1) := ⟨_, rfl⟩
                have fri_6 : ∀ zk, zk ≠ 20 → ri_6 zk = ri zk := fun zk hzk => by rw [eri_6, us_n _ _ hzk]
                have gri_6 : ri_6 20 = us (ri 20) 0 1 := by rw [eri_6, us_s]
                have xri_6 : ri_6 20 0 = 1 ∧ ri_6 20 1 = ri 20 1 ∧ ri_6 20 2 = ri 20 2 ∧ ri_6 20 3 = ri 20 3 ∧ ri_6 20 4 = ri 20 4 ∧ ri_6 20 5 = ri 20 5 ∧ ri_6 20 6 = ri 20 6 := by rw [gri_6]; exact ⟨us_s _ _ _, us_n _ _ (by decide), us_n _ _ (by decide), us_n _ _ (by decide), us_n _ _ (by decide), us_n _ _ (by decide), us_n _ _ (by decide)⟩
                replace h : sT Γ s (rW Γ r ri_6 rl wr) H locs := by rw [eri_6]; exact h
                have hss : sS ri ri_6 (ri 20 1) := sS.of (fri_6 0 (by decide)) (fri_6 1 (by decide)) (fri_6 2 (by decide)) (fri_6 3 (by decide))
                refine lv_aload_n C.x C.b dc_M_has_83 rfl (lv_at hl 5 rfl) ?_
                refine rg_get C h 0 rfl rfl in_M 0 (by decide) fl_M_54 rfl dc_M_has_84 ?_
                refine tp_i (y := nI 1) (by rw [show ri_6 20 0 = 1 by omega]) ?_
                refine bz_le (tgt := 92) C (by omega) dc_M_has_87 (by decide) (fun q87 => absurd q87 (by decide)) (fun q87 => ?_)
                refine lv_iconst (v := (nI 0)) C.x C.b dc_M_has_90 (by decide +kernel) ?_
                rw [hQ]
                exact rt_z C ri_6 h (Or.inl ⟨fun z => by obtain ⟨i2, n2, a, c, hb, e, hz⟩ := z; have e3 : n9 = n2 := (nI_eq (by omega) (by omega)).mp e; subst e3; have := hz k (by omega); omega, by omega, ⟨_, rfl⟩, by omega, hss⟩) (by decide +kernel) dc_M_has_91
              · have hlt3 : wl wd k < 3 := Nat.lt_of_not_le (fun z9 => q53 ((cmp_ge (b := 3) hw63 (by decide)).mpr z9))
                refine lv_iconst (v := (nI 1)) C.x C.b dc_M_has_56 (by decide +kernel) ?_
                refine lv_goto (tgt := 61) C.x C.b dc_M_has_57 (by decide) ?_
                refine lv_istore (lv' := [(5, .int (nI 1)), (6, .int (nI k)), (1, .int (nI i)), (2, .int (nI n9)), (3, .long wd), (0, .ref (r 0))]) C.x C.b dc_M_has_61 hl (by decide) rfl (fun ls hl => ?_)
                refine lv_iinc (v := nI (k + 1)) (lv' := [(6, .int (nI (k + 1))), (5, .int (nI 1)), (1, .int (nI i)), (2, .int (nI n9)), (3, .long wd), (0, .ref (r 0))]) C.x C.b dc_M_has_63 hl (k := 1) rfl (nI_1 k) (by decide) rfl (fun ls hl => ?_)
                refine lv_goto (tgt := 28) C.x C.b dc_M_has_66 (by decide) ?_
                have hA1 : ∀ x, x < k + 1 → wl wd x < 3 := fun x hx => by
                  by_cases e9 : x = k
                  · rw [e9]; exact hlt3
                  · exact hA x (by omega)
                exact ih_28 (k + 1) _ _ _ (by omega) (by first | assumption | omega) (hA1) h (lv_sub hl [0, 1, 2, 3, 4, 5] rfl)
        exact lp_28 _ 0 _ _ _ (Nat.lt_succ_self _) (by first | assumption | omega) (hA1) h (lv_sub hl [0, 1, 3, 4, 5, 2] rfl)

theorem bOp_ff : ∀ a b : Bool, bOp 2 a b = (a && !b) := by decide
theorem bOp_xx : ∀ a b : Bool, bOp 3 a b = (a != b) := by decide
/-- where two sets are walked side by side -/
def jD (s9 : Nat) (t : Nat → Nat → Nat) (s : Nat) (u : Nat → Nat → Nat) (r : Nat) : mM := jB (if s9 = 0 then 2 else 3) t s u r
theorem jD_ok {ri : Nat → Nat → Nat} {p q s9 : Nat} (h1 : rOK ri p) (h2 : rOK ri q) : (jD s9 (rT ri p) (ri 1 p) (rT ri q) (ri 1 q)).2.2.2 (jD s9 (rT ri p) (ri 1 p) (rT ri q) (ri 1 q)).1 ∧ (∀ c l, (jD s9 (rT ri p) (ri 1 p) (rT ri q) (ri 1 q)).2.2.2 c → l < 3 → (jD s9 (rT ri p) (ri 1 p) (rT ri q) (ri 1 q)).2.2.2 ((jD s9 (rT ri p) (ri 1 p) (rT ri q) (ri 1 q)).2.1 c l)) ∧ ∀ c, (jD s9 (rT ri p) (ri 1 p) (rT ri q) (ri 1 q)).2.2.2 c → c < 160 := by
  obtain ⟨a1, a2, a3, a4, a5, a6⟩ := h1
  obtain ⟨b1, b2, b3, b4, b5, b6⟩ := h2
  refine ⟨⟨?_, ?_⟩, fun c l (hc : c / 16 < ri 0 p ∧ c % 16 < ri 0 q) hl => ?_, fun c (hc : c / 16 < ri 0 p ∧ c % 16 < ri 0 q) => by omega⟩
  · show (16 * ri 1 p + ri 1 q) / 16 < ri 0 p; omega
  · show (16 * ri 1 p + ri 1 q) % 16 < ri 0 q; omega
  · have x := a5 _ l hc.1 hl
    have y := b5 _ l hc.2 hl
    show (16 * rN ri p (c / 16 * 3 + l) + rN ri q (c % 16 * 3 + l)) / 16 < ri 0 p ∧ (16 * rN ri p (c / 16 * 3 + l) + rN ri q (c % 16 * 3 + l)) % 16 < ri 0 q
    constructor <;> omega
theorem jD_acc {ri : Nat → Nat → Nat} {p q s9 c : Nat} (hc : c / 16 < ri 0 p ∧ c % 16 < ri 0 q) (hs : s9 ≤ 1) : (jD s9 (rT ri p) (ri 1 p) (rT ri q) (ri 1 q)).2.2.1 c = ((rEb ri p (c / 16) && !rEb ri q (c % 16)) || (decide (s9 = 1) && (rEb ri q (c % 16) && !rEb ri p (c / 16)))) := by
  show bOp (if s9 = 0 then 2 else 3) ((rT ri p 0 1).testBit (c / 16)) ((rT ri q 0 1).testBit (c % 16)) = _
  rw [rT_bit hc.1, rT_bit hc.2]
  have : s9 = 0 ∨ s9 = 1 := by omega
  rcases this with rfl | rfl
  · rw [if_pos rfl, bOp_ff]; cases rEb ri p (c / 16) <;> cases rEb ri q (c % 16) <;> rfl
  · rw [if_neg (by decide), bOp_xx]; cases rEb ri p (c / 16) <;> cases rEb ri q (c % 16) <;> rfl
abbrev rm_M_goes : Room := { frames := 1, cells := 0, slots := 0, locals := 23 }
set_option maxRecDepth 100000 in
set_option maxHeartbeats 4000000 in
theorem c_M_goes (l : Launch) (Γ : gG) (r : Nat → Nat) (ri : Nat → Nat → Nat) (rl : Nat → Nat → Int64) (wr : va_W) (p9 q9 s9 : Nat) (h1 : rOK ri p9) (h2 : rOK ri q9) (hs9 : s9 ≤ 1) : cT l Γ my_M_goes bc_M_goes 9 (some .boolean) rm_M_goes [.ref (r 0), .int (nI p9), .int (nI q9), .int (nI s9)] (rW Γ r ri rl wr) (S := Bool × (Nat → Nat → Nat)) (fun v u => v = some (.int (bI u.1)) ∧ (u.1 = true ↔ ∀ w, lts w → macc (jD s9 (rT ri p9) (ri 1 p9) (rT ri q9) (ri 1 q9)) (jD s9 (rT ri p9) (ri 1 p9) (rT ri q9) (ri 1 q9)).1 w = false) ∧ (∀ zk, zk ≠ 4 → zk ≠ 5 → zk ≠ 20 → u.2 zk = ri zk) ∧ (∀ j, j ≠ 6 → u.2 20 j = ri 20 j)) (fun u => rW Γ r u.2 rl wr) := by
  refine cT.start (by decide) (Nat.le_of_ble_eq_true rfl) (fun p e s m args below meth c ls Q hQ C hmn h hl => ?_)
  replace hl : lv_has ls 9 [(0, .ref (r 0)), (1, .int (nI p9)), (2, .int (nI q9)), (3, .int (nI s9))] := hl
  obtain ⟨a1, a2, a3, a4, a5, a6⟩ := id h1
  obtain ⟨b1, b2, b3, b4, b5, b6⟩ := id h2
  obtain ⟨ok1, ok2, ok3⟩ := jD_ok (s9 := s9) h1 h2
  refine lv_aload_n C.x C.b dc_M_goes_0 rfl (lv_at hl 0 rfl) ?_
  refine lv_iconst (v := (nI 0)) C.x C.b dc_M_goes_1 (by decide +kernel) ?_
  refine rg_put (ty := .int) C h 0 rfl rfl in_M tk_M nm_M 10 (by decide) fl_M_86 rfl (by decide +kernel) rfl rfl (by simp) dc_M_goes_2 (fun H locs h => ?_)
  obtain ⟨ri_1, eri_1⟩ : ∃ zz9, zz9 = us ri 20 (us (ri 20) 6 0) := ⟨_, rfl⟩
  have fri_1 : ∀ zk, zk ≠ 20 → ri_1 zk = ri zk := fun zk hzk => by rw [eri_1, us_n _ _ hzk]
  have gri_1 : ri_1 20 = us (ri 20) 6 0 := by rw [eri_1, us_s]
  have xri_1 : ri_1 20 0 = ri 20 0 ∧ ri_1 20 1 = ri 20 1 ∧ ri_1 20 2 = ri 20 2 ∧ ri_1 20 3 = ri 20 3 ∧ ri_1 20 4 = ri 20 4 ∧ ri_1 20 5 = ri 20 5 ∧ ri_1 20 6 = 0 := by rw [gri_1]; exact ⟨us_n _ _ (by decide), us_n _ _ (by decide), us_n _ _ (by decide), us_n _ _ (by decide), us_n _ _ (by decide), us_n _ _ (by decide), us_s _ _ _⟩
  replace h : sT Γ s (rW Γ r ri_1 rl wr) H locs := by rw [eri_1]; exact h
  have b0o : ∀ j, j ≠ 6 → ri_1 20 j = ri 20 j := fun j hj => by rw [gri_1, us_n _ _ hj]
  obtain ⟨b0, eb0⟩ : ∃ zz9, zz9 = ri_1 := ⟨_, rfl⟩
  have b0k := fri_1
  have b0s := xri_1
  rw [← eb0] at b0k b0s h
  rw [← eb0] at b0o
  refine lv_iconst (v := (nI 0)) C.x C.b dc_M_goes_5 (by decide +kernel) ?_
  refine lv_istore (lv' := [(4, .int (nI 0)), (0, .ref (r 0)), (1, .int (nI p9)), (2, .int (nI q9)), (3, .int (nI s9))]) C.x C.b dc_M_goes_6 hl (by decide) rfl (fun ls hl => ?_)
  have hz1 : ∀ zk, zk ≠ 4 → b0 zk = b0 zk := fun _ _ => rfl
  have h41 : ∀ j, j < 0 → b0 4 j = 0 := fun j hj => absurd hj (Nat.not_lt_zero _)
  have lp_8 : ∀ (n_8 : Nat) (k : Nat) (z : Nat → Nat → Nat) (H : Heap) (locs : List Loc) (ls : Array Slot), 160 - k < n_8 → (k ≤ 160) → (∀ zk, zk ≠ 4 → z zk = b0 zk) → (∀ j, j < k → z 4 j = 0) → sT Γ s (rW Γ r z rl wr) H locs → lv_has ls 9 [(4, .int (nI k)), (1, .int (nI p9)), (2, .int (nI q9)), (3, .int (nI s9)), (0, .ref (r 0))] → W p l e rm_M_goes s m args below meth c H locs 0 0 Q (F0 m 8 ls []) := by
    intro n_8
    induction n_8 with
    | zero => intro k z H locs ls hms; exact absurd hms (Nat.not_lt_zero _)
    | succ n_8 ih_8 =>
      intro k z H locs ls hms hk hz h4 h hl
      refine lv_iload C.x C.b dc_M_goes_8 (lv_at hl 0 rfl) ?_
      refine lv_sipush (v := (nI 160)) C.x C.b dc_M_goes_10 (by decide +kernel) ?_
      refine bc_ge (tgt := 30) C (by omega) (by omega) dc_M_goes_13 (by decide) (fun q13 => ?_) (fun q13 => ?_)
      · have z6 : z 20 6 = 0 := by rw [hz 20 (by decide)]; omega
        have hzk : (∀ zk, zk ≠ 4 → zk ≠ 5 → zk ≠ 20 → z zk = ri zk) ∧ (∀ j, j ≠ 6 → z 20 j = ri 20 j) := ⟨fun zk a b c => (hz zk a).trans (b0k zk c), fun j hj => by rw [hz 20 (by decide)]; exact b0o j hj⟩
        have hEz : EI (jD s9 (rT ri p9) (ri 1 p9) (rT ri q9) (ri 1 q9)) z 160 := ⟨by omega, fun i hi => absurd hi (by omega), fun c hc h0 => absurd (h4 c (by omega)) h0, fun i hi => absurd hi (by omega)⟩
        have z1 : z 1 = ri 1 := hzk.1 1 (by decide) (by decide) (by decide)
        refine lv_aload_n C.x C.b dc_M_goes_30 rfl (lv_at hl 4 rfl) ?_
        refine lv_bipush (v := (nI 16)) C.x C.b dc_M_goes_31 (by decide +kernel) ?_
        refine lv_aload_n C.x C.b dc_M_goes_33 rfl (lv_at hl 4 rfl) ?_
        refine rg_get C h 0 rfl rfl in_M 3 (by decide) fl_M_13 rfl dc_M_goes_34 ?_
        refine lv_iload_n C.x C.b dc_M_goes_37 rfl (lv_at hl 1 rfl) ?_
        refine rg_ild C h 2 rfl (by omega) (by decide) dc_M_goes_38 ?_
        refine lv_imul C.x C.b dc_M_goes_39 ?_
        refine tp_i (pk_mul 16 (z 1 p9)) ?_
        refine lv_aload_n C.x C.b dc_M_goes_40 rfl (lv_at hl 4 rfl) ?_
        refine rg_get C h 0 rfl rfl in_M 3 (by decide) fl_M_13 rfl dc_M_goes_41 ?_
        refine lv_iload_n C.x C.b dc_M_goes_44 rfl (lv_at hl 2 rfl) ?_
        refine rg_ild C h 2 rfl (by omega) (by decide) dc_M_goes_45 ?_
        refine lv_iadd C.x C.b dc_M_goes_46 ?_
        refine tp_i (nI_add (16 * (z 1 p9)) (z 1 q9)) ?_
        rw [z1]
        refine kv_V (As := [.int (nI (16 * ri 1 p9 + ri 1 q9))]) (rest := []) C h hl.1 (c_M_come l Γ r z rl wr (jD s9 (rT ri p9) (ri 1 p9) (rT ri q9) (ri 1 q9)) 160 (16 * ri 1 p9 + ri 1 q9) (by decide) ok3 hEz ok1 ⟨[], lts_nil, rfl⟩) mw_M_come lk_M_100 (q0 := 0) rfl rfl rfl (by decide) (by decide) (Nat.le_of_ble_eq_true rfl) dc_M_goes_47 (fun v u H locs hp h => ?_)
        obtain ⟨⟨jc_3, ri_2⟩, rfl⟩ : ∃ zz9, zz9 = u := ⟨_, rfl⟩
        obtain ⟨rfl, cE_ri_2, cX_ri_2, cl_ri_2, ce_ri_2, cz_ri_2⟩ := hp
        dsimp only at cE_ri_2 cX_ri_2 cl_ri_2 ce_ri_2 cz_ri_2
        replace h : sT Γ s (rW Γ r ri_2 rl wr) _ _ := h
        refine W.eq (g2 := F0 m 50 ls [.int (nI jc_3)]) rfl ?_
        refine lv_istore (lv' := [(4, .int (nI jc_3)), (1, .int (nI p9)), (2, .int (nI q9)), (3, .int (nI s9)), (0, .ref (r 0))]) C.x C.b dc_M_goes_50 hl (by decide) rfl (fun ls hl => ?_)
        refine lv_iconst (v := (nI 0)) C.x C.b dc_M_goes_52 (by decide +kernel) ?_
        refine lv_istore (lv' := [(5, .int (nI 0)), (4, .int (nI jc_3)), (1, .int (nI p9)), (2, .int (nI q9)), (3, .int (nI s9)), (0, .ref (r 0))]) C.x C.b dc_M_goes_53 hl (by decide) rfl (fun ls hl => ?_)
        have hE1 := cE_ri_2
        have hy1 : (∀ zk, zk ≠ 4 → zk ≠ 5 → zk ≠ 20 → ri_2 zk = ri zk) ∧ (∀ j, j ≠ 6 → ri_2 20 j = ri 20 j) := ⟨fun zk a b c => (cX_ri_2.1 zk a b c).trans (hzk.1 zk a b c), fun j9 hj9 => (cX_ri_2.2.1 j9 hj9).trans (hzk.2 j9 hj9)⟩
        have hj0 : jc_3 = 0 := cz_ri_2 z6
        have hy01 : 1 ≤ ri_2 20 6 ∧ ri_2 5 0 = 16 * ri 1 p9 + ri 1 q9 := ⟨by omega, by rw [← hj0]; exact ce_ri_2⟩
        have hV1 : ∀ x, x < 0 → (jD s9 (rT ri p9) (ri 1 p9) (rT ri q9) (ri 1 q9)).2.2.1 (ri_2 5 x) = false ∧ ∀ l, l < 3 → ∃ j, j < ri_2 20 6 ∧ ri_2 5 j = (jD s9 (rT ri p9) (ri 1 p9) (rT ri q9) (ri 1 q9)).2.1 (ri_2 5 x) l := fun x hx => absurd hx (Nat.not_lt_zero _)
        have lp_55 : ∀ (n_55 : Nat) (i9 : Nat) (y : Nat → Nat → Nat) (H : Heap) (locs : List Loc) (ls : Array Slot), 160 - i9 < n_55 → (i9 ≤ y 20 6) → (EI (jD s9 (rT ri p9) (ri 1 p9) (rT ri q9) (ri 1 q9)) y 160) → ((∀ zk, zk ≠ 4 → zk ≠ 5 → zk ≠ 20 → y zk = ri zk) ∧ (∀ j, j ≠ 6 → y 20 j = ri 20 j)) → (1 ≤ y 20 6 ∧ y 5 0 = 16 * ri 1 p9 + ri 1 q9) → (∀ x, x < i9 → (jD s9 (rT ri p9) (ri 1 p9) (rT ri q9) (ri 1 q9)).2.2.1 (y 5 x) = false ∧ ∀ l, l < 3 → ∃ j, j < y 20 6 ∧ y 5 j = (jD s9 (rT ri p9) (ri 1 p9) (rT ri q9) (ri 1 q9)).2.1 (y 5 x) l) → sT Γ s (rW Γ r y rl wr) H locs → lv_has ls 9 [(5, .int (nI i9)), (1, .int (nI p9)), (2, .int (nI q9)), (3, .int (nI s9)), (0, .ref (r 0))] → W p l e rm_M_goes s m args below meth c H locs 0 0 Q (F0 m 55 ls []) := by
          intro n_55
          induction n_55 with
          | zero => intro i9 y H locs ls hms; exact absurd hms (Nat.not_lt_zero _)
          | succ n_55 ih_55 =>
            intro i9 y H locs ls hms hi9 hE hy hy0 hV h hl
            have hEc := hE.1
            have y3 : y 3 = ri 3 := hy.1 3 (by decide) (by decide) (by decide)
            have yN : ∀ p, rN y p = rN ri p := fun p => by unfold rN; rw [hy.1 2 (by decide) (by decide) (by decide)]
            have yE : ∀ p, rEb y p = rEb ri p := fun p => by unfold rEb; rw [y3]
            refine lv_iload C.x C.b dc_M_goes_55 (lv_at hl 0 rfl) ?_
            refine lv_aload_n C.x C.b dc_M_goes_57 rfl (lv_at hl 4 rfl) ?_
            refine rg_get C h 0 rfl rfl in_M 10 (by decide) fl_M_86 rfl dc_M_goes_58 ?_
            refine bc_ge (tgt := 182) C (by omega) (by omega) dc_M_goes_61 (by decide) (fun q61 => ?_) (fun q61 => ?_)
            · refine lv_iconst (v := (nI 1)) C.x C.b dc_M_goes_182 (by decide +kernel) ?_
              rw [hQ]
              exact rt_z C (true, y) h (⟨rb_t rfl, ⟨fun _ w hw => by
                have z9 := none_codes (co := y 5) (n := y 20 6) (fun x hx => hV x (by omega)) w 0 (by omega) hw
                rw [hy0.2] at z9
                exact z9, fun _ => rfl⟩, hy⟩) (by decide +kernel) dc_M_goes_183
            · have hvi : y 5 i9 / 16 < ri 0 p9 ∧ y 5 i9 % 16 < ri 0 q9 := (hE.2.1 i9 (by omega)).1
              have hja := jD_acc (s9 := s9) hvi hs9
              have hv160 : y 5 i9 < 160 := by omega
              refine lv_aload_n C.x C.b dc_M_goes_64 rfl (lv_at hl 4 rfl) ?_
              refine rg_get C h 0 rfl rfl in_M 12 (by decide) fl_M_26 rfl dc_M_goes_65 ?_
              refine lv_iload C.x C.b dc_M_goes_68 (lv_at hl 0 rfl) ?_
              refine rg_ild C h 6 rfl (by omega) (by decide) dc_M_goes_70 ?_
              refine lv_iconst (v := (nI 4)) C.x C.b dc_M_goes_71 (by decide +kernel) ?_
              refine lv_ishr C.x C.b dc_M_goes_72 ?_
              refine tp_i (y := (nI (y 5 i9 / 16))) (nI_shr (a := y 5 i9) (n := 4) (by omega) (by decide)) ?_
              refine lv_istore (lv' := [(6, .int (nI (y 5 i9 / 16))), (5, .int (nI i9)), (1, .int (nI p9)), (2, .int (nI q9)), (3, .int (nI s9)), (0, .ref (r 0))]) C.x C.b dc_M_goes_73 hl (by decide) rfl (fun ls hl => ?_)
              refine lv_aload_n C.x C.b dc_M_goes_75 rfl (lv_at hl 5 rfl) ?_
              refine rg_get C h 0 rfl rfl in_M 12 (by decide) fl_M_26 rfl dc_M_goes_76 ?_
              refine lv_iload C.x C.b dc_M_goes_79 (lv_at hl 1 rfl) ?_
              refine rg_ild C h 6 rfl (by omega) (by decide) dc_M_goes_81 ?_
              refine lv_bipush (v := (nI 15)) C.x C.b dc_M_goes_82 (by decide +kernel) ?_
              refine lv_iand C.x C.b dc_M_goes_84 ?_
              refine tp_i (y := (nI (y 5 i9 % 16))) (and_f (y 5 i9)) ?_
              refine lv_istore (lv' := [(7, .int (nI (y 5 i9 % 16))), (6, .int (nI (y 5 i9 / 16))), (5, .int (nI i9)), (1, .int (nI p9)), (2, .int (nI q9)), (3, .int (nI s9)), (0, .ref (r 0))]) C.x C.b dc_M_goes_85 hl (by decide) rfl (fun ls hl => ?_)
              have jn_133 : ∀  (H : Heap) (locs : List Loc) (ls : Array Slot), ((jD s9 (rT ri p9) (ri 1 p9) (rT ri q9) (ri 1 q9)).2.2.1 (y 5 i9) = false) → sT Γ s (rW Γ r y rl wr) H locs → lv_has ls 9 [(5, .int (nI i9)), (6, .int (nI (y 5 i9 / 16))), (7, .int (nI (y 5 i9 % 16))), (1, .int (nI p9)), (2, .int (nI q9)), (3, .int (nI s9)), (0, .ref (r 0))] → W p l e rm_M_goes s m args below meth c H locs 0 0 Q (F0 m 133 ls []) := by
                intro  H locs ls hacc h hl
                refine lv_iconst (v := (nI 0)) C.x C.b dc_M_goes_133 (by decide +kernel) ?_
                refine lv_istore (lv' := [(8, .int (nI 0)), (5, .int (nI i9)), (6, .int (nI (y 5 i9 / 16))), (7, .int (nI (y 5 i9 % 16))), (1, .int (nI p9)), (2, .int (nI q9)), (3, .int (nI s9)), (0, .ref (r 0))]) C.x C.b dc_M_goes_134 hl (by decide) rfl (fun ls hl => ?_)
                obtain ⟨c0, hc0⟩ : ∃ zz9, zz9 = y 5 i9 := ⟨_, rfl⟩
                rw [← hc0] at hl hvi hja hv160
                have hE1 := hE
                have hy1 := hy
                have hy01 := hy0
                have hV1 := hV
                have hacc1 := hacc
                have hiy1 : i9 < y 20 6 := by omega
                have hcd1 : y 5 i9 = c0 := hc0.symm
                have hP1 : ∀ l, l < 0 → ∃ j, j < y 20 6 ∧ y 5 j = (jD s9 (rT ri p9) (ri 1 p9) (rT ri q9) (ri 1 q9)).2.1 (y 5 i9) l := fun l hl => absurd hl (Nat.not_lt_zero _)
                have lp_136 : ∀ (n_136 : Nat) (q : Nat) (y : Nat → Nat → Nat) (H : Heap) (locs : List Loc) (ls : Array Slot), 3 - q < n_136 → (q ≤ 3) → (i9 < y 20 6) → (EI (jD s9 (rT ri p9) (ri 1 p9) (rT ri q9) (ri 1 q9)) y 160) → ((∀ zk, zk ≠ 4 → zk ≠ 5 → zk ≠ 20 → y zk = ri zk) ∧ (∀ j, j ≠ 6 → y 20 j = ri 20 j)) → (1 ≤ y 20 6 ∧ y 5 0 = 16 * ri 1 p9 + ri 1 q9) → (∀ x, x < i9 → (jD s9 (rT ri p9) (ri 1 p9) (rT ri q9) (ri 1 q9)).2.2.1 (y 5 x) = false ∧ ∀ l, l < 3 → ∃ j, j < y 20 6 ∧ y 5 j = (jD s9 (rT ri p9) (ri 1 p9) (rT ri q9) (ri 1 q9)).2.1 (y 5 x) l) → ((jD s9 (rT ri p9) (ri 1 p9) (rT ri q9) (ri 1 q9)).2.2.1 (y 5 i9) = false) → (y 5 i9 = c0) → (∀ l, l < q → ∃ j, j < y 20 6 ∧ y 5 j = (jD s9 (rT ri p9) (ri 1 p9) (rT ri q9) (ri 1 q9)).2.1 (y 5 i9) l) → sT Γ s (rW Γ r y rl wr) H locs → lv_has ls 9 [(8, .int (nI q)), (5, .int (nI i9)), (6, .int (nI (c0 / 16))), (7, .int (nI (c0 % 16))), (1, .int (nI p9)), (2, .int (nI q9)), (3, .int (nI s9)), (0, .ref (r 0))] → W p l e rm_M_goes s m args below meth c H locs 0 0 Q (F0 m 136 ls []) := by
                  intro n_136
                  induction n_136 with
                  | zero => intro q y H locs ls hms; exact absurd hms (Nat.not_lt_zero _)
                  | succ n_136 ih_136 =>
                    intro q y H locs ls hms hq hiy hE hy hy0 hV hacc hcd hP h hl
                    have hEc := hE.1
                    have y3 : y 3 = ri 3 := hy.1 3 (by decide) (by decide) (by decide)
                    have yN : ∀ p, rN y p = rN ri p := fun p => by unfold rN; rw [hy.1 2 (by decide) (by decide) (by decide)]
                    have yE : ∀ p, rEb y p = rEb ri p := fun p => by unfold rEb; rw [y3]
                    refine lv_iload C.x C.b dc_M_goes_136 (lv_at hl 0 rfl) ?_
                    refine lv_iconst (v := (nI 3)) C.x C.b dc_M_goes_138 (by decide +kernel) ?_
                    refine bc_ge (tgt := 176) C (by omega) (by omega) dc_M_goes_139 (by decide) (fun q139 => ?_) (fun q139 => ?_)
                    · refine lv_iinc (v := nI (i9 + 1)) (lv' := [(5, .int (nI (i9 + 1))), (8, .int (nI q)), (6, .int (nI (c0 / 16))), (7, .int (nI (c0 % 16))), (1, .int (nI p9)), (2, .int (nI q9)), (3, .int (nI s9)), (0, .ref (r 0))]) C.x C.b dc_M_goes_176 hl (k := 1) rfl (nI_1 i9) (by decide) rfl (fun ls hl => ?_)
                      refine lv_goto (tgt := 55) C.x C.b dc_M_goes_179 (by decide) ?_
                      have hE1 := hE
                      have hy1 := hy
                      have hy01 := hy0
                      have q3 : q = 3 := by omega
                      have hV1 : ∀ x, x < (i9 + 1) → (jD s9 (rT ri p9) (ri 1 p9) (rT ri q9) (ri 1 q9)).2.2.1 (y 5 x) = false ∧ ∀ l, l < 3 → ∃ j, j < y 20 6 ∧ y 5 j = (jD s9 (rT ri p9) (ri 1 p9) (rT ri q9) (ri 1 q9)).2.1 (y 5 x) l := fun x hx => by
                        by_cases e9 : x = i9
                        · subst e9; exact ⟨hacc, fun l hl => hP l (by omega)⟩
                        · exact hV x (by omega)
                      exact ih_55 (i9 + 1) y _ _ _ (by omega) (by omega) (hE1) (hy1) (hy01) (hV1) h (lv_sub hl [0, 4, 5, 6, 7] rfl)
                    · refine lv_aload_n C.x C.b dc_M_goes_142 rfl (lv_at hl 7 rfl) ?_
                      refine lv_bipush (v := (nI 16)) C.x C.b dc_M_goes_143 (by decide +kernel) ?_
                      refine lv_aload_n C.x C.b dc_M_goes_145 rfl (lv_at hl 7 rfl) ?_
                      refine lv_iload_n C.x C.b dc_M_goes_146 rfl (lv_at hl 4 rfl) ?_
                      refine lv_iload C.x C.b dc_M_goes_147 (lv_at hl 2 rfl) ?_
                      refine lv_iload C.x C.b dc_M_goes_149 (lv_at hl 0 rfl) ?_
                      refine kv_V (As := [.int (nI p9), .int (nI (c0 / 16)), .int (nI q)]) (rest := [.int (nI 16), .ref (r 0)]) C h hl.1 (c_M_next l Γ r y rl wr p9 (c0 / 16) q (by omega) (by omega) (by omega)) mw_M_next lk_M_61 (q0 := 0) rfl rfl rfl (by decide) (by decide) (Nat.le_of_ble_eq_true rfl) dc_M_goes_151 (fun v u H locs hp h => ?_)
                      obtain rfl := hp
                      replace h : sT Γ s (rW Γ r y rl wr) _ _ := h
                      refine W.eq (g2 := F0 m 154 ls [.int (nI (rN y p9 ((c0 / 16) * 3 + q))), .int (nI 16), .ref (r 0)]) rfl ?_
                      refine lv_imul C.x C.b dc_M_goes_154 ?_
                      refine tp_i (pk_mul 16 (rN y p9 ((c0 / 16) * 3 + q))) ?_
                      refine lv_aload_n C.x C.b dc_M_goes_155 rfl (lv_at hl 7 rfl) ?_
                      refine lv_iload_n C.x C.b dc_M_goes_156 rfl (lv_at hl 5 rfl) ?_
                      refine lv_iload C.x C.b dc_M_goes_157 (lv_at hl 3 rfl) ?_
                      refine lv_iload C.x C.b dc_M_goes_159 (lv_at hl 0 rfl) ?_
                      refine kv_V (As := [.int (nI q9), .int (nI (c0 % 16)), .int (nI q)]) (rest := [.int (nI (16 * (rN y p9 ((c0 / 16) * 3 + q)))), .ref (r 0)]) C h hl.1 (c_M_next l Γ r y rl wr q9 (c0 % 16) q (by omega) (by omega) (by omega)) mw_M_next lk_M_61 (q0 := 0) rfl rfl rfl (by decide) (by decide) (Nat.le_of_ble_eq_true rfl) dc_M_goes_161 (fun v u H locs hp h => ?_)
                      obtain rfl := hp
                      replace h : sT Γ s (rW Γ r y rl wr) _ _ := h
                      refine W.eq (g2 := F0 m 164 ls [.int (nI (rN y q9 ((c0 % 16) * 3 + q))), .int (nI (16 * (rN y p9 ((c0 / 16) * 3 + q)))), .ref (r 0)]) rfl ?_
                      refine lv_iadd C.x C.b dc_M_goes_164 ?_
                      refine tp_i (nI_add (16 * (rN y p9 ((c0 / 16) * 3 + q))) (rN y q9 ((c0 % 16) * 3 + q))) ?_
                      refine kv_V (As := [.int (nI ((16 * (rN y p9 ((c0 / 16) * 3 + q))) + (rN y q9 ((c0 % 16) * 3 + q))))]) (rest := []) C h hl.1 (c_M_come l Γ r y rl wr (jD s9 (rT ri p9) (ri 1 p9) (rT ri q9) (ri 1 q9)) 160 ((16 * (rN y p9 ((c0 / 16) * 3 + q))) + (rN y q9 ((c0 % 16) * 3 + q))) (by decide) ok3 hE (by rw [yN, yN]; exact ok2 c0 q hvi (by omega)) (by obtain ⟨w, w1, w2⟩ := hE.2.2.2 i9 hiy; exact ⟨w ++ [q], lts_app w1 (lts_cons (by omega) lts_nil), by rw [mrun_snoc, w2, hcd, yN, yN]; rfl⟩)) mw_M_come lk_M_100 (q0 := 0) rfl rfl rfl (by decide) (by decide) (Nat.le_of_ble_eq_true rfl) dc_M_goes_165 (fun v u H locs hp h => ?_)
                      obtain ⟨⟨jc_5, ri_4⟩, rfl⟩ : ∃ zz9, zz9 = u := ⟨_, rfl⟩
                      obtain ⟨rfl, cE_ri_4, cX_ri_4, cl_ri_4, ce_ri_4, cz_ri_4⟩ := hp
                      dsimp only at cE_ri_4 cX_ri_4 cl_ri_4 ce_ri_4 cz_ri_4
                      replace h : sT Γ s (rW Γ r ri_4 rl wr) _ _ := h
                      refine W.eq (g2 := F0 m 168 ls [.int (nI jc_5)]) rfl ?_
                      refine lv_istore (lv' := [(4, .int (nI jc_5)), (8, .int (nI q)), (5, .int (nI i9)), (6, .int (nI (c0 / 16))), (7, .int (nI (c0 % 16))), (1, .int (nI p9)), (2, .int (nI q9)), (3, .int (nI s9)), (0, .ref (r 0))]) C.x C.b dc_M_goes_168 hl (by decide) rfl (fun ls hl => ?_)
                      refine lv_iinc (v := nI (q + 1)) (lv' := [(8, .int (nI (q + 1))), (4, .int (nI jc_5)), (5, .int (nI i9)), (6, .int (nI (c0 / 16))), (7, .int (nI (c0 % 16))), (1, .int (nI p9)), (2, .int (nI q9)), (3, .int (nI s9)), (0, .ref (r 0))]) C.x C.b dc_M_goes_170 hl (k := 1) rfl (nI_1 q) (by decide) rfl (fun ls hl => ?_)
                      refine lv_goto (tgt := 136) C.x C.b dc_M_goes_173 (by decide) ?_
                      have hE1 := cE_ri_4
                      have hy1 : (∀ zk, zk ≠ 4 → zk ≠ 5 → zk ≠ 20 → ri_4 zk = ri zk) ∧ (∀ j, j ≠ 6 → ri_4 20 j = ri 20 j) := ⟨fun zk a b c => (cX_ri_4.1 zk a b c).trans (hy.1 zk a b c), fun j9 hj9 => (cX_ri_4.2.1 j9 hj9).trans (hy.2 j9 hj9)⟩
                      have cge := cX_ri_4.2.2.1
                      have c5 := cX_ri_4.2.2.2
                      have hy01 : 1 ≤ ri_4 20 6 ∧ ri_4 5 0 = 16 * ri 1 p9 + ri 1 q9 := ⟨by omega, by rw [c5 0 (by omega)]; exact hy0.2⟩
                      have hiy1 : i9 < ri_4 20 6 := by omega
                      have c5i := c5 i9 hiy
                      have hV1 : ∀ x, x < i9 → (jD s9 (rT ri p9) (ri 1 p9) (rT ri q9) (ri 1 q9)).2.2.1 (ri_4 5 x) = false ∧ ∀ l, l < 3 → ∃ j, j < ri_4 20 6 ∧ ri_4 5 j = (jD s9 (rT ri p9) (ri 1 p9) (rT ri q9) (ri 1 q9)).2.1 (ri_4 5 x) l := fun x hx => by
                        rw [c5 x (by omega)]
                        exact ⟨(hV x hx).1, fun l hl => by
                          obtain ⟨j, j1, j2⟩ := (hV x hx).2 l hl
                          exact ⟨j, by omega, by rw [c5 j j1]; exact j2⟩⟩
                      have hacc1 : (jD s9 (rT ri p9) (ri 1 p9) (rT ri q9) (ri 1 q9)).2.2.1 (ri_4 5 i9) = false := by rw [c5i]; exact hacc
                      have hcd1 : ri_4 5 i9 = c0 := by rw [c5i]; exact hcd
                      have hP1 : ∀ l, l < q + 1 → ∃ j, j < ri_4 20 6 ∧ ri_4 5 j = (jD s9 (rT ri p9) (ri 1 p9) (rT ri q9) (ri 1 q9)).2.1 (ri_4 5 i9) l := fun l hl => by
                        rw [c5i]
                        by_cases e9 : l = q
                        · exact ⟨jc_5, cl_ri_4, by rw [e9, ce_ri_4, hcd, yN, yN]; rfl⟩
                        · obtain ⟨j, j1, j2⟩ := hP l (by omega)
                          exact ⟨j, by omega, by rw [c5 j j1]; exact j2⟩
                      exact ih_136 (q + 1) ri_4 _ _ _ (by omega) (by first | assumption | omega) (hiy1) (hE1) (hy1) (hy01) (hV1) (hacc1) (hcd1) (hP1) h (lv_sub hl [0, 2, 3, 4, 5, 6, 7, 8] rfl)
                exact lp_136 _ 0 y _ _ _ (Nat.lt_succ_self _) (by first | assumption | omega) (hiy1) (hE1) (hy1) (hy01) (hV1) (hacc1) (hcd1) (hP1) h (lv_sub hl [0, 1, 2, 3, 4, 5, 6, 7] rfl)
              refine lv_aload_n C.x C.b dc_M_goes_87 rfl (lv_at hl 6 rfl) ?_
              refine lv_iload_n C.x C.b dc_M_goes_88 rfl (lv_at hl 3 rfl) ?_
              refine lv_iload C.x C.b dc_M_goes_89 (lv_at hl 1 rfl) ?_
              refine kv_V (As := [.int (nI p9), .int (nI (y 5 i9 / 16))]) (rest := []) C h hl.1 (c_M_isEnd l Γ r y rl wr p9 (y 5 i9 / 16) (by omega) (by omega) (by rw [y3]; exact a6 _ hvi.1)) mw_M_isEnd lk_M_64 (q0 := 0) rfl rfl rfl (by decide) (by decide) (Nat.le_of_ble_eq_true rfl) dc_M_goes_91 (fun v u H locs hp h => ?_)
              obtain rfl := hp
              replace h : sT Γ s (rW Γ r y rl wr) _ _ := h
              refine W.eq (g2 := F0 m 94 ls [.int (bI (rEb y p9 (y 5 i9 / 16)))]) rfl ?_
              refine bb_eq (tgt := 107) C dc_M_goes_94 (by decide) (fun q94 => ?_) (fun q94 => ?_)
              · refine lv_iload_n C.x C.b dc_M_goes_107 rfl (lv_at hl 5 rfl) ?_
                refine bz_eq (tgt := 133) C (by omega) dc_M_goes_108 (by decide) (fun q108 => ?_) (fun q108 => ?_)
                · have hacc : (jD s9 (rT ri p9) (ri 1 p9) (rT ri q9) (ri 1 q9)).2.2.1 (y 5 i9) = false := by
                    rw [hja, ← yE p9, ← yE q9]
                    first | (simp [q94, q104]; done) | (simp [q94, q108]; done) | (simp [q94, q118]; done) | (simp [q118, q128]; done)
                  exact jn_133  _ _ _ (by first | assumption | omega) h (lv_sub hl [2, 1, 0, 3, 4, 5, 6] rfl)
                · refine lv_aload_n C.x C.b dc_M_goes_111 rfl (lv_at hl 6 rfl) ?_
                  refine lv_iload_n C.x C.b dc_M_goes_112 rfl (lv_at hl 4 rfl) ?_
                  refine lv_iload C.x C.b dc_M_goes_113 (lv_at hl 0 rfl) ?_
                  refine kv_V (As := [.int (nI q9), .int (nI (y 5 i9 % 16))]) (rest := []) C h hl.1 (c_M_isEnd l Γ r y rl wr q9 (y 5 i9 % 16) (by omega) (by omega) (by rw [y3]; exact b6 _ hvi.2)) mw_M_isEnd lk_M_64 (q0 := 0) rfl rfl rfl (by decide) (by decide) (Nat.le_of_ble_eq_true rfl) dc_M_goes_115 (fun v u H locs hp h => ?_)
                  obtain rfl := hp
                  replace h : sT Γ s (rW Γ r y rl wr) _ _ := h
                  refine W.eq (g2 := F0 m 118 ls [.int (bI (rEb y q9 (y 5 i9 % 16)))]) rfl ?_
                  refine bb_eq (tgt := 133) C dc_M_goes_118 (by decide) (fun q118 => ?_) (fun q118 => ?_)
                  · have hacc : (jD s9 (rT ri p9) (ri 1 p9) (rT ri q9) (ri 1 q9)).2.2.1 (y 5 i9) = false := by
                      rw [hja, ← yE p9, ← yE q9]
                      first | (simp [q94, q104]; done) | (simp [q94, q108]; done) | (simp [q94, q118]; done) | (simp [q118, q128]; done)
                    exact jn_133  _ _ _ (by first | assumption | omega) h (lv_sub hl [2, 1, 0, 3, 4, 5, 6] rfl)
                  · refine lv_aload_n C.x C.b dc_M_goes_121 rfl (lv_at hl 6 rfl) ?_
                    refine lv_iload_n C.x C.b dc_M_goes_122 rfl (lv_at hl 3 rfl) ?_
                    refine lv_iload C.x C.b dc_M_goes_123 (lv_at hl 1 rfl) ?_
                    refine kv_V (As := [.int (nI p9), .int (nI (y 5 i9 / 16))]) (rest := []) C h hl.1 (c_M_isEnd l Γ r y rl wr p9 (y 5 i9 / 16) (by omega) (by omega) (by rw [y3]; exact a6 _ hvi.1)) mw_M_isEnd lk_M_64 (q0 := 0) rfl rfl rfl (by decide) (by decide) (Nat.le_of_ble_eq_true rfl) dc_M_goes_125 (fun v u H locs hp h => ?_)
                    obtain rfl := hp
                    replace h : sT Γ s (rW Γ r y rl wr) _ _ := h
                    refine W.eq (g2 := F0 m 128 ls [.int (bI (rEb y p9 (y 5 i9 / 16)))]) rfl ?_
                    refine bb_ne (tgt := 133) C dc_M_goes_128 (by decide) (fun q128 => ?_) (fun q128 => ?_)
                    · have hacc : (jD s9 (rT ri p9) (ri 1 p9) (rT ri q9) (ri 1 q9)).2.2.1 (y 5 i9) = false := by
                        rw [hja, ← yE p9, ← yE q9]
                        first | (simp [q94, q104]; done) | (simp [q94, q108]; done) | (simp [q94, q118]; done) | (simp [q118, q128]; done)
                      exact jn_133  _ _ _ (by first | assumption | omega) h (lv_sub hl [2, 1, 0, 3, 4, 5, 6] rfl)
                    · have s1 : s9 = 1 := by omega
                      refine lv_iconst (v := (nI 0)) C.x C.b dc_M_goes_131 (by decide +kernel) ?_
                      have hacc : (jD s9 (rT ri p9) (ri 1 p9) (rT ri q9) (ri 1 q9)).2.2.1 (y 5 i9) = true := by rw [hja, ← yE p9, ← yE q9]; simp [q118, q128, s1]
                      rw [hQ]
                      exact rt_z C (false, y) h (⟨rb_f rfl, ⟨fun z9 => (by cases z9), fun z9 => by
                        obtain ⟨w, w1, w2⟩ := hE.2.2.2 i9 (by omega)
                        have z8 := z9 w w1
                        unfold macc at z8
                        rw [w2, hacc] at z8
                        cases z8⟩, hy⟩) (by decide +kernel) dc_M_goes_132
              · refine lv_aload_n C.x C.b dc_M_goes_97 rfl (lv_at hl 6 rfl) ?_
                refine lv_iload_n C.x C.b dc_M_goes_98 rfl (lv_at hl 4 rfl) ?_
                refine lv_iload C.x C.b dc_M_goes_99 (lv_at hl 0 rfl) ?_
                refine kv_V (As := [.int (nI q9), .int (nI (y 5 i9 % 16))]) (rest := []) C h hl.1 (c_M_isEnd l Γ r y rl wr q9 (y 5 i9 % 16) (by omega) (by omega) (by rw [y3]; exact b6 _ hvi.2)) mw_M_isEnd lk_M_64 (q0 := 0) rfl rfl rfl (by decide) (by decide) (Nat.le_of_ble_eq_true rfl) dc_M_goes_101 (fun v u H locs hp h => ?_)
                obtain rfl := hp
                replace h : sT Γ s (rW Γ r y rl wr) _ _ := h
                refine W.eq (g2 := F0 m 104 ls [.int (bI (rEb y q9 (y 5 i9 % 16)))]) rfl ?_
                refine bb_eq (tgt := 131) C dc_M_goes_104 (by decide) (fun q104 => ?_) (fun q104 => ?_)
                · refine lv_iconst (v := (nI 0)) C.x C.b dc_M_goes_131 (by decide +kernel) ?_
                  have hacc : (jD s9 (rT ri p9) (ri 1 p9) (rT ri q9) (ri 1 q9)).2.2.1 (y 5 i9) = true := by rw [hja, ← yE p9, ← yE q9]; simp [q94, q104]
                  rw [hQ]
                  exact rt_z C (false, y) h (⟨rb_f rfl, ⟨fun z9 => (by cases z9), fun z9 => by
                    obtain ⟨w, w1, w2⟩ := hE.2.2.2 i9 (by omega)
                    have z8 := z9 w w1
                    unfold macc at z8
                    rw [w2, hacc] at z8
                    cases z8⟩, hy⟩) (by decide +kernel) dc_M_goes_132
                · refine lv_iload_n C.x C.b dc_M_goes_107 rfl (lv_at hl 5 rfl) ?_
                  refine bz_eq (tgt := 133) C (by omega) dc_M_goes_108 (by decide) (fun q108 => ?_) (fun q108 => ?_)
                  · have hacc : (jD s9 (rT ri p9) (ri 1 p9) (rT ri q9) (ri 1 q9)).2.2.1 (y 5 i9) = false := by
                      rw [hja, ← yE p9, ← yE q9]
                      first | (simp [q94, q104]; done) | (simp [q94, q108]; done) | (simp [q94, q118]; done) | (simp [q118, q128]; done)
                    exact jn_133  _ _ _ (by first | assumption | omega) h (lv_sub hl [2, 1, 0, 3, 4, 5, 6] rfl)
                  · refine lv_aload_n C.x C.b dc_M_goes_111 rfl (lv_at hl 6 rfl) ?_
                    refine lv_iload_n C.x C.b dc_M_goes_112 rfl (lv_at hl 4 rfl) ?_
                    refine lv_iload C.x C.b dc_M_goes_113 (lv_at hl 0 rfl) ?_
                    refine kv_V (As := [.int (nI q9), .int (nI (y 5 i9 % 16))]) (rest := []) C h hl.1 (c_M_isEnd l Γ r y rl wr q9 (y 5 i9 % 16) (by omega) (by omega) (by rw [y3]; exact b6 _ hvi.2)) mw_M_isEnd lk_M_64 (q0 := 0) rfl rfl rfl (by decide) (by decide) (Nat.le_of_ble_eq_true rfl) dc_M_goes_115 (fun v u H locs hp h => ?_)
                    obtain rfl := hp
                    replace h : sT Γ s (rW Γ r y rl wr) _ _ := h
                    refine W.eq (g2 := F0 m 118 ls [.int (bI (rEb y q9 (y 5 i9 % 16)))]) rfl ?_
                    refine bb_eq (tgt := 133) C dc_M_goes_118 (by decide) (fun q118 => ?_) (fun q118 => ?_)
                    · have hacc : (jD s9 (rT ri p9) (ri 1 p9) (rT ri q9) (ri 1 q9)).2.2.1 (y 5 i9) = false := by
                        rw [hja, ← yE p9, ← yE q9]
                        first | (simp [q94, q104]; done) | (simp [q94, q108]; done) | (simp [q94, q118]; done) | (simp [q118, q128]; done)
                      exact jn_133  _ _ _ (by first | assumption | omega) h (lv_sub hl [2, 1, 0, 3, 4, 5, 6] rfl)
                    · refine lv_aload_n C.x C.b dc_M_goes_121 rfl (lv_at hl 6 rfl) ?_
                      refine lv_iload_n C.x C.b dc_M_goes_122 rfl (lv_at hl 3 rfl) ?_
                      refine lv_iload C.x C.b dc_M_goes_123 (lv_at hl 1 rfl) ?_
                      refine kv_V (As := [.int (nI p9), .int (nI (y 5 i9 / 16))]) (rest := []) C h hl.1 (c_M_isEnd l Γ r y rl wr p9 (y 5 i9 / 16) (by omega) (by omega) (by rw [y3]; exact a6 _ hvi.1)) mw_M_isEnd lk_M_64 (q0 := 0) rfl rfl rfl (by decide) (by decide) (Nat.le_of_ble_eq_true rfl) dc_M_goes_125 (fun v u H locs hp h => ?_)
                      obtain rfl := hp
                      replace h : sT Γ s (rW Γ r y rl wr) _ _ := h
                      refine W.eq (g2 := F0 m 128 ls [.int (bI (rEb y p9 (y 5 i9 / 16)))]) rfl ?_
                      refine bb_ne (tgt := 133) C dc_M_goes_128 (by decide) (fun q128 => ?_) (fun q128 => ?_)
                      · have hacc : (jD s9 (rT ri p9) (ri 1 p9) (rT ri q9) (ri 1 q9)).2.2.1 (y 5 i9) = false := by
                          rw [hja, ← yE p9, ← yE q9]
                          first | (simp [q94, q104]; done) | (simp [q94, q108]; done) | (simp [q94, q118]; done) | (simp [q118, q128]; done)
                        exact jn_133  _ _ _ (by first | assumption | omega) h (lv_sub hl [2, 1, 0, 3, 4, 5, 6] rfl)
                      · have s1 : s9 = 1 := by omega
                        refine lv_iconst (v := (nI 0)) C.x C.b dc_M_goes_131 (by decide +kernel) ?_
                        have hacc : (jD s9 (rT ri p9) (ri 1 p9) (rT ri q9) (ri 1 q9)).2.2.1 (y 5 i9) = true := by rw [hja, ← yE p9, ← yE q9]; simp [q118, q128, s1]
                        rw [hQ]
                        exact rt_z C (false, y) h (⟨rb_f rfl, ⟨fun z9 => (by cases z9), fun z9 => by
                          obtain ⟨w, w1, w2⟩ := hE.2.2.2 i9 (by omega)
                          have z8 := z9 w w1
                          unfold macc at z8
                          rw [w2, hacc] at z8
                          cases z8⟩, hy⟩) (by decide +kernel) dc_M_goes_132
        exact lp_55 _ 0 ri_2 _ _ _ (Nat.lt_succ_self _) (by omega) (hE1) (hy1) (hy01) (hV1) h (lv_sub hl [0, 2, 3, 4, 5] rfl)
      · refine lv_aload_n C.x C.b dc_M_goes_16 rfl (lv_at hl 4 rfl) ?_
        refine rg_get C h 0 rfl rfl in_M 11 (by decide) fl_M_23 rfl dc_M_goes_17 ?_
        refine lv_iload C.x C.b dc_M_goes_20 (lv_at hl 0 rfl) ?_
        refine lv_iconst (v := (mI 0)) C.x C.b dc_M_goes_22 (by decide +kernel) ?_
        refine rg_mst C h 5 rfl (by omega) (by decide) dc_M_goes_23 (fun H locs h => ?_)
        obtain ⟨ri_6, eri_6⟩ : ∃ zz9, zz9 = us z 4 (us (z 4) k 0) := ⟨_, rfl⟩
        have fri_6 : ∀ zk, zk ≠ 4 → ri_6 zk = z zk := fun zk hzk => by rw [eri_6, us_n _ _ hzk]
        have gri_6 : ri_6 4 = us (z 4) k 0 := by rw [eri_6, us_s]
        have xri_6 : ri_6 20 0 = z 20 0 ∧ ri_6 20 1 = z 20 1 ∧ ri_6 20 2 = z 20 2 ∧ ri_6 20 3 = z 20 3 ∧ ri_6 20 4 = z 20 4 ∧ ri_6 20 5 = z 20 5 ∧ ri_6 20 6 = z 20 6 := by rw [fri_6 20 (by decide)]; exact ⟨rfl, rfl, rfl, rfl, rfl, rfl, rfl⟩
        replace h : sT Γ s (rW Γ r ri_6 rl wr) H locs := by rw [eri_6]; exact h
        refine lv_iinc (v := nI (k + 1)) (lv' := [(4, .int (nI (k + 1))), (1, .int (nI p9)), (2, .int (nI q9)), (3, .int (nI s9)), (0, .ref (r 0))]) C.x C.b dc_M_goes_24 hl (k := 0) rfl (nI_1 k) (by decide) rfl (fun ls hl => ?_)
        refine lv_goto (tgt := 8) C.x C.b dc_M_goes_27 (by decide) ?_
        have hz1 : ∀ zk, zk ≠ 4 → ri_6 zk = b0 zk := fun zk a => (fri_6 zk a).trans (hz zk a)
        have h41 : ∀ j, j < k + 1 → ri_6 4 j = 0 := fun j hj => by
          rw [gri_6]
          by_cases e9 : j = k
          · rw [e9, us_s]
          · rw [us_n _ _ e9]; exact h4 j (by omega)
        exact ih_8 (k + 1) ri_6 _ _ _ (by omega) (by first | assumption | omega) (hz1) (h41) h (lv_sub hl [0, 1, 2, 3, 4] rfl)
  exact lp_8 _ 0 b0 _ _ _ (Nat.lt_succ_self _) (by first | assumption | omega) (hz1) (h41) h (lv_sub hl [0, 2, 3, 4, 1] rfl)

abbrev rm_M_same : Room := { frames := 2, cells := 0, slots := 0, locals := 51 }
set_option maxRecDepth 100000 in
set_option maxHeartbeats 4000000 in
theorem c_M_same (l : Launch) (Γ : gG) (r : Nat → Nat) (ri : Nat → Nat → Nat) (rl : Nat → Nat → Int64) (wr : va_W) (pp qq : Int32) (hS : RS ri) : cT l Γ my_M_same bc_M_same 3 (some .boolean) rm_M_same [.ref (r 0), .int pp, .int qq] (rW Γ r ri rl wr) (S := Nat → Nat → Nat) (fun v u => (¬ (∃ i j, i < ri 20 1 ∧ j < ri 20 1 ∧ pp = nI i ∧ qq = nI j) ∧ rbad 1 ri v u) ∨ ∃ i j, (i < ri 20 1 ∧ j < ri 20 1 ∧ pp = nI i ∧ qq = nI j) ∧ ∃ b : Bool, v = some (.int (bI b)) ∧ (b = true ↔ ∀ w, lts w → macc (jD 1 (rT ri i) (ri 1 i) (rT ri j) (ri 1 j)) (jD 1 (rT ri i) (ri 1 i) (rT ri j) (ri 1 j)).1 w = false) ∧ rQ 0 ri u) (fun u => rW Γ r u rl wr) := by
  refine cT.start (by decide) (Nat.le_of_ble_eq_true rfl) (fun p e s m args below meth c ls Q hQ C hmn h hl => ?_)
  replace hl : lv_has ls 3 [(0, .ref (r 0)), (1, .int pp), (2, .int qq)] := hl
  have hS80 := hS.1
  refine lv_aload_n C.x C.b dc_M_same_0 rfl (lv_at hl 0 rfl) ?_
  refine lv_aload_n C.x C.b dc_M_same_1 rfl (lv_at hl 0 rfl) ?_
  refine lv_iload_n C.x C.b dc_M_same_2 rfl (lv_at hl 1 rfl) ?_
  refine kv_V (As := [.int pp]) (rest := [.ref (r 0)]) C h hl.1 (c_M_isSet l Γ r ri rl wr pp (by omega)) mw_M_isSet lk_M_115 (q0 := 0) rfl rfl rfl (by decide) (by decide) (Nat.le_of_ble_eq_true rfl) dc_M_same_3 (fun v u H locs hp h => ?_)
  obtain ⟨bs_1, rfl⟩ : ∃ zz9, zz9 = u := ⟨_, rfl⟩
  obtain ⟨rfl, hbs_1⟩ := hp
  replace h : sT Γ s (rW Γ r ri rl wr) _ _ := h
  refine W.eq (g2 := F0 m 6 ls [.int (bI bs_1), .ref (r 0)]) rfl ?_
  refine bb_eq (tgt := 21) C dc_M_same_6 (by decide) (fun q6 => ?_) (fun q6 => ?_)
  · refine lv_iconst (v := (nI 1)) C.x C.b dc_M_same_21 (by decide +kernel) ?_
    refine rg_put (ty := .int) C h 0 rfl rfl in_M tk_M nm_M 0 (by decide) fl_M_54 rfl (by decide +kernel) rfl rfl (by simp) dc_M_same_22 (fun H locs h => ?_)
    obtain ⟨ri_2, eri_2⟩ : ∃ zz9, zz9 = us ri 20 (us (ri 20) 0 1) := ⟨_, rfl⟩
    have fri_2 : ∀ zk, zk ≠ 20 → ri_2 zk = ri zk := fun zk hzk => by rw [eri_2, us_n _ _ hzk]
    have gri_2 : ri_2 20 = us (ri 20) 0 1 := by rw [eri_2, us_s]
    have xri_2 : ri_2 20 0 = 1 ∧ ri_2 20 1 = ri 20 1 ∧ ri_2 20 2 = ri 20 2 ∧ ri_2 20 3 = ri 20 3 ∧ ri_2 20 4 = ri 20 4 ∧ ri_2 20 5 = ri 20 5 ∧ ri_2 20 6 = ri 20 6 := by rw [gri_2]; exact ⟨us_s _ _ _, us_n _ _ (by decide), us_n _ _ (by decide), us_n _ _ (by decide), us_n _ _ (by decide), us_n _ _ (by decide), us_n _ _ (by decide)⟩
    replace h : sT Γ s (rW Γ r ri_2 rl wr) H locs := by rw [eri_2]; exact h
    have hss : sS ri ri_2 (ri 20 1) := sS.of (fri_2 0 (by decide)) (fri_2 1 (by decide)) (fri_2 2 (by decide)) (fri_2 3 (by decide))
    refine lv_aload_n C.x C.b dc_M_same_25 rfl (lv_at hl 0 rfl) ?_
    refine rg_get C h 0 rfl rfl in_M 0 (by decide) fl_M_54 rfl dc_M_same_26 ?_
    refine tp_i (y := nI 1) (by rw [show ri_2 20 0 = 1 by omega]) ?_
    refine bz_ne (tgt := 46) C (by omega) dc_M_same_29 (by decide) (fun q29 => ?_) (fun q29 => absurd q29 (by decide))
    refine lv_iconst (v := (nI 0)) C.x C.b dc_M_same_46 (by decide +kernel) ?_
    rw [hQ]
    exact rt_z C ri_2 h (Or.inl ⟨fun z => by first | (obtain ⟨i, j, a, b, c, d9⟩ := z; rw [hbs_1.mpr ⟨i, a, c⟩] at q6; exact Bool.noConfusion q6), by omega, ⟨_, rfl⟩, by omega, hss⟩) (by decide +kernel) dc_M_same_47
  · refine lv_aload_n C.x C.b dc_M_same_9 rfl (lv_at hl 0 rfl) ?_
    refine lv_iload_n C.x C.b dc_M_same_10 rfl (lv_at hl 2 rfl) ?_
    refine kv_V (As := [.int qq]) (rest := [.ref (r 0)]) C h hl.1 (c_M_isSet l Γ r ri rl wr qq (by omega)) mw_M_isSet lk_M_115 (q0 := 0) rfl rfl rfl (by decide) (by decide) (Nat.le_of_ble_eq_true rfl) dc_M_same_11 (fun v u H locs hp h => ?_)
    obtain ⟨bs_3, rfl⟩ : ∃ zz9, zz9 = u := ⟨_, rfl⟩
    obtain ⟨rfl, hbs_3⟩ := hp
    replace h : sT Γ s (rW Γ r ri rl wr) _ _ := h
    refine W.eq (g2 := F0 m 14 ls [.int (bI bs_3), .ref (r 0)]) rfl ?_
    refine bb_eq (tgt := 21) C dc_M_same_14 (by decide) (fun q14 => ?_) (fun q14 => ?_)
    · refine lv_iconst (v := (nI 1)) C.x C.b dc_M_same_21 (by decide +kernel) ?_
      refine rg_put (ty := .int) C h 0 rfl rfl in_M tk_M nm_M 0 (by decide) fl_M_54 rfl (by decide +kernel) rfl rfl (by simp) dc_M_same_22 (fun H locs h => ?_)
      obtain ⟨ri_4, eri_4⟩ : ∃ zz9, zz9 = us ri 20 (us (ri 20) 0 1) := ⟨_, rfl⟩
      have fri_4 : ∀ zk, zk ≠ 20 → ri_4 zk = ri zk := fun zk hzk => by rw [eri_4, us_n _ _ hzk]
      have gri_4 : ri_4 20 = us (ri 20) 0 1 := by rw [eri_4, us_s]
      have xri_4 : ri_4 20 0 = 1 ∧ ri_4 20 1 = ri 20 1 ∧ ri_4 20 2 = ri 20 2 ∧ ri_4 20 3 = ri 20 3 ∧ ri_4 20 4 = ri 20 4 ∧ ri_4 20 5 = ri 20 5 ∧ ri_4 20 6 = ri 20 6 := by rw [gri_4]; exact ⟨us_s _ _ _, us_n _ _ (by decide), us_n _ _ (by decide), us_n _ _ (by decide), us_n _ _ (by decide), us_n _ _ (by decide), us_n _ _ (by decide)⟩
      replace h : sT Γ s (rW Γ r ri_4 rl wr) H locs := by rw [eri_4]; exact h
      have hss : sS ri ri_4 (ri 20 1) := sS.of (fri_4 0 (by decide)) (fri_4 1 (by decide)) (fri_4 2 (by decide)) (fri_4 3 (by decide))
      refine lv_aload_n C.x C.b dc_M_same_25 rfl (lv_at hl 0 rfl) ?_
      refine rg_get C h 0 rfl rfl in_M 0 (by decide) fl_M_54 rfl dc_M_same_26 ?_
      refine tp_i (y := nI 1) (by rw [show ri_4 20 0 = 1 by omega]) ?_
      refine bz_ne (tgt := 46) C (by omega) dc_M_same_29 (by decide) (fun q29 => ?_) (fun q29 => absurd q29 (by decide))
      refine lv_iconst (v := (nI 0)) C.x C.b dc_M_same_46 (by decide +kernel) ?_
      rw [hQ]
      exact rt_z C ri_4 h (Or.inl ⟨fun z => by first | (obtain ⟨i, j, a, b, c, d9⟩ := z; rw [hbs_1.mpr ⟨i, a, c⟩] at q6; exact Bool.noConfusion q6) | (obtain ⟨i, j, a, b, c, d9⟩ := z; rw [hbs_3.mpr ⟨j, b, d9⟩] at q14; exact Bool.noConfusion q14), by omega, ⟨_, rfl⟩, by omega, hss⟩) (by decide +kernel) dc_M_same_47
    · refine lv_iconst (v := (nI 0)) C.x C.b dc_M_same_17 (by decide +kernel) ?_
      refine lv_goto (tgt := 22) C.x C.b dc_M_same_18 (by decide) ?_
      obtain ⟨i, hi, ei⟩ := hbs_1.mp q6
      subst ei
      obtain ⟨j, hj, ej⟩ := hbs_3.mp q14
      subst ej
      refine rg_put (ty := .int) C h 0 rfl rfl in_M tk_M nm_M 0 (by decide) fl_M_54 rfl (by decide +kernel) rfl rfl (by simp) dc_M_same_22 (fun H locs h => ?_)
      obtain ⟨ri_5, eri_5⟩ : ∃ zz9, zz9 = us ri 20 (us (ri 20) 0 0) := ⟨_, rfl⟩
      have fri_5 : ∀ zk, zk ≠ 20 → ri_5 zk = ri zk := fun zk hzk => by rw [eri_5, us_n _ _ hzk]
      have gri_5 : ri_5 20 = us (ri 20) 0 0 := by rw [eri_5, us_s]
      have xri_5 : ri_5 20 0 = 0 ∧ ri_5 20 1 = ri 20 1 ∧ ri_5 20 2 = ri 20 2 ∧ ri_5 20 3 = ri 20 3 ∧ ri_5 20 4 = ri 20 4 ∧ ri_5 20 5 = ri 20 5 ∧ ri_5 20 6 = ri 20 6 := by rw [gri_5]; exact ⟨us_s _ _ _, us_n _ _ (by decide), us_n _ _ (by decide), us_n _ _ (by decide), us_n _ _ (by decide), us_n _ _ (by decide), us_n _ _ (by decide)⟩
      replace h : sT Γ s (rW Γ r ri_5 rl wr) H locs := by rw [eri_5]; exact h
      have hss : sS ri ri_5 (ri 20 1) := sS.of (fri_5 0 (by decide)) (fri_5 1 (by decide)) (fri_5 2 (by decide)) (fri_5 3 (by decide))
      refine lv_aload_n C.x C.b dc_M_same_25 rfl (lv_at hl 0 rfl) ?_
      refine rg_get C h 0 rfl rfl in_M 0 (by decide) fl_M_54 rfl dc_M_same_26 ?_
      refine tp_i (y := nI 0) (by rw [show ri_5 20 0 = 0 by omega]) ?_
      refine bz_ne (tgt := 46) C (by omega) dc_M_same_29 (by decide) (fun q29 => absurd q29 (by decide)) (fun q29 => ?_)
      have hO1 := hss.rok hi (hS.2 _ hi).1
      have hO2 := hss.rok hj (hS.2 _ hj).1
      refine lv_aload_n C.x C.b dc_M_same_32 rfl (lv_at hl 0 rfl) ?_
      refine lv_iload_n C.x C.b dc_M_same_33 rfl (lv_at hl 1 rfl) ?_
      refine lv_iload_n C.x C.b dc_M_same_34 rfl (lv_at hl 2 rfl) ?_
      refine lv_iconst (v := (nI 1)) C.x C.b dc_M_same_35 (by decide +kernel) ?_
      refine kv_V (As := [.int (nI i), .int (nI j), .int (nI 1)]) (rest := []) C h hl.1 (c_M_goes l Γ r ri_5 rl wr i j 1 hO1 hO2 (by decide)) mw_M_goes lk_M_124 (q0 := 0) rfl rfl rfl (by decide) (by decide) (Nat.le_of_ble_eq_true rfl) dc_M_same_36 (fun v u H locs hp h => ?_)
      obtain ⟨⟨bg_7, ri_6⟩, rfl⟩ : ∃ zz9, zz9 = u := ⟨_, rfl⟩
      obtain ⟨rfl, gb, gk⟩ := hp
      dsimp only at gb gk
      replace h : sT Γ s (rW Γ r ri_6 rl wr) _ _ := h
      refine W.eq (g2 := F0 m 39 ls [.int (bI bg_7)]) rfl ?_
      refine bb_eq (tgt := 46) C dc_M_same_39 (by decide) (fun q39 => ?_) (fun q39 => ?_)
      · refine lv_iconst (v := (nI 0)) C.x C.b dc_M_same_46 (by decide +kernel) ?_
        rw [hss.tab hi (hS.2 _ hi).1.2.2.1, hss.tab hj (hS.2 _ hj).1.2.2.1, (hss _ hi).2.1, (hss _ hj).2.1] at gb
        have hsg : sS ri ri_6 (ri 20 1) := hss.tr (sS.of (gk.1 0 (by decide) (by decide) (by decide)) (gk.1 1 (by decide) (by decide) (by decide)) (gk.1 2 (by decide) (by decide) (by decide)) (gk.1 3 (by decide) (by decide) (by decide)))
        have g20 : ri_6 20 0 = 0 ∧ ri_6 20 1 = ri 20 1 := by rw [gk.2 0 (by decide), gk.2 1 (by decide)]; exact ⟨by omega, by omega⟩
        rw [hQ]
        exact rt_z C ri_6 h (Or.inr ⟨i, j, ⟨hi, hj, rfl, rfl⟩, false, rb_f rfl, by rw [q39] at gb; exact gb, g20.1, g20.2, hsg⟩) (by decide +kernel) dc_M_same_47
      · refine lv_iconst (v := (nI 1)) C.x C.b dc_M_same_42 (by decide +kernel) ?_
        refine lv_goto (tgt := 47) C.x C.b dc_M_same_43 (by decide) ?_
        rw [hss.tab hi (hS.2 _ hi).1.2.2.1, hss.tab hj (hS.2 _ hj).1.2.2.1, (hss _ hi).2.1, (hss _ hj).2.1] at gb
        have hsg : sS ri ri_6 (ri 20 1) := hss.tr (sS.of (gk.1 0 (by decide) (by decide) (by decide)) (gk.1 1 (by decide) (by decide) (by decide)) (gk.1 2 (by decide) (by decide) (by decide)) (gk.1 3 (by decide) (by decide) (by decide)))
        have g20 : ri_6 20 0 = 0 ∧ ri_6 20 1 = ri 20 1 := by rw [gk.2 0 (by decide), gk.2 1 (by decide)]; exact ⟨by omega, by omega⟩
        rw [hQ]
        exact rt_z C ri_6 h (Or.inr ⟨i, j, ⟨hi, hj, rfl, rfl⟩, true, rb_t rfl, by rw [q39] at gb; exact gb, g20.1, g20.2, hsg⟩) (by decide +kernel) dc_M_same_47

abbrev rm_M_inside : Room := { frames := 2, cells := 0, slots := 0, locals := 51 }
set_option maxRecDepth 100000 in
set_option maxHeartbeats 4000000 in
theorem c_M_inside (l : Launch) (Γ : gG) (r : Nat → Nat) (ri : Nat → Nat → Nat) (rl : Nat → Nat → Int64) (wr : va_W) (pp qq : Int32) (hS : RS ri) : cT l Γ my_M_inside bc_M_inside 3 (some .boolean) rm_M_inside [.ref (r 0), .int pp, .int qq] (rW Γ r ri rl wr) (S := Nat → Nat → Nat) (fun v u => (¬ (∃ i j, i < ri 20 1 ∧ j < ri 20 1 ∧ pp = nI i ∧ qq = nI j) ∧ rbad 1 ri v u) ∨ ∃ i j, (i < ri 20 1 ∧ j < ri 20 1 ∧ pp = nI i ∧ qq = nI j) ∧ ∃ b : Bool, v = some (.int (bI b)) ∧ (b = true ↔ ∀ w, lts w → macc (jD 0 (rT ri i) (ri 1 i) (rT ri j) (ri 1 j)) (jD 0 (rT ri i) (ri 1 i) (rT ri j) (ri 1 j)).1 w = false) ∧ rQ 0 ri u) (fun u => rW Γ r u rl wr) := by
  refine cT.start (by decide) (Nat.le_of_ble_eq_true rfl) (fun p e s m args below meth c ls Q hQ C hmn h hl => ?_)
  replace hl : lv_has ls 3 [(0, .ref (r 0)), (1, .int pp), (2, .int qq)] := hl
  have hS80 := hS.1
  refine lv_aload_n C.x C.b dc_M_inside_0 rfl (lv_at hl 0 rfl) ?_
  refine lv_aload_n C.x C.b dc_M_inside_1 rfl (lv_at hl 0 rfl) ?_
  refine lv_iload_n C.x C.b dc_M_inside_2 rfl (lv_at hl 1 rfl) ?_
  refine kv_V (As := [.int pp]) (rest := [.ref (r 0)]) C h hl.1 (c_M_isSet l Γ r ri rl wr pp (by omega)) mw_M_isSet lk_M_115 (q0 := 0) rfl rfl rfl (by decide) (by decide) (Nat.le_of_ble_eq_true rfl) dc_M_inside_3 (fun v u H locs hp h => ?_)
  obtain ⟨bs_1, rfl⟩ : ∃ zz9, zz9 = u := ⟨_, rfl⟩
  obtain ⟨rfl, hbs_1⟩ := hp
  replace h : sT Γ s (rW Γ r ri rl wr) _ _ := h
  refine W.eq (g2 := F0 m 6 ls [.int (bI bs_1), .ref (r 0)]) rfl ?_
  refine bb_eq (tgt := 21) C dc_M_inside_6 (by decide) (fun q6 => ?_) (fun q6 => ?_)
  · refine lv_iconst (v := (nI 1)) C.x C.b dc_M_inside_21 (by decide +kernel) ?_
    refine rg_put (ty := .int) C h 0 rfl rfl in_M tk_M nm_M 0 (by decide) fl_M_54 rfl (by decide +kernel) rfl rfl (by simp) dc_M_inside_22 (fun H locs h => ?_)
    obtain ⟨ri_2, eri_2⟩ : ∃ zz9, zz9 = us ri 20 (us (ri 20) 0 1) := ⟨_, rfl⟩
    have fri_2 : ∀ zk, zk ≠ 20 → ri_2 zk = ri zk := fun zk hzk => by rw [eri_2, us_n _ _ hzk]
    have gri_2 : ri_2 20 = us (ri 20) 0 1 := by rw [eri_2, us_s]
    have xri_2 : ri_2 20 0 = 1 ∧ ri_2 20 1 = ri 20 1 ∧ ri_2 20 2 = ri 20 2 ∧ ri_2 20 3 = ri 20 3 ∧ ri_2 20 4 = ri 20 4 ∧ ri_2 20 5 = ri 20 5 ∧ ri_2 20 6 = ri 20 6 := by rw [gri_2]; exact ⟨us_s _ _ _, us_n _ _ (by decide), us_n _ _ (by decide), us_n _ _ (by decide), us_n _ _ (by decide), us_n _ _ (by decide), us_n _ _ (by decide)⟩
    replace h : sT Γ s (rW Γ r ri_2 rl wr) H locs := by rw [eri_2]; exact h
    have hss : sS ri ri_2 (ri 20 1) := sS.of (fri_2 0 (by decide)) (fri_2 1 (by decide)) (fri_2 2 (by decide)) (fri_2 3 (by decide))
    refine lv_aload_n C.x C.b dc_M_inside_25 rfl (lv_at hl 0 rfl) ?_
    refine rg_get C h 0 rfl rfl in_M 0 (by decide) fl_M_54 rfl dc_M_inside_26 ?_
    refine tp_i (y := nI 1) (by rw [show ri_2 20 0 = 1 by omega]) ?_
    refine bz_ne (tgt := 46) C (by omega) dc_M_inside_29 (by decide) (fun q29 => ?_) (fun q29 => absurd q29 (by decide))
    refine lv_iconst (v := (nI 0)) C.x C.b dc_M_inside_46 (by decide +kernel) ?_
    rw [hQ]
    exact rt_z C ri_2 h (Or.inl ⟨fun z => by first | (obtain ⟨i, j, a, b, c, d9⟩ := z; rw [hbs_1.mpr ⟨i, a, c⟩] at q6; exact Bool.noConfusion q6), by omega, ⟨_, rfl⟩, by omega, hss⟩) (by decide +kernel) dc_M_inside_47
  · refine lv_aload_n C.x C.b dc_M_inside_9 rfl (lv_at hl 0 rfl) ?_
    refine lv_iload_n C.x C.b dc_M_inside_10 rfl (lv_at hl 2 rfl) ?_
    refine kv_V (As := [.int qq]) (rest := [.ref (r 0)]) C h hl.1 (c_M_isSet l Γ r ri rl wr qq (by omega)) mw_M_isSet lk_M_115 (q0 := 0) rfl rfl rfl (by decide) (by decide) (Nat.le_of_ble_eq_true rfl) dc_M_inside_11 (fun v u H locs hp h => ?_)
    obtain ⟨bs_3, rfl⟩ : ∃ zz9, zz9 = u := ⟨_, rfl⟩
    obtain ⟨rfl, hbs_3⟩ := hp
    replace h : sT Γ s (rW Γ r ri rl wr) _ _ := h
    refine W.eq (g2 := F0 m 14 ls [.int (bI bs_3), .ref (r 0)]) rfl ?_
    refine bb_eq (tgt := 21) C dc_M_inside_14 (by decide) (fun q14 => ?_) (fun q14 => ?_)
    · refine lv_iconst (v := (nI 1)) C.x C.b dc_M_inside_21 (by decide +kernel) ?_
      refine rg_put (ty := .int) C h 0 rfl rfl in_M tk_M nm_M 0 (by decide) fl_M_54 rfl (by decide +kernel) rfl rfl (by simp) dc_M_inside_22 (fun H locs h => ?_)
      obtain ⟨ri_4, eri_4⟩ : ∃ zz9, zz9 = us ri 20 (us (ri 20) 0 1) := ⟨_, rfl⟩
      have fri_4 : ∀ zk, zk ≠ 20 → ri_4 zk = ri zk := fun zk hzk => by rw [eri_4, us_n _ _ hzk]
      have gri_4 : ri_4 20 = us (ri 20) 0 1 := by rw [eri_4, us_s]
      have xri_4 : ri_4 20 0 = 1 ∧ ri_4 20 1 = ri 20 1 ∧ ri_4 20 2 = ri 20 2 ∧ ri_4 20 3 = ri 20 3 ∧ ri_4 20 4 = ri 20 4 ∧ ri_4 20 5 = ri 20 5 ∧ ri_4 20 6 = ri 20 6 := by rw [gri_4]; exact ⟨us_s _ _ _, us_n _ _ (by decide), us_n _ _ (by decide), us_n _ _ (by decide), us_n _ _ (by decide), us_n _ _ (by decide), us_n _ _ (by decide)⟩
      replace h : sT Γ s (rW Γ r ri_4 rl wr) H locs := by rw [eri_4]; exact h
      have hss : sS ri ri_4 (ri 20 1) := sS.of (fri_4 0 (by decide)) (fri_4 1 (by decide)) (fri_4 2 (by decide)) (fri_4 3 (by decide))
      refine lv_aload_n C.x C.b dc_M_inside_25 rfl (lv_at hl 0 rfl) ?_
      refine rg_get C h 0 rfl rfl in_M 0 (by decide) fl_M_54 rfl dc_M_inside_26 ?_
      refine tp_i (y := nI 1) (by rw [show ri_4 20 0 = 1 by omega]) ?_
      refine bz_ne (tgt := 46) C (by omega) dc_M_inside_29 (by decide) (fun q29 => ?_) (fun q29 => absurd q29 (by decide))
      refine lv_iconst (v := (nI 0)) C.x C.b dc_M_inside_46 (by decide +kernel) ?_
      rw [hQ]
      exact rt_z C ri_4 h (Or.inl ⟨fun z => by first | (obtain ⟨i, j, a, b, c, d9⟩ := z; rw [hbs_1.mpr ⟨i, a, c⟩] at q6; exact Bool.noConfusion q6) | (obtain ⟨i, j, a, b, c, d9⟩ := z; rw [hbs_3.mpr ⟨j, b, d9⟩] at q14; exact Bool.noConfusion q14), by omega, ⟨_, rfl⟩, by omega, hss⟩) (by decide +kernel) dc_M_inside_47
    · refine lv_iconst (v := (nI 0)) C.x C.b dc_M_inside_17 (by decide +kernel) ?_
      refine lv_goto (tgt := 22) C.x C.b dc_M_inside_18 (by decide) ?_
      obtain ⟨i, hi, ei⟩ := hbs_1.mp q6
      subst ei
      obtain ⟨j, hj, ej⟩ := hbs_3.mp q14
      subst ej
      refine rg_put (ty := .int) C h 0 rfl rfl in_M tk_M nm_M 0 (by decide) fl_M_54 rfl (by decide +kernel) rfl rfl (by simp) dc_M_inside_22 (fun H locs h => ?_)
      obtain ⟨ri_5, eri_5⟩ : ∃ zz9, zz9 = us ri 20 (us (ri 20) 0 0) := ⟨_, rfl⟩
      have fri_5 : ∀ zk, zk ≠ 20 → ri_5 zk = ri zk := fun zk hzk => by rw [eri_5, us_n _ _ hzk]
      have gri_5 : ri_5 20 = us (ri 20) 0 0 := by rw [eri_5, us_s]
      have xri_5 : ri_5 20 0 = 0 ∧ ri_5 20 1 = ri 20 1 ∧ ri_5 20 2 = ri 20 2 ∧ ri_5 20 3 = ri 20 3 ∧ ri_5 20 4 = ri 20 4 ∧ ri_5 20 5 = ri 20 5 ∧ ri_5 20 6 = ri 20 6 := by rw [gri_5]; exact ⟨us_s _ _ _, us_n _ _ (by decide), us_n _ _ (by decide), us_n _ _ (by decide), us_n _ _ (by decide), us_n _ _ (by decide), us_n _ _ (by decide)⟩
      replace h : sT Γ s (rW Γ r ri_5 rl wr) H locs := by rw [eri_5]; exact h
      have hss : sS ri ri_5 (ri 20 1) := sS.of (fri_5 0 (by decide)) (fri_5 1 (by decide)) (fri_5 2 (by decide)) (fri_5 3 (by decide))
      refine lv_aload_n C.x C.b dc_M_inside_25 rfl (lv_at hl 0 rfl) ?_
      refine rg_get C h 0 rfl rfl in_M 0 (by decide) fl_M_54 rfl dc_M_inside_26 ?_
      refine tp_i (y := nI 0) (by rw [show ri_5 20 0 = 0 by omega]) ?_
      refine bz_ne (tgt := 46) C (by omega) dc_M_inside_29 (by decide) (fun q29 => absurd q29 (by decide)) (fun q29 => ?_)
      have hO1 := hss.rok hi (hS.2 _ hi).1
      have hO2 := hss.rok hj (hS.2 _ hj).1
      refine lv_aload_n C.x C.b dc_M_inside_32 rfl (lv_at hl 0 rfl) ?_
      refine lv_iload_n C.x C.b dc_M_inside_33 rfl (lv_at hl 1 rfl) ?_
      refine lv_iload_n C.x C.b dc_M_inside_34 rfl (lv_at hl 2 rfl) ?_
      refine lv_iconst (v := (nI 0)) C.x C.b dc_M_inside_35 (by decide +kernel) ?_
      refine kv_V (As := [.int (nI i), .int (nI j), .int (nI 0)]) (rest := []) C h hl.1 (c_M_goes l Γ r ri_5 rl wr i j 0 hO1 hO2 (by decide)) mw_M_goes lk_M_124 (q0 := 0) rfl rfl rfl (by decide) (by decide) (Nat.le_of_ble_eq_true rfl) dc_M_inside_36 (fun v u H locs hp h => ?_)
      obtain ⟨⟨bg_7, ri_6⟩, rfl⟩ : ∃ zz9, zz9 = u := ⟨_, rfl⟩
      obtain ⟨rfl, gb, gk⟩ := hp
      dsimp only at gb gk
      replace h : sT Γ s (rW Γ r ri_6 rl wr) _ _ := h
      refine W.eq (g2 := F0 m 39 ls [.int (bI bg_7)]) rfl ?_
      refine bb_eq (tgt := 46) C dc_M_inside_39 (by decide) (fun q39 => ?_) (fun q39 => ?_)
      · refine lv_iconst (v := (nI 0)) C.x C.b dc_M_inside_46 (by decide +kernel) ?_
        rw [hss.tab hi (hS.2 _ hi).1.2.2.1, hss.tab hj (hS.2 _ hj).1.2.2.1, (hss _ hi).2.1, (hss _ hj).2.1] at gb
        have hsg : sS ri ri_6 (ri 20 1) := hss.tr (sS.of (gk.1 0 (by decide) (by decide) (by decide)) (gk.1 1 (by decide) (by decide) (by decide)) (gk.1 2 (by decide) (by decide) (by decide)) (gk.1 3 (by decide) (by decide) (by decide)))
        have g20 : ri_6 20 0 = 0 ∧ ri_6 20 1 = ri 20 1 := by rw [gk.2 0 (by decide), gk.2 1 (by decide)]; exact ⟨by omega, by omega⟩
        rw [hQ]
        exact rt_z C ri_6 h (Or.inr ⟨i, j, ⟨hi, hj, rfl, rfl⟩, false, rb_f rfl, by rw [q39] at gb; exact gb, g20.1, g20.2, hsg⟩) (by decide +kernel) dc_M_inside_47
      · refine lv_iconst (v := (nI 1)) C.x C.b dc_M_inside_42 (by decide +kernel) ?_
        refine lv_goto (tgt := 47) C.x C.b dc_M_inside_43 (by decide) ?_
        rw [hss.tab hi (hS.2 _ hi).1.2.2.1, hss.tab hj (hS.2 _ hj).1.2.2.1, (hss _ hi).2.1, (hss _ hj).2.1] at gb
        have hsg : sS ri ri_6 (ri 20 1) := hss.tr (sS.of (gk.1 0 (by decide) (by decide) (by decide)) (gk.1 1 (by decide) (by decide) (by decide)) (gk.1 2 (by decide) (by decide) (by decide)) (gk.1 3 (by decide) (by decide) (by decide)))
        have g20 : ri_6 20 0 = 0 ∧ ri_6 20 1 = ri 20 1 := by rw [gk.2 0 (by decide), gk.2 1 (by decide)]; exact ⟨by omega, by omega⟩
        rw [hQ]
        exact rt_z C ri_6 h (Or.inr ⟨i, j, ⟨hi, hj, rfl, rfl⟩, true, rb_t rfl, by rw [q39] at gb; exact gb, g20.1, g20.2, hsg⟩) (by decide +kernel) dc_M_inside_47

