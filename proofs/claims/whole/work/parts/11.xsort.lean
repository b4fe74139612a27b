abbrev rm_S_meet : Room := { frames := 0, cells := 0, slots := 0, locals := 0 }
set_option maxRecDepth 100000 in
set_option maxHeartbeats 4000000 in
theorem c_S_meet (l : Launch) (Γ : gG) (d : Nat → Nat) (hm : Nat) (mc : va_E) (so : Nat → Nat → Nat) (tl : Nat → Nat → Int64) (tb : Nat → Nat → Nat → Nat) (wr : va_W) (M : mM) (pl : Nat) (hM : mOK d tb mc M) (hS : SI M so) (hp : pl < 10240) (hv : M.2.2.2 pl) (hw : ∃ w, lts w ∧ mrun M M.1 w = pl) : cT l Γ my_S_meet bc_S_meet 3 (some .int) rm_S_meet [.ref (d 2), .int (nI pl)] (xW Γ d hm mc so tl tb wr) (S := Nat × (Nat → Nat → Nat)) (fun v u => v = some (.int (nI u.1)) ∧ SI M u.2 ∧ sE so u.2 ∧ u.1 < u.2 10 0 ∧ u.2 1 u.1 = pl ∧ (so 0 pl = 0 → u.1 = so 10 0 ∧ u.2 10 0 = so 10 0 + 1)) (fun u => xW Γ d hm mc u.2 tl tb wr) := by
  refine cT.start (by decide) (Nat.le_of_ble_eq_true rfl) (fun p e s m args below meth c ls Q hQ C hmn h hl => ?_)
  replace hl : lv_has ls 3 [(0, .ref (d 2)), (1, .int (nI pl))] := hl
  have hS1 := hS.1
  refine lv_aload_n C.x C.b dc_S_meet_0 rfl (lv_at hl 0 rfl) ?_
  refine rg_get C h 2 rfl rfl in_S 1 (by decide) fl_S_20 rfl dc_S_meet_1 ?_
  refine lv_iload_n C.x C.b dc_S_meet_4 rfl (lv_at hl 1 rfl) ?_
  refine rg_ild C h 5 rfl (by omega) (by decide) dc_S_meet_5 ?_
  refine bz_ne (tgt := 86) C (by
      by_cases hz : so 0 pl = 0
      · omega
      · have := (hS.2.2.1 pl hp hz).1; have := hS.1; omega) dc_S_meet_6 (by decide) (fun q6 => ?_) (fun q6 => ?_)
  · obtain ⟨hx1, hx2⟩ := hS.2.2.1 pl hp q6
    have hSE : SI M so ∧ sE so so := ⟨hS, sE.rf⟩
    refine lv_aload_n C.x C.b dc_S_meet_86 rfl (lv_at hl 0 rfl) ?_
    refine rg_get C h 2 rfl rfl in_S 1 (by decide) fl_S_20 rfl dc_S_meet_87 ?_
    refine lv_iload_n C.x C.b dc_S_meet_90 rfl (lv_at hl 1 rfl) ?_
    refine rg_ild C h 5 rfl (by omega) (by decide) dc_S_meet_91 ?_
    refine lv_iconst (v := (nI 1)) C.x C.b dc_S_meet_92 (by decide +kernel) ?_
    refine lv_isub C.x C.b dc_S_meet_93 ?_
    refine tp_i (pk_sub (a := (so 0 pl)) (b := 1) (by omega)) ?_
    rw [hQ]
    exact rt_i C (so 0 pl - 1, so) h (⟨rfl, hSE.1, hSE.2, by show so 0 pl - 1 < so 10 0; omega, hx2, fun z => absurd z q6⟩) dc_S_meet_94
  · have hlt := hS.room (mok_ok hM).2.2 hp q6
    refine lv_aload_n C.x C.b dc_S_meet_9 rfl (lv_at hl 0 rfl) ?_
    refine rg_get C h 2 rfl rfl in_S 2 (by decide) fl_S_24 rfl dc_S_meet_10 ?_
    refine lv_aload_n C.x C.b dc_S_meet_13 rfl (lv_at hl 0 rfl) ?_
    refine rg_get C h 2 rfl rfl in_S 4 (by decide) fl_S_51 rfl dc_S_meet_14 ?_
    refine lv_iload_n C.x C.b dc_S_meet_17 rfl (lv_at hl 1 rfl) ?_
    refine rg_ist C h 6 rfl (by omega) (by decide) dc_S_meet_18 (fun H locs h => ?_)
    obtain ⟨so_1, eso_1⟩ : ∃ zz9, zz9 = us so 1 (us (so 1) (so 10 0) pl) := ⟨_, rfl⟩
    have xso_1 : so_1 10 0 = so 10 0 ∧ so_1 10 1 = so 10 1 ∧ so_1 10 2 = so 10 2 ∧ so_1 10 3 = so 10 3 := by rw [eso_1, us_n _ _ (by decide)]; exact ⟨rfl, rfl, rfl, rfl⟩
    replace h : sT Γ s (xW Γ d hm mc so_1 tl tb wr) H locs := by rw [eso_1]; exact h
    refine lv_aload_n C.x C.b dc_S_meet_19 rfl (lv_at hl 0 rfl) ?_
    refine rg_get C h 2 rfl rfl in_S 5 (by decide) fl_S_30 rfl dc_S_meet_20 ?_
    refine lv_aload_n C.x C.b dc_S_meet_23 rfl (lv_at hl 0 rfl) ?_
    refine rg_get C h 2 rfl rfl in_S 4 (by decide) fl_S_51 rfl dc_S_meet_24 ?_
    refine lv_iconst (v := (nI 0)) C.x C.b dc_S_meet_27 (by decide +kernel) ?_
    refine rg_ist C h 8 rfl (by omega) (by decide) dc_S_meet_28 (fun H locs h => ?_)
    obtain ⟨so_2, eso_2⟩ : ∃ zz9, zz9 = us so_1 3 (us (so_1 3) (so_1 10 0) 0) := ⟨_, rfl⟩
    have xso_2 : so_2 10 0 = so_1 10 0 ∧ so_2 10 1 = so_1 10 1 ∧ so_2 10 2 = so_1 10 2 ∧ so_2 10 3 = so_1 10 3 := by rw [eso_2, us_n _ _ (by decide)]; exact ⟨rfl, rfl, rfl, rfl⟩
    replace h : sT Γ s (xW Γ d hm mc so_2 tl tb wr) H locs := by rw [eso_2]; exact h
    refine lv_aload_n C.x C.b dc_S_meet_29 rfl (lv_at hl 0 rfl) ?_
    refine rg_get C h 2 rfl rfl in_S 6 (by decide) fl_S_33 rfl dc_S_meet_30 ?_
    refine lv_aload_n C.x C.b dc_S_meet_33 rfl (lv_at hl 0 rfl) ?_
    refine rg_get C h 2 rfl rfl in_S 4 (by decide) fl_S_51 rfl dc_S_meet_34 ?_
    refine lv_iconst (v := (nI 0)) C.x C.b dc_S_meet_37 (by decide +kernel) ?_
    refine rg_ist C h 9 rfl (by omega) (by decide) dc_S_meet_38 (fun H locs h => ?_)
    obtain ⟨so_3, eso_3⟩ : ∃ zz9, zz9 = us so_2 4 (us (so_2 4) (so_2 10 0) 0) := ⟨_, rfl⟩
    have xso_3 : so_3 10 0 = so_2 10 0 ∧ so_3 10 1 = so_2 10 1 ∧ so_3 10 2 = so_2 10 2 ∧ so_3 10 3 = so_2 10 3 := by rw [eso_3, us_n _ _ (by decide)]; exact ⟨rfl, rfl, rfl, rfl⟩
    replace h : sT Γ s (xW Γ d hm mc so_3 tl tb wr) H locs := by rw [eso_3]; exact h
    refine lv_iconst (v := (nI 0)) C.x C.b dc_S_meet_39 (by decide +kernel) ?_
    refine lv_istore_n (lv' := [(2, .int (nI 0)), (0, .ref (d 2)), (1, .int (nI pl))]) C.x C.b dc_S_meet_40 rfl hl (by decide) rfl (fun ls hl => ?_)
    have hz : (∀ n, n ≠ 2 → so_3 n = so_3 n) ∧ ∀ j, so_3 2 j = if so 10 0 * 3 ≤ j ∧ j < so 10 0 * 3 + 0 then 0 else so 2 j := ⟨fun _ _ => rfl, fun j => by rw [if_neg (by omega), eso_3, us_n _ _ (by decide), eso_2, us_n _ _ (by decide), eso_1, us_n _ _ (by decide)]⟩
    have h3 : so_3 10 0 = so 10 0 := by rw [eso_3, us_n _ _ (by decide), eso_2, us_n _ _ (by decide), eso_1, us_n _ _ (by decide)]
    have lp_41 : ∀ (n_41 : Nat) (k : Nat) (z : Nat → Nat → Nat) (H : Heap) (locs : List Loc) (ls : Array Slot), 3 - k < n_41 → (k ≤ 3) → ((∀ n, n ≠ 2 → z n = so_3 n) ∧ ∀ j, z 2 j = if so 10 0 * 3 ≤ j ∧ j < so 10 0 * 3 + k then 0 else so 2 j) → sT Γ s (xW Γ d hm mc z tl tb wr) H locs → lv_has ls 3 [(2, .int (nI k)), (0, .ref (d 2)), (1, .int (nI pl))] → W p l e rm_S_meet s m args below meth c H locs 0 0 Q (F0 m 41 ls []) := by
      intro n_41
      induction n_41 with
      | zero => intro k z H locs ls hms; exact absurd hms (Nat.not_lt_zero _)
      | succ n_41 ih_41 =>
        intro k z H locs ls hms hk hz h hl
        have z10 : z 10 0 = so 10 0 := by rw [hz.1 10 (by decide)]; exact h3
        refine lv_iload_n C.x C.b dc_S_meet_41 rfl (lv_at hl 0 rfl) ?_
        refine lv_iconst (v := (nI 3)) C.x C.b dc_S_meet_42 (by decide +kernel) ?_
        refine bc_ge (tgt := 66) C (by omega) (by omega) dc_S_meet_43 (by decide) (fun q43 => ?_) (fun q43 => ?_)
        · refine lv_aload_n C.x C.b dc_S_meet_66 rfl (lv_at hl 1 rfl) ?_
          refine lv_dup C.x C.b dc_S_meet_67 rfl ?_
          refine rg_get C h 2 rfl rfl in_S 4 (by decide) fl_S_51 rfl dc_S_meet_68 ?_
          refine lv_iconst (v := (nI 1)) C.x C.b dc_S_meet_71 (by decide +kernel) ?_
          refine lv_iadd C.x C.b dc_S_meet_72 ?_
          refine tp_i (nI_add (z 10 0) 1) ?_
          refine rg_put (ty := .int) C h 2 rfl rfl in_S tk_S nm_S 4 (by decide) fl_S_51 rfl (by decide +kernel) rfl rfl (by simp) dc_S_meet_73 (fun H locs h => ?_)
          obtain ⟨so_4, eso_4⟩ : ∃ zz9, zz9 = us z 10 (us (z 10) 0 ((z 10 0) + 1)) := ⟨_, rfl⟩
          have xso_4 : so_4 10 0 = ((z 10 0) + 1) ∧ so_4 10 1 = z 10 1 ∧ so_4 10 2 = z 10 2 ∧ so_4 10 3 = z 10 3 := by rw [eso_4, us_s]; exact ⟨us_s _ _ _, us_n _ _ (by decide), us_n _ _ (by decide), us_n _ _ (by decide)⟩
          replace h : sT Γ s (xW Γ d hm mc so_4 tl tb wr) H locs := by rw [eso_4]; exact h
          refine lv_aload_n C.x C.b dc_S_meet_76 rfl (lv_at hl 1 rfl) ?_
          refine rg_get C h 2 rfl rfl in_S 1 (by decide) fl_S_20 rfl dc_S_meet_77 ?_
          refine lv_iload_n C.x C.b dc_S_meet_80 rfl (lv_at hl 2 rfl) ?_
          refine lv_aload_n C.x C.b dc_S_meet_81 rfl (lv_at hl 1 rfl) ?_
          refine rg_get C h 2 rfl rfl in_S 4 (by decide) fl_S_51 rfl dc_S_meet_82 ?_
          refine rg_ist C h 5 rfl (by omega) (by decide) dc_S_meet_85 (fun H locs h => ?_)
          obtain ⟨so_5, eso_5⟩ : ∃ zz9, zz9 = us so_4 0 (us (so_4 0) pl (so_4 10 0)) := ⟨_, rfl⟩
          have xso_5 : so_5 10 0 = so_4 10 0 ∧ so_5 10 1 = so_4 10 1 ∧ so_5 10 2 = so_4 10 2 ∧ so_5 10 3 = so_4 10 3 := by rw [eso_5, us_n _ _ (by decide)]; exact ⟨rfl, rfl, rfl, rfl⟩
          replace h : sT Γ s (xW Γ d hm mc so_5 tl tb wr) H locs := by rw [eso_5]; exact h
          have hR : mtR so pl so_5 := by
            have k3 : k = 3 := by omega
            subst k3
            have c0 : so_1 = us so 1 (us (so 1) (so 10 0) pl) := eso_1
            refine ⟨?_, ?_, fun j => ?_, ?_, ?_, ?_, fun n h5 h9 => ?_⟩
            · rw [eso_5, us_s, eso_4, us_s, us_s, us_n _ _ (by decide), z10, hz.1 0 (by decide), eso_3, us_n _ _ (by decide), eso_2, us_n _ _ (by decide), eso_1, us_n _ _ (by decide)]
            · rw [eso_5, us_n _ _ (by decide), eso_4, us_n _ _ (by decide), hz.1 1 (by decide), eso_3, us_n _ _ (by decide), eso_2, us_n _ _ (by decide), eso_1, us_s]
            · rw [eso_5, us_n _ _ (by decide), eso_4, us_n _ _ (by decide)]; exact hz.2 j
            · rw [eso_5, us_n _ _ (by decide), eso_4, us_n _ _ (by decide), hz.1 3 (by decide), eso_3, us_n _ _ (by decide), eso_2, us_s, eso_1, us_n _ _ (by decide), us_n _ _ (by decide)]
            · rw [eso_5, us_n _ _ (by decide), eso_4, us_n _ _ (by decide), hz.1 4 (by decide), eso_3, us_s, eso_2, us_n _ _ (by decide), us_n _ _ (by decide), eso_1, us_n _ _ (by decide), us_n _ _ (by decide)]
            · rw [eso_5, us_n _ _ (by decide), eso_4, us_s, z10, hz.1 10 (by decide), eso_3, us_n _ _ (by decide), eso_2, us_n _ _ (by decide), eso_1, us_n _ _ (by decide)]
            · rw [eso_5, us_n _ _ (by omega), eso_4, us_n _ _ (by omega), hz.1 n (by omega), eso_3, us_n _ _ (by omega), eso_2, us_n _ _ (by omega), eso_1, us_n _ _ (by omega)]
          have hSE := hS.meet (mok_ok hM).2.2 hv q6 hw hR
          have hj0 : so_5 0 pl = so 10 0 + 1 := by rw [hR.1, us_s]
          have hm0 : so_5 10 0 = so 10 0 + 1 := by rw [hR.2.2.2.2.2.1, us_s]
          refine lv_aload_n C.x C.b dc_S_meet_86 rfl (lv_at hl 1 rfl) ?_
          refine rg_get C h 2 rfl rfl in_S 1 (by decide) fl_S_20 rfl dc_S_meet_87 ?_
          refine lv_iload_n C.x C.b dc_S_meet_90 rfl (lv_at hl 2 rfl) ?_
          refine rg_ild C h 5 rfl (by omega) (by decide) dc_S_meet_91 ?_
          refine lv_iconst (v := (nI 1)) C.x C.b dc_S_meet_92 (by decide +kernel) ?_
          refine lv_isub C.x C.b dc_S_meet_93 ?_
          refine tp_i (pk_sub (a := (so_5 0 pl)) (b := 1) (by omega)) ?_
          rw [hQ]
          exact rt_i C (so_5 0 pl - 1, so_5) h (⟨rfl, hSE.1, hSE.2, by show so_5 0 pl - 1 < so_5 10 0; omega, by show so_5 1 (so_5 0 pl - 1) = pl; rw [hj0, Nat.add_sub_cancel, hR.2.1, us_s], fun _ => ⟨by show so_5 0 pl - 1 = _; omega, hm0⟩⟩) dc_S_meet_94
        · refine lv_aload_n C.x C.b dc_S_meet_46 rfl (lv_at hl 1 rfl) ?_
          refine rg_get C h 2 rfl rfl in_S 3 (by decide) fl_S_27 rfl dc_S_meet_47 ?_
          refine lv_aload_n C.x C.b dc_S_meet_50 rfl (lv_at hl 1 rfl) ?_
          refine rg_get C h 2 rfl rfl in_S 4 (by decide) fl_S_51 rfl dc_S_meet_51 ?_
          refine lv_iconst (v := (nI 3)) C.x C.b dc_S_meet_54 (by decide +kernel) ?_
          refine lv_imul C.x C.b dc_S_meet_55 ?_
          refine tp_i (pk_mul (z 10 0) 3) ?_
          refine lv_iload_n C.x C.b dc_S_meet_56 rfl (lv_at hl 0 rfl) ?_
          refine lv_iadd C.x C.b dc_S_meet_57 ?_
          refine tp_i (nI_add ((z 10 0) * 3) k) ?_
          refine lv_iconst (v := (nI 0)) C.x C.b dc_S_meet_58 (by decide +kernel) ?_
          refine rg_ist C h 7 rfl (by omega) (by decide) dc_S_meet_59 (fun H locs h => ?_)
          obtain ⟨so_6, eso_6⟩ : ∃ zz9, zz9 = us z 2 (us (z 2) (((z 10 0) * 3) + k) 0) := ⟨_, rfl⟩
          have xso_6 : so_6 10 0 = z 10 0 ∧ so_6 10 1 = z 10 1 ∧ so_6 10 2 = z 10 2 ∧ so_6 10 3 = z 10 3 := by rw [eso_6, us_n _ _ (by decide)]; exact ⟨rfl, rfl, rfl, rfl⟩
          replace h : sT Γ s (xW Γ d hm mc so_6 tl tb wr) H locs := by rw [eso_6]; exact h
          refine lv_iinc (v := nI (k + 1)) (lv' := [(2, .int (nI (k + 1))), (0, .ref (d 2)), (1, .int (nI pl))]) C.x C.b dc_S_meet_60 hl (k := 0) rfl (nI_1 k) (by decide) rfl (fun ls hl => ?_)
          refine lv_goto (tgt := 41) C.x C.b dc_S_meet_63 (by decide) ?_
          have hz : (∀ n, n ≠ 2 → so_6 n = so_3 n) ∧ ∀ j, so_6 2 j = if so 10 0 * 3 ≤ j ∧ j < so 10 0 * 3 + (k + 1) then 0 else so 2 j := by
            refine ⟨fun n hn => by rw [eso_6, us_n _ _ hn]; exact hz.1 n hn, fun j => ?_⟩
            rw [eso_6, us_s]
            by_cases hj : j = z 10 0 * 3 + k
            · rw [hj, us_s, if_pos (by omega)]
            · rw [us_n _ _ hj, hz.2 j]
              by_cases h9 : so 10 0 * 3 ≤ j ∧ j < so 10 0 * 3 + k
              · rw [if_pos h9, if_pos (by omega)]
              · rw [if_neg h9, if_neg (by omega)]
          exact ih_41 (k + 1) so_6 _ _ _ (by omega) (by first | assumption | omega) (by first | assumption | omega) h (lv_sub hl [0, 1, 2] rfl)
    exact lp_41 _ 0 so_3 _ _ _ (Nat.lt_succ_self _) (by first | assumption | omega) (by first | assumption | omega) h (lv_sub hl [0, 1, 2] rfl)

abbrev rm_S_follow : Room := { frames := 3, cells := 0, slots := 0, locals := 69 }
set_option maxRecDepth 100000 in
set_option maxHeartbeats 4000000 in
theorem c_S_follow (l : Launch) (Γ : gG) (d : Nat → Nat) (hm : Nat) (mc : va_E) (so : Nat → Nat → Nat) (tl : Nat → Nat → Int64) (tb : Nat → Nat → Nat → Nat) (wr : va_W) (M : mM) (i lt : Nat) (hM : mOK d tb mc M) (hS : SI M so) (hi : i < so 10 0) (hlt : lt < 3) : cT l Γ my_S_follow bc_S_follow 4 (some .int) rm_S_follow [.ref (d 2), .int (nI i), .int (nI lt)] (xW Γ d hm mc so tl tb wr) (S := Nat × (Nat → Nat → Nat)) (fun v u => v = some (.int (nI u.1)) ∧ SI M u.2 ∧ sE so u.2 ∧ u.1 < u.2 10 0 ∧ u.2 1 u.1 = M.2.1 (so 1 i) lt ∧ u.2 2 (i * 3 + lt) = u.1 + 1 ∧ (so 2 (i * 3 + lt) ≠ 0 → u.2 = so)) (fun u => xW Γ d hm mc u.2 tl tb wr) := by
  refine cT.start (by decide) (Nat.le_of_ble_eq_true rfl) (fun p e s m args below meth c ls Q hQ C hmn h hl => ?_)
  replace hl : lv_has ls 4 [(0, .ref (d 2)), (1, .int (nI i)), (2, .int (nI lt))] := hl
  have hS1 := hS.1
  have hok := mok_ok hM
  have hvi := (hS.2.1 i hi).1
  refine lv_iload_n C.x C.b dc_S_follow_0 rfl (lv_at hl 1 rfl) ?_
  refine lv_iconst (v := (nI 3)) C.x C.b dc_S_follow_1 (by decide +kernel) ?_
  refine lv_imul C.x C.b dc_S_follow_2 ?_
  refine tp_i (pk_mul i 3) ?_
  refine lv_iload_n C.x C.b dc_S_follow_3 rfl (lv_at hl 2 rfl) ?_
  refine lv_iadd C.x C.b dc_S_follow_4 ?_
  refine tp_i (nI_add (i * 3) lt) ?_
  refine lv_istore_n (lv' := [(3, .int (nI ((i * 3) + lt))), (0, .ref (d 2)), (1, .int (nI i)), (2, .int (nI lt))]) C.x C.b dc_S_follow_5 rfl hl (by decide) rfl (fun ls hl => ?_)
  refine lv_aload_n C.x C.b dc_S_follow_6 rfl (lv_at hl 1 rfl) ?_
  refine rg_get C h 2 rfl rfl in_S 3 (by decide) fl_S_27 rfl dc_S_follow_7 ?_
  refine lv_iload_n C.x C.b dc_S_follow_10 rfl (lv_at hl 0 rfl) ?_
  refine rg_ild C h 7 rfl (by omega) (by decide) dc_S_follow_11 ?_
  refine bz_ne (tgt := 41) C (by
      by_cases hz : so 2 (i * 3 + lt) = 0
      · omega
      · have := (hS.2.2.2.1 i lt hi hlt hz).1; omega) dc_S_follow_12 (by decide) (fun q12 => ?_) (fun q12 => ?_)
  · obtain ⟨hx1, hx2⟩ := hS.2.2.2.1 i lt hi hlt q12
    have hSE : SI M so ∧ sE so so := ⟨hS, sE.rf⟩
    have hb : so 2 (i * 3 + lt) < 2 ^ 31 := by have := hS.1; omega
    refine lv_aload_n C.x C.b dc_S_follow_41 rfl (lv_at hl 1 rfl) ?_
    refine rg_get C h 2 rfl rfl in_S 3 (by decide) fl_S_27 rfl dc_S_follow_42 ?_
    refine lv_iload_n C.x C.b dc_S_follow_45 rfl (lv_at hl 0 rfl) ?_
    refine rg_ild C h 7 rfl (by omega) (by decide) dc_S_follow_46 ?_
    refine lv_iconst (v := (nI 1)) C.x C.b dc_S_follow_47 (by decide +kernel) ?_
    refine lv_isub C.x C.b dc_S_follow_48 ?_
    refine tp_i (pk_sub (a := (so 2 ((i * 3) + lt))) (b := 1) (by omega)) ?_
    rw [hQ]
    exact rt_i C (so 2 (i * 3 + lt) - 1, so) h (⟨rfl, hSE.1, hSE.2, by show so 2 (i * 3 + lt) - 1 < so 10 0; omega, hx2, by show so 2 (i * 3 + lt) = so 2 (i * 3 + lt) - 1 + 1; omega, fun _ => rfl⟩) dc_S_follow_49
  · refine lv_aload_n C.x C.b dc_S_follow_15 rfl (lv_at hl 1 rfl) ?_
    refine rg_get C h 2 rfl rfl in_S 3 (by decide) fl_S_27 rfl dc_S_follow_16 ?_
    refine lv_iload_n C.x C.b dc_S_follow_19 rfl (lv_at hl 0 rfl) ?_
    refine lv_iconst (v := (nI 1)) C.x C.b dc_S_follow_20 (by decide +kernel) ?_
    refine lv_aload_n C.x C.b dc_S_follow_21 rfl (lv_at hl 1 rfl) ?_
    refine lv_aload_n C.x C.b dc_S_follow_22 rfl (lv_at hl 1 rfl) ?_
    refine rg_get C h 2 rfl rfl in_S 0 (by decide) fl_S_14 rfl dc_S_follow_23 ?_
    refine lv_aload_n C.x C.b dc_S_follow_26 rfl (lv_at hl 1 rfl) ?_
    refine rg_get C h 2 rfl rfl in_S 2 (by decide) fl_S_24 rfl dc_S_follow_27 ?_
    refine lv_iload_n C.x C.b dc_S_follow_30 rfl (lv_at hl 2 rfl) ?_
    refine rg_ild C h 6 rfl (by omega) (by decide) dc_S_follow_31 ?_
    refine lv_iload_n C.x C.b dc_S_follow_32 rfl (lv_at hl 3 rfl) ?_
    refine kv_step (rest := [.ref (d 2), .int (nI 1), .int (nI ((i * 3) + lt)), .ref (d 7)]) C h hl.1 hM (hvi) (by omega) lk_S_109 (by decide) (by decide) (Nat.le_of_ble_eq_true rfl) dc_S_follow_33 (fun H locs h => ?_)
    refine kv_V (As := [.int (nI (M.2.1 (so 1 i) lt))]) (rest := [.int (nI 1), .int (nI ((i * 3) + lt)), .ref (d 7)]) C h hl.1 (c_S_meet l Γ d hm mc so tl tb wr M (M.2.1 (so 1 i) lt) hM hS (hok.2.2 _ (hok.2.1 _ lt hvi hlt)) (hok.2.1 _ lt hvi hlt) (by obtain ⟨w, w1, w2⟩ := hS.2.2.2.2.2.2 i hi; exact ⟨w ++ [lt], lts_app w1 (lts_cons hlt lts_nil), by rw [mrun_snoc, w2]⟩)) mw_S_meet lk_S_67 (q0 := 2) rfl rfl rfl (by decide) (by decide) (Nat.le_of_ble_eq_true rfl) dc_S_follow_36 (fun v u H locs hp h => ?_)
    obtain ⟨⟨j_1, so_2⟩, rfl⟩ : ∃ zz9, zz9 = u := ⟨_, rfl⟩
    obtain ⟨rfl, SI_so_2, sE_so_2, lt_j_1, pl_j_1, nw_j_1⟩ := hp
    dsimp only at SI_so_2 sE_so_2 lt_j_1 pl_j_1 nw_j_1
    replace h : sT Γ s (xW Γ d hm mc so_2 tl tb wr) H locs := h
    refine W.eq (g2 := F0 m 39 ls [.int (nI j_1), .int (nI 1), .int (nI ((i * 3) + lt)), .ref (d 7)]) rfl ?_
    refine lv_iadd C.x C.b dc_S_follow_39 ?_
    refine tp_i (nI_add 1 j_1) ?_
    refine rg_ist C h 7 rfl (by omega) (by decide) dc_S_follow_40 (fun H locs h => ?_)
    obtain ⟨so_3, eso_3⟩ : ∃ zz9, zz9 = us so_2 2 (us (so_2 2) ((i * 3) + lt) (1 + j_1)) := ⟨_, rfl⟩
    have xso_3 : so_3 10 0 = so_2 10 0 ∧ so_3 10 1 = so_2 10 1 ∧ so_3 10 2 = so_2 10 2 ∧ so_3 10 3 = so_2 10 3 := by rw [eso_3, us_n _ _ (by decide)]; exact ⟨rfl, rfl, rfl, rfl⟩
    replace h : sT Γ s (xW Γ d hm mc so_3 tl tb wr) H locs := by rw [eso_3]; exact h
    have hz := SI_so_2.follow (so' := so_3) (i := i) (l := lt) (j := j_1) (by have := sE_so_2.2.2.2.2.1; omega) hlt lt_j_1 (by rw [pl_j_1, (sE_so_2.2.2.2.2.2 i hi).1]) (by rw [eso_3, Nat.add_comm 1 j_1])
    have hSE : SI M so_3 ∧ sE so so_3 := ⟨hz.1, sE_so_2.tr hz.2⟩
    have hj2 : so_3 2 (i * 3 + lt) = j_1 + 1 := by rw [eso_3, us_s, us_s, Nat.add_comm]
    have hj1 : so_3 1 j_1 = M.2.1 (so 1 i) lt := by rw [eso_3, us_n _ _ (by decide)]; exact pl_j_1
    have hj0 : j_1 < so_3 10 0 := by rw [eso_3, us_n _ _ (by decide)]; exact lt_j_1
    have hb : so_3 2 (i * 3 + lt) < 2 ^ 31 := by have := hz.1.1; omega
    refine lv_aload_n C.x C.b dc_S_follow_41 rfl (lv_at hl 1 rfl) ?_
    refine rg_get C h 2 rfl rfl in_S 3 (by decide) fl_S_27 rfl dc_S_follow_42 ?_
    refine lv_iload_n C.x C.b dc_S_follow_45 rfl (lv_at hl 0 rfl) ?_
    refine rg_ild C h 7 rfl (by omega) (by decide) dc_S_follow_46 ?_
    refine lv_iconst (v := (nI 1)) C.x C.b dc_S_follow_47 (by decide +kernel) ?_
    refine lv_isub C.x C.b dc_S_follow_48 ?_
    refine tp_i (pk_sub (a := (so_3 2 ((i * 3) + lt))) (b := 1) (by omega)) ?_
    rw [hQ]
    exact rt_i C (so_3 2 (i * 3 + lt) - 1, so_3) h (⟨rfl, hSE.1, hSE.2, by show so_3 2 (i * 3 + lt) - 1 < so_3 10 0; omega, by show so_3 1 (so_3 2 (i * 3 + lt) - 1) = _; rw [hj2, Nat.add_sub_cancel]; exact hj1, by show so_3 2 (i * 3 + lt) = so_3 2 (i * 3 + lt) - 1 + 1; omega, fun zz => absurd q12 zz⟩) dc_S_follow_49

abbrev rm_S_askTests : Room := { frames := 4, cells := 0, slots := 0, locals := 92 }
set_option maxRecDepth 100000 in
set_option maxHeartbeats 4000000 in
theorem c_S_askTests (l : Launch) (Γ : gG) (d : Nat → Nat) (hm : Nat) (mc : va_E) (so : Nat → Nat → Nat) (tl : Nat → Nat → Int64) (tb : Nat → Nat → Nat → Nat) (wr : va_W) (M : mM) (i : Nat) (hM : mOK d tb mc M) (hS : SI M so) (hi : i < so 10 0) : cT l Γ my_S_askTests bc_S_askTests 6 (some .int) rm_S_askTests [.ref (d 2), .int (nI i)] (xW Γ d hm mc so tl tb wr) (S := Nat → Nat → Nat) (fun v u => v = some (.int (nI (u 3 i))) ∧ SI M u ∧ sE so u ∧ u 4 i = u 10 1) (fun u => xW Γ d hm mc u tl tb wr) := by
  refine cT.start (by decide) (Nat.le_of_ble_eq_true rfl) (fun p e s m args below meth c ls Q hQ C hmn h hl => ?_)
  replace hl : lv_has ls 6 [(0, .ref (d 2)), (1, .int (nI i))] := hl
  have hS1 := hS.1
  have hok := mok_ok hM
  have ht0 := (hS.2.2.2.2.2.1 i hi).1
  refine lv_aload_n C.x C.b dc_S_askTests_0 rfl (lv_at hl 0 rfl) ?_
  refine rg_get C h 2 rfl rfl in_S 6 (by decide) fl_S_33 rfl dc_S_askTests_1 ?_
  refine lv_iload_n C.x C.b dc_S_askTests_4 rfl (lv_at hl 1 rfl) ?_
  refine rg_ild C h 9 rfl (by omega) (by decide) dc_S_askTests_5 ?_
  refine lv_istore_n (lv' := [(2, .int (nI (so 4 i))), (0, .ref (d 2)), (1, .int (nI i))]) C.x C.b dc_S_askTests_6 rfl hl (by decide) rfl (fun ls hl => ?_)
  have SI_z := hS
  have sE_z : sE so so := sE.rf
  have hA : ∀ t2, t2 < so 4 i → macc M (so 1 i) (tW so t2 t2) = true → (so 3 i).testBit t2 = true := fun t2 ht2 q => ((hS.2.2.2.2.2.1 i hi).2.2 t2 (by have := (hS.2.2.2.2.2.1 i hi).1; omega)).2 ht2 q
  have lp_7 : ∀ (n_7 : Nat) (t : Nat) (z : Nat → Nat → Nat) (H : Heap) (locs : List Loc) (ls : Array Slot), so 10 1 - t < n_7 → (t ≤ so 10 1) → (SI M z) → (sE so z) → (∀ t2, t2 < t → macc M (so 1 i) (tW so t2 t2) = true → (z 3 i).testBit t2 = true) → sT Γ s (xW Γ d hm mc z tl tb wr) H locs → lv_has ls 6 [(2, .int (nI t)), (0, .ref (d 2)), (1, .int (nI i))] → W p l e rm_S_askTests s m args below meth c H locs 0 0 Q (F0 m 7 ls []) := by
    intro n_7
    induction n_7 with
    | zero => intro t z H locs ls hms; exact absurd hms (Nat.not_lt_zero _)
    | succ n_7 ih_7 =>
      intro t z H locs ls hms htt SI_z sE_z hA h hl
      have hz1 := SI_z.1
      have hz2 : z 10 1 = so 10 1 := sE_z.2.1
      have hz0 : so 10 0 ≤ z 10 0 := sE_z.2.2.2.2.1
      have ht10 := hS.2.2.2.2.1.2.1
      refine lv_iload_n C.x C.b dc_S_askTests_7 rfl (lv_at hl 0 rfl) ?_
      refine lv_aload_n C.x C.b dc_S_askTests_8 rfl (lv_at hl 1 rfl) ?_
      refine rg_get C h 2 rfl rfl in_S 9 (by decide) fl_S_55 rfl dc_S_askTests_9 ?_
      refine bc_ge (tgt := 96) C (by omega) (by omega) dc_S_askTests_12 (by decide) (fun q12 => ?_) (fun q12 => ?_)
      · refine lv_aload_n C.x C.b dc_S_askTests_96 rfl (lv_at hl 1 rfl) ?_
        refine rg_get C h 2 rfl rfl in_S 6 (by decide) fl_S_33 rfl dc_S_askTests_97 ?_
        refine lv_iload_n C.x C.b dc_S_askTests_100 rfl (lv_at hl 2 rfl) ?_
        refine lv_aload_n C.x C.b dc_S_askTests_101 rfl (lv_at hl 1 rfl) ?_
        refine rg_get C h 2 rfl rfl in_S 9 (by decide) fl_S_55 rfl dc_S_askTests_102 ?_
        refine rg_ist C h 9 rfl (by omega) (by decide) dc_S_askTests_105 (fun H locs h => ?_)
        obtain ⟨so_1, eso_1⟩ : ∃ zz9, zz9 = us z 4 (us (z 4) i (z 10 1)) := ⟨_, rfl⟩
        have xso_1 : so_1 10 0 = z 10 0 ∧ so_1 10 1 = z 10 1 ∧ so_1 10 2 = z 10 2 ∧ so_1 10 3 = z 10 3 := by rw [eso_1, us_n _ _ (by decide)]; exact ⟨rfl, rfl, rfl, rfl⟩
        replace h : sT Γ s (xW Γ d hm mc so_1 tl tb wr) H locs := by rw [eso_1]; exact h
        refine lv_aload_n C.x C.b dc_S_askTests_106 rfl (lv_at hl 1 rfl) ?_
        refine rg_get C h 2 rfl rfl in_S 5 (by decide) fl_S_30 rfl dc_S_askTests_107 ?_
        refine lv_iload_n C.x C.b dc_S_askTests_110 rfl (lv_at hl 2 rfl) ?_
        refine rg_ild C h 8 rfl (by omega) (by decide) dc_S_askTests_111 ?_
        have hf := SI_z.all (so' := so_1) (i := i) (by omega) (fun t2 ht2 q => hA t2 (by omega) (by rw [(sE_z.2.2.2.2.2 i hi).1, tW_eq (sE_z.1 5 (by decide) (by decide)) (sE_z.1 6 (by decide) (by decide))] at q; exact q)) eso_1
        rw [hQ]
        exact rt_i C so_1 h (⟨rfl, hf.1, sE_z.tr hf.2, by show so_1 4 i = so_1 10 1; rw [xso_1.2.1, eso_1, us_s, us_s]⟩) dc_S_askTests_112
      · refine lv_iload_n C.x C.b dc_S_askTests_15 rfl (lv_at hl 2 rfl) ?_
        refine lv_istore_n (lv' := [(3, .int (nI i)), (2, .int (nI t)), (0, .ref (d 2)), (1, .int (nI i))]) C.x C.b dc_S_askTests_16 rfl hl (by decide) rfl (fun ls hl => ?_)
        refine lv_iload_n C.x C.b dc_S_askTests_17 rfl (lv_at hl 1 rfl) ?_
        refine lv_istore (lv' := [(4, .int (nI t)), (3, .int (nI i)), (2, .int (nI t)), (0, .ref (d 2)), (1, .int (nI i))]) C.x C.b dc_S_askTests_18 hl (by decide) rfl (fun ls hl => ?_)
        refine lv_iconst (v := (nI 0)) C.x C.b dc_S_askTests_20 (by decide +kernel) ?_
        refine lv_istore (lv' := [(5, .int (nI 0)), (4, .int (nI t)), (3, .int (nI i)), (2, .int (nI t)), (0, .ref (d 2)), (1, .int (nI i))]) C.x C.b dc_S_askTests_21 hl (by decide) rfl (fun ls hl => ?_)
        have hacc : macc M (z 1 i) (tW so (t - 0) t) = macc M (so 1 i) (tW so t t) := by rw [(sE_z.2.2.2.2.2 i hi).1, Nat.sub_zero]
        have lp_23 : ∀ (n_23 : Nat) (k : Nat) (a : Nat) (lf : Nat) (y : Nat → Nat → Nat) (H : Heap) (locs : List Loc) (ls : Array Slot), t - k < n_23 → (k ≤ t) → (lf ≤ t - k) → (SI M y) → (sE so y) → (a < y 10 0) → (∀ t2, t2 < t → macc M (so 1 i) (tW so t2 t2) = true → (y 3 i).testBit t2 = true) → (macc M (y 1 a) (tW so (t - k) lf) = macc M (so 1 i) (tW so t t)) → sT Γ s (xW Γ d hm mc y tl tb wr) H locs → lv_has ls 6 [(5, .int (nI k)), (4, .int (nI lf)), (3, .int (nI a)), (2, .int (nI t)), (0, .ref (d 2)), (1, .int (nI i))] → W p l e rm_S_askTests s m args below meth c H locs 0 0 Q (F0 m 23 ls []) := by
          intro n_23
          induction n_23 with
          | zero => intro k a lf y H locs ls hms; exact absurd hms (Nat.not_lt_zero _)
          | succ n_23 ih_23 =>
            intro k a lf y H locs ls hms hk hlf SI_y sE_y ha hyA hacc h hl
            have hy1 := SI_y.1
            have hy2 : y 10 1 = so 10 1 := sE_y.2.1
            have hy0 : so 10 0 ≤ y 10 0 := sE_y.2.2.2.2.1
            have hy5 : y 5 = so 5 := sE_y.1 5 (by decide) (by decide)
            refine lv_iload C.x C.b dc_S_askTests_23 (lv_at hl 0 rfl) ?_
            refine lv_iload_n C.x C.b dc_S_askTests_25 rfl (lv_at hl 3 rfl) ?_
            refine bc_ge (tgt := 62) C (by omega) (by omega) dc_S_askTests_26 (by decide) (fun q26 => ?_) (fun q26 => ?_)
            · have hl0 : lf = 0 := by omega
              rw [hl0, tW_0] at hacc
              replace hacc : M.2.2.1 (y 1 a) = macc M (so 1 i) (tW so t t) := hacc
              have hyi := (SI_y.2.2.2.2.2.1 i (by omega)).2.1
              have hp10 : 2 ^ y 10 1 ≤ 2 ^ 10 := Nat.pow_le_pow_right (by decide) (by omega)
              refine lv_aload_n C.x C.b dc_S_askTests_62 rfl (lv_at hl 4 rfl) ?_
              refine rg_get C h 2 rfl rfl in_S 0 (by decide) fl_S_14 rfl dc_S_askTests_63 ?_
              refine lv_aload_n C.x C.b dc_S_askTests_66 rfl (lv_at hl 4 rfl) ?_
              refine rg_get C h 2 rfl rfl in_S 2 (by decide) fl_S_24 rfl dc_S_askTests_67 ?_
              refine lv_iload_n C.x C.b dc_S_askTests_70 rfl (lv_at hl 2 rfl) ?_
              refine rg_ild C h 6 rfl (by omega) (by decide) dc_S_askTests_71 ?_
              refine kv_accepts (rest := []) C h hl.1 hM ((SI_y.2.1 a ha).1) lk_S_71 (by decide) (by decide) (Nat.le_of_ble_eq_true rfl) dc_S_askTests_72 (fun H locs h => ?_)
              refine bb_eq (tgt := 90) C dc_S_askTests_75 (by decide) (fun q75 => ?_) (fun q75 => ?_)
              · refine lv_iinc (v := nI (t + 1)) (lv' := [(2, .int (nI (t + 1))), (5, .int (nI k)), (4, .int (nI lf)), (3, .int (nI a)), (0, .ref (d 2)), (1, .int (nI i))]) C.x C.b dc_S_askTests_90 hl (k := 3) rfl (nI_1 t) (by decide) rfl (fun ls hl => ?_)
                refine lv_goto (tgt := 7) C.x C.b dc_S_askTests_93 (by decide) ?_
                have SI_n := SI_y
                have sE_n := sE_y
                have hA : ∀ t2, t2 < t + 1 → macc M (so 1 i) (tW so t2 t2) = true → (y 3 i).testBit t2 = true := fun t2 ht2 q => by
                  by_cases e : t2 = t
                  · subst e; rw [← hacc, q75] at q; cases q
                  · exact hyA t2 (by omega) q
                exact ih_7 (t + 1) y _ _ _ (by omega) (by first | assumption | omega) (by first | exact SI_n | exact SI_z) (by first | exact sE_n | exact sE_z) (by first | assumption | omega) h (lv_sub hl [0, 4, 5] rfl)
              · refine lv_aload_n C.x C.b dc_S_askTests_78 rfl (lv_at hl 4 rfl) ?_
                refine rg_get C h 2 rfl rfl in_S 5 (by decide) fl_S_30 rfl dc_S_askTests_79 ?_
                refine lv_iload_n C.x C.b dc_S_askTests_82 rfl (lv_at hl 5 rfl) ?_
                refine lv_dup2_11 C.x C.b dc_S_askTests_83 rfl rfl ?_
                refine rg_ild C h 8 rfl (by omega) (by decide) dc_S_askTests_84 ?_
                refine lv_iconst (v := (nI 1)) C.x C.b dc_S_askTests_85 (by decide +kernel) ?_
                refine lv_iload_n C.x C.b dc_S_askTests_86 rfl (lv_at hl 3 rfl) ?_
                refine lv_ishl C.x C.b dc_S_askTests_87 ?_
                refine tp_i (nI_shl1 (n := t) (by omega)) ?_
                refine lv_ior C.x C.b dc_S_askTests_88 ?_
                refine tp_i (nI_or (y 3 i) (2 ^ t)) ?_
                refine rg_ist C h 8 rfl (by omega) (by decide) dc_S_askTests_89 (fun H locs h => ?_)
                obtain ⟨so_2, eso_2⟩ : ∃ zz9, zz9 = us y 3 (us (y 3) i ((y 3 i) ||| (2 ^ t))) := ⟨_, rfl⟩
                have xso_2 : so_2 10 0 = y 10 0 ∧ so_2 10 1 = y 10 1 ∧ so_2 10 2 = y 10 2 ∧ so_2 10 3 = y 10 3 := by rw [eso_2, us_n _ _ (by decide)]; exact ⟨rfl, rfl, rfl, rfl⟩
                replace h : sT Γ s (xW Γ d hm mc so_2 tl tb wr) H locs := by rw [eso_2]; exact h
                refine lv_iinc (v := nI (t + 1)) (lv' := [(2, .int (nI (t + 1))), (5, .int (nI k)), (4, .int (nI lf)), (3, .int (nI a)), (0, .ref (d 2)), (1, .int (nI i))]) C.x C.b dc_S_askTests_90 hl (k := 3) rfl (nI_1 t) (by decide) rfl (fun ls hl => ?_)
                refine lv_goto (tgt := 7) C.x C.b dc_S_askTests_93 (by decide) ?_
                have hb := SI_y.bit (so' := so_2) (i := i) (t := t) (by omega) (by omega) (by rw [(sE_y.2.2.2.2.2 i hi).1, tW_eq (sE_y.1 5 (by decide) (by decide)) (sE_y.1 6 (by decide) (by decide)), ← hacc]; exact q75) eso_2
                have SI_n := hb.1
                have sE_n := sE_y.tr hb.2
                have hA : ∀ t2, t2 < t + 1 → macc M (so 1 i) (tW so t2 t2) = true → (so_2 3 i).testBit t2 = true := fun t2 ht2 q => by
                  by_cases e : t2 = t
                  · subst e; rw [eso_2, us_s, us_s, Nat.testBit_or, Nat.testBit_two_pow]; simp
                  · exact (hb.2.2.2.2.2.2 i (by omega)).2.2.1 t2 (hyA t2 (by omega) q)
                exact ih_7 (t + 1) so_2 _ _ _ (by omega) (by first | assumption | omega) (by first | exact SI_n | exact SI_z) (by first | exact sE_n | exact sE_z) (by first | assumption | omega) h (lv_sub hl [0, 4, 5] rfl)
            · refine lv_iload C.x C.b dc_S_askTests_29 (lv_at hl 1 rfl) ?_
              refine bz_le (tgt := 62) C (by omega) dc_S_askTests_31 (by decide) (fun q31 => ?_) (fun q31 => ?_)
              · have hl0 : lf = 0 := by omega
                rw [hl0, tW_0] at hacc
                replace hacc : M.2.2.1 (y 1 a) = macc M (so 1 i) (tW so t t) := hacc
                have hyi := (SI_y.2.2.2.2.2.1 i (by omega)).2.1
                have hp10 : 2 ^ y 10 1 ≤ 2 ^ 10 := Nat.pow_le_pow_right (by decide) (by omega)
                refine lv_aload_n C.x C.b dc_S_askTests_62 rfl (lv_at hl 4 rfl) ?_
                refine rg_get C h 2 rfl rfl in_S 0 (by decide) fl_S_14 rfl dc_S_askTests_63 ?_
                refine lv_aload_n C.x C.b dc_S_askTests_66 rfl (lv_at hl 4 rfl) ?_
                refine rg_get C h 2 rfl rfl in_S 2 (by decide) fl_S_24 rfl dc_S_askTests_67 ?_
                refine lv_iload_n C.x C.b dc_S_askTests_70 rfl (lv_at hl 2 rfl) ?_
                refine rg_ild C h 6 rfl (by omega) (by decide) dc_S_askTests_71 ?_
                refine kv_accepts (rest := []) C h hl.1 hM ((SI_y.2.1 a ha).1) lk_S_71 (by decide) (by decide) (Nat.le_of_ble_eq_true rfl) dc_S_askTests_72 (fun H locs h => ?_)
                refine bb_eq (tgt := 90) C dc_S_askTests_75 (by decide) (fun q75 => ?_) (fun q75 => ?_)
                · refine lv_iinc (v := nI (t + 1)) (lv' := [(2, .int (nI (t + 1))), (5, .int (nI k)), (4, .int (nI lf)), (3, .int (nI a)), (0, .ref (d 2)), (1, .int (nI i))]) C.x C.b dc_S_askTests_90 hl (k := 3) rfl (nI_1 t) (by decide) rfl (fun ls hl => ?_)
                  refine lv_goto (tgt := 7) C.x C.b dc_S_askTests_93 (by decide) ?_
                  have SI_n := SI_y
                  have sE_n := sE_y
                  have hA : ∀ t2, t2 < t + 1 → macc M (so 1 i) (tW so t2 t2) = true → (y 3 i).testBit t2 = true := fun t2 ht2 q => by
                    by_cases e : t2 = t
                    · subst e; rw [← hacc, q75] at q; cases q
                    · exact hyA t2 (by omega) q
                  exact ih_7 (t + 1) y _ _ _ (by omega) (by first | assumption | omega) (by first | exact SI_n | exact SI_z) (by first | exact sE_n | exact sE_z) (by first | assumption | omega) h (lv_sub hl [0, 4, 5] rfl)
                · refine lv_aload_n C.x C.b dc_S_askTests_78 rfl (lv_at hl 4 rfl) ?_
                  refine rg_get C h 2 rfl rfl in_S 5 (by decide) fl_S_30 rfl dc_S_askTests_79 ?_
                  refine lv_iload_n C.x C.b dc_S_askTests_82 rfl (lv_at hl 5 rfl) ?_
                  refine lv_dup2_11 C.x C.b dc_S_askTests_83 rfl rfl ?_
                  refine rg_ild C h 8 rfl (by omega) (by decide) dc_S_askTests_84 ?_
                  refine lv_iconst (v := (nI 1)) C.x C.b dc_S_askTests_85 (by decide +kernel) ?_
                  refine lv_iload_n C.x C.b dc_S_askTests_86 rfl (lv_at hl 3 rfl) ?_
                  refine lv_ishl C.x C.b dc_S_askTests_87 ?_
                  refine tp_i (nI_shl1 (n := t) (by omega)) ?_
                  refine lv_ior C.x C.b dc_S_askTests_88 ?_
                  refine tp_i (nI_or (y 3 i) (2 ^ t)) ?_
                  refine rg_ist C h 8 rfl (by omega) (by decide) dc_S_askTests_89 (fun H locs h => ?_)
                  obtain ⟨so_3, eso_3⟩ : ∃ zz9, zz9 = us y 3 (us (y 3) i ((y 3 i) ||| (2 ^ t))) := ⟨_, rfl⟩
                  have xso_3 : so_3 10 0 = y 10 0 ∧ so_3 10 1 = y 10 1 ∧ so_3 10 2 = y 10 2 ∧ so_3 10 3 = y 10 3 := by rw [eso_3, us_n _ _ (by decide)]; exact ⟨rfl, rfl, rfl, rfl⟩
                  replace h : sT Γ s (xW Γ d hm mc so_3 tl tb wr) H locs := by rw [eso_3]; exact h
                  refine lv_iinc (v := nI (t + 1)) (lv' := [(2, .int (nI (t + 1))), (5, .int (nI k)), (4, .int (nI lf)), (3, .int (nI a)), (0, .ref (d 2)), (1, .int (nI i))]) C.x C.b dc_S_askTests_90 hl (k := 3) rfl (nI_1 t) (by decide) rfl (fun ls hl => ?_)
                  refine lv_goto (tgt := 7) C.x C.b dc_S_askTests_93 (by decide) ?_
                  have hb := SI_y.bit (so' := so_3) (i := i) (t := t) (by omega) (by omega) (by rw [(sE_y.2.2.2.2.2 i hi).1, tW_eq (sE_y.1 5 (by decide) (by decide)) (sE_y.1 6 (by decide) (by decide)), ← hacc]; exact q75) eso_3
                  have SI_n := hb.1
                  have sE_n := sE_y.tr hb.2
                  have hA : ∀ t2, t2 < t + 1 → macc M (so 1 i) (tW so t2 t2) = true → (so_3 3 i).testBit t2 = true := fun t2 ht2 q => by
                    by_cases e : t2 = t
                    · subst e; rw [eso_3, us_s, us_s, Nat.testBit_or, Nat.testBit_two_pow]; simp
                    · exact (hb.2.2.2.2.2.2 i (by omega)).2.2.1 t2 (hyA t2 (by omega) q)
                  exact ih_7 (t + 1) so_3 _ _ _ (by omega) (by first | assumption | omega) (by first | exact SI_n | exact SI_z) (by first | exact sE_n | exact sE_z) (by first | assumption | omega) h (lv_sub hl [0, 4, 5] rfl)
              · refine lv_aload_n C.x C.b dc_S_askTests_34 rfl (lv_at hl 4 rfl) ?_
                refine lv_iload_n C.x C.b dc_S_askTests_35 rfl (lv_at hl 2 rfl) ?_
                refine lv_aload_n C.x C.b dc_S_askTests_36 rfl (lv_at hl 4 rfl) ?_
                refine rg_get C h 2 rfl rfl in_S 7 (by decide) fl_S_36 rfl dc_S_askTests_37 ?_
                refine lv_iload C.x C.b dc_S_askTests_40 (lv_at hl 1 rfl) ?_
                refine rg_ild C h 10 rfl (by omega) (by decide) dc_S_askTests_42 ?_
                refine kv_V (As := [.int (nI a), .int (nI (y 5 lf))]) (rest := []) C h hl.1 (c_S_follow l Γ d hm mc y tl tb wr M a (y 5 lf) hM SI_y ha (by rw [hy5]; exact (hS.2.2.2.2.1.2.2 lf (by omega) (by omega)).1)) mw_S_follow lk_S_75 (q0 := 2) rfl rfl rfl (by decide) (by decide) (Nat.le_of_ble_eq_true rfl) dc_S_askTests_43 (fun v u H locs hp h => ?_)
                obtain ⟨⟨j_4, so_5⟩, rfl⟩ : ∃ zz9, zz9 = u := ⟨_, rfl⟩
                obtain ⟨rfl, SI_so_5, sE_so_5, lt_j_4, pl_j_4, me_j_4, st_j_4⟩ := hp
                dsimp only at SI_so_5 sE_so_5 lt_j_4 pl_j_4 me_j_4 st_j_4
                replace h : sT Γ s (xW Γ d hm mc so_5 tl tb wr) H locs := h
                refine W.eq (g2 := F0 m 46 ls [.int (nI j_4)]) rfl ?_
                refine lv_istore_n (lv' := [(3, .int (nI j_4)), (5, .int (nI k)), (4, .int (nI lf)), (2, .int (nI t)), (0, .ref (d 2)), (1, .int (nI i))]) C.x C.b dc_S_askTests_46 rfl hl (by decide) rfl (fun ls hl => ?_)
                refine lv_aload_n C.x C.b dc_S_askTests_47 rfl (lv_at hl 4 rfl) ?_
                refine rg_get C h 2 rfl rfl in_S 8 (by decide) fl_S_39 rfl dc_S_askTests_48 ?_
                refine lv_iload C.x C.b dc_S_askTests_51 (lv_at hl 2 rfl) ?_
                refine rg_ild C h 11 rfl (by omega) (by decide) dc_S_askTests_53 ?_
                refine lv_istore (lv' := [(4, .int (nI (so_5 6 lf))), (3, .int (nI j_4)), (5, .int (nI k)), (2, .int (nI t)), (0, .ref (d 2)), (1, .int (nI i))]) C.x C.b dc_S_askTests_54 hl (by decide) rfl (fun ls hl => ?_)
                refine lv_iinc (v := nI (k + 1)) (lv' := [(5, .int (nI (k + 1))), (4, .int (nI (so_5 6 lf))), (3, .int (nI j_4)), (2, .int (nI t)), (0, .ref (d 2)), (1, .int (nI i))]) C.x C.b dc_S_askTests_56 hl (k := 2) rfl (nI_1 k) (by decide) rfl (fun ls hl => ?_)
                refine lv_goto (tgt := 23) C.x C.b dc_S_askTests_59 (by decide) ?_
                have SI_n := SI_so_5
                have sE_n := sE_y.tr sE_so_5
                have hyA : ∀ t2, t2 < t → macc M (so 1 i) (tW so t2 t2) = true → (so_5 3 i).testBit t2 = true := fun t2 ht2 q => (sE_so_5.2.2.2.2.2 i (by omega)).2.2.1 t2 (hyA t2 ht2 q)
                have h6 : so_5 6 = so 6 := sE_n.1 6 (by decide) (by decide)
                have hlf2 : so_5 6 lf ≤ t - (k + 1) := by rw [h6]; have := (hS.2.2.2.2.1.2.2 lf (by omega) (by omega)).2; omega
                have hacc : macc M (so_5 1 j_4) (tW so (t - (k + 1)) (so_5 6 lf)) = macc M (so 1 i) (tW so t t) := by rw [pl_j_4, h6, ← hacc, tW_st (n := t - k) (t := lf) (by omega) (by omega), show t - k - 1 = t - (k + 1) by omega, sE_y.1 5 (by decide) (by decide)]
                exact ih_23 (k + 1) j_4 (so_5 6 lf) so_5 _ _ _ (by omega) (by first | assumption | omega) (by first | assumption | omega) (by first | exact SI_n | exact SI_z) (by first | exact sE_n | exact sE_z) (by first | assumption | omega) (by first | exact hyA | exact hA) (by first | assumption | omega) h (lv_sub hl [0, 1, 2, 3, 4, 5] rfl)
        exact lp_23 _ 0 i t z _ _ _ (Nat.lt_succ_self _) (by first | assumption | omega) (by first | assumption | omega) (by first | exact SI_n | exact SI_z) (by first | exact sE_n | exact sE_z) (by first | assumption | omega) (by first | exact hyA | exact hA) (by first | assumption | omega) h (lv_sub hl [0, 1, 2, 3, 4, 5] rfl)
  exact lp_7 _ (so 4 i) so _ _ _ (Nat.lt_succ_self _) (by first | assumption | omega) (by first | exact SI_n | exact SI_z) (by first | exact sE_n | exact sE_z) (by first | assumption | omega) h (lv_sub hl [0, 1, 2] rfl)

abbrev rm_S_kindWith : Room := { frames := 0, cells := 0, slots := 0, locals := 0 }
set_option maxRecDepth 100000 in
set_option maxHeartbeats 4000000 in
theorem c_S_kindWith (l : Launch) (Γ : gG) (d : Nat → Nat) (hm : Nat) (mc : va_E) (so : Nat → Nat → Nat) (tl : Nat → Nat → Int64) (tb : Nat → Nat → Nat → Nat) (wr : va_W) (x : Nat) (hx : x < 2 ^ 31) (hk : so 10 2 ≤ 10) (hE : ∀ k, k < so 10 2 → so 7 k < 10240 ∧ so 3 (so 7 k) < 2 ^ 31) : cT l Γ my_S_kindWith bc_S_kindWith 3 (some .int) rm_S_kindWith [.ref (d 2), .int (nI x)] (xW Γ d hm mc so tl tb wr) (S := Nat) (fun v u => v = some (.int (nI u)) ∧ u ≤ so 10 2 ∧ (∀ k, k < u → so 3 (so 7 k) ≠ x) ∧ (u < so 10 2 → so 3 (so 7 u) = x)) (fun _ => xW Γ d hm mc so tl tb wr) := by
  refine cT.start (by decide) (Nat.le_of_ble_eq_true rfl) (fun p e s m args below meth c ls Q hQ C hmn h hl => ?_)
  replace hl : lv_has ls 3 [(0, .ref (d 2)), (1, .int (nI x))] := hl
  refine lv_iconst (v := (nI 0)) C.x C.b dc_S_kindWith_0 (by decide +kernel) ?_
  refine lv_istore_n (lv' := [(2, .int (nI 0)), (0, .ref (d 2)), (1, .int (nI x))]) C.x C.b dc_S_kindWith_1 rfl hl (by decide) rfl (fun ls hl => ?_)
  have hA : ∀ q, q < 0 → so 3 (so 7 q) ≠ x := fun q z => absurd z (Nat.not_lt_zero _)
  have lp_2 : ∀ (n_2 : Nat) (k : Nat) (H : Heap) (locs : List Loc) (ls : Array Slot), so 10 2 - k < n_2 → (k ≤ so 10 2) → (∀ q, q < k → so 3 (so 7 q) ≠ x) → sT Γ s (xW Γ d hm mc so tl tb wr) H locs → lv_has ls 3 [(2, .int (nI k)), (0, .ref (d 2)), (1, .int (nI x))] → W p l e rm_S_kindWith s m args below meth c H locs 0 0 Q (F0 m 2 ls []) := by
    intro n_2
    induction n_2 with
    | zero => intro k H locs ls hms; exact absurd hms (Nat.not_lt_zero _)
    | succ n_2 ih_2 =>
      intro k H locs ls hms hk2 hA h hl
      refine lv_iload_n C.x C.b dc_S_kindWith_2 rfl (lv_at hl 0 rfl) ?_
      refine lv_aload_n C.x C.b dc_S_kindWith_3 rfl (lv_at hl 1 rfl) ?_
      refine rg_get C h 2 rfl rfl in_S 11 (by decide) fl_S_58 rfl dc_S_kindWith_4 ?_
      refine bc_ge (tgt := 31) C (by omega) (by omega) dc_S_kindWith_7 (by decide) (fun q7 => ?_) (fun q7 => ?_)
      · refine lv_iload_n C.x C.b dc_S_kindWith_31 rfl (lv_at hl 0 rfl) ?_
        rw [hQ]
        exact rt_i C k h (⟨rfl, hk2, hA, fun z => absurd z (by omega)⟩) dc_S_kindWith_32
      · refine lv_aload_n C.x C.b dc_S_kindWith_10 rfl (lv_at hl 1 rfl) ?_
        refine rg_get C h 2 rfl rfl in_S 5 (by decide) fl_S_30 rfl dc_S_kindWith_11 ?_
        refine lv_aload_n C.x C.b dc_S_kindWith_14 rfl (lv_at hl 1 rfl) ?_
        refine rg_get C h 2 rfl rfl in_S 10 (by decide) fl_S_42 rfl dc_S_kindWith_15 ?_
        refine lv_iload_n C.x C.b dc_S_kindWith_18 rfl (lv_at hl 0 rfl) ?_
        refine rg_ild C h 12 rfl (by omega) (by decide) dc_S_kindWith_19 ?_
        refine rg_ild C h 8 rfl ((hE k (by omega)).1) (by decide) dc_S_kindWith_20 ?_
        refine lv_iload_n C.x C.b dc_S_kindWith_21 rfl (lv_at hl 2 rfl) ?_
        refine bc_eq (tgt := 31) C ((hE k (by omega)).2) (by omega) dc_S_kindWith_22 (by decide) (fun q22 => ?_) (fun q22 => ?_)
        · refine lv_iload_n C.x C.b dc_S_kindWith_31 rfl (lv_at hl 0 rfl) ?_
          rw [hQ]
          exact rt_i C k h (⟨rfl, hk2, hA, fun _ => q22⟩) dc_S_kindWith_32
        · refine lv_iinc (v := nI (k + 1)) (lv' := [(2, .int (nI (k + 1))), (0, .ref (d 2)), (1, .int (nI x))]) C.x C.b dc_S_kindWith_25 hl (k := 0) rfl (nI_1 k) (by decide) rfl (fun ls hl => ?_)
          refine lv_goto (tgt := 2) C.x C.b dc_S_kindWith_28 (by decide) ?_
          have hA : ∀ q, q < k + 1 → so 3 (so 7 q) ≠ x := fun q z => by
            by_cases e : q = k
            · subst e; exact q22
            · exact hA q (by omega)
          exact ih_2 (k + 1) _ _ _ (by omega) (by first | assumption | omega) (by first | assumption | omega) h (lv_sub hl [0, 1, 2] rfl)
  exact lp_2 _ 0 _ _ _ (Nat.lt_succ_self _) (by first | assumption | omega) (by first | assumption | omega) h (lv_sub hl [0, 1, 2] rfl)

abbrev rm_S_addKind : Room := { frames := 0, cells := 0, slots := 0, locals := 0 }
set_option maxRecDepth 100000 in
set_option maxHeartbeats 4000000 in
theorem c_S_addKind (l : Launch) (Γ : gG) (d : Nat → Nat) (hm : Nat) (mc : va_E) (so : Nat → Nat → Nat) (tl : Nat → Nat → Int64) (tb : Nat → Nat → Nat → Nat) (wr : va_W) (i : Nat) (hk : so 10 2 ≤ 10) : cT l Γ my_S_addKind bc_S_addKind 2 (some .boolean) rm_S_addKind [.ref (d 2), .int (nI i)] (xW Γ d hm mc so tl tb wr) (S := Bool × (Nat → Nat → Nat)) (fun v u => v = some (.int (bI u.1)) ∧ ((u.1 = false ∧ u.2 = so ∧ 10 ≤ so 10 2) ∨ (u.1 = true ∧ so 10 2 < 10 ∧ akR so i u.2))) (fun u => xW Γ d hm mc u.2 tl tb wr) := by
  refine cT.start (by decide) (Nat.le_of_ble_eq_true rfl) (fun p e s m args below meth c ls Q hQ C hmn h hl => ?_)
  replace hl : lv_has ls 2 [(0, .ref (d 2)), (1, .int (nI i))] := hl
  refine lv_aload_n C.x C.b dc_S_addKind_0 rfl (lv_at hl 0 rfl) ?_
  refine rg_get C h 2 rfl rfl in_S 11 (by decide) fl_S_58 rfl dc_S_addKind_1 ?_
  refine lv_bipush (v := (nI 10)) C.x C.b dc_S_addKind_4 (by decide +kernel) ?_
  refine bc_lt (tgt := 11) C (by omega) (by omega) dc_S_addKind_6 (by decide) (fun q6 => ?_) (fun q6 => ?_)
  · refine lv_aload_n C.x C.b dc_S_addKind_11 rfl (lv_at hl 0 rfl) ?_
    refine rg_get C h 2 rfl rfl in_S 10 (by decide) fl_S_42 rfl dc_S_addKind_12 ?_
    refine lv_aload_n C.x C.b dc_S_addKind_15 rfl (lv_at hl 0 rfl) ?_
    refine rg_get C h 2 rfl rfl in_S 11 (by decide) fl_S_58 rfl dc_S_addKind_16 ?_
    refine lv_iload_n C.x C.b dc_S_addKind_19 rfl (lv_at hl 1 rfl) ?_
    refine rg_ist C h 12 rfl (by omega) (by decide) dc_S_addKind_20 (fun H locs h => ?_)
    obtain ⟨so_1, eso_1⟩ : ∃ zz9, zz9 = us so 7 (us (so 7) (so 10 2) i) := ⟨_, rfl⟩
    have xso_1 : so_1 10 0 = so 10 0 ∧ so_1 10 1 = so 10 1 ∧ so_1 10 2 = so 10 2 ∧ so_1 10 3 = so 10 3 := by rw [eso_1, us_n _ _ (by decide)]; exact ⟨rfl, rfl, rfl, rfl⟩
    replace h : sT Γ s (xW Γ d hm mc so_1 tl tb wr) H locs := by rw [eso_1]; exact h
    refine lv_aload_n C.x C.b dc_S_addKind_21 rfl (lv_at hl 0 rfl) ?_
    refine lv_dup C.x C.b dc_S_addKind_22 rfl ?_
    refine rg_get C h 2 rfl rfl in_S 11 (by decide) fl_S_58 rfl dc_S_addKind_23 ?_
    refine lv_iconst (v := (nI 1)) C.x C.b dc_S_addKind_26 (by decide +kernel) ?_
    refine lv_iadd C.x C.b dc_S_addKind_27 ?_
    refine tp_i (nI_add (so_1 10 2) 1) ?_
    refine rg_put (ty := .int) C h 2 rfl rfl in_S tk_S nm_S 11 (by decide) fl_S_58 rfl (by decide +kernel) rfl rfl (by simp) dc_S_addKind_28 (fun H locs h => ?_)
    obtain ⟨so_2, eso_2⟩ : ∃ zz9, zz9 = us so_1 10 (us (so_1 10) 2 ((so_1 10 2) + 1)) := ⟨_, rfl⟩
    have xso_2 : so_2 10 0 = so_1 10 0 ∧ so_2 10 1 = so_1 10 1 ∧ so_2 10 2 = ((so_1 10 2) + 1) ∧ so_2 10 3 = so_1 10 3 := by rw [eso_2, us_s]; exact ⟨us_n _ _ (by decide), us_n _ _ (by decide), us_s _ _ _, us_n _ _ (by decide)⟩
    replace h : sT Γ s (xW Γ d hm mc so_2 tl tb wr) H locs := by rw [eso_2]; exact h
    refine lv_iconst (v := (nI 1)) C.x C.b dc_S_addKind_31 (by decide +kernel) ?_
    rw [hQ]
    exact rt_z C (true, so_2) h (⟨rb_t (b := true) rfl, Or.inr ⟨rfl, q6, by show so_2 7 = _; rw [eso_2, us_n _ _ (by decide), eso_1, us_s], by show so_2 10 = _; rw [eso_2, us_s, eso_1, us_n _ _ (by decide)], fun k h7 h10 => by show so_2 k = _; rw [eso_2, us_n _ _ h10, eso_1, us_n _ _ h7]⟩⟩) (by decide +kernel) dc_S_addKind_32
  · refine lv_iconst (v := (nI 0)) C.x C.b dc_S_addKind_9 (by decide +kernel) ?_
    rw [hQ]
    exact rt_z C (false, so) h (⟨rb_f (b := false) rfl, Or.inl ⟨rfl, rfl, q6⟩⟩) (by decide +kernel) dc_S_addKind_10

abbrev rm_S_split : Room := { frames := 1, cells := 0, slots := 0, locals := 21 }
set_option maxRecDepth 100000 in
set_option maxHeartbeats 4000000 in
theorem c_S_split (l : Launch) (Γ : gG) (d : Nat → Nat) (hm : Nat) (mc : va_E) (so : Nat → Nat → Nat) (tl : Nat → Nat → Int64) (tb : Nat → Nat → Nat → Nat) (wr : va_W) (i lt t : Nat) (hk : so 10 2 ≤ 10) (hts : so 10 1 ≤ so 10 2) : cT l Γ my_S_split bc_S_split 4 (some .int) rm_S_split [.ref (d 2), .int (nI i), .int (nI lt), .int (nI t)] (xW Γ d hm mc so tl tb wr) (S := Nat × (Nat → Nat → Nat)) (fun v u => v = some (.int (nI u.1)) ∧ ((u.1 = 2 ∧ u.2 = so ∧ 10 ≤ so 10 2) ∨ (u.1 = 1 ∧ so 10 2 < 10 ∧ spR so i lt t u.2))) (fun u => xW Γ d hm mc u.2 tl tb wr) := by
  refine cT.start (by decide) (Nat.le_of_ble_eq_true rfl) (fun p e s m args below meth c ls Q hQ C hmn h hl => ?_)
  replace hl : lv_has ls 4 [(0, .ref (d 2)), (1, .int (nI i)), (2, .int (nI lt)), (3, .int (nI t))] := hl
  refine lv_aload_n C.x C.b dc_S_split_0 rfl (lv_at hl 0 rfl) ?_
  refine lv_iload_n C.x C.b dc_S_split_1 rfl (lv_at hl 1 rfl) ?_
  refine kv_V (As := [.int (nI i)]) (rest := []) C h hl.1 (c_S_addKind l Γ d hm mc so tl tb wr i hk) mw_S_addKind lk_S_85 (q0 := 2) rfl rfl rfl (by decide) (by decide) (Nat.le_of_ble_eq_true rfl) dc_S_split_2 (fun v u H locs hp h => ?_)
  obtain ⟨⟨ok_1, so_2⟩, rfl⟩ : ∃ zz9, zz9 = u := ⟨_, rfl⟩
  obtain ⟨rfl, ak_so_2⟩ := hp
  dsimp only at ak_so_2
  replace h : sT Γ s (xW Γ d hm mc so_2 tl tb wr) H locs := h
  refine W.eq (g2 := F0 m 5 ls [.int (bI ok_1)]) rfl ?_
  refine bb_ne (tgt := 10) C dc_S_split_5 (by decide) (fun q5 => ?_) (fun q5 => ?_)
  · obtain ⟨-, hk9⟩ := ak_so_2.resolve_left (fun z => by rw [q5] at z; cases z.1)
    have ht1 : so_2 10 1 = so 10 1 := by rw [hk9.2.2.1, us_n _ _ (by decide)]
    refine lv_aload_n C.x C.b dc_S_split_10 rfl (lv_at hl 0 rfl) ?_
    refine rg_get C h 2 rfl rfl in_S 7 (by decide) fl_S_36 rfl dc_S_split_11 ?_
    refine lv_aload_n C.x C.b dc_S_split_14 rfl (lv_at hl 0 rfl) ?_
    refine rg_get C h 2 rfl rfl in_S 9 (by decide) fl_S_55 rfl dc_S_split_15 ?_
    refine lv_iload_n C.x C.b dc_S_split_18 rfl (lv_at hl 2 rfl) ?_
    refine rg_ist C h 10 rfl (by omega) (by decide) dc_S_split_19 (fun H locs h => ?_)
    obtain ⟨so_3, eso_3⟩ : ∃ zz9, zz9 = us so_2 5 (us (so_2 5) (so_2 10 1) lt) := ⟨_, rfl⟩
    have xso_3 : so_3 10 0 = so_2 10 0 ∧ so_3 10 1 = so_2 10 1 ∧ so_3 10 2 = so_2 10 2 ∧ so_3 10 3 = so_2 10 3 := by rw [eso_3, us_n _ _ (by decide)]; exact ⟨rfl, rfl, rfl, rfl⟩
    replace h : sT Γ s (xW Γ d hm mc so_3 tl tb wr) H locs := by rw [eso_3]; exact h
    refine lv_aload_n C.x C.b dc_S_split_20 rfl (lv_at hl 0 rfl) ?_
    refine rg_get C h 2 rfl rfl in_S 8 (by decide) fl_S_39 rfl dc_S_split_21 ?_
    refine lv_aload_n C.x C.b dc_S_split_24 rfl (lv_at hl 0 rfl) ?_
    refine rg_get C h 2 rfl rfl in_S 9 (by decide) fl_S_55 rfl dc_S_split_25 ?_
    refine lv_iload_n C.x C.b dc_S_split_28 rfl (lv_at hl 3 rfl) ?_
    refine rg_ist C h 11 rfl (by omega) (by decide) dc_S_split_29 (fun H locs h => ?_)
    obtain ⟨so_4, eso_4⟩ : ∃ zz9, zz9 = us so_3 6 (us (so_3 6) (so_3 10 1) t) := ⟨_, rfl⟩
    have xso_4 : so_4 10 0 = so_3 10 0 ∧ so_4 10 1 = so_3 10 1 ∧ so_4 10 2 = so_3 10 2 ∧ so_4 10 3 = so_3 10 3 := by rw [eso_4, us_n _ _ (by decide)]; exact ⟨rfl, rfl, rfl, rfl⟩
    replace h : sT Γ s (xW Γ d hm mc so_4 tl tb wr) H locs := by rw [eso_4]; exact h
    refine lv_aload_n C.x C.b dc_S_split_30 rfl (lv_at hl 0 rfl) ?_
    refine lv_dup C.x C.b dc_S_split_31 rfl ?_
    refine rg_get C h 2 rfl rfl in_S 9 (by decide) fl_S_55 rfl dc_S_split_32 ?_
    refine lv_iconst (v := (nI 1)) C.x C.b dc_S_split_35 (by decide +kernel) ?_
    refine lv_iadd C.x C.b dc_S_split_36 ?_
    refine tp_i (nI_add (so_4 10 1) 1) ?_
    refine rg_put (ty := .int) C h 2 rfl rfl in_S tk_S nm_S 9 (by decide) fl_S_55 rfl (by decide +kernel) rfl rfl (by simp) dc_S_split_37 (fun H locs h => ?_)
    obtain ⟨so_5, eso_5⟩ : ∃ zz9, zz9 = us so_4 10 (us (so_4 10) 1 ((so_4 10 1) + 1)) := ⟨_, rfl⟩
    have xso_5 : so_5 10 0 = so_4 10 0 ∧ so_5 10 1 = ((so_4 10 1) + 1) ∧ so_5 10 2 = so_4 10 2 ∧ so_5 10 3 = so_4 10 3 := by rw [eso_5, us_s]; exact ⟨us_n _ _ (by decide), us_s _ _ _, us_n _ _ (by decide), us_n _ _ (by decide)⟩
    replace h : sT Γ s (xW Γ d hm mc so_5 tl tb wr) H locs := by rw [eso_5]; exact h
    refine lv_iconst (v := (nI 1)) C.x C.b dc_S_split_40 (by decide +kernel) ?_
    rw [hQ]
    exact rt_i C (1, so_5) h (⟨rfl, Or.inr ⟨rfl, hk9.1, by show so_5 7 = _; rw [eso_5, us_n _ _ (by decide), eso_4, us_n _ _ (by decide), eso_3, us_n _ _ (by decide)]; exact hk9.2.1, by show so_5 10 = _; rw [eso_5, us_s, eso_4, us_n _ _ (by decide), eso_3, us_n _ _ (by decide), hk9.2.2.1, us_n _ _ (by decide)], by show so_5 5 = _; rw [eso_5, us_n _ _ (by decide), eso_4, us_n _ _ (by decide), eso_3, us_s, hk9.2.2.2 5 (by decide) (by decide), ht1], by show so_5 6 = _; rw [eso_5, us_n _ _ (by decide), eso_4, us_s, eso_3, us_n _ _ (by decide), us_n _ _ (by decide), hk9.2.2.2 6 (by decide) (by decide), ht1], fun k h7 h10 h5 h6 => by show so_5 k = _; rw [eso_5, us_n _ _ h10, eso_4, us_n _ _ h6, eso_3, us_n _ _ h5]; exact hk9.2.2.2 k h7 h10⟩⟩) dc_S_split_41
  · refine lv_iconst (v := (nI 2)) C.x C.b dc_S_split_8 (by decide +kernel) ?_
    have hk9 := ak_so_2.resolve_right (fun z => by rw [q5] at z; cases z.1)
    rw [hQ]
    exact rt_i C (2, so_2) h (⟨rfl, Or.inl ⟨rfl, hk9.2.1, hk9.2.2⟩⟩) dc_S_split_9

theorem gw_65536 : Cond.constant "java/lang/Integer" 264 65536 ∈ gw := gw_t 380 rfl rfl
abbrev rm_J_ntz : Room := { frames := 0, cells := 0, slots := 0, locals := 0 }
set_option maxRecDepth 100000 in
set_option maxHeartbeats 4000000 in
theorem c_J_ntz (l : Launch) (Γ : gG) (ws : va_W) (x : Nat) (hx : x < 1024) (h0 : x ≠ 0) : cT l Γ my_J_ntz bc_J_ntz 2 (some .int) rm_J_ntz [.int (nI x)] (ws) (S := Nat) (fun v u => v = some (.int (nI u)) ∧ u < 10 ∧ x.testBit u = true) (fun _ => ws) := by
  refine cT.start (by decide) (Nat.le_of_ble_eq_true rfl) (fun p e s m args below meth c ls Q hQ C hmn h hl => ?_)
  replace hl : lv_has ls 2 [(0, .int (nI x))] := hl
  obtain ⟨t, ht1, ht2, ht3⟩ := ntz_lem x hx h0
  refine lv_iload_n C.x C.b dc_J_ntz_0 rfl (lv_at hl 0 rfl) ?_
  refine lv_iconst (v := (mI 0)) C.x C.b dc_J_ntz_1 (by decide +kernel) ?_
  refine lv_ixor C.x C.b dc_J_ntz_2 ?_
  refine lv_iload_n C.x C.b dc_J_ntz_3 rfl (lv_at hl 0 rfl) ?_
  refine lv_iconst (v := (nI 1)) C.x C.b dc_J_ntz_4 (by decide +kernel) ?_
  refine lv_isub C.x C.b dc_J_ntz_5 ?_
  refine lv_iand C.x C.b dc_J_ntz_6 ?_
  refine tp_i (y := (nI (2 ^ t - 1))) (ht3) ?_
  refine lv_istore_n (lv' := [(0, .int (nI (2 ^ t - 1)))]) C.x C.b dc_J_ntz_7 rfl hl (by decide) rfl (fun ls hl => ?_)
  have ht9 : t = 0 ∨ t = 1 ∨ t = 2 ∨ t = 3 ∨ t = 4 ∨ t = 5 ∨ t = 6 ∨ t = 7 ∨ t = 8 ∨ t = 9 := by omega
  rcases ht9 with rfl | rfl | rfl | rfl | rfl | rfl | rfl | rfl | rfl | rfl
  · replace hl : lv_has ls 2 [(0, .int (nI 0))] := hl
    refine lv_iload_n C.x C.b dc_J_ntz_8 rfl (lv_at hl 0 rfl) ?_
    refine bz_gt (tgt := 17) C (by omega) dc_J_ntz_9 (by decide) (fun q9 => absurd q9 (by decide)) (fun q9 => ?_)
    refine lv_iload_n C.x C.b dc_J_ntz_12 rfl (lv_at hl 0 rfl) ?_
    refine lv_bipush (v := (nI 32)) C.x C.b dc_J_ntz_13 (by decide +kernel) ?_
    refine lv_iand C.x C.b dc_J_ntz_15 ?_
    refine tp_i (y := (nI 0)) (by decide +kernel) ?_
    rw [hQ]
    exact rt_i C 0 h (⟨rfl, by decide, ht2⟩) dc_J_ntz_16
  · replace hl : lv_has ls 2 [(0, .int (nI 1))] := hl
    refine lv_iload_n C.x C.b dc_J_ntz_8 rfl (lv_at hl 0 rfl) ?_
    refine bz_gt (tgt := 17) C (by omega) dc_J_ntz_9 (by decide) (fun q9 => ?_) (fun q9 => absurd q9 (by decide))
    refine lv_iconst (v := (nI 1)) C.x C.b dc_J_ntz_17 (by decide +kernel) ?_
    refine lv_istore_n (lv' := [(1, .int (nI 1)), (0, .int (nI 1))]) C.x C.b dc_J_ntz_18 rfl hl (by decide) rfl (fun ls hl => ?_)
    refine lv_iload_n C.x C.b dc_J_ntz_19 rfl (lv_at hl 1 rfl) ?_
    refine lv_ldcw (v := 65536) C.x C.b C.o (C.t _ gw_65536) dc_J_ntz_20 ?_
    refine tp_i (y := nI 65536) (by decide +kernel) ?_
    refine bc_le (tgt := 34) C (by omega) (by omega) dc_J_ntz_23 (by decide) (fun q23 => ?_) (fun q23 => absurd q23 (by decide))
    refine lv_iload_n C.x C.b dc_J_ntz_34 rfl (lv_at hl 1 rfl) ?_
    refine lv_sipush (v := (nI 256)) C.x C.b dc_J_ntz_35 (by decide +kernel) ?_
    refine bc_le (tgt := 49) C (by omega) (by omega) dc_J_ntz_38 (by decide) (fun q38 => ?_) (fun q38 => absurd q38 (by decide))
    refine lv_iload_n C.x C.b dc_J_ntz_49 rfl (lv_at hl 1 rfl) ?_
    refine lv_bipush (v := (nI 16)) C.x C.b dc_J_ntz_50 (by decide +kernel) ?_
    refine bc_le (tgt := 62) C (by omega) (by omega) dc_J_ntz_52 (by decide) (fun q52 => ?_) (fun q52 => absurd q52 (by decide))
    refine lv_iload_n C.x C.b dc_J_ntz_62 rfl (lv_at hl 1 rfl) ?_
    refine lv_iconst (v := (nI 4)) C.x C.b dc_J_ntz_63 (by decide +kernel) ?_
    refine bc_le (tgt := 74) C (by omega) (by omega) dc_J_ntz_64 (by decide) (fun q64 => ?_) (fun q64 => absurd q64 (by decide))
    refine lv_iload_n C.x C.b dc_J_ntz_74 rfl (lv_at hl 0 rfl) ?_
    refine lv_iload_n C.x C.b dc_J_ntz_75 rfl (lv_at hl 1 rfl) ?_
    refine lv_iconst (v := (nI 1)) C.x C.b dc_J_ntz_76 (by decide +kernel) ?_
    refine lv_iushr (v := nI 0) C.x C.b dc_J_ntz_77 (by decide +kernel) ?_
    refine lv_iadd C.x C.b dc_J_ntz_78 ?_
    refine tp_i (nI_add 1 0) ?_
    rw [hQ]
    exact rt_i C 1 h (⟨by decide +kernel, by decide, ht2⟩) dc_J_ntz_79
  · replace hl : lv_has ls 2 [(0, .int (nI 3))] := hl
    refine lv_iload_n C.x C.b dc_J_ntz_8 rfl (lv_at hl 0 rfl) ?_
    refine bz_gt (tgt := 17) C (by omega) dc_J_ntz_9 (by decide) (fun q9 => ?_) (fun q9 => absurd q9 (by decide))
    refine lv_iconst (v := (nI 1)) C.x C.b dc_J_ntz_17 (by decide +kernel) ?_
    refine lv_istore_n (lv' := [(1, .int (nI 1)), (0, .int (nI 3))]) C.x C.b dc_J_ntz_18 rfl hl (by decide) rfl (fun ls hl => ?_)
    refine lv_iload_n C.x C.b dc_J_ntz_19 rfl (lv_at hl 1 rfl) ?_
    refine lv_ldcw (v := 65536) C.x C.b C.o (C.t _ gw_65536) dc_J_ntz_20 ?_
    refine tp_i (y := nI 65536) (by decide +kernel) ?_
    refine bc_le (tgt := 34) C (by omega) (by omega) dc_J_ntz_23 (by decide) (fun q23 => ?_) (fun q23 => absurd q23 (by decide))
    refine lv_iload_n C.x C.b dc_J_ntz_34 rfl (lv_at hl 1 rfl) ?_
    refine lv_sipush (v := (nI 256)) C.x C.b dc_J_ntz_35 (by decide +kernel) ?_
    refine bc_le (tgt := 49) C (by omega) (by omega) dc_J_ntz_38 (by decide) (fun q38 => ?_) (fun q38 => absurd q38 (by decide))
    refine lv_iload_n C.x C.b dc_J_ntz_49 rfl (lv_at hl 1 rfl) ?_
    refine lv_bipush (v := (nI 16)) C.x C.b dc_J_ntz_50 (by decide +kernel) ?_
    refine bc_le (tgt := 62) C (by omega) (by omega) dc_J_ntz_52 (by decide) (fun q52 => ?_) (fun q52 => absurd q52 (by decide))
    refine lv_iload_n C.x C.b dc_J_ntz_62 rfl (lv_at hl 1 rfl) ?_
    refine lv_iconst (v := (nI 4)) C.x C.b dc_J_ntz_63 (by decide +kernel) ?_
    refine bc_le (tgt := 74) C (by omega) (by omega) dc_J_ntz_64 (by decide) (fun q64 => ?_) (fun q64 => absurd q64 (by decide))
    refine lv_iload_n C.x C.b dc_J_ntz_74 rfl (lv_at hl 0 rfl) ?_
    refine lv_iload_n C.x C.b dc_J_ntz_75 rfl (lv_at hl 1 rfl) ?_
    refine lv_iconst (v := (nI 1)) C.x C.b dc_J_ntz_76 (by decide +kernel) ?_
    refine lv_iushr (v := nI 1) C.x C.b dc_J_ntz_77 (by decide +kernel) ?_
    refine lv_iadd C.x C.b dc_J_ntz_78 ?_
    refine tp_i (nI_add 1 1) ?_
    rw [hQ]
    exact rt_i C 2 h (⟨by decide +kernel, by decide, ht2⟩) dc_J_ntz_79
  · replace hl : lv_has ls 2 [(0, .int (nI 7))] := hl
    refine lv_iload_n C.x C.b dc_J_ntz_8 rfl (lv_at hl 0 rfl) ?_
    refine bz_gt (tgt := 17) C (by omega) dc_J_ntz_9 (by decide) (fun q9 => ?_) (fun q9 => absurd q9 (by decide))
    refine lv_iconst (v := (nI 1)) C.x C.b dc_J_ntz_17 (by decide +kernel) ?_
    refine lv_istore_n (lv' := [(1, .int (nI 1)), (0, .int (nI 7))]) C.x C.b dc_J_ntz_18 rfl hl (by decide) rfl (fun ls hl => ?_)
    refine lv_iload_n C.x C.b dc_J_ntz_19 rfl (lv_at hl 1 rfl) ?_
    refine lv_ldcw (v := 65536) C.x C.b C.o (C.t _ gw_65536) dc_J_ntz_20 ?_
    refine tp_i (y := nI 65536) (by decide +kernel) ?_
    refine bc_le (tgt := 34) C (by omega) (by omega) dc_J_ntz_23 (by decide) (fun q23 => ?_) (fun q23 => absurd q23 (by decide))
    refine lv_iload_n C.x C.b dc_J_ntz_34 rfl (lv_at hl 1 rfl) ?_
    refine lv_sipush (v := (nI 256)) C.x C.b dc_J_ntz_35 (by decide +kernel) ?_
    refine bc_le (tgt := 49) C (by omega) (by omega) dc_J_ntz_38 (by decide) (fun q38 => ?_) (fun q38 => absurd q38 (by decide))
    refine lv_iload_n C.x C.b dc_J_ntz_49 rfl (lv_at hl 1 rfl) ?_
    refine lv_bipush (v := (nI 16)) C.x C.b dc_J_ntz_50 (by decide +kernel) ?_
    refine bc_le (tgt := 62) C (by omega) (by omega) dc_J_ntz_52 (by decide) (fun q52 => ?_) (fun q52 => absurd q52 (by decide))
    refine lv_iload_n C.x C.b dc_J_ntz_62 rfl (lv_at hl 1 rfl) ?_
    refine lv_iconst (v := (nI 4)) C.x C.b dc_J_ntz_63 (by decide +kernel) ?_
    refine bc_le (tgt := 74) C (by omega) (by omega) dc_J_ntz_64 (by decide) (fun q64 => absurd q64 (by decide)) (fun q64 => ?_)
    refine lv_iinc (v := nI 3) (lv' := [(1, .int (nI 3)), (0, .int (nI 7))]) C.x C.b dc_J_ntz_67 hl (k := 0) rfl (by decide +kernel) (by decide) rfl (fun ls hl => ?_)
    refine lv_iload_n C.x C.b dc_J_ntz_70 rfl (lv_at hl 1 rfl) ?_
    refine lv_iconst (v := (nI 2)) C.x C.b dc_J_ntz_71 (by decide +kernel) ?_
    refine lv_iushr (v := nI 1) C.x C.b dc_J_ntz_72 (by decide +kernel) ?_
    refine lv_istore_n (lv' := [(0, .int (nI 1)), (1, .int (nI 3))]) C.x C.b dc_J_ntz_73 rfl hl (by decide) rfl (fun ls hl => ?_)
    refine lv_iload_n C.x C.b dc_J_ntz_74 rfl (lv_at hl 1 rfl) ?_
    refine lv_iload_n C.x C.b dc_J_ntz_75 rfl (lv_at hl 0 rfl) ?_
    refine lv_iconst (v := (nI 1)) C.x C.b dc_J_ntz_76 (by decide +kernel) ?_
    refine lv_iushr (v := nI 0) C.x C.b dc_J_ntz_77 (by decide +kernel) ?_
    refine lv_iadd C.x C.b dc_J_ntz_78 ?_
    refine tp_i (nI_add 3 0) ?_
    rw [hQ]
    exact rt_i C 3 h (⟨by decide +kernel, by decide, ht2⟩) dc_J_ntz_79
  · replace hl : lv_has ls 2 [(0, .int (nI 15))] := hl
    refine lv_iload_n C.x C.b dc_J_ntz_8 rfl (lv_at hl 0 rfl) ?_
    refine bz_gt (tgt := 17) C (by omega) dc_J_ntz_9 (by decide) (fun q9 => ?_) (fun q9 => absurd q9 (by decide))
    refine lv_iconst (v := (nI 1)) C.x C.b dc_J_ntz_17 (by decide +kernel) ?_
    refine lv_istore_n (lv' := [(1, .int (nI 1)), (0, .int (nI 15))]) C.x C.b dc_J_ntz_18 rfl hl (by decide) rfl (fun ls hl => ?_)
    refine lv_iload_n C.x C.b dc_J_ntz_19 rfl (lv_at hl 1 rfl) ?_
    refine lv_ldcw (v := 65536) C.x C.b C.o (C.t _ gw_65536) dc_J_ntz_20 ?_
    refine tp_i (y := nI 65536) (by decide +kernel) ?_
    refine bc_le (tgt := 34) C (by omega) (by omega) dc_J_ntz_23 (by decide) (fun q23 => ?_) (fun q23 => absurd q23 (by decide))
    refine lv_iload_n C.x C.b dc_J_ntz_34 rfl (lv_at hl 1 rfl) ?_
    refine lv_sipush (v := (nI 256)) C.x C.b dc_J_ntz_35 (by decide +kernel) ?_
    refine bc_le (tgt := 49) C (by omega) (by omega) dc_J_ntz_38 (by decide) (fun q38 => ?_) (fun q38 => absurd q38 (by decide))
    refine lv_iload_n C.x C.b dc_J_ntz_49 rfl (lv_at hl 1 rfl) ?_
    refine lv_bipush (v := (nI 16)) C.x C.b dc_J_ntz_50 (by decide +kernel) ?_
    refine bc_le (tgt := 62) C (by omega) (by omega) dc_J_ntz_52 (by decide) (fun q52 => ?_) (fun q52 => absurd q52 (by decide))
    refine lv_iload_n C.x C.b dc_J_ntz_62 rfl (lv_at hl 1 rfl) ?_
    refine lv_iconst (v := (nI 4)) C.x C.b dc_J_ntz_63 (by decide +kernel) ?_
    refine bc_le (tgt := 74) C (by omega) (by omega) dc_J_ntz_64 (by decide) (fun q64 => absurd q64 (by decide)) (fun q64 => ?_)
    refine lv_iinc (v := nI 3) (lv' := [(1, .int (nI 3)), (0, .int (nI 15))]) C.x C.b dc_J_ntz_67 hl (k := 0) rfl (by decide +kernel) (by decide) rfl (fun ls hl => ?_)
    refine lv_iload_n C.x C.b dc_J_ntz_70 rfl (lv_at hl 1 rfl) ?_
    refine lv_iconst (v := (nI 2)) C.x C.b dc_J_ntz_71 (by decide +kernel) ?_
    refine lv_iushr (v := nI 3) C.x C.b dc_J_ntz_72 (by decide +kernel) ?_
    refine lv_istore_n (lv' := [(0, .int (nI 3)), (1, .int (nI 3))]) C.x C.b dc_J_ntz_73 rfl hl (by decide) rfl (fun ls hl => ?_)
    refine lv_iload_n C.x C.b dc_J_ntz_74 rfl (lv_at hl 1 rfl) ?_
    refine lv_iload_n C.x C.b dc_J_ntz_75 rfl (lv_at hl 0 rfl) ?_
    refine lv_iconst (v := (nI 1)) C.x C.b dc_J_ntz_76 (by decide +kernel) ?_
    refine lv_iushr (v := nI 1) C.x C.b dc_J_ntz_77 (by decide +kernel) ?_
    refine lv_iadd C.x C.b dc_J_ntz_78 ?_
    refine tp_i (nI_add 3 1) ?_
    rw [hQ]
    exact rt_i C 4 h (⟨by decide +kernel, by decide, ht2⟩) dc_J_ntz_79
  · replace hl : lv_has ls 2 [(0, .int (nI 31))] := hl
    refine lv_iload_n C.x C.b dc_J_ntz_8 rfl (lv_at hl 0 rfl) ?_
    refine bz_gt (tgt := 17) C (by omega) dc_J_ntz_9 (by decide) (fun q9 => ?_) (fun q9 => absurd q9 (by decide))
    refine lv_iconst (v := (nI 1)) C.x C.b dc_J_ntz_17 (by decide +kernel) ?_
    refine lv_istore_n (lv' := [(1, .int (nI 1)), (0, .int (nI 31))]) C.x C.b dc_J_ntz_18 rfl hl (by decide) rfl (fun ls hl => ?_)
    refine lv_iload_n C.x C.b dc_J_ntz_19 rfl (lv_at hl 1 rfl) ?_
    refine lv_ldcw (v := 65536) C.x C.b C.o (C.t _ gw_65536) dc_J_ntz_20 ?_
    refine tp_i (y := nI 65536) (by decide +kernel) ?_
    refine bc_le (tgt := 34) C (by omega) (by omega) dc_J_ntz_23 (by decide) (fun q23 => ?_) (fun q23 => absurd q23 (by decide))
    refine lv_iload_n C.x C.b dc_J_ntz_34 rfl (lv_at hl 1 rfl) ?_
    refine lv_sipush (v := (nI 256)) C.x C.b dc_J_ntz_35 (by decide +kernel) ?_
    refine bc_le (tgt := 49) C (by omega) (by omega) dc_J_ntz_38 (by decide) (fun q38 => ?_) (fun q38 => absurd q38 (by decide))
    refine lv_iload_n C.x C.b dc_J_ntz_49 rfl (lv_at hl 1 rfl) ?_
    refine lv_bipush (v := (nI 16)) C.x C.b dc_J_ntz_50 (by decide +kernel) ?_
    refine bc_le (tgt := 62) C (by omega) (by omega) dc_J_ntz_52 (by decide) (fun q52 => absurd q52 (by decide)) (fun q52 => ?_)
    refine lv_iinc (v := nI 5) (lv' := [(1, .int (nI 5)), (0, .int (nI 31))]) C.x C.b dc_J_ntz_55 hl (k := 0) rfl (by decide +kernel) (by decide) rfl (fun ls hl => ?_)
    refine lv_iload_n C.x C.b dc_J_ntz_58 rfl (lv_at hl 1 rfl) ?_
    refine lv_iconst (v := (nI 4)) C.x C.b dc_J_ntz_59 (by decide +kernel) ?_
    refine lv_iushr (v := nI 1) C.x C.b dc_J_ntz_60 (by decide +kernel) ?_
    refine lv_istore_n (lv' := [(0, .int (nI 1)), (1, .int (nI 5))]) C.x C.b dc_J_ntz_61 rfl hl (by decide) rfl (fun ls hl => ?_)
    refine lv_iload_n C.x C.b dc_J_ntz_62 rfl (lv_at hl 0 rfl) ?_
    refine lv_iconst (v := (nI 4)) C.x C.b dc_J_ntz_63 (by decide +kernel) ?_
    refine bc_le (tgt := 74) C (by omega) (by omega) dc_J_ntz_64 (by decide) (fun q64 => ?_) (fun q64 => absurd q64 (by decide))
    refine lv_iload_n C.x C.b dc_J_ntz_74 rfl (lv_at hl 1 rfl) ?_
    refine lv_iload_n C.x C.b dc_J_ntz_75 rfl (lv_at hl 0 rfl) ?_
    refine lv_iconst (v := (nI 1)) C.x C.b dc_J_ntz_76 (by decide +kernel) ?_
    refine lv_iushr (v := nI 0) C.x C.b dc_J_ntz_77 (by decide +kernel) ?_
    refine lv_iadd C.x C.b dc_J_ntz_78 ?_
    refine tp_i (nI_add 5 0) ?_
    rw [hQ]
    exact rt_i C 5 h (⟨by decide +kernel, by decide, ht2⟩) dc_J_ntz_79
  · replace hl : lv_has ls 2 [(0, .int (nI 63))] := hl
    refine lv_iload_n C.x C.b dc_J_ntz_8 rfl (lv_at hl 0 rfl) ?_
    refine bz_gt (tgt := 17) C (by omega) dc_J_ntz_9 (by decide) (fun q9 => ?_) (fun q9 => absurd q9 (by decide))
    refine lv_iconst (v := (nI 1)) C.x C.b dc_J_ntz_17 (by decide +kernel) ?_
    refine lv_istore_n (lv' := [(1, .int (nI 1)), (0, .int (nI 63))]) C.x C.b dc_J_ntz_18 rfl hl (by decide) rfl (fun ls hl => ?_)
    refine lv_iload_n C.x C.b dc_J_ntz_19 rfl (lv_at hl 1 rfl) ?_
    refine lv_ldcw (v := 65536) C.x C.b C.o (C.t _ gw_65536) dc_J_ntz_20 ?_
    refine tp_i (y := nI 65536) (by decide +kernel) ?_
    refine bc_le (tgt := 34) C (by omega) (by omega) dc_J_ntz_23 (by decide) (fun q23 => ?_) (fun q23 => absurd q23 (by decide))
    refine lv_iload_n C.x C.b dc_J_ntz_34 rfl (lv_at hl 1 rfl) ?_
    refine lv_sipush (v := (nI 256)) C.x C.b dc_J_ntz_35 (by decide +kernel) ?_
    refine bc_le (tgt := 49) C (by omega) (by omega) dc_J_ntz_38 (by decide) (fun q38 => ?_) (fun q38 => absurd q38 (by decide))
    refine lv_iload_n C.x C.b dc_J_ntz_49 rfl (lv_at hl 1 rfl) ?_
    refine lv_bipush (v := (nI 16)) C.x C.b dc_J_ntz_50 (by decide +kernel) ?_
    refine bc_le (tgt := 62) C (by omega) (by omega) dc_J_ntz_52 (by decide) (fun q52 => absurd q52 (by decide)) (fun q52 => ?_)
    refine lv_iinc (v := nI 5) (lv' := [(1, .int (nI 5)), (0, .int (nI 63))]) C.x C.b dc_J_ntz_55 hl (k := 0) rfl (by decide +kernel) (by decide) rfl (fun ls hl => ?_)
    refine lv_iload_n C.x C.b dc_J_ntz_58 rfl (lv_at hl 1 rfl) ?_
    refine lv_iconst (v := (nI 4)) C.x C.b dc_J_ntz_59 (by decide +kernel) ?_
    refine lv_iushr (v := nI 3) C.x C.b dc_J_ntz_60 (by decide +kernel) ?_
    refine lv_istore_n (lv' := [(0, .int (nI 3)), (1, .int (nI 5))]) C.x C.b dc_J_ntz_61 rfl hl (by decide) rfl (fun ls hl => ?_)
    refine lv_iload_n C.x C.b dc_J_ntz_62 rfl (lv_at hl 0 rfl) ?_
    refine lv_iconst (v := (nI 4)) C.x C.b dc_J_ntz_63 (by decide +kernel) ?_
    refine bc_le (tgt := 74) C (by omega) (by omega) dc_J_ntz_64 (by decide) (fun q64 => ?_) (fun q64 => absurd q64 (by decide))
    refine lv_iload_n C.x C.b dc_J_ntz_74 rfl (lv_at hl 1 rfl) ?_
    refine lv_iload_n C.x C.b dc_J_ntz_75 rfl (lv_at hl 0 rfl) ?_
    refine lv_iconst (v := (nI 1)) C.x C.b dc_J_ntz_76 (by decide +kernel) ?_
    refine lv_iushr (v := nI 1) C.x C.b dc_J_ntz_77 (by decide +kernel) ?_
    refine lv_iadd C.x C.b dc_J_ntz_78 ?_
    refine tp_i (nI_add 5 1) ?_
    rw [hQ]
    exact rt_i C 6 h (⟨by decide +kernel, by decide, ht2⟩) dc_J_ntz_79
  · replace hl : lv_has ls 2 [(0, .int (nI 127))] := hl
    refine lv_iload_n C.x C.b dc_J_ntz_8 rfl (lv_at hl 0 rfl) ?_
    refine bz_gt (tgt := 17) C (by omega) dc_J_ntz_9 (by decide) (fun q9 => ?_) (fun q9 => absurd q9 (by decide))
    refine lv_iconst (v := (nI 1)) C.x C.b dc_J_ntz_17 (by decide +kernel) ?_
    refine lv_istore_n (lv' := [(1, .int (nI 1)), (0, .int (nI 127))]) C.x C.b dc_J_ntz_18 rfl hl (by decide) rfl (fun ls hl => ?_)
    refine lv_iload_n C.x C.b dc_J_ntz_19 rfl (lv_at hl 1 rfl) ?_
    refine lv_ldcw (v := 65536) C.x C.b C.o (C.t _ gw_65536) dc_J_ntz_20 ?_
    refine tp_i (y := nI 65536) (by decide +kernel) ?_
    refine bc_le (tgt := 34) C (by omega) (by omega) dc_J_ntz_23 (by decide) (fun q23 => ?_) (fun q23 => absurd q23 (by decide))
    refine lv_iload_n C.x C.b dc_J_ntz_34 rfl (lv_at hl 1 rfl) ?_
    refine lv_sipush (v := (nI 256)) C.x C.b dc_J_ntz_35 (by decide +kernel) ?_
    refine bc_le (tgt := 49) C (by omega) (by omega) dc_J_ntz_38 (by decide) (fun q38 => ?_) (fun q38 => absurd q38 (by decide))
    refine lv_iload_n C.x C.b dc_J_ntz_49 rfl (lv_at hl 1 rfl) ?_
    refine lv_bipush (v := (nI 16)) C.x C.b dc_J_ntz_50 (by decide +kernel) ?_
    refine bc_le (tgt := 62) C (by omega) (by omega) dc_J_ntz_52 (by decide) (fun q52 => absurd q52 (by decide)) (fun q52 => ?_)
    refine lv_iinc (v := nI 5) (lv' := [(1, .int (nI 5)), (0, .int (nI 127))]) C.x C.b dc_J_ntz_55 hl (k := 0) rfl (by decide +kernel) (by decide) rfl (fun ls hl => ?_)
    refine lv_iload_n C.x C.b dc_J_ntz_58 rfl (lv_at hl 1 rfl) ?_
    refine lv_iconst (v := (nI 4)) C.x C.b dc_J_ntz_59 (by decide +kernel) ?_
    refine lv_iushr (v := nI 7) C.x C.b dc_J_ntz_60 (by decide +kernel) ?_
    refine lv_istore_n (lv' := [(0, .int (nI 7)), (1, .int (nI 5))]) C.x C.b dc_J_ntz_61 rfl hl (by decide) rfl (fun ls hl => ?_)
    refine lv_iload_n C.x C.b dc_J_ntz_62 rfl (lv_at hl 0 rfl) ?_
    refine lv_iconst (v := (nI 4)) C.x C.b dc_J_ntz_63 (by decide +kernel) ?_
    refine bc_le (tgt := 74) C (by omega) (by omega) dc_J_ntz_64 (by decide) (fun q64 => absurd q64 (by decide)) (fun q64 => ?_)
    refine lv_iinc (v := nI 7) (lv' := [(1, .int (nI 7)), (0, .int (nI 7))]) C.x C.b dc_J_ntz_67 hl (k := 1) rfl (by decide +kernel) (by decide) rfl (fun ls hl => ?_)
    refine lv_iload_n C.x C.b dc_J_ntz_70 rfl (lv_at hl 1 rfl) ?_
    refine lv_iconst (v := (nI 2)) C.x C.b dc_J_ntz_71 (by decide +kernel) ?_
    refine lv_iushr (v := nI 1) C.x C.b dc_J_ntz_72 (by decide +kernel) ?_
    refine lv_istore_n (lv' := [(0, .int (nI 1)), (1, .int (nI 7))]) C.x C.b dc_J_ntz_73 rfl hl (by decide) rfl (fun ls hl => ?_)
    refine lv_iload_n C.x C.b dc_J_ntz_74 rfl (lv_at hl 1 rfl) ?_
    refine lv_iload_n C.x C.b dc_J_ntz_75 rfl (lv_at hl 0 rfl) ?_
    refine lv_iconst (v := (nI 1)) C.x C.b dc_J_ntz_76 (by decide +kernel) ?_
    refine lv_iushr (v := nI 0) C.x C.b dc_J_ntz_77 (by decide +kernel) ?_
    refine lv_iadd C.x C.b dc_J_ntz_78 ?_
    refine tp_i (nI_add 7 0) ?_
    rw [hQ]
    exact rt_i C 7 h (⟨by decide +kernel, by decide, ht2⟩) dc_J_ntz_79
  · replace hl : lv_has ls 2 [(0, .int (nI 255))] := hl
    refine lv_iload_n C.x C.b dc_J_ntz_8 rfl (lv_at hl 0 rfl) ?_
    refine bz_gt (tgt := 17) C (by omega) dc_J_ntz_9 (by decide) (fun q9 => ?_) (fun q9 => absurd q9 (by decide))
    refine lv_iconst (v := (nI 1)) C.x C.b dc_J_ntz_17 (by decide +kernel) ?_
    refine lv_istore_n (lv' := [(1, .int (nI 1)), (0, .int (nI 255))]) C.x C.b dc_J_ntz_18 rfl hl (by decide) rfl (fun ls hl => ?_)
    refine lv_iload_n C.x C.b dc_J_ntz_19 rfl (lv_at hl 1 rfl) ?_
    refine lv_ldcw (v := 65536) C.x C.b C.o (C.t _ gw_65536) dc_J_ntz_20 ?_
    refine tp_i (y := nI 65536) (by decide +kernel) ?_
    refine bc_le (tgt := 34) C (by omega) (by omega) dc_J_ntz_23 (by decide) (fun q23 => ?_) (fun q23 => absurd q23 (by decide))
    refine lv_iload_n C.x C.b dc_J_ntz_34 rfl (lv_at hl 1 rfl) ?_
    refine lv_sipush (v := (nI 256)) C.x C.b dc_J_ntz_35 (by decide +kernel) ?_
    refine bc_le (tgt := 49) C (by omega) (by omega) dc_J_ntz_38 (by decide) (fun q38 => ?_) (fun q38 => absurd q38 (by decide))
    refine lv_iload_n C.x C.b dc_J_ntz_49 rfl (lv_at hl 1 rfl) ?_
    refine lv_bipush (v := (nI 16)) C.x C.b dc_J_ntz_50 (by decide +kernel) ?_
    refine bc_le (tgt := 62) C (by omega) (by omega) dc_J_ntz_52 (by decide) (fun q52 => absurd q52 (by decide)) (fun q52 => ?_)
    refine lv_iinc (v := nI 5) (lv' := [(1, .int (nI 5)), (0, .int (nI 255))]) C.x C.b dc_J_ntz_55 hl (k := 0) rfl (by decide +kernel) (by decide) rfl (fun ls hl => ?_)
    refine lv_iload_n C.x C.b dc_J_ntz_58 rfl (lv_at hl 1 rfl) ?_
    refine lv_iconst (v := (nI 4)) C.x C.b dc_J_ntz_59 (by decide +kernel) ?_
    refine lv_iushr (v := nI 15) C.x C.b dc_J_ntz_60 (by decide +kernel) ?_
    refine lv_istore_n (lv' := [(0, .int (nI 15)), (1, .int (nI 5))]) C.x C.b dc_J_ntz_61 rfl hl (by decide) rfl (fun ls hl => ?_)
    refine lv_iload_n C.x C.b dc_J_ntz_62 rfl (lv_at hl 0 rfl) ?_
    refine lv_iconst (v := (nI 4)) C.x C.b dc_J_ntz_63 (by decide +kernel) ?_
    refine bc_le (tgt := 74) C (by omega) (by omega) dc_J_ntz_64 (by decide) (fun q64 => absurd q64 (by decide)) (fun q64 => ?_)
    refine lv_iinc (v := nI 7) (lv' := [(1, .int (nI 7)), (0, .int (nI 15))]) C.x C.b dc_J_ntz_67 hl (k := 1) rfl (by decide +kernel) (by decide) rfl (fun ls hl => ?_)
    refine lv_iload_n C.x C.b dc_J_ntz_70 rfl (lv_at hl 1 rfl) ?_
    refine lv_iconst (v := (nI 2)) C.x C.b dc_J_ntz_71 (by decide +kernel) ?_
    refine lv_iushr (v := nI 3) C.x C.b dc_J_ntz_72 (by decide +kernel) ?_
    refine lv_istore_n (lv' := [(0, .int (nI 3)), (1, .int (nI 7))]) C.x C.b dc_J_ntz_73 rfl hl (by decide) rfl (fun ls hl => ?_)
    refine lv_iload_n C.x C.b dc_J_ntz_74 rfl (lv_at hl 1 rfl) ?_
    refine lv_iload_n C.x C.b dc_J_ntz_75 rfl (lv_at hl 0 rfl) ?_
    refine lv_iconst (v := (nI 1)) C.x C.b dc_J_ntz_76 (by decide +kernel) ?_
    refine lv_iushr (v := nI 1) C.x C.b dc_J_ntz_77 (by decide +kernel) ?_
    refine lv_iadd C.x C.b dc_J_ntz_78 ?_
    refine tp_i (nI_add 7 1) ?_
    rw [hQ]
    exact rt_i C 8 h (⟨by decide +kernel, by decide, ht2⟩) dc_J_ntz_79
  · replace hl : lv_has ls 2 [(0, .int (nI 511))] := hl
    refine lv_iload_n C.x C.b dc_J_ntz_8 rfl (lv_at hl 0 rfl) ?_
    refine bz_gt (tgt := 17) C (by omega) dc_J_ntz_9 (by decide) (fun q9 => ?_) (fun q9 => absurd q9 (by decide))
    refine lv_iconst (v := (nI 1)) C.x C.b dc_J_ntz_17 (by decide +kernel) ?_
    refine lv_istore_n (lv' := [(1, .int (nI 1)), (0, .int (nI 511))]) C.x C.b dc_J_ntz_18 rfl hl (by decide) rfl (fun ls hl => ?_)
    refine lv_iload_n C.x C.b dc_J_ntz_19 rfl (lv_at hl 1 rfl) ?_
    refine lv_ldcw (v := 65536) C.x C.b C.o (C.t _ gw_65536) dc_J_ntz_20 ?_
    refine tp_i (y := nI 65536) (by decide +kernel) ?_
    refine bc_le (tgt := 34) C (by omega) (by omega) dc_J_ntz_23 (by decide) (fun q23 => ?_) (fun q23 => absurd q23 (by decide))
    refine lv_iload_n C.x C.b dc_J_ntz_34 rfl (lv_at hl 1 rfl) ?_
    refine lv_sipush (v := (nI 256)) C.x C.b dc_J_ntz_35 (by decide +kernel) ?_
    refine bc_le (tgt := 49) C (by omega) (by omega) dc_J_ntz_38 (by decide) (fun q38 => absurd q38 (by decide)) (fun q38 => ?_)
    refine lv_iinc (v := nI 9) (lv' := [(1, .int (nI 9)), (0, .int (nI 511))]) C.x C.b dc_J_ntz_41 hl (k := 0) rfl (by decide +kernel) (by decide) rfl (fun ls hl => ?_)
    refine lv_iload_n C.x C.b dc_J_ntz_44 rfl (lv_at hl 1 rfl) ?_
    refine lv_bipush (v := (nI 8)) C.x C.b dc_J_ntz_45 (by decide +kernel) ?_
    refine lv_iushr (v := nI 1) C.x C.b dc_J_ntz_47 (by decide +kernel) ?_
    refine lv_istore_n (lv' := [(0, .int (nI 1)), (1, .int (nI 9))]) C.x C.b dc_J_ntz_48 rfl hl (by decide) rfl (fun ls hl => ?_)
    refine lv_iload_n C.x C.b dc_J_ntz_49 rfl (lv_at hl 0 rfl) ?_
    refine lv_bipush (v := (nI 16)) C.x C.b dc_J_ntz_50 (by decide +kernel) ?_
    refine bc_le (tgt := 62) C (by omega) (by omega) dc_J_ntz_52 (by decide) (fun q52 => ?_) (fun q52 => absurd q52 (by decide))
    refine lv_iload_n C.x C.b dc_J_ntz_62 rfl (lv_at hl 0 rfl) ?_
    refine lv_iconst (v := (nI 4)) C.x C.b dc_J_ntz_63 (by decide +kernel) ?_
    refine bc_le (tgt := 74) C (by omega) (by omega) dc_J_ntz_64 (by decide) (fun q64 => ?_) (fun q64 => absurd q64 (by decide))
    refine lv_iload_n C.x C.b dc_J_ntz_74 rfl (lv_at hl 1 rfl) ?_
    refine lv_iload_n C.x C.b dc_J_ntz_75 rfl (lv_at hl 0 rfl) ?_
    refine lv_iconst (v := (nI 1)) C.x C.b dc_J_ntz_76 (by decide +kernel) ?_
    refine lv_iushr (v := nI 0) C.x C.b dc_J_ntz_77 (by decide +kernel) ?_
    refine lv_iadd C.x C.b dc_J_ntz_78 ?_
    refine tp_i (nI_add 9 0) ?_
    rw [hQ]
    exact rt_i C 9 h (⟨by decide +kernel, by decide, ht2⟩) dc_J_ntz_79

abbrev rm_S_begin : Room := { frames := 3, cells := 0, slots := 0, locals := 64 }
set_option maxRecDepth 100000 in
set_option maxHeartbeats 4000000 in
theorem c_S_begin (l : Launch) (Γ : gG) (d : Nat → Nat) (hm : Nat) (mc : va_E) (so : Nat → Nat → Nat) (tl : Nat → Nat → Int64) (tb : Nat → Nat → Nat → Nat) (wr : va_W) (hm2 : Nat) (mc2 : va_E) (M : mM) (hM : mOK d tb mc2 M) (hB : sB so) : cT l Γ my_S_begin bc_S_begin 3 none rm_S_begin [.ref (d 2), .ref hm2] (xW Γ d hm mc so tl tb ((hm2, mc2) :: wr)) (S := Nat → Nat → Nat) (fun v u => v = none ∧ SI M u ∧ u 10 0 = 1 ∧ u 1 0 = M.1 ∧ u 10 1 = 1 ∧ u 10 2 = 0 ∧ u 10 3 = so 10 3) (fun u => xW Γ d hm2 mc2 u tl tb wr) := by
  refine cT.start (by decide) (Nat.le_of_ble_eq_true rfl) (fun p e s m args below meth c ls Q hQ C hmn h hl => ?_)
  replace hl : lv_has ls 3 [(0, .ref (d 2)), (1, .ref hm2)] := hl
  have hB1 := hB.1
  refine lv_iconst (v := (nI 0)) C.x C.b dc_S_begin_0 (by decide +kernel) ?_
  refine lv_istore_n (lv' := [(2, .int (nI 0)), (0, .ref (d 2)), (1, .ref hm2)]) C.x C.b dc_S_begin_1 rfl hl (by decide) rfl (fun ls hl => ?_)
  have hz : ∀ n, n ≠ 0 → so n = so n := fun _ _ => rfl
  have hq : ∀ q, q < 10240 → so 0 q ≠ 0 → ∃ i, 0 ≤ i ∧ i < so 10 0 ∧ so 1 i = q := fun q a b => by obtain ⟨i, x, y⟩ := hB.2.2 q a b; exact ⟨i, by omega, x, y⟩
  have lp_2 : ∀ (n_2 : Nat) (k : Nat) (z : Nat → Nat → Nat) (H : Heap) (locs : List Loc) (ls : Array Slot), so 10 0 - k < n_2 → (k ≤ so 10 0) → (∀ n, n ≠ 0 → z n = so n) → (∀ q, q < 10240 → z 0 q ≠ 0 → ∃ i, k ≤ i ∧ i < so 10 0 ∧ so 1 i = q) → sT Γ s (xW Γ d hm mc z tl tb ((hm2, mc2) :: wr)) H locs → lv_has ls 3 [(2, .int (nI k)), (0, .ref (d 2)), (1, .ref hm2)] → W p l e rm_S_begin s m args below meth c H locs 0 0 Q (F0 m 2 ls []) := by
    intro n_2
    induction n_2 with
    | zero => intro k z H locs ls hms; exact absurd hms (Nat.not_lt_zero _)
    | succ n_2 ih_2 =>
      intro k z H locs ls hms hk hz hq h hl
      have z10 : z 10 0 = so 10 0 := by rw [hz 10 (by decide)]
      have z1 : z 1 = so 1 := hz 1 (by decide)
      refine lv_iload_n C.x C.b dc_S_begin_2 rfl (lv_at hl 0 rfl) ?_
      refine lv_aload_n C.x C.b dc_S_begin_3 rfl (lv_at hl 1 rfl) ?_
      refine rg_get C h 2 rfl rfl in_S 4 (by decide) fl_S_51 rfl dc_S_begin_4 ?_
      refine bc_ge (tgt := 28) C (by omega) (by omega) dc_S_begin_7 (by decide) (fun q7 => ?_) (fun q7 => ?_)
      · refine lv_aload_n C.x C.b dc_S_begin_28 rfl (lv_at hl 1 rfl) ?_
        refine lv_aload_n C.x C.b dc_S_begin_29 rfl (lv_at hl 2 rfl) ?_
        refine rg_put (ty := .object "RestSets$Machine") C h 2 rfl rfl in_S tk_S nm_S 0 (by decide) fl_S_14 rfl (by decide +kernel) rfl rfl (by simp) dc_S_begin_30 (fun H locs h => ?_)
        replace h := xw_mach h
        replace h : sT Γ s (xW Γ d hm2 mc2 z tl tb wr) H locs := h
        refine lv_aload_n C.x C.b dc_S_begin_33 rfl (lv_at hl 1 rfl) ?_
        refine lv_iconst (v := (nI 0)) C.x C.b dc_S_begin_34 (by decide +kernel) ?_
        refine rg_put (ty := .int) C h 2 rfl rfl in_S tk_S nm_S 4 (by decide) fl_S_51 rfl (by decide +kernel) rfl rfl (by simp) dc_S_begin_35 (fun H locs h => ?_)
        obtain ⟨so_1, eso_1⟩ : ∃ zz9, zz9 = us z 10 (us (z 10) 0 0) := ⟨_, rfl⟩
        have xso_1 : so_1 10 0 = 0 ∧ so_1 10 1 = z 10 1 ∧ so_1 10 2 = z 10 2 ∧ so_1 10 3 = z 10 3 := by rw [eso_1, us_s]; exact ⟨us_s _ _ _, us_n _ _ (by decide), us_n _ _ (by decide), us_n _ _ (by decide)⟩
        replace h : sT Γ s (xW Γ d hm2 mc2 so_1 tl tb wr) H locs := by rw [eso_1]; exact h
        refine lv_aload_n C.x C.b dc_S_begin_38 rfl (lv_at hl 1 rfl) ?_
        refine lv_iconst (v := (nI 1)) C.x C.b dc_S_begin_39 (by decide +kernel) ?_
        refine rg_put (ty := .int) C h 2 rfl rfl in_S tk_S nm_S 9 (by decide) fl_S_55 rfl (by decide +kernel) rfl rfl (by simp) dc_S_begin_40 (fun H locs h => ?_)
        obtain ⟨so_2, eso_2⟩ : ∃ zz9, zz9 = us so_1 10 (us (so_1 10) 1 1) := ⟨_, rfl⟩
        have xso_2 : so_2 10 0 = so_1 10 0 ∧ so_2 10 1 = 1 ∧ so_2 10 2 = so_1 10 2 ∧ so_2 10 3 = so_1 10 3 := by rw [eso_2, us_s]; exact ⟨us_n _ _ (by decide), us_s _ _ _, us_n _ _ (by decide), us_n _ _ (by decide)⟩
        replace h : sT Γ s (xW Γ d hm2 mc2 so_2 tl tb wr) H locs := by rw [eso_2]; exact h
        refine lv_aload_n C.x C.b dc_S_begin_43 rfl (lv_at hl 1 rfl) ?_
        refine lv_iconst (v := (nI 0)) C.x C.b dc_S_begin_44 (by decide +kernel) ?_
        refine rg_put (ty := .int) C h 2 rfl rfl in_S tk_S nm_S 11 (by decide) fl_S_58 rfl (by decide +kernel) rfl rfl (by simp) dc_S_begin_45 (fun H locs h => ?_)
        obtain ⟨so_3, eso_3⟩ : ∃ zz9, zz9 = us so_2 10 (us (so_2 10) 2 0) := ⟨_, rfl⟩
        have xso_3 : so_3 10 0 = so_2 10 0 ∧ so_3 10 1 = so_2 10 1 ∧ so_3 10 2 = 0 ∧ so_3 10 3 = so_2 10 3 := by rw [eso_3, us_s]; exact ⟨us_n _ _ (by decide), us_n _ _ (by decide), us_s _ _ _, us_n _ _ (by decide)⟩
        replace h : sT Γ s (xW Γ d hm2 mc2 so_3 tl tb wr) H locs := by rw [eso_3]; exact h
        have hS0 : SI M so_3 := SI.zero (by omega) (by omega) (fun q hq9 => by
          rw [eso_3, us_n _ _ (by decide), eso_2, us_n _ _ (by decide), eso_1, us_n _ _ (by decide)]
          by_cases e : z 0 q = 0
          · exact e
          · obtain ⟨i, x, y, v⟩ := hq q hq9 e; omega)
        have hok := mok_ok hM
        have hs0 : so_3 0 M.1 = 0 := by
          rw [eso_3, us_n _ _ (by decide), eso_2, us_n _ _ (by decide), eso_1, us_n _ _ (by decide)]
          by_cases e : z 0 M.1 = 0
          · exact e
          · obtain ⟨i, x, y, v⟩ := hq _ (hok.2.2 _ hok.1) e; omega
        have h103 : so_3 10 3 = so 10 3 := by rw [xso_3.2.2.2, xso_2.2.2.2, xso_1.2.2.2, hz 10 (by decide)]
        have h12 : so_3 10 1 = 1 ∧ so_3 10 2 = 0 ∧ so_3 10 0 = 0 := by omega
        refine lv_aload_n C.x C.b dc_S_begin_48 rfl (lv_at hl 1 rfl) ?_
        refine lv_aload_n C.x C.b dc_S_begin_49 rfl (lv_at hl 1 rfl) ?_
        refine rg_get C h 2 rfl rfl in_S 0 (by decide) fl_S_14 rfl dc_S_begin_50 ?_
        refine kv_start (rest := [.ref (d 2)]) C h hl.1 hM lk_S_61 (by decide) (by decide) (Nat.le_of_ble_eq_true rfl) dc_S_begin_53 (fun H locs h => ?_)
        refine kv_V (As := [.int (nI (M.1))]) (rest := []) C h hl.1 (c_S_meet l Γ d hm2 mc2 so_3 tl tb wr M (M.1) hM hS0 (hok.2.2 _ hok.1) hok.1 ⟨[], lts_nil, rfl⟩) mw_S_meet lk_S_67 (q0 := 2) rfl rfl rfl (by decide) (by decide) (Nat.le_of_ble_eq_true rfl) dc_S_begin_56 (fun v u H locs hp h => ?_)
        obtain ⟨⟨j_4, so_5⟩, rfl⟩ : ∃ zz9, zz9 = u := ⟨_, rfl⟩
        obtain ⟨rfl, SI_so_5, sE_so_5, lt_j_4, pl_j_4, nw_j_4⟩ := hp
        dsimp only at SI_so_5 sE_so_5 lt_j_4 pl_j_4 nw_j_4
        replace h : sT Γ s (xW Γ d hm2 mc2 so_5 tl tb wr) H locs := h
        refine W.eq (g2 := F0 m 59 ls [.int (nI j_4)]) rfl ?_
        refine lv_pop C.x C.b dc_S_begin_59 rfl ?_
        rw [hQ]
        exact rt_v C so_5 h (⟨rfl, SI_so_5, by have := (nw_j_4 hs0).2; omega, by have e := (nw_j_4 hs0).1; rw [h12.2.2] at e; rw [← e]; exact pl_j_4, by rw [sE_so_5.2.1]; exact h12.1, by rw [sE_so_5.2.2.1]; exact h12.2.1, by rw [sE_so_5.2.2.2.1]; exact h103⟩) dc_S_begin_60
      · refine lv_aload_n C.x C.b dc_S_begin_10 rfl (lv_at hl 1 rfl) ?_
        refine rg_get C h 2 rfl rfl in_S 1 (by decide) fl_S_20 rfl dc_S_begin_11 ?_
        refine lv_aload_n C.x C.b dc_S_begin_14 rfl (lv_at hl 1 rfl) ?_
        refine rg_get C h 2 rfl rfl in_S 2 (by decide) fl_S_24 rfl dc_S_begin_15 ?_
        refine lv_iload_n C.x C.b dc_S_begin_18 rfl (lv_at hl 0 rfl) ?_
        refine rg_ild C h 6 rfl (by omega) (by decide) dc_S_begin_19 ?_
        refine lv_iconst (v := (nI 0)) C.x C.b dc_S_begin_20 (by decide +kernel) ?_
        refine rg_ist C h 5 rfl (by rw [z1]; exact hB.2.1 k (by omega)) (by decide) dc_S_begin_21 (fun H locs h => ?_)
        obtain ⟨so_6, eso_6⟩ : ∃ zz9, zz9 = us z 0 (us (z 0) (z 1 k) 0) := ⟨_, rfl⟩
        have xso_6 : so_6 10 0 = z 10 0 ∧ so_6 10 1 = z 10 1 ∧ so_6 10 2 = z 10 2 ∧ so_6 10 3 = z 10 3 := by rw [eso_6, us_n _ _ (by decide)]; exact ⟨rfl, rfl, rfl, rfl⟩
        replace h : sT Γ s (xW Γ d hm mc so_6 tl tb ((hm2, mc2) :: wr)) H locs := by rw [eso_6]; exact h
        refine lv_iinc (v := nI (k + 1)) (lv' := [(2, .int (nI (k + 1))), (0, .ref (d 2)), (1, .ref hm2)]) C.x C.b dc_S_begin_22 hl (k := 0) rfl (nI_1 k) (by decide) rfl (fun ls hl => ?_)
        refine lv_goto (tgt := 2) C.x C.b dc_S_begin_25 (by decide) ?_
        have hq : ∀ q, q < 10240 → so_6 0 q ≠ 0 → ∃ i, k + 1 ≤ i ∧ i < so 10 0 ∧ so 1 i = q := fun q a b => by
          rw [eso_6, us_s, z1] at b
          by_cases e : q = so 1 k
          · subst e; rw [us_s] at b; exact absurd rfl b
          · rw [us_n _ _ e] at b
            obtain ⟨i, x, y, v⟩ := hq q a b
            exact ⟨i, by have : i ≠ k := fun z => e (by rw [← z, v]); omega, y, v⟩
        have hz : ∀ n, n ≠ 0 → so_6 n = so n := fun n hn => by rw [eso_6, us_n _ _ hn]; exact hz n hn
        exact ih_2 (k + 1) so_6 _ _ _ (by omega) (by first | assumption | omega) (by first | assumption | omega) (by first | assumption | omega) h (lv_sub hl [0, 1, 2] rfl)
  exact lp_2 _ 0 so _ _ _ (Nat.lt_succ_self _) (by first | assumption | omega) (by first | assumption | omega) (by first | assumption | omega) h (lv_sub hl [0, 1, 2] rfl)

abbrev rm_S_meetsAnEnd : Room := { frames := 4, cells := 0, slots := 0, locals := 92 }
set_option maxRecDepth 100000 in
set_option maxHeartbeats 4000000 in
theorem c_S_meetsAnEnd (l : Launch) (Γ : gG) (d : Nat → Nat) (hm : Nat) (mc : va_E) (so : Nat → Nat → Nat) (tl : Nat → Nat → Int64) (tb : Nat → Nat → Nat → Nat) (wr : va_W) (M : mM) (hM : mOK d tb mc M) (hS : SI M so) (h1 : 1 ≤ so 10 0) (hst : so 1 0 = M.1) : cT l Γ my_S_meetsAnEnd bc_S_meetsAnEnd 3 (some .boolean) rm_S_meetsAnEnd [.ref (d 2)] (xW Γ d hm mc so tl tb wr) (S := Bool × (Nat → Nat → Nat)) (fun v u => v = some (.int (bI u.1)) ∧ SI M u.2 ∧ sE so u.2 ∧ (u.1 = true ↔ ∃ w, lts w ∧ macc M M.1 w = true)) (fun u => xW Γ d hm mc u.2 tl tb wr) := by
  refine cT.start (by decide) (Nat.le_of_ble_eq_true rfl) (fun p e s m args below meth c ls Q hQ C hmn h hl => ?_)
  replace hl : lv_has ls 3 [(0, .ref (d 2))] := hl
  refine lv_iconst (v := (nI 0)) C.x C.b dc_S_meetsAnEnd_0 (by decide +kernel) ?_
  refine lv_istore_n (lv' := [(1, .int (nI 0)), (0, .ref (d 2))]) C.x C.b dc_S_meetsAnEnd_1 rfl hl (by decide) rfl (fun ls hl => ?_)
  have SI_z := hS
  have sE_z : sE so so := sE.rf
  have hA : ∀ i, i < 0 → M.2.2.1 (so 1 i) = false ∧ ∀ l, l < 3 → ∃ j, j < so 10 0 ∧ so 1 j = M.2.1 (so 1 i) l := fun i hi => absurd hi (Nat.not_lt_zero _)
  have lp_2 : ∀ (n_2 : Nat) (k : Nat) (z : Nat → Nat → Nat) (H : Heap) (locs : List Loc) (ls : Array Slot), 10240 - k < n_2 → (SI M z) → (sE so z) → (k ≤ z 10 0) → (∀ i, i < k → M.2.2.1 (z 1 i) = false ∧ ∀ l, l < 3 → ∃ j, j < z 10 0 ∧ z 1 j = M.2.1 (z 1 i) l) → sT Γ s (xW Γ d hm mc z tl tb wr) H locs → lv_has ls 3 [(1, .int (nI k)), (0, .ref (d 2))] → W p l e rm_S_meetsAnEnd s m args below meth c H locs 0 0 Q (F0 m 2 ls []) := by
    intro n_2
    induction n_2 with
    | zero => intro k z H locs ls hms; exact absurd hms (Nat.not_lt_zero _)
    | succ n_2 ih_2 =>
      intro k z H locs ls hms SI_z sE_z hk hA h hl
      have hz1 := SI_z.1
      have hz0 : so 10 0 ≤ z 10 0 := sE_z.2.2.2.2.1
      refine lv_iload_n C.x C.b dc_S_meetsAnEnd_2 rfl (lv_at hl 0 rfl) ?_
      refine lv_aload_n C.x C.b dc_S_meetsAnEnd_3 rfl (lv_at hl 1 rfl) ?_
      refine rg_get C h 2 rfl rfl in_S 4 (by decide) fl_S_51 rfl dc_S_meetsAnEnd_4 ?_
      refine bc_ge (tgt := 61) C (by omega) (by omega) dc_S_meetsAnEnd_7 (by decide) (fun q7 => ?_) (fun q7 => ?_)
      · refine lv_iconst (v := (nI 0)) C.x C.b dc_S_meetsAnEnd_61 (by decide +kernel) ?_
        rw [hQ]
        exact rt_z C (false, z) h (⟨rb_f (b := false) rfl, SI_z, sE_z, fun x => (by cases x), fun x => by
          obtain ⟨w, w1, w2⟩ := x
          have e0 : z 1 0 = M.1 := by rw [(sE_z.2.2.2.2.2 0 h1).1]; exact hst
          rw [← e0, none_met (fun i hi => hA i (by omega)) w 0 (by omega) w1] at w2
          cases w2⟩) (by decide +kernel) dc_S_meetsAnEnd_62
      · refine lv_iload_n C.x C.b dc_S_meetsAnEnd_10 rfl (lv_at hl 0 rfl) ?_
        refine lv_sipush (v := (nI 10240)) C.x C.b dc_S_meetsAnEnd_11 (by decide +kernel) ?_
        refine bc_ge (tgt := 61) C (by omega) (by omega) dc_S_meetsAnEnd_14 (by decide) (fun q14 => ?_) (fun q14 => ?_)
        · refine lv_iconst (v := (nI 0)) C.x C.b dc_S_meetsAnEnd_61 (by decide +kernel) ?_
          rw [hQ]
          exact rt_z C (false, z) h (⟨rb_f (b := false) rfl, SI_z, sE_z, fun x => (by cases x), fun x => by
            obtain ⟨w, w1, w2⟩ := x
            have e0 : z 1 0 = M.1 := by rw [(sE_z.2.2.2.2.2 0 h1).1]; exact hst
            rw [← e0, none_met (fun i hi => hA i (by omega)) w 0 (by omega) w1] at w2
            cases w2⟩) (by decide +kernel) dc_S_meetsAnEnd_62
        · refine lv_aload_n C.x C.b dc_S_meetsAnEnd_17 rfl (lv_at hl 1 rfl) ?_
          refine rg_get C h 2 rfl rfl in_S 0 (by decide) fl_S_14 rfl dc_S_meetsAnEnd_18 ?_
          refine lv_aload_n C.x C.b dc_S_meetsAnEnd_21 rfl (lv_at hl 1 rfl) ?_
          refine rg_get C h 2 rfl rfl in_S 2 (by decide) fl_S_24 rfl dc_S_meetsAnEnd_22 ?_
          refine lv_iload_n C.x C.b dc_S_meetsAnEnd_25 rfl (lv_at hl 0 rfl) ?_
          refine rg_ild C h 6 rfl (by omega) (by decide) dc_S_meetsAnEnd_26 ?_
          refine kv_accepts (rest := []) C h hl.1 hM ((SI_z.2.1 k (by omega)).1) lk_S_71 (by decide) (by decide) (Nat.le_of_ble_eq_true rfl) dc_S_meetsAnEnd_27 (fun H locs h => ?_)
          refine bb_eq (tgt := 35) C dc_S_meetsAnEnd_30 (by decide) (fun q30 => ?_) (fun q30 => ?_)
          · refine lv_iconst (v := (nI 0)) C.x C.b dc_S_meetsAnEnd_35 (by decide +kernel) ?_
            refine lv_istore_n (lv' := [(2, .int (nI 0)), (1, .int (nI k)), (0, .ref (d 2))]) C.x C.b dc_S_meetsAnEnd_36 rfl hl (by decide) rfl (fun ls hl => ?_)
            have hB : M.2.2.1 (z 1 k) = false ∧ ∀ l, l < 0 → ∃ j, j < z 10 0 ∧ z 1 j = M.2.1 (z 1 k) l := ⟨q30, fun l hl => absurd hl (Nat.not_lt_zero _)⟩
            have lp_37 : ∀ (n_37 : Nat) (q : Nat) (y : Nat → Nat → Nat) (H : Heap) (locs : List Loc) (ls : Array Slot), 3 - q < n_37 → (q ≤ 3) → (SI M y) → (sE so y) → (k < y 10 0) → (∀ i, i < k → M.2.2.1 (y 1 i) = false ∧ ∀ l, l < 3 → ∃ j, j < y 10 0 ∧ y 1 j = M.2.1 (y 1 i) l) → (M.2.2.1 (y 1 k) = false ∧ ∀ l, l < q → ∃ j, j < y 10 0 ∧ y 1 j = M.2.1 (y 1 k) l) → sT Γ s (xW Γ d hm mc y tl tb wr) H locs → lv_has ls 3 [(2, .int (nI q)), (1, .int (nI k)), (0, .ref (d 2))] → W p l e rm_S_meetsAnEnd s m args below meth c H locs 0 0 Q (F0 m 37 ls []) := by
              intro n_37
              induction n_37 with
              | zero => intro q y H locs ls hms; exact absurd hms (Nat.not_lt_zero _)
              | succ n_37 ih_37 =>
                intro q y H locs ls hms hq SI_y sE_y hky hyA hB h hl
                have hy1 := SI_y.1
                refine lv_iload_n C.x C.b dc_S_meetsAnEnd_37 rfl (lv_at hl 0 rfl) ?_
                refine lv_iconst (v := (nI 3)) C.x C.b dc_S_meetsAnEnd_38 (by decide +kernel) ?_
                refine bc_ge (tgt := 55) C (by omega) (by omega) dc_S_meetsAnEnd_39 (by decide) (fun q39 => ?_) (fun q39 => ?_)
                · refine lv_iinc (v := nI (k + 1)) (lv' := [(1, .int (nI (k + 1))), (2, .int (nI q)), (0, .ref (d 2))]) C.x C.b dc_S_meetsAnEnd_55 hl (k := 1) rfl (nI_1 k) (by decide) rfl (fun ls hl => ?_)
                  refine lv_goto (tgt := 2) C.x C.b dc_S_meetsAnEnd_58 (by decide) ?_
                  have hA : ∀ i, i < (k + 1) → M.2.2.1 (y 1 i) = false ∧ ∀ l, l < 3 → ∃ j, j < y 10 0 ∧ y 1 j = M.2.1 (y 1 i) l := fun i hi => by
                    by_cases e : i = k
                    · subst e; rw [show q = 3 by omega] at hB; exact hB
                    · exact hyA i (by omega)
                  exact ih_2 (k + 1) y _ _ _ (by omega) (by first | exact SI_y | exact SI_z) (by first | exact sE_y | exact sE_z) (by first | assumption | omega) (by first | assumption | omega) h (lv_sub hl [0, 2] rfl)
                · refine lv_aload_n C.x C.b dc_S_meetsAnEnd_42 rfl (lv_at hl 2 rfl) ?_
                  refine lv_iload_n C.x C.b dc_S_meetsAnEnd_43 rfl (lv_at hl 1 rfl) ?_
                  refine lv_iload_n C.x C.b dc_S_meetsAnEnd_44 rfl (lv_at hl 0 rfl) ?_
                  refine kv_V (As := [.int (nI k), .int (nI q)]) (rest := []) C h hl.1 (c_S_follow l Γ d hm mc y tl tb wr M k q hM SI_y (by omega) (by omega)) mw_S_follow lk_S_75 (q0 := 2) rfl rfl rfl (by decide) (by decide) (Nat.le_of_ble_eq_true rfl) dc_S_meetsAnEnd_45 (fun v u H locs hp h => ?_)
                  obtain ⟨⟨j_1, so_2⟩, rfl⟩ : ∃ zz9, zz9 = u := ⟨_, rfl⟩
                  obtain ⟨rfl, SI_so_2, sE_so_2, lt_j_1, pl_j_1, me_j_1, st_j_1⟩ := hp
                  dsimp only at SI_so_2 sE_so_2 lt_j_1 pl_j_1 me_j_1 st_j_1
                  replace h : sT Γ s (xW Γ d hm mc so_2 tl tb wr) H locs := h
                  refine W.eq (g2 := F0 m 48 ls [.int (nI j_1)]) rfl ?_
                  refine lv_pop C.x C.b dc_S_meetsAnEnd_48 rfl ?_
                  refine lv_iinc (v := nI (q + 1)) (lv' := [(2, .int (nI (q + 1))), (1, .int (nI k)), (0, .ref (d 2))]) C.x C.b dc_S_meetsAnEnd_49 hl (k := 0) rfl (nI_1 q) (by decide) rfl (fun ls hl => ?_)
                  refine lv_goto (tgt := 37) C.x C.b dc_S_meetsAnEnd_52 (by decide) ?_
                  have SI_n := SI_so_2
                  have sE_n := sE_y.tr sE_so_2
                  have hyA : ∀ i, i < k → M.2.2.1 (so_2 1 i) = false ∧ ∀ l, l < 3 → ∃ j, j < so_2 10 0 ∧ so_2 1 j = M.2.1 (so_2 1 i) l := fun i hi => by
                    rw [(sE_so_2.2.2.2.2.2 i (by omega)).1]
                    refine ⟨(hyA i hi).1, fun l hl => ?_⟩
                    obtain ⟨j2, x, y2⟩ := (hyA i hi).2 l hl
                    exact ⟨j2, by have := sE_so_2.2.2.2.2.1; omega, by rw [(sE_so_2.2.2.2.2.2 j2 x).1]; exact y2⟩
                  have hB : M.2.2.1 (so_2 1 k) = false ∧ ∀ l, l < (q + 1) → ∃ j, j < so_2 10 0 ∧ so_2 1 j = M.2.1 (so_2 1 k) l := by
                    rw [(sE_so_2.2.2.2.2.2 k (by omega)).1]
                    refine ⟨hB.1, fun l hl => ?_⟩
                    by_cases e : l = q
                    · subst e; exact ⟨j_1, lt_j_1, pl_j_1⟩
                    · obtain ⟨j2, x, y2⟩ := hB.2 l (by omega)
                      exact ⟨j2, by have := sE_so_2.2.2.2.2.1; omega, by rw [(sE_so_2.2.2.2.2.2 j2 x).1]; exact y2⟩
                  exact ih_37 (q + 1) so_2 _ _ _ (by omega) (by first | assumption | omega) (by first | exact SI_n | exact SI_z) (by first | exact sE_n | exact sE_z) (by first | omega | (have := sE_so_2.2.2.2.2.1; omega)) (by first | exact hyA | exact hA) (by first | assumption | omega) h (lv_sub hl [0, 1, 2] rfl)
            exact lp_37 _ 0 z _ _ _ (Nat.lt_succ_self _) (by first | assumption | omega) (by first | exact SI_n | exact SI_z) (by first | exact sE_n | exact sE_z) (by first | omega | (have := sE_so_2.2.2.2.2.1; omega)) (by first | exact hyA | exact hA) (by first | assumption | omega) h (lv_sub hl [0, 1, 2] rfl)
          · refine lv_iconst (v := (nI 1)) C.x C.b dc_S_meetsAnEnd_33 (by decide +kernel) ?_
            rw [hQ]
            exact rt_z C (true, z) h (⟨rb_t (b := true) rfl, SI_z, sE_z, fun _ => by obtain ⟨w, w1, w2⟩ := SI_z.2.2.2.2.2.2 k (by omega); exact ⟨w, w1, by rw [macc, w2]; exact q30⟩, fun _ => rfl⟩) (by decide +kernel) dc_S_meetsAnEnd_34
  exact lp_2 _ 0 so _ _ _ (Nat.lt_succ_self _) (by first | exact SI_y | exact SI_z) (by first | exact sE_y | exact sE_z) (by first | assumption | omega) (by first | assumption | omega) h (lv_sub hl [0, 1] rfl)

