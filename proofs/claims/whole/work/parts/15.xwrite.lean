abbrev rm_S_writeTo : Room := { frames := 4, cells := 0, slots := 0, locals := 92 }
set_option maxRecDepth 100000 in
set_option maxHeartbeats 4000000 in
theorem c_S_writeTo (l : Launch) (Γ : gG) (d : Nat → Nat) (hm : Nat) (mc : va_E) (so : Nat → Nat → Nat) (tl : Nat → Nat → Int64) (tb : Nat → Nat → Nat → Nat) (wr : va_W) (M : mM) (n0 : Nat) (hn : n0 < 80) (hMx : ∀ t, (∀ a, a ≠ n0 → t a = tb a) → mOK d t mc M) (hS : SI M so) (hK : KI M so) (hD : SD M so (so 10 0)) (h1 : 1 ≤ so 10 2) (h0 : so 1 0 = M.1) (h00 : 1 ≤ so 10 0) : cT l Γ my_S_writeTo bc_S_writeTo 8 none rm_S_writeTo [.ref (d 2), .ref (d (20 + 3 * n0))] (xW Γ d hm mc so tl tb wr) (S := (Nat → Nat → Nat) × (Nat → Nat → Nat → Nat)) (fun v u => v = none ∧ SI M u.1 ∧ u.1 10 3 = so 10 3 ∧ (∀ a, a ≠ n0 → u.2 a = tb a) ∧ tG (u.2 n0) ∧ ∀ w, lts w → macc (tM (u.2 n0)) 0 w = macc M M.1 w) (fun u => xW Γ d hm mc u.1 tl u.2 wr) := by
  refine cT.start (by decide) (Nat.le_of_ble_eq_true rfl) (fun p e s m args below meth c ls Q hQ C hmn h hl => ?_)
  replace hl : lv_has ls 8 [(0, .ref (d 2)), (1, .ref (d (20 + 3 * n0)))] := hl
  have hK10 := hK.1
  have hS1 := hS.1
  have t10 := hS.2.2.2.2.1.2.1
  have hans : ∀ i, i < so 10 0 → so 3 i < 2 ^ 10 := fun i hi => Nat.lt_of_lt_of_le (hS.2.2.2.2.2.1 i hi).2.1 (Nat.pow_le_pow_right (by decide) t10)
  refine lv_iconst (v := (nI 0)) C.x C.b dc_S_writeTo_0 (by decide +kernel) ?_
  refine lv_istore_n (lv' := [(2, .int (nI 0)), (0, .ref (d 2)), (1, .ref (d (20 + 3 * n0)))]) C.x C.b dc_S_writeTo_1 rfl hl (by decide) rfl (fun ls hl => ?_)
  have hz : ∀ n, n ≠ 8 → so n = so n := fun _ _ => rfl
  have h8 : ∀ q, q < 0 → so 8 q = so 10 2 := fun q z => absurd z (Nat.not_lt_zero _)
  have lp_2 : ∀ (n_2 : Nat) (k : Nat) (z : Nat → Nat → Nat) (H : Heap) (locs : List Loc) (ls : Array Slot), so 10 2 - k < n_2 → (k ≤ so 10 2) → (∀ n, n ≠ 8 → z n = so n) → (∀ q, q < k → z 8 q = so 10 2) → sT Γ s (xW Γ d hm mc z tl tb wr) H locs → lv_has ls 8 [(2, .int (nI k)), (0, .ref (d 2)), (1, .ref (d (20 + 3 * n0)))] → W p l e rm_S_writeTo s m args below meth c H locs 0 0 Q (F0 m 2 ls []) := by
    intro n_2
    induction n_2 with
    | zero => intro k z H locs ls hms; exact absurd hms (Nat.not_lt_zero _)
    | succ n_2 ih_2 =>
      intro k z H locs ls hms hk hz h8 h hl
      have z10 : z 10 = so 10 := hz 10 (by decide)
      have z102 : z 10 2 = so 10 2 := by rw [z10]
      refine lv_iload_n C.x C.b dc_S_writeTo_2 rfl (lv_at hl 0 rfl) ?_
      refine lv_aload_n C.x C.b dc_S_writeTo_3 rfl (lv_at hl 1 rfl) ?_
      refine rg_get C h 2 rfl rfl in_S 11 (by decide) fl_S_58 rfl dc_S_writeTo_4 ?_
      refine bc_ge (tgt := 26) C (by omega) (by omega) dc_S_writeTo_7 (by decide) (fun q7 => ?_) (fun q7 => ?_)
      · refine lv_iconst (v := (nI 1)) C.x C.b dc_S_writeTo_26 (by decide +kernel) ?_
        refine lv_istore_n (lv' := [(2, .int (nI 1)), (0, .ref (d 2)), (1, .ref (d (20 + 3 * n0)))]) C.x C.b dc_S_writeTo_27 rfl hl (by decide) rfl (fun ls hl => ?_)
        refine lv_iconst (v := (nI 0)) C.x C.b dc_S_writeTo_28 (by decide +kernel) ?_
        refine lv_istore_n (lv' := [(3, .int (nI 0)), (2, .int (nI 1)), (0, .ref (d 2)), (1, .ref (d (20 + 3 * n0)))]) C.x C.b dc_S_writeTo_29 rfl hl (by decide) rfl (fun ls hl => ?_)
        refine lv_aload_n C.x C.b dc_S_writeTo_30 rfl (lv_at hl 2 rfl) ?_
        refine rg_get C h 2 rfl rfl in_S 12 (by decide) fl_S_45 rfl dc_S_writeTo_31 ?_
        refine lv_iconst (v := (nI 0)) C.x C.b dc_S_writeTo_34 (by decide +kernel) ?_
        refine lv_iconst (v := (nI 0)) C.x C.b dc_S_writeTo_35 (by decide +kernel) ?_
        refine rg_ist C h 13 rfl (by omega) (by decide) dc_S_writeTo_36 (fun H locs h => ?_)
        obtain ⟨so_1, eso_1⟩ : ∃ zz9, zz9 = us z 8 (us (z 8) 0 0) := ⟨_, rfl⟩
        have xso_1 : so_1 10 0 = z 10 0 ∧ so_1 10 1 = z 10 1 ∧ so_1 10 2 = z 10 2 ∧ so_1 10 3 = z 10 3 := by rw [eso_1, us_n _ _ (by decide)]; exact ⟨rfl, rfl, rfl, rfl⟩
        replace h : sT Γ s (xW Γ d hm mc so_1 tl tb wr) H locs := by rw [eso_1]; exact h
        refine lv_aload_n C.x C.b dc_S_writeTo_37 rfl (lv_at hl 2 rfl) ?_
        refine rg_get C h 2 rfl rfl in_S 13 (by decide) fl_S_48 rfl dc_S_writeTo_38 ?_
        refine lv_iconst (v := (nI 0)) C.x C.b dc_S_writeTo_41 (by decide +kernel) ?_
        refine lv_iconst (v := (nI 0)) C.x C.b dc_S_writeTo_42 (by decide +kernel) ?_
        refine rg_ist C h 14 rfl (by omega) (by decide) dc_S_writeTo_43 (fun H locs h => ?_)
        obtain ⟨so_2, eso_2⟩ : ∃ zz9, zz9 = us so_1 9 (us (so_1 9) 0 0) := ⟨_, rfl⟩
        have xso_2 : so_2 10 0 = so_1 10 0 ∧ so_2 10 1 = so_1 10 1 ∧ so_2 10 2 = so_1 10 2 ∧ so_2 10 3 = so_1 10 3 := by rw [eso_2, us_n _ _ (by decide)]; exact ⟨rfl, rfl, rfl, rfl⟩
        replace h : sT Γ s (xW Γ d hm mc so_2 tl tb wr) H locs := by rw [eso_2]; exact h
        refine lv_iconst (v := (nI 0)) C.x C.b dc_S_writeTo_44 (by decide +kernel) ?_
        refine lv_istore (lv' := [(4, .int (nI 0)), (3, .int (nI 0)), (2, .int (nI 1)), (0, .ref (d 2)), (1, .ref (d (20 + 3 * n0)))]) C.x C.b dc_S_writeTo_45 hl (by decide) rfl (fun ls hl => ?_)
        have hW : WI M so so_2 (tb n0 1) 0 1 (3 * 0) 0 := WI.init h1 (fun n n8 n9 => by rw [eso_2, us_n _ _ n9, eso_1, us_n _ _ n8]; exact hz n n8) (by rw [eso_2, us_s, us_s]) (by rw [eso_2, us_n _ _ (by decide), eso_1, us_s, us_s]) (fun q q1 q2 => by rw [eso_2, us_n _ _ (by decide), eso_1, us_s, us_n _ _ (by omega)]; exact h8 q (by omega))
        have hT : ∀ a, a ≠ n0 → tb a = tb a := fun _ _ => rfl
        have lp_47 : ∀ (n_47 : Nat) (r : Nat) (m0 : Nat) (E : Nat) (z : Nat → Nat → Nat) (t : Nat → Nat → Nat → Nat) (H : Heap) (locs : List Loc) (ls : Array Slot), so 10 2 - r < n_47 → (WI M so z (t n0 1) E m0 (3 * r) r) → (r ≤ m0) → (∀ a, a ≠ n0 → t a = tb a) → sT Γ s (xW Γ d hm mc z tl t wr) H locs → lv_has ls 8 [(4, .int (nI r)), (3, .int (nI E)), (2, .int (nI m0)), (0, .ref (d 2)), (1, .ref (d (20 + 3 * n0)))] → W p l e rm_S_writeTo s m args below meth c H locs 0 0 Q (F0 m 47 ls []) := by
          intro n_47
          induction n_47 with
          | zero => intro r m0 E z t H locs ls hms; exact absurd hms (Nat.not_lt_zero _)
          | succ n_47 ih_47 =>
            intro r m0 E z t H locs ls hms hW hrm hT h hl
            have hzk := hW.1
            have z10 : z 10 = so 10 := hzk 10 (by decide) (by decide)
            have z7 : z 7 = so 7 := hzk 7 (by decide) (by decide)
            have z3 : z 3 = so 3 := hzk 3 (by decide) (by decide)
            have z2 : z 2 = so 2 := hzk 2 (by decide) (by decide)
            have z1 : z 1 = so 1 := hzk 1 (by decide) (by decide)
            have z102 : z 10 2 = so 10 2 := by rw [z10]
            have hm1 := hW.2.1.1
            have hm2 := hW.2.1.2.1
            refine lv_iload C.x C.b dc_S_writeTo_47 (lv_at hl 0 rfl) ?_
            refine lv_iload_n C.x C.b dc_S_writeTo_49 rfl (lv_at hl 2 rfl) ?_
            refine bc_ge (tgt := 183) C (by omega) (by omega) dc_S_writeTo_50 (by decide) (fun q50 => ?_) (fun q50 => ?_)
            · obtain ⟨hd1, hrr⟩ := hW.done hS hK hD h1 h0 h00 hrm (by omega)
              have hWr : WI M so z (t n0 1) E r (3 * r) r := by rw [show m0 = r by omega] at hW; exact hW
              refine lv_aload_n C.x C.b dc_S_writeTo_183 rfl (lv_at hl 4 rfl) ?_
              refine lv_aload_n C.x C.b dc_S_writeTo_184 rfl (lv_at hl 3 rfl) ?_
              refine rg_get C h 2 rfl rfl in_S 11 (by decide) fl_S_58 rfl dc_S_writeTo_185 ?_
              refine rg_putN (ty := .int) C h (17 + n0) (lk_T (hn)) rfl in_T tk_T nm_T 0 (by decide) fl_S_100 rfl (by decide +kernel) rfl rfl (by simp) dc_S_writeTo_188 (fun H locs h => ?_)
              replace h := h.eq (st_T (hn) 0 (z 10 2) _ rfl)
              obtain ⟨tb_3, etb_3⟩ : ∃ zz9, zz9 = us t n0 (us (t n0) 0 (us (t n0 0) 0 (z 10 2))) := ⟨_, rfl⟩
              replace h : sT Γ s (xW Γ d hm mc z tl tb_3 wr) H locs := by rw [etb_3]; exact h
              refine lv_aload_n C.x C.b dc_S_writeTo_191 rfl (lv_at hl 4 rfl) ?_
              refine lv_iload_n C.x C.b dc_S_writeTo_192 rfl (lv_at hl 1 rfl) ?_
              refine rg_putN (ty := .int) C h (17 + n0) (lk_T (hn)) rfl in_T tk_T nm_T 1 (by decide) fl_S_103 rfl (by decide +kernel) rfl rfl (by simp) dc_S_writeTo_193 (fun H locs h => ?_)
              replace h := h.eq (st_T (hn) 1 E _ rfl)
              obtain ⟨tb_4, etb_4⟩ : ∃ zz9, zz9 = us tb_3 n0 (us (tb_3 n0) 0 (us (tb_3 n0 0) 1 E)) := ⟨_, rfl⟩
              replace h : sT Γ s (xW Γ d hm mc z tl tb_4 wr) H locs := by rw [etb_4]; exact h
              have e00 : tb_4 n0 0 0 = so 10 2 := by rw [etb_4, us_s, us_s, us_n _ _ (by decide), etb_3, us_s, us_s, us_s, z102]
              have e01 : tb_4 n0 0 1 = E := by rw [etb_4, us_s, us_s, us_s]
              have e1 : tb_4 n0 1 = t n0 1 := by rw [etb_4, us_s, us_n _ _ (by decide), etb_3, us_s, us_n _ _ (by decide)]
              have hl4 := (WI.lang (t := tb_4 n0) hS hK hD (by rw [e1, e01]; exact hWr) hrr e00).2.2.2
              have hk10 := hK.1
              refine lv_aload_n C.x C.b dc_S_writeTo_196 rfl (lv_at hl 4 rfl) ?_
              refine kv_V (As := []) (rest := []) C h hl.1 (c_T_measure l Γ d hm mc z tl tb_4 wr n0 (hn) (by omega) (by omega) (by rw [e01]; exact wr_E hWr (by omega)) (fun a l ha hl => hl4 a l ha hl)) mw_T_measure lk_S_106 (q0 := (17 + n0)) (lk_T (hn)) rfl rfl (by decide) (by decide) (Nat.le_of_ble_eq_true rfl) dc_S_writeTo_197 (fun v u H locs hp h => ?_)
              obtain ⟨rfl, htb_5⟩ := hp
              obtain ⟨tb_5, rfl⟩ : ∃ zz9, zz9 = u := ⟨_, rfl⟩
              replace h : sT Γ s (xW Γ d hm mc z tl tb_5 wr) H locs := h
              refine W.eq (g2 := F0 m 200 ls []) rfl ?_
              have hfin := wr_fin (t := t) (t2 := tb_4) (u := tb_5) hS hK hD h1 h0 hWr (hrr) e00 e01 e1 htb_5
              rw [hQ]
              exact rt_v C (z, tb_5) h (⟨rfl, hS.z hzk, by show z 10 3 = _; rw [z10], fun a ha => by show tb_5 a = tb a; rw [htb_5.1.1 a ha, etb_4, us_n _ _ ha, etb_3, us_n _ _ ha]; exact hT a ha, hfin⟩) dc_S_writeTo_200
            · refine lv_iload C.x C.b dc_S_writeTo_53 (lv_at hl 0 rfl) ?_
              refine lv_aload_n C.x C.b dc_S_writeTo_55 rfl (lv_at hl 3 rfl) ?_
              refine rg_get C h 2 rfl rfl in_S 11 (by decide) fl_S_58 rfl dc_S_writeTo_56 ?_
              refine bc_ge (tgt := 183) C (by omega) (by omega) dc_S_writeTo_59 (by decide) (fun q59 => ?_) (fun q59 => ?_)
              · obtain ⟨hd1, hrr⟩ := hW.done hS hK hD h1 h0 h00 hrm (by omega)
                have hWr : WI M so z (t n0 1) E r (3 * r) r := by rw [show m0 = r by omega] at hW; exact hW
                refine lv_aload_n C.x C.b dc_S_writeTo_183 rfl (lv_at hl 4 rfl) ?_
                refine lv_aload_n C.x C.b dc_S_writeTo_184 rfl (lv_at hl 3 rfl) ?_
                refine rg_get C h 2 rfl rfl in_S 11 (by decide) fl_S_58 rfl dc_S_writeTo_185 ?_
                refine rg_putN (ty := .int) C h (17 + n0) (lk_T (hn)) rfl in_T tk_T nm_T 0 (by decide) fl_S_100 rfl (by decide +kernel) rfl rfl (by simp) dc_S_writeTo_188 (fun H locs h => ?_)
                replace h := h.eq (st_T (hn) 0 (z 10 2) _ rfl)
                obtain ⟨tb_6, etb_6⟩ : ∃ zz9, zz9 = us t n0 (us (t n0) 0 (us (t n0 0) 0 (z 10 2))) := ⟨_, rfl⟩
                replace h : sT Γ s (xW Γ d hm mc z tl tb_6 wr) H locs := by rw [etb_6]; exact h
                refine lv_aload_n C.x C.b dc_S_writeTo_191 rfl (lv_at hl 4 rfl) ?_
                refine lv_iload_n C.x C.b dc_S_writeTo_192 rfl (lv_at hl 1 rfl) ?_
                refine rg_putN (ty := .int) C h (17 + n0) (lk_T (hn)) rfl in_T tk_T nm_T 1 (by decide) fl_S_103 rfl (by decide +kernel) rfl rfl (by simp) dc_S_writeTo_193 (fun H locs h => ?_)
                replace h := h.eq (st_T (hn) 1 E _ rfl)
                obtain ⟨tb_7, etb_7⟩ : ∃ zz9, zz9 = us tb_6 n0 (us (tb_6 n0) 0 (us (tb_6 n0 0) 1 E)) := ⟨_, rfl⟩
                replace h : sT Γ s (xW Γ d hm mc z tl tb_7 wr) H locs := by rw [etb_7]; exact h
                have e00 : tb_7 n0 0 0 = so 10 2 := by rw [etb_7, us_s, us_s, us_n _ _ (by decide), etb_6, us_s, us_s, us_s, z102]
                have e01 : tb_7 n0 0 1 = E := by rw [etb_7, us_s, us_s, us_s]
                have e1 : tb_7 n0 1 = t n0 1 := by rw [etb_7, us_s, us_n _ _ (by decide), etb_6, us_s, us_n _ _ (by decide)]
                have hl4 := (WI.lang (t := tb_7 n0) hS hK hD (by rw [e1, e01]; exact hWr) hrr e00).2.2.2
                have hk10 := hK.1
                refine lv_aload_n C.x C.b dc_S_writeTo_196 rfl (lv_at hl 4 rfl) ?_
                refine kv_V (As := []) (rest := []) C h hl.1 (c_T_measure l Γ d hm mc z tl tb_7 wr n0 (hn) (by omega) (by omega) (by rw [e01]; exact wr_E hWr (by omega)) (fun a l ha hl => hl4 a l ha hl)) mw_T_measure lk_S_106 (q0 := (17 + n0)) (lk_T (hn)) rfl rfl (by decide) (by decide) (Nat.le_of_ble_eq_true rfl) dc_S_writeTo_197 (fun v u H locs hp h => ?_)
                obtain ⟨rfl, htb_8⟩ := hp
                obtain ⟨tb_8, rfl⟩ : ∃ zz9, zz9 = u := ⟨_, rfl⟩
                replace h : sT Γ s (xW Γ d hm mc z tl tb_8 wr) H locs := h
                refine W.eq (g2 := F0 m 200 ls []) rfl ?_
                have hfin := wr_fin (t := t) (t2 := tb_7) (u := tb_8) hS hK hD h1 h0 hWr (hrr) e00 e01 e1 htb_8
                rw [hQ]
                exact rt_v C (z, tb_8) h (⟨rfl, hS.z hzk, by show z 10 3 = _; rw [z10], fun a ha => by show tb_8 a = tb a; rw [htb_8.1.1 a ha, etb_7, us_n _ _ ha, etb_6, us_n _ _ ha]; exact hT a ha, hfin⟩) dc_S_writeTo_200
              · have hz9r := (hW.2.2.1 r (by omega)).1
                have hixr := hK.2.1 _ hz9r
                refine lv_aload_n C.x C.b dc_S_writeTo_62 rfl (lv_at hl 3 rfl) ?_
                refine rg_get C h 2 rfl rfl in_S 10 (by decide) fl_S_42 rfl dc_S_writeTo_63 ?_
                refine lv_aload_n C.x C.b dc_S_writeTo_66 rfl (lv_at hl 3 rfl) ?_
                refine rg_get C h 2 rfl rfl in_S 13 (by decide) fl_S_48 rfl dc_S_writeTo_67 ?_
                refine lv_iload C.x C.b dc_S_writeTo_70 (lv_at hl 0 rfl) ?_
                refine rg_ild C h 14 rfl (by omega) (by decide) dc_S_writeTo_72 ?_
                refine rg_ild C h 12 rfl (by omega) (by decide) dc_S_writeTo_73 ?_
                refine lv_istore (lv' := [(5, .int (nI (z 7 (z 9 r)))), (4, .int (nI r)), (3, .int (nI E)), (2, .int (nI m0)), (0, .ref (d 2)), (1, .ref (d (20 + 3 * n0)))]) C.x C.b dc_S_writeTo_74 hl (by decide) rfl (fun ls hl => ?_)
                refine lv_iload_n C.x C.b dc_S_writeTo_76 rfl (lv_at hl 2 rfl) ?_
                refine lv_aload_n C.x C.b dc_S_writeTo_77 rfl (lv_at hl 4 rfl) ?_
                refine rg_get C h 2 rfl rfl in_S 5 (by decide) fl_S_30 rfl dc_S_writeTo_78 ?_
                refine lv_iload C.x C.b dc_S_writeTo_81 (lv_at hl 0 rfl) ?_
                refine rg_ild C h 8 rfl (by rw [z7]; omega) (by decide) dc_S_writeTo_83 ?_
                refine lv_iconst (v := (nI 1)) C.x C.b dc_S_writeTo_84 (by decide +kernel) ?_
                refine lv_iand C.x C.b dc_S_writeTo_85 ?_
                refine tp_i (nI_and1 (z 3 (z 7 (z 9 r)))) ?_
                refine lv_iload C.x C.b dc_S_writeTo_86 (lv_at hl 1 rfl) ?_
                refine lv_ishl C.x C.b dc_S_writeTo_88 ?_
                refine tp_i (nI_shl (a := ((z 3 (z 7 (z 9 r))) % 2)) (n := r) (by omega) (by
                    have := Nat.pow_lt_pow_right (a := 2) (by decide) (show r < 10 by omega)
                    have : z 3 (z 7 (z 9 r)) % 2 ≤ 1 := by omega
                    have := Nat.mul_le_mul_right (2 ^ r) this
                    omega)) ?_
                refine lv_ior C.x C.b dc_S_writeTo_89 ?_
                refine tp_i (nI_or E (((z 3 (z 7 (z 9 r))) % 2) * 2 ^ r)) ?_
                refine lv_istore_n (lv' := [(3, .int (nI (E ||| (((z 3 (z 7 (z 9 r))) % 2) * 2 ^ r)))), (5, .int (nI (z 7 (z 9 r)))), (4, .int (nI r)), (2, .int (nI m0)), (0, .ref (d 2)), (1, .ref (d (20 + 3 * n0)))]) C.x C.b dc_S_writeTo_90 rfl hl (by decide) rfl (fun ls hl => ?_)
                have hidx : z 7 (z 9 r) < so 10 0 := by rw [z7]; exact hK.2.1 _ (hW.2.2.1 r (by omega)).1
                have hW2 := hW.row (v := z 3 (z 7 (z 9 r)) % 2) (by omega) (by rw [z7, z3, ← bit0, ask_bit hS (hK.2.1 _ (hW.2.2.1 r (by omega)).1) (hD _ (hK.2.1 _ (hW.2.2.1 r (by omega)).1)).1 hS.2.2.2.2.1.1, tW_0]; rfl)
                obtain ⟨E2, eE2⟩ : ∃ zz9, zz9 = E ||| (((z 3 (z 7 (z 9 r))) % 2) * 2 ^ r) := ⟨_, rfl⟩
                rw [← eE2] at hl hW2
                obtain ⟨ix, eix⟩ : ∃ zz9, zz9 = z 7 (z 9 r) := ⟨_, rfl⟩
                rw [← eix] at hl hidx
                have eix2 : ix = so 7 (z 9 r) := by rw [eix, z7]
                refine lv_iconst (v := (nI 0)) C.x C.b dc_S_writeTo_91 (by decide +kernel) ?_
                refine lv_istore (lv' := [(6, .int (nI 0)), (3, .int (nI E2)), (5, .int (nI ix)), (4, .int (nI r)), (2, .int (nI m0)), (0, .ref (d 2)), (1, .ref (d (20 + 3 * n0)))]) C.x C.b dc_S_writeTo_92 hl (by decide) rfl (fun ls hl => ?_)
                have lp_94 : ∀ (n_94 : Nat) (q : Nat) (m0 : Nat) (z : Nat → Nat → Nat) (t : Nat → Nat → Nat → Nat) (H : Heap) (locs : List Loc) (ls : Array Slot), 3 - q < n_94 → (q ≤ 3) → (WI M so z (t n0 1) E2 m0 (3 * r + q) (r + 1)) → (r < m0) → (∀ a, a ≠ n0 → t a = tb a) → (ix = so 7 (z 9 r)) → sT Γ s (xW Γ d hm mc z tl t wr) H locs → lv_has ls 8 [(6, .int (nI q)), (5, .int (nI ix)), (4, .int (nI r)), (3, .int (nI E2)), (2, .int (nI m0)), (0, .ref (d 2)), (1, .ref (d (20 + 3 * n0)))] → W p l e rm_S_writeTo s m args below meth c H locs 0 0 Q (F0 m 94 ls []) := by
                  intro n_94
                  induction n_94 with
                  | zero => intro q m0 z t H locs ls hms; exact absurd hms (Nat.not_lt_zero _)
                  | succ n_94 ih_94 =>
                    intro q m0 z t H locs ls hms hq hW hrm hT eix2 h hl
                    have hzk := hW.1
                    have z10 : z 10 = so 10 := hzk 10 (by decide) (by decide)
                    have z7 : z 7 = so 7 := hzk 7 (by decide) (by decide)
                    have z3 : z 3 = so 3 := hzk 3 (by decide) (by decide)
                    have z2 : z 2 = so 2 := hzk 2 (by decide) (by decide)
                    have z1 : z 1 = so 1 := hzk 1 (by decide) (by decide)
                    have z102 : z 10 2 = so 10 2 := by rw [z10]
                    have hm1 := hW.2.1.1
                    have hm2 := hW.2.1.2.1
                    have hMt : mOK d t mc M := hMx t hT
                    have SI_z : SI M z := hS.z hzk
                    have hix10 : ix < z 10 0 := by rw [eix2, z10]; exact hK.2.1 _ (hW.2.2.1 r (by omega)).1
                    refine lv_iload C.x C.b dc_S_writeTo_94 (lv_at hl 0 rfl) ?_
                    refine lv_iconst (v := (nI 3)) C.x C.b dc_S_writeTo_96 (by decide +kernel) ?_
                    refine bc_ge (tgt := 177) C (by omega) (by omega) dc_S_writeTo_97 (by decide) (fun q97 => ?_) (fun q97 => ?_)
                    · refine lv_iinc (v := nI (r + 1)) (lv' := [(4, .int (nI (r + 1))), (6, .int (nI q)), (5, .int (nI ix)), (3, .int (nI E2)), (2, .int (nI m0)), (0, .ref (d 2)), (1, .ref (d (20 + 3 * n0)))]) C.x C.b dc_S_writeTo_177 hl (k := 2) rfl (nI_1 r) (by decide) rfl (fun ls hl => ?_)
                      refine lv_goto (tgt := 47) C.x C.b dc_S_writeTo_180 (by decide) ?_
                      have hW : WI M so z (t n0 1) E2 m0 (3 * (r + 1)) (r + 1) := by rw [show 3 * (r + 1) = 3 * r + q by omega]; exact hW
                      exact ih_47 (r + 1) m0 E2 z t _ _ _ (by omega) (by first | assumption | omega) (by first | assumption | omega) (by first | assumption | omega) h (lv_sub hl [0, 3, 4, 5, 6] rfl)
                    · refine lv_aload_n C.x C.b dc_S_writeTo_100 rfl (lv_at hl 5 rfl) ?_
                      refine lv_aload_n C.x C.b dc_S_writeTo_101 rfl (lv_at hl 5 rfl) ?_
                      refine rg_get C h 2 rfl rfl in_S 5 (by decide) fl_S_30 rfl dc_S_writeTo_102 ?_
                      refine lv_aload_n C.x C.b dc_S_writeTo_105 rfl (lv_at hl 5 rfl) ?_
                      refine lv_iload C.x C.b dc_S_writeTo_106 (lv_at hl 1 rfl) ?_
                      refine lv_iload C.x C.b dc_S_writeTo_108 (lv_at hl 0 rfl) ?_
                      refine kv_V (As := [.int (nI ix), .int (nI q)]) (rest := [.ref (d 8), .ref (d 2)]) C h hl.1 (c_S_follow l Γ d hm mc z tl t wr M ix q hMt SI_z hix10 (by omega)) mw_S_follow lk_S_75 (q0 := 2) rfl rfl rfl (by decide) (by decide) (Nat.le_of_ble_eq_true rfl) dc_S_writeTo_110 (fun v u H locs hp h => ?_)
                      obtain ⟨⟨j_9, so_10⟩, rfl⟩ : ∃ zz9, zz9 = u := ⟨_, rfl⟩
                      obtain ⟨rfl, SI_so_10, sE_so_10, lt_j_9, pl_j_9, me_j_9, st_j_9⟩ := hp
                      dsimp only at SI_so_10 sE_so_10 lt_j_9 pl_j_9 me_j_9 st_j_9
                      replace h : sT Γ s (xW Γ d hm mc so_10 tl t wr) H locs := h
                      refine W.eq (g2 := F0 m 113 ls [.int (nI j_9), .ref (d 8), .ref (d 2)]) rfl ?_
                      have emem : so 2 (ix * 3 + q) ≠ 0 := (SD.next hS hD (by rw [z10] at hix10; exact hix10) (by omega)).1
                      have ezz := (st_j_9 (by rw [z2]; exact emem)).symm
                      subst ezz
                      have hj0 : j_9 < so 10 0 := by rw [z10] at lt_j_9; exact lt_j_9
                      have hj1 : so 1 j_9 = M.2.1 (so 1 ix) q := by rw [z1] at pl_j_9; exact pl_j_9
                      refine rg_ild C h 8 rfl (by omega) (by decide) dc_S_writeTo_113 ?_
                      refine kv_V (As := [.int (nI (z 3 j_9))]) (rest := []) C h hl.1 (c_S_kindWith l Γ d hm mc z tl t wr (z 3 j_9) (by rw [z3]; have := hans _ hj0; omega) (by omega) (fun k9 hk9 => by rw [z3, z7]; have a9 := hK.2.1 k9 (by omega); have := hans _ a9; exact ⟨by omega, by omega⟩)) mw_S_kindWith lk_S_82 (q0 := 2) rfl rfl rfl (by decide) (by decide) (Nat.le_of_ble_eq_true rfl) dc_S_writeTo_114 (fun v u H locs hp h => ?_)
                      obtain ⟨kd_11, rfl⟩ : ∃ zz9, zz9 = u := ⟨_, rfl⟩
                      obtain ⟨rfl, le_kd_11, ne_kd_11, eq_kd_11⟩ := hp
                      replace h : sT Γ s (xW Γ d hm mc z tl t wr) H locs := h
                      refine W.eq (g2 := F0 m 117 ls [.int (nI kd_11)]) rfl ?_
                      refine lv_istore (lv' := [(7, .int (nI kd_11)), (6, .int (nI q)), (5, .int (nI ix)), (4, .int (nI r)), (3, .int (nI E2)), (2, .int (nI m0)), (0, .ref (d 2)), (1, .ref (d (20 + 3 * n0)))]) C.x C.b dc_S_writeTo_117 hl (by decide) rfl (fun ls hl => ?_)
                      have hkd : kd_11 < so 10 2 := by
                        apply Classical.byContradiction
                        intro hge
                        obtain ⟨k9, k1, k2, k3⟩ := SD.kind hS hK hD hj0
                        have := ne_kd_11 k9 (by omega)
                        rw [z3, z7] at this
                        exact this k3.symm
                      have hKS : KS M so (z 9 r) q kd_11 := by
                        refine ⟨hkd, fun t9 ht9 => ?_⟩
                        have e9 := eq_kd_11 (by omega)
                        rw [z3, z7] at e9
                        have hk9 := hK.2.1 _ hkd
                        rw [← eix2, ← hj1, ← ask_bit hS hj0 (hD _ hj0).1 ht9, ← ask_bit hS hk9 (hD _ hk9).1 ht9, e9]
                      have h8b := hW.2.2.2.1 _ hkd
                      refine lv_aload_n C.x C.b dc_S_writeTo_119 rfl (lv_at hl 6 rfl) ?_
                      refine rg_get C h 2 rfl rfl in_S 12 (by decide) fl_S_45 rfl dc_S_writeTo_120 ?_
                      refine lv_iload C.x C.b dc_S_writeTo_123 (lv_at hl 0 rfl) ?_
                      refine rg_ild C h 13 rfl (by omega) (by decide) dc_S_writeTo_125 ?_
                      refine lv_aload_n C.x C.b dc_S_writeTo_126 rfl (lv_at hl 6 rfl) ?_
                      refine rg_get C h 2 rfl rfl in_S 11 (by decide) fl_S_58 rfl dc_S_writeTo_127 ?_
                      refine bc_ne (tgt := 152) C (by omega) (by omega) dc_S_writeTo_130 (by decide) (fun q130 => ?_) (fun q130 => ?_)
                      · refine lv_aload_n C.x C.b dc_S_writeTo_152 rfl (lv_at hl 7 rfl) ?_
                        refine rg_getN C h (17 + n0) (lk_T (hn)) rfl in_T 3 (by decide) fl_S_97 rfl dc_S_writeTo_153 ?_
                        refine lv_iload C.x C.b dc_S_writeTo_156 (lv_at hl 3 rfl) ?_
                        refine lv_iconst (v := (nI 3)) C.x C.b dc_S_writeTo_158 (by decide +kernel) ?_
                        refine lv_imul C.x C.b dc_S_writeTo_159 ?_
                        refine tp_i (pk_mul r 3) ?_
                        refine lv_iload C.x C.b dc_S_writeTo_160 (lv_at hl 1 rfl) ?_
                        refine lv_iadd C.x C.b dc_S_writeTo_162 ?_
                        refine tp_i (nI_add (r * 3) q) ?_
                        refine lv_aload_n C.x C.b dc_S_writeTo_163 rfl (lv_at hl 6 rfl) ?_
                        refine rg_get C h 2 rfl rfl in_S 12 (by decide) fl_S_45 rfl dc_S_writeTo_164 ?_
                        refine lv_iload C.x C.b dc_S_writeTo_167 (lv_at hl 0 rfl) ?_
                        refine rg_ild C h 13 rfl (by omega) (by decide) dc_S_writeTo_169 ?_
                        refine rg_ist C h (97 + n0) (lk_N (hn)) (by omega) (by decide) dc_S_writeTo_170 (fun H locs h => ?_)
                        replace h := h.eq (st_N (hn) _)
                        obtain ⟨tb_12, etb_12⟩ : ∃ zz9, zz9 = us t n0 (us (t n0) 1 (us (t n0 1) ((r * 3) + q) (z 8 kd_11))) := ⟨_, rfl⟩
                        replace h : sT Γ s (xW Γ d hm mc z tl tb_12 wr) H locs := by rw [etb_12]; exact h
                        refine lv_iinc (v := nI (q + 1)) (lv' := [(6, .int (nI (q + 1))), (7, .int (nI kd_11)), (5, .int (nI ix)), (4, .int (nI r)), (3, .int (nI E2)), (2, .int (nI m0)), (0, .ref (d 2)), (1, .ref (d (20 + 3 * n0)))]) C.x C.b dc_S_writeTo_171 hl (k := 1) rfl (nI_1 q) (by decide) rfl (fun ls hl => ?_)
                        refine lv_goto (tgt := 94) C.x C.b dc_S_writeTo_174 (by decide) ?_
                        have hW : WI M so z (tb_12 n0 1) E2 m0 (3 * r + (q + 1)) (r + 1) := hW.old (by omega) hKS (by rw [← z102]; exact q130) (by rw [etb_12, us_s, us_s])
                        have hix := eix2
                        have hT : ∀ a, a ≠ n0 → tb_12 a = tb a := fun a ha => by rw [etb_12, us_n _ _ ha]; exact hT a ha
                        exact ih_94 (q + 1) m0 z tb_12 _ _ _ (by omega) (by first | assumption | omega) (by first | exact hW | exact hW2) (by omega) (by first | assumption | omega) (by first | exact hix | exact eix2) h (lv_sub hl [0, 2, 3, 4, 5, 6, 7] rfl)
                      · refine lv_aload_n C.x C.b dc_S_writeTo_133 rfl (lv_at hl 6 rfl) ?_
                        refine rg_get C h 2 rfl rfl in_S 12 (by decide) fl_S_45 rfl dc_S_writeTo_134 ?_
                        refine lv_iload C.x C.b dc_S_writeTo_137 (lv_at hl 0 rfl) ?_
                        refine lv_iload_n C.x C.b dc_S_writeTo_139 rfl (lv_at hl 5 rfl) ?_
                        refine rg_ist C h 13 rfl (by omega) (by decide) dc_S_writeTo_140 (fun H locs h => ?_)
                        obtain ⟨so_13, eso_13⟩ : ∃ zz9, zz9 = us z 8 (us (z 8) kd_11 m0) := ⟨_, rfl⟩
                        have xso_13 : so_13 10 0 = z 10 0 ∧ so_13 10 1 = z 10 1 ∧ so_13 10 2 = z 10 2 ∧ so_13 10 3 = z 10 3 := by rw [eso_13, us_n _ _ (by decide)]; exact ⟨rfl, rfl, rfl, rfl⟩
                        replace h : sT Γ s (xW Γ d hm mc so_13 tl t wr) H locs := by rw [eso_13]; exact h
                        refine lv_aload_n C.x C.b dc_S_writeTo_141 rfl (lv_at hl 6 rfl) ?_
                        refine rg_get C h 2 rfl rfl in_S 13 (by decide) fl_S_48 rfl dc_S_writeTo_142 ?_
                        refine lv_iload_n C.x C.b dc_S_writeTo_145 rfl (lv_at hl 5 rfl) ?_
                        refine lv_iload C.x C.b dc_S_writeTo_146 (lv_at hl 0 rfl) ?_
                        refine rg_ist C h 14 rfl (by have := hW.lt hkd (by rw [← z102]; exact q130); omega) (by decide) dc_S_writeTo_148 (fun H locs h => ?_)
                        obtain ⟨so_14, eso_14⟩ : ∃ zz9, zz9 = us so_13 9 (us (so_13 9) m0 kd_11) := ⟨_, rfl⟩
                        have xso_14 : so_14 10 0 = so_13 10 0 ∧ so_14 10 1 = so_13 10 1 ∧ so_14 10 2 = so_13 10 2 ∧ so_14 10 3 = so_13 10 3 := by rw [eso_14, us_n _ _ (by decide)]; exact ⟨rfl, rfl, rfl, rfl⟩
                        replace h : sT Γ s (xW Γ d hm mc so_14 tl t wr) H locs := by rw [eso_14]; exact h
                        refine lv_iinc (v := nI (m0 + 1)) (lv' := [(2, .int (nI (m0 + 1))), (7, .int (nI kd_11)), (6, .int (nI q)), (5, .int (nI ix)), (4, .int (nI r)), (3, .int (nI E2)), (0, .ref (d 2)), (1, .ref (d (20 + 3 * n0)))]) C.x C.b dc_S_writeTo_149 hl (k := 5) rfl (nI_1 m0) (by decide) rfl (fun ls hl => ?_)
                        refine lv_aload_n C.x C.b dc_S_writeTo_152 rfl (lv_at hl 7 rfl) ?_
                        refine rg_getN C h (17 + n0) (lk_T (hn)) rfl in_T 3 (by decide) fl_S_97 rfl dc_S_writeTo_153 ?_
                        refine lv_iload C.x C.b dc_S_writeTo_156 (lv_at hl 4 rfl) ?_
                        refine lv_iconst (v := (nI 3)) C.x C.b dc_S_writeTo_158 (by decide +kernel) ?_
                        refine lv_imul C.x C.b dc_S_writeTo_159 ?_
                        refine tp_i (pk_mul r 3) ?_
                        refine lv_iload C.x C.b dc_S_writeTo_160 (lv_at hl 2 rfl) ?_
                        refine lv_iadd C.x C.b dc_S_writeTo_162 ?_
                        refine tp_i (nI_add (r * 3) q) ?_
                        refine lv_aload_n C.x C.b dc_S_writeTo_163 rfl (lv_at hl 6 rfl) ?_
                        refine rg_get C h 2 rfl rfl in_S 12 (by decide) fl_S_45 rfl dc_S_writeTo_164 ?_
                        refine lv_iload C.x C.b dc_S_writeTo_167 (lv_at hl 1 rfl) ?_
                        refine rg_ild C h 13 rfl (by omega) (by decide) dc_S_writeTo_169 ?_
                        refine rg_ist C h (97 + n0) (lk_N (hn)) (by omega) (by decide) dc_S_writeTo_170 (fun H locs h => ?_)
                        replace h := h.eq (st_N (hn) _)
                        obtain ⟨tb_15, etb_15⟩ : ∃ zz9, zz9 = us t n0 (us (t n0) 1 (us (t n0 1) ((r * 3) + q) (so_14 8 kd_11))) := ⟨_, rfl⟩
                        replace h : sT Γ s (xW Γ d hm mc so_14 tl tb_15 wr) H locs := by rw [etb_15]; exact h
                        refine lv_iinc (v := nI (q + 1)) (lv' := [(6, .int (nI (q + 1))), (2, .int (nI (m0 + 1))), (7, .int (nI kd_11)), (5, .int (nI ix)), (4, .int (nI r)), (3, .int (nI E2)), (0, .ref (d 2)), (1, .ref (d (20 + 3 * n0)))]) C.x C.b dc_S_writeTo_171 hl (k := 2) rfl (nI_1 q) (by decide) rfl (fun ls hl => ?_)
                        refine lv_goto (tgt := 94) C.x C.b dc_S_writeTo_174 (by decide) ?_
                        have ez8 : so_14 8 kd_11 = m0 := by rw [eso_14, us_n _ _ (by decide), eso_13, us_s, us_s]
                        have hW : WI M so so_14 (tb_15 n0 1) E2 (m0 + 1) (3 * r + (q + 1)) (r + 1) := hW.new (by omega) (by omega) hKS (by rw [← z102]; exact q130) (by rw [eso_14, us_n _ _ (by decide), eso_13, us_s]) (by rw [eso_14, us_s, eso_13, us_n _ _ (by decide)]) (fun n n8 n9 => by rw [eso_14, us_n _ _ n9, eso_13, us_n _ _ n8]) (by rw [etb_15, us_s, us_s, ez8])
                        have hix : ix = so 7 (so_14 9 r) := by rw [eix2, eso_14, us_s, us_n _ _ (by omega), eso_13, us_n _ _ (by decide)]
                        have hT : ∀ a, a ≠ n0 → tb_15 a = tb a := fun a ha => by rw [etb_15, us_n _ _ ha]; exact hT a ha
                        exact ih_94 (q + 1) (m0 + 1) so_14 tb_15 _ _ _ (by omega) (by first | assumption | omega) (by first | exact hW | exact hW2) (by omega) (by first | assumption | omega) (by first | exact hix | exact eix2) h (lv_sub hl [0, 3, 4, 5, 1, 6, 7] rfl)
                exact lp_94 _ 0 m0 z t _ _ _ (Nat.lt_succ_self _) (by first | assumption | omega) (by first | exact hW | exact hW2) (by omega) (by first | assumption | omega) (by first | exact hix | exact eix2) h (lv_sub hl [0, 2, 3, 1, 4, 5, 6] rfl)
        exact lp_47 _ 0 1 0 so_2 tb _ _ _ (Nat.lt_succ_self _) (by first | assumption | omega) (by first | assumption | omega) (by first | assumption | omega) h (lv_sub hl [0, 1, 2, 3, 4] rfl)
      · refine lv_aload_n C.x C.b dc_S_writeTo_10 rfl (lv_at hl 1 rfl) ?_
        refine rg_get C h 2 rfl rfl in_S 12 (by decide) fl_S_45 rfl dc_S_writeTo_11 ?_
        refine lv_iload_n C.x C.b dc_S_writeTo_14 rfl (lv_at hl 0 rfl) ?_
        refine lv_aload_n C.x C.b dc_S_writeTo_15 rfl (lv_at hl 1 rfl) ?_
        refine rg_get C h 2 rfl rfl in_S 11 (by decide) fl_S_58 rfl dc_S_writeTo_16 ?_
        refine rg_ist C h 13 rfl (by omega) (by decide) dc_S_writeTo_19 (fun H locs h => ?_)
        obtain ⟨so_16, eso_16⟩ : ∃ zz9, zz9 = us z 8 (us (z 8) k (z 10 2)) := ⟨_, rfl⟩
        have xso_16 : so_16 10 0 = z 10 0 ∧ so_16 10 1 = z 10 1 ∧ so_16 10 2 = z 10 2 ∧ so_16 10 3 = z 10 3 := by rw [eso_16, us_n _ _ (by decide)]; exact ⟨rfl, rfl, rfl, rfl⟩
        replace h : sT Γ s (xW Γ d hm mc so_16 tl tb wr) H locs := by rw [eso_16]; exact h
        refine lv_iinc (v := nI (k + 1)) (lv' := [(2, .int (nI (k + 1))), (0, .ref (d 2)), (1, .ref (d (20 + 3 * n0)))]) C.x C.b dc_S_writeTo_20 hl (k := 0) rfl (nI_1 k) (by decide) rfl (fun ls hl => ?_)
        refine lv_goto (tgt := 2) C.x C.b dc_S_writeTo_23 (by decide) ?_
        have hz : ∀ n, n ≠ 8 → so_16 n = so n := fun n hn8 => by rw [eso_16, us_n _ _ hn8]; exact hz n hn8
        have h8 : ∀ q, q < k + 1 → so_16 8 q = so 10 2 := fun q hq => by
          rw [eso_16, us_s]
          by_cases e : q = k
          · subst e; rw [us_s, z10]
          · rw [us_n _ _ e]; exact h8 q (by omega)
        exact ih_2 (k + 1) so_16 _ _ _ (by omega) (by first | assumption | omega) (by first | assumption | omega) (by first | assumption | omega) h (lv_sub hl [0, 1, 2] rfl)
  exact lp_2 _ 0 so _ _ _ (Nat.lt_succ_self _) (by first | assumption | omega) (by first | assumption | omega) (by first | assumption | omega) h (lv_sub hl [0, 1, 2] rfl)

