theorem eAll_s {f : Nat → Bool} {k : Nat} (h : f k = true) : eAll f (k + 1) = eAll f k ||| 2 ^ k := by rw [eAll, if_pos h]
theorem eAll_n {f : Nat → Bool} {k : Nat} (h : f k = false) : eAll f (k + 1) = eAll f k := by rw [eAll, if_neg (by rw [h]; decide)]
abbrev rm_M_begin : Room := { frames := 1, cells := 0, slots := 0, locals := 23 }
set_option maxRecDepth 100000 in
set_option maxHeartbeats 4000000 in
theorem c_M_begin (l : Launch) (Γ : gG) (r : Nat → Nat) (ri : Nat → Nat → Nat) (rl : Nat → Nat → Int64) (wr : va_W) (K : mM) (hK : RK ri K) : cT l Γ my_M_begin bc_M_begin 3 (some .int) rm_M_begin [.ref (r 0)] (rW Γ r ri rl wr) (S := Unit) (fun v _ => v = some (.int (nI K.1))) (fun _ => rW Γ r ri rl wr) := by
  refine cT.start (by decide) (Nat.le_of_ble_eq_true rfl) (fun p e s m args below meth c ls Q hQ C hmn h hl => ?_)
  replace hl : lv_has ls 3 [(0, .ref (r 0))] := hl
  refine lv_aload_n C.x C.b dc_M_begin_0 rfl (lv_at hl 0 rfl) ?_
  refine rg_get C h 0 rfl rfl in_M 6 (by decide) fl_M_68 rfl dc_M_begin_1 ?_
  rcases hK with ⟨hw, hb, rfl⟩ | ⟨hw, rfl⟩ | ⟨hw, h1, h2, rfl⟩ | ⟨hw, hb, h1, h2, rfl⟩ | ⟨hw, h1, rfl⟩ | ⟨hw, h1, rfl⟩ | ⟨hw, h1, rfl⟩ | ⟨hw, hb, h1, rfl⟩ | ⟨hw, h1, hlv, rfl⟩
  · refine tp_i (y := nI 0) (by rw [hw]) ?_
    refine lv_tableOut (tgt := 200) C.x C.b dc_M_begin_4 (by decide +kernel) (by decide) ?_
    refine lv_iconst (v := (nI 0)) C.x C.b dc_M_begin_200 (by decide +kernel) ?_
    rw [hQ]
    exact rt_i C () h (rfl) dc_M_begin_201
  · refine tp_i (y := nI 1) (by rw [hw]) ?_
    refine lv_tableOut (tgt := 200) C.x C.b dc_M_begin_4 (by decide +kernel) (by decide) ?_
    refine lv_iconst (v := (nI 0)) C.x C.b dc_M_begin_200 (by decide +kernel) ?_
    rw [hQ]
    exact rt_i C () h (rfl) dc_M_begin_201
  · refine tp_i (y := nI 2) (by rw [hw]) ?_
    refine lv_tableIn (off := 44) (tgt := 48) C.x C.b dc_M_begin_4 (by decide +kernel) (by decide +kernel) (by decide +kernel) (by decide) ?_
    obtain ⟨a1, a2, a3, a4, a5, a6⟩ := id h1
    obtain ⟨b1, b2, b3, b4, b5, b6⟩ := id h2
    refine lv_sipush (v := (nI 1024)) C.x C.b dc_M_begin_48 (by decide +kernel) ?_
    refine lv_aload_n C.x C.b dc_M_begin_51 rfl (lv_at hl 0 rfl) ?_
    refine rg_get C h 0 rfl rfl in_M 3 (by decide) fl_M_13 rfl dc_M_begin_52 ?_
    refine lv_aload_n C.x C.b dc_M_begin_55 rfl (lv_at hl 0 rfl) ?_
    refine rg_get C h 0 rfl rfl in_M 7 (by decide) fl_M_71 rfl dc_M_begin_56 ?_
    refine rg_ild C h 2 rfl (by omega) (by decide) dc_M_begin_59 ?_
    refine lv_imul C.x C.b dc_M_begin_60 ?_
    refine tp_i (pk_mul 1024 (ri 1 (ri 20 3))) ?_
    refine lv_aload_n C.x C.b dc_M_begin_61 rfl (lv_at hl 0 rfl) ?_
    refine lv_aload_n C.x C.b dc_M_begin_62 rfl (lv_at hl 0 rfl) ?_
    refine rg_get C h 0 rfl rfl in_M 7 (by decide) fl_M_71 rfl dc_M_begin_63 ?_
    refine lv_aload_n C.x C.b dc_M_begin_66 rfl (lv_at hl 0 rfl) ?_
    refine rg_get C h 0 rfl rfl in_M 3 (by decide) fl_M_13 rfl dc_M_begin_67 ?_
    refine lv_aload_n C.x C.b dc_M_begin_70 rfl (lv_at hl 0 rfl) ?_
    refine rg_get C h 0 rfl rfl in_M 7 (by decide) fl_M_71 rfl dc_M_begin_71 ?_
    refine rg_ild C h 2 rfl (by omega) (by decide) dc_M_begin_74 ?_
    refine kv_V (As := [.int (nI (ri 20 3)), .int (nI (ri 1 (ri 20 3)))]) (rest := [.int (nI (1024 * (ri 1 (ri 20 3))))]) C h hl.1 (c_M_isEnd l Γ r ri rl wr (ri 20 3) (ri 1 (ri 20 3)) (by omega) (by omega) (a6 _ a4)) mw_M_isEnd lk_M_64 (q0 := 0) rfl rfl rfl (by decide) (by decide) (Nat.le_of_ble_eq_true rfl) dc_M_begin_75 (fun v u H locs hp h => ?_)
    obtain rfl := hp
    replace h : sT Γ s (rW Γ r ri rl wr) _ _ := h
    refine W.eq (g2 := F0 m 78 ls [.int (bI (rEb ri (ri 20 3) (ri 1 (ri 20 3)))), .int (nI (1024 * (ri 1 (ri 20 3))))]) rfl ?_
    refine bb_eq (tgt := 95) C dc_M_begin_78 (by decide) (fun q78 => ?_) (fun q78 => ?_)
    · refine lv_iconst (v := (nI 0)) C.x C.b dc_M_begin_95 (by decide +kernel) ?_
      refine lv_iadd C.x C.b dc_M_begin_96 ?_
      refine tp_i (nI_add (1024 * (ri 1 (ri 20 3))) 0) ?_
      rw [hQ]
      exact rt_i C () h (by
        have e9 := (rT_bit (ri := ri) (p := ri 20 3) (s := ri 1 (ri 20 3)) a4).trans q78
        show _ = some (Value.int (nI (jhB _ _ _ _)))
        unfold jhB
        rw [if_neg (by rw [e9]; decide)]) dc_M_begin_97
    · refine lv_iconst (v := (nI 1)) C.x C.b dc_M_begin_81 (by decide +kernel) ?_
      refine lv_aload_n C.x C.b dc_M_begin_82 rfl (lv_at hl 0 rfl) ?_
      refine rg_get C h 0 rfl rfl in_M 3 (by decide) fl_M_13 rfl dc_M_begin_83 ?_
      refine lv_aload_n C.x C.b dc_M_begin_86 rfl (lv_at hl 0 rfl) ?_
      refine rg_get C h 0 rfl rfl in_M 8 (by decide) fl_M_74 rfl dc_M_begin_87 ?_
      refine rg_ild C h 2 rfl (by omega) (by decide) dc_M_begin_90 ?_
      refine lv_ishl C.x C.b dc_M_begin_91 ?_
      refine tp_i (nI_shl1 (n := (ri 1 (ri 20 4))) (by omega)) ?_
      refine lv_goto (tgt := 96) C.x C.b dc_M_begin_92 (by decide) ?_
      refine lv_iadd C.x C.b dc_M_begin_96 ?_
      refine tp_i (nI_add (1024 * (ri 1 (ri 20 3))) (2 ^ (ri 1 (ri 20 4)))) ?_
      rw [hQ]
      exact rt_i C () h (by
        have e9 := (rT_bit (ri := ri) (p := ri 20 3) (s := ri 1 (ri 20 3)) a4).trans q78
        show _ = some (Value.int (nI (jhB _ _ _ _)))
        unfold jhB
        rw [if_pos e9, Nat.zero_or]) dc_M_begin_97
  · refine tp_i (y := nI 3) (by rw [hw]) ?_
    refine lv_tableIn (off := 94) (tgt := 98) C.x C.b dc_M_begin_4 (by decide +kernel) (by decide +kernel) (by decide +kernel) (by decide) ?_
    obtain ⟨a1, a2, a3, a4, a5, a6⟩ := id h1
    obtain ⟨b1, b2, b3, b4, b5, b6⟩ := id h2
    refine lv_bipush (v := (nI 16)) C.x C.b dc_M_begin_98 (by decide +kernel) ?_
    refine lv_aload_n C.x C.b dc_M_begin_100 rfl (lv_at hl 0 rfl) ?_
    refine rg_get C h 0 rfl rfl in_M 3 (by decide) fl_M_13 rfl dc_M_begin_101 ?_
    refine lv_aload_n C.x C.b dc_M_begin_104 rfl (lv_at hl 0 rfl) ?_
    refine rg_get C h 0 rfl rfl in_M 7 (by decide) fl_M_71 rfl dc_M_begin_105 ?_
    refine rg_ild C h 2 rfl (by omega) (by decide) dc_M_begin_108 ?_
    refine lv_imul C.x C.b dc_M_begin_109 ?_
    refine tp_i (pk_mul 16 (ri 1 (ri 20 3))) ?_
    refine lv_aload_n C.x C.b dc_M_begin_110 rfl (lv_at hl 0 rfl) ?_
    refine rg_get C h 0 rfl rfl in_M 3 (by decide) fl_M_13 rfl dc_M_begin_111 ?_
    refine lv_aload_n C.x C.b dc_M_begin_114 rfl (lv_at hl 0 rfl) ?_
    refine rg_get C h 0 rfl rfl in_M 8 (by decide) fl_M_74 rfl dc_M_begin_115 ?_
    refine rg_ild C h 2 rfl (by omega) (by decide) dc_M_begin_118 ?_
    refine lv_iadd C.x C.b dc_M_begin_119 ?_
    refine tp_i (nI_add (16 * (ri 1 (ri 20 3))) (ri 1 (ri 20 4))) ?_
    rw [hQ]
    exact rt_i C () h (rfl) dc_M_begin_120
  · refine tp_i (y := nI 4) (by rw [hw]) ?_
    refine lv_tableIn (off := 117) (tgt := 121) C.x C.b dc_M_begin_4 (by decide +kernel) (by decide +kernel) (by decide +kernel) (by decide) ?_
    obtain ⟨a1, a2, a3, a4, a5, a6⟩ := id h1
    refine lv_sipush (v := (nI 1024)) C.x C.b dc_M_begin_121 (by decide +kernel) ?_
    rw [hQ]
    exact rt_i C () h (rfl) dc_M_begin_124
  · refine tp_i (y := nI 5) (by rw [hw]) ?_
    refine lv_tableIn (off := 121) (tgt := 125) C.x C.b dc_M_begin_4 (by decide +kernel) (by decide +kernel) (by decide +kernel) (by decide) ?_
    obtain ⟨a1, a2, a3, a4, a5, a6⟩ := id h1
    refine lv_aload_n C.x C.b dc_M_begin_125 rfl (lv_at hl 0 rfl) ?_
    refine rg_get C h 0 rfl rfl in_M 3 (by decide) fl_M_13 rfl dc_M_begin_126 ?_
    refine lv_aload_n C.x C.b dc_M_begin_129 rfl (lv_at hl 0 rfl) ?_
    refine rg_get C h 0 rfl rfl in_M 7 (by decide) fl_M_71 rfl dc_M_begin_130 ?_
    refine rg_ild C h 2 rfl (by omega) (by decide) dc_M_begin_133 ?_
    rw [hQ]
    exact rt_i C () h (rfl) dc_M_begin_134
  · refine tp_i (y := nI 6) (by rw [hw]) ?_
    refine lv_tableIn (off := 131) (tgt := 135) C.x C.b dc_M_begin_4 (by decide +kernel) (by decide +kernel) (by decide +kernel) (by decide) ?_
    obtain ⟨a1, a2, a3, a4, a5, a6⟩ := id h1
    refine lv_iconst (v := (nI 0)) C.x C.b dc_M_begin_135 (by decide +kernel) ?_
    refine lv_istore_n (lv' := [(1, .int (nI 0)), (0, .ref (r 0))]) C.x C.b dc_M_begin_136 rfl hl (by decide) rfl (fun ls hl => ?_)
    refine lv_iconst (v := (nI 0)) C.x C.b dc_M_begin_137 (by decide +kernel) ?_
    refine lv_istore_n (lv' := [(2, .int (nI 0)), (1, .int (nI 0)), (0, .ref (r 0))]) C.x C.b dc_M_begin_138 rfl hl (by decide) rfl (fun ls hl => ?_)
    have lp_139 : ∀ (n_139 : Nat) (k : Nat) (H : Heap) (locs : List Loc) (ls : Array Slot), ri 0 (ri 20 3) - k < n_139 → (k ≤ ri 0 (ri 20 3)) → sT Γ s (rW Γ r ri rl wr) H locs → lv_has ls 3 [(2, .int (nI k)), (1, .int (nI (eAll (rEb ri (ri 20 3)) k))), (0, .ref (r 0))] → W p l e rm_M_begin s m args below meth c H locs 0 0 Q (F0 m 139 ls []) := by
      intro n_139
      induction n_139 with
      | zero => intro k H locs ls hms; exact absurd hms (Nat.not_lt_zero _)
      | succ n_139 ih_139 =>
        intro k H locs ls hms hk h hl
        refine lv_iload_n C.x C.b dc_M_begin_139 rfl (lv_at hl 0 rfl) ?_
        refine lv_aload_n C.x C.b dc_M_begin_140 rfl (lv_at hl 2 rfl) ?_
        refine rg_get C h 0 rfl rfl in_M 2 (by decide) fl_M_9 rfl dc_M_begin_141 ?_
        refine lv_aload_n C.x C.b dc_M_begin_144 rfl (lv_at hl 2 rfl) ?_
        refine rg_get C h 0 rfl rfl in_M 7 (by decide) fl_M_71 rfl dc_M_begin_145 ?_
        refine rg_ild C h 1 rfl (by omega) (by decide) dc_M_begin_148 ?_
        refine bc_ge (tgt := 176) C (by omega) (by omega) dc_M_begin_149 (by decide) (fun q149 => ?_) (fun q149 => ?_)
        · refine lv_iload_n C.x C.b dc_M_begin_176 rfl (lv_at hl 1 rfl) ?_
          rw [hQ]
          exact rt_i C () h (by rw [show k = ri 0 (ri 20 3) by omega]; rfl) dc_M_begin_177
        · refine lv_aload_n C.x C.b dc_M_begin_152 rfl (lv_at hl 2 rfl) ?_
          refine lv_aload_n C.x C.b dc_M_begin_153 rfl (lv_at hl 2 rfl) ?_
          refine rg_get C h 0 rfl rfl in_M 7 (by decide) fl_M_71 rfl dc_M_begin_154 ?_
          refine lv_iload_n C.x C.b dc_M_begin_157 rfl (lv_at hl 0 rfl) ?_
          refine kv_V (As := [.int (nI (ri 20 3)), .int (nI k)]) (rest := []) C h hl.1 (c_M_isEnd l Γ r ri rl wr (ri 20 3) k (by omega) (by omega) (a6 k (by omega))) mw_M_isEnd lk_M_64 (q0 := 0) rfl rfl rfl (by decide) (by decide) (Nat.le_of_ble_eq_true rfl) dc_M_begin_158 (fun v u H locs hp h => ?_)
          obtain rfl := hp
          replace h : sT Γ s (rW Γ r ri rl wr) _ _ := h
          refine W.eq (g2 := F0 m 161 ls [.int (bI (rEb ri (ri 20 3) k))]) rfl ?_
          refine bb_eq (tgt := 170) C dc_M_begin_161 (by decide) (fun q161 => ?_) (fun q161 => ?_)
          · refine lv_iinc (v := nI (k + 1)) (lv' := [(2, .int (nI (k + 1))), (1, .int (nI (eAll (rEb ri (ri 20 3)) k))), (0, .ref (r 0))]) C.x C.b dc_M_begin_170 hl (k := 0) rfl (nI_1 k) (by decide) rfl (fun ls hl => ?_)
            refine lv_goto (tgt := 139) C.x C.b dc_M_begin_173 (by decide) ?_
            rw [show eAll (rEb ri (ri 20 3)) k = eAll (rEb ri (ri 20 3)) (k + 1) from (eAll_n q161).symm] at hl
            exact ih_139 (k + 1) _ _ _ (by omega) (by first | assumption | omega) h (lv_sub hl [0, 1, 2] rfl)
          · refine lv_iload_n C.x C.b dc_M_begin_164 rfl (lv_at hl 1 rfl) ?_
            refine lv_iconst (v := (nI 1)) C.x C.b dc_M_begin_165 (by decide +kernel) ?_
            refine lv_iload_n C.x C.b dc_M_begin_166 rfl (lv_at hl 0 rfl) ?_
            refine lv_ishl C.x C.b dc_M_begin_167 ?_
            refine tp_i (nI_shl1 (n := k) (by omega)) ?_
            refine lv_ior C.x C.b dc_M_begin_168 ?_
            refine tp_i (nI_or (eAll (rEb ri (ri 20 3)) k) (2 ^ k)) ?_
            refine lv_istore_n (lv' := [(1, .int (nI ((eAll (rEb ri (ri 20 3)) k) ||| (2 ^ k)))), (2, .int (nI k)), (0, .ref (r 0))]) C.x C.b dc_M_begin_169 rfl hl (by decide) rfl (fun ls hl => ?_)
            refine lv_iinc (v := nI (k + 1)) (lv' := [(2, .int (nI (k + 1))), (1, .int (nI ((eAll (rEb ri (ri 20 3)) k) ||| (2 ^ k)))), (0, .ref (r 0))]) C.x C.b dc_M_begin_170 hl (k := 1) rfl (nI_1 k) (by decide) rfl (fun ls hl => ?_)
            refine lv_goto (tgt := 139) C.x C.b dc_M_begin_173 (by decide) ?_
            rw [show eAll (rEb ri (ri 20 3)) k ||| 2 ^ k = eAll (rEb ri (ri 20 3)) (k + 1) from (eAll_s q161).symm] at hl
            exact ih_139 (k + 1) _ _ _ (by omega) (by first | assumption | omega) h (lv_sub hl [0, 1, 2] rfl)
    exact lp_139 _ 0 _ _ _ (Nat.lt_succ_self _) (by first | assumption | omega) h (lv_sub hl [0, 1, 2] rfl)
  · refine tp_i (y := nI 7) (by rw [hw]) ?_
    refine lv_tableIn (off := 174) (tgt := 178) C.x C.b dc_M_begin_4 (by decide +kernel) (by decide +kernel) (by decide +kernel) (by decide) ?_
    obtain ⟨a1, a2, a3, a4, a5, a6⟩ := id h1
    refine lv_aload_n C.x C.b dc_M_begin_178 rfl (lv_at hl 0 rfl) ?_
    refine lv_aload_n C.x C.b dc_M_begin_179 rfl (lv_at hl 0 rfl) ?_
    refine rg_get C h 0 rfl rfl in_M 7 (by decide) fl_M_71 rfl dc_M_begin_180 ?_
    refine lv_aload_n C.x C.b dc_M_begin_183 rfl (lv_at hl 0 rfl) ?_
    refine rg_get C h 0 rfl rfl in_M 3 (by decide) fl_M_13 rfl dc_M_begin_184 ?_
    refine lv_aload_n C.x C.b dc_M_begin_187 rfl (lv_at hl 0 rfl) ?_
    refine rg_get C h 0 rfl rfl in_M 7 (by decide) fl_M_71 rfl dc_M_begin_188 ?_
    refine rg_ild C h 2 rfl (by omega) (by decide) dc_M_begin_191 ?_
    refine lv_aload_n C.x C.b dc_M_begin_192 rfl (lv_at hl 0 rfl) ?_
    refine rg_get C h 0 rfl rfl in_M 9 (by decide) fl_M_77 rfl dc_M_begin_193 ?_
    refine kv_V (As := [.int (nI (ri 20 3)), .int (nI (ri 1 (ri 20 3))), .int (nI (ri 20 5))]) (rest := []) C h hl.1 (c_M_next l Γ r ri rl wr (ri 20 3) (ri 1 (ri 20 3)) (ri 20 5) (by omega) (by omega) (by omega)) mw_M_next lk_M_61 (q0 := 0) rfl rfl rfl (by decide) (by decide) (Nat.le_of_ble_eq_true rfl) dc_M_begin_196 (fun v u H locs hp h => ?_)
    obtain rfl := hp
    replace h : sT Γ s (rW Γ r ri rl wr) _ _ := h
    refine W.eq (g2 := F0 m 199 ls [.int (nI (rN ri (ri 20 3) ((ri 1 (ri 20 3)) * 3 + (ri 20 5))))]) rfl ?_
    rw [hQ]
    exact rt_i C () h (rfl) dc_M_begin_199
  · refine tp_i (y := nI 8) (by rw [hw]) ?_
    refine lv_tableIn (off := 121) (tgt := 125) C.x C.b dc_M_begin_4 (by decide +kernel) (by decide +kernel) (by decide +kernel) (by decide) ?_
    obtain ⟨a1, a2, a3, a4, a5, a6⟩ := id h1
    refine lv_aload_n C.x C.b dc_M_begin_125 rfl (lv_at hl 0 rfl) ?_
    refine rg_get C h 0 rfl rfl in_M 3 (by decide) fl_M_13 rfl dc_M_begin_126 ?_
    refine lv_aload_n C.x C.b dc_M_begin_129 rfl (lv_at hl 0 rfl) ?_
    refine rg_get C h 0 rfl rfl in_M 7 (by decide) fl_M_71 rfl dc_M_begin_130 ?_
    refine rg_ild C h 2 rfl (by omega) (by decide) dc_M_begin_133 ?_
    rw [hQ]
    exact rt_i C () h (rfl) dc_M_begin_134

abbrev rm_M_step : Room := { frames := 2, cells := 0, slots := 0, locals := 48 }
set_option maxRecDepth 100000 in
set_option maxHeartbeats 4000000 in
theorem c_M_step (l : Launch) (Γ : gG) (r : Nat → Nat) (ri : Nat → Nat → Nat) (rl : Nat → Nat → Int64) (wr : va_W) (K : mM) (hK : RK ri K) (c9 lt : Nat) (hv : K.2.2.2 c9) (hlt : lt < 3) : cT l Γ my_M_step bc_M_step 6 (some .int) rm_M_step [.ref (r 0), .int (nI c9), .int (nI lt)] (rW Γ r ri rl wr) (S := Unit) (fun v _ => v = some (.int (nI (K.2.1 c9 lt)))) (fun _ => rW Γ r ri rl wr) := by
  refine cT.start (by decide) (Nat.le_of_ble_eq_true rfl) (fun p e s m args below meth c ls Q hQ C hmn h hl => ?_)
  replace hl : lv_has ls 6 [(0, .ref (r 0)), (1, .int (nI c9)), (2, .int (nI lt))] := hl
  refine lv_iconst (v := (nI 0)) C.x C.b dc_M_step_0 (by decide +kernel) ?_
  refine lv_istore_n (lv' := [(3, .int (nI 0)), (0, .ref (r 0)), (1, .int (nI c9)), (2, .int (nI lt))]) C.x C.b dc_M_step_1 rfl hl (by decide) rfl (fun ls hl => ?_)
  refine lv_aload_n C.x C.b dc_M_step_2 rfl (lv_at hl 1 rfl) ?_
  refine rg_get C h 0 rfl rfl in_M 6 (by decide) fl_M_68 rfl dc_M_step_3 ?_
  rcases hK with ⟨hw, hb, rfl⟩ | ⟨hw, rfl⟩ | ⟨hw, h1, h2, rfl⟩ | ⟨hw, hb, h1, h2, rfl⟩ | ⟨hw, h1, rfl⟩ | ⟨hw, h1, rfl⟩ | ⟨hw, h1, rfl⟩ | ⟨hw, hb, h1, rfl⟩ | ⟨hw, h1, hlv, rfl⟩
  · refine tp_i (y := nI 0) (by rw [hw]) ?_
    refine lv_tableIn (off := 42) (tgt := 48) C.x C.b dc_M_step_6 (by decide +kernel) (by decide +kernel) (by decide +kernel) (by decide) ?_
    have hv2 : c9 < 3 := hv
    refine lv_iload_n C.x C.b dc_M_step_48 rfl (lv_at hl 2 rfl) ?_
    refine bz_ne (tgt := 68) C (by omega) dc_M_step_49 (by decide) (fun q49 => ?_) (fun q49 => ?_)
    · refine lv_iconst (v := (nI 2)) C.x C.b dc_M_step_68 (by decide +kernel) ?_
      rw [hQ]
      exact rt_i C () h (by show _ = some (Value.int (nI (mmO _ _ _))); rw [mmO, if_neg (fun z => q49 z.1)]) dc_M_step_69
    · refine lv_aload_n C.x C.b dc_M_step_52 rfl (lv_at hl 1 rfl) ?_
      refine rg_get C h 0 rfl rfl in_M 9 (by decide) fl_M_77 rfl dc_M_step_53 ?_
      refine lv_iload_n C.x C.b dc_M_step_56 rfl (lv_at hl 3 rfl) ?_
      refine lv_ishr C.x C.b dc_M_step_57 ?_
      refine tp_i (nI_shr (a := (ri 20 5)) (n := lt) (by omega) (by omega)) ?_
      refine lv_iconst (v := (nI 1)) C.x C.b dc_M_step_58 (by decide +kernel) ?_
      refine lv_iand C.x C.b dc_M_step_59 ?_
      refine tp_i (nI_and1 ((ri 20 5) / 2 ^ lt)) ?_
      refine lv_iconst (v := (nI 1)) C.x C.b dc_M_step_60 (by decide +kernel) ?_
      refine bc_ne (tgt := 68) C (by omega) (by omega) dc_M_step_61 (by decide) (fun q61 => ?_) (fun q61 => ?_)
      · refine lv_iconst (v := (nI 2)) C.x C.b dc_M_step_68 (by decide +kernel) ?_
        rw [hQ]
        exact rt_i C () h (by show _ = some (Value.int (nI (mmO _ _ _))); rw [mmO, if_neg (fun z => q61 ((tb_iff1 _ _).mpr z.2))]) dc_M_step_69
      · refine lv_iconst (v := (nI 1)) C.x C.b dc_M_step_64 (by decide +kernel) ?_
        refine lv_goto (tgt := 69) C.x C.b dc_M_step_65 (by decide) ?_
        rw [hQ]
        exact rt_i C () h (by show _ = some (Value.int (nI (mmO _ _ _))); rw [mmO, if_pos ⟨q49, (tb_iff1 _ _).mp q61⟩]) dc_M_step_69
  · refine tp_i (y := nI 1) (by rw [hw]) ?_
    refine lv_tableIn (off := 64) (tgt := 70) C.x C.b dc_M_step_6 (by decide +kernel) (by decide +kernel) (by decide +kernel) (by decide) ?_
    have hv2 : c9 < 2 := hv
    refine lv_iconst (v := (nI 1)) C.x C.b dc_M_step_70 (by decide +kernel) ?_
    rw [hQ]
    exact rt_i C () h (rfl) dc_M_step_71
  · refine tp_i (y := nI 2) (by rw [hw]) ?_
    refine lv_tableIn (off := 66) (tgt := 72) C.x C.b dc_M_step_6 (by decide +kernel) (by decide +kernel) (by decide +kernel) (by decide) ?_
    obtain ⟨a1, a2, a3, a4, a5, a6⟩ := id h1
    obtain ⟨b1, b2, b3, b4, b5, b6⟩ := id h2
    have hv2 : c9 / 1024 < ri 0 (ri 20 3) ∧ c9 % 1024 < 2 ^ ri 0 (ri 20 4) := hv
    refine lv_aload_n C.x C.b dc_M_step_72 rfl (lv_at hl 1 rfl) ?_
    refine lv_aload_n C.x C.b dc_M_step_73 rfl (lv_at hl 1 rfl) ?_
    refine rg_get C h 0 rfl rfl in_M 7 (by decide) fl_M_71 rfl dc_M_step_74 ?_
    refine lv_iload_n C.x C.b dc_M_step_77 rfl (lv_at hl 2 rfl) ?_
    refine lv_bipush (v := (nI 10)) C.x C.b dc_M_step_78 (by decide +kernel) ?_
    refine lv_ishr C.x C.b dc_M_step_80 ?_
    refine tp_i (y := (nI (c9 / 1024))) (nI_shr (a := c9) (n := 10) (by omega) (by decide)) ?_
    refine lv_iload_n C.x C.b dc_M_step_81 rfl (lv_at hl 3 rfl) ?_
    refine kv_V (As := [.int (nI (ri 20 3)), .int (nI (c9 / 1024)), .int (nI lt)]) (rest := []) C h hl.1 (c_M_next l Γ r ri rl wr (ri 20 3) (c9 / 1024) lt (by omega) (by omega) (by omega)) mw_M_next lk_M_61 (q0 := 0) rfl rfl rfl (by decide) (by decide) (Nat.le_of_ble_eq_true rfl) dc_M_step_82 (fun v u H locs hp h => ?_)
    obtain rfl := hp
    replace h : sT Γ s (rW Γ r ri rl wr) _ _ := h
    refine W.eq (g2 := F0 m 85 ls [.int (nI (rN ri (ri 20 3) ((c9 / 1024) * 3 + lt)))]) rfl ?_
    refine lv_istore (lv' := [(4, .int (nI (rN ri (ri 20 3) ((c9 / 1024) * 3 + lt)))), (3, .int (nI 0)), (0, .ref (r 0)), (1, .int (nI c9)), (2, .int (nI lt))]) C.x C.b dc_M_step_85 hl (by decide) rfl (fun ls hl => ?_)
    refine lv_aload_n C.x C.b dc_M_step_87 rfl (lv_at hl 2 rfl) ?_
    refine lv_aload_n C.x C.b dc_M_step_88 rfl (lv_at hl 2 rfl) ?_
    refine rg_get C h 0 rfl rfl in_M 8 (by decide) fl_M_74 rfl dc_M_step_89 ?_
    refine lv_iload_n C.x C.b dc_M_step_92 rfl (lv_at hl 3 rfl) ?_
    refine lv_sipush (v := (nI 1023)) C.x C.b dc_M_step_93 (by decide +kernel) ?_
    refine lv_iand C.x C.b dc_M_step_96 ?_
    refine tp_i (y := (nI (c9 % 1024))) (and_ff c9) ?_
    refine lv_iload_n C.x C.b dc_M_step_97 rfl (lv_at hl 4 rfl) ?_
    refine kv_V (As := [.int (nI (ri 20 4)), .int (nI (c9 % 1024)), .int (nI lt)]) (rest := []) C h hl.1 (c_M_all l Γ r ri rl wr (ri 20 4) (c9 % 1024) lt b1 (by omega) hlt b3 (fun x hx => Nat.lt_of_lt_of_le (b5 x lt hx hlt) b3)) mw_M_all lk_M_80 (q0 := 0) rfl rfl rfl (by decide) (by decide) (Nat.le_of_ble_eq_true rfl) dc_M_step_98 (fun v u H locs hp h => ?_)
    obtain rfl := hp
    replace h : sT Γ s (rW Γ r ri rl wr) _ _ := h
    refine W.eq (g2 := F0 m 101 ls [.int (nI (aAll (c9 % 1024) (fun x => rN ri (ri 20 4) (x * 3 + lt)) (ri 0 (ri 20 4))))]) rfl ?_
    refine lv_istore_n (lv' := [(3, .int (nI (aAll (c9 % 1024) (fun x => rN ri (ri 20 4) (x * 3 + lt)) (ri 0 (ri 20 4))))), (4, .int (nI (rN ri (ri 20 3) ((c9 / 1024) * 3 + lt)))), (0, .ref (r 0)), (1, .int (nI c9)), (2, .int (nI lt))]) C.x C.b dc_M_step_101 rfl hl (by decide) rfl (fun ls hl => ?_)
    refine lv_aload_n C.x C.b dc_M_step_102 rfl (lv_at hl 2 rfl) ?_
    refine lv_aload_n C.x C.b dc_M_step_103 rfl (lv_at hl 2 rfl) ?_
    refine rg_get C h 0 rfl rfl in_M 7 (by decide) fl_M_71 rfl dc_M_step_104 ?_
    refine lv_iload C.x C.b dc_M_step_107 (lv_at hl 1 rfl) ?_
    refine kv_V (As := [.int (nI (ri 20 3)), .int (nI (rN ri (ri 20 3) ((c9 / 1024) * 3 + lt)))]) (rest := []) C h hl.1 (c_M_isEnd l Γ r ri rl wr (ri 20 3) (rN ri (ri 20 3) ((c9 / 1024) * 3 + lt)) (by omega) (Nat.lt_of_lt_of_le (a5 _ lt hv2.1 hlt) a3) (a6 _ (a5 _ lt hv2.1 hlt))) mw_M_isEnd lk_M_64 (q0 := 0) rfl rfl rfl (by decide) (by decide) (Nat.le_of_ble_eq_true rfl) dc_M_step_109 (fun v u H locs hp h => ?_)
    obtain rfl := hp
    replace h : sT Γ s (rW Γ r ri rl wr) _ _ := h
    refine W.eq (g2 := F0 m 112 ls [.int (bI (rEb ri (ri 20 3) (rN ri (ri 20 3) ((c9 / 1024) * 3 + lt))))]) rfl ?_
    refine bb_eq (tgt := 129) C dc_M_step_112 (by decide) (fun q112 => ?_) (fun q112 => ?_)
    · refine lv_sipush (v := (nI 1024)) C.x C.b dc_M_step_129 (by decide +kernel) ?_
      refine lv_iload C.x C.b dc_M_step_132 (lv_at hl 1 rfl) ?_
      refine lv_imul C.x C.b dc_M_step_134 ?_
      refine tp_i (pk_mul 1024 (rN ri (ri 20 3) ((c9 / 1024) * 3 + lt))) ?_
      refine lv_iload_n C.x C.b dc_M_step_135 rfl (lv_at hl 0 rfl) ?_
      refine lv_iadd C.x C.b dc_M_step_136 ?_
      refine tp_i (nI_add (1024 * (rN ri (ri 20 3) ((c9 / 1024) * 3 + lt))) (aAll (c9 % 1024) (fun x => rN ri (ri 20 4) (x * 3 + lt)) (ri 0 (ri 20 4)))) ?_
      rw [hQ]
      exact rt_i C () h (by
        have e9 := (rT_bit (ri := ri) (p := ri 20 3) (s := rN ri (ri 20 3) (c9 / 1024 * 3 + lt)) (a5 _ lt hv2.1 hlt)).trans q112
        show _ = some (Value.int (nI (jhB _ _ _ _)))
        unfold jhB
        rw [if_neg (by rw [show rT ri (ri 20 3) 1 (c9 / 1024 * 3 + lt) = rN ri (ri 20 3) (c9 / 1024 * 3 + lt) from rfl, e9]; decide)]; rfl) dc_M_step_137
    · refine lv_iload_n C.x C.b dc_M_step_115 rfl (lv_at hl 0 rfl) ?_
      refine lv_iconst (v := (nI 1)) C.x C.b dc_M_step_116 (by decide +kernel) ?_
      refine lv_aload_n C.x C.b dc_M_step_117 rfl (lv_at hl 2 rfl) ?_
      refine rg_get C h 0 rfl rfl in_M 3 (by decide) fl_M_13 rfl dc_M_step_118 ?_
      refine lv_aload_n C.x C.b dc_M_step_121 rfl (lv_at hl 2 rfl) ?_
      refine rg_get C h 0 rfl rfl in_M 8 (by decide) fl_M_74 rfl dc_M_step_122 ?_
      refine rg_ild C h 2 rfl (by omega) (by decide) dc_M_step_125 ?_
      refine lv_ishl C.x C.b dc_M_step_126 ?_
      refine tp_i (nI_shl1 (n := (ri 1 (ri 20 4))) (by omega)) ?_
      refine lv_ior C.x C.b dc_M_step_127 ?_
      refine tp_i (nI_or (aAll (c9 % 1024) (fun x => rN ri (ri 20 4) (x * 3 + lt)) (ri 0 (ri 20 4))) (2 ^ (ri 1 (ri 20 4)))) ?_
      refine lv_istore_n (lv' := [(3, .int (nI ((aAll (c9 % 1024) (fun x => rN ri (ri 20 4) (x * 3 + lt)) (ri 0 (ri 20 4))) ||| (2 ^ (ri 1 (ri 20 4)))))), (4, .int (nI (rN ri (ri 20 3) ((c9 / 1024) * 3 + lt)))), (0, .ref (r 0)), (1, .int (nI c9)), (2, .int (nI lt))]) C.x C.b dc_M_step_128 rfl hl (by decide) rfl (fun ls hl => ?_)
      refine lv_sipush (v := (nI 1024)) C.x C.b dc_M_step_129 (by decide +kernel) ?_
      refine lv_iload C.x C.b dc_M_step_132 (lv_at hl 1 rfl) ?_
      refine lv_imul C.x C.b dc_M_step_134 ?_
      refine tp_i (pk_mul 1024 (rN ri (ri 20 3) ((c9 / 1024) * 3 + lt))) ?_
      refine lv_iload_n C.x C.b dc_M_step_135 rfl (lv_at hl 0 rfl) ?_
      refine lv_iadd C.x C.b dc_M_step_136 ?_
      refine tp_i (nI_add (1024 * (rN ri (ri 20 3) ((c9 / 1024) * 3 + lt))) ((aAll (c9 % 1024) (fun x => rN ri (ri 20 4) (x * 3 + lt)) (ri 0 (ri 20 4))) ||| (2 ^ (ri 1 (ri 20 4))))) ?_
      rw [hQ]
      exact rt_i C () h (by
        have e9 := (rT_bit (ri := ri) (p := ri 20 3) (s := rN ri (ri 20 3) (c9 / 1024 * 3 + lt)) (a5 _ lt hv2.1 hlt)).trans q112
        show _ = some (Value.int (nI (jhB _ _ _ _)))
        unfold jhB
        rw [if_pos (show (rT ri (ri 20 3) 0 1).testBit (rT ri (ri 20 3) 1 (c9 / 1024 * 3 + lt)) = true from e9)]; rfl) dc_M_step_137
  · refine tp_i (y := nI 3) (by rw [hw]) ?_
    refine lv_tableIn (off := 132) (tgt := 138) C.x C.b dc_M_step_6 (by decide +kernel) (by decide +kernel) (by decide +kernel) (by decide) ?_
    obtain ⟨a1, a2, a3, a4, a5, a6⟩ := id h1
    obtain ⟨b1, b2, b3, b4, b5, b6⟩ := id h2
    have hv2 : c9 / 16 < ri 0 (ri 20 3) ∧ c9 % 16 < ri 0 (ri 20 4) := hv
    refine lv_bipush (v := (nI 16)) C.x C.b dc_M_step_138 (by decide +kernel) ?_
    refine lv_aload_n C.x C.b dc_M_step_140 rfl (lv_at hl 1 rfl) ?_
    refine lv_aload_n C.x C.b dc_M_step_141 rfl (lv_at hl 1 rfl) ?_
    refine rg_get C h 0 rfl rfl in_M 7 (by decide) fl_M_71 rfl dc_M_step_142 ?_
    refine lv_iload_n C.x C.b dc_M_step_145 rfl (lv_at hl 2 rfl) ?_
    refine lv_iconst (v := (nI 4)) C.x C.b dc_M_step_146 (by decide +kernel) ?_
    refine lv_ishr C.x C.b dc_M_step_147 ?_
    refine tp_i (y := (nI (c9 / 16))) (nI_shr (a := c9) (n := 4) (by omega) (by decide)) ?_
    refine lv_iload_n C.x C.b dc_M_step_148 rfl (lv_at hl 3 rfl) ?_
    refine kv_V (As := [.int (nI (ri 20 3)), .int (nI (c9 / 16)), .int (nI lt)]) (rest := [.int (nI 16)]) C h hl.1 (c_M_next l Γ r ri rl wr (ri 20 3) (c9 / 16) lt (by omega) (by omega) (by omega)) mw_M_next lk_M_61 (q0 := 0) rfl rfl rfl (by decide) (by decide) (Nat.le_of_ble_eq_true rfl) dc_M_step_149 (fun v u H locs hp h => ?_)
    obtain rfl := hp
    replace h : sT Γ s (rW Γ r ri rl wr) _ _ := h
    refine W.eq (g2 := F0 m 152 ls [.int (nI (rN ri (ri 20 3) ((c9 / 16) * 3 + lt))), .int (nI 16)]) rfl ?_
    refine lv_imul C.x C.b dc_M_step_152 ?_
    refine tp_i (pk_mul 16 (rN ri (ri 20 3) ((c9 / 16) * 3 + lt))) ?_
    refine lv_aload_n C.x C.b dc_M_step_153 rfl (lv_at hl 1 rfl) ?_
    refine lv_aload_n C.x C.b dc_M_step_154 rfl (lv_at hl 1 rfl) ?_
    refine rg_get C h 0 rfl rfl in_M 8 (by decide) fl_M_74 rfl dc_M_step_155 ?_
    refine lv_iload_n C.x C.b dc_M_step_158 rfl (lv_at hl 2 rfl) ?_
    refine lv_bipush (v := (nI 15)) C.x C.b dc_M_step_159 (by decide +kernel) ?_
    refine lv_iand C.x C.b dc_M_step_161 ?_
    refine tp_i (y := (nI (c9 % 16))) (and_f c9) ?_
    refine lv_iload_n C.x C.b dc_M_step_162 rfl (lv_at hl 3 rfl) ?_
    refine kv_V (As := [.int (nI (ri 20 4)), .int (nI (c9 % 16)), .int (nI lt)]) (rest := [.int (nI (16 * (rN ri (ri 20 3) ((c9 / 16) * 3 + lt))))]) C h hl.1 (c_M_next l Γ r ri rl wr (ri 20 4) (c9 % 16) lt (by omega) (by omega) (by omega)) mw_M_next lk_M_61 (q0 := 0) rfl rfl rfl (by decide) (by decide) (Nat.le_of_ble_eq_true rfl) dc_M_step_163 (fun v u H locs hp h => ?_)
    obtain rfl := hp
    replace h : sT Γ s (rW Γ r ri rl wr) _ _ := h
    refine W.eq (g2 := F0 m 166 ls [.int (nI (rN ri (ri 20 4) ((c9 % 16) * 3 + lt))), .int (nI (16 * (rN ri (ri 20 3) ((c9 / 16) * 3 + lt))))]) rfl ?_
    refine lv_iadd C.x C.b dc_M_step_166 ?_
    refine tp_i (nI_add (16 * (rN ri (ri 20 3) ((c9 / 16) * 3 + lt))) (rN ri (ri 20 4) ((c9 % 16) * 3 + lt))) ?_
    rw [hQ]
    exact rt_i C () h (rfl) dc_M_step_167
  · refine tp_i (y := nI 4) (by rw [hw]) ?_
    refine lv_tableIn (off := 162) (tgt := 168) C.x C.b dc_M_step_6 (by decide +kernel) (by decide +kernel) (by decide +kernel) (by decide) ?_
    obtain ⟨a1, a2, a3, a4, a5, a6⟩ := id h1
    have hv2 : c9 ≤ 1024 := hv
    refine lv_aload_n C.x C.b dc_M_step_168 rfl (lv_at hl 1 rfl) ?_
    refine lv_aload_n C.x C.b dc_M_step_169 rfl (lv_at hl 1 rfl) ?_
    refine rg_get C h 0 rfl rfl in_M 7 (by decide) fl_M_71 rfl dc_M_step_170 ?_
    refine lv_iload_n C.x C.b dc_M_step_173 rfl (lv_at hl 2 rfl) ?_
    refine lv_sipush (v := (nI 1024)) C.x C.b dc_M_step_174 (by decide +kernel) ?_
    refine bc_ne (tgt := 194) C (by omega) (by decide) dc_M_step_177 (by decide) (fun q177 => ?_) (fun q177 => ?_)
    · refine lv_iload_n C.x C.b dc_M_step_194 rfl (lv_at hl 2 rfl) ?_
      refine lv_iload_n C.x C.b dc_M_step_195 rfl (lv_at hl 3 rfl) ?_
      refine kv_V (As := [.int (nI (ri 20 3)), .int (nI c9), .int (nI lt)]) (rest := []) C h hl.1 (c_M_all l Γ r ri rl wr (ri 20 3) c9 lt a1 (by first | omega | exact Nat.lt_of_lt_of_le (Nat.pow_lt_pow_right (a := 2) (by decide) a4) (Nat.pow_le_pow_right (n := 2) (j := 31) (by decide) (by omega))) hlt a3 (fun x hx => Nat.lt_of_lt_of_le (a5 x lt hx hlt) a3)) mw_M_all lk_M_80 (q0 := 0) rfl rfl rfl (by decide) (by decide) (Nat.le_of_ble_eq_true rfl) dc_M_step_196 (fun v u H locs hp h => ?_)
      obtain rfl := hp
      replace h : sT Γ s (rW Γ r ri rl wr) _ _ := h
      refine W.eq (g2 := F0 m 199 ls [.int (nI (aAll c9 (fun x => rN ri (ri 20 3) (x * 3 + lt)) (ri 0 (ri 20 3))))]) rfl ?_
      refine lv_istore_n (lv' := [(3, .int (nI (aAll c9 (fun x => rN ri (ri 20 3) (x * 3 + lt)) (ri 0 (ri 20 3))))), (0, .ref (r 0)), (1, .int (nI c9)), (2, .int (nI lt))]) C.x C.b dc_M_step_199 rfl hl (by decide) rfl (fun ls hl => ?_)
      refine lv_aload_n C.x C.b dc_M_step_200 rfl (lv_at hl 1 rfl) ?_
      refine lv_aload_n C.x C.b dc_M_step_201 rfl (lv_at hl 1 rfl) ?_
      refine rg_get C h 0 rfl rfl in_M 7 (by decide) fl_M_71 rfl dc_M_step_202 ?_
      refine lv_iload_n C.x C.b dc_M_step_205 rfl (lv_at hl 0 rfl) ?_
      refine kv_V (As := [.int (nI (ri 20 3)), .int (nI (aAll c9 (fun x => rN ri (ri 20 3) (x * 3 + lt)) (ri 0 (ri 20 3))))]) (rest := []) C h hl.1 (c_M_someEnd l Γ r ri rl wr (ri 20 3) (aAll c9 (fun x => rN ri (ri 20 3) (x * 3 + lt)) (ri 0 (ri 20 3))) a1 (Nat.lt_of_lt_of_le (aAll_lt _ (fun x hx => a5 x lt hx hlt)) (Nat.pow_le_pow_right (n := 2) (j := 31) (by decide) (by omega))) a3 a6) mw_M_someEnd lk_M_83 (q0 := 0) rfl rfl rfl (by decide) (by decide) (Nat.le_of_ble_eq_true rfl) dc_M_step_206 (fun v u H locs hp h => ?_)
      obtain rfl := hp
      replace h : sT Γ s (rW Γ r ri rl wr) _ _ := h
      refine W.eq (g2 := F0 m 209 ls [.int (bI (decide (¬ (aAll c9 (fun x => rN ri (ri 20 3) (x * 3 + lt)) (ri 0 (ri 20 3))) &&& rT ri (ri 20 3) 0 1 = 0)))]) rfl ?_
      refine bb_eq (tgt := 228) C dc_M_step_209 (by decide) (fun q209 => ?_) (fun q209 => ?_)
      · refine lv_iload_n C.x C.b dc_M_step_228 rfl (lv_at hl 0 rfl) ?_
        rw [hQ]
        exact rt_i C () h (by
          show _ = some (Value.int (nI (if jnS _ _ _ _ &&& _ = 0 then _ else _)))
          have e9 : jnS (rT ri (ri 20 3)) (ri 1 (ri 20 3)) c9 lt = aAll c9 (fun x => rN ri (ri 20 3) (x * 3 + lt)) (ri 0 (ri 20 3)) := by rw [jnS, if_neg q177]; rfl
          rw [e9, if_pos (Classical.not_not.mp (of_decide_eq_false q209))]) dc_M_step_229
      · refine lv_iload_n C.x C.b dc_M_step_212 rfl (lv_at hl 0 rfl) ?_
        refine lv_iconst (v := (nI 1)) C.x C.b dc_M_step_213 (by decide +kernel) ?_
        refine lv_aload_n C.x C.b dc_M_step_214 rfl (lv_at hl 1 rfl) ?_
        refine rg_get C h 0 rfl rfl in_M 3 (by decide) fl_M_13 rfl dc_M_step_215 ?_
        refine lv_aload_n C.x C.b dc_M_step_218 rfl (lv_at hl 1 rfl) ?_
        refine rg_get C h 0 rfl rfl in_M 7 (by decide) fl_M_71 rfl dc_M_step_219 ?_
        refine rg_ild C h 2 rfl (by omega) (by decide) dc_M_step_222 ?_
        refine lv_ishl C.x C.b dc_M_step_223 ?_
        refine tp_i (nI_shl1 (n := (ri 1 (ri 20 3))) (by omega)) ?_
        refine lv_ior C.x C.b dc_M_step_224 ?_
        refine tp_i (nI_or (aAll c9 (fun x => rN ri (ri 20 3) (x * 3 + lt)) (ri 0 (ri 20 3))) (2 ^ (ri 1 (ri 20 3)))) ?_
        refine lv_goto (tgt := 229) C.x C.b dc_M_step_225 (by decide) ?_
        rw [hQ]
        exact rt_i C () h (by
          show _ = some (Value.int (nI (if jnS _ _ _ _ &&& _ = 0 then _ else _)))
          have e9 : jnS (rT ri (ri 20 3)) (ri 1 (ri 20 3)) c9 lt = aAll c9 (fun x => rN ri (ri 20 3) (x * 3 + lt)) (ri 0 (ri 20 3)) := by rw [jnS, if_neg q177]; rfl
          rw [e9, if_neg (of_decide_eq_true q209)]) dc_M_step_229
    · refine lv_iconst (v := (nI 1)) C.x C.b dc_M_step_180 (by decide +kernel) ?_
      refine lv_aload_n C.x C.b dc_M_step_181 rfl (lv_at hl 1 rfl) ?_
      refine rg_get C h 0 rfl rfl in_M 3 (by decide) fl_M_13 rfl dc_M_step_182 ?_
      refine lv_aload_n C.x C.b dc_M_step_185 rfl (lv_at hl 1 rfl) ?_
      refine rg_get C h 0 rfl rfl in_M 7 (by decide) fl_M_71 rfl dc_M_step_186 ?_
      refine rg_ild C h 2 rfl (by omega) (by decide) dc_M_step_189 ?_
      refine lv_ishl C.x C.b dc_M_step_190 ?_
      refine tp_i (nI_shl1 (n := (ri 1 (ri 20 3))) (by omega)) ?_
      refine lv_goto (tgt := 195) C.x C.b dc_M_step_191 (by decide) ?_
      refine lv_iload_n C.x C.b dc_M_step_195 rfl (lv_at hl 3 rfl) ?_
      refine kv_V (As := [.int (nI (ri 20 3)), .int (nI (2 ^ (ri 1 (ri 20 3)))), .int (nI lt)]) (rest := []) C h hl.1 (c_M_all l Γ r ri rl wr (ri 20 3) (2 ^ (ri 1 (ri 20 3))) lt a1 (by first | omega | exact Nat.lt_of_lt_of_le (Nat.pow_lt_pow_right (a := 2) (by decide) a4) (Nat.pow_le_pow_right (n := 2) (j := 31) (by decide) (by omega))) hlt a3 (fun x hx => Nat.lt_of_lt_of_le (a5 x lt hx hlt) a3)) mw_M_all lk_M_80 (q0 := 0) rfl rfl rfl (by decide) (by decide) (Nat.le_of_ble_eq_true rfl) dc_M_step_196 (fun v u H locs hp h => ?_)
      obtain rfl := hp
      replace h : sT Γ s (rW Γ r ri rl wr) _ _ := h
      refine W.eq (g2 := F0 m 199 ls [.int (nI (aAll (2 ^ (ri 1 (ri 20 3))) (fun x => rN ri (ri 20 3) (x * 3 + lt)) (ri 0 (ri 20 3))))]) rfl ?_
      refine lv_istore_n (lv' := [(3, .int (nI (aAll (2 ^ (ri 1 (ri 20 3))) (fun x => rN ri (ri 20 3) (x * 3 + lt)) (ri 0 (ri 20 3))))), (0, .ref (r 0)), (1, .int (nI c9)), (2, .int (nI lt))]) C.x C.b dc_M_step_199 rfl hl (by decide) rfl (fun ls hl => ?_)
      refine lv_aload_n C.x C.b dc_M_step_200 rfl (lv_at hl 1 rfl) ?_
      refine lv_aload_n C.x C.b dc_M_step_201 rfl (lv_at hl 1 rfl) ?_
      refine rg_get C h 0 rfl rfl in_M 7 (by decide) fl_M_71 rfl dc_M_step_202 ?_
      refine lv_iload_n C.x C.b dc_M_step_205 rfl (lv_at hl 0 rfl) ?_
      refine kv_V (As := [.int (nI (ri 20 3)), .int (nI (aAll (2 ^ (ri 1 (ri 20 3))) (fun x => rN ri (ri 20 3) (x * 3 + lt)) (ri 0 (ri 20 3))))]) (rest := []) C h hl.1 (c_M_someEnd l Γ r ri rl wr (ri 20 3) (aAll (2 ^ (ri 1 (ri 20 3))) (fun x => rN ri (ri 20 3) (x * 3 + lt)) (ri 0 (ri 20 3))) a1 (Nat.lt_of_lt_of_le (aAll_lt _ (fun x hx => a5 x lt hx hlt)) (Nat.pow_le_pow_right (n := 2) (j := 31) (by decide) (by omega))) a3 a6) mw_M_someEnd lk_M_83 (q0 := 0) rfl rfl rfl (by decide) (by decide) (Nat.le_of_ble_eq_true rfl) dc_M_step_206 (fun v u H locs hp h => ?_)
      obtain rfl := hp
      replace h : sT Γ s (rW Γ r ri rl wr) _ _ := h
      refine W.eq (g2 := F0 m 209 ls [.int (bI (decide (¬ (aAll (2 ^ (ri 1 (ri 20 3))) (fun x => rN ri (ri 20 3) (x * 3 + lt)) (ri 0 (ri 20 3))) &&& rT ri (ri 20 3) 0 1 = 0)))]) rfl ?_
      refine bb_eq (tgt := 228) C dc_M_step_209 (by decide) (fun q209 => ?_) (fun q209 => ?_)
      · refine lv_iload_n C.x C.b dc_M_step_228 rfl (lv_at hl 0 rfl) ?_
        rw [hQ]
        exact rt_i C () h (by
          show _ = some (Value.int (nI (if jnS _ _ _ _ &&& _ = 0 then _ else _)))
          have e9 : jnS (rT ri (ri 20 3)) (ri 1 (ri 20 3)) c9 lt = aAll (2 ^ (ri 1 (ri 20 3))) (fun x => rN ri (ri 20 3) (x * 3 + lt)) (ri 0 (ri 20 3)) := by rw [jnS, if_pos q177]; rfl
          rw [e9, if_pos (Classical.not_not.mp (of_decide_eq_false q209))]) dc_M_step_229
      · refine lv_iload_n C.x C.b dc_M_step_212 rfl (lv_at hl 0 rfl) ?_
        refine lv_iconst (v := (nI 1)) C.x C.b dc_M_step_213 (by decide +kernel) ?_
        refine lv_aload_n C.x C.b dc_M_step_214 rfl (lv_at hl 1 rfl) ?_
        refine rg_get C h 0 rfl rfl in_M 3 (by decide) fl_M_13 rfl dc_M_step_215 ?_
        refine lv_aload_n C.x C.b dc_M_step_218 rfl (lv_at hl 1 rfl) ?_
        refine rg_get C h 0 rfl rfl in_M 7 (by decide) fl_M_71 rfl dc_M_step_219 ?_
        refine rg_ild C h 2 rfl (by omega) (by decide) dc_M_step_222 ?_
        refine lv_ishl C.x C.b dc_M_step_223 ?_
        refine tp_i (nI_shl1 (n := (ri 1 (ri 20 3))) (by omega)) ?_
        refine lv_ior C.x C.b dc_M_step_224 ?_
        refine tp_i (nI_or (aAll (2 ^ (ri 1 (ri 20 3))) (fun x => rN ri (ri 20 3) (x * 3 + lt)) (ri 0 (ri 20 3))) (2 ^ (ri 1 (ri 20 3)))) ?_
        refine lv_goto (tgt := 229) C.x C.b dc_M_step_225 (by decide) ?_
        rw [hQ]
        exact rt_i C () h (by
          show _ = some (Value.int (nI (if jnS _ _ _ _ &&& _ = 0 then _ else _)))
          have e9 : jnS (rT ri (ri 20 3)) (ri 1 (ri 20 3)) c9 lt = aAll (2 ^ (ri 1 (ri 20 3))) (fun x => rN ri (ri 20 3) (x * 3 + lt)) (ri 0 (ri 20 3)) := by rw [jnS, if_pos q177]; rfl
          rw [e9, if_neg (of_decide_eq_true q209)]) dc_M_step_229
  · refine tp_i (y := nI 5) (by rw [hw]) ?_
    refine lv_tableIn (off := 275) (tgt := 281) C.x C.b dc_M_step_6 (by decide +kernel) (by decide +kernel) (by decide +kernel) (by decide) ?_
    obtain ⟨a1, a2, a3, a4, a5, a6⟩ := id h1
    have hv2 : c9 < ri 0 (ri 20 3) := hv
    refine lv_aload_n C.x C.b dc_M_step_281 rfl (lv_at hl 1 rfl) ?_
    refine lv_aload_n C.x C.b dc_M_step_282 rfl (lv_at hl 1 rfl) ?_
    refine rg_get C h 0 rfl rfl in_M 7 (by decide) fl_M_71 rfl dc_M_step_283 ?_
    refine lv_iload_n C.x C.b dc_M_step_286 rfl (lv_at hl 2 rfl) ?_
    refine lv_iload_n C.x C.b dc_M_step_287 rfl (lv_at hl 3 rfl) ?_
    refine kv_V (As := [.int (nI (ri 20 3)), .int (nI c9), .int (nI lt)]) (rest := []) C h hl.1 (c_M_next l Γ r ri rl wr (ri 20 3) c9 lt (by omega) (by omega) (by omega)) mw_M_next lk_M_61 (q0 := 0) rfl rfl rfl (by decide) (by decide) (Nat.le_of_ble_eq_true rfl) dc_M_step_288 (fun v u H locs hp h => ?_)
    obtain rfl := hp
    replace h : sT Γ s (rW Γ r ri rl wr) _ _ := h
    refine W.eq (g2 := F0 m 291 ls [.int (nI (rN ri (ri 20 3) (c9 * 3 + lt)))]) rfl ?_
    rw [hQ]
    exact rt_i C () h (rfl) dc_M_step_291
  · refine tp_i (y := nI 6) (by rw [hw]) ?_
    refine lv_tableIn (off := 224) (tgt := 230) C.x C.b dc_M_step_6 (by decide +kernel) (by decide +kernel) (by decide +kernel) (by decide) ?_
    obtain ⟨a1, a2, a3, a4, a5, a6⟩ := id h1
    have hv2 : c9 < 1024 := hv
    refine lv_iconst (v := (nI 0)) C.x C.b dc_M_step_230 (by decide +kernel) ?_
    refine lv_istore (lv' := [(5, .int (nI 0)), (3, .int (nI 0)), (0, .ref (r 0)), (1, .int (nI c9)), (2, .int (nI lt))]) C.x C.b dc_M_step_231 hl (by decide) rfl (fun ls hl => ?_)
    have lp_233 : ∀ (n_233 : Nat) (k : Nat) (H : Heap) (locs : List Loc) (ls : Array Slot), ri 0 (ri 20 3) - k < n_233 → (k ≤ ri 0 (ri 20 3)) → sT Γ s (rW Γ r ri rl wr) H locs → lv_has ls 6 [(5, .int (nI k)), (3, .int (nI (bAll c9 (fun x => rN ri (ri 20 3) (x * 3 + lt)) k))), (0, .ref (r 0)), (1, .int (nI c9)), (2, .int (nI lt))] → W p l e rm_M_step s m args below meth c H locs 0 0 Q (F0 m 233 ls []) := by
      intro n_233
      induction n_233 with
      | zero => intro k H locs ls hms; exact absurd hms (Nat.not_lt_zero _)
      | succ n_233 ih_233 =>
        intro k H locs ls hms hk h hl
        refine lv_iload C.x C.b dc_M_step_233 (lv_at hl 0 rfl) ?_
        refine lv_aload_n C.x C.b dc_M_step_235 rfl (lv_at hl 2 rfl) ?_
        refine rg_get C h 0 rfl rfl in_M 2 (by decide) fl_M_9 rfl dc_M_step_236 ?_
        refine lv_aload_n C.x C.b dc_M_step_239 rfl (lv_at hl 2 rfl) ?_
        refine rg_get C h 0 rfl rfl in_M 7 (by decide) fl_M_71 rfl dc_M_step_240 ?_
        refine rg_ild C h 1 rfl (by omega) (by decide) dc_M_step_243 ?_
        refine bc_ge (tgt := 279) C (by omega) (by omega) dc_M_step_244 (by decide) (fun q244 => ?_) (fun q244 => ?_)
        · refine lv_iload_n C.x C.b dc_M_step_279 rfl (lv_at hl 1 rfl) ?_
          rw [hQ]
          exact rt_i C () h (by rw [show k = ri 0 (ri 20 3) by omega]; rfl) dc_M_step_280
        · refine lv_iload_n C.x C.b dc_M_step_247 rfl (lv_at hl 3 rfl) ?_
          refine lv_aload_n C.x C.b dc_M_step_248 rfl (lv_at hl 2 rfl) ?_
          refine lv_aload_n C.x C.b dc_M_step_249 rfl (lv_at hl 2 rfl) ?_
          refine rg_get C h 0 rfl rfl in_M 7 (by decide) fl_M_71 rfl dc_M_step_250 ?_
          refine lv_iload C.x C.b dc_M_step_253 (lv_at hl 0 rfl) ?_
          refine lv_iload_n C.x C.b dc_M_step_255 rfl (lv_at hl 4 rfl) ?_
          refine kv_V (As := [.int (nI (ri 20 3)), .int (nI k), .int (nI lt)]) (rest := [.int (nI c9)]) C h hl.1 (c_M_next l Γ r ri rl wr (ri 20 3) k lt (by omega) (by omega) (by omega)) mw_M_next lk_M_61 (q0 := 0) rfl rfl rfl (by decide) (by decide) (Nat.le_of_ble_eq_true rfl) dc_M_step_256 (fun v u H locs hp h => ?_)
          obtain rfl := hp
          replace h : sT Γ s (rW Γ r ri rl wr) _ _ := h
          refine W.eq (g2 := F0 m 259 ls [.int (nI (rN ri (ri 20 3) (k * 3 + lt))), .int (nI c9)]) rfl ?_
          refine lv_ishr C.x C.b dc_M_step_259 ?_
          refine tp_i (nI_shr (a := c9) (n := (rN ri (ri 20 3) (k * 3 + lt))) (by omega) (Nat.lt_of_lt_of_le (a5 k lt (by omega) hlt) (by omega))) ?_
          refine lv_iconst (v := (nI 1)) C.x C.b dc_M_step_260 (by decide +kernel) ?_
          refine lv_iand C.x C.b dc_M_step_261 ?_
          refine tp_i (nI_and1 (c9 / 2 ^ (rN ri (ri 20 3) (k * 3 + lt)))) ?_
          refine lv_iconst (v := (nI 1)) C.x C.b dc_M_step_262 (by decide +kernel) ?_
          refine bc_ne (tgt := 273) C (by omega) (by omega) dc_M_step_263 (by decide) (fun q263 => ?_) (fun q263 => ?_)
          · refine lv_iinc (v := nI (k + 1)) (lv' := [(5, .int (nI (k + 1))), (3, .int (nI (bAll c9 (fun x => rN ri (ri 20 3) (x * 3 + lt)) k))), (0, .ref (r 0)), (1, .int (nI c9)), (2, .int (nI lt))]) C.x C.b dc_M_step_273 hl (k := 0) rfl (nI_1 k) (by decide) rfl (fun ls hl => ?_)
            refine lv_goto (tgt := 233) C.x C.b dc_M_step_276 (by decide) ?_
            rw [show bAll c9 (fun x => rN ri (ri 20 3) (x * 3 + lt)) k = bAll c9 (fun x => rN ri (ri 20 3) (x * 3 + lt)) (k + 1) from (bAll_n (nx := fun x => rN ri (ri 20 3) (x * 3 + lt)) ((tb_iff0 _ _).mp (by omega))).symm] at hl
            exact ih_233 (k + 1) _ _ _ (by omega) (by first | assumption | omega) h (lv_sub hl [0, 1, 2, 3, 4] rfl)
          · refine lv_iload_n C.x C.b dc_M_step_266 rfl (lv_at hl 1 rfl) ?_
            refine lv_iconst (v := (nI 1)) C.x C.b dc_M_step_267 (by decide +kernel) ?_
            refine lv_iload C.x C.b dc_M_step_268 (lv_at hl 0 rfl) ?_
            refine lv_ishl C.x C.b dc_M_step_270 ?_
            refine tp_i (nI_shl1 (n := k) (by omega)) ?_
            refine lv_ior C.x C.b dc_M_step_271 ?_
            refine tp_i (nI_or (bAll c9 (fun x => rN ri (ri 20 3) (x * 3 + lt)) k) (2 ^ k)) ?_
            refine lv_istore_n (lv' := [(3, .int (nI ((bAll c9 (fun x => rN ri (ri 20 3) (x * 3 + lt)) k) ||| (2 ^ k)))), (5, .int (nI k)), (0, .ref (r 0)), (1, .int (nI c9)), (2, .int (nI lt))]) C.x C.b dc_M_step_272 rfl hl (by decide) rfl (fun ls hl => ?_)
            refine lv_iinc (v := nI (k + 1)) (lv' := [(5, .int (nI (k + 1))), (3, .int (nI ((bAll c9 (fun x => rN ri (ri 20 3) (x * 3 + lt)) k) ||| (2 ^ k)))), (0, .ref (r 0)), (1, .int (nI c9)), (2, .int (nI lt))]) C.x C.b dc_M_step_273 hl (k := 1) rfl (nI_1 k) (by decide) rfl (fun ls hl => ?_)
            refine lv_goto (tgt := 233) C.x C.b dc_M_step_276 (by decide) ?_
            rw [show bAll c9 (fun x => rN ri (ri 20 3) (x * 3 + lt)) k ||| 2 ^ k = bAll c9 (fun x => rN ri (ri 20 3) (x * 3 + lt)) (k + 1) from (bAll_s (nx := fun x => rN ri (ri 20 3) (x * 3 + lt)) ((tb_iff1 _ _).mp q263)).symm] at hl
            exact ih_233 (k + 1) _ _ _ (by omega) (by first | assumption | omega) h (lv_sub hl [0, 1, 2, 3, 4] rfl)
    exact lp_233 _ 0 _ _ _ (Nat.lt_succ_self _) (by first | assumption | omega) h (lv_sub hl [0, 1, 2, 3, 4] rfl)
  · refine tp_i (y := nI 7) (by rw [hw]) ?_
    refine lv_tableOut (tgt := 281) C.x C.b dc_M_step_6 (by decide +kernel) (by decide) ?_
    obtain ⟨a1, a2, a3, a4, a5, a6⟩ := id h1
    have hv2 : c9 < ri 0 (ri 20 3) := hv
    refine lv_aload_n C.x C.b dc_M_step_281 rfl (lv_at hl 1 rfl) ?_
    refine lv_aload_n C.x C.b dc_M_step_282 rfl (lv_at hl 1 rfl) ?_
    refine rg_get C h 0 rfl rfl in_M 7 (by decide) fl_M_71 rfl dc_M_step_283 ?_
    refine lv_iload_n C.x C.b dc_M_step_286 rfl (lv_at hl 2 rfl) ?_
    refine lv_iload_n C.x C.b dc_M_step_287 rfl (lv_at hl 3 rfl) ?_
    refine kv_V (As := [.int (nI (ri 20 3)), .int (nI c9), .int (nI lt)]) (rest := []) C h hl.1 (c_M_next l Γ r ri rl wr (ri 20 3) c9 lt (by omega) (by omega) (by omega)) mw_M_next lk_M_61 (q0 := 0) rfl rfl rfl (by decide) (by decide) (Nat.le_of_ble_eq_true rfl) dc_M_step_288 (fun v u H locs hp h => ?_)
    obtain rfl := hp
    replace h : sT Γ s (rW Γ r ri rl wr) _ _ := h
    refine W.eq (g2 := F0 m 291 ls [.int (nI (rN ri (ri 20 3) (c9 * 3 + lt)))]) rfl ?_
    rw [hQ]
    exact rt_i C () h (rfl) dc_M_step_291
  · refine tp_i (y := nI 8) (by rw [hw]) ?_
    refine lv_tableOut (tgt := 281) C.x C.b dc_M_step_6 (by decide +kernel) (by decide) ?_
    obtain ⟨a1, a2, a3, a4, a5, a6⟩ := id h1
    have hv2 : c9 < ri 0 (ri 20 3) := hv
    refine lv_aload_n C.x C.b dc_M_step_281 rfl (lv_at hl 1 rfl) ?_
    refine lv_aload_n C.x C.b dc_M_step_282 rfl (lv_at hl 1 rfl) ?_
    refine rg_get C h 0 rfl rfl in_M 7 (by decide) fl_M_71 rfl dc_M_step_283 ?_
    refine lv_iload_n C.x C.b dc_M_step_286 rfl (lv_at hl 2 rfl) ?_
    refine lv_iload_n C.x C.b dc_M_step_287 rfl (lv_at hl 3 rfl) ?_
    refine kv_V (As := [.int (nI (ri 20 3)), .int (nI c9), .int (nI lt)]) (rest := []) C h hl.1 (c_M_next l Γ r ri rl wr (ri 20 3) c9 lt (by omega) (by omega) (by omega)) mw_M_next lk_M_61 (q0 := 0) rfl rfl rfl (by decide) (by decide) (Nat.le_of_ble_eq_true rfl) dc_M_step_288 (fun v u H locs hp h => ?_)
    obtain rfl := hp
    replace h : sT Γ s (rW Γ r ri rl wr) _ _ := h
    refine W.eq (g2 := F0 m 291 ls [.int (nI (rN ri (ri 20 3) (c9 * 3 + lt)))]) rfl ?_
    rw [hQ]
    exact rt_i C () h (rfl) dc_M_step_291

abbrev rm_M_isGood : Room := { frames := 2, cells := 0, slots := 0, locals := 45 }
set_option maxRecDepth 100000 in
set_option maxHeartbeats 4000000 in
theorem c_M_isGood (l : Launch) (Γ : gG) (r : Nat → Nat) (ri : Nat → Nat → Nat) (rl : Nat → Nat → Int64) (wr : va_W) (K : mM) (hK : RK ri K) (c9 : Nat) (hv : K.2.2.2 c9) : cT l Γ my_M_isGood bc_M_isGood 4 (some .boolean) rm_M_isGood [.ref (r 0), .int (nI c9)] (rW Γ r ri rl wr) (S := Unit) (fun v _ => v = some (.int (bI (K.2.2.1 c9)))) (fun _ => rW Γ r ri rl wr) := by
  refine cT.start (by decide) (Nat.le_of_ble_eq_true rfl) (fun p e s m args below meth c ls Q hQ C hmn h hl => ?_)
  replace hl : lv_has ls 4 [(0, .ref (r 0)), (1, .int (nI c9))] := hl
  refine lv_aload_n C.x C.b dc_M_isGood_0 rfl (lv_at hl 0 rfl) ?_
  refine rg_get C h 0 rfl rfl in_M 6 (by decide) fl_M_68 rfl dc_M_isGood_1 ?_
  rcases hK with ⟨hw, hb, rfl⟩ | ⟨hw, rfl⟩ | ⟨hw, h1, h2, rfl⟩ | ⟨hw, hb, h1, h2, rfl⟩ | ⟨hw, h1, rfl⟩ | ⟨hw, h1, rfl⟩ | ⟨hw, h1, rfl⟩ | ⟨hw, hb, h1, rfl⟩ | ⟨hw, h1, hlv, rfl⟩
  · refine tp_i (y := nI 0) (by rw [hw]) ?_
    refine lv_tableIn (off := 48) (tgt := 52) C.x C.b dc_M_isGood_4 (by decide +kernel) (by decide +kernel) (by decide +kernel) (by decide) ?_
    have hv2 : c9 < 3 := hv
    refine lv_iload_n C.x C.b dc_M_isGood_52 rfl (lv_at hl 1 rfl) ?_
    refine lv_iconst (v := (nI 1)) C.x C.b dc_M_isGood_53 (by decide +kernel) ?_
    refine bc_ne (tgt := 61) C (by omega) (by omega) dc_M_isGood_54 (by decide) (fun q54 => ?_) (fun q54 => ?_)
    · refine lv_iconst (v := (nI 0)) C.x C.b dc_M_isGood_61 (by decide +kernel) ?_
      rw [hQ]
      exact rt_z C () h (rb_f (decide_eq_false q54)) (by decide +kernel) dc_M_isGood_62
    · refine lv_iconst (v := (nI 1)) C.x C.b dc_M_isGood_57 (by decide +kernel) ?_
      refine lv_goto (tgt := 62) C.x C.b dc_M_isGood_58 (by decide) ?_
      rw [hQ]
      exact rt_z C () h (rb_t (decide_eq_true q54)) (by decide +kernel) dc_M_isGood_62
  · refine tp_i (y := nI 1) (by rw [hw]) ?_
    refine lv_tableIn (off := 59) (tgt := 63) C.x C.b dc_M_isGood_4 (by decide +kernel) (by decide +kernel) (by decide +kernel) (by decide) ?_
    have hv2 : c9 < 2 := hv
    refine lv_iload_n C.x C.b dc_M_isGood_63 rfl (lv_at hl 1 rfl) ?_
    refine bz_ne (tgt := 71) C (by omega) dc_M_isGood_64 (by decide) (fun q64 => ?_) (fun q64 => ?_)
    · refine lv_iconst (v := (nI 0)) C.x C.b dc_M_isGood_71 (by decide +kernel) ?_
      rw [hQ]
      exact rt_z C () h (rb_f (decide_eq_false q64)) (by decide +kernel) dc_M_isGood_72
    · refine lv_iconst (v := (nI 1)) C.x C.b dc_M_isGood_67 (by decide +kernel) ?_
      refine lv_goto (tgt := 72) C.x C.b dc_M_isGood_68 (by decide) ?_
      rw [hQ]
      exact rt_z C () h (rb_t (decide_eq_true q64)) (by decide +kernel) dc_M_isGood_72
  · refine tp_i (y := nI 2) (by rw [hw]) ?_
    refine lv_tableIn (off := 69) (tgt := 73) C.x C.b dc_M_isGood_4 (by decide +kernel) (by decide +kernel) (by decide +kernel) (by decide) ?_
    obtain ⟨a1, a2, a3, a4, a5, a6⟩ := id h1
    obtain ⟨b1, b2, b3, b4, b5, b6⟩ := id h2
    have hv2 : c9 / 1024 < ri 0 (ri 20 3) ∧ c9 % 1024 < 2 ^ ri 0 (ri 20 4) := hv
    refine lv_aload_n C.x C.b dc_M_isGood_73 rfl (lv_at hl 0 rfl) ?_
    refine lv_aload_n C.x C.b dc_M_isGood_74 rfl (lv_at hl 0 rfl) ?_
    refine rg_get C h 0 rfl rfl in_M 8 (by decide) fl_M_74 rfl dc_M_isGood_75 ?_
    refine lv_iload_n C.x C.b dc_M_isGood_78 rfl (lv_at hl 1 rfl) ?_
    refine lv_sipush (v := (nI 1023)) C.x C.b dc_M_isGood_79 (by decide +kernel) ?_
    refine lv_iand C.x C.b dc_M_isGood_82 ?_
    refine tp_i (y := (nI (c9 % 1024))) (and_ff c9) ?_
    refine kv_V (As := [.int (nI (ri 20 4)), .int (nI (c9 % 1024))]) (rest := []) C h hl.1 (c_M_someEnd l Γ r ri rl wr (ri 20 4) (c9 % 1024) b1 (by omega) b3 b6) mw_M_someEnd lk_M_83 (q0 := 0) rfl rfl rfl (by decide) (by decide) (Nat.le_of_ble_eq_true rfl) dc_M_isGood_83 (fun v u H locs hp h => ?_)
    obtain rfl := hp
    replace h : sT Γ s (rW Γ r ri rl wr) _ _ := h
    refine W.eq (g2 := F0 m 86 ls [.int (bI (decide (¬ (c9 % 1024) &&& rT ri (ri 20 4) 0 1 = 0)))]) rfl ?_
    rw [hQ]
    exact rt_z C () h (rfl) (bI_01 _) dc_M_isGood_86
  · refine tp_i (y := nI 3) (by rw [hw]) ?_
    refine lv_tableIn (off := 83) (tgt := 87) C.x C.b dc_M_isGood_4 (by decide +kernel) (by decide +kernel) (by decide +kernel) (by decide) ?_
    obtain ⟨a1, a2, a3, a4, a5, a6⟩ := id h1
    obtain ⟨b1, b2, b3, b4, b5, b6⟩ := id h2
    have hv2 : c9 / 16 < ri 0 (ri 20 3) ∧ c9 % 16 < ri 0 (ri 20 4) := hv
    refine lv_aload_n C.x C.b dc_M_isGood_87 rfl (lv_at hl 0 rfl) ?_
    refine lv_aload_n C.x C.b dc_M_isGood_88 rfl (lv_at hl 0 rfl) ?_
    refine rg_get C h 0 rfl rfl in_M 7 (by decide) fl_M_71 rfl dc_M_isGood_89 ?_
    refine lv_iload_n C.x C.b dc_M_isGood_92 rfl (lv_at hl 1 rfl) ?_
    refine lv_iconst (v := (nI 4)) C.x C.b dc_M_isGood_93 (by decide +kernel) ?_
    refine lv_ishr C.x C.b dc_M_isGood_94 ?_
    refine tp_i (y := (nI (c9 / 16))) (nI_shr (a := c9) (n := 4) (by omega) (by decide)) ?_
    refine kv_V (As := [.int (nI (ri 20 3)), .int (nI (c9 / 16))]) (rest := []) C h hl.1 (c_M_isEnd l Γ r ri rl wr (ri 20 3) (c9 / 16) (by omega) (by omega) (a6 _ hv2.1)) mw_M_isEnd lk_M_64 (q0 := 0) rfl rfl rfl (by decide) (by decide) (Nat.le_of_ble_eq_true rfl) dc_M_isGood_95 (fun v u H locs hp h => ?_)
    obtain rfl := hp
    replace h : sT Γ s (rW Γ r ri rl wr) _ _ := h
    refine W.eq (g2 := F0 m 98 ls [.int (bI (rEb ri (ri 20 3) (c9 / 16)))]) rfl ?_
    refine lv_istore_n (lv' := [(2, .int (bI (rEb ri (ri 20 3) (c9 / 16)))), (0, .ref (r 0)), (1, .int (nI c9))]) C.x C.b dc_M_isGood_98 rfl hl (by decide) rfl (fun ls hl => ?_)
    refine lv_aload_n C.x C.b dc_M_isGood_99 rfl (lv_at hl 1 rfl) ?_
    refine lv_aload_n C.x C.b dc_M_isGood_100 rfl (lv_at hl 1 rfl) ?_
    refine rg_get C h 0 rfl rfl in_M 8 (by decide) fl_M_74 rfl dc_M_isGood_101 ?_
    refine lv_iload_n C.x C.b dc_M_isGood_104 rfl (lv_at hl 2 rfl) ?_
    refine lv_bipush (v := (nI 15)) C.x C.b dc_M_isGood_105 (by decide +kernel) ?_
    refine lv_iand C.x C.b dc_M_isGood_107 ?_
    refine tp_i (y := (nI (c9 % 16))) (and_f c9) ?_
    refine kv_V (As := [.int (nI (ri 20 4)), .int (nI (c9 % 16))]) (rest := []) C h hl.1 (c_M_isEnd l Γ r ri rl wr (ri 20 4) (c9 % 16) (by omega) (by omega) (b6 _ hv2.2)) mw_M_isEnd lk_M_64 (q0 := 0) rfl rfl rfl (by decide) (by decide) (Nat.le_of_ble_eq_true rfl) dc_M_isGood_108 (fun v u H locs hp h => ?_)
    obtain rfl := hp
    replace h : sT Γ s (rW Γ r ri rl wr) _ _ := h
    refine W.eq (g2 := F0 m 111 ls [.int (bI (rEb ri (ri 20 4) (c9 % 16)))]) rfl ?_
    refine lv_istore_n (lv' := [(3, .int (bI (rEb ri (ri 20 4) (c9 % 16)))), (2, .int (bI (rEb ri (ri 20 3) (c9 / 16)))), (0, .ref (r 0)), (1, .int (nI c9))]) C.x C.b dc_M_isGood_111 rfl hl (by decide) rfl (fun ls hl => ?_)
    refine lv_aload_n C.x C.b dc_M_isGood_112 rfl (lv_at hl 2 rfl) ?_
    refine rg_get C h 0 rfl rfl in_M 9 (by decide) fl_M_77 rfl dc_M_isGood_113 ?_
    refine bz_ne (tgt := 135) C (by omega) dc_M_isGood_116 (by decide) (fun q116 => ?_) (fun q116 => ?_)
    · refine lv_aload_n C.x C.b dc_M_isGood_135 rfl (lv_at hl 2 rfl) ?_
      refine rg_get C h 0 rfl rfl in_M 9 (by decide) fl_M_77 rfl dc_M_isGood_136 ?_
      refine lv_iconst (v := (nI 1)) C.x C.b dc_M_isGood_139 (by decide +kernel) ?_
      refine bc_ne (tgt := 159) C (by omega) (by omega) dc_M_isGood_140 (by decide) (fun q140 => ?_) (fun q140 => ?_)
      · refine lv_aload_n C.x C.b dc_M_isGood_159 rfl (lv_at hl 2 rfl) ?_
        refine rg_get C h 0 rfl rfl in_M 9 (by decide) fl_M_77 rfl dc_M_isGood_160 ?_
        refine lv_iconst (v := (nI 2)) C.x C.b dc_M_isGood_163 (by decide +kernel) ?_
        refine bc_ne (tgt := 183) C (by omega) (by omega) dc_M_isGood_164 (by decide) (fun q164 => ?_) (fun q164 => ?_)
        · refine lv_iload_n C.x C.b dc_M_isGood_183 rfl (lv_at hl 1 rfl) ?_
          refine lv_iload_n C.x C.b dc_M_isGood_184 rfl (lv_at hl 0 rfl) ?_
          rw [bI_n]
          rw [bI_n]
          refine bc_eq (tgt := 192) C (by cases rEb ri (ri 20 3) (c9 / 16) <;> decide) (by cases rEb ri (ri 20 4) (c9 % 16) <;> decide) dc_M_isGood_185 (by decide) (fun q185 => ?_) (fun q185 => ?_)
          · refine lv_iconst (v := (nI 0)) C.x C.b dc_M_isGood_192 (by decide +kernel) ?_
            rw [hQ]
            exact rt_z C () h (rb_f (by
              show bOp _ ((rT ri (ri 20 3) 0 1).testBit (c9 / 16)) ((rT ri (ri 20 4) 0 1).testBit (c9 % 16)) = _
              rw [rT_bit hv2.1, rT_bit hv2.2]
              unfold bOp
              rw [if_neg q116, if_neg q140, if_neg q164]; revert q185; cases rEb ri (ri 20 3) (c9 / 16) <;> cases rEb ri (ri 20 4) (c9 % 16) <;> decide)) (by decide +kernel) dc_M_isGood_193
          · refine lv_iconst (v := (nI 1)) C.x C.b dc_M_isGood_188 (by decide +kernel) ?_
            refine lv_goto (tgt := 193) C.x C.b dc_M_isGood_189 (by decide) ?_
            rw [hQ]
            exact rt_z C () h (rb_t (by
              show bOp _ ((rT ri (ri 20 3) 0 1).testBit (c9 / 16)) ((rT ri (ri 20 4) 0 1).testBit (c9 % 16)) = _
              rw [rT_bit hv2.1, rT_bit hv2.2]
              unfold bOp
              rw [if_neg q116, if_neg q140, if_neg q164]; revert q185; cases rEb ri (ri 20 3) (c9 / 16) <;> cases rEb ri (ri 20 4) (c9 % 16) <;> decide)) (by decide +kernel) dc_M_isGood_193
        · refine lv_iload_n C.x C.b dc_M_isGood_167 rfl (lv_at hl 1 rfl) ?_
          refine bb_eq (tgt := 179) C dc_M_isGood_168 (by decide) (fun q168 => ?_) (fun q168 => ?_)
          · refine lv_iconst (v := (nI 0)) C.x C.b dc_M_isGood_179 (by decide +kernel) ?_
            refine lv_goto (tgt := 193) C.x C.b dc_M_isGood_180 (by decide) ?_
            rw [hQ]
            exact rt_z C () h (rb_f (by
              show bOp _ ((rT ri (ri 20 3) 0 1).testBit (c9 / 16)) ((rT ri (ri 20 4) 0 1).testBit (c9 % 16)) = _
              rw [rT_bit hv2.1, rT_bit hv2.2]
              unfold bOp
              rw [if_neg q116, if_neg q140, if_pos q164, q168]; rfl)) (by decide +kernel) dc_M_isGood_193
          · refine lv_iload_n C.x C.b dc_M_isGood_171 rfl (lv_at hl 0 rfl) ?_
            refine bb_ne (tgt := 179) C dc_M_isGood_172 (by decide) (fun q172 => ?_) (fun q172 => ?_)
            · refine lv_iconst (v := (nI 0)) C.x C.b dc_M_isGood_179 (by decide +kernel) ?_
              refine lv_goto (tgt := 193) C.x C.b dc_M_isGood_180 (by decide) ?_
              rw [hQ]
              exact rt_z C () h (rb_f (by
                show bOp _ ((rT ri (ri 20 3) 0 1).testBit (c9 / 16)) ((rT ri (ri 20 4) 0 1).testBit (c9 % 16)) = _
                rw [rT_bit hv2.1, rT_bit hv2.2]
                unfold bOp
                rw [if_neg q116, if_neg q140, if_pos q164, q168, q172]; rfl)) (by decide +kernel) dc_M_isGood_193
            · refine lv_iconst (v := (nI 1)) C.x C.b dc_M_isGood_175 (by decide +kernel) ?_
              refine lv_goto (tgt := 193) C.x C.b dc_M_isGood_176 (by decide) ?_
              rw [hQ]
              exact rt_z C () h (rb_t (by
                show bOp _ ((rT ri (ri 20 3) 0 1).testBit (c9 / 16)) ((rT ri (ri 20 4) 0 1).testBit (c9 % 16)) = _
                rw [rT_bit hv2.1, rT_bit hv2.2]
                unfold bOp
                rw [if_neg q116, if_neg q140, if_pos q164, q168, q172]; rfl)) (by decide +kernel) dc_M_isGood_193
      · refine lv_iload_n C.x C.b dc_M_isGood_143 rfl (lv_at hl 1 rfl) ?_
        refine bb_eq (tgt := 155) C dc_M_isGood_144 (by decide) (fun q144 => ?_) (fun q144 => ?_)
        · refine lv_iconst (v := (nI 0)) C.x C.b dc_M_isGood_155 (by decide +kernel) ?_
          refine lv_goto (tgt := 193) C.x C.b dc_M_isGood_156 (by decide) ?_
          rw [hQ]
          exact rt_z C () h (rb_f (by
            show bOp _ ((rT ri (ri 20 3) 0 1).testBit (c9 / 16)) ((rT ri (ri 20 4) 0 1).testBit (c9 % 16)) = _
            rw [rT_bit hv2.1, rT_bit hv2.2]
            unfold bOp
            rw [if_neg q116, if_pos q140, q144]; rfl)) (by decide +kernel) dc_M_isGood_193
        · refine lv_iload_n C.x C.b dc_M_isGood_147 rfl (lv_at hl 0 rfl) ?_
          refine bb_eq (tgt := 155) C dc_M_isGood_148 (by decide) (fun q148 => ?_) (fun q148 => ?_)
          · refine lv_iconst (v := (nI 0)) C.x C.b dc_M_isGood_155 (by decide +kernel) ?_
            refine lv_goto (tgt := 193) C.x C.b dc_M_isGood_156 (by decide) ?_
            rw [hQ]
            exact rt_z C () h (rb_f (by
              show bOp _ ((rT ri (ri 20 3) 0 1).testBit (c9 / 16)) ((rT ri (ri 20 4) 0 1).testBit (c9 % 16)) = _
              rw [rT_bit hv2.1, rT_bit hv2.2]
              unfold bOp
              rw [if_neg q116, if_pos q140, q144, q148]; rfl)) (by decide +kernel) dc_M_isGood_193
          · refine lv_iconst (v := (nI 1)) C.x C.b dc_M_isGood_151 (by decide +kernel) ?_
            refine lv_goto (tgt := 193) C.x C.b dc_M_isGood_152 (by decide) ?_
            rw [hQ]
            exact rt_z C () h (rb_t (by
              show bOp _ ((rT ri (ri 20 3) 0 1).testBit (c9 / 16)) ((rT ri (ri 20 4) 0 1).testBit (c9 % 16)) = _
              rw [rT_bit hv2.1, rT_bit hv2.2]
              unfold bOp
              rw [if_neg q116, if_pos q140, q144, q148]; rfl)) (by decide +kernel) dc_M_isGood_193
    · refine lv_iload_n C.x C.b dc_M_isGood_119 rfl (lv_at hl 1 rfl) ?_
      refine bb_ne (tgt := 127) C dc_M_isGood_120 (by decide) (fun q120 => ?_) (fun q120 => ?_)
      · refine lv_iconst (v := (nI 1)) C.x C.b dc_M_isGood_127 (by decide +kernel) ?_
        refine lv_goto (tgt := 193) C.x C.b dc_M_isGood_128 (by decide) ?_
        rw [hQ]
        exact rt_z C () h (rb_t (by
          show bOp _ ((rT ri (ri 20 3) 0 1).testBit (c9 / 16)) ((rT ri (ri 20 4) 0 1).testBit (c9 % 16)) = _
          rw [rT_bit hv2.1, rT_bit hv2.2]
          unfold bOp
          rw [if_pos q116, q120]; rfl)) (by decide +kernel) dc_M_isGood_193
      · refine lv_iload_n C.x C.b dc_M_isGood_123 rfl (lv_at hl 0 rfl) ?_
        refine bb_eq (tgt := 131) C dc_M_isGood_124 (by decide) (fun q124 => ?_) (fun q124 => ?_)
        · refine lv_iconst (v := (nI 0)) C.x C.b dc_M_isGood_131 (by decide +kernel) ?_
          refine lv_goto (tgt := 193) C.x C.b dc_M_isGood_132 (by decide) ?_
          rw [hQ]
          exact rt_z C () h (rb_f (by
            show bOp _ ((rT ri (ri 20 3) 0 1).testBit (c9 / 16)) ((rT ri (ri 20 4) 0 1).testBit (c9 % 16)) = _
            rw [rT_bit hv2.1, rT_bit hv2.2]
            unfold bOp
            rw [if_pos q116, q120, q124]; rfl)) (by decide +kernel) dc_M_isGood_193
        · refine lv_iconst (v := (nI 1)) C.x C.b dc_M_isGood_127 (by decide +kernel) ?_
          refine lv_goto (tgt := 193) C.x C.b dc_M_isGood_128 (by decide) ?_
          rw [hQ]
          exact rt_z C () h (rb_t (by
            show bOp _ ((rT ri (ri 20 3) 0 1).testBit (c9 / 16)) ((rT ri (ri 20 4) 0 1).testBit (c9 % 16)) = _
            rw [rT_bit hv2.1, rT_bit hv2.2]
            unfold bOp
            rw [if_pos q116, q120, q124]; rfl)) (by decide +kernel) dc_M_isGood_193
  · refine tp_i (y := nI 4) (by rw [hw]) ?_
    refine lv_tableIn (off := 190) (tgt := 194) C.x C.b dc_M_isGood_4 (by decide +kernel) (by decide +kernel) (by decide +kernel) (by decide) ?_
    obtain ⟨a1, a2, a3, a4, a5, a6⟩ := id h1
    have hv2 : c9 ≤ 1024 := hv
    refine lv_iload_n C.x C.b dc_M_isGood_194 rfl (lv_at hl 1 rfl) ?_
    refine lv_sipush (v := (nI 1024)) C.x C.b dc_M_isGood_195 (by decide +kernel) ?_
    refine bc_eq (tgt := 213) C (by omega) (by decide) dc_M_isGood_198 (by decide) (fun q198 => ?_) (fun q198 => ?_)
    · refine lv_iconst (v := (nI 1)) C.x C.b dc_M_isGood_213 (by decide +kernel) ?_
      refine lv_goto (tgt := 218) C.x C.b dc_M_isGood_214 (by decide) ?_
      rw [hQ]
      exact rt_z C () h (rb_t (decide_eq_true (Or.inl q198))) (by decide +kernel) dc_M_isGood_218
    · refine lv_aload_n C.x C.b dc_M_isGood_201 rfl (lv_at hl 0 rfl) ?_
      refine lv_aload_n C.x C.b dc_M_isGood_202 rfl (lv_at hl 0 rfl) ?_
      refine rg_get C h 0 rfl rfl in_M 7 (by decide) fl_M_71 rfl dc_M_isGood_203 ?_
      refine lv_iload_n C.x C.b dc_M_isGood_206 rfl (lv_at hl 1 rfl) ?_
      refine kv_V (As := [.int (nI (ri 20 3)), .int (nI c9)]) (rest := []) C h hl.1 (c_M_someEnd l Γ r ri rl wr (ri 20 3) c9 a1 (by omega) a3 a6) mw_M_someEnd lk_M_83 (q0 := 0) rfl rfl rfl (by decide) (by decide) (Nat.le_of_ble_eq_true rfl) dc_M_isGood_207 (fun v u H locs hp h => ?_)
      obtain rfl := hp
      replace h : sT Γ s (rW Γ r ri rl wr) _ _ := h
      refine W.eq (g2 := F0 m 210 ls [.int (bI (decide (¬ c9 &&& rT ri (ri 20 3) 0 1 = 0)))]) rfl ?_
      refine bb_eq (tgt := 217) C dc_M_isGood_210 (by decide) (fun q210 => ?_) (fun q210 => ?_)
      · refine lv_iconst (v := (nI 0)) C.x C.b dc_M_isGood_217 (by decide +kernel) ?_
        rw [hQ]
        exact rt_z C () h (rb_f (decide_eq_false (fun z => z.elim q198 (of_decide_eq_false q210)))) (by decide +kernel) dc_M_isGood_218
      · refine lv_iconst (v := (nI 1)) C.x C.b dc_M_isGood_213 (by decide +kernel) ?_
        refine lv_goto (tgt := 218) C.x C.b dc_M_isGood_214 (by decide) ?_
        rw [hQ]
        exact rt_z C () h (rb_t (decide_eq_true (Or.inr (of_decide_eq_true q210)))) (by decide +kernel) dc_M_isGood_218
  · refine tp_i (y := nI 5) (by rw [hw]) ?_
    refine lv_tableIn (off := 215) (tgt := 219) C.x C.b dc_M_isGood_4 (by decide +kernel) (by decide +kernel) (by decide +kernel) (by decide) ?_
    obtain ⟨a1, a2, a3, a4, a5, a6⟩ := id h1
    have hv2 : c9 < ri 0 (ri 20 3) := hv
    refine lv_aload_n C.x C.b dc_M_isGood_219 rfl (lv_at hl 0 rfl) ?_
    refine lv_aload_n C.x C.b dc_M_isGood_220 rfl (lv_at hl 0 rfl) ?_
    refine rg_get C h 0 rfl rfl in_M 7 (by decide) fl_M_71 rfl dc_M_isGood_221 ?_
    refine lv_iload_n C.x C.b dc_M_isGood_224 rfl (lv_at hl 1 rfl) ?_
    refine kv_V (As := [.int (nI (ri 20 3)), .int (nI c9)]) (rest := []) C h hl.1 (c_M_isEnd l Γ r ri rl wr (ri 20 3) c9 (by omega) (by omega) (a6 _ hv2)) mw_M_isEnd lk_M_64 (q0 := 0) rfl rfl rfl (by decide) (by decide) (Nat.le_of_ble_eq_true rfl) dc_M_isGood_225 (fun v u H locs hp h => ?_)
    obtain rfl := hp
    replace h : sT Γ s (rW Γ r ri rl wr) _ _ := h
    refine W.eq (g2 := F0 m 228 ls [.int (bI (rEb ri (ri 20 3) c9))]) rfl ?_
    refine bb_ne (tgt := 235) C dc_M_isGood_228 (by decide) (fun q228 => ?_) (fun q228 => ?_)
    · refine lv_iconst (v := (nI 0)) C.x C.b dc_M_isGood_235 (by decide +kernel) ?_
      rw [hQ]
      exact rt_z C () h (rb_f (by show (!(rT ri (ri 20 3) 0 1).testBit c9) = _; rw [rT_bit hv2, q228]; rfl)) (by decide +kernel) dc_M_isGood_236
    · refine lv_iconst (v := (nI 1)) C.x C.b dc_M_isGood_231 (by decide +kernel) ?_
      refine lv_goto (tgt := 236) C.x C.b dc_M_isGood_232 (by decide) ?_
      rw [hQ]
      exact rt_z C () h (rb_t (by show (!(rT ri (ri 20 3) 0 1).testBit c9) = _; rw [rT_bit hv2, q228]; rfl)) (by decide +kernel) dc_M_isGood_236
  · refine tp_i (y := nI 6) (by rw [hw]) ?_
    refine lv_tableIn (off := 233) (tgt := 237) C.x C.b dc_M_isGood_4 (by decide +kernel) (by decide +kernel) (by decide +kernel) (by decide) ?_
    obtain ⟨a1, a2, a3, a4, a5, a6⟩ := id h1
    have hv2 : c9 < 1024 := hv
    refine lv_iload_n C.x C.b dc_M_isGood_237 rfl (lv_at hl 1 rfl) ?_
    refine lv_aload_n C.x C.b dc_M_isGood_238 rfl (lv_at hl 0 rfl) ?_
    refine rg_get C h 0 rfl rfl in_M 3 (by decide) fl_M_13 rfl dc_M_isGood_239 ?_
    refine lv_aload_n C.x C.b dc_M_isGood_242 rfl (lv_at hl 0 rfl) ?_
    refine rg_get C h 0 rfl rfl in_M 7 (by decide) fl_M_71 rfl dc_M_isGood_243 ?_
    refine rg_ild C h 2 rfl (by omega) (by decide) dc_M_isGood_246 ?_
    refine lv_ishr C.x C.b dc_M_isGood_247 ?_
    refine tp_i (nI_shr (a := c9) (n := (ri 1 (ri 20 3))) (by omega) (by omega)) ?_
    refine lv_iconst (v := (nI 1)) C.x C.b dc_M_isGood_248 (by decide +kernel) ?_
    refine lv_iand C.x C.b dc_M_isGood_249 ?_
    refine tp_i (nI_and1 (c9 / 2 ^ (ri 1 (ri 20 3)))) ?_
    refine lv_iconst (v := (nI 1)) C.x C.b dc_M_isGood_250 (by decide +kernel) ?_
    refine bc_ne (tgt := 258) C (by omega) (by omega) dc_M_isGood_251 (by decide) (fun q251 => ?_) (fun q251 => ?_)
    · refine lv_iconst (v := (nI 0)) C.x C.b dc_M_isGood_258 (by decide +kernel) ?_
      rw [hQ]
      exact rt_z C () h (rb_f ((tb_iff0 _ _).mp (by omega))) (by decide +kernel) dc_M_isGood_259
    · refine lv_iconst (v := (nI 1)) C.x C.b dc_M_isGood_254 (by decide +kernel) ?_
      refine lv_goto (tgt := 259) C.x C.b dc_M_isGood_255 (by decide) ?_
      rw [hQ]
      exact rt_z C () h (rb_t ((tb_iff1 _ _).mp q251)) (by decide +kernel) dc_M_isGood_259
  · refine tp_i (y := nI 7) (by rw [hw]) ?_
    refine lv_tableIn (off := 256) (tgt := 260) C.x C.b dc_M_isGood_4 (by decide +kernel) (by decide +kernel) (by decide +kernel) (by decide) ?_
    obtain ⟨a1, a2, a3, a4, a5, a6⟩ := id h1
    have hv2 : c9 < ri 0 (ri 20 3) := hv
    refine lv_aload_n C.x C.b dc_M_isGood_260 rfl (lv_at hl 0 rfl) ?_
    refine lv_aload_n C.x C.b dc_M_isGood_261 rfl (lv_at hl 0 rfl) ?_
    refine rg_get C h 0 rfl rfl in_M 7 (by decide) fl_M_71 rfl dc_M_isGood_262 ?_
    refine lv_iload_n C.x C.b dc_M_isGood_265 rfl (lv_at hl 1 rfl) ?_
    refine kv_V (As := [.int (nI (ri 20 3)), .int (nI c9)]) (rest := []) C h hl.1 (c_M_isEnd l Γ r ri rl wr (ri 20 3) c9 (by omega) (by omega) (a6 _ hv2)) mw_M_isEnd lk_M_64 (q0 := 0) rfl rfl rfl (by decide) (by decide) (Nat.le_of_ble_eq_true rfl) dc_M_isGood_266 (fun v u H locs hp h => ?_)
    obtain rfl := hp
    replace h : sT Γ s (rW Γ r ri rl wr) _ _ := h
    refine W.eq (g2 := F0 m 269 ls [.int (bI (rEb ri (ri 20 3) c9))]) rfl ?_
    rw [hQ]
    exact rt_z C () h (by show _ = some (Value.int (bI ((rT ri (ri 20 3) 0 1).testBit c9))); rw [rT_bit hv2]) (bI_01 _) dc_M_isGood_269
  · refine tp_i (y := nI 8) (by rw [hw]) ?_
    refine lv_tableOut (tgt := 270) C.x C.b dc_M_isGood_4 (by decide +kernel) (by decide) ?_
    obtain ⟨a1, a2, a3, a4, a5, a6⟩ := id h1
    have hv2 : c9 < ri 0 (ri 20 3) := hv
    refine lv_aload_n C.x C.b dc_M_isGood_270 rfl (lv_at hl 0 rfl) ?_
    refine rg_get C h 0 rfl rfl in_M 17 (by decide) fl_M_41 rfl dc_M_isGood_271 ?_
    refine lv_iload_n C.x C.b dc_M_isGood_274 rfl (lv_at hl 1 rfl) ?_
    refine rg_zld C h 11 rfl (by omega) (by decide) dc_M_isGood_275 ?_
    rw [hQ]
    exact rt_z C () h (by rw [nI_b (hlv c9 hv2)]; rfl) (by have e9 := nI_b (hlv c9 hv2); rw [e9]; exact bI_01 _) dc_M_isGood_276

