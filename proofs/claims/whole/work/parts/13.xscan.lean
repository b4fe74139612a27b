abbrev rm_S_scan : Room := { frames := 5, cells := 0, slots := 0, locals := 117 }
set_option maxRecDepth 100000 in
set_option maxHeartbeats 4000000 in
theorem c_S_scan (l : Launch) (Γ : gG) (d : Nat → Nat) (hm : Nat) (mc : va_E) (so : Nat → Nat → Nat) (tl : Nat → Nat → Int64) (tb : Nat → Nat → Nat → Nat) (wr : va_W) (M : mM) (hM : mOK d tb mc M) (hS : SI M so) (hK : KI M so) (h1 : 1 ≤ so 10 0) (hst : so 1 0 = M.1) : cT l Γ my_S_scan bc_S_scan 6 (some .int) rm_S_scan [.ref (d 2)] (xW Γ d hm mc so tl tb wr) (S := Nat × (Nat → Nat → Nat)) (fun v u => v = some (.int (nI u.1)) ∧ u.1 ≤ 2 ∧ SI M u.2 ∧ u.2 10 3 = so 10 3 ∧ 1 ≤ u.2 10 0 ∧ u.2 1 0 = M.1 ∧ (u.1 = 0 → KI M u.2 ∧ SD M u.2 (u.2 10 0) ∧ 1 ≤ u.2 10 2) ∧ (u.1 = 1 → KI M u.2 ∧ u.2 10 1 = so 10 1 + 1) ∧ (u.1 = 2 → MN M)) (fun u => xW Γ d hm mc u.2 tl tb wr) := by
  refine cT.start (by decide) (Nat.le_of_ble_eq_true rfl) (fun p e s m args below meth c ls Q hQ C hmn h hl => ?_)
  replace hl : lv_has ls 6 [(0, .ref (d 2))] := hl
  have hS1 := hS.1
  have hK10 := hK.1
  refine lv_iconst (v := (nI 0)) C.x C.b dc_S_scan_0 (by decide +kernel) ?_
  refine lv_istore_n (lv' := [(1, .int (nI 0)), (0, .ref (d 2))]) C.x C.b dc_S_scan_1 rfl hl (by decide) rfl (fun ls hl => ?_)
  have SI_z := hS
  have sE_z : sE so so := sE.rf
  have hE : ∀ q, q < 0 → so 4 (so 7 q) = so 10 1 := fun q hq => absurd hq (Nat.not_lt_zero _)
  have lp_2 : ∀ (n_2 : Nat) (k : Nat) (z : Nat → Nat → Nat) (H : Heap) (locs : List Loc) (ls : Array Slot), so 10 2 - k < n_2 → (SI M z) → (sE so z) → (k ≤ so 10 2) → (∀ q, q < k → z 4 (z 7 q) = z 10 1) → sT Γ s (xW Γ d hm mc z tl tb wr) H locs → lv_has ls 6 [(1, .int (nI k)), (0, .ref (d 2))] → W p l e rm_S_scan s m args below meth c H locs 0 0 Q (F0 m 2 ls []) := by
    intro n_2
    induction n_2 with
    | zero => intro k z H locs ls hms; exact absurd hms (Nat.not_lt_zero _)
    | succ n_2 ih_2 =>
      intro k z H locs ls hms SI_z sE_z hk hE h hl
      have hz1 := SI_z.1
      have z0 : so 10 0 ≤ z 10 0 := sE_z.2.2.2.2.1
      have z2 : z 10 2 = so 10 2 := sE_z.2.2.1
      have z7 : z 7 = so 7 := sE_z.1 7 (by decide) (by decide)
      refine lv_iload_n C.x C.b dc_S_scan_2 rfl (lv_at hl 0 rfl) ?_
      refine lv_aload_n C.x C.b dc_S_scan_3 rfl (lv_at hl 1 rfl) ?_
      refine rg_get C h 2 rfl rfl in_S 11 (by decide) fl_S_58 rfl dc_S_scan_4 ?_
      refine bc_ge (tgt := 27) C (by omega) (by omega) dc_S_scan_7 (by decide) (fun q7 => ?_) (fun q7 => ?_)
      · refine lv_iconst (v := (nI 0)) C.x C.b dc_S_scan_27 (by decide +kernel) ?_
        refine lv_istore_n (lv' := [(1, .int (nI 0)), (0, .ref (d 2))]) C.x C.b dc_S_scan_28 rfl hl (by decide) rfl (fun ls hl => ?_)
        have KI_z : KI M z := hK.ext sE_z
        have EA_z : EA z := fun q hq => hE q (by omega)
        have SD_z : SD M z 0 := fun i hi => absurd hi (Nat.not_lt_zero _)
        have hF : z 10 1 = so 10 1 ∧ z 10 3 = so 10 3 ∧ so 10 2 ≤ z 10 2 ∧ 1 ≤ z 10 0 ∧ z 1 0 = M.1 := ⟨sE_z.2.1, sE_z.2.2.2.1, by omega, by omega, by rw [(sE_z.2.2.2.2.2 0 h1).1]; exact hst⟩
        have lp_29 : ∀ (n_29 : Nat) (k : Nat) (z : Nat → Nat → Nat) (H : Heap) (locs : List Loc) (ls : Array Slot), 10240 - k < n_29 → (SI M z) → (KI M z) → (EA z) → (SD M z k) → (k ≤ z 10 0) → (z 10 1 = so 10 1 ∧ z 10 3 = so 10 3 ∧ so 10 2 ≤ z 10 2 ∧ 1 ≤ z 10 0 ∧ z 1 0 = M.1) → sT Γ s (xW Γ d hm mc z tl tb wr) H locs → lv_has ls 6 [(1, .int (nI k)), (0, .ref (d 2))] → W p l e rm_S_scan s m args below meth c H locs 0 0 Q (F0 m 29 ls []) := by
          intro n_29
          induction n_29 with
          | zero => intro k z H locs ls hms; exact absurd hms (Nat.not_lt_zero _)
          | succ n_29 ih_29 =>
            intro k z H locs ls hms SI_z KI_z EA_z SD_z hk hF h hl
            have hz1 := SI_z.1
            have hk10 := KI_z.1
            refine lv_iload_n C.x C.b dc_S_scan_29 rfl (lv_at hl 0 rfl) ?_
            refine lv_aload_n C.x C.b dc_S_scan_30 rfl (lv_at hl 1 rfl) ?_
            refine rg_get C h 2 rfl rfl in_S 4 (by decide) fl_S_51 rfl dc_S_scan_31 ?_
            refine bc_ge (tgt := 142) C (by omega) (by omega) dc_S_scan_34 (by decide) (fun q34 => ?_) (fun q34 => ?_)
            · refine lv_iconst (v := (nI 0)) C.x C.b dc_S_scan_142 (by decide +kernel) ?_
              rw [hQ]
              exact rt_i C (0, z) h (⟨rfl, by show 0 ≤ 2; omega, SI_z, hF.2.1, hF.2.2.2.1, hF.2.2.2.2, fun _ => ⟨KI_z, (by show SD M z (z 10 0); rw [show z 10 0 = k by omega]; exact SD_z), (by obtain ⟨-, k9, hk9, -⟩ := SD_z 0 (by omega); show 1 ≤ z 10 2; omega)⟩, fun e => (by cases e), fun e => (by cases e)⟩) dc_S_scan_143
            · refine lv_iload_n C.x C.b dc_S_scan_37 rfl (lv_at hl 0 rfl) ?_
              refine lv_sipush (v := (nI 10240)) C.x C.b dc_S_scan_38 (by decide +kernel) ?_
              refine bc_ge (tgt := 142) C (by omega) (by omega) dc_S_scan_41 (by decide) (fun q41 => ?_) (fun q41 => ?_)
              · refine lv_iconst (v := (nI 0)) C.x C.b dc_S_scan_142 (by decide +kernel) ?_
                rw [hQ]
                exact rt_i C (0, z) h (⟨rfl, by show 0 ≤ 2; omega, SI_z, hF.2.1, hF.2.2.2.1, hF.2.2.2.2, fun _ => ⟨KI_z, (by show SD M z (z 10 0); rw [show z 10 0 = k by omega]; exact SD_z), (by obtain ⟨-, k9, hk9, -⟩ := SD_z 0 (by omega); show 1 ≤ z 10 2; omega)⟩, fun e => (by cases e), fun e => (by cases e)⟩) dc_S_scan_143
              · have jn_72 : ∀ (kd : Nat) (y : Nat → Nat → Nat) (H : Heap) (locs : List Loc) (ls : Array Slot), (SI M y) → (KI M y) → (EA y) → (SD M y k) → (k < y 10 0) → (y 10 1 = so 10 1 ∧ y 10 3 = so 10 3 ∧ so 10 2 ≤ y 10 2 ∧ 1 ≤ y 10 0 ∧ y 1 0 = M.1) → (kd < y 10 2) → (y 4 k = y 10 1) → (AG M y k kd 0) → sT Γ s (xW Γ d hm mc y tl tb wr) H locs → lv_has ls 6 [(2, .int (nI kd)), (1, .int (nI k)), (0, .ref (d 2))] → W p l e rm_S_scan s m args below meth c H locs 0 0 Q (F0 m 72 ls []) := by
                  intro kd y H locs ls SI_y KI_y EA_y SD_y hky hFy hkd hfk hAG h hl
                  refine lv_iconst (v := (nI 0)) C.x C.b dc_S_scan_72 (by decide +kernel) ?_
                  refine lv_istore_n (lv' := [(3, .int (nI 0)), (2, .int (nI kd)), (1, .int (nI k)), (0, .ref (d 2))]) C.x C.b dc_S_scan_73 rfl hl (by decide) rfl (fun ls hl => ?_)
                  have lp_74 : ∀ (n_74 : Nat) (q : Nat) (y : Nat → Nat → Nat) (H : Heap) (locs : List Loc) (ls : Array Slot), 3 - q < n_74 → (q ≤ 3) → (SI M y) → (KI M y) → (EA y) → (SD M y k) → (k < y 10 0) → (y 10 1 = so 10 1 ∧ y 10 3 = so 10 3 ∧ so 10 2 ≤ y 10 2 ∧ 1 ≤ y 10 0 ∧ y 1 0 = M.1) → (kd < y 10 2) → (y 4 k = y 10 1) → (AG M y k kd q) → sT Γ s (xW Γ d hm mc y tl tb wr) H locs → lv_has ls 6 [(3, .int (nI q)), (2, .int (nI kd)), (1, .int (nI k)), (0, .ref (d 2))] → W p l e rm_S_scan s m args below meth c H locs 0 0 Q (F0 m 74 ls []) := by
                    intro n_74
                    induction n_74 with
                    | zero => intro q y H locs ls hms; exact absurd hms (Nat.not_lt_zero _)
                    | succ n_74 ih_74 =>
                      intro q y H locs ls hms hq SI_y KI_y EA_y SD_y hky hFy hkd hfk hAG h hl
                      have hy1 := SI_y.1
                      have hkx := KI_y.2.1 kd hkd
                      have hy10 := KI_y.1
                      refine lv_iload_n C.x C.b dc_S_scan_74 rfl (lv_at hl 0 rfl) ?_
                      refine lv_iconst (v := (nI 3)) C.x C.b dc_S_scan_75 (by decide +kernel) ?_
                      refine bc_ge (tgt := 136) C (by omega) (by omega) dc_S_scan_76 (by decide) (fun q76 => ?_) (fun q76 => ?_)
                      · refine lv_iinc (v := nI (k + 1)) (lv' := [(1, .int (nI (k + 1))), (3, .int (nI q)), (2, .int (nI kd)), (0, .ref (d 2))]) C.x C.b dc_S_scan_136 hl (k := 2) rfl (nI_1 k) (by decide) rfl (fun ls hl => ?_)
                        refine lv_goto (tgt := 29) C.x C.b dc_S_scan_139 (by decide) ?_
                        have SD_n : SD M y (k + 1) := fun i hi => by
                          by_cases e : i = k
                          · subst e; exact ⟨hfk, kd, hkd, by rw [show q = 3 by omega] at hAG; exact hAG⟩
                          · exact SD_y i (by omega)
                        exact ih_29 (k + 1) y _ _ _ (by omega) (by first | exact SI_y | exact SI_z) (by first | exact KI_y | exact KI_z) (by first | exact EA_y | exact EA_z) (by first | exact SD_n | exact SD_z) (by omega) (by first | exact hFy | exact hF) h (lv_sub hl [0, 3] rfl)
                      · refine lv_aload_n C.x C.b dc_S_scan_79 rfl (lv_at hl 3 rfl) ?_
                        refine lv_aload_n C.x C.b dc_S_scan_80 rfl (lv_at hl 3 rfl) ?_
                        refine lv_iload_n C.x C.b dc_S_scan_81 rfl (lv_at hl 2 rfl) ?_
                        refine lv_iload_n C.x C.b dc_S_scan_82 rfl (lv_at hl 0 rfl) ?_
                        refine kv_V (As := [.int (nI k), .int (nI q)]) (rest := [.ref (d 2)]) C h hl.1 (c_S_follow l Γ d hm mc y tl tb wr M k q hM SI_y hky (by omega)) mw_S_follow lk_S_75 (q0 := 2) rfl rfl rfl (by decide) (by decide) (Nat.le_of_ble_eq_true rfl) dc_S_scan_83 (fun v u H locs hp h => ?_)
                        obtain ⟨⟨j_1, so_2⟩, rfl⟩ : ∃ zz9, zz9 = u := ⟨_, rfl⟩
                        obtain ⟨rfl, SI_so_2, sE_so_2, lt_j_1, pl_j_1, me_j_1, st_j_1⟩ := hp
                        dsimp only at SI_so_2 sE_so_2 lt_j_1 pl_j_1 me_j_1 st_j_1
                        replace h : sT Γ s (xW Γ d hm mc so_2 tl tb wr) H locs := h
                        refine W.eq (g2 := F0 m 86 ls [.int (nI j_1), .ref (d 2)]) rfl ?_
                        refine kv_V (As := [.int (nI j_1)]) (rest := []) C h hl.1 (c_S_askTests l Γ d hm mc so_2 tl tb wr M j_1 hM SI_so_2 lt_j_1) mw_S_askTests lk_S_79 (q0 := 2) rfl rfl rfl (by decide) (by decide) (Nat.le_of_ble_eq_true rfl) dc_S_scan_86 (fun v u H locs hp h => ?_)
                        obtain ⟨so_3, rfl⟩ : ∃ zz9, zz9 = u := ⟨_, rfl⟩
                        obtain ⟨rfl, SI_so_3, sE_so_3, fu_so_3⟩ := hp
                        replace h : sT Γ s (xW Γ d hm mc so_3 tl tb wr) H locs := h
                        refine W.eq (g2 := F0 m 89 ls [.int (nI (so_3 3 j_1))]) rfl ?_
                        refine lv_istore (lv' := [(4, .int (nI (so_3 3 j_1))), (3, .int (nI q)), (2, .int (nI kd)), (1, .int (nI k)), (0, .ref (d 2))]) C.x C.b dc_S_scan_89 hl (by decide) rfl (fun ls hl => ?_)
                        refine lv_aload_n C.x C.b dc_S_scan_91 rfl (lv_at hl 4 rfl) ?_
                        refine lv_aload_n C.x C.b dc_S_scan_92 rfl (lv_at hl 4 rfl) ?_
                        refine lv_aload_n C.x C.b dc_S_scan_93 rfl (lv_at hl 4 rfl) ?_
                        refine rg_get C h 2 rfl rfl in_S 10 (by decide) fl_S_42 rfl dc_S_scan_94 ?_
                        refine lv_iload_n C.x C.b dc_S_scan_97 rfl (lv_at hl 2 rfl) ?_
                        refine rg_ild C h 12 rfl (by omega) (by decide) dc_S_scan_98 ?_
                        refine lv_iload_n C.x C.b dc_S_scan_99 rfl (lv_at hl 1 rfl) ?_
                        refine kv_V (As := [.int (nI (so_3 7 kd)), .int (nI q)]) (rest := [.ref (d 2)]) C h hl.1 (c_S_follow l Γ d hm mc so_3 tl tb wr M (so_3 7 kd) q hM SI_so_3 (by rw [(sE_so_2.tr sE_so_3).1 7 (by decide) (by decide)]; have := (sE_so_2.tr sE_so_3).2.2.2.2.1; omega) (by omega)) mw_S_follow lk_S_75 (q0 := 2) rfl rfl rfl (by decide) (by decide) (Nat.le_of_ble_eq_true rfl) dc_S_scan_100 (fun v u H locs hp h => ?_)
                        obtain ⟨⟨j_4, so_5⟩, rfl⟩ : ∃ zz9, zz9 = u := ⟨_, rfl⟩
                        obtain ⟨rfl, SI_so_5, sE_so_5, lt_j_4, pl_j_4, me_j_4, st_j_4⟩ := hp
                        dsimp only at SI_so_5 sE_so_5 lt_j_4 pl_j_4 me_j_4 st_j_4
                        replace h : sT Γ s (xW Γ d hm mc so_5 tl tb wr) H locs := h
                        refine W.eq (g2 := F0 m 103 ls [.int (nI j_4), .ref (d 2)]) rfl ?_
                        refine kv_V (As := [.int (nI j_4)]) (rest := []) C h hl.1 (c_S_askTests l Γ d hm mc so_5 tl tb wr M j_4 hM SI_so_5 lt_j_4) mw_S_askTests lk_S_79 (q0 := 2) rfl rfl rfl (by decide) (by decide) (Nat.le_of_ble_eq_true rfl) dc_S_scan_103 (fun v u H locs hp h => ?_)
                        obtain ⟨so_6, rfl⟩ : ∃ zz9, zz9 = u := ⟨_, rfl⟩
                        obtain ⟨rfl, SI_so_6, sE_so_6, fu_so_6⟩ := hp
                        replace h : sT Γ s (xW Γ d hm mc so_6 tl tb wr) H locs := h
                        refine W.eq (g2 := F0 m 106 ls [.int (nI (so_6 3 j_4))]) rfl ?_
                        refine lv_istore (lv' := [(5, .int (nI (so_6 3 j_4))), (4, .int (nI (so_3 3 j_1))), (3, .int (nI q)), (2, .int (nI kd)), (1, .int (nI k)), (0, .ref (d 2))]) C.x C.b dc_S_scan_106 hl (by decide) rfl (fun ls hl => ?_)
                        have E12 := sE_so_2.tr sE_so_3
                        have E34 := sE_so_5.tr sE_so_6
                        have E04 := E12.tr E34
                        have SI_4 := SI_so_6
                        have KI_4 : KI M so_6 := KI_y.ext E04
                        have EA_4 : EA so_6 := EA_y.ext E04 SI_4 KI_y.2.1
                        have SD_4 : SD M so_6 k := SD_y.ext E04 SI_4 KI_y.2.1 (by omega)
                        have hk4 : k < so_6 10 0 := by have := E04.2.2.2.2.1; omega
                        have hkd4 : kd < so_6 10 2 := by have := E04.2.2.1; omega
                        have e4t : so_6 10 1 = y 10 1 := E04.2.1
                        have hfk4 : so_6 4 k = so_6 10 1 := by have a := (E04.2.2.2.2.2 k hky).2.1; have b := (SI_4.2.2.2.2.2.1 k hk4).1; omega
                        have hF4 : so_6 10 1 = so 10 1 ∧ so_6 10 3 = so 10 3 ∧ so 10 2 ≤ so_6 10 2 ∧ 1 ≤ so_6 10 0 ∧ so_6 1 0 = M.1 := ⟨e4t.trans hFy.1, E04.2.2.2.1.trans hFy.2.1, by have := E04.2.2.1; omega, by omega, by rw [(E04.2.2.2.2.2 0 (by omega)).1]; exact hFy.2.2.2.2⟩
                        have hAG4 : AG M so_6 k kd q := hAG.ext E04 hky hkx hq
                        have e4k : so_6 1 k = y 1 k := (E04.2.2.2.2.2 k hky).1
                        have e47 : so_6 7 = y 7 := E04.1 7 (by decide) (by decide)
                        have e4x : so_6 1 (y 7 kd) = y 1 (y 7 kd) := (E04.2.2.2.2.2 _ hkx).1
                        have e4tw : ∀ n t, tW so_6 n t = tW y n t := tW_eq (E04.1 5 (by decide) (by decide)) (E04.1 6 (by decide) (by decide))
                        have e2tw : ∀ n t, tW so_3 n t = tW y n t := tW_eq (E12.1 5 (by decide) (by decide)) (E12.1 6 (by decide) (by decide))
                        have hme : so_6 2 (k * 3 + q) ≠ 0 := (E34.2.2.2.2.2 k (by have := E12.2.2.2.2.1; omega)).2.2.2 q (by omega) ((sE_so_3.2.2.2.2.2 k (by have := sE_so_2.2.2.2.2.1; omega)).2.2.2 q (by omega) (by rw [me_j_1]; exact Nat.succ_ne_zero _))
                        have l12 : j_1 < so_3 10 0 := by have := sE_so_3.2.2.2.2.1; omega
                        have l34 : j_4 < so_6 10 0 := by have := sE_so_6.2.2.2.2.1; omega
                        have hhere : ∀ t, t < y 10 1 → (so_3 3 j_1).testBit t = macc M (M.2.1 (y 1 k) q) (tW y t t) := fun t ht => by
                          rw [ask_bit SI_so_3 l12 fu_so_3 (by have := E12.2.1; omega), (sE_so_3.2.2.2.2.2 j_1 lt_j_1).1, pl_j_1, e2tw]
                        have hthere : ∀ t, t < y 10 1 → (so_6 3 j_4).testBit t = macc M (M.2.1 (y 1 (y 7 kd)) q) (tW y t t) := fun t ht => by
                          rw [ask_bit SI_4 l34 fu_so_6 (by omega), (sE_so_6.2.2.2.2.2 j_4 lt_j_4).1, pl_j_4, e4tw, E12.1 7 (by decide) (by decide), (E12.2.2.2.2.2 _ hkx).1]
                        have b2 := (SI_so_3.2.2.2.2.2.1 j_1 l12).2.1
                        have b4 := (SI_4.2.2.2.2.2.1 j_4 l34).2.1
                        have et2 : so_3 10 1 = y 10 1 := E12.2.1
                        have t10 := SI_y.2.2.2.2.1.2.1
                        rw [et2] at b2
                        rw [e4t] at b4
                        have p10 : 2 ^ y 10 1 ≤ 2 ^ 10 := Nat.pow_le_pow_right (by decide) t10
                        refine lv_iload C.x C.b dc_S_scan_108 (lv_at hl 1 rfl) ?_
                        refine lv_iload C.x C.b dc_S_scan_110 (lv_at hl 0 rfl) ?_
                        refine bc_eq (tgt := 130) C (by omega) (by omega) dc_S_scan_112 (by decide) (fun q112 => ?_) (fun q112 => ?_)
                        · refine lv_iinc (v := nI (q + 1)) (lv' := [(3, .int (nI (q + 1))), (5, .int (nI (so_6 3 j_4))), (4, .int (nI (so_3 3 j_1))), (2, .int (nI kd)), (1, .int (nI k)), (0, .ref (d 2))]) C.x C.b dc_S_scan_130 hl (k := 2) rfl (nI_1 q) (by decide) rfl (fun ls hl => ?_)
                          refine lv_goto (tgt := 74) C.x C.b dc_S_scan_133 (by decide) ?_
                          have hAG2 : AG M so_6 k kd (q + 1) := by
                            refine ⟨hAG4.1, fun l hl => ?_⟩
                            by_cases e : l = q
                            · subst e
                              refine ⟨hme, fun t ht => ?_⟩
                              rw [e4k, e47, e4x, e4tw, ← hhere t (by omega), ← hthere t (by omega), q112]
                            · exact hAG4.2 l (by omega)
                          exact ih_74 (q + 1) so_6 _ _ _ (by omega) (by first | assumption | omega) (by first | exact SI_4 | exact SI_y) (by first | exact KI_4 | exact KI_y) (by first | exact EA_4 | exact EA_y) (by first | exact SD_4 | exact SD_y) (by first | exact hk4 | exact hky) (by first | exact hF4 | exact hFy) (by first | exact hkd4 | exact hkd) (by first | exact hfk4 | exact hfk) (by first | exact hAG2 | exact hAG) h (lv_sub hl [0, 3, 4, 5] rfl)
                        · have hx : (so_3 3 j_1) ^^^ (so_6 3 j_4) < 2 ^ y 10 1 := Nat.xor_lt_two_pow b2 b4
                          have hx0 : (so_3 3 j_1) ^^^ (so_6 3 j_4) ≠ 0 := fun e => q112 (xor_z e)
                          refine lv_aload_n C.x C.b dc_S_scan_115 rfl (lv_at hl 5 rfl) ?_
                          refine lv_iload_n C.x C.b dc_S_scan_116 rfl (lv_at hl 4 rfl) ?_
                          refine lv_iload_n C.x C.b dc_S_scan_117 rfl (lv_at hl 2 rfl) ?_
                          refine lv_iload C.x C.b dc_S_scan_118 (lv_at hl 1 rfl) ?_
                          refine lv_iload C.x C.b dc_S_scan_120 (lv_at hl 0 rfl) ?_
                          refine lv_ixor C.x C.b dc_S_scan_122 ?_
                          refine tp_i (nI_xor (so_3 3 j_1) (so_6 3 j_4)) ?_
                          refine kv_S (n := 1) (As := [.int (nI ((so_3 3 j_1) ^^^ (so_6 3 j_4)))]) (rest := [.int (nI q), .int (nI k), .ref (d 2)]) C h hl.1 (c_J_ntz l Γ _ ((so_3 3 j_1) ^^^ (so_6 3 j_4)) (by omega) hx0) mc_J_ntz ms_J_ntz mn_J_ntz lk_S_88 (by decide +kernel) rfl (by decide) (by decide) (Nat.le_of_ble_eq_true rfl) dc_S_scan_123 (fun v u H locs hp h => ?_)
                          obtain ⟨tz_7, rfl⟩ : ∃ zz9, zz9 = u := ⟨_, rfl⟩
                          obtain ⟨rfl, lt_tz_7, tb_tz_7⟩ := hp
                          replace h : sT Γ s (xW Γ d hm mc so_6 tl tb wr) H locs := h
                          refine W.eq (g2 := F0 m 126 ls [.int (nI tz_7), .int (nI q), .int (nI k), .ref (d 2)]) rfl ?_
                          refine kv_V (As := [.int (nI k), .int (nI q), .int (nI tz_7)]) (rest := []) C h hl.1 (c_S_split l Γ d hm mc so_6 tl tb wr k q tz_7 KI_4.1 (by rcases KI_4.2.2.2.1 with z | z <;> omega)) mw_S_split lk_S_93 (q0 := 2) rfl rfl rfl (by decide) (by decide) (Nat.le_of_ble_eq_true rfl) dc_S_scan_126 (fun v u H locs hp h => ?_)
                          obtain ⟨⟨sp_8, so_9⟩, rfl⟩ : ∃ zz9, zz9 = u := ⟨_, rfl⟩
                          obtain ⟨rfl, sp_so_9⟩ := hp
                          dsimp only at sp_so_9
                          replace h : sT Γ s (xW Γ d hm mc so_9 tl tb wr) H locs := h
                          refine W.eq (g2 := F0 m 129 ls [.int (nI sp_8)]) rfl ?_
                          have tzl : tz_7 < y 10 1 := by
                            apply Classical.byContradiction
                            intro e
                            rw [Nat.testBit_lt_two_pow (Nat.lt_of_lt_of_le hx (Nat.pow_le_pow_right (by decide) (by omega)))] at tb_tz_7
                            cases tb_tz_7
                          have hdif : macc M (y 1 k) (q :: tW y tz_7 tz_7) ≠ macc M (y 1 (y 7 kd)) (q :: tW y tz_7 tz_7) := by
                            rw [macc_cons, macc_cons, ← hhere _ tzl, ← hthere _ tzl]
                            intro e
                            rw [Nat.testBit_xor, e, Bool.xor_self] at tb_tz_7
                            cases tb_tz_7
                          have hsep : ∀ k9, k9 < so_6 10 2 → k9 ≠ kd → ∃ t, t < so_6 10 1 ∧ macc M (so_6 1 (so_6 7 k9)) (tW so_6 t t) ≠ macc M (so_6 1 k) (tW so_6 t t) := fun k9 hk9 hne => by
                            have : ∃ t, t < so_6 10 1 ∧ macc M (so_6 1 (so_6 7 k9)) (tW so_6 t t) ≠ macc M (so_6 1 (so_6 7 kd)) (tW so_6 t t) := by
                              rcases Nat.lt_or_gt_of_ne hne with a | a
                              · exact KI_4.2.2.2.2 k9 kd a hkd4
                              · obtain ⟨t, t1, t2⟩ := KI_4.2.2.2.2 kd k9 a hk9
                                exact ⟨t, t1, fun e => t2 e.symm⟩
                            obtain ⟨t, t1, t2⟩ := this
                            exact ⟨t, t1, by rw [hAG4.1 t t1]; exact t2⟩
                          have hres : sp_8 ≤ 2 ∧ SI M so_9 ∧ so_9 10 3 = so 10 3 ∧ 1 ≤ so_9 10 0 ∧ so_9 1 0 = M.1 ∧ (sp_8 = 0 → KI M so_9 ∧ SD M so_9 (so_9 10 0) ∧ 1 ≤ so_9 10 2) ∧ (sp_8 = 1 → KI M so_9 ∧ so_9 10 1 = so 10 1 + 1) ∧ (sp_8 = 2 → MN M) := by
                            rcases sp_so_9 with ⟨a, b, c⟩ | ⟨a, b, c⟩
                            · refine ⟨by omega, by rw [b]; exact SI_4, by rw [b]; exact hF4.2.1, by rw [b]; exact hF4.2.2.2.1, by rw [b]; exact hF4.2.2.2.2, fun e => by omega, fun e => by omega, fun _ => ?_⟩
                              refine MN.of SI_4 KI_4 c hk4 (fun k9 hk9 => ?_)
                              by_cases e : k9 = kd
                              · subst e
                                exact ⟨q :: tW y tz_7 tz_7, lts_cons (by omega) (tW_lts SI_y _ _ tzl), by rw [e4k, e47, e4x]; exact fun z => hdif z.symm⟩
                              · obtain ⟨t, t1, t2⟩ := hsep k9 hk9 e
                                exact ⟨_, tW_lts SI_4 t t t1, t2⟩
                            · obtain ⟨f0, f1, f2, f3, f4, f5⟩ := sp_facts c SI_4 (by omega)
                              have hc1 := c.2.2.2.2 1 (by decide) (by decide) (by decide) (by decide)
                              have ht9 : so_6 10 1 < 10 := by rcases KI_4.2.2.2.1 with z | z <;> omega
                              refine ⟨by omega, SI_4.sp c (by omega) (by omega) ht9, f3.trans hF4.2.1, by omega, by rw [hc1]; exact hF4.2.2.2.2, fun e => by omega, fun _ => ⟨?_, by omega⟩, fun e => by omega⟩
                              refine KI_4.sp c SI_4 (by omega) hk4 (by omega) b (fun k9 hk9 => ?_)
                              by_cases e : k9 = kd
                              · subst e
                                right
                                rw [e4tw, e47, e4x, e4k]
                                exact fun z => hdif z.symm
                              · left
                                exact hsep k9 hk9 e
                          rw [hQ]
                          exact rt_i C (sp_8, so_9) h (⟨rfl, hres⟩) dc_S_scan_129
                  exact lp_74 _ 0 y _ _ _ (Nat.lt_succ_self _) (by first | assumption | omega) (by first | exact SI_4 | exact SI_y) (by first | exact KI_4 | exact KI_y) (by first | exact EA_4 | exact EA_y) (by first | exact SD_4 | exact SD_y) (by first | exact hk4 | exact hky) (by first | exact hF4 | exact hFy) (by first | exact hkd4 | exact hkd) (by first | exact hfk4 | exact hfk) (by first | exact hAG2 | exact hAG) h (lv_sub hl [0, 1, 2, 3] rfl)
                refine lv_aload_n C.x C.b dc_S_scan_44 rfl (lv_at hl 1 rfl) ?_
                refine lv_aload_n C.x C.b dc_S_scan_45 rfl (lv_at hl 1 rfl) ?_
                refine lv_iload_n C.x C.b dc_S_scan_46 rfl (lv_at hl 0 rfl) ?_
                refine kv_V (As := [.int (nI k)]) (rest := [.ref (d 2)]) C h hl.1 (c_S_askTests l Γ d hm mc z tl tb wr M k hM SI_z (by omega)) mw_S_askTests lk_S_79 (q0 := 2) rfl rfl rfl (by decide) (by decide) (Nat.le_of_ble_eq_true rfl) dc_S_scan_47 (fun v u H locs hp h => ?_)
                obtain ⟨so_10, rfl⟩ : ∃ zz9, zz9 = u := ⟨_, rfl⟩
                obtain ⟨rfl, SI_so_10, sE_so_10, fu_so_10⟩ := hp
                replace h : sT Γ s (xW Γ d hm mc so_10 tl tb wr) H locs := h
                refine W.eq (g2 := F0 m 50 ls [.int (nI (so_10 3 k)), .ref (d 2)]) rfl ?_
                refine kv_V (As := [.int (nI (so_10 3 k))]) (rest := []) C h hl.1 (c_S_kindWith l Γ d hm mc so_10 tl tb wr (so_10 3 k) (Nat.lt_of_lt_of_le (SI_so_10.2.2.2.2.2.1 k (by have := sE_so_10.2.2.2.2.1; omega)).2.1 (Nat.pow_le_pow_right (by decide) (by have := SI_so_10.2.2.2.2.1.2.1; omega))) (by have := sE_so_10.2.2.1; omega) (fun k9 hk9 => ⟨by have := (KI_z.ext sE_so_10).2.1 k9 hk9; have := SI_so_10.1; omega, Nat.lt_of_lt_of_le (SI_so_10.2.2.2.2.2.1 _ ((KI_z.ext sE_so_10).2.1 k9 hk9)).2.1 (Nat.pow_le_pow_right (by decide) (by have := SI_so_10.2.2.2.2.1.2.1; omega))⟩)) mw_S_kindWith lk_S_82 (q0 := 2) rfl rfl rfl (by decide) (by decide) (Nat.le_of_ble_eq_true rfl) dc_S_scan_50 (fun v u H locs hp h => ?_)
                obtain ⟨kd_11, rfl⟩ : ∃ zz9, zz9 = u := ⟨_, rfl⟩
                obtain ⟨rfl, le_kd_11, ne_kd_11, eq_kd_11⟩ := hp
                replace h : sT Γ s (xW Γ d hm mc so_10 tl tb wr) H locs := h
                refine W.eq (g2 := F0 m 53 ls [.int (nI kd_11)]) rfl ?_
                refine lv_istore_n (lv' := [(2, .int (nI kd_11)), (1, .int (nI k)), (0, .ref (d 2))]) C.x C.b dc_S_scan_53 rfl hl (by decide) rfl (fun ls hl => ?_)
                have SI_1 := SI_so_10
                have KI_1 : KI M so_10 := KI_z.ext sE_so_10
                have EA_1 : EA so_10 := EA_z.ext sE_so_10 SI_1 KI_z.2.1
                have SD_1 : SD M so_10 k := SD_z.ext sE_so_10 SI_1 KI_z.2.1 hk
                have hk1 : k < so_10 10 0 := by have := sE_so_10.2.2.2.2.1; omega
                have hF1 : so_10 10 1 = so 10 1 ∧ so_10 10 3 = so 10 3 ∧ so 10 2 ≤ so_10 10 2 ∧ 1 ≤ so_10 10 0 ∧ so_10 1 0 = M.1 := ⟨sE_so_10.2.1.trans hF.1, sE_so_10.2.2.2.1.trans hF.2.1, by have := sE_so_10.2.2.1; omega, by omega, by rw [(sE_so_10.2.2.2.2.2 0 (by omega)).1]; exact hF.2.2.2.2⟩
                have hx10 := KI_1.1
                refine lv_iload_n C.x C.b dc_S_scan_54 rfl (lv_at hl 0 rfl) ?_
                refine lv_aload_n C.x C.b dc_S_scan_55 rfl (lv_at hl 2 rfl) ?_
                refine rg_get C h 2 rfl rfl in_S 11 (by decide) fl_S_58 rfl dc_S_scan_56 ?_
                refine bc_ne (tgt := 72) C (by omega) (by omega) dc_S_scan_59 (by decide) (fun q59 => ?_) (fun q59 => ?_)
                · have SI_y := SI_1
                  have KI_y := KI_1
                  have EA_y := EA_1
                  have SD_y := SD_1
                  have hFy := hF1
                  have hkd : kd_11 < so_10 10 2 := by omega
                  have hfk := fu_so_10
                  have hAG : AG M so_10 k kd_11 0 := ⟨fun t ht => by rw [← ask_bit SI_1 hk1 fu_so_10 ht, ← ask_bit SI_1 (KI_1.2.1 _ hkd) (EA_1 _ hkd) ht, eq_kd_11 hkd], fun l hl => absurd hl (Nat.not_lt_zero _)⟩
                  exact jn_72 kd_11 so_10 _ _ _ (by first | assumption | omega) (by first | assumption | omega) (by first | assumption | omega) (by first | assumption | omega) (by first | assumption | omega) (by first | assumption | omega) (by first | assumption | omega) (by first | assumption | omega) (by first | assumption | omega) h (lv_sub hl [0, 1, 2] rfl)
                · refine lv_aload_n C.x C.b dc_S_scan_62 rfl (lv_at hl 2 rfl) ?_
                  refine lv_iload_n C.x C.b dc_S_scan_63 rfl (lv_at hl 1 rfl) ?_
                  refine kv_V (As := [.int (nI k)]) (rest := []) C h hl.1 (c_S_addKind l Γ d hm mc so_10 tl tb wr k hx10) mw_S_addKind lk_S_85 (q0 := 2) rfl rfl rfl (by decide) (by decide) (Nat.le_of_ble_eq_true rfl) dc_S_scan_64 (fun v u H locs hp h => ?_)
                  obtain ⟨⟨ok_12, so_13⟩, rfl⟩ : ∃ zz9, zz9 = u := ⟨_, rfl⟩
                  obtain ⟨rfl, ak_so_13⟩ := hp
                  dsimp only at ak_so_13
                  replace h : sT Γ s (xW Γ d hm mc so_13 tl tb wr) H locs := h
                  refine W.eq (g2 := F0 m 67 ls [.int (bI ok_12)]) rfl ?_
                  refine bb_ne (tgt := 72) C dc_S_scan_67 (by decide) (fun q67 => ?_) (fun q67 => ?_)
                  · obtain ⟨-, hlt9, hak⟩ := ak_so_13.resolve_left (fun w => by rw [q67] at w; cases w.1)
                    have ey : so_13 10 0 = so_10 10 0 ∧ so_13 10 1 = so_10 10 1 ∧ so_13 10 2 = so_10 10 2 + 1 ∧ so_13 10 3 = so_10 10 3 := by rw [hak.2.1]; exact ⟨us_n _ _ (by decide), us_n _ _ (by decide), us_s _ _ _, us_n _ _ (by decide)⟩
                    have SI_y := SI_1.ak hak
                    have KI_y := KI_1.ak hak hk1 (fun e0 => by
                      have hk0 : k = 0 := by
                        apply Classical.byContradiction
                        intro hk0
                        obtain ⟨-, k9, hk9, -⟩ := SD_1 0 (by omega)
                        omega
                      exact hk0) (by omega) (fun k9 hk9 => by
                      obtain ⟨t, t1, t2⟩ := bits_ne (SI_1.2.2.2.2.2.1 (so_10 7 k9) (KI_1.2.1 k9 hk9)).2.1 (SI_1.2.2.2.2.2.1 k hk1).2.1 (ne_kd_11 k9 (by omega))
                      rw [ask_bit SI_1 (KI_1.2.1 k9 hk9) (EA_1 k9 hk9) t1, ask_bit SI_1 hk1 fu_so_10 t1] at t2
                      exact ⟨t, t1, t2⟩)
                    have EA_y := EA_1.ak hak fu_so_10
                    have SD_y := SD_1.ak hak
                    have hky : k < so_13 10 0 := by omega
                    have hkd : kd_11 < so_13 10 2 := by omega
                    have hfk : so_13 4 k = so_13 10 1 := by rw [hak.2.2 4 (by decide) (by decide), ey.2.1]; exact fu_so_10
                    have hFy : so_13 10 1 = so 10 1 ∧ so_13 10 3 = so 10 3 ∧ so 10 2 ≤ so_13 10 2 ∧ 1 ≤ so_13 10 0 ∧ so_13 1 0 = M.1 := ⟨ey.2.1.trans hF1.1, ey.2.2.2.trans hF1.2.1, by omega, by omega, by rw [hak.2.2 1 (by decide) (by decide)]; exact hF1.2.2.2.2⟩
                    have hAG : AG M so_13 k kd_11 0 := ⟨fun t _ => by rw [hak.1, show kd_11 = so_10 10 2 by omega, us_s], fun l hl => absurd hl (Nat.not_lt_zero _)⟩
                    exact jn_72 kd_11 so_13 _ _ _ (by first | assumption | omega) (by first | assumption | omega) (by first | assumption | omega) (by first | assumption | omega) (by first | assumption | omega) (by first | assumption | omega) (by first | assumption | omega) (by first | assumption | omega) (by first | assumption | omega) h (lv_sub hl [0, 1, 2] rfl)
                  · refine lv_iconst (v := (nI 2)) C.x C.b dc_S_scan_70 (by decide +kernel) ?_
                    have hk9 := ak_so_13.resolve_right (fun w => by rw [q67] at w; cases w.1)
                    rw [hQ]
                    exact rt_i C (2, so_13) h (⟨rfl, by show 2 ≤ 2; omega, by show SI M so_13; rw [hk9.2.1]; exact SI_1, by show so_13 10 3 = _; rw [hk9.2.1]; exact hF1.2.1, by show 1 ≤ so_13 10 0; rw [hk9.2.1]; exact hF1.2.2.2.1, by show so_13 1 0 = _; rw [hk9.2.1]; exact hF1.2.2.2.2, fun e => (by cases e), fun e => (by cases e), fun _ => MN.of SI_1 KI_1 hk9.2.2 hk1 (fun k9 hk9b => by
                      obtain ⟨t, t1, t2⟩ := bits_ne (SI_1.2.2.2.2.2.1 (so_10 7 k9) (KI_1.2.1 k9 hk9b)).2.1 (SI_1.2.2.2.2.2.1 k hk1).2.1 (ne_kd_11 k9 (by omega))
                      rw [ask_bit SI_1 (KI_1.2.1 k9 hk9b) (EA_1 k9 hk9b) t1, ask_bit SI_1 hk1 fu_so_10 t1] at t2
                      exact ⟨_, tW_lts SI_1 t t t1, t2⟩)⟩) dc_S_scan_71
        exact lp_29 _ 0 z _ _ _ (Nat.lt_succ_self _) (by first | exact SI_y | exact SI_z) (by first | exact KI_y | exact KI_z) (by first | exact EA_y | exact EA_z) (by first | exact SD_n | exact SD_z) (by omega) (by first | exact hFy | exact hF) h (lv_sub hl [0, 1] rfl)
      · refine lv_aload_n C.x C.b dc_S_scan_10 rfl (lv_at hl 1 rfl) ?_
        refine lv_aload_n C.x C.b dc_S_scan_11 rfl (lv_at hl 1 rfl) ?_
        refine rg_get C h 2 rfl rfl in_S 10 (by decide) fl_S_42 rfl dc_S_scan_12 ?_
        refine lv_iload_n C.x C.b dc_S_scan_15 rfl (lv_at hl 0 rfl) ?_
        refine rg_ild C h 12 rfl (by omega) (by decide) dc_S_scan_16 ?_
        refine kv_V (As := [.int (nI (z 7 k))]) (rest := []) C h hl.1 (c_S_askTests l Γ d hm mc z tl tb wr M (z 7 k) hM SI_z (by rw [z7]; have := hK.2.1 k (by omega); omega)) mw_S_askTests lk_S_79 (q0 := 2) rfl rfl rfl (by decide) (by decide) (Nat.le_of_ble_eq_true rfl) dc_S_scan_17 (fun v u H locs hp h => ?_)
        obtain ⟨so_14, rfl⟩ : ∃ zz9, zz9 = u := ⟨_, rfl⟩
        obtain ⟨rfl, SI_so_14, sE_so_14, fu_so_14⟩ := hp
        replace h : sT Γ s (xW Γ d hm mc so_14 tl tb wr) H locs := h
        refine W.eq (g2 := F0 m 20 ls [.int (nI (so_14 3 (z 7 k)))]) rfl ?_
        refine lv_pop C.x C.b dc_S_scan_20 rfl ?_
        refine lv_iinc (v := nI (k + 1)) (lv' := [(1, .int (nI (k + 1))), (0, .ref (d 2))]) C.x C.b dc_S_scan_21 hl (k := 0) rfl (nI_1 k) (by decide) rfl (fun ls hl => ?_)
        refine lv_goto (tgt := 2) C.x C.b dc_S_scan_24 (by decide) ?_
        have SI_n := SI_so_14
        have sE_n := sE_z.tr sE_so_14
        have hE : ∀ q, q < k + 1 → so_14 4 (so_14 7 q) = so_14 10 1 := fun q hq => by
          rw [sE_n.1 7 (by decide) (by decide), ← sE_z.1 7 (by decide) (by decide)]
          by_cases e : q = k
          · subst e; exact fu_so_14
          · have a := hE q (by omega)
            have b := (sE_so_14.2.2.2.2.2 (z 7 q) (by rw [z7]; have := hK.2.1 q (by omega); omega)).2.1
            have c := (SI_so_14.2.2.2.2.2.1 (z 7 q) (by rw [z7]; have := hK.2.1 q (by omega); have := sE_so_14.2.2.2.2.1; omega)).1
            have := sE_so_14.2.1
            omega
        exact ih_2 (k + 1) so_14 _ _ _ (by omega) (by first | exact SI_n | exact SI_z) (by first | exact sE_n | exact sE_z) (by first | assumption | omega) (by first | assumption | omega) h (lv_sub hl [0, 1] rfl)
  exact lp_2 _ 0 so _ _ _ (Nat.lt_succ_self _) (by first | exact SI_n | exact SI_z) (by first | exact sE_n | exact sE_z) (by first | assumption | omega) (by first | assumption | omega) h (lv_sub hl [0, 1] rfl)

