set_option maxRecDepth 100000 in
set_option maxHeartbeats 4000000 in
/-- the law's loop -/
theorem law_loop {p : Program} {l : Launch} {e : Env} {s : State} {m : MethodId} {below : List Frame} {meth : Method} {c : Code} {Q : State → Prop} {Γ : gG} {b L : Nat} {xs : Nat → Int32} (C0 : lwC l Γ p s m meth c b L xs) {d r : Nat → Nat} {o : Nat}
    (hend : ∀ (H : Heap) (locs : List Loc) (ls : Array Slot) (cells slots : Nat), (∀ q ∈ locs, aA Γ q.base) → cells ≤ 601024 → slots ≤ 7293034 → W p l e room_1 s m #[Value.ref b] below meth c H locs cells slots Q (F0 m 1255 ls [])) :
    ∀ (n j : Nat) (hm : Nat) (mc : va_E) (so : Nat → Nat → Nat) (tl : Nat → Nat → Int64) (tb : Nat → Nat → Nat → Nat) (ri : Nat → Nat → Nat) (rl : Nat → Nat → Int64) (g : Nat → Int64) (H : Heap) (locs : List Loc) (ls : Array Slot), L - 5 * j < n → 5 * j ≤ L → JS so tb ri → sT Γ s (jW Γ d hm mc so tl tb r ri rl o g) H locs → lv_has ls 8 [(0, .ref b), (1, .ref (d 0)), (2, .ref (r 0)), (3, .ref o), (4, .int (nI (5 * j)))] → W p l e room_1 s m #[Value.ref b] below meth c H locs (2000 + 20 * j) (1000000 + 200 * j) Q (F0 m 23 ls []) := by
  obtain ⟨C, hX, hN, hS, hL, hst⟩ := id C0
  intro n
  induction n with
  | zero => intro j hm mc so tl tb ri rl g H locs ls h0; exact absurd h0 (Nat.not_lt_zero _)
  | succ n ih =>
    intro j hm mc so tl tb ri rl g H locs ls hms hj hJ h hl
    refine lv_iload C.x C.b dc_L_law_23 (lv_at hl 4 rfl) ?_
    refine lv_aload_n C.x C.b dc_L_law_25 rfl (lv_at hl 0 rfl) ?_
    refine va_slen (A := aA Γ) C.x C.b hS.1 hS.2.1 hS.2.2 h.2.2 dc_L_law_26 ?_
    refine tp_i (show Int32.ofNat L = nI L from rfl) ?_
    refine lv_iconst (v := nI 5) C.x C.b dc_L_law_27 (by decide +kernel) ?_
    refine lv_isub C.x C.b dc_L_law_28 ?_
    by_cases h5 : 5 ≤ L
    · refine tp_i (pk_sub h5) ?_
      refine bc_gt (tgt := 1255) C (by omega) (by omega) dc_L_law_29 (by decide) (fun q29 => ?_) (fun q29 => ?_)
      · exact hend _ _ _ _ _ h.2.2.2.2 (by omega) (by omega)
      · refine lv_aload_n C.x C.b dc_L_law_32 rfl (lv_at hl 0 rfl) ?_
        refine lv_iload C.x C.b dc_L_law_33 (lv_at hl 4 rfl) ?_
        refine rg_sld C h hS (by omega) (by omega) dc_L_law_35 ?_
        refine lv_bipush (v := nI 31) C.x C.b dc_L_law_36 (by decide +kernel) ?_
        refine lv_iand C.x C.b dc_L_law_38 ?_
        obtain ⟨kk, hkk, ekk⟩ : ∃ kk, kk < 32 ∧ xs (5 * j) &&& nI 31 = nI kk := ⟨_, Nat.mod_lt _ (by decide), pk_and (xs (5 * j)) 5 (by decide +kernel)⟩
        refine tp_i ekk ?_
        have hk : ∀ (hm : Nat) (mc : va_E) (so : Nat → Nat → Nat) (tl : Nat → Nat → Int64) (tb : Nat → Nat → Nat → Nat) (ri : Nat → Nat → Nat) (rl : Nat → Nat → Int64) (g : Nat → Int64) (H : Heap) (locs : List Loc) (ls : Array Slot), JS so tb ri → sT Γ s (jW Γ d hm mc so tl tb r ri rl o g) H locs → lv_has ls 8 [(0, .ref b), (1, .ref (d 0)), (2, .ref (r 0)), (3, .ref o), (4, .int (nI (5 * j)))] → W p l e room_1 s m #[Value.ref b] below meth c H locs (2000 + 20 * j + 20) (1000000 + 200 * j + 200) Q (F0 m 1249 ls []) := by
          intro hm mc so tl tb ri rl g H locs ls hJ h hl
          refine lv_iinc (v := nI (5 * (j + 1))) (lv' := [(4, .int (nI (5 * (j + 1)))), (0, .ref b), (1, .ref (d 0)), (2, .ref (r 0)), (3, .ref o)]) C.x C.b dc_L_law_1249 hl (k := 4) rfl (by show nI (5 * j) + nI 5 = _; rw [nI_add, Nat.mul_succ]) (by decide) rfl (fun ls hl => ?_)
          refine lv_goto (tgt := 23) C.x C.b dc_L_law_1252 (by decide) ?_
          refine W.widen (k := 2000 + 20 * (j + 1)) (n := 1000000 + 200 * (j + 1)) (by omega) (by omega) ?_
          exact ih (j + 1) _ _ _ _ _ _ _ _ _ _ _ (by omega) (by omega) hJ h (lv_sub hl [1, 2, 3, 4, 0] rfl)
        have hks : kk = 0 ∨ kk = 1 ∨ kk = 2 ∨ kk = 3 ∨ kk = 4 ∨ kk = 5 ∨ kk = 6 ∨ kk = 7 ∨ kk = 8 ∨ kk = 9 ∨ kk = 10 ∨ kk = 11 ∨ kk = 12 ∨ kk = 13 ∨ kk = 14 ∨ kk = 15 ∨ kk = 16 ∨ kk = 17 ∨ 18 ≤ kk := by omega
        rcases hks with rfl | rfl | rfl | rfl | rfl | rfl | rfl | rfl | rfl | rfl | rfl | rfl | rfl | rfl | rfl | rfl | rfl | rfl | h18
        · refine lv_tableIn (tgt := 124) (off := 85) C.x C.b dc_L_law_39 (by decide +kernel) (by decide +kernel) (by decide +kernel) (by decide) ?_
          exact law_letters C0 (by omega) (by omega) (by omega) hJ h hl hk
        · refine lv_tableIn (tgt := 180) (off := 141) C.x C.b dc_L_law_39 (by decide +kernel) (by decide +kernel) (by decide +kernel) (by decide) ?_
          exact law_empty C0 (by omega) (by omega) (by omega) hJ h hl hk
        · refine lv_tableIn (tgt := 224) (off := 185) C.x C.b dc_L_law_39 (by decide +kernel) (by decide +kernel) (by decide +kernel) (by decide) ?_
          exact law_then C0 (by omega) (by omega) (by omega) hJ h hl hk
        · refine lv_tableIn (tgt := 292) (off := 253) C.x C.b dc_L_law_39 (by decide +kernel) (by decide +kernel) (by decide +kernel) (by decide) ?_
          exact law_both C0 (by omega) (by omega) (by omega) hJ h hl hk
        · refine lv_tableIn (tgt := 372) (off := 333) C.x C.b dc_L_law_39 (by decide +kernel) (by decide +kernel) (by decide +kernel) (by decide) ?_
          exact law_many C0 (by omega) (by omega) (by omega) hJ h hl hk
        · refine lv_tableIn (tgt := 428) (off := 389) C.x C.b dc_L_law_39 (by decide +kernel) (by decide +kernel) (by decide +kernel) (by decide) ?_
          exact law_contrary C0 (by omega) (by omega) (by omega) hJ h hl hk
        · refine lv_tableIn (tgt := 484) (off := 445) C.x C.b dc_L_law_39 (by decide +kernel) (by decide +kernel) (by decide +kernel) (by decide) ?_
          exact law_back C0 (by omega) (by omega) (by omega) hJ h hl hk
        · refine lv_tableIn (tgt := 540) (off := 501) C.x C.b dc_L_law_39 (by decide +kernel) (by decide +kernel) (by decide +kernel) (by decide) ?_
          exact law_rest C0 (by omega) (by omega) (by omega) hJ h hl hk
        · refine lv_tableIn (tgt := 608) (off := 569) C.x C.b dc_L_law_39 (by decide +kernel) (by decide +kernel) (by decide +kernel) (by decide) ?_
          exact law_beginnings C0 (by omega) (by omega) (by omega) hJ h hl hk
        · refine lv_tableIn (tgt := 664) (off := 625) C.x C.b dc_L_law_39 (by decide +kernel) (by decide +kernel) (by decide +kernel) (by decide) ?_
          exact law_has C0 (by omega) (by omega) (by omega) hJ h hl hk
        · refine lv_tableIn (tgt := 783) (off := 744) C.x C.b dc_L_law_39 (by decide +kernel) (by decide +kernel) (by decide +kernel) (by decide) ?_
          exact law_same C0 (by omega) (by omega) (by omega) hJ h hl hk
        · refine lv_tableIn (tgt := 858) (off := 819) C.x C.b dc_L_law_39 (by decide +kernel) (by decide +kernel) (by decide +kernel) (by decide) ?_
          exact law_inside C0 (by omega) (by omega) (by omega) hJ h hl hk
        · refine lv_tableIn (tgt := 933) (off := 894) C.x C.b dc_L_law_39 (by decide +kernel) (by decide +kernel) (by decide +kernel) (by decide) ?_
          exact law_rests C0 (by omega) (by omega) (by omega) hJ h hl hk
        · refine lv_tableIn (tgt := 989) (off := 950) C.x C.b dc_L_law_39 (by decide +kernel) (by decide +kernel) (by decide +kernel) (by decide) ?_
          exact law_words C0 (by omega) (by omega) (by omega) hJ h hl hk
        · refine lv_tableIn (tgt := 1056) (off := 1017) C.x C.b dc_L_law_39 (by decide +kernel) (by decide +kernel) (by decide +kernel) (by decide) ?_
          exact law_shortest C0 (by omega) (by omega) (by omega) hJ h hl hk
        · refine lv_tableIn (tgt := 1112) (off := 1073) C.x C.b dc_L_law_39 (by decide +kernel) (by decide +kernel) (by decide +kernel) (by decide) ?_
          exact law_letter C0 (by omega) (by omega) (by omega) hJ h hl hk
        · refine lv_tableIn (tgt := 1180) (off := 1141) C.x C.b dc_L_law_39 (by decide +kernel) (by decide +kernel) (by decide +kernel) (by decide) ?_
          exact law_size C0 (by omega) (by omega) (by omega) hJ h hl hk
        · refine lv_tableIn (tgt := 1236) (off := 1197) C.x C.b dc_L_law_39 (by decide +kernel) (by decide +kernel) (by decide +kernel) (by decide) ?_
          exact law_count C0 (by omega) (by omega) (by omega) hJ h hl hk
        · refine lv_tableOut (tgt := 1249) C.x C.b dc_L_law_39 (Or.inr (by rw [nI_toInt (by omega)]; omega)) (by decide) ?_
          refine W.widen (k := 2000 + 20 * j + 20) (n := 1000000 + 200 * j + 200) (by omega) (by omega) ?_
          exact hk _ _ _ _ _ _ _ _ _ _ _ hJ h hl
    · refine lv_icmp_gt (tgt := 1255) C.x C.b dc_L_law_29 (by decide) (fun q29 => ?_) (fun q29 => ?_)
      · exact hend _ _ _ _ _ h.2.2.2.2 (by omega) (by omega)
      · exfalso
        apply q29
        rw [Int32.lt_iff_toInt_lt, pk_sub_toInt (by omega) (by omega), nI_toInt (by omega)]
        omega
