set_option maxRecDepth 100000 in theorem gw_acn : Cond.native arraycopyName ∈ gw := gw_t 584 rfl rfl
set_option maxRecDepth 100000 in theorem gw_acs : Cond.static arraycopyName ∈ gw := gw_t 583 rfl rfl
set_option maxRecDepth 100000 in theorem gw_aci : Cond.initialized "java/lang/System" ∈ gw := gw_t 19 rfl rfl
/-! numbers of words -/
abbrev lI (n : Nat) : Int64 := Int64.ofNat n
theorem lI_add (a b : Nat) : lI a + lI b = lI (a + b) := (Int64.ofNat_add a b).symm
def sum3 (f : Nat → Nat) : Nat → Nat
  | 0 => 0
  | q + 1 => sum3 f q + f q
/-- how many words of k letters the rest r has -/
def cnt (e : Nat) (nx : Nat → Nat) : Nat → Nat → Nat
  | 0, r => (e.testBit r).toNat
  | k + 1, r => sum3 (fun l => cnt e nx k (nx (r * 3 + l))) 3
def YL (t : Nat → Nat → Nat) (n : Nat) (z : Nat → Nat → Int64) (k : Nat) : Prop := (∀ r, r < t 0 0 → z 0 r = lI (cnt (t 0 1) (t 1) n r)) ∧ ∀ r, r < k → z 1 r = lI (cnt (t 0 1) (t 1) (n + 1) r)
theorem YL.st0 {t : Nat → Nat → Nat} {n k : Nat} {z z2 : Nat → Nat → Int64} (h : YL t n z k) (e : z2 = us z 1 (us (z 1) k 0)) : YL t n z2 k ∧ z2 1 k = lI (sum3 (fun l => cnt (t 0 1) (t 1) n (t 1 (k * 3 + l))) 0) := by
  subst e
  refine ⟨⟨fun r hr => by rw [us_n _ _ (by decide)]; exact h.1 r hr, fun r hr => by rw [us_s, us_n _ _ (by omega)]; exact h.2 r hr⟩, by rw [us_s, us_s]; rfl⟩
theorem YL.st1 {t : Nat → Nat → Nat} {n k q : Nat} {z z2 : Nat → Nat → Int64} (h : YL t n z k) (hk : z 1 k = lI (sum3 (fun l => cnt (t 0 1) (t 1) n (t 1 (k * 3 + l))) q)) (ht : t 1 (k * 3 + q) < t 0 0) (e : z2 = us z 1 (us (z 1) k (z 1 k + z 0 (t 1 (k * 3 + q))))) : YL t n z2 k ∧ z2 1 k = lI (sum3 (fun l => cnt (t 0 1) (t 1) n (t 1 (k * 3 + l))) (q + 1)) := by
  subst e
  refine ⟨⟨fun r hr => by rw [us_n _ _ (by decide)]; exact h.1 r hr, fun r hr => by rw [us_s, us_n _ _ (by omega)]; exact h.2 r hr⟩, ?_⟩
  rw [us_s, us_s, hk, h.1 _ ht, lI_add]
  rfl
theorem YL.nx {t : Nat → Nat → Nat} {n k : Nat} {z : Nat → Nat → Int64} (h : YL t n z k) (hk : z 1 k = lI (sum3 (fun l => cnt (t 0 1) (t 1) n (t 1 (k * 3 + l))) 3)) : YL t n z (k + 1) := by
  refine ⟨h.1, fun r hr => ?_⟩
  by_cases e : r = k
  · subst e; exact hk
  · exact h.2 r (by omega)
section CPY
variable {p : Program} {l : Launch} {e : Env} {R : Room} {s : State} {m : MethodId} {args : Array Value} {below : List Frame} {meth : Method} {c : Code} {H : Heap} {locs : List Loc} {cells slots : Nat} {Q : State → Prop}
variable {Γ : gG} {cc : ByteArray} {ret : Option FieldType} {own : String} {nL pc : Nat} {ls : Array Slot} {rest : List Value} {ws : va_W}
theorem rg_copyl {a0 a n0 n1 n idx : Nat} {f g : Nat → Int64} (C : cX Γ p s m args meth c cc ret own nL) (h : sT Γ s ws H locs) (hsz : ls.size = nL) (q0 q1 : Nat) (ha0 : ws[q0]? = some (a0, .inl (Γ.2.1 1, n0, .inr (.inl f)))) (ha1 : ws[q1]? = some (a, .inl (Γ.2.1 1, n1, .inr (.inl g)))) (hn0 : n ≤ n0) (hn1 : n ≤ n1) (hn : n < 2 ^ 31) (hk : Cond.methodLink own idx arraycopyName ∈ gw) (hR : 1 ≤ R.frames) (hRl : (rest.map fun v => v.category).sum + (nativeFrameWords "java/lang/System" "arraycopy" 5 + 11) ≤ R.locals) (hdg : decode cc pc = .ok (.invokestatic idx, 3))
    (kk : ∀ (H1 : Heap) (locs1 : List Loc), sT Γ s (ws.set q1 (a, .inl (Γ.2.1 1, n1, .inr (.inl (va_cpy f g 0 0 n))))) H1 locs1 → W p l e R s m args below meth c H1 locs1 cells slots Q (F0 m (pc + 3) ls rest)) : W p l e R s m args below meth c H locs cells slots Q (F0 m pc ls (.int (nI n) :: .int (nI 0) :: .ref a :: .int (nI 0) :: .ref a0 :: rest)) := by
  have e0 : (nI 0).toNatClampNeg = 0 := nI_clamp (by decide)
  have en : (nI n).toNatClampNeg = n := nI_clamp hn
  refine va_copyl C.x C.b (by rw [C.n]; exact hsz.symm) C.o (C.t _ hk) (C.t _ gw_acn) (C.t _ gw_acs) (C.t _ gw_aci) C.k h.1 h.2.1 h.2.2 q0 q1 1 1 ha0 ha1 rfl rfl rfl (nI_pos (by decide)) (nI_pos (by decide)) (nI_pos hn) (by rw [e0, en]; omega) (by rw [e0, en]; omega) (fun _ _ => rfl) hR hRl hdg (fun H1 locs1 a1 a2 a3 => ?_)
  rw [e0, en] at a1 a2
  exact kk H1 locs1 ⟨a1, a2, a3⟩
end CPY
/-! the machines of the calls that make sets -/
def mqO (b f : Nat) : mM := (f, mmO b, (fun pl => decide (pl = 1)), fun pl => pl < 3)
def mqR (t : Nat → Nat → Nat) (f : Nat) (en : Int32) : mM := (f, mmR t, maR en, fun pl => pl < t 0 0)
def mqB (how : Nat) (t u : Nat → Nat → Nat) : mM := (0, mmB t u, maB how t u, fun pl => pl / 10 < t 0 0 ∧ pl % 10 < u 0 0)
def mqH (t u : Nat → Nat → Nat) : mM := (mwB t 0 0, mmH t u, maH u, fun pl => pl / 1024 < t 0 0)
def mqN (t : Nat → Nat → Nat) : mM := (1024, mmN t, maN t, fun pl => pl ≤ 1024)
def mqK (t : Nat → Nat → Nat) : mM := (t 0 1, mmK t, maK, fun pl => pl < 1024)
section MQ
variable {d : Nat → Nat} {tb : Nat → Nat → Nat → Nat} {so : Nat → Nat → Nat}
theorem mok_O {b f : Nat} (hb : b < 8) (hf : f < 3) : mOK d tb (.inr (4, [.int (nI b), .int (nI f)])) (mqO b f) := Or.inl ⟨b, f, rfl, hb, hf, rfl⟩
theorem mok_R {i f : Nat} {en : Int32} (hi : i < 80) (ht : tOK (tb i)) (hf : f < tb i 0 0) : mOK d tb (.inr (5, [.ref (d (20 + 3 * i)), .int (nI f), .int en])) (mqR (tb i) f en) := Or.inr (Or.inl ⟨i, f, en, rfl, hi, ht, hf, rfl⟩)
theorem mok_B {how i j : Nat} (hw : how < 4) (hi : i < 80) (hj : j < 80) (ht : tOK (tb i)) (hu : tOK (tb j)) : mOK d tb (.inr (6, [.int (nI how), .ref (d (20 + 3 * i)), .ref (d (20 + 3 * j))])) (mqB how (tb i) (tb j)) := Or.inr (Or.inr (Or.inl ⟨how, i, j, rfl, hw, hi, hj, ht, hu, rfl⟩))
theorem mok_H {i j : Nat} (hi : i < 80) (hj : j < 80) (ht : tOK (tb i)) (hu : tOK (tb j)) : mOK d tb (.inr (7, [.ref (d (20 + 3 * i)), .ref (d (20 + 3 * j))])) (mqH (tb i) (tb j)) := Or.inr (Or.inr (Or.inr (Or.inl ⟨i, j, rfl, hi, hj, ht, hu, rfl⟩)))
theorem mok_N {i : Nat} (hi : i < 80) (ht : tOK (tb i)) : mOK d tb (.inr (8, [.ref (d (20 + 3 * i))])) (mqN (tb i)) := Or.inr (Or.inr (Or.inr (Or.inr (Or.inl ⟨i, rfl, hi, ht, rfl⟩))))
theorem mok_K {i : Nat} (hi : i < 80) (ht : tOK (tb i)) : mOK d tb (.inr (9, [.ref (d (20 + 3 * i))])) (mqK (tb i)) := Or.inr (Or.inr (Or.inr (Or.inr (Or.inr ⟨i, rfl, hi, ht, rfl⟩))))
/-- a machine over kept tables stays one while the next table is written -/
theorem mox {mc : va_E} {i j n : Nat} {F : (Nat → Nat → Nat) → (Nat → Nat → Nat) → mM} {t : Nat → Nat → Nat → Nat} (hi : i < n) (hj : j < n) (h : ∀ a, a ≠ n → t a = tb a) (k : ∀ x : Nat → Nat → Nat → Nat, x i = tb i → x j = tb j → mOK d x mc (F (x i) (x j))) : mOK d t mc (F (tb i) (tb j)) := by
  have a := h i (by omega)
  have b := h j (by omega)
  have := k t a b
  rw [a, b] at this
  exact this
end MQ
theorem CS.tok {so : Nat → Nat → Nat} {tb : Nat → Nat → Nat → Nat} (h : CS so tb) {i : Nat} (hi : i < so 10 3) : i < 80 ∧ tOK (tb i) ∧ tG (tb i) := ⟨Nat.lt_of_lt_of_le hi h.2.1, (h.2.2 i hi).1, h.2.2 i hi⟩

abbrev rm_Y_begin : Room := { frames := 1, cells := 0, slots := 0, locals := 21 }
set_option maxRecDepth 100000 in
set_option maxHeartbeats 4000000 in
theorem c_Y_begin (l : Launch) (Γ : gG) (d : Nat → Nat) (hm : Nat) (mc : va_E) (so : Nat → Nat → Nat) (tl : Nat → Nat → Int64) (tb : Nat → Nat → Nat → Nat) (wr : va_W) (i : Nat) (hi : i < 80) (ht : tOK (tb i)) : cT l Γ my_Y_begin bc_Y_begin 3 none rm_Y_begin [.ref (d 3), .ref (d (20 + 3 * i))] (xW Γ d hm mc so tl tb wr) (S := Nat → Nat → Int64) (fun v u => v = none ∧ ∀ r, r < tb i 0 0 → u 0 r = lI (cnt (tb i 0 1) (tb i 1) 0 r)) (fun u => xW Γ d hm mc so u tb wr) := by
  refine cT.start (by decide) (Nat.le_of_ble_eq_true rfl) (fun p e s m args below meth c ls Q hQ C hmn h hl => ?_)
  replace hl : lv_has ls 3 [(0, .ref (d 3)), (1, .ref (d (20 + 3 * i)))] := hl
  have ht2 := ht.2.1
  have ht3 := ht.2.2.1
  refine lv_iconst (v := (nI 0)) C.x C.b dc_Y_begin_0 (by decide +kernel) ?_
  refine lv_istore_n (lv' := [(2, .int (nI 0)), (0, .ref (d 3)), (1, .ref (d (20 + 3 * i)))]) C.x C.b dc_Y_begin_1 rfl hl (by decide) rfl (fun ls hl => ?_)
  have hz : ∀ r, r < 0 → tl 0 r = lI (cnt (tb i 0 1) (tb i 1) 0 r) := fun r hr => absurd hr (Nat.not_lt_zero _)
  have lp_2 : ∀ (n_2 : Nat) (k : Nat) (z : Nat → Nat → Int64) (H : Heap) (locs : List Loc) (ls : Array Slot), tb i 0 0 - k < n_2 → (k ≤ tb i 0 0) → (∀ r, r < k → z 0 r = lI (cnt (tb i 0 1) (tb i 1) 0 r)) → sT Γ s (xW Γ d hm mc so z tb wr) H locs → lv_has ls 3 [(2, .int (nI k)), (0, .ref (d 3)), (1, .ref (d (20 + 3 * i)))] → W p l e rm_Y_begin s m args below meth c H locs 0 0 Q (F0 m 2 ls []) := by
    intro n_2
    induction n_2 with
    | zero => intro k z H locs ls hms; exact absurd hms (Nat.not_lt_zero _)
    | succ n_2 ih_2 =>
      intro k z H locs ls hms hk hz h hl
      refine lv_iload_n C.x C.b dc_Y_begin_2 rfl (lv_at hl 0 rfl) ?_
      refine lv_aload_n C.x C.b dc_Y_begin_3 rfl (lv_at hl 2 rfl) ?_
      refine rg_getN C h (17 + i) (lk_T (hi)) rfl in_T 0 (by decide) fl_Y_18 rfl dc_Y_begin_4 ?_
      refine bc_ge (tgt := 35) C (by omega) (by omega) dc_Y_begin_7 (by decide) (fun q7 => ?_) (fun q7 => ?_)
      · rw [hQ]
        exact rt_v C z h (⟨rfl, fun r hr => hz r (by omega)⟩) dc_Y_begin_35
      · refine lv_aload_n C.x C.b dc_Y_begin_10 rfl (lv_at hl 1 rfl) ?_
        refine rg_get C h 3 rfl rfl in_Y 0 (by decide) fl_Y_9 rfl dc_Y_begin_11 ?_
        refine lv_iload_n C.x C.b dc_Y_begin_14 rfl (lv_at hl 0 rfl) ?_
        refine lv_aload_n C.x C.b dc_Y_begin_15 rfl (lv_at hl 2 rfl) ?_
        refine lv_iload_n C.x C.b dc_Y_begin_16 rfl (lv_at hl 0 rfl) ?_
        refine kv_V (As := [.int (nI k)]) (rest := [.int (nI k), .ref (d 15)]) C h hl.1 (c_T_endsAt l Γ d hm mc so z tb wr i k (hi) (by omega) (by omega)) mw_T_endsAt lk_Y_24 (q0 := (17 + i)) (lk_T (hi)) rfl rfl (by decide) (by decide) (Nat.le_of_ble_eq_true rfl) dc_Y_begin_17 (fun v u H locs hp h => ?_)
        obtain rfl := hp
        replace h : sT Γ s (xW Γ d hm mc so z tb wr) H locs := h
        refine W.eq (g2 := F0 m 20 ls [.int (bI ((tb i 0 1).testBit k)), .int (nI k), .ref (d 15)]) rfl ?_
        refine bb_eq (tgt := 27) C dc_Y_begin_20 (by decide) (fun q20 => ?_) (fun q20 => ?_)
        · refine lv_lconst (v := 0) C.x C.b dc_Y_begin_27 (by decide +kernel) ?_
          refine rg_lst C h 15 rfl (by omega) (by decide) dc_Y_begin_28 (fun H locs h => ?_)
          obtain ⟨tl_1, etl_1⟩ : ∃ zz9, zz9 = us z 0 (us (z 0) k 0) := ⟨_, rfl⟩
          replace h : sT Γ s (xW Γ d hm mc so tl_1 tb wr) H locs := by rw [etl_1]; exact h
          refine lv_iinc (v := nI (k + 1)) (lv' := [(2, .int (nI (k + 1))), (0, .ref (d 3)), (1, .ref (d (20 + 3 * i)))]) C.x C.b dc_Y_begin_29 hl (k := 0) rfl (nI_1 k) (by decide) rfl (fun ls hl => ?_)
          refine lv_goto (tgt := 2) C.x C.b dc_Y_begin_32 (by decide) ?_
          have hz : ∀ r, r < k + 1 → tl_1 0 r = lI (cnt (tb i 0 1) (tb i 1) 0 r) := fun r hr => by
            rw [etl_1, us_s]
            by_cases e9 : r = k
            · subst e9; rw [us_s]; show _ = lI ((tb i 0 1).testBit r).toNat; rw [q20]; rfl
            · rw [us_n _ _ e9]; exact hz r (by omega)
          exact ih_2 (k + 1) tl_1 _ _ _ (by omega) (by first | assumption | omega) (by first | assumption | omega) h (lv_sub hl [0, 1, 2] rfl)
        · refine lv_lconst (v := 1) C.x C.b dc_Y_begin_23 (by decide +kernel) ?_
          refine lv_goto (tgt := 28) C.x C.b dc_Y_begin_24 (by decide) ?_
          refine rg_lst C h 15 rfl (by omega) (by decide) dc_Y_begin_28 (fun H locs h => ?_)
          obtain ⟨tl_2, etl_2⟩ : ∃ zz9, zz9 = us z 0 (us (z 0) k 1) := ⟨_, rfl⟩
          replace h : sT Γ s (xW Γ d hm mc so tl_2 tb wr) H locs := by rw [etl_2]; exact h
          refine lv_iinc (v := nI (k + 1)) (lv' := [(2, .int (nI (k + 1))), (0, .ref (d 3)), (1, .ref (d (20 + 3 * i)))]) C.x C.b dc_Y_begin_29 hl (k := 0) rfl (nI_1 k) (by decide) rfl (fun ls hl => ?_)
          refine lv_goto (tgt := 2) C.x C.b dc_Y_begin_32 (by decide) ?_
          have hz : ∀ r, r < k + 1 → tl_2 0 r = lI (cnt (tb i 0 1) (tb i 1) 0 r) := fun r hr => by
            rw [etl_2, us_s]
            by_cases e9 : r = k
            · subst e9; rw [us_s]; show _ = lI ((tb i 0 1).testBit r).toNat; rw [q20]; rfl
            · rw [us_n _ _ e9]; exact hz r (by omega)
          exact ih_2 (k + 1) tl_2 _ _ _ (by omega) (by first | assumption | omega) (by first | assumption | omega) h (lv_sub hl [0, 1, 2] rfl)
  exact lp_2 _ 0 tl _ _ _ (Nat.lt_succ_self _) (by first | assumption | omega) (by first | assumption | omega) h (lv_sub hl [0, 1, 2] rfl)

abbrev rm_Y_lengthen : Room := { frames := 1, cells := 0, slots := 0, locals := 30 }
set_option maxRecDepth 100000 in
set_option maxHeartbeats 4000000 in
theorem c_Y_lengthen (l : Launch) (Γ : gG) (d : Nat → Nat) (hm : Nat) (mc : va_E) (so : Nat → Nat → Nat) (tl : Nat → Nat → Int64) (tb : Nat → Nat → Nat → Nat) (wr : va_W) (i n : Nat) (hi : i < 80) (ht : tOK (tb i)) (hT : ∀ r, r < tb i 0 0 → tl 0 r = lI (cnt (tb i 0 1) (tb i 1) n r)) : cT l Γ my_Y_lengthen bc_Y_lengthen 4 none rm_Y_lengthen [.ref (d 3), .ref (d (20 + 3 * i))] (xW Γ d hm mc so tl tb wr) (S := Nat → Nat → Int64) (fun v u => v = none ∧ ∀ r, r < tb i 0 0 → u 0 r = lI (cnt (tb i 0 1) (tb i 1) (n + 1) r)) (fun u => xW Γ d hm mc so u tb wr) := by
  refine cT.start (by decide) (Nat.le_of_ble_eq_true rfl) (fun p e s m args below meth c ls Q hQ C hmn h hl => ?_)
  replace hl : lv_has ls 4 [(0, .ref (d 3)), (1, .ref (d (20 + 3 * i)))] := hl
  have ht2 := ht.2.1
  have ht3 := ht.2.2.1
  refine lv_iconst (v := (nI 0)) C.x C.b dc_Y_lengthen_0 (by decide +kernel) ?_
  refine lv_istore_n (lv' := [(2, .int (nI 0)), (0, .ref (d 3)), (1, .ref (d (20 + 3 * i)))]) C.x C.b dc_Y_lengthen_1 rfl hl (by decide) rfl (fun ls hl => ?_)
  have hY : YL (tb i) n tl 0 := ⟨hT, fun r hr => absurd hr (Nat.not_lt_zero _)⟩
  have lp_2 : ∀ (n_2 : Nat) (k : Nat) (z : Nat → Nat → Int64) (H : Heap) (locs : List Loc) (ls : Array Slot), tb i 0 0 - k < n_2 → (k ≤ tb i 0 0) → (YL (tb i) n z k) → sT Γ s (xW Γ d hm mc so z tb wr) H locs → lv_has ls 4 [(2, .int (nI k)), (0, .ref (d 3)), (1, .ref (d (20 + 3 * i)))] → W p l e rm_Y_lengthen s m args below meth c H locs 0 0 Q (F0 m 2 ls []) := by
    intro n_2
    induction n_2 with
    | zero => intro k z H locs ls hms; exact absurd hms (Nat.not_lt_zero _)
    | succ n_2 ih_2 =>
      intro k z H locs ls hms hk hY h hl
      refine lv_iload_n C.x C.b dc_Y_lengthen_2 rfl (lv_at hl 0 rfl) ?_
      refine lv_aload_n C.x C.b dc_Y_lengthen_3 rfl (lv_at hl 2 rfl) ?_
      refine rg_getN C h (17 + i) (lk_T (hi)) rfl in_T 0 (by decide) fl_Y_18 rfl dc_Y_lengthen_4 ?_
      refine bc_ge (tgt := 56) C (by omega) (by omega) dc_Y_lengthen_7 (by decide) (fun q7 => ?_) (fun q7 => ?_)
      · refine lv_aload_n C.x C.b dc_Y_lengthen_56 rfl (lv_at hl 1 rfl) ?_
        refine rg_get C h 3 rfl rfl in_Y 1 (by decide) fl_Y_15 rfl dc_Y_lengthen_57 ?_
        refine lv_iconst (v := (nI 0)) C.x C.b dc_Y_lengthen_60 (by decide +kernel) ?_
        refine lv_aload_n C.x C.b dc_Y_lengthen_61 rfl (lv_at hl 1 rfl) ?_
        refine rg_get C h 3 rfl rfl in_Y 0 (by decide) fl_Y_9 rfl dc_Y_lengthen_62 ?_
        refine lv_iconst (v := (nI 0)) C.x C.b dc_Y_lengthen_65 (by decide +kernel) ?_
        refine lv_aload_n C.x C.b dc_Y_lengthen_66 rfl (lv_at hl 2 rfl) ?_
        refine rg_getN C h (17 + i) (lk_T (hi)) rfl in_T 0 (by decide) fl_Y_18 rfl dc_Y_lengthen_67 ?_
        refine rg_copyl C h hl.1 16 15 rfl rfl (by omega) (by omega) (by omega) lk_Y_32 (by decide) (by decide +kernel) dc_Y_lengthen_70 (fun H locs h => ?_)
        obtain ⟨tl_1, etl_1⟩ : ∃ zz9, zz9 = us z 0 (va_cpy (z 1) (z 0) 0 0 (tb i 0 0)) := ⟨_, rfl⟩
        replace h : sT Γ s (xW Γ d hm mc so tl_1 tb wr) H locs := by rw [etl_1]; exact h
        rw [hQ]
        exact rt_v C tl_1 h (⟨rfl, fun r hr => by rw [etl_1, us_s]; show (if 0 ≤ r ∧ r < 0 + tb i 0 0 then z 1 (0 + (r - 0)) else _) = _; rw [if_pos (by omega), show 0 + (r - 0) = r by omega]; exact hY.2 r (by omega)⟩) dc_Y_lengthen_73
      · refine lv_aload_n C.x C.b dc_Y_lengthen_10 rfl (lv_at hl 1 rfl) ?_
        refine rg_get C h 3 rfl rfl in_Y 1 (by decide) fl_Y_15 rfl dc_Y_lengthen_11 ?_
        refine lv_iload_n C.x C.b dc_Y_lengthen_14 rfl (lv_at hl 0 rfl) ?_
        refine lv_lconst (v := 0) C.x C.b dc_Y_lengthen_15 (by decide +kernel) ?_
        refine rg_lst C h 16 rfl (by omega) (by decide) dc_Y_lengthen_16 (fun H locs h => ?_)
        obtain ⟨tl_2, etl_2⟩ : ∃ zz9, zz9 = us z 1 (us (z 1) k 0) := ⟨_, rfl⟩
        replace h : sT Γ s (xW Γ d hm mc so tl_2 tb wr) H locs := by rw [etl_2]; exact h
        refine lv_iconst (v := (nI 0)) C.x C.b dc_Y_lengthen_17 (by decide +kernel) ?_
        refine lv_istore_n (lv' := [(3, .int (nI 0)), (2, .int (nI k)), (0, .ref (d 3)), (1, .ref (d (20 + 3 * i)))]) C.x C.b dc_Y_lengthen_18 rfl hl (by decide) rfl (fun ls hl => ?_)
        obtain ⟨hY2, hs2⟩ := hY.st0 etl_2
        have lp_19 : ∀ (n_19 : Nat) (q : Nat) (y : Nat → Nat → Int64) (H : Heap) (locs : List Loc) (ls : Array Slot), 3 - q < n_19 → (q ≤ 3) → (YL (tb i) n y k) → (y 1 k = lI (sum3 (fun l => cnt (tb i 0 1) (tb i 1) n (tb i 1 (k * 3 + l))) q)) → sT Γ s (xW Γ d hm mc so y tb wr) H locs → lv_has ls 4 [(3, .int (nI q)), (2, .int (nI k)), (0, .ref (d 3)), (1, .ref (d (20 + 3 * i)))] → W p l e rm_Y_lengthen s m args below meth c H locs 0 0 Q (F0 m 19 ls []) := by
          intro n_19
          induction n_19 with
          | zero => intro q y H locs ls hms; exact absurd hms (Nat.not_lt_zero _)
          | succ n_19 ih_19 =>
            intro q y H locs ls hms hq hY hs h hl
            refine lv_iload_n C.x C.b dc_Y_lengthen_19 rfl (lv_at hl 0 rfl) ?_
            refine lv_iconst (v := (nI 3)) C.x C.b dc_Y_lengthen_20 (by decide +kernel) ?_
            refine bc_ge (tgt := 50) C (by omega) (by omega) dc_Y_lengthen_21 (by decide) (fun q21 => ?_) (fun q21 => ?_)
            · refine lv_iinc (v := nI (k + 1)) (lv' := [(2, .int (nI (k + 1))), (3, .int (nI q)), (0, .ref (d 3)), (1, .ref (d (20 + 3 * i)))]) C.x C.b dc_Y_lengthen_50 hl (k := 1) rfl (nI_1 k) (by decide) rfl (fun ls hl => ?_)
              refine lv_goto (tgt := 2) C.x C.b dc_Y_lengthen_53 (by decide) ?_
              have q3 : q = 3 := by omega
              rw [q3] at hs
              have hY2 := hY.nx hs
              exact ih_2 (k + 1) y _ _ _ (by omega) (by first | assumption | omega) (by first | exact hY2 | exact hY) h (lv_sub hl [0, 2, 3] rfl)
            · have hnk := ht.2.2.2.2 k q (by omega) (by omega)
              refine lv_aload_n C.x C.b dc_Y_lengthen_24 rfl (lv_at hl 2 rfl) ?_
              refine rg_get C h 3 rfl rfl in_Y 1 (by decide) fl_Y_15 rfl dc_Y_lengthen_25 ?_
              refine lv_iload_n C.x C.b dc_Y_lengthen_28 rfl (lv_at hl 1 rfl) ?_
              refine lv_dup2_11 C.x C.b dc_Y_lengthen_29 rfl rfl ?_
              refine rg_lld C h 16 rfl (by omega) (by decide) dc_Y_lengthen_30 ?_
              refine lv_aload_n C.x C.b dc_Y_lengthen_31 rfl (lv_at hl 2 rfl) ?_
              refine rg_get C h 3 rfl rfl in_Y 0 (by decide) fl_Y_9 rfl dc_Y_lengthen_32 ?_
              refine lv_aload_n C.x C.b dc_Y_lengthen_35 rfl (lv_at hl 3 rfl) ?_
              refine lv_iload_n C.x C.b dc_Y_lengthen_36 rfl (lv_at hl 1 rfl) ?_
              refine lv_iload_n C.x C.b dc_Y_lengthen_37 rfl (lv_at hl 0 rfl) ?_
              refine kv_V (As := [.int (nI k), .int (nI q)]) (rest := [.ref (d 15), .long (y 1 k), .int (nI k), .ref (d 16)]) C h hl.1 (c_T_after l Γ d hm mc so y tb wr i k q (hi) (by omega) (by omega)) mw_T_after lk_Y_28 (q0 := (17 + i)) (lk_T (hi)) rfl rfl (by decide) (by decide) (Nat.le_of_ble_eq_true rfl) dc_Y_lengthen_38 (fun v u H locs hp h => ?_)
              obtain rfl := hp
              replace h : sT Γ s (xW Γ d hm mc so y tb wr) H locs := h
              refine W.eq (g2 := F0 m 41 ls [.int (nI (tb i 1 (k * 3 + q))), .ref (d 15), .long (y 1 k), .int (nI k), .ref (d 16)]) rfl ?_
              refine rg_lld C h 15 rfl (by omega) (by decide) dc_Y_lengthen_41 ?_
              refine lv_ladd C.x C.b dc_Y_lengthen_42 ?_
              refine rg_lst C h 16 rfl (by omega) (by decide) dc_Y_lengthen_43 (fun H locs h => ?_)
              obtain ⟨tl_3, etl_3⟩ : ∃ zz9, zz9 = us y 1 (us (y 1) k ((y 1 k) + (y 0 (tb i 1 (k * 3 + q))))) := ⟨_, rfl⟩
              replace h : sT Γ s (xW Γ d hm mc so tl_3 tb wr) H locs := by rw [etl_3]; exact h
              refine lv_iinc (v := nI (q + 1)) (lv' := [(3, .int (nI (q + 1))), (2, .int (nI k)), (0, .ref (d 3)), (1, .ref (d (20 + 3 * i)))]) C.x C.b dc_Y_lengthen_44 hl (k := 0) rfl (nI_1 q) (by decide) rfl (fun ls hl => ?_)
              refine lv_goto (tgt := 19) C.x C.b dc_Y_lengthen_47 (by decide) ?_
              obtain ⟨hY2, hs2⟩ := hY.st1 hs hnk etl_3
              exact ih_19 (q + 1) tl_3 _ _ _ (by omega) (by first | assumption | omega) (hY2) (hs2) h (lv_sub hl [0, 1, 2, 3] rfl)
        exact lp_19 _ 0 tl_2 _ _ _ (Nat.lt_succ_self _) (by first | assumption | omega) (hY2) (hs2) h (lv_sub hl [0, 1, 2, 3] rfl)
  exact lp_2 _ 0 tl _ _ _ (Nat.lt_succ_self _) (by first | assumption | omega) (by first | exact hY2 | exact hY) h (lv_sub hl [0, 1, 2] rfl)

abbrev rm_X_letters : Room := { frames := 7, cells := 8, slots := 48, locals := 165 }
set_option maxRecDepth 100000 in
set_option maxHeartbeats 4000000 in
theorem c_X_letters (l : Launch) (Γ : gG) (d : Nat → Nat) (hm : Nat) (mc : va_E) (so : Nat → Nat → Nat) (tl : Nat → Nat → Int64) (tb : Nat → Nat → Nat → Nat) (wr : va_W) (bits : Int32) (hC0 : CS so tb) (hst : l.stackTraces = false) : cTx l Γ my_X_letters bc_X_letters 2 (some .int) rm_X_letters [.ref (d 0), .int bits] (xW Γ d hm mc so tl tb wr) (S := xG) (fun v u => ∃ b, b < 8 ∧ bits = nI b ∧ mkP so tb (mqO b 0) v u) (fun u => xW Γ d u.1 u.2.1 u.2.2.1 tl u.2.2.2 wr) (SX := xG) (fun E u => (E = en_iae ∧ u = (hm, mc, so, tb) ∧ ¬ ∃ b, b < 8 ∧ bits = nI b) ∨ (E = en_ioe ∧ ∃ b, b < 8 ∧ bits = nI b ∧ mkX so tb (mqO b 0) u)) (fun u => xW Γ d u.1 u.2.1 u.2.2.1 tl u.2.2.2 wr) := by
  refine cTx.start (by decide) (Nat.le_of_ble_eq_true rfl) (fun p e s m args below meth c ls Q hQ C hmn hno hX h hl => ?_)
  replace hl : lv_has ls 2 [(0, .ref (d 0)), (1, .int bits)] := hl
  have h80 := hC0.2.1
  refine lv_iload_n C.x C.b dc_X_letters_0 rfl (lv_at hl 1 rfl) ?_
  refine lv_if_lt (tgt := 10) C.x C.b dc_X_letters_1 (by decide) (fun q1 => ?_) (fun q1 => ?_)
  · rw [hQ]
    exact rt_thr (names := ns_iae) C hst hno hX hl.1 (hm, mc, so, tb) h (Or.inl ⟨rfl, rfl, fun z => by obtain ⟨b, hb, e⟩ := z; subst e; first | exact nI_pos (by omega) q1 | exact q7 (nI_lt hb (by decide))⟩) (by decide) (by decide) tw_iae tk_iae ti_iae (text := "no such letters") (by decide) dc_X_letters_10 dc_X_letters_13 dc_X_letters_14 dc_X_letters_16 dc_X_letters_19 (by decide) (Nat.le_of_ble_eq_true rfl) (by decide) (by decide) (by decide) (by decide)
  · refine lv_iload_n C.x C.b dc_X_letters_4 rfl (lv_at hl 1 rfl) ?_
    refine lv_bipush (v := (nI 8)) C.x C.b dc_X_letters_5 (by decide +kernel) ?_
    refine lv_icmp_lt (tgt := 20) C.x C.b dc_X_letters_7 (by decide) (fun q7 => ?_) (fun q7 => ?_)
    · obtain ⟨b, hb, eb⟩ : ∃ b, b < 8 ∧ bits = nI b := by
        rcases pk_ix bits (n := 8) (by decide) with z | z | z
        · exact absurd z q1
        · exact absurd q7 (Int32.not_lt.mpr z)
        · exact z
      subst eb
      refine lv_aload_n C.x C.b dc_X_letters_20 rfl (lv_at hl 0 rfl) ?_
      refine rg_newM (ci := 4) (ty := ft_O) (fs := [.int 0, .int 0]) C h rfl in_O tk_O nk_X_37 ns_O ni_O (by decide +kernel) (by decide) (by decide) dc_X_letters_21 (fun qm_1 H h => ?_)
      refine lv_dup C.x C.b dc_X_letters_24 rfl ?_
      refine lv_iload_n C.x C.b dc_X_letters_25 rfl (lv_at hl 1 rfl) ?_
      refine lv_iconst (v := (nI 0)) C.x C.b dc_X_letters_26 (by decide +kernel) ?_
      refine kv_I (As := [.int (nI b), .int (nI 0)]) (rest := [.ref qm_1, .ref (d 0)]) C h hl.1 (c_O_init l Γ d hm mc so tl tb wr qm_1 b 0) mw_O_init lk_X_39 rfl (by decide) (by decide) (Nat.le_of_ble_eq_true rfl) dc_X_letters_27 (fun v u H locs hp h => ?_)
      obtain rfl := hp
      replace h : sT Γ s (xW Γ d hm mc so tl tb ((qm_1, (.inr (4, [.int (nI b), .int (nI 0)]) : va_E)) :: wr)) H locs := h
      refine W.eq (g2 := F0 m 30 ls [.ref qm_1, .ref (d 0)]) rfl ?_
      replace h : sT Γ s (xW Γ d hm mc so tl tb ((qm_1, (.inr (4, [.int (nI b), .int (nI 0)]) : va_E)) :: wr)) H locs := h
      refine kx_V (As := [.ref qm_1]) (rest := []) C hX h hl.1 (c_X_keep l Γ d hm mc so tl tb wr qm_1 (.inr (4, [.int (nI b), .int (nI 0)]) : va_E) (mqO b 0) (mok_O hb (by decide)) (fun t _ => mok_O hb (by decide)) hC0 hst) mw_X_keep lk_X_42 (q0 := 0) rfl rfl rfl (by decide) (by decide) (Nat.le_of_ble_eq_true rfl) dc_X_letters_30 (fun E ce q9 u H locs hp h hc1 hc2 hc3 => ?_) (fun v u H locs hp h => ?_)
      · rw [hQ]
        exact kx_out C hno u h (Or.inr ⟨hp.1, ⟨b, hb, rfl, hp.2⟩⟩) hc1 hc2 hc3 (by decide) (by decide)
      have hv9 := hp.1
      subst hv9
      replace h : sT Γ s (xW Γ d (u.1) (u.2.1) (u.2.2.1) tl (u.2.2.2) wr) H locs := h
      refine W.eq (g2 := F0 m 33 ls [.int (nI (so 10 3))]) rfl ?_
      refine W.widen (k := 8) (n := 48) (by decide) (by decide) ?_
      rw [hQ]
      exact vx_ret (rt_i C u h (⟨b, hb, rfl, hp⟩) dc_X_letters_33)
    · rw [hQ]
      exact rt_thr (names := ns_iae) C hst hno hX hl.1 (hm, mc, so, tb) h (Or.inl ⟨rfl, rfl, fun z => by obtain ⟨b, hb, e⟩ := z; subst e; first | exact nI_pos (by omega) q1 | exact q7 (nI_lt hb (by decide))⟩) (by decide) (by decide) tw_iae tk_iae ti_iae (text := "no such letters") (by decide) dc_X_letters_10 dc_X_letters_13 dc_X_letters_14 dc_X_letters_16 dc_X_letters_19 (by decide) (Nat.le_of_ble_eq_true rfl) (by decide) (by decide) (by decide) (by decide)

abbrev rm_X_empty : Room := { frames := 7, cells := 8, slots := 48, locals := 165 }
set_option maxRecDepth 100000 in
set_option maxHeartbeats 4000000 in
theorem c_X_empty (l : Launch) (Γ : gG) (d : Nat → Nat) (hm : Nat) (mc : va_E) (so : Nat → Nat → Nat) (tl : Nat → Nat → Int64) (tb : Nat → Nat → Nat → Nat) (wr : va_W)  (hC0 : CS so tb) (hst : l.stackTraces = false) : cTx l Γ my_X_empty bc_X_empty 1 (some .int) rm_X_empty [.ref (d 0)] (xW Γ d hm mc so tl tb wr) (S := xG) (fun v u => ∃ b, b = 0 ∧ mkP so tb (mqO 0 1) v u) (fun u => xW Γ d u.1 u.2.1 u.2.2.1 tl u.2.2.2 wr) (SX := xG) (fun E u => (E = en_iae ∧ u = (hm, mc, so, tb) ∧ ¬ ∃ b, b = 0) ∨ (E = en_ioe ∧ ∃ b, b = 0 ∧ mkX so tb (mqO 0 1) u)) (fun u => xW Γ d u.1 u.2.1 u.2.2.1 tl u.2.2.2 wr) := by
  refine cTx.start (by decide) (Nat.le_of_ble_eq_true rfl) (fun p e s m args below meth c ls Q hQ C hmn hno hX h hl => ?_)
  replace hl : lv_has ls 1 [(0, .ref (d 0))] := hl
  have h80 := hC0.2.1
  refine lv_aload_n C.x C.b dc_X_empty_0 rfl (lv_at hl 0 rfl) ?_
  refine rg_newM (ci := 4) (ty := ft_O) (fs := [.int 0, .int 0]) C h rfl in_O tk_O nk_X_37 ns_O ni_O (by decide +kernel) (by decide) (by decide) dc_X_empty_1 (fun qm_1 H h => ?_)
  refine lv_dup C.x C.b dc_X_empty_4 rfl ?_
  refine lv_iconst (v := (nI 0)) C.x C.b dc_X_empty_5 (by decide +kernel) ?_
  refine lv_iconst (v := (nI 1)) C.x C.b dc_X_empty_6 (by decide +kernel) ?_
  refine kv_I (As := [.int (nI 0), .int (nI 1)]) (rest := [.ref qm_1, .ref (d 0)]) C h hl.1 (c_O_init l Γ d hm mc so tl tb wr qm_1 0 1) mw_O_init lk_X_39 rfl (by decide) (by decide) (Nat.le_of_ble_eq_true rfl) dc_X_empty_7 (fun v u H locs hp h => ?_)
  obtain rfl := hp
  replace h : sT Γ s (xW Γ d hm mc so tl tb ((qm_1, (.inr (4, [.int (nI 0), .int (nI 1)]) : va_E)) :: wr)) H locs := h
  refine W.eq (g2 := F0 m 10 ls [.ref qm_1, .ref (d 0)]) rfl ?_
  replace h : sT Γ s (xW Γ d hm mc so tl tb ((qm_1, (.inr (4, [.int (nI 0), .int (nI 1)]) : va_E)) :: wr)) H locs := h
  refine kx_V (As := [.ref qm_1]) (rest := []) C hX h hl.1 (c_X_keep l Γ d hm mc so tl tb wr qm_1 (.inr (4, [.int (nI 0), .int (nI 1)]) : va_E) (mqO 0 1) (mok_O (by decide) (by decide)) (fun t _ => mok_O (by decide) (by decide)) hC0 hst) mw_X_keep lk_X_42 (q0 := 0) rfl rfl rfl (by decide) (by decide) (Nat.le_of_ble_eq_true rfl) dc_X_empty_10 (fun E ce q9 u H locs hp h hc1 hc2 hc3 => ?_) (fun v u H locs hp h => ?_)
  · rw [hQ]
    exact kx_out C hno u h (Or.inr ⟨hp.1, ⟨0, rfl, hp.2⟩⟩) hc1 hc2 hc3 (by decide) (by decide)
  have hv9 := hp.1
  subst hv9
  replace h : sT Γ s (xW Γ d (u.1) (u.2.1) (u.2.2.1) tl (u.2.2.2) wr) H locs := h
  refine W.eq (g2 := F0 m 13 ls [.int (nI (so 10 3))]) rfl ?_
  refine W.widen (k := 8) (n := 48) (by decide) (by decide) ?_
  rw [hQ]
  exact vx_ret (rt_i C u h (⟨0, rfl, hp⟩) dc_X_empty_13)

abbrev rm_X_then : Room := { frames := 7, cells := 8, slots := 48, locals := 165 }
set_option maxRecDepth 100000 in
set_option maxHeartbeats 4000000 in
theorem c_X_then (l : Launch) (Γ : gG) (d : Nat → Nat) (hm : Nat) (mc : va_E) (so : Nat → Nat → Nat) (tl : Nat → Nat → Int64) (tb : Nat → Nat → Nat → Nat) (wr : va_W) (pp qq : Int32) (hC0 : CS so tb) (hst : l.stackTraces = false) : cTx l Γ my_X_then bc_X_then 3 (some .int) rm_X_then [.ref (d 0), .int pp, .int qq] (xW Γ d hm mc so tl tb wr) (S := xG) (fun v u => ∃ i j, i < so 10 3 ∧ j < so 10 3 ∧ pp = nI i ∧ qq = nI j ∧ mkP so tb (mqH (tb i) (tb j)) v u) (fun u => xW Γ d u.1 u.2.1 u.2.2.1 tl u.2.2.2 wr) (SX := xG) (fun E u => (E = en_iae ∧ u = (hm, mc, so, tb) ∧ ¬ ∃ i j, i < so 10 3 ∧ j < so 10 3 ∧ pp = nI i ∧ qq = nI j) ∨ (E = en_ioe ∧ ∃ i j, i < so 10 3 ∧ j < so 10 3 ∧ pp = nI i ∧ qq = nI j ∧ mkX so tb (mqH (tb i) (tb j)) u)) (fun u => xW Γ d u.1 u.2.1 u.2.2.1 tl u.2.2.2 wr) := by
  refine cTx.start (by decide) (Nat.le_of_ble_eq_true rfl) (fun p e s m args below meth c ls Q hQ C hmn hno hX h hl => ?_)
  replace hl : lv_has ls 3 [(0, .ref (d 0)), (1, .int pp), (2, .int qq)] := hl
  have h80 := hC0.2.1
  refine lv_aload_n C.x C.b dc_X_then_0 rfl (lv_at hl 0 rfl) ?_
  refine rg_newM (ci := 7) (ty := ft_H) (fs := [.null, .null]) C h rfl in_H tk_H nk_X_46 ns_H ni_H (by decide +kernel) (by decide) (by decide) dc_X_then_1 (fun qm_1 H h => ?_)
  refine lv_dup C.x C.b dc_X_then_4 rfl ?_
  refine lv_aload_n C.x C.b dc_X_then_5 rfl (lv_at hl 0 rfl) ?_
  refine lv_iload_n C.x C.b dc_X_then_6 rfl (lv_at hl 1 rfl) ?_
  refine kx_V (As := [.int pp]) (rest := [.ref qm_1, .ref qm_1, .ref (d 0)]) C hX h hl.1 (c_X_tableOf l Γ d hm mc so tl tb ((qm_1, .inr (7, [.null, .null])) :: wr) pp h80 hst) mw_X_tableOf lk_X_48 (q0 := 0) rfl rfl rfl (by decide) (by decide) (Nat.le_of_ble_eq_true rfl) dc_X_then_7 (fun E ce q9 u H locs hp h hc1 hc2 hc3 => ?_) (fun v u H locs hp h => ?_)
  · replace h := xw_drop h
    rw [hQ]
    exact kx_out C hno (hm, mc, so, tb) h (Or.inl ⟨hp.1, rfl, fun z => by obtain ⟨i, j, a, b, c, d9⟩ := z; exact hp.2 ⟨i, a, c⟩⟩) hc1 hc2 hc3 (by decide) (by decide)
  obtain ⟨j_2, rfl⟩ : ∃ zz9, zz9 = u := ⟨_, rfl⟩
  obtain ⟨rfl, lt_j_2, e_j_2⟩ := hp
  replace h : sT Γ s (xW Γ d hm mc so tl tb ((qm_1, .inr (7, [.null, .null])) :: wr)) H locs := h
  refine W.eq (g2 := F0 m 10 ls [.ref (d (20 + 3 * j_2)), .ref qm_1, .ref qm_1, .ref (d 0)]) rfl ?_
  refine lv_aload_n C.x C.b dc_X_then_10 rfl (lv_at hl 0 rfl) ?_
  refine lv_iload_n C.x C.b dc_X_then_11 rfl (lv_at hl 2 rfl) ?_
  refine kx_V (As := [.int qq]) (rest := [.ref (d (20 + 3 * j_2)), .ref qm_1, .ref qm_1, .ref (d 0)]) C hX h hl.1 (c_X_tableOf l Γ d hm mc so tl tb ((qm_1, .inr (7, [.null, .null])) :: wr) qq h80 hst) mw_X_tableOf lk_X_48 (q0 := 0) rfl rfl rfl (by decide) (by decide) (Nat.le_of_ble_eq_true rfl) dc_X_then_12 (fun E ce q9 u H locs hp h hc1 hc2 hc3 => ?_) (fun v u H locs hp h => ?_)
  · replace h := xw_drop h
    rw [hQ]
    exact kx_out C hno (hm, mc, so, tb) h (Or.inl ⟨hp.1, rfl, fun z => by obtain ⟨i, j, a, b, c, d9⟩ := z; exact hp.2 ⟨j, b, d9⟩⟩) hc1 hc2 hc3 (by decide) (by decide)
  obtain ⟨j_3, rfl⟩ : ∃ zz9, zz9 = u := ⟨_, rfl⟩
  obtain ⟨rfl, lt_j_3, e_j_3⟩ := hp
  replace h : sT Γ s (xW Γ d hm mc so tl tb ((qm_1, .inr (7, [.null, .null])) :: wr)) H locs := h
  refine W.eq (g2 := F0 m 15 ls [.ref (d (20 + 3 * j_3)), .ref (d (20 + 3 * j_2)), .ref qm_1, .ref qm_1, .ref (d 0)]) rfl ?_
  refine kv_I (As := [.ref (d (20 + 3 * j_2)), .ref (d (20 + 3 * j_3))]) (rest := [.ref qm_1, .ref (d 0)]) C h hl.1 (c_H_init l Γ d hm mc so tl tb wr qm_1 j_2 j_3) mw_H_init lk_X_52 rfl (by decide) (by decide) (Nat.le_of_ble_eq_true rfl) dc_X_then_15 (fun v u H locs hp h => ?_)
  obtain rfl := hp
  replace h : sT Γ s (xW Γ d hm mc so tl tb ((qm_1, (.inr (7, [.ref (d (20 + 3 * j_2)), .ref (d (20 + 3 * j_3))]) : va_E)) :: wr)) H locs := h
  refine W.eq (g2 := F0 m 18 ls [.ref qm_1, .ref (d 0)]) rfl ?_
  replace h : sT Γ s (xW Γ d hm mc so tl tb ((qm_1, (.inr (7, [.ref (d (20 + 3 * j_2)), .ref (d (20 + 3 * j_3))]) : va_E)) :: wr)) H locs := h
  refine kx_V (As := [.ref qm_1]) (rest := []) C hX h hl.1 (c_X_keep l Γ d hm mc so tl tb wr qm_1 (.inr (7, [.ref (d (20 + 3 * j_2)), .ref (d (20 + 3 * j_3))]) : va_E) (mqH (tb j_2) (tb j_3)) (mok_H (hC0.tok lt_j_2).1 (hC0.tok lt_j_3).1 (hC0.tok lt_j_2).2.1 (hC0.tok lt_j_3).2.1) (fun t ht => mox (F := mqH) lt_j_2 lt_j_3 ht (fun x a b => mok_H (hC0.tok lt_j_2).1 (hC0.tok lt_j_3).1 (by rw [a]; exact (hC0.tok lt_j_2).2.1) (by rw [b]; exact (hC0.tok lt_j_3).2.1))) hC0 hst) mw_X_keep lk_X_42 (q0 := 0) rfl rfl rfl (by decide) (by decide) (Nat.le_of_ble_eq_true rfl) dc_X_then_18 (fun E ce q9 u H locs hp h hc1 hc2 hc3 => ?_) (fun v u H locs hp h => ?_)
  · rw [hQ]
    exact kx_out C hno u h (Or.inr ⟨hp.1, ⟨j_2, j_3, lt_j_2, lt_j_3, e_j_2, e_j_3, hp.2⟩⟩) hc1 hc2 hc3 (by decide) (by decide)
  have hv9 := hp.1
  subst hv9
  replace h : sT Γ s (xW Γ d (u.1) (u.2.1) (u.2.2.1) tl (u.2.2.2) wr) H locs := h
  refine W.eq (g2 := F0 m 21 ls [.int (nI (so 10 3))]) rfl ?_
  refine W.widen (k := 8) (n := 48) (by decide) (by decide) ?_
  rw [hQ]
  exact vx_ret (rt_i C u h (⟨j_2, j_3, lt_j_2, lt_j_3, e_j_2, e_j_3, hp⟩) dc_X_then_21)

abbrev rm_X_both : Room := { frames := 7, cells := 8, slots := 48, locals := 165 }
set_option maxRecDepth 100000 in
set_option maxHeartbeats 4000000 in
theorem c_X_both (l : Launch) (Γ : gG) (d : Nat → Nat) (hm : Nat) (mc : va_E) (so : Nat → Nat → Nat) (tl : Nat → Nat → Int64) (tb : Nat → Nat → Nat → Nat) (wr : va_W) (hw pp qq : Int32) (hC0 : CS so tb) (hst : l.stackTraces = false) : cTx l Γ my_X_both bc_X_both 4 (some .int) rm_X_both [.ref (d 0), .int hw, .int pp, .int qq] (xW Γ d hm mc so tl tb wr) (S := xG) (fun v u => ∃ how i j, how < 4 ∧ hw = nI how ∧ i < so 10 3 ∧ j < so 10 3 ∧ pp = nI i ∧ qq = nI j ∧ mkP so tb (mqB how (tb i) (tb j)) v u) (fun u => xW Γ d u.1 u.2.1 u.2.2.1 tl u.2.2.2 wr) (SX := xG) (fun E u => (E = en_iae ∧ u = (hm, mc, so, tb) ∧ ¬ ∃ how i j, how < 4 ∧ hw = nI how ∧ i < so 10 3 ∧ j < so 10 3 ∧ pp = nI i ∧ qq = nI j) ∨ (E = en_ioe ∧ ∃ how i j, how < 4 ∧ hw = nI how ∧ i < so 10 3 ∧ j < so 10 3 ∧ pp = nI i ∧ qq = nI j ∧ mkX so tb (mqB how (tb i) (tb j)) u)) (fun u => xW Γ d u.1 u.2.1 u.2.2.1 tl u.2.2.2 wr) := by
  refine cTx.start (by decide) (Nat.le_of_ble_eq_true rfl) (fun p e s m args below meth c ls Q hQ C hmn hno hX h hl => ?_)
  replace hl : lv_has ls 4 [(0, .ref (d 0)), (1, .int hw), (2, .int pp), (3, .int qq)] := hl
  have h80 := hC0.2.1
  refine lv_iload_n C.x C.b dc_X_both_0 rfl (lv_at hl 1 rfl) ?_
  refine lv_if_lt (tgt := 9) C.x C.b dc_X_both_1 (by decide) (fun q1 => ?_) (fun q1 => ?_)
  · rw [hQ]
    exact rt_thr (names := ns_iae) C hst hno hX hl.1 (hm, mc, so, tb) h (Or.inl ⟨rfl, rfl, fun z => by obtain ⟨b, i, j, hb, e, -⟩ := z; subst e; first | exact nI_pos (by omega) q1 | exact q6 (nI_le (show b ≤ 3 by omega) (by decide))⟩) (by decide) (by decide) tw_iae tk_iae ti_iae (text := "no such way to join") (by decide) dc_X_both_9 dc_X_both_12 dc_X_both_13 dc_X_both_15 dc_X_both_18 (by decide) (Nat.le_of_ble_eq_true rfl) (by decide) (by decide) (by decide) (by decide)
  · refine lv_iload_n C.x C.b dc_X_both_4 rfl (lv_at hl 1 rfl) ?_
    refine lv_iconst (v := (nI 3)) C.x C.b dc_X_both_5 (by decide +kernel) ?_
    refine lv_icmp_le (tgt := 19) C.x C.b dc_X_both_6 (by decide) (fun q6 => ?_) (fun q6 => ?_)
    · obtain ⟨how, hhow, ehow⟩ : ∃ how, how < 4 ∧ hw = nI how := by
        rcases pk_ix hw (n := 4) (by decide) with z | z | z
        · exact absurd z q1
        · exact absurd z (fun z9 => by have a9 := nI_lt (a := 3) (b := 4) (by decide) (by decide); have := Int32.lt_of_lt_of_le a9 z9; exact Int32.lt_irrefl (Int32.lt_of_lt_of_le this q6))
        · exact z
      subst ehow
      refine lv_aload_n C.x C.b dc_X_both_19 rfl (lv_at hl 0 rfl) ?_
      refine rg_newM (ci := 6) (ty := ft_B) (fs := [.int 0, .null, .null]) C h rfl in_B tk_B nk_X_57 ns_B ni_B (by decide +kernel) (by decide) (by decide) dc_X_both_20 (fun qm_1 H h => ?_)
      refine lv_dup C.x C.b dc_X_both_23 rfl ?_
      refine lv_iload_n C.x C.b dc_X_both_24 rfl (lv_at hl 1 rfl) ?_
      refine lv_aload_n C.x C.b dc_X_both_25 rfl (lv_at hl 0 rfl) ?_
      refine lv_iload_n C.x C.b dc_X_both_26 rfl (lv_at hl 2 rfl) ?_
      refine kx_V (As := [.int pp]) (rest := [.int (nI how), .ref qm_1, .ref qm_1, .ref (d 0)]) C hX h hl.1 (c_X_tableOf l Γ d hm mc so tl tb ((qm_1, .inr (6, [.int 0, .null, .null])) :: wr) pp h80 hst) mw_X_tableOf lk_X_48 (q0 := 0) rfl rfl rfl (by decide) (by decide) (Nat.le_of_ble_eq_true rfl) dc_X_both_27 (fun E ce q9 u H locs hp h hc1 hc2 hc3 => ?_) (fun v u H locs hp h => ?_)
      · replace h := xw_drop h
        rw [hQ]
        exact kx_out C hno (hm, mc, so, tb) h (Or.inl ⟨hp.1, rfl, fun z => by obtain ⟨b, i, j, hb, e, a, b, c, d9⟩ := z; exact hp.2 ⟨i, a, c⟩⟩) hc1 hc2 hc3 (by decide) (by decide)
      obtain ⟨j_2, rfl⟩ : ∃ zz9, zz9 = u := ⟨_, rfl⟩
      obtain ⟨rfl, lt_j_2, e_j_2⟩ := hp
      replace h : sT Γ s (xW Γ d hm mc so tl tb ((qm_1, .inr (6, [.int 0, .null, .null])) :: wr)) H locs := h
      refine W.eq (g2 := F0 m 30 ls [.ref (d (20 + 3 * j_2)), .int (nI how), .ref qm_1, .ref qm_1, .ref (d 0)]) rfl ?_
      refine lv_aload_n C.x C.b dc_X_both_30 rfl (lv_at hl 0 rfl) ?_
      refine lv_iload_n C.x C.b dc_X_both_31 rfl (lv_at hl 3 rfl) ?_
      refine kx_V (As := [.int qq]) (rest := [.ref (d (20 + 3 * j_2)), .int (nI how), .ref qm_1, .ref qm_1, .ref (d 0)]) C hX h hl.1 (c_X_tableOf l Γ d hm mc so tl tb ((qm_1, .inr (6, [.int 0, .null, .null])) :: wr) qq h80 hst) mw_X_tableOf lk_X_48 (q0 := 0) rfl rfl rfl (by decide) (by decide) (Nat.le_of_ble_eq_true rfl) dc_X_both_32 (fun E ce q9 u H locs hp h hc1 hc2 hc3 => ?_) (fun v u H locs hp h => ?_)
      · replace h := xw_drop h
        rw [hQ]
        exact kx_out C hno (hm, mc, so, tb) h (Or.inl ⟨hp.1, rfl, fun z => by obtain ⟨b, i, j, hb, e, a, b, c, d9⟩ := z; exact hp.2 ⟨j, b, d9⟩⟩) hc1 hc2 hc3 (by decide) (by decide)
      obtain ⟨j_3, rfl⟩ : ∃ zz9, zz9 = u := ⟨_, rfl⟩
      obtain ⟨rfl, lt_j_3, e_j_3⟩ := hp
      replace h : sT Γ s (xW Γ d hm mc so tl tb ((qm_1, .inr (6, [.int 0, .null, .null])) :: wr)) H locs := h
      refine W.eq (g2 := F0 m 35 ls [.ref (d (20 + 3 * j_3)), .ref (d (20 + 3 * j_2)), .int (nI how), .ref qm_1, .ref qm_1, .ref (d 0)]) rfl ?_
      refine kv_I (As := [.int (nI how), .ref (d (20 + 3 * j_2)), .ref (d (20 + 3 * j_3))]) (rest := [.ref qm_1, .ref (d 0)]) C h hl.1 (c_B_init l Γ d hm mc so tl tb wr qm_1 how j_2 j_3) mw_B_init lk_X_59 rfl (by decide) (by decide) (Nat.le_of_ble_eq_true rfl) dc_X_both_35 (fun v u H locs hp h => ?_)
      obtain rfl := hp
      replace h : sT Γ s (xW Γ d hm mc so tl tb ((qm_1, (.inr (6, [.int (nI how), .ref (d (20 + 3 * j_2)), .ref (d (20 + 3 * j_3))]) : va_E)) :: wr)) H locs := h
      refine W.eq (g2 := F0 m 38 ls [.ref qm_1, .ref (d 0)]) rfl ?_
      replace h : sT Γ s (xW Γ d hm mc so tl tb ((qm_1, (.inr (6, [.int (nI how), .ref (d (20 + 3 * j_2)), .ref (d (20 + 3 * j_3))]) : va_E)) :: wr)) H locs := h
      refine kx_V (As := [.ref qm_1]) (rest := []) C hX h hl.1 (c_X_keep l Γ d hm mc so tl tb wr qm_1 (.inr (6, [.int (nI how), .ref (d (20 + 3 * j_2)), .ref (d (20 + 3 * j_3))]) : va_E) (mqB how (tb j_2) (tb j_3)) (mok_B hhow (hC0.tok lt_j_2).1 (hC0.tok lt_j_3).1 (hC0.tok lt_j_2).2.1 (hC0.tok lt_j_3).2.1) (fun t ht => mox (F := mqB how) lt_j_2 lt_j_3 ht (fun x a b => mok_B hhow (hC0.tok lt_j_2).1 (hC0.tok lt_j_3).1 (by rw [a]; exact (hC0.tok lt_j_2).2.1) (by rw [b]; exact (hC0.tok lt_j_3).2.1))) hC0 hst) mw_X_keep lk_X_42 (q0 := 0) rfl rfl rfl (by decide) (by decide) (Nat.le_of_ble_eq_true rfl) dc_X_both_38 (fun E ce q9 u H locs hp h hc1 hc2 hc3 => ?_) (fun v u H locs hp h => ?_)
      · rw [hQ]
        exact kx_out C hno u h (Or.inr ⟨hp.1, ⟨how, j_2, j_3, hhow, rfl, lt_j_2, lt_j_3, e_j_2, e_j_3, hp.2⟩⟩) hc1 hc2 hc3 (by decide) (by decide)
      have hv9 := hp.1
      subst hv9
      replace h : sT Γ s (xW Γ d (u.1) (u.2.1) (u.2.2.1) tl (u.2.2.2) wr) H locs := h
      refine W.eq (g2 := F0 m 41 ls [.int (nI (so 10 3))]) rfl ?_
      refine W.widen (k := 8) (n := 48) (by decide) (by decide) ?_
      rw [hQ]
      exact vx_ret (rt_i C u h (⟨how, j_2, j_3, hhow, rfl, lt_j_2, lt_j_3, e_j_2, e_j_3, hp⟩) dc_X_both_41)
    · rw [hQ]
      exact rt_thr (names := ns_iae) C hst hno hX hl.1 (hm, mc, so, tb) h (Or.inl ⟨rfl, rfl, fun z => by obtain ⟨b, i, j, hb, e, -⟩ := z; subst e; first | exact nI_pos (by omega) q1 | exact q6 (nI_le (show b ≤ 3 by omega) (by decide))⟩) (by decide) (by decide) tw_iae tk_iae ti_iae (text := "no such way to join") (by decide) dc_X_both_9 dc_X_both_12 dc_X_both_13 dc_X_both_15 dc_X_both_18 (by decide) (Nat.le_of_ble_eq_true rfl) (by decide) (by decide) (by decide) (by decide)

abbrev rm_X_many : Room := { frames := 7, cells := 8, slots := 48, locals := 165 }
set_option maxRecDepth 100000 in
set_option maxHeartbeats 4000000 in
theorem c_X_many (l : Launch) (Γ : gG) (d : Nat → Nat) (hm : Nat) (mc : va_E) (so : Nat → Nat → Nat) (tl : Nat → Nat → Int64) (tb : Nat → Nat → Nat → Nat) (wr : va_W) (pp : Int32) (hC0 : CS so tb) (hst : l.stackTraces = false) : cTx l Γ my_X_many bc_X_many 2 (some .int) rm_X_many [.ref (d 0), .int pp] (xW Γ d hm mc so tl tb wr) (S := xG) (fun v u => ∃ i, i < so 10 3 ∧ pp = nI i ∧ mkP so tb (mqN (tb i)) v u) (fun u => xW Γ d u.1 u.2.1 u.2.2.1 tl u.2.2.2 wr) (SX := xG) (fun E u => (E = en_iae ∧ u = (hm, mc, so, tb) ∧ ¬ ∃ i, i < so 10 3 ∧ pp = nI i) ∨ (E = en_ioe ∧ ∃ i, i < so 10 3 ∧ pp = nI i ∧ mkX so tb (mqN (tb i)) u)) (fun u => xW Γ d u.1 u.2.1 u.2.2.1 tl u.2.2.2 wr) := by
  refine cTx.start (by decide) (Nat.le_of_ble_eq_true rfl) (fun p e s m args below meth c ls Q hQ C hmn hno hX h hl => ?_)
  replace hl : lv_has ls 2 [(0, .ref (d 0)), (1, .int pp)] := hl
  have h80 := hC0.2.1
  refine lv_aload_n C.x C.b dc_X_many_0 rfl (lv_at hl 0 rfl) ?_
  refine rg_newM (ci := 8) (ty := ft_N) (fs := [.null]) C h rfl in_N tk_N nk_X_62 ns_N ni_N (by decide +kernel) (by decide) (by decide) dc_X_many_1 (fun qm_1 H h => ?_)
  refine lv_dup C.x C.b dc_X_many_4 rfl ?_
  refine lv_aload_n C.x C.b dc_X_many_5 rfl (lv_at hl 0 rfl) ?_
  refine lv_iload_n C.x C.b dc_X_many_6 rfl (lv_at hl 1 rfl) ?_
  refine kx_V (As := [.int pp]) (rest := [.ref qm_1, .ref qm_1, .ref (d 0)]) C hX h hl.1 (c_X_tableOf l Γ d hm mc so tl tb ((qm_1, .inr (8, [.null])) :: wr) pp h80 hst) mw_X_tableOf lk_X_48 (q0 := 0) rfl rfl rfl (by decide) (by decide) (Nat.le_of_ble_eq_true rfl) dc_X_many_7 (fun E ce q9 u H locs hp h hc1 hc2 hc3 => ?_) (fun v u H locs hp h => ?_)
  · replace h := xw_drop h
    rw [hQ]
    exact kx_out C hno (hm, mc, so, tb) h (Or.inl ⟨hp.1, rfl, fun z => by obtain ⟨i, a, c⟩ := z; exact hp.2 ⟨i, a, c⟩⟩) hc1 hc2 hc3 (by decide) (by decide)
  obtain ⟨j_2, rfl⟩ : ∃ zz9, zz9 = u := ⟨_, rfl⟩
  obtain ⟨rfl, lt_j_2, e_j_2⟩ := hp
  replace h : sT Γ s (xW Γ d hm mc so tl tb ((qm_1, .inr (8, [.null])) :: wr)) H locs := h
  refine W.eq (g2 := F0 m 10 ls [.ref (d (20 + 3 * j_2)), .ref qm_1, .ref qm_1, .ref (d 0)]) rfl ?_
  refine kv_I (As := [.ref (d (20 + 3 * j_2))]) (rest := [.ref qm_1, .ref (d 0)]) C h hl.1 (c_N_init l Γ d hm mc so tl tb wr qm_1 j_2) mw_N_init lk_X_64 rfl (by decide) (by decide) (Nat.le_of_ble_eq_true rfl) dc_X_many_10 (fun v u H locs hp h => ?_)
  obtain rfl := hp
  replace h : sT Γ s (xW Γ d hm mc so tl tb ((qm_1, (.inr (8, [.ref (d (20 + 3 * j_2))]) : va_E)) :: wr)) H locs := h
  refine W.eq (g2 := F0 m 13 ls [.ref qm_1, .ref (d 0)]) rfl ?_
  replace h : sT Γ s (xW Γ d hm mc so tl tb ((qm_1, (.inr (8, [.ref (d (20 + 3 * j_2))]) : va_E)) :: wr)) H locs := h
  refine kx_V (As := [.ref qm_1]) (rest := []) C hX h hl.1 (c_X_keep l Γ d hm mc so tl tb wr qm_1 (.inr (8, [.ref (d (20 + 3 * j_2))]) : va_E) (mqN (tb j_2)) (mok_N (hC0.tok lt_j_2).1 (hC0.tok lt_j_2).2.1) (fun t ht => mox (F := fun a _ => mqN a) lt_j_2 lt_j_2 ht (fun x a b => mok_N (hC0.tok lt_j_2).1 (by rw [a]; exact (hC0.tok lt_j_2).2.1))) hC0 hst) mw_X_keep lk_X_42 (q0 := 0) rfl rfl rfl (by decide) (by decide) (Nat.le_of_ble_eq_true rfl) dc_X_many_13 (fun E ce q9 u H locs hp h hc1 hc2 hc3 => ?_) (fun v u H locs hp h => ?_)
  · rw [hQ]
    exact kx_out C hno u h (Or.inr ⟨hp.1, ⟨j_2, lt_j_2, e_j_2, hp.2⟩⟩) hc1 hc2 hc3 (by decide) (by decide)
  have hv9 := hp.1
  subst hv9
  replace h : sT Γ s (xW Γ d (u.1) (u.2.1) (u.2.2.1) tl (u.2.2.2) wr) H locs := h
  refine W.eq (g2 := F0 m 16 ls [.int (nI (so 10 3))]) rfl ?_
  refine W.widen (k := 8) (n := 48) (by decide) (by decide) ?_
  rw [hQ]
  exact vx_ret (rt_i C u h (⟨j_2, lt_j_2, e_j_2, hp⟩) dc_X_many_16)

abbrev rm_X_back : Room := { frames := 7, cells := 8, slots := 48, locals := 165 }
set_option maxRecDepth 100000 in
set_option maxHeartbeats 4000000 in
theorem c_X_back (l : Launch) (Γ : gG) (d : Nat → Nat) (hm : Nat) (mc : va_E) (so : Nat → Nat → Nat) (tl : Nat → Nat → Int64) (tb : Nat → Nat → Nat → Nat) (wr : va_W) (pp : Int32) (hC0 : CS so tb) (hst : l.stackTraces = false) : cTx l Γ my_X_back bc_X_back 2 (some .int) rm_X_back [.ref (d 0), .int pp] (xW Γ d hm mc so tl tb wr) (S := xG) (fun v u => ∃ i, i < so 10 3 ∧ pp = nI i ∧ mkP so tb (mqK (tb i)) v u) (fun u => xW Γ d u.1 u.2.1 u.2.2.1 tl u.2.2.2 wr) (SX := xG) (fun E u => (E = en_iae ∧ u = (hm, mc, so, tb) ∧ ¬ ∃ i, i < so 10 3 ∧ pp = nI i) ∨ (E = en_ioe ∧ ∃ i, i < so 10 3 ∧ pp = nI i ∧ mkX so tb (mqK (tb i)) u)) (fun u => xW Γ d u.1 u.2.1 u.2.2.1 tl u.2.2.2 wr) := by
  refine cTx.start (by decide) (Nat.le_of_ble_eq_true rfl) (fun p e s m args below meth c ls Q hQ C hmn hno hX h hl => ?_)
  replace hl : lv_has ls 2 [(0, .ref (d 0)), (1, .int pp)] := hl
  have h80 := hC0.2.1
  refine lv_aload_n C.x C.b dc_X_back_0 rfl (lv_at hl 0 rfl) ?_
  refine rg_newM (ci := 9) (ty := ft_K) (fs := [.null]) C h rfl in_K tk_K nk_X_76 ns_K ni_K (by decide +kernel) (by decide) (by decide) dc_X_back_1 (fun qm_1 H h => ?_)
  refine lv_dup C.x C.b dc_X_back_4 rfl ?_
  refine lv_aload_n C.x C.b dc_X_back_5 rfl (lv_at hl 0 rfl) ?_
  refine lv_iload_n C.x C.b dc_X_back_6 rfl (lv_at hl 1 rfl) ?_
  refine kx_V (As := [.int pp]) (rest := [.ref qm_1, .ref qm_1, .ref (d 0)]) C hX h hl.1 (c_X_tableOf l Γ d hm mc so tl tb ((qm_1, .inr (9, [.null])) :: wr) pp h80 hst) mw_X_tableOf lk_X_48 (q0 := 0) rfl rfl rfl (by decide) (by decide) (Nat.le_of_ble_eq_true rfl) dc_X_back_7 (fun E ce q9 u H locs hp h hc1 hc2 hc3 => ?_) (fun v u H locs hp h => ?_)
  · replace h := xw_drop h
    rw [hQ]
    exact kx_out C hno (hm, mc, so, tb) h (Or.inl ⟨hp.1, rfl, fun z => by obtain ⟨i, a, c⟩ := z; exact hp.2 ⟨i, a, c⟩⟩) hc1 hc2 hc3 (by decide) (by decide)
  obtain ⟨j_2, rfl⟩ : ∃ zz9, zz9 = u := ⟨_, rfl⟩
  obtain ⟨rfl, lt_j_2, e_j_2⟩ := hp
  replace h : sT Γ s (xW Γ d hm mc so tl tb ((qm_1, .inr (9, [.null])) :: wr)) H locs := h
  refine W.eq (g2 := F0 m 10 ls [.ref (d (20 + 3 * j_2)), .ref qm_1, .ref qm_1, .ref (d 0)]) rfl ?_
  refine kv_I (As := [.ref (d (20 + 3 * j_2))]) (rest := [.ref qm_1, .ref (d 0)]) C h hl.1 (c_K_init l Γ d hm mc so tl tb wr qm_1 j_2) mw_K_init lk_X_78 rfl (by decide) (by decide) (Nat.le_of_ble_eq_true rfl) dc_X_back_10 (fun v u H locs hp h => ?_)
  obtain rfl := hp
  replace h : sT Γ s (xW Γ d hm mc so tl tb ((qm_1, (.inr (9, [.ref (d (20 + 3 * j_2))]) : va_E)) :: wr)) H locs := h
  refine W.eq (g2 := F0 m 13 ls [.ref qm_1, .ref (d 0)]) rfl ?_
  replace h : sT Γ s (xW Γ d hm mc so tl tb ((qm_1, (.inr (9, [.ref (d (20 + 3 * j_2))]) : va_E)) :: wr)) H locs := h
  refine kx_V (As := [.ref qm_1]) (rest := []) C hX h hl.1 (c_X_keep l Γ d hm mc so tl tb wr qm_1 (.inr (9, [.ref (d (20 + 3 * j_2))]) : va_E) (mqK (tb j_2)) (mok_K (hC0.tok lt_j_2).1 (hC0.tok lt_j_2).2.1) (fun t ht => mox (F := fun a _ => mqK a) lt_j_2 lt_j_2 ht (fun x a b => mok_K (hC0.tok lt_j_2).1 (by rw [a]; exact (hC0.tok lt_j_2).2.1))) hC0 hst) mw_X_keep lk_X_42 (q0 := 0) rfl rfl rfl (by decide) (by decide) (Nat.le_of_ble_eq_true rfl) dc_X_back_13 (fun E ce q9 u H locs hp h hc1 hc2 hc3 => ?_) (fun v u H locs hp h => ?_)
  · rw [hQ]
    exact kx_out C hno u h (Or.inr ⟨hp.1, ⟨j_2, lt_j_2, e_j_2, hp.2⟩⟩) hc1 hc2 hc3 (by decide) (by decide)
  have hv9 := hp.1
  subst hv9
  replace h : sT Γ s (xW Γ d (u.1) (u.2.1) (u.2.2.1) tl (u.2.2.2) wr) H locs := h
  refine W.eq (g2 := F0 m 16 ls [.int (nI (so 10 3))]) rfl ?_
  refine W.widen (k := 8) (n := 48) (by decide) (by decide) ?_
  rw [hQ]
  exact vx_ret (rt_i C u h (⟨j_2, lt_j_2, e_j_2, hp⟩) dc_X_back_16)

abbrev rm_X_contrary : Room := { frames := 7, cells := 8, slots := 48, locals := 165 }
set_option maxRecDepth 100000 in
set_option maxHeartbeats 4000000 in
theorem c_X_contrary (l : Launch) (Γ : gG) (d : Nat → Nat) (hm : Nat) (mc : va_E) (so : Nat → Nat → Nat) (tl : Nat → Nat → Int64) (tb : Nat → Nat → Nat → Nat) (wr : va_W) (pp : Int32) (hC0 : CS so tb) (hst : l.stackTraces = false) : cTx l Γ my_X_contrary bc_X_contrary 3 (some .int) rm_X_contrary [.ref (d 0), .int pp] (xW Γ d hm mc so tl tb wr) (S := xG) (fun v u => ∃ i, i < so 10 3 ∧ pp = nI i ∧ mkP so tb (mqR (tb i) 0 (nI (tb i 0 1) ^^^ mI 0)) v u) (fun u => xW Γ d u.1 u.2.1 u.2.2.1 tl u.2.2.2 wr) (SX := xG) (fun E u => (E = en_iae ∧ u = (hm, mc, so, tb) ∧ ¬ ∃ i, i < so 10 3 ∧ pp = nI i) ∨ (E = en_ioe ∧ ∃ i, i < so 10 3 ∧ pp = nI i ∧ mkX so tb (mqR (tb i) 0 (nI (tb i 0 1) ^^^ mI 0)) u)) (fun u => xW Γ d u.1 u.2.1 u.2.2.1 tl u.2.2.2 wr) := by
  refine cTx.start (by decide) (Nat.le_of_ble_eq_true rfl) (fun p e s m args below meth c ls Q hQ C hmn hno hX h hl => ?_)
  replace hl : lv_has ls 3 [(0, .ref (d 0)), (1, .int pp)] := hl
  have h80 := hC0.2.1
  refine lv_aload_n C.x C.b dc_X_contrary_0 rfl (lv_at hl 0 rfl) ?_
  refine lv_iload_n C.x C.b dc_X_contrary_1 rfl (lv_at hl 1 rfl) ?_
  refine kx_V (As := [.int pp]) (rest := []) C hX h hl.1 (c_X_tableOf l Γ d hm mc so tl tb wr pp h80 hst) mw_X_tableOf lk_X_48 (q0 := 0) rfl rfl rfl (by decide) (by decide) (Nat.le_of_ble_eq_true rfl) dc_X_contrary_2 (fun E ce q9 u H locs hp h hc1 hc2 hc3 => ?_) (fun v u H locs hp h => ?_)
  · rw [hQ]
    exact kx_out C hno (hm, mc, so, tb) h (Or.inl ⟨hp.1, rfl, fun z => by obtain ⟨i, a, c⟩ := z; exact hp.2 ⟨i, a, c⟩⟩) hc1 hc2 hc3 (by decide) (by decide)
  obtain ⟨j_1, rfl⟩ : ∃ zz9, zz9 = u := ⟨_, rfl⟩
  obtain ⟨rfl, lt_j_1, e_j_1⟩ := hp
  replace h : sT Γ s (xW Γ d hm mc so tl tb wr) H locs := h
  refine W.eq (g2 := F0 m 5 ls [.ref (d (20 + 3 * j_1))]) rfl ?_
  refine lv_astore_n (lv' := [(2, .ref (d (20 + 3 * j_1))), (0, .ref (d 0)), (1, .int pp)]) C.x C.b dc_X_contrary_5 rfl hl (by decide) rfl (fun ls hl => ?_)
  refine lv_aload_n C.x C.b dc_X_contrary_6 rfl (lv_at hl 1 rfl) ?_
  refine rg_newM (ci := 5) (ty := ft_R) (fs := [.null, .int 0, .int 0]) C h rfl in_R tk_R nk_X_67 ns_R ni_R (by decide +kernel) (by decide) (by decide) dc_X_contrary_7 (fun qm_2 H h => ?_)
  refine lv_dup C.x C.b dc_X_contrary_10 rfl ?_
  refine lv_aload_n C.x C.b dc_X_contrary_11 rfl (lv_at hl 0 rfl) ?_
  refine lv_iconst (v := (nI 0)) C.x C.b dc_X_contrary_12 (by decide +kernel) ?_
  refine lv_aload_n C.x C.b dc_X_contrary_13 rfl (lv_at hl 0 rfl) ?_
  refine rg_getN C h (17 + j_1) (lk_T (by omega)) rfl in_T 1 (by decide) fl_X_69 rfl dc_X_contrary_14 ?_
  refine lv_iconst (v := (mI 0)) C.x C.b dc_X_contrary_17 (by decide +kernel) ?_
  refine lv_ixor C.x C.b dc_X_contrary_18 ?_
  refine kv_I (As := [.ref (d (20 + 3 * j_1)), .int (nI 0), .int ((nI (tb j_1 0 1)) ^^^ (mI 0))]) (rest := [.ref qm_2, .ref (d 0)]) C h hl.1 (c_R_init l Γ d hm mc so tl tb wr qm_2 j_1 0 ((nI (tb j_1 0 1)) ^^^ (mI 0))) mw_R_init lk_X_73 rfl (by decide) (by decide) (Nat.le_of_ble_eq_true rfl) dc_X_contrary_19 (fun v u H locs hp h => ?_)
  obtain rfl := hp
  replace h : sT Γ s (xW Γ d hm mc so tl tb ((qm_2, (.inr (5, [.ref (d (20 + 3 * j_1)), .int (nI 0), .int ((nI (tb j_1 0 1)) ^^^ (mI 0))]) : va_E)) :: wr)) H locs := h
  refine W.eq (g2 := F0 m 22 ls [.ref qm_2, .ref (d 0)]) rfl ?_
  replace h : sT Γ s (xW Γ d hm mc so tl tb ((qm_2, (.inr (5, [.ref (d (20 + 3 * j_1)), .int (nI 0), .int ((nI (tb j_1 0 1)) ^^^ (mI 0))]) : va_E)) :: wr)) H locs := h
  refine kx_V (As := [.ref qm_2]) (rest := []) C hX h hl.1 (c_X_keep l Γ d hm mc so tl tb wr qm_2 (.inr (5, [.ref (d (20 + 3 * j_1)), .int (nI 0), .int ((nI (tb j_1 0 1)) ^^^ (mI 0))]) : va_E) (mqR (tb j_1) 0 (nI (tb j_1 0 1) ^^^ mI 0)) (mok_R (hC0.tok lt_j_1).1 (hC0.tok lt_j_1).2.1 ((hC0.tok lt_j_1).2.1.1)) (fun t ht => mox (F := fun a _ => mqR a (0) (nI (tb j_1 0 1) ^^^ mI 0)) lt_j_1 lt_j_1 ht (fun x a b => mok_R (hC0.tok lt_j_1).1 (by rw [a]; exact (hC0.tok lt_j_1).2.1) (by rw [a]; exact (hC0.tok lt_j_1).2.1.1))) hC0 hst) mw_X_keep lk_X_42 (q0 := 0) rfl rfl rfl (by decide) (by decide) (Nat.le_of_ble_eq_true rfl) dc_X_contrary_22 (fun E ce q9 u H locs hp h hc1 hc2 hc3 => ?_) (fun v u H locs hp h => ?_)
  · rw [hQ]
    exact kx_out C hno u h (Or.inr ⟨hp.1, ⟨j_1, lt_j_1, e_j_1, hp.2⟩⟩) hc1 hc2 hc3 (by decide) (by decide)
  have hv9 := hp.1
  subst hv9
  replace h : sT Γ s (xW Γ d (u.1) (u.2.1) (u.2.2.1) tl (u.2.2.2) wr) H locs := h
  refine W.eq (g2 := F0 m 25 ls [.int (nI (so 10 3))]) rfl ?_
  refine W.widen (k := 8) (n := 48) (by decide) (by decide) ?_
  rw [hQ]
  exact vx_ret (rt_i C u h (⟨j_1, lt_j_1, e_j_1, hp⟩) dc_X_contrary_25)

abbrev rm_X_beginnings : Room := { frames := 7, cells := 8, slots := 48, locals := 165 }
set_option maxRecDepth 100000 in
set_option maxHeartbeats 4000000 in
theorem c_X_beginnings (l : Launch) (Γ : gG) (d : Nat → Nat) (hm : Nat) (mc : va_E) (so : Nat → Nat → Nat) (tl : Nat → Nat → Int64) (tb : Nat → Nat → Nat → Nat) (wr : va_W) (pp : Int32) (hC0 : CS so tb) (hst : l.stackTraces = false) : cTx l Γ my_X_beginnings bc_X_beginnings 3 (some .int) rm_X_beginnings [.ref (d 0), .int pp] (xW Γ d hm mc so tl tb wr) (S := xG) (fun v u => ∃ i, i < so 10 3 ∧ pp = nI i ∧ mkP so tb (mqR (tb i) 0 (nI (tb i 0 2))) v u) (fun u => xW Γ d u.1 u.2.1 u.2.2.1 tl u.2.2.2 wr) (SX := xG) (fun E u => (E = en_iae ∧ u = (hm, mc, so, tb) ∧ ¬ ∃ i, i < so 10 3 ∧ pp = nI i) ∨ (E = en_ioe ∧ ∃ i, i < so 10 3 ∧ pp = nI i ∧ mkX so tb (mqR (tb i) 0 (nI (tb i 0 2))) u)) (fun u => xW Γ d u.1 u.2.1 u.2.2.1 tl u.2.2.2 wr) := by
  refine cTx.start (by decide) (Nat.le_of_ble_eq_true rfl) (fun p e s m args below meth c ls Q hQ C hmn hno hX h hl => ?_)
  replace hl : lv_has ls 3 [(0, .ref (d 0)), (1, .int pp)] := hl
  have h80 := hC0.2.1
  refine lv_aload_n C.x C.b dc_X_beginnings_0 rfl (lv_at hl 0 rfl) ?_
  refine lv_iload_n C.x C.b dc_X_beginnings_1 rfl (lv_at hl 1 rfl) ?_
  refine kx_V (As := [.int pp]) (rest := []) C hX h hl.1 (c_X_tableOf l Γ d hm mc so tl tb wr pp h80 hst) mw_X_tableOf lk_X_48 (q0 := 0) rfl rfl rfl (by decide) (by decide) (Nat.le_of_ble_eq_true rfl) dc_X_beginnings_2 (fun E ce q9 u H locs hp h hc1 hc2 hc3 => ?_) (fun v u H locs hp h => ?_)
  · rw [hQ]
    exact kx_out C hno (hm, mc, so, tb) h (Or.inl ⟨hp.1, rfl, fun z => by obtain ⟨i, a, c⟩ := z; exact hp.2 ⟨i, a, c⟩⟩) hc1 hc2 hc3 (by decide) (by decide)
  obtain ⟨j_1, rfl⟩ : ∃ zz9, zz9 = u := ⟨_, rfl⟩
  obtain ⟨rfl, lt_j_1, e_j_1⟩ := hp
  replace h : sT Γ s (xW Γ d hm mc so tl tb wr) H locs := h
  refine W.eq (g2 := F0 m 5 ls [.ref (d (20 + 3 * j_1))]) rfl ?_
  refine lv_astore_n (lv' := [(2, .ref (d (20 + 3 * j_1))), (0, .ref (d 0)), (1, .int pp)]) C.x C.b dc_X_beginnings_5 rfl hl (by decide) rfl (fun ls hl => ?_)
  refine lv_aload_n C.x C.b dc_X_beginnings_6 rfl (lv_at hl 1 rfl) ?_
  refine rg_newM (ci := 5) (ty := ft_R) (fs := [.null, .int 0, .int 0]) C h rfl in_R tk_R nk_X_67 ns_R ni_R (by decide +kernel) (by decide) (by decide) dc_X_beginnings_7 (fun qm_2 H h => ?_)
  refine lv_dup C.x C.b dc_X_beginnings_10 rfl ?_
  refine lv_aload_n C.x C.b dc_X_beginnings_11 rfl (lv_at hl 0 rfl) ?_
  refine lv_iconst (v := (nI 0)) C.x C.b dc_X_beginnings_12 (by decide +kernel) ?_
  refine lv_aload_n C.x C.b dc_X_beginnings_13 rfl (lv_at hl 0 rfl) ?_
  refine rg_getN C h (17 + j_1) (lk_T (by omega)) rfl in_T 2 (by decide) fl_X_85 rfl dc_X_beginnings_14 ?_
  refine kv_I (As := [.ref (d (20 + 3 * j_1)), .int (nI 0), .int (nI (tb j_1 0 2))]) (rest := [.ref qm_2, .ref (d 0)]) C h hl.1 (c_R_init l Γ d hm mc so tl tb wr qm_2 j_1 0 (nI (tb j_1 0 2))) mw_R_init lk_X_73 rfl (by decide) (by decide) (Nat.le_of_ble_eq_true rfl) dc_X_beginnings_17 (fun v u H locs hp h => ?_)
  obtain rfl := hp
  replace h : sT Γ s (xW Γ d hm mc so tl tb ((qm_2, (.inr (5, [.ref (d (20 + 3 * j_1)), .int (nI 0), .int (nI (tb j_1 0 2))]) : va_E)) :: wr)) H locs := h
  refine W.eq (g2 := F0 m 20 ls [.ref qm_2, .ref (d 0)]) rfl ?_
  replace h : sT Γ s (xW Γ d hm mc so tl tb ((qm_2, (.inr (5, [.ref (d (20 + 3 * j_1)), .int (nI 0), .int (nI (tb j_1 0 2))]) : va_E)) :: wr)) H locs := h
  refine kx_V (As := [.ref qm_2]) (rest := []) C hX h hl.1 (c_X_keep l Γ d hm mc so tl tb wr qm_2 (.inr (5, [.ref (d (20 + 3 * j_1)), .int (nI 0), .int (nI (tb j_1 0 2))]) : va_E) (mqR (tb j_1) 0 (nI (tb j_1 0 2))) (mok_R (hC0.tok lt_j_1).1 (hC0.tok lt_j_1).2.1 ((hC0.tok lt_j_1).2.1.1)) (fun t ht => mox (F := fun a _ => mqR a (0) (nI (tb j_1 0 2))) lt_j_1 lt_j_1 ht (fun x a b => mok_R (hC0.tok lt_j_1).1 (by rw [a]; exact (hC0.tok lt_j_1).2.1) (by rw [a]; exact (hC0.tok lt_j_1).2.1.1))) hC0 hst) mw_X_keep lk_X_42 (q0 := 0) rfl rfl rfl (by decide) (by decide) (Nat.le_of_ble_eq_true rfl) dc_X_beginnings_20 (fun E ce q9 u H locs hp h hc1 hc2 hc3 => ?_) (fun v u H locs hp h => ?_)
  · rw [hQ]
    exact kx_out C hno u h (Or.inr ⟨hp.1, ⟨j_1, lt_j_1, e_j_1, hp.2⟩⟩) hc1 hc2 hc3 (by decide) (by decide)
  have hv9 := hp.1
  subst hv9
  replace h : sT Γ s (xW Γ d (u.1) (u.2.1) (u.2.2.1) tl (u.2.2.2) wr) H locs := h
  refine W.eq (g2 := F0 m 23 ls [.int (nI (so 10 3))]) rfl ?_
  refine W.widen (k := 8) (n := 48) (by decide) (by decide) ?_
  rw [hQ]
  exact vx_ret (rt_i C u h (⟨j_1, lt_j_1, e_j_1, hp⟩) dc_X_beginnings_23)

abbrev rm_X_rest : Room := { frames := 7, cells := 8, slots := 48, locals := 165 }
set_option maxRecDepth 100000 in
set_option maxHeartbeats 4000000 in
theorem c_X_rest (l : Launch) (Γ : gG) (d : Nat → Nat) (hm : Nat) (mc : va_E) (so : Nat → Nat → Nat) (tl : Nat → Nat → Int64) (tb : Nat → Nat → Nat → Nat) (wr : va_W) (pp ll : Int32) (hC0 : CS so tb) (hst : l.stackTraces = false) : cTx l Γ my_X_rest bc_X_rest 4 (some .int) rm_X_rest [.ref (d 0), .int pp, .int ll] (xW Γ d hm mc so tl tb wr) (S := xG) (fun v u => ∃ i lt, i < so 10 3 ∧ lt < 3 ∧ pp = nI i ∧ ll = nI lt ∧ mkP so tb (mqR (tb i) (tb i 1 (0 * 3 + lt)) (nI (tb i 0 1))) v u) (fun u => xW Γ d u.1 u.2.1 u.2.2.1 tl u.2.2.2 wr) (SX := xG) (fun E u => (E = en_iae ∧ u = (hm, mc, so, tb) ∧ ¬ ∃ i lt, i < so 10 3 ∧ lt < 3 ∧ pp = nI i ∧ ll = nI lt) ∨ (E = en_ioe ∧ ∃ i lt, i < so 10 3 ∧ lt < 3 ∧ pp = nI i ∧ ll = nI lt ∧ mkX so tb (mqR (tb i) (tb i 1 (0 * 3 + lt)) (nI (tb i 0 1))) u)) (fun u => xW Γ d u.1 u.2.1 u.2.2.1 tl u.2.2.2 wr) := by
  refine cTx.start (by decide) (Nat.le_of_ble_eq_true rfl) (fun p e s m args below meth c ls Q hQ C hmn hno hX h hl => ?_)
  replace hl : lv_has ls 4 [(0, .ref (d 0)), (1, .int pp), (2, .int ll)] := hl
  have h80 := hC0.2.1
  refine lv_aload_n C.x C.b dc_X_rest_0 rfl (lv_at hl 0 rfl) ?_
  refine lv_iload_n C.x C.b dc_X_rest_1 rfl (lv_at hl 1 rfl) ?_
  refine kx_V (As := [.int pp]) (rest := []) C hX h hl.1 (c_X_tableOf l Γ d hm mc so tl tb wr pp h80 hst) mw_X_tableOf lk_X_48 (q0 := 0) rfl rfl rfl (by decide) (by decide) (Nat.le_of_ble_eq_true rfl) dc_X_rest_2 (fun E ce q9 u H locs hp h hc1 hc2 hc3 => ?_) (fun v u H locs hp h => ?_)
  · rw [hQ]
    exact kx_out C hno (hm, mc, so, tb) h (Or.inl ⟨hp.1, rfl, fun z => by obtain ⟨i, b, a, hb, c, -⟩ := z; exact hp.2 ⟨i, a, c⟩⟩) hc1 hc2 hc3 (by decide) (by decide)
  obtain ⟨j_1, rfl⟩ : ∃ zz9, zz9 = u := ⟨_, rfl⟩
  obtain ⟨rfl, lt_j_1, e_j_1⟩ := hp
  replace h : sT Γ s (xW Γ d hm mc so tl tb wr) H locs := h
  refine W.eq (g2 := F0 m 5 ls [.ref (d (20 + 3 * j_1))]) rfl ?_
  refine lv_astore_n (lv' := [(3, .ref (d (20 + 3 * j_1))), (0, .ref (d 0)), (1, .int pp), (2, .int ll)]) C.x C.b dc_X_rest_5 rfl hl (by decide) rfl (fun ls hl => ?_)
  refine lv_iload_n C.x C.b dc_X_rest_6 rfl (lv_at hl 3 rfl) ?_
  refine lv_if_lt (tgt := 15) C.x C.b dc_X_rest_7 (by decide) (fun q7 => ?_) (fun q7 => ?_)
  · rw [hQ]
    exact rt_thr (names := ns_iae) C hst hno hX hl.1 (hm, mc, so, tb) h (Or.inl ⟨rfl, rfl, fun z => by obtain ⟨i, b, -, hb, -, e⟩ := z; subst e; first | exact nI_pos (by omega) q7 | exact q12 (nI_lt hb (by decide))⟩) (by decide) (by decide) tw_iae tk_iae ti_iae (text := "no such letter") (by decide) dc_X_rest_15 dc_X_rest_18 dc_X_rest_19 dc_X_rest_21 dc_X_rest_24 (by decide) (Nat.le_of_ble_eq_true rfl) (by decide) (by decide) (by decide) (by decide)
  · refine lv_iload_n C.x C.b dc_X_rest_10 rfl (lv_at hl 3 rfl) ?_
    refine lv_iconst (v := (nI 3)) C.x C.b dc_X_rest_11 (by decide +kernel) ?_
    refine lv_icmp_lt (tgt := 25) C.x C.b dc_X_rest_12 (by decide) (fun q12 => ?_) (fun q12 => ?_)
    · obtain ⟨lt, hlt, elt⟩ : ∃ lt, lt < 3 ∧ ll = nI lt := by
        rcases pk_ix ll (n := 3) (by decide) with z | z | z
        · exact absurd z q7
        · exact absurd q12 (Int32.not_lt.mpr z)
        · exact z
      subst elt
      refine lv_aload_n C.x C.b dc_X_rest_25 rfl (lv_at hl 1 rfl) ?_
      refine rg_newM (ci := 5) (ty := ft_R) (fs := [.null, .int 0, .int 0]) C h rfl in_R tk_R nk_X_67 ns_R ni_R (by decide +kernel) (by decide) (by decide) dc_X_rest_26 (fun qm_2 H h => ?_)
      refine lv_dup C.x C.b dc_X_rest_29 rfl ?_
      refine lv_aload_n C.x C.b dc_X_rest_30 rfl (lv_at hl 0 rfl) ?_
      refine lv_aload_n C.x C.b dc_X_rest_31 rfl (lv_at hl 0 rfl) ?_
      refine lv_iconst (v := (nI 0)) C.x C.b dc_X_rest_32 (by decide +kernel) ?_
      refine lv_iload_n C.x C.b dc_X_rest_33 rfl (lv_at hl 3 rfl) ?_
      refine kv_V (As := [.int (nI 0), .int (nI lt)]) (rest := [.ref (d (20 + 3 * j_1)), .ref qm_2, .ref qm_2, .ref (d 0)]) C h hl.1 (c_T_after l Γ d hm mc so tl tb ((qm_2, .inr (5, [.null, .int 0, .int 0])) :: wr) j_1 0 lt (by omega) (by omega) (by omega)) mw_T_after lk_X_81 (q0 := (17 + j_1)) (lk_T (by omega)) rfl rfl (by decide) (by decide) (Nat.le_of_ble_eq_true rfl) dc_X_rest_34 (fun v u H locs hp h => ?_)
      obtain rfl := hp
      replace h : sT Γ s (xW Γ d hm mc so tl tb ((qm_2, .inr (5, [.null, .int 0, .int 0])) :: wr)) H locs := h
      refine W.eq (g2 := F0 m 37 ls [.int (nI (tb j_1 1 (0 * 3 + lt))), .ref (d (20 + 3 * j_1)), .ref qm_2, .ref qm_2, .ref (d 0)]) rfl ?_
      refine lv_aload_n C.x C.b dc_X_rest_37 rfl (lv_at hl 0 rfl) ?_
      refine rg_getN C h (17 + j_1) (lk_T (by omega)) rfl in_T 1 (by decide) fl_X_69 rfl dc_X_rest_38 ?_
      refine kv_I (As := [.ref (d (20 + 3 * j_1)), .int (nI (tb j_1 1 (0 * 3 + lt))), .int (nI (tb j_1 0 1))]) (rest := [.ref qm_2, .ref (d 0)]) C h hl.1 (c_R_init l Γ d hm mc so tl tb wr qm_2 j_1 (tb j_1 1 (0 * 3 + lt)) (nI (tb j_1 0 1))) mw_R_init lk_X_73 rfl (by decide) (by decide) (Nat.le_of_ble_eq_true rfl) dc_X_rest_41 (fun v u H locs hp h => ?_)
      obtain rfl := hp
      replace h : sT Γ s (xW Γ d hm mc so tl tb ((qm_2, (.inr (5, [.ref (d (20 + 3 * j_1)), .int (nI (tb j_1 1 (0 * 3 + lt))), .int (nI (tb j_1 0 1))]) : va_E)) :: wr)) H locs := h
      refine W.eq (g2 := F0 m 44 ls [.ref qm_2, .ref (d 0)]) rfl ?_
      replace h : sT Γ s (xW Γ d hm mc so tl tb ((qm_2, (.inr (5, [.ref (d (20 + 3 * j_1)), .int (nI (tb j_1 1 (0 * 3 + lt))), .int (nI (tb j_1 0 1))]) : va_E)) :: wr)) H locs := h
      refine kx_V (As := [.ref qm_2]) (rest := []) C hX h hl.1 (c_X_keep l Γ d hm mc so tl tb wr qm_2 (.inr (5, [.ref (d (20 + 3 * j_1)), .int (nI (tb j_1 1 (0 * 3 + lt))), .int (nI (tb j_1 0 1))]) : va_E) (mqR (tb j_1) (tb j_1 1 (0 * 3 + lt)) (nI (tb j_1 0 1))) (mok_R (hC0.tok lt_j_1).1 (hC0.tok lt_j_1).2.1 ((hC0.tok lt_j_1).2.1.2.2.2.2 0 lt (hC0.tok lt_j_1).2.1.1 hlt)) (fun t ht => mox (F := fun a _ => mqR a (tb j_1 1 (0 * 3 + lt)) (nI (tb j_1 0 1))) lt_j_1 lt_j_1 ht (fun x a b => mok_R (hC0.tok lt_j_1).1 (by rw [a]; exact (hC0.tok lt_j_1).2.1) (by rw [a]; exact (hC0.tok lt_j_1).2.1.2.2.2.2 0 lt (hC0.tok lt_j_1).2.1.1 hlt))) hC0 hst) mw_X_keep lk_X_42 (q0 := 0) rfl rfl rfl (by decide) (by decide) (Nat.le_of_ble_eq_true rfl) dc_X_rest_44 (fun E ce q9 u H locs hp h hc1 hc2 hc3 => ?_) (fun v u H locs hp h => ?_)
      · rw [hQ]
        exact kx_out C hno u h (Or.inr ⟨hp.1, ⟨j_1, lt, lt_j_1, hlt, e_j_1, rfl, hp.2⟩⟩) hc1 hc2 hc3 (by decide) (by decide)
      have hv9 := hp.1
      subst hv9
      replace h : sT Γ s (xW Γ d (u.1) (u.2.1) (u.2.2.1) tl (u.2.2.2) wr) H locs := h
      refine W.eq (g2 := F0 m 47 ls [.int (nI (so 10 3))]) rfl ?_
      refine W.widen (k := 8) (n := 48) (by decide) (by decide) ?_
      rw [hQ]
      exact vx_ret (rt_i C u h (⟨j_1, lt, lt_j_1, hlt, e_j_1, rfl, hp⟩) dc_X_rest_47)
    · rw [hQ]
      exact rt_thr (names := ns_iae) C hst hno hX hl.1 (hm, mc, so, tb) h (Or.inl ⟨rfl, rfl, fun z => by obtain ⟨i, b, -, hb, -, e⟩ := z; subst e; first | exact nI_pos (by omega) q7 | exact q12 (nI_lt hb (by decide))⟩) (by decide) (by decide) tw_iae tk_iae ti_iae (text := "no such letter") (by decide) dc_X_rest_15 dc_X_rest_18 dc_X_rest_19 dc_X_rest_21 dc_X_rest_24 (by decide) (Nat.le_of_ble_eq_true rfl) (by decide) (by decide) (by decide) (by decide)

