/-! a word's letters, two bits each -/
def wl (x : Int64) (k : Nat) : Nat := x.toBitVec.toNat / 2 ^ (2 * k) % 4
def wL (x : Int64) (n : Nat) : List Nat := (List.range n).map (wl x)
theorem wl_sh : ∀ k, k < 30 → ((nI (2 * k)).toInt64.toUInt64 &&& Int64.toUInt64 63) = UInt64.ofNat (2 * k) := by decide +kernel
theorem wl_c (x : Int64) {k : Nat} (hk : k < 30) : (x.toUInt64 >>> ((nI (2 * k)).toInt64.toUInt64 &&& Int64.toUInt64 63)).toInt64.toInt32 &&& nI 3 = nI (wl x k) := by
  rw [wl_sh k hk, pk_and _ 2 (by decide)]
  have e2 : ((x.toUInt64 >>> UInt64.ofNat (2 * k)).toInt64.toInt32).toBitVec.toNat = x.toBitVec.toNat / 2 ^ (2 * k) % 2 ^ 32 := by
    rw [Int64.toBitVec_toInt32, BitVec.signExtend_eq_setWidth_of_le _ (by decide), BitVec.toNat_setWidth]
    congr 1
    show ((x.toUInt64 >>> UInt64.ofNat (2 * k)).toBitVec).toNat = _
    have e3 : (UInt64.ofNat (2 * k)).toNat = 2 * k := by rw [UInt64.toNat_ofNat']; omega
    rw [UInt64.toNat_toBitVec, UInt64.toNat_shiftRight, e3, Nat.mod_eq_of_lt (show 2 * k < 64 by omega), Nat.shiftRight_eq_div_pow]
    rfl
  rw [e2]
  unfold wl
  congr 1
  omega
theorem wL_s (x : Int64) (k : Nat) : wL x (k + 1) = wL x k ++ [wl x k] := by simp [wL, List.range_succ]
theorem wL_run (t : Nat → Nat → Nat) (x : Int64) (k : Nat) : t 1 (mrun (tM t) 0 (wL x k) * 3 + wl x k) = mrun (tM t) 0 (wL x (k + 1)) := by
  rw [wL_s, mrun_snoc]; rfl
theorem wL_lts {x : Int64} {n : Nat} (h : ∀ k, k < n → wl x k < 3) : lts (wL x n) := by
  intro l hl
  obtain ⟨k, hk, rfl⟩ := List.mem_map.mp hl
  exact h k (List.mem_range.mp hk)
theorem tOK.nx {t : Nat → Nat → Nat} (h : tOK t) {k : Nat} (hk : k < t 0 0 * 3) : t 1 k < t 0 0 := by
  have := h.2.2.2.2 (k / 3) (k % 3) (by omega) (by omega)
  rw [show k / 3 * 3 + k % 3 = k by omega] at this
  exact this
theorem tOK.nx10 {t : Nat → Nat → Nat} (h : tOK t) : ∀ k, k < t 0 0 * 3 → t 1 k < 10 := fun _ hk => Nat.lt_of_lt_of_le (h.nx hk) h.2.1
/-! the first shortest word -/
def nxl (e : Nat) (nx : Nat → Nat) (n r : Nat) : Nat := if dlv e nx n (nx (r * 3)) = true then 0 else if dlv e nx n (nx (r * 3 + 1)) = true then 1 else 2
/-- the rest behind k letters of r's first word of n letters -/
def lst (e : Nat) (nx : Nat → Nat) (n r : Nat) : Nat → Nat
  | 0 => r
  | k + 1 => nx (lst e nx n r k * 3 + nxl e nx (n - k - 1) (lst e nx n r k))
theorem nxl_lt (e : Nat) (nx : Nat → Nat) (n r : Nat) : nxl e nx n r < 3 := by unfold nxl; split <;> (try split) <;> decide
theorem nxl_u {e : Nat} {nx : Nat → Nat} {n r q : Nat} (h3 : q < 3) (hq : dlv e nx n (nx (r * 3 + q)) = true) (hn : ∀ l, l < q → dlv e nx n (nx (r * 3 + l)) = false) : nxl e nx n r = q := by
  unfold nxl
  have : q = 0 ∨ q = 1 ∨ q = 2 := by omega
  rcases this with rfl | rfl | rfl
  · rw [Nat.add_zero] at hq; rw [if_pos hq]
  · have := hn 0 (by decide); rw [Nat.add_zero] at this
    rw [if_neg (by rw [this]; decide), if_pos hq]
  · have := hn 0 (by decide); rw [Nat.add_zero] at this
    rw [if_neg (by rw [this]; decide), if_neg (by rw [hn 1 (by decide)]; decide)]
/-- behind a letter of a rest whose shortest word has k + 1 letters: code k + 1 just where a word of k letters is -/
theorem tG.near {t : Nat → Nat → Nat} (h : tG t) {r k l : Nat} (hr : r < t 0 0) (hl : l < 3) (hc : t 2 r = k + 2) : t 2 (t 1 (r * 3 + l)) = k + 1 ↔ dlv (t 0 1) (t 1) k (t 1 (r * 3 + l)) = true := by
  obtain ⟨⟨-, a⟩, b, -⟩ := h.2.2.2 r hr
  obtain ⟨-, a2⟩ := a (k + 1) hc
  have hn := h.1.2.2.2.2 r l hr hl
  obtain ⟨⟨c0, c1⟩, -, -⟩ := h.2.2.2 _ hn
  constructor
  · intro e
    exact (c1 k e).1
  · intro e
    cases hx : t 2 (t 1 (r * 3 + l)) with
    | zero => rw [c0 hx k (by omega)] at e; cases e
    | succ x =>
      obtain ⟨y, z⟩ := c1 x hx
      by_cases h1 : x = k
      · rw [h1]
      · exfalso
        by_cases h2 : x < k
        · have := a2 (x + 1) (by omega)
          rw [dlv_s.mpr ⟨l, hl, y⟩] at this
          cases this
        · rw [z k (by omega)] at e; cases e
theorem tG.nearer {t : Nat → Nat → Nat} (h : tG t) {r k q : Nat} (hr : r < t 0 0) (hc : t 2 r = k + 2) (q3 : q ≤ 3) (qn : ∀ l, l < q → t 2 (t 1 (r * 3 + l)) ≠ k + 1) (qy : q < 3 → t 2 (t 1 (r * 3 + q)) = k + 1) : q = nxl (t 0 1) (t 1) k r ∧ q < 3 ∧ t 2 (t 1 (r * 3 + q)) = k + 1 ∧ t 1 (r * 3 + q) < t 0 0 := by
  have hq : q < 3 := by
    apply Classical.byContradiction
    intro hq
    have e3 : q = 3 := by omega
    obtain ⟨⟨-, a⟩, -, -⟩ := h.2.2.2 r hr
    obtain ⟨l, hl, y⟩ := dlv_s.mp (a (k + 1) hc).1
    exact qn l (by omega) ((h.near hr hl hc).mpr y)
  refine ⟨(nxl_u hq ((h.near hr hq hc).mp (qy hq)) (fun l hl => ?_)).symm, hq, qy hq, h.1.2.2.2.2 r q hr hq⟩
  cases hd : dlv (t 0 1) (t 1) k (t 1 (r * 3 + l)) with
  | false => rfl
  | true => exact absurd ((h.near hr (by omega) hc).mpr hd) (qn l hl)
theorem tG.far {t : Nat → Nat → Nat} (h : tG t) {r : Nat} (hr : r < t 0 0) : t 2 r < 2 ^ 31 ∧ t 2 r ≤ 11 := by
  have a := (h.2.2.2 r hr).2.1
  have b := h.1.2.1
  exact ⟨by omega, by omega⟩
theorem nI_mlt {a b : Nat} (ha : a < 2 ^ 31) (hb : b < 2 ^ 31) : nI a < mI b ↔ a + 1 < b := by
  rw [Int32.lt_iff_toInt_lt, mI_toInt hb, nI_toInt ha]
  omega
/-! how many -/
theorem sum3_le {f : Nat → Nat} {b : Nat} (h : ∀ l, f l ≤ b) : ∀ q, sum3 f q ≤ q * b
  | 0 => by rw [sum3]; omega
  | q + 1 => by have := sum3_le h q; have := h q; rw [sum3, Nat.succ_mul]; omega
theorem cnt_le (e : Nat) (nx : Nat → Nat) : ∀ k r, cnt e nx k r ≤ 3 ^ k
  | 0, r => by rw [cnt]; cases e.testBit r <;> decide
  | k + 1, r => by
    rw [cnt]
    have := sum3_le (f := fun l => cnt e nx k (nx (r * 3 + l))) (b := 3 ^ k) (fun l => cnt_le e nx k _) 3
    rw [Nat.pow_succ]; omega
def scn (e : Nat) (nx : Nat → Nat) (r : Nat) : Nat → Nat
  | 0 => 0
  | n + 1 => scn e nx r n + cnt e nx n r
theorem scn_le (e : Nat) (nx : Nat → Nat) (r : Nat) : ∀ n, 2 * scn e nx r n + 1 ≤ 3 ^ n
  | 0 => by rw [scn]; decide
  | n + 1 => by have := scn_le e nx r n; have := cnt_le e nx n r; rw [scn, Nat.pow_succ]; omega
theorem lI_toInt {n : Nat} (h : n < 2 ^ 63) : (lI n).toInt = (n : Int) := Int64.toInt_ofNat_of_lt h
theorem cmp_le {a b : Nat} (ha : a < 2 ^ 63) (hb : b < 2 ^ 63) : lg_cmp (lI a) (lI b) ≤ 0 ↔ a ≤ b := by
  have e : lI b < lI a ↔ b < a := by rw [Int64.lt_iff_toInt_lt, lI_toInt ha, lI_toInt hb]; omega
  unfold lg_cmp
  by_cases h : b < a
  · rw [if_pos (e.mpr h)]
    exact ⟨fun z => absurd z (by decide), fun z => by omega⟩
  · rw [if_neg (fun z => h (e.mp z))]
    refine ⟨fun _ => by omega, fun _ => ?_⟩
    split <;> decide
theorem lI_i (n : Nat) : (lI n).toInt32 = nI n := Int64.toInt32_ofNat'
def p3_20 : ∀ n, n ≤ 20 → 3 ^ n ≤ 3486784401 := by decide +kernel

set_option maxRecDepth 100000 in theorem gw_l133 : Cond.constantLong rn_X 133 1000000000 ∈ gw := gw_t 628 rfl rfl
abbrev rm_X_rests : Room := { frames := 7, cells := 6, slots := 40, locals := 103 }
set_option maxRecDepth 100000 in
set_option maxHeartbeats 4000000 in
theorem c_X_rests (l : Launch) (Γ : gG) (d : Nat → Nat) (hm : Nat) (mc : va_E) (so : Nat → Nat → Nat) (tl : Nat → Nat → Int64) (tb : Nat → Nat → Nat → Nat) (wr : va_W) (pp : Int32) (hC0 : CS so tb) (hst : l.stackTraces = false) : cTx l Γ my_X_rests bc_X_rests 2 (some .int) rm_X_rests [.ref (d 0), .int pp] (xW Γ d hm mc so tl tb wr) (S := Unit) (fun v u => ∃ i, (i < so 10 3 ∧ pp = nI i) ∧ v = some (.int (nI (tb i 0 0)))) (fun _ => xW Γ d hm mc so tl tb wr) (SX := Unit) (fun E _ => E = en_iae ∧ ¬ ∃ i, i < so 10 3 ∧ pp = nI i) (fun _ => xW Γ d hm mc so tl tb wr) := by
  refine cTx.start (by decide) (Nat.le_of_ble_eq_true rfl) (fun p e s m args below meth c ls Q hQ C hmn hno hX h hl => ?_)
  replace hl : lv_has ls 2 [(0, .ref (d 0)), (1, .int pp)] := hl
  have h80 := hC0.2.1
  refine lv_aload_n C.x C.b dc_X_rests_0 rfl (lv_at hl 0 rfl) ?_
  refine lv_iload_n C.x C.b dc_X_rests_1 rfl (lv_at hl 1 rfl) ?_
  refine kx_V (As := [.int pp]) (rest := []) C hX h hl.1 (c_X_tableOf l Γ d hm mc so tl tb wr pp h80 hst) mw_X_tableOf lk_X_48 (q0 := 0) rfl rfl rfl (by decide) (by decide) (Nat.le_of_ble_eq_true rfl) dc_X_rests_2 (fun E ce q9 u H locs hp h hc1 hc2 hc3 => ?_) (fun v u H locs hp h => ?_)
  · rw [hQ]
    exact kx_out C hno () h (⟨hp.1, fun z => by obtain ⟨i, a, c⟩ := z; exact hp.2 ⟨i, a, c⟩⟩) hc1 hc2 hc3 (by decide) (by decide)
  obtain ⟨j_1, rfl⟩ : ∃ zz9, zz9 = u := ⟨_, rfl⟩
  obtain ⟨rfl, lt_j_1, e_j_1⟩ := hp
  replace h : sT Γ s (xW Γ d hm mc so tl tb wr) H locs := h
  refine W.eq (g2 := F0 m 5 ls [.ref (d (20 + 3 * j_1))]) rfl ?_
  refine rg_getN C h (17 + j_1) (lk_T (by omega)) rfl in_T 0 (by decide) fl_X_106 rfl dc_X_rests_5 ?_
  refine W.widen (k := 6) (n := 40) (by decide) (by decide) ?_
  rw [hQ]
  exact vx_ret (rt_i C () h (⟨j_1, ⟨lt_j_1, e_j_1⟩, rfl⟩) dc_X_rests_8)

abbrev rm_X_same : Room := { frames := 7, cells := 6, slots := 40, locals := 103 }
set_option maxRecDepth 100000 in
set_option maxHeartbeats 4000000 in
theorem c_X_same (l : Launch) (Γ : gG) (d : Nat → Nat) (hm : Nat) (mc : va_E) (so : Nat → Nat → Nat) (tl : Nat → Nat → Int64) (tb : Nat → Nat → Nat → Nat) (wr : va_W) (pp qq : Int32) (hC0 : CS so tb) (hst : l.stackTraces = false) : cTx l Γ my_X_same bc_X_same 3 (some .boolean) rm_X_same [.ref (d 0), .int pp, .int qq] (xW Γ d hm mc so tl tb wr) (S := Unit) (fun v u => ∃ i j, (i < so 10 3 ∧ j < so 10 3 ∧ pp = nI i ∧ qq = nI j) ∧ ∃ b : Bool, v = some (.int (bI b)) ∧ (b = true ↔ (tb i 0 0 = tb j 0 0 ∧ tb i 0 1 = tb j 0 1 ∧ ∀ k, k < tb i 0 0 * 3 → tb i 1 k = tb j 1 k))) (fun _ => xW Γ d hm mc so tl tb wr) (SX := Unit) (fun E _ => E = en_iae ∧ ¬ ∃ i j, i < so 10 3 ∧ j < so 10 3 ∧ pp = nI i ∧ qq = nI j) (fun _ => xW Γ d hm mc so tl tb wr) := by
  refine cTx.start (by decide) (Nat.le_of_ble_eq_true rfl) (fun p e s m args below meth c ls Q hQ C hmn hno hX h hl => ?_)
  replace hl : lv_has ls 3 [(0, .ref (d 0)), (1, .int pp), (2, .int qq)] := hl
  have h80 := hC0.2.1
  refine lv_aload_n C.x C.b dc_X_same_0 rfl (lv_at hl 0 rfl) ?_
  refine lv_iload_n C.x C.b dc_X_same_1 rfl (lv_at hl 1 rfl) ?_
  refine kx_V (As := [.int pp]) (rest := []) C hX h hl.1 (c_X_tableOf l Γ d hm mc so tl tb wr pp h80 hst) mw_X_tableOf lk_X_48 (q0 := 0) rfl rfl rfl (by decide) (by decide) (Nat.le_of_ble_eq_true rfl) dc_X_same_2 (fun E ce q9 u H locs hp h hc1 hc2 hc3 => ?_) (fun v u H locs hp h => ?_)
  · rw [hQ]
    exact kx_out C hno () h (⟨hp.1, fun z => by obtain ⟨i, j, a, b, c, d9⟩ := z; exact hp.2 ⟨i, a, c⟩⟩) hc1 hc2 hc3 (by decide) (by decide)
  obtain ⟨j_1, rfl⟩ : ∃ zz9, zz9 = u := ⟨_, rfl⟩
  obtain ⟨rfl, lt_j_1, e_j_1⟩ := hp
  replace h : sT Γ s (xW Γ d hm mc so tl tb wr) H locs := h
  refine W.eq (g2 := F0 m 5 ls [.ref (d (20 + 3 * j_1))]) rfl ?_
  refine lv_aload_n C.x C.b dc_X_same_5 rfl (lv_at hl 0 rfl) ?_
  refine lv_iload_n C.x C.b dc_X_same_6 rfl (lv_at hl 2 rfl) ?_
  refine kx_V (As := [.int qq]) (rest := [.ref (d (20 + 3 * j_1))]) C hX h hl.1 (c_X_tableOf l Γ d hm mc so tl tb wr qq h80 hst) mw_X_tableOf lk_X_48 (q0 := 0) rfl rfl rfl (by decide) (by decide) (Nat.le_of_ble_eq_true rfl) dc_X_same_7 (fun E ce q9 u H locs hp h hc1 hc2 hc3 => ?_) (fun v u H locs hp h => ?_)
  · rw [hQ]
    exact kx_out C hno () h (⟨hp.1, fun z => by obtain ⟨i, j, a, b, c, d9⟩ := z; exact hp.2 ⟨j, b, d9⟩⟩) hc1 hc2 hc3 (by decide) (by decide)
  obtain ⟨j_2, rfl⟩ : ∃ zz9, zz9 = u := ⟨_, rfl⟩
  obtain ⟨rfl, lt_j_2, e_j_2⟩ := hp
  replace h : sT Γ s (xW Γ d hm mc so tl tb wr) H locs := h
  refine W.eq (g2 := F0 m 10 ls [.ref (d (20 + 3 * j_2)), .ref (d (20 + 3 * j_1))]) rfl ?_
  obtain ⟨ha80, hak, -⟩ := hC0.tok lt_j_1
  obtain ⟨hb80, hbk, -⟩ := hC0.tok lt_j_2
  have a3 := hak.2.2.1
  have b3 := hbk.2.2.1
  refine kv_V (As := [.ref (d (20 + 3 * j_2))]) (rest := []) C h hl.1 (c_T_matches l Γ d hm mc so tl tb wr j_1 j_2 ha80 hb80 hak.2.1 hbk.2.1 (by omega) (by omega) hak.nx10 hbk.nx10) mw_T_matches lk_X_94 (q0 := (17 + j_1)) (lk_T (by omega)) rfl rfl (by decide) (by decide) (Nat.le_of_ble_eq_true rfl) dc_X_same_10 (fun v u H locs hp h => ?_)
  obtain ⟨bq, rfl⟩ : ∃ zz9, zz9 = u := ⟨_, rfl⟩
  obtain ⟨rfl, hbq⟩ := hp
  replace h : sT Γ s (xW Γ d hm mc so tl tb wr) H locs := h
  refine W.eq (g2 := F0 m 13 ls [.int (bI bq)]) rfl ?_
  refine W.widen (k := 6) (n := 40) (by decide) (by decide) ?_
  rw [hQ]
  exact vx_ret (rt_z C () h (⟨j_1, j_2, ⟨lt_j_1, lt_j_2, e_j_1, e_j_2⟩, bq, rfl, hbq⟩) (bI_01 _) dc_X_same_13)

abbrev rm_X_count : Room := { frames := 0, cells := 0, slots := 0, locals := 0 }
set_option maxRecDepth 100000 in
set_option maxHeartbeats 4000000 in
theorem c_X_count (l : Launch) (Γ : gG) (d : Nat → Nat) (hm : Nat) (mc : va_E) (so : Nat → Nat → Nat) (tl : Nat → Nat → Int64) (tb : Nat → Nat → Nat → Nat) (wr : va_W) : cT l Γ my_X_count bc_X_count 1 (some .int) rm_X_count [.ref (d 0)] (xW Γ d hm mc so tl tb wr) (S := Unit) (fun v _ => v = some (.int (nI (so 10 3)))) (fun _ => xW Γ d hm mc so tl tb wr) := by
  refine cT.start (by decide) (Nat.le_of_ble_eq_true rfl) (fun p e s m args below meth c ls Q hQ C hmn h hl => ?_)
  replace hl : lv_has ls 1 [(0, .ref (d 0))] := hl
  refine lv_aload_n C.x C.b dc_X_count_0 rfl (lv_at hl 0 rfl) ?_
  refine rg_get C h 0 rfl rfl in_X 3 (by decide) fl_X_135 rfl dc_X_count_1 ?_
  rw [hQ]
  exact rt_i C () h (rfl) dc_X_count_4

abbrev rm_X_has : Room := { frames := 7, cells := 6, slots := 40, locals := 103 }
set_option maxRecDepth 100000 in
set_option maxHeartbeats 4000000 in
theorem c_X_has (l : Launch) (Γ : gG) (d : Nat → Nat) (hm : Nat) (mc : va_E) (so : Nat → Nat → Nat) (tl : Nat → Nat → Int64) (tb : Nat → Nat → Nat → Nat) (wr : va_W) (pp nn : Int32) (wd : Int64) (hC0 : CS so tb) (hst : l.stackTraces = false) : cTx l Γ my_X_has bc_X_has 9 (some .boolean) rm_X_has [.ref (d 0), .int pp, .int nn, .long wd] (xW Γ d hm mc so tl tb wr) (S := Unit) (fun v u => ∃ j n, (j < so 10 3 ∧ pp = nI j ∧ n ≤ 30 ∧ nn = nI n ∧ ∀ k, k < n → wl wd k < 3) ∧ v = some (.int (bI (macc (tM (tb j)) 0 (wL wd n))))) (fun _ => xW Γ d hm mc so tl tb wr) (SX := Unit) (fun E _ => E = en_iae ∧ ¬ ∃ j n, j < so 10 3 ∧ pp = nI j ∧ n ≤ 30 ∧ nn = nI n ∧ ∀ k, k < n → wl wd k < 3) (fun _ => xW Γ d hm mc so tl tb wr) := by
  refine cTx.start (by decide) (Nat.le_of_ble_eq_true rfl) (fun p e s m args below meth c ls Q hQ C hmn hno hX h hl => ?_)
  replace hl : lv_has ls 9 [(0, .ref (d 0)), (1, .int pp), (2, .int nn), (3, .long wd)] := hl
  have h80 := hC0.2.1
  refine lv_aload_n C.x C.b dc_X_has_0 rfl (lv_at hl 0 rfl) ?_
  refine lv_iload_n C.x C.b dc_X_has_1 rfl (lv_at hl 1 rfl) ?_
  refine kx_V (As := [.int pp]) (rest := []) C hX h hl.1 (c_X_tableOf l Γ d hm mc so tl tb wr pp h80 hst) mw_X_tableOf lk_X_48 (q0 := 0) rfl rfl rfl (by decide) (by decide) (Nat.le_of_ble_eq_true rfl) dc_X_has_2 (fun E ce q9 u H locs hp h hc1 hc2 hc3 => ?_) (fun v u H locs hp h => ?_)
  · rw [hQ]
    exact kx_out C hno () h (⟨hp.1, fun z => by obtain ⟨j, n, a, c, -⟩ := z; exact hp.2 ⟨j, a, c⟩⟩) hc1 hc2 hc3 (by decide) (by decide)
  obtain ⟨j_1, rfl⟩ : ∃ zz9, zz9 = u := ⟨_, rfl⟩
  obtain ⟨rfl, lt_j_1, e_j_1⟩ := hp
  replace h : sT Γ s (xW Γ d hm mc so tl tb wr) H locs := h
  refine W.eq (g2 := F0 m 5 ls [.ref (d (20 + 3 * j_1))]) rfl ?_
  refine lv_astore (lv' := [(5, .ref (d (20 + 3 * j_1))), (0, .ref (d 0)), (1, .int pp), (2, .int nn), (3, .long wd)]) C.x C.b dc_X_has_5 hl (by decide) rfl (fun ls hl => ?_)
  refine lv_iload_n C.x C.b dc_X_has_7 rfl (lv_at hl 3 rfl) ?_
  refine lv_if_lt (tgt := 17) C.x C.b dc_X_has_8 (by decide) (fun q8 => ?_) (fun q8 => ?_)
  · rw [hQ]
    exact rt_thr (names := ns_iae) C hst hno hX hl.1 () h (⟨rfl, fun z => by obtain ⟨j, n, -, -, hn, e, -⟩ := z; subst e; first | exact nI_pos (by omega) q8 | exact q14 (nI_le (show n ≤ 30 by omega) (by decide))⟩) (by decide) (by decide) tw_iae tk_iae ti_iae (text := "no such length") (by decide) dc_X_has_17 dc_X_has_20 dc_X_has_21 dc_X_has_23 dc_X_has_26 (by decide) (Nat.le_of_ble_eq_true rfl) (by decide) (by decide) (by decide) (by decide)
  · refine lv_iload_n C.x C.b dc_X_has_11 rfl (lv_at hl 3 rfl) ?_
    refine lv_bipush (v := (nI 30)) C.x C.b dc_X_has_12 (by decide +kernel) ?_
    refine lv_icmp_le (tgt := 27) C.x C.b dc_X_has_14 (by decide) (fun q14 => ?_) (fun q14 => ?_)
    · obtain ⟨hj80, htk, htg⟩ := hC0.tok lt_j_1
      have ht2 := htk.2.1
      have ht3 := htk.2.2.1
      obtain ⟨n, hn, en⟩ : ∃ n, n < 31 ∧ nn = nI n := by
        rcases pk_ix nn (n := 31) (by decide) with z | z | z
        · exact absurd z q8
        · exact absurd z (fun z9 => by have a9 := nI_lt (a := 30) (b := 31) (by decide) (by decide); have := Int32.lt_of_lt_of_le a9 z9; exact Int32.lt_irrefl (Int32.lt_of_lt_of_le this q14))
        · exact z
      subst en
      refine lv_iconst (v := (nI 0)) C.x C.b dc_X_has_27 (by decide +kernel) ?_
      refine lv_istore (lv' := [(6, .int (nI 0)), (5, .ref (d (20 + 3 * j_1))), (0, .ref (d 0)), (1, .int pp), (2, .int (nI n)), (3, .long wd)]) C.x C.b dc_X_has_28 hl (by decide) rfl (fun ls hl => ?_)
      refine lv_iconst (v := (nI 0)) C.x C.b dc_X_has_30 (by decide +kernel) ?_
      refine lv_istore (lv' := [(7, .int (nI 0)), (6, .int (nI 0)), (5, .ref (d (20 + 3 * j_1))), (0, .ref (d 0)), (1, .int pp), (2, .int (nI n)), (3, .long wd)]) C.x C.b dc_X_has_31 hl (by decide) rfl (fun ls hl => ?_)
      have hA : ∀ q, q < 0 → wl wd q < 3 := fun q hq => absurd hq (Nat.not_lt_zero _)
      have hat : mrun (tM (tb j_1)) 0 (wL wd 0) < tb j_1 0 0 := htk.1
      have lp_33 : ∀ (n_33 : Nat) (k : Nat) (H : Heap) (locs : List Loc) (ls : Array Slot), n - k < n_33 → (k ≤ n) → (∀ q, q < k → wl wd q < 3) → (mrun (tM (tb j_1)) 0 (wL wd k) < tb j_1 0 0) → sT Γ s (xW Γ d hm mc so tl tb wr) H locs → lv_has ls 9 [(7, .int (nI k)), (6, .int (nI (mrun (tM (tb j_1)) 0 (wL wd k)))), (5, .ref (d (20 + 3 * j_1))), (2, .int (nI n)), (3, .long wd)] → W p l e rm_X_has s m args below meth c H locs 1 6 Q (F0 m 33 ls []) := by
        intro n_33
        induction n_33 with
        | zero => intro k H locs ls hms; exact absurd hms (Nat.not_lt_zero _)
        | succ n_33 ih_33 =>
          intro k H locs ls hms hk hA hat h hl
          refine lv_iload C.x C.b dc_X_has_33 (lv_at hl 0 rfl) ?_
          refine lv_iload_n C.x C.b dc_X_has_35 rfl (lv_at hl 3 rfl) ?_
          refine bc_ge (tgt := 83) C (by omega) (by omega) dc_X_has_36 (by decide) (fun q36 => ?_) (fun q36 => ?_)
          · refine lv_aload C.x C.b dc_X_has_83 (lv_at hl 2 rfl) ?_
            refine lv_iload C.x C.b dc_X_has_85 (lv_at hl 1 rfl) ?_
            refine kv_V (As := [.int (nI (mrun (tM (tb j_1)) 0 (wL wd k)))]) (rest := []) C h hl.1 (c_T_endsAt l Γ d hm mc so tl tb wr j_1 (mrun (tM (tb j_1)) 0 (wL wd k)) (hj80) (by omega) (by omega)) mw_T_endsAt lk_X_90 (q0 := (17 + j_1)) (lk_T (hj80)) rfl rfl (by decide) (by decide) (Nat.le_of_ble_eq_true rfl) dc_X_has_87 (fun v u H locs hp h => ?_)
            obtain rfl := hp
            replace h : sT Γ s (xW Γ d hm mc so tl tb wr) H locs := h
            refine W.eq (g2 := F0 m 90 ls [.int (bI ((tb j_1 0 1).testBit (mrun (tM (tb j_1)) 0 (wL wd k))))]) rfl ?_
            refine W.widen (k := 6) (n := 40) (by decide) (by decide) ?_
            rw [hQ]
            exact vx_ret (rt_z C () h (⟨j_1, n, ⟨lt_j_1, e_j_1, by omega, rfl, fun q hq => hA q (by omega)⟩, by rw [show n = k by omega]; rfl⟩) (bI_01 _) dc_X_has_90)
          · refine lv_lload_n C.x C.b dc_X_has_39 rfl (lv_at hl 4 rfl) ?_
            refine lv_iconst (v := (nI 2)) C.x C.b dc_X_has_40 (by decide +kernel) ?_
            refine lv_iload C.x C.b dc_X_has_41 (lv_at hl 0 rfl) ?_
            refine lv_imul C.x C.b dc_X_has_43 ?_
            refine tp_i (pk_mul 2 k) ?_
            refine lv_lushr C.x C.b dc_X_has_44 rfl ?_
            refine lv_l2i C.x C.b dc_X_has_45 rfl ?_
            refine lv_iconst (v := (nI 3)) C.x C.b dc_X_has_46 (by decide +kernel) ?_
            refine lv_iand C.x C.b dc_X_has_47 ?_
            refine tp_i (y := (nI (wl wd k))) (wl_c wd (by omega)) ?_
            refine lv_istore (lv' := [(8, .int (nI (wl wd k))), (7, .int (nI k)), (6, .int (nI (mrun (tM (tb j_1)) 0 (wL wd k)))), (5, .ref (d (20 + 3 * j_1))), (2, .int (nI n)), (3, .long wd)]) C.x C.b dc_X_has_48 hl (by decide) rfl (fun ls hl => ?_)
            refine lv_iload C.x C.b dc_X_has_50 (lv_at hl 0 rfl) ?_
            refine lv_iconst (v := (nI 3)) C.x C.b dc_X_has_52 (by decide +kernel) ?_
            refine bc_lt (tgt := 66) C (by unfold wl; omega) (by decide) dc_X_has_53 (by decide) (fun q53 => ?_) (fun q53 => ?_)
            · refine lv_aload C.x C.b dc_X_has_66 (lv_at hl 3 rfl) ?_
              refine lv_iload C.x C.b dc_X_has_68 (lv_at hl 2 rfl) ?_
              refine lv_iload C.x C.b dc_X_has_70 (lv_at hl 0 rfl) ?_
              refine kv_V (As := [.int (nI (mrun (tM (tb j_1)) 0 (wL wd k))), .int (nI (wl wd k))]) (rest := []) C h hl.1 (c_T_after l Γ d hm mc so tl tb wr j_1 (mrun (tM (tb j_1)) 0 (wL wd k)) (wl wd k) (hj80) (by omega) (by omega)) mw_T_after lk_X_81 (q0 := (17 + j_1)) (lk_T (hj80)) rfl rfl (by decide) (by decide) (Nat.le_of_ble_eq_true rfl) dc_X_has_72 (fun v u H locs hp h => ?_)
              obtain rfl := hp
              replace h : sT Γ s (xW Γ d hm mc so tl tb wr) H locs := h
              refine W.eq (g2 := F0 m 75 ls [.int (nI (tb j_1 1 ((mrun (tM (tb j_1)) 0 (wL wd k)) * 3 + (wl wd k))))]) rfl ?_
              refine lv_istore (lv' := [(6, .int (nI (tb j_1 1 ((mrun (tM (tb j_1)) 0 (wL wd k)) * 3 + (wl wd k))))), (8, .int (nI (wl wd k))), (7, .int (nI k)), (5, .ref (d (20 + 3 * j_1))), (2, .int (nI n)), (3, .long wd)]) C.x C.b dc_X_has_75 hl (by decide) rfl (fun ls hl => ?_)
              refine lv_iinc (v := nI (k + 1)) (lv' := [(7, .int (nI (k + 1))), (6, .int (nI (tb j_1 1 ((mrun (tM (tb j_1)) 0 (wL wd k)) * 3 + (wl wd k))))), (8, .int (nI (wl wd k))), (5, .ref (d (20 + 3 * j_1))), (2, .int (nI n)), (3, .long wd)]) C.x C.b dc_X_has_77 hl (k := 2) rfl (nI_1 k) (by decide) rfl (fun ls hl => ?_)
              refine lv_goto (tgt := 33) C.x C.b dc_X_has_80 (by decide) ?_
              rw [wL_run (tb j_1)] at hl
              have hA : ∀ q, q < k + 1 → wl wd q < 3 := fun q hq => by
                by_cases e9 : q = k
                · rw [e9]; exact q53
                · exact hA q (by omega)
              have hat : mrun (tM (tb j_1)) 0 (wL wd (k + 1)) < tb j_1 0 0 := by rw [← wL_run (tb j_1)]; exact htk.2.2.2.2 _ _ hat q53
              exact ih_33 (k + 1) _ _ _ (by omega) (by first | assumption | omega) (by first | assumption | omega) (by first | assumption | omega) h (lv_sub hl [0, 1, 3, 4, 5] rfl)
            · rw [hQ]
              exact rt_thr (names := ns_iae) C hst hno hX hl.1 () h (⟨rfl, fun z => by obtain ⟨j, n2, -, -, hn2, e2, hz⟩ := z; have e3 : n = n2 := (nI_eq (by omega) (by omega)).mp e2; subst e3; have := hz k (by omega); omega⟩) (by decide) (by decide) tw_iae tk_iae ti_iae (text := "no such letter") (by decide) dc_X_has_56 dc_X_has_59 dc_X_has_60 dc_X_has_62 dc_X_has_65 (by decide) (Nat.le_of_ble_eq_true rfl) (by decide) (by decide) (by decide) (by decide)
      exact lp_33 _ 0 _ _ _ (Nat.lt_succ_self _) (by first | assumption | omega) (by first | assumption | omega) (by first | assumption | omega) h (lv_sub hl [0, 1, 2, 5, 6] rfl)
    · rw [hQ]
      exact rt_thr (names := ns_iae) C hst hno hX hl.1 () h (⟨rfl, fun z => by obtain ⟨j, n, -, -, hn, e, -⟩ := z; subst e; first | exact nI_pos (by omega) q8 | exact q14 (nI_le (show n ≤ 30 by omega) (by decide))⟩) (by decide) (by decide) tw_iae tk_iae ti_iae (text := "no such length") (by decide) dc_X_has_17 dc_X_has_20 dc_X_has_21 dc_X_has_23 dc_X_has_26 (by decide) (Nat.le_of_ble_eq_true rfl) (by decide) (by decide) (by decide) (by decide)

abbrev rm_X_words : Room := { frames := 7, cells := 6, slots := 40, locals := 103 }
set_option maxRecDepth 100000 in
set_option maxHeartbeats 4000000 in
theorem c_X_words (l : Launch) (Γ : gG) (d : Nat → Nat) (hm : Nat) (mc : va_E) (so : Nat → Nat → Nat) (tl : Nat → Nat → Int64) (tb : Nat → Nat → Nat → Nat) (wr : va_W) (pp nn : Int32) (hC0 : CS so tb) (hst : l.stackTraces = false) : cTx l Γ my_X_words bc_X_words 5 (some .long) rm_X_words [.ref (d 0), .int pp, .int nn] (xW Γ d hm mc so tl tb wr) (S := Nat → Nat → Int64) (fun v u => ∃ j n, (j < so 10 3 ∧ pp = nI j ∧ n < 40 ∧ nn = nI n) ∧ v = some (.long (lI (cnt (tb j 0 1) (tb j 1) n 0)))) (fun u => xW Γ d hm mc so u tb wr) (SX := Unit) (fun E _ => E = en_iae ∧ ¬ ∃ j n, j < so 10 3 ∧ pp = nI j ∧ n < 40 ∧ nn = nI n) (fun _ => xW Γ d hm mc so tl tb wr) := by
  refine cTx.start (by decide) (Nat.le_of_ble_eq_true rfl) (fun p e s m args below meth c ls Q hQ C hmn hno hX h hl => ?_)
  replace hl : lv_has ls 5 [(0, .ref (d 0)), (1, .int pp), (2, .int nn)] := hl
  have h80 := hC0.2.1
  refine lv_aload_n C.x C.b dc_X_words_0 rfl (lv_at hl 0 rfl) ?_
  refine lv_iload_n C.x C.b dc_X_words_1 rfl (lv_at hl 1 rfl) ?_
  refine kx_V (As := [.int pp]) (rest := []) C hX h hl.1 (c_X_tableOf l Γ d hm mc so tl tb wr pp h80 hst) mw_X_tableOf lk_X_48 (q0 := 0) rfl rfl rfl (by decide) (by decide) (Nat.le_of_ble_eq_true rfl) dc_X_words_2 (fun E ce q9 u H locs hp h hc1 hc2 hc3 => ?_) (fun v u H locs hp h => ?_)
  · rw [hQ]
    exact kx_out C hno () h (⟨hp.1, fun z => by obtain ⟨j, n, a, c, -⟩ := z; exact hp.2 ⟨j, a, c⟩⟩) hc1 hc2 hc3 (by decide) (by decide)
  obtain ⟨j_1, rfl⟩ : ∃ zz9, zz9 = u := ⟨_, rfl⟩
  obtain ⟨rfl, lt_j_1, e_j_1⟩ := hp
  replace h : sT Γ s (xW Γ d hm mc so tl tb wr) H locs := h
  refine W.eq (g2 := F0 m 5 ls [.ref (d (20 + 3 * j_1))]) rfl ?_
  refine lv_astore_n (lv' := [(3, .ref (d (20 + 3 * j_1))), (0, .ref (d 0)), (1, .int pp), (2, .int nn)]) C.x C.b dc_X_words_5 rfl hl (by decide) rfl (fun ls hl => ?_)
  refine lv_iload_n C.x C.b dc_X_words_6 rfl (lv_at hl 3 rfl) ?_
  refine lv_if_lt (tgt := 16) C.x C.b dc_X_words_7 (by decide) (fun q7 => ?_) (fun q7 => ?_)
  · rw [hQ]
    exact rt_thr (names := ns_iae) C hst hno hX hl.1 () h (⟨rfl, fun z => by obtain ⟨j, n, -, -, hn, e⟩ := z; subst e; first | exact nI_pos (by omega) q7 | exact q13 (nI_le (show n ≤ 39 by omega) (by decide))⟩) (by decide) (by decide) tw_iae tk_iae ti_iae (text := "no such length") (by decide) dc_X_words_16 dc_X_words_19 dc_X_words_20 dc_X_words_22 dc_X_words_25 (by decide) (Nat.le_of_ble_eq_true rfl) (by decide) (by decide) (by decide) (by decide)
  · refine lv_iload_n C.x C.b dc_X_words_10 rfl (lv_at hl 3 rfl) ?_
    refine lv_bipush (v := (nI 39)) C.x C.b dc_X_words_11 (by decide +kernel) ?_
    refine lv_icmp_le (tgt := 26) C.x C.b dc_X_words_13 (by decide) (fun q13 => ?_) (fun q13 => ?_)
    · obtain ⟨hj80, htk, htg⟩ := hC0.tok lt_j_1
      have ht2 := htk.2.1
      have ht3 := htk.2.2.1
      obtain ⟨n, hn, en⟩ : ∃ n, n < 40 ∧ nn = nI n := by
        rcases pk_ix nn (n := 40) (by decide) with z | z | z
        · exact absurd z q7
        · exact absurd z (fun z9 => by have a9 := nI_lt (a := 39) (b := 40) (by decide) (by decide); have := Int32.lt_of_lt_of_le a9 z9; exact Int32.lt_irrefl (Int32.lt_of_lt_of_le this q13))
        · exact z
      subst en
      refine lv_aload_n C.x C.b dc_X_words_26 rfl (lv_at hl 1 rfl) ?_
      refine rg_get C h 0 rfl rfl in_X 2 (by decide) fl_X_25 rfl dc_X_words_27 ?_
      refine lv_aload_n C.x C.b dc_X_words_30 rfl (lv_at hl 0 rfl) ?_
      refine kv_V (As := [.ref (d (20 + 3 * j_1))]) (rest := []) C h hl.1 (c_Y_begin l Γ d hm mc so tl tb wr j_1 hj80 htk) mw_Y_begin lk_X_109 (q0 := 3) rfl rfl rfl (by decide) (by decide) (Nat.le_of_ble_eq_true rfl) dc_X_words_31 (fun v u H locs hp h => ?_)
      obtain ⟨tl_2, rfl⟩ : ∃ zz9, zz9 = u := ⟨_, rfl⟩
      obtain ⟨rfl, htl_2⟩ := hp
      replace h : sT Γ s (xW Γ d hm mc so tl_2 tb wr) H locs := h
      refine W.eq (g2 := F0 m 34 ls []) rfl ?_
      refine lv_iconst (v := (nI 0)) C.x C.b dc_X_words_34 (by decide +kernel) ?_
      refine lv_istore (lv' := [(4, .int (nI 0)), (3, .ref (d (20 + 3 * j_1))), (0, .ref (d 0)), (1, .int pp), (2, .int (nI n))]) C.x C.b dc_X_words_35 hl (by decide) rfl (fun ls hl => ?_)
      have lp_37 : ∀ (n_37 : Nat) (k : Nat) (z : Nat → Nat → Int64) (H : Heap) (locs : List Loc) (ls : Array Slot), n - k < n_37 → (k ≤ n) → (∀ r, r < tb j_1 0 0 → z 0 r = lI (cnt (tb j_1 0 1) (tb j_1 1) k r)) → sT Γ s (xW Γ d hm mc so z tb wr) H locs → lv_has ls 5 [(4, .int (nI k)), (3, .ref (d (20 + 3 * j_1))), (2, .int (nI n)), (0, .ref (d 0))] → W p l e rm_X_words s m args below meth c H locs 1 6 Q (F0 m 37 ls []) := by
        intro n_37
        induction n_37 with
        | zero => intro k z H locs ls hms; exact absurd hms (Nat.not_lt_zero _)
        | succ n_37 ih_37 =>
          intro k z H locs ls hms hk hz h hl
          refine lv_iload C.x C.b dc_X_words_37 (lv_at hl 0 rfl) ?_
          refine lv_iload_n C.x C.b dc_X_words_39 rfl (lv_at hl 2 rfl) ?_
          refine bc_ge (tgt := 57) C (by omega) (by omega) dc_X_words_40 (by decide) (fun q40 => ?_) (fun q40 => ?_)
          · refine lv_aload_n C.x C.b dc_X_words_57 rfl (lv_at hl 3 rfl) ?_
            refine rg_get C h 0 rfl rfl in_X 2 (by decide) fl_X_25 rfl dc_X_words_58 ?_
            refine rg_getN C h 3 rfl rfl in_Y 0 (by decide) fl_X_114 rfl dc_X_words_61 ?_
            refine lv_iconst (v := (nI 0)) C.x C.b dc_X_words_64 (by decide +kernel) ?_
            refine rg_lld C h 15 rfl (by omega) (by decide) dc_X_words_65 ?_
            refine W.widen (k := 6) (n := 40) (by decide) (by decide) ?_
            rw [hQ]
            exact vx_ret (rt_l C z h (⟨j_1, n, ⟨lt_j_1, e_j_1, by omega, rfl⟩, by rw [hz 0 htk.1, show k = n by omega]⟩) dc_X_words_66)
          · refine lv_aload_n C.x C.b dc_X_words_43 rfl (lv_at hl 3 rfl) ?_
            refine rg_get C h 0 rfl rfl in_X 2 (by decide) fl_X_25 rfl dc_X_words_44 ?_
            refine lv_aload_n C.x C.b dc_X_words_47 rfl (lv_at hl 1 rfl) ?_
            refine kv_V (As := [.ref (d (20 + 3 * j_1))]) (rest := []) C h hl.1 (c_Y_lengthen l Γ d hm mc so z tb wr j_1 k hj80 htk hz) mw_Y_lengthen lk_X_111 (q0 := 3) rfl rfl rfl (by decide) (by decide) (Nat.le_of_ble_eq_true rfl) dc_X_words_48 (fun v u H locs hp h => ?_)
            obtain ⟨tl_3, rfl⟩ : ∃ zz9, zz9 = u := ⟨_, rfl⟩
            obtain ⟨rfl, htl_3⟩ := hp
            replace h : sT Γ s (xW Γ d hm mc so tl_3 tb wr) H locs := h
            refine W.eq (g2 := F0 m 51 ls []) rfl ?_
            refine lv_iinc (v := nI (k + 1)) (lv' := [(4, .int (nI (k + 1))), (3, .ref (d (20 + 3 * j_1))), (2, .int (nI n)), (0, .ref (d 0))]) C.x C.b dc_X_words_51 hl (k := 0) rfl (nI_1 k) (by decide) rfl (fun ls hl => ?_)
            refine lv_goto (tgt := 37) C.x C.b dc_X_words_54 (by decide) ?_
            exact ih_37 (k + 1) tl_3 _ _ _ (by omega) (by first | assumption | omega) (by assumption) h (lv_sub hl [0, 1, 2, 3] rfl)
      exact lp_37 _ 0 tl_2 _ _ _ (Nat.lt_succ_self _) (by first | assumption | omega) (by assumption) h (lv_sub hl [0, 1, 4, 2] rfl)
    · rw [hQ]
      exact rt_thr (names := ns_iae) C hst hno hX hl.1 () h (⟨rfl, fun z => by obtain ⟨j, n, -, -, hn, e⟩ := z; subst e; first | exact nI_pos (by omega) q7 | exact q13 (nI_le (show n ≤ 39 by omega) (by decide))⟩) (by decide) (by decide) tw_iae tk_iae ti_iae (text := "no such length") (by decide) dc_X_words_16 dc_X_words_19 dc_X_words_20 dc_X_words_22 dc_X_words_25 (by decide) (Nat.le_of_ble_eq_true rfl) (by decide) (by decide) (by decide) (by decide)

abbrev rm_X_shortest : Room := { frames := 7, cells := 6, slots := 40, locals := 103 }
set_option maxRecDepth 100000 in
set_option maxHeartbeats 4000000 in
theorem c_X_shortest (l : Launch) (Γ : gG) (d : Nat → Nat) (hm : Nat) (mc : va_E) (so : Nat → Nat → Nat) (tl : Nat → Nat → Int64) (tb : Nat → Nat → Nat → Nat) (wr : va_W) (pp : Int32) (hC0 : CS so tb) (hst : l.stackTraces = false) : cTx l Γ my_X_shortest bc_X_shortest 3 (some .int) rm_X_shortest [.ref (d 0), .int pp] (xW Γ d hm mc so tl tb wr) (S := Unit) (fun v u => ∃ i, (i < so 10 3 ∧ pp = nI i) ∧ tb i 2 0 ≠ 0 ∧ v = some (.int (mI (tb i 2 0)))) (fun _ => xW Γ d hm mc so tl tb wr) (SX := Unit) (fun E _ => (E = en_iae ∧ ¬ ∃ i, i < so 10 3 ∧ pp = nI i) ∨ (E = en_nse ∧ ∃ i, (i < so 10 3 ∧ pp = nI i) ∧ tb i 2 0 = 0)) (fun _ => xW Γ d hm mc so tl tb wr) := by
  refine cTx.start (by decide) (Nat.le_of_ble_eq_true rfl) (fun p e s m args below meth c ls Q hQ C hmn hno hX h hl => ?_)
  replace hl : lv_has ls 3 [(0, .ref (d 0)), (1, .int pp)] := hl
  have h80 := hC0.2.1
  refine lv_aload_n C.x C.b dc_X_shortest_0 rfl (lv_at hl 0 rfl) ?_
  refine lv_iload_n C.x C.b dc_X_shortest_1 rfl (lv_at hl 1 rfl) ?_
  refine kx_V (As := [.int pp]) (rest := []) C hX h hl.1 (c_X_tableOf l Γ d hm mc so tl tb wr pp h80 hst) mw_X_tableOf lk_X_48 (q0 := 0) rfl rfl rfl (by decide) (by decide) (Nat.le_of_ble_eq_true rfl) dc_X_shortest_2 (fun E ce q9 u H locs hp h hc1 hc2 hc3 => ?_) (fun v u H locs hp h => ?_)
  · rw [hQ]
    exact kx_out C hno () h (Or.inl ⟨hp.1, fun z => by obtain ⟨i, a, c⟩ := z; exact hp.2 ⟨i, a, c⟩⟩) hc1 hc2 hc3 (by decide) (by decide)
  obtain ⟨j_1, rfl⟩ : ∃ zz9, zz9 = u := ⟨_, rfl⟩
  obtain ⟨rfl, lt_j_1, e_j_1⟩ := hp
  replace h : sT Γ s (xW Γ d hm mc so tl tb wr) H locs := h
  refine W.eq (g2 := F0 m 5 ls [.ref (d (20 + 3 * j_1))]) rfl ?_
  refine lv_astore_n (lv' := [(2, .ref (d (20 + 3 * j_1))), (0, .ref (d 0)), (1, .int pp)]) C.x C.b dc_X_shortest_5 rfl hl (by decide) rfl (fun ls hl => ?_)
  obtain ⟨hj80, htk, htg⟩ := hC0.tok lt_j_1
  have ht2 := htk.2.1
  have ht3 := htk.2.2.1
  have hfr := (htg.far htk.1).1
  refine lv_aload_n C.x C.b dc_X_shortest_6 rfl (lv_at hl 0 rfl) ?_
  refine rg_getN C h (17 + j_1) (lk_T (by omega)) rfl in_T 4 (by decide) fl_X_118 rfl dc_X_shortest_7 ?_
  refine lv_iconst (v := (nI 0)) C.x C.b dc_X_shortest_10 (by decide +kernel) ?_
  refine rg_mld C h (177 + j_1) (lk_F (by omega)) (by omega) (by decide) dc_X_shortest_11 ?_
  refine lv_iconst (v := (mI 0)) C.x C.b dc_X_shortest_12 (by decide +kernel) ?_
  refine bn_ne (tgt := 26) C (hfr) (by decide) dc_X_shortest_13 (by decide) (fun q13 => ?_) (fun q13 => ?_)
  · refine lv_aload_n C.x C.b dc_X_shortest_26 rfl (lv_at hl 0 rfl) ?_
    refine rg_getN C h (17 + j_1) (lk_T (by omega)) rfl in_T 4 (by decide) fl_X_118 rfl dc_X_shortest_27 ?_
    refine lv_iconst (v := (nI 0)) C.x C.b dc_X_shortest_30 (by decide +kernel) ?_
    refine rg_mld C h (177 + j_1) (lk_F (by omega)) (by omega) (by decide) dc_X_shortest_31 ?_
    refine W.widen (k := 6) (n := 40) (by decide) (by decide) ?_
    rw [hQ]
    exact vx_ret (rt_i C () h (⟨j_1, ⟨lt_j_1, e_j_1⟩, q13, rfl⟩) dc_X_shortest_32)
  · rw [hQ]
    exact rt_thrX (Y := ny_nse) (names := ns_nse) C hst hno hX hl.1 () h (Or.inr ⟨rfl, j_1, ⟨lt_j_1, e_j_1⟩, q13⟩) xd_nse0 xd_nse1 xd_nse2 xd_nse5 (by decide) (by decide) (by decide) tw_nse tk_nse ti_nse (text := "no word") (by decide) dc_X_shortest_16 dc_X_shortest_19 dc_X_shortest_20 dc_X_shortest_22 dc_X_shortest_25 (by decide) (Nat.le_of_ble_eq_true rfl) (by decide) (by decide) (by decide) (by decide)

abbrev rm_X_letter : Room := { frames := 7, cells := 6, slots := 40, locals := 103 }
set_option maxRecDepth 100000 in
set_option maxHeartbeats 4000000 in
theorem c_X_letter (l : Launch) (Γ : gG) (d : Nat → Nat) (hm : Nat) (mc : va_E) (so : Nat → Nat → Nat) (tl : Nat → Nat → Int64) (tb : Nat → Nat → Nat → Nat) (wr : va_W) (pp ii : Int32) (hC0 : CS so tb) (hst : l.stackTraces = false) : cTx l Γ my_X_letter bc_X_letter 6 (some .int) rm_X_letter [.ref (d 0), .int pp, .int ii] (xW Γ d hm mc so tl tb wr) (S := Unit) (fun v u => ∃ i q, ((i < so 10 3 ∧ pp = nI i) ∧ q + 1 < tb i 2 0 ∧ ii = nI q) ∧ v = some (.int (nI (nxl (tb i 0 1) (tb i 1) (tb i 2 0 - q - 2) (lst (tb i 0 1) (tb i 1) (tb i 2 0 - 1) 0 q))))) (fun _ => xW Γ d hm mc so tl tb wr) (SX := Unit) (fun E _ => (E = en_iae ∧ ¬ ∃ i, i < so 10 3 ∧ pp = nI i) ∨ (E = en_nse ∧ ∃ i, (i < so 10 3 ∧ pp = nI i) ∧ ¬ ∃ q, q + 1 < tb i 2 0 ∧ ii = nI q)) (fun _ => xW Γ d hm mc so tl tb wr) := by
  refine cTx.start (by decide) (Nat.le_of_ble_eq_true rfl) (fun p e s m args below meth c ls Q hQ C hmn hno hX h hl => ?_)
  replace hl : lv_has ls 6 [(0, .ref (d 0)), (1, .int pp), (2, .int ii)] := hl
  have h80 := hC0.2.1
  refine lv_aload_n C.x C.b dc_X_letter_0 rfl (lv_at hl 0 rfl) ?_
  refine lv_iload_n C.x C.b dc_X_letter_1 rfl (lv_at hl 1 rfl) ?_
  refine kx_V (As := [.int pp]) (rest := []) C hX h hl.1 (c_X_tableOf l Γ d hm mc so tl tb wr pp h80 hst) mw_X_tableOf lk_X_48 (q0 := 0) rfl rfl rfl (by decide) (by decide) (Nat.le_of_ble_eq_true rfl) dc_X_letter_2 (fun E ce q9 u H locs hp h hc1 hc2 hc3 => ?_) (fun v u H locs hp h => ?_)
  · rw [hQ]
    exact kx_out C hno () h (Or.inl ⟨hp.1, fun z => by obtain ⟨i, a, c⟩ := z; exact hp.2 ⟨i, a, c⟩⟩) hc1 hc2 hc3 (by decide) (by decide)
  obtain ⟨j_1, rfl⟩ : ∃ zz9, zz9 = u := ⟨_, rfl⟩
  obtain ⟨rfl, lt_j_1, e_j_1⟩ := hp
  replace h : sT Γ s (xW Γ d hm mc so tl tb wr) H locs := h
  refine W.eq (g2 := F0 m 5 ls [.ref (d (20 + 3 * j_1))]) rfl ?_
  refine lv_astore_n (lv' := [(3, .ref (d (20 + 3 * j_1))), (0, .ref (d 0)), (1, .int pp), (2, .int ii)]) C.x C.b dc_X_letter_5 rfl hl (by decide) rfl (fun ls hl => ?_)
  obtain ⟨hj80, htk, htg⟩ := hC0.tok lt_j_1
  have ht2 := htk.2.1
  have ht3 := htk.2.2.1
  have hfr := (htg.far htk.1).1
  have hf11 := (htg.far htk.1).2
  refine lv_iload_n C.x C.b dc_X_letter_6 rfl (lv_at hl 3 rfl) ?_
  refine lv_if_lt (tgt := 20) C.x C.b dc_X_letter_7 (by decide) (fun q7 => ?_) (fun q7 => ?_)
  · rw [hQ]
    exact rt_thrX (Y := ny_nse) (names := ns_nse) C hst hno hX hl.1 () h (Or.inr ⟨rfl, j_1, ⟨lt_j_1, e_j_1⟩, fun z => by obtain ⟨q, hq, e⟩ := z; subst e; first | exact nI_pos (by omega) q7 | exact q17 ((nI_mlt (by omega) hfr).mpr hq)⟩) xd_nse0 xd_nse1 xd_nse2 xd_nse5 (by decide) (by decide) (by decide) tw_nse tk_nse ti_nse (text := "no such letter in the word") (by decide) dc_X_letter_20 dc_X_letter_23 dc_X_letter_24 dc_X_letter_26 dc_X_letter_29 (by decide) (Nat.le_of_ble_eq_true rfl) (by decide) (by decide) (by decide) (by decide)
  · refine lv_iload_n C.x C.b dc_X_letter_10 rfl (lv_at hl 3 rfl) ?_
    refine lv_aload_n C.x C.b dc_X_letter_11 rfl (lv_at hl 0 rfl) ?_
    refine rg_getN C h (17 + j_1) (lk_T (by omega)) rfl in_T 4 (by decide) fl_X_118 rfl dc_X_letter_12 ?_
    refine lv_iconst (v := (nI 0)) C.x C.b dc_X_letter_15 (by decide +kernel) ?_
    refine rg_mld C h (177 + j_1) (lk_F (by omega)) (by omega) (by decide) dc_X_letter_16 ?_
    refine lv_icmp_lt (tgt := 30) C.x C.b dc_X_letter_17 (by decide) (fun q17 => ?_) (fun q17 => ?_)
    · obtain ⟨q, hqq, eq9⟩ : ∃ q, q < 2 ^ 31 ∧ ii = nI q := by
        obtain ⟨j, hj, e9⟩ := nI_of q7
        exact ⟨j, hj, e9⟩
      subst eq9
      have hqF := (nI_mlt hqq hfr).mp q17
      refine lv_iconst (v := (nI 0)) C.x C.b dc_X_letter_30 (by decide +kernel) ?_
      refine lv_istore (lv' := [(4, .int (nI 0)), (3, .ref (d (20 + 3 * j_1))), (0, .ref (d 0)), (1, .int pp), (2, .int (nI q))]) C.x C.b dc_X_letter_31 hl (by decide) rfl (fun ls hl => ?_)
      refine lv_iconst (v := (nI 0)) C.x C.b dc_X_letter_33 (by decide +kernel) ?_
      refine lv_istore (lv' := [(5, .int (nI 0)), (4, .int (nI 0)), (3, .ref (d (20 + 3 * j_1))), (0, .ref (d 0)), (1, .int pp), (2, .int (nI q))]) C.x C.b dc_X_letter_34 hl (by decide) rfl (fun ls hl => ?_)
      have hat : lst (tb j_1 0 1) (tb j_1 1) (tb j_1 2 0 - 1) 0 0 < tb j_1 0 0 := htk.1
      have hcd : tb j_1 2 (lst (tb j_1 0 1) (tb j_1 1) (tb j_1 2 0 - 1) 0 0) = tb j_1 2 0 - 0 := rfl
      have lp_36 : ∀ (n_36 : Nat) (k : Nat) (H : Heap) (locs : List Loc) (ls : Array Slot), q - k < n_36 → (k ≤ q) → (lst (tb j_1 0 1) (tb j_1 1) (tb j_1 2 0 - 1) 0 k < tb j_1 0 0) → (tb j_1 2 (lst (tb j_1 0 1) (tb j_1 1) (tb j_1 2 0 - 1) 0 k) = tb j_1 2 0 - k) → sT Γ s (xW Γ d hm mc so tl tb wr) H locs → lv_has ls 6 [(5, .int (nI k)), (4, .int (nI (lst (tb j_1 0 1) (tb j_1 1) (tb j_1 2 0 - 1) 0 k))), (3, .ref (d (20 + 3 * j_1))), (2, .int (nI q))] → W p l e rm_X_letter s m args below meth c H locs 1 6 Q (F0 m 36 ls []) := by
        intro n_36
        induction n_36 with
        | zero => intro k H locs ls hms; exact absurd hms (Nat.not_lt_zero _)
        | succ n_36 ih_36 =>
          intro k H locs ls hms hk hat hcd h hl
          refine lv_iload C.x C.b dc_X_letter_36 (lv_at hl 0 rfl) ?_
          refine lv_iload_n C.x C.b dc_X_letter_38 rfl (lv_at hl 3 rfl) ?_
          refine bc_ge (tgt := 62) C (by omega) (by omega) dc_X_letter_39 (by decide) (fun q39 => ?_) (fun q39 => ?_)
          · refine lv_aload_n C.x C.b dc_X_letter_62 rfl (lv_at hl 2 rfl) ?_
            have hck : tb j_1 2 (lst (tb j_1 0 1) (tb j_1 1) (tb j_1 2 0 - 1) 0 k) = (tb j_1 2 0 - k - 2) + 2 := by omega
            refine lv_iload C.x C.b dc_X_letter_63 (lv_at hl 1 rfl) ?_
            refine kv_V (As := [.int (nI (lst (tb j_1 0 1) (tb j_1 1) (tb j_1 2 0 - 1) 0 k))]) (rest := []) C h hl.1 (c_T_nearer l Γ d hm mc so tl tb wr j_1 (lst (tb j_1 0 1) (tb j_1 1) (tb j_1 2 0 - 1) 0 k) (tb j_1 2 0 - k - 2) hj80 (by omega) hck (by omega) (fun l hl => Nat.lt_of_lt_of_le (htk.2.2.2.2 _ l hat hl) ht2) (fun l hl => (htg.far (htk.2.2.2.2 _ l hat hl)).1)) mw_T_nearer lk_X_129 (q0 := (17 + j_1)) (lk_T (hj80)) rfl rfl (by decide) (by decide) (Nat.le_of_ble_eq_true rfl) dc_X_letter_65 (fun v u H locs hp h => ?_)
            obtain ⟨rfl, lt_2_3, lt_2_n, lt_2_y⟩ := hp
            obtain ⟨lt_2, rfl⟩ : ∃ zz9, zz9 = u := ⟨_, rfl⟩
            replace h : sT Γ s (xW Γ d hm mc so tl tb wr) H locs := h
            refine W.eq (g2 := F0 m 68 ls [.int (nI lt_2)]) rfl ?_
            obtain ⟨nq1, nq2, nq3, nq4⟩ := htg.nearer hat hck lt_2_3 lt_2_n lt_2_y
            refine W.widen (k := 6) (n := 40) (by decide) (by decide) ?_
            rw [hQ]
            exact vx_ret (rt_i C () h (⟨j_1, q, ⟨⟨lt_j_1, e_j_1⟩, hqF, rfl⟩, by rw [nq1, show k = q by omega]⟩) dc_X_letter_68)
          · refine lv_aload_n C.x C.b dc_X_letter_42 rfl (lv_at hl 2 rfl) ?_
            refine lv_iload C.x C.b dc_X_letter_43 (lv_at hl 1 rfl) ?_
            refine lv_aload_n C.x C.b dc_X_letter_45 rfl (lv_at hl 2 rfl) ?_
            have hck : tb j_1 2 (lst (tb j_1 0 1) (tb j_1 1) (tb j_1 2 0 - 1) 0 k) = (tb j_1 2 0 - k - 2) + 2 := by omega
            refine lv_iload C.x C.b dc_X_letter_46 (lv_at hl 1 rfl) ?_
            refine kv_V (As := [.int (nI (lst (tb j_1 0 1) (tb j_1 1) (tb j_1 2 0 - 1) 0 k))]) (rest := [.int (nI (lst (tb j_1 0 1) (tb j_1 1) (tb j_1 2 0 - 1) 0 k)), .ref (d (20 + 3 * j_1))]) C h hl.1 (c_T_nearer l Γ d hm mc so tl tb wr j_1 (lst (tb j_1 0 1) (tb j_1 1) (tb j_1 2 0 - 1) 0 k) (tb j_1 2 0 - k - 2) hj80 (by omega) hck (by omega) (fun l hl => Nat.lt_of_lt_of_le (htk.2.2.2.2 _ l hat hl) ht2) (fun l hl => (htg.far (htk.2.2.2.2 _ l hat hl)).1)) mw_T_nearer lk_X_129 (q0 := (17 + j_1)) (lk_T (hj80)) rfl rfl (by decide) (by decide) (Nat.le_of_ble_eq_true rfl) dc_X_letter_48 (fun v u H locs hp h => ?_)
            obtain ⟨rfl, lt_3_3, lt_3_n, lt_3_y⟩ := hp
            obtain ⟨lt_3, rfl⟩ : ∃ zz9, zz9 = u := ⟨_, rfl⟩
            replace h : sT Γ s (xW Γ d hm mc so tl tb wr) H locs := h
            refine W.eq (g2 := F0 m 51 ls [.int (nI lt_3), .int (nI (lst (tb j_1 0 1) (tb j_1 1) (tb j_1 2 0 - 1) 0 k)), .ref (d (20 + 3 * j_1))]) rfl ?_
            obtain ⟨nq1, nq2, nq3, nq4⟩ := htg.nearer hat hck lt_3_3 lt_3_n lt_3_y
            refine kv_V (As := [.int (nI (lst (tb j_1 0 1) (tb j_1 1) (tb j_1 2 0 - 1) 0 k)), .int (nI lt_3)]) (rest := []) C h hl.1 (c_T_after l Γ d hm mc so tl tb wr j_1 (lst (tb j_1 0 1) (tb j_1 1) (tb j_1 2 0 - 1) 0 k) lt_3 (hj80) (by omega) (by omega)) mw_T_after lk_X_81 (q0 := (17 + j_1)) (lk_T (hj80)) rfl rfl (by decide) (by decide) (Nat.le_of_ble_eq_true rfl) dc_X_letter_51 (fun v u H locs hp h => ?_)
            obtain rfl := hp
            replace h : sT Γ s (xW Γ d hm mc so tl tb wr) H locs := h
            refine W.eq (g2 := F0 m 54 ls [.int (nI (tb j_1 1 ((lst (tb j_1 0 1) (tb j_1 1) (tb j_1 2 0 - 1) 0 k) * 3 + lt_3)))]) rfl ?_
            refine lv_istore (lv' := [(4, .int (nI (tb j_1 1 ((lst (tb j_1 0 1) (tb j_1 1) (tb j_1 2 0 - 1) 0 k) * 3 + lt_3)))), (5, .int (nI k)), (3, .ref (d (20 + 3 * j_1))), (2, .int (nI q))]) C.x C.b dc_X_letter_54 hl (by decide) rfl (fun ls hl => ?_)
            refine lv_iinc (v := nI (k + 1)) (lv' := [(5, .int (nI (k + 1))), (4, .int (nI (tb j_1 1 ((lst (tb j_1 0 1) (tb j_1 1) (tb j_1 2 0 - 1) 0 k) * 3 + lt_3)))), (3, .ref (d (20 + 3 * j_1))), (2, .int (nI q))]) C.x C.b dc_X_letter_56 hl (k := 1) rfl (nI_1 k) (by decide) rfl (fun ls hl => ?_)
            refine lv_goto (tgt := 36) C.x C.b dc_X_letter_59 (by decide) ?_
            have es : tb j_1 1 ((lst (tb j_1 0 1) (tb j_1 1) (tb j_1 2 0 - 1) 0 k) * 3 + lt_3) = lst (tb j_1 0 1) (tb j_1 1) (tb j_1 2 0 - 1) 0 (k + 1) := by rw [nq1]; show _ = tb j_1 1 (_ * 3 + nxl _ _ (tb j_1 2 0 - 1 - k - 1) _); rw [show tb j_1 2 0 - 1 - k - 1 = tb j_1 2 0 - k - 2 by omega]
            rw [es] at hl nq3 nq4
            have hat := nq4
            have hcd : tb j_1 2 (lst (tb j_1 0 1) (tb j_1 1) (tb j_1 2 0 - 1) 0 (k + 1)) = tb j_1 2 0 - (k + 1) := by omega
            exact ih_36 (k + 1) _ _ _ (by omega) (by first | assumption | omega) (by first | assumption | omega) (by first | assumption | omega) h (lv_sub hl [0, 1, 2, 3] rfl)
      exact lp_36 _ 0 _ _ _ (Nat.lt_succ_self _) (by first | assumption | omega) (by first | assumption | omega) (by first | assumption | omega) h (lv_sub hl [0, 1, 2, 5] rfl)
    · rw [hQ]
      exact rt_thrX (Y := ny_nse) (names := ns_nse) C hst hno hX hl.1 () h (Or.inr ⟨rfl, j_1, ⟨lt_j_1, e_j_1⟩, fun z => by obtain ⟨q, hq, e⟩ := z; subst e; first | exact nI_pos (by omega) q7 | exact q17 ((nI_mlt (by omega) hfr).mpr hq)⟩) xd_nse0 xd_nse1 xd_nse2 xd_nse5 (by decide) (by decide) (by decide) tw_nse tk_nse ti_nse (text := "no such letter in the word") (by decide) dc_X_letter_20 dc_X_letter_23 dc_X_letter_24 dc_X_letter_26 dc_X_letter_29 (by decide) (Nat.le_of_ble_eq_true rfl) (by decide) (by decide) (by decide) (by decide)

abbrev rm_X_inside : Room := { frames := 7, cells := 6, slots := 40, locals := 114 }
set_option maxRecDepth 100000 in
set_option maxHeartbeats 4000000 in
theorem c_X_inside (l : Launch) (Γ : gG) (d : Nat → Nat) (hm : Nat) (mc : va_E) (so : Nat → Nat → Nat) (tl : Nat → Nat → Int64) (tb : Nat → Nat → Nat → Nat) (wr : va_W) (pp qq : Int32) (hC0 : CS so tb) (hst : l.stackTraces = false) : cTx l Γ my_X_inside bc_X_inside 3 (some .boolean) rm_X_inside [.ref (d 0), .int pp, .int qq] (xW Γ d hm mc so tl tb wr) (S := xG) (fun v u => ∃ i j, (i < so 10 3 ∧ j < so 10 3 ∧ pp = nI i ∧ qq = nI j) ∧ ∃ b : Bool, v = some (.int (bI b)) ∧ (b = true ↔ ∀ w, lts w → ¬ macc (mqB 2 (tb i) (tb j)) 0 w = true) ∧ CS u.2.2.1 tb ∧ u.2.2.1 10 3 = so 10 3 ∧ u.2.2.2 = tb) (fun u => xW Γ d u.1 u.2.1 u.2.2.1 tl u.2.2.2 wr) (SX := xG) (fun E u => E = en_iae ∧ u = (hm, mc, so, tb) ∧ ¬ ∃ i j, i < so 10 3 ∧ j < so 10 3 ∧ pp = nI i ∧ qq = nI j) (fun u => xW Γ d u.1 u.2.1 u.2.2.1 tl u.2.2.2 wr) := by
  refine cTx.start (by decide) (Nat.le_of_ble_eq_true rfl) (fun p e s m args below meth c ls Q hQ C hmn hno hX h hl => ?_)
  replace hl : lv_has ls 3 [(0, .ref (d 0)), (1, .int pp), (2, .int qq)] := hl
  have h80 := hC0.2.1
  refine lv_aload_n C.x C.b dc_X_inside_0 rfl (lv_at hl 0 rfl) ?_
  refine rg_get C h 0 rfl rfl in_X 1 (by decide) fl_X_18 rfl dc_X_inside_1 ?_
  refine rg_newM (ci := 6) (ty := ft_B) (fs := [.int 0, .null, .null]) C h rfl in_B tk_B nk_X_57 ns_B ni_B (by decide +kernel) (by decide) (by decide) dc_X_inside_4 (fun qm_1 H h => ?_)
  refine lv_dup C.x C.b dc_X_inside_7 rfl ?_
  refine lv_iconst (v := (nI 2)) C.x C.b dc_X_inside_8 (by decide +kernel) ?_
  refine lv_aload_n C.x C.b dc_X_inside_9 rfl (lv_at hl 0 rfl) ?_
  refine lv_iload_n C.x C.b dc_X_inside_10 rfl (lv_at hl 1 rfl) ?_
  refine kx_V (As := [.int pp]) (rest := [.int (nI 2), .ref qm_1, .ref qm_1, .ref (d 2)]) C hX h hl.1 (c_X_tableOf l Γ d hm mc so tl tb ((qm_1, .inr (6, [.int 0, .null, .null])) :: wr) pp h80 hst) mw_X_tableOf lk_X_48 (q0 := 0) rfl rfl rfl (by decide) (by decide) (Nat.le_of_ble_eq_true rfl) dc_X_inside_11 (fun E ce q9 u H locs hp h hc1 hc2 hc3 => ?_) (fun v u H locs hp h => ?_)
  · replace h := xw_drop h
    rw [hQ]
    exact kx_out C hno (hm, mc, so, tb) h (⟨hp.1, rfl, fun z => by obtain ⟨i, j, a, b, c, d9⟩ := z; exact hp.2 ⟨i, a, c⟩⟩) hc1 hc2 hc3 (by decide) (by decide)
  obtain ⟨j_2, rfl⟩ : ∃ zz9, zz9 = u := ⟨_, rfl⟩
  obtain ⟨rfl, lt_j_2, e_j_2⟩ := hp
  replace h : sT Γ s (xW Γ d hm mc so tl tb ((qm_1, .inr (6, [.int 0, .null, .null])) :: wr)) H locs := h
  refine W.eq (g2 := F0 m 14 ls [.ref (d (20 + 3 * j_2)), .int (nI 2), .ref qm_1, .ref qm_1, .ref (d 2)]) rfl ?_
  refine lv_aload_n C.x C.b dc_X_inside_14 rfl (lv_at hl 0 rfl) ?_
  refine lv_iload_n C.x C.b dc_X_inside_15 rfl (lv_at hl 2 rfl) ?_
  refine kx_V (As := [.int qq]) (rest := [.ref (d (20 + 3 * j_2)), .int (nI 2), .ref qm_1, .ref qm_1, .ref (d 2)]) C hX h hl.1 (c_X_tableOf l Γ d hm mc so tl tb ((qm_1, .inr (6, [.int 0, .null, .null])) :: wr) qq h80 hst) mw_X_tableOf lk_X_48 (q0 := 0) rfl rfl rfl (by decide) (by decide) (Nat.le_of_ble_eq_true rfl) dc_X_inside_16 (fun E ce q9 u H locs hp h hc1 hc2 hc3 => ?_) (fun v u H locs hp h => ?_)
  · replace h := xw_drop h
    rw [hQ]
    exact kx_out C hno (hm, mc, so, tb) h (⟨hp.1, rfl, fun z => by obtain ⟨i, j, a, b, c, d9⟩ := z; exact hp.2 ⟨j, b, d9⟩⟩) hc1 hc2 hc3 (by decide) (by decide)
  obtain ⟨j_3, rfl⟩ : ∃ zz9, zz9 = u := ⟨_, rfl⟩
  obtain ⟨rfl, lt_j_3, e_j_3⟩ := hp
  replace h : sT Γ s (xW Γ d hm mc so tl tb ((qm_1, .inr (6, [.int 0, .null, .null])) :: wr)) H locs := h
  refine W.eq (g2 := F0 m 19 ls [.ref (d (20 + 3 * j_3)), .ref (d (20 + 3 * j_2)), .int (nI 2), .ref qm_1, .ref qm_1, .ref (d 2)]) rfl ?_
  have hMB : mOK d tb (.inr (6, [.int (nI 2), .ref (d (20 + 3 * j_2)), .ref (d (20 + 3 * j_3))])) (mqB 2 (tb j_2) (tb j_3)) := mok_B (by decide) (hC0.tok lt_j_2).1 (hC0.tok lt_j_3).1 (hC0.tok lt_j_2).2.1 (hC0.tok lt_j_3).2.1
  refine kv_I (As := [.int (nI 2), .ref (d (20 + 3 * j_2)), .ref (d (20 + 3 * j_3))]) (rest := [.ref qm_1, .ref (d 2)]) C h hl.1 (c_B_init l Γ d hm mc so tl tb wr qm_1 2 j_2 j_3) mw_B_init lk_X_59 rfl (by decide) (by decide) (Nat.le_of_ble_eq_true rfl) dc_X_inside_19 (fun v u H locs hp h => ?_)
  obtain rfl := hp
  replace h : sT Γ s (xW Γ d hm mc so tl tb ((qm_1, (.inr (6, [.int (nI 2), .ref (d (20 + 3 * j_2)), .ref (d (20 + 3 * j_3))]) : va_E)) :: wr)) H locs := h
  refine W.eq (g2 := F0 m 22 ls [.ref qm_1, .ref (d 2)]) rfl ?_
  refine kv_V (As := [.ref qm_1]) (rest := []) C h hl.1 (c_S_begin l Γ d hm mc so tl tb wr qm_1 (.inr (6, [.int (nI 2), .ref (d (20 + 3 * j_2)), .ref (d (20 + 3 * j_3))]) : va_E) (mqB 2 (tb j_2) (tb j_3)) hMB hC0.1) mw_S_begin lk_X_98 (q0 := 2) rfl rfl rfl (by decide) (by decide) (Nat.le_of_ble_eq_true rfl) dc_X_inside_22 (fun v u H locs hp h => ?_)
  obtain ⟨so_4, rfl⟩ : ∃ zz9, zz9 = u := ⟨_, rfl⟩
  obtain ⟨rfl, bg⟩ := hp
  replace h : sT Γ s (xW Γ d qm_1 (.inr (6, [.int (nI 2), .ref (d (20 + 3 * j_2)), .ref (d (20 + 3 * j_3))]) : va_E) so_4 tl tb wr) H locs := h
  refine W.eq (g2 := F0 m 25 ls []) rfl ?_
  refine lv_aload_n C.x C.b dc_X_inside_25 rfl (lv_at hl 0 rfl) ?_
  refine rg_get C h 0 rfl rfl in_X 1 (by decide) fl_X_18 rfl dc_X_inside_26 ?_
  refine kv_V (As := []) (rest := []) C h hl.1 (c_S_meetsAnEnd l Γ d qm_1 (.inr (6, [.int (nI 2), .ref (d (20 + 3 * j_2)), .ref (d (20 + 3 * j_3))]) : va_E) so_4 tl tb wr (mqB 2 (tb j_2) (tb j_3)) hMB bg.1 (by omega) bg.2.2.1) mw_S_meetsAnEnd lk_X_102 (q0 := 2) rfl rfl rfl (by decide) (by decide) (Nat.le_of_ble_eq_true rfl) dc_X_inside_29 (fun v u H locs hp h => ?_)
  obtain ⟨⟨bq, so_5⟩, rfl⟩ : ∃ zz9, zz9 = u := ⟨_, rfl⟩
  obtain ⟨rfl, SI_so_5, sE_so_5, hbq⟩ := hp
  dsimp only at SI_so_5 sE_so_5 hbq
  replace h : sT Γ s (xW Γ d qm_1 (.inr (6, [.int (nI 2), .ref (d (20 + 3 * j_2)), .ref (d (20 + 3 * j_3))]) : va_E) so_5 tl tb wr) H locs := h
  refine W.eq (g2 := F0 m 32 ls [.int (bI bq)]) rfl ?_
  refine bb_ne (tgt := 39) C dc_X_inside_32 (by decide) (fun q32 => ?_) (fun q32 => ?_)
  · refine lv_iconst (v := (nI 0)) C.x C.b dc_X_inside_39 (by decide +kernel) ?_
    refine W.widen (k := 6) (n := 40) (by decide) (by decide) ?_
    rw [hQ]
    exact vx_ret (rt_z C (qm_1, (.inr (6, [.int (nI 2), .ref (d (20 + 3 * j_2)), .ref (d (20 + 3 * j_3))]) : va_E), so_5, tb) h (⟨j_2, j_3, ⟨lt_j_2, lt_j_3, e_j_2, e_j_3⟩, false, by decide +kernel, ⟨fun z => (by cases z), fun z => (by obtain ⟨w, w1, w2⟩ := hbq.mp q32; exact absurd w2 (z w w1))⟩, ⟨SI_so_5.sB (mok_ok hMB).2.2, by show so_5 10 3 ≤ 80; have := sE_so_5.2.2.2.1; omega, fun i hi => hC0.2.2 i (by have : i < so_5 10 3 := hi; have := sE_so_5.2.2.2.1; omega)⟩, by show so_5 10 3 = _; have := sE_so_5.2.2.2.1; omega, rfl⟩) (by decide +kernel) dc_X_inside_40)
  · refine lv_iconst (v := (nI 1)) C.x C.b dc_X_inside_35 (by decide +kernel) ?_
    refine lv_goto (tgt := 40) C.x C.b dc_X_inside_36 (by decide) ?_
    refine W.widen (k := 6) (n := 40) (by decide) (by decide) ?_
    rw [hQ]
    exact vx_ret (rt_z C (qm_1, (.inr (6, [.int (nI 2), .ref (d (20 + 3 * j_2)), .ref (d (20 + 3 * j_3))]) : va_E), so_5, tb) h (⟨j_2, j_3, ⟨lt_j_2, lt_j_3, e_j_2, e_j_3⟩, true, by decide +kernel, ⟨fun _ w w1 w2 => (by rw [hbq.mpr ⟨w, w1, w2⟩] at q32; cases q32), fun _ => rfl⟩, ⟨SI_so_5.sB (mok_ok hMB).2.2, by show so_5 10 3 ≤ 80; have := sE_so_5.2.2.2.1; omega, fun i hi => hC0.2.2 i (by have : i < so_5 10 3 := hi; have := sE_so_5.2.2.2.1; omega)⟩, by show so_5 10 3 = _; have := sE_so_5.2.2.2.1; omega, rfl⟩) (by decide +kernel) dc_X_inside_40)

abbrev rm_X_size : Room := { frames := 7, cells := 6, slots := 40, locals := 103 }
set_option maxRecDepth 100000 in
set_option maxHeartbeats 4000000 in
theorem c_X_size (l : Launch) (Γ : gG) (d : Nat → Nat) (hm : Nat) (mc : va_E) (so : Nat → Nat → Nat) (tl : Nat → Nat → Int64) (tb : Nat → Nat → Nat → Nat) (wr : va_W) (pp : Int32) (hC0 : CS so tb) (hst : l.stackTraces = false) : cTx l Γ my_X_size bc_X_size 6 (some .int) rm_X_size [.ref (d 0), .int pp] (xW Γ d hm mc so tl tb wr) (S := Nat → Nat → Int64) (fun v u => ∃ i, (i < so 10 3 ∧ pp = nI i) ∧ (((∃ n, tb i 0 0 ≤ n ∧ n < 2 * tb i 0 0 ∧ 0 < cnt (tb i 0 1) (tb i 1) n 0) ∧ v = some (.int (mI 0))) ∨ ((∀ n, tb i 0 0 ≤ n → n < 2 * tb i 0 0 → cnt (tb i 0 1) (tb i 1) n 0 = 0) ∧ ((1000000000 < scn (tb i 0 1) (tb i 1) 0 (2 * tb i 0 0) ∧ v = some (.int (-2))) ∨ (scn (tb i 0 1) (tb i 1) 0 (2 * tb i 0 0) ≤ 1000000000 ∧ v = some (.int (nI (scn (tb i 0 1) (tb i 1) 0 (2 * tb i 0 0))))))))) (fun u => xW Γ d hm mc so u tb wr) (SX := Unit) (fun E _ => E = en_iae ∧ ¬ ∃ i, i < so 10 3 ∧ pp = nI i) (fun _ => xW Γ d hm mc so tl tb wr) := by
  refine cTx.start (by decide) (Nat.le_of_ble_eq_true rfl) (fun p e s m args below meth c ls Q hQ C hmn hno hX h hl => ?_)
  replace hl : lv_has ls 6 [(0, .ref (d 0)), (1, .int pp)] := hl
  have h80 := hC0.2.1
  refine lv_aload_n C.x C.b dc_X_size_0 rfl (lv_at hl 0 rfl) ?_
  refine lv_iload_n C.x C.b dc_X_size_1 rfl (lv_at hl 1 rfl) ?_
  refine kx_V (As := [.int pp]) (rest := []) C hX h hl.1 (c_X_tableOf l Γ d hm mc so tl tb wr pp h80 hst) mw_X_tableOf lk_X_48 (q0 := 0) rfl rfl rfl (by decide) (by decide) (Nat.le_of_ble_eq_true rfl) dc_X_size_2 (fun E ce q9 u H locs hp h hc1 hc2 hc3 => ?_) (fun v u H locs hp h => ?_)
  · rw [hQ]
    exact kx_out C hno () h (⟨hp.1, fun z => by obtain ⟨i, a, c⟩ := z; exact hp.2 ⟨i, a, c⟩⟩) hc1 hc2 hc3 (by decide) (by decide)
  obtain ⟨j_1, rfl⟩ : ∃ zz9, zz9 = u := ⟨_, rfl⟩
  obtain ⟨rfl, lt_j_1, e_j_1⟩ := hp
  replace h : sT Γ s (xW Γ d hm mc so tl tb wr) H locs := h
  refine W.eq (g2 := F0 m 5 ls [.ref (d (20 + 3 * j_1))]) rfl ?_
  refine lv_astore_n (lv' := [(2, .ref (d (20 + 3 * j_1))), (0, .ref (d 0)), (1, .int pp)]) C.x C.b dc_X_size_5 rfl hl (by decide) rfl (fun ls hl => ?_)
  obtain ⟨hj80, htk, htg⟩ := hC0.tok lt_j_1
  have ht2 := htk.2.1
  have ht3 := htk.2.2.1
  refine lv_lconst (v := 0) C.x C.b dc_X_size_6 (by decide +kernel) ?_
  refine lv_lstore_n (lv' := [(3, .long 0), (2, .ref (d (20 + 3 * j_1))), (0, .ref (d 0)), (1, .int pp)]) C.x C.b dc_X_size_7 rfl hl (by decide) rfl (fun ls hl => ?_)
  refine lv_aload_n C.x C.b dc_X_size_8 rfl (lv_at hl 2 rfl) ?_
  refine rg_get C h 0 rfl rfl in_X 2 (by decide) fl_X_25 rfl dc_X_size_9 ?_
  refine lv_aload_n C.x C.b dc_X_size_12 rfl (lv_at hl 1 rfl) ?_
  refine kv_V (As := [.ref (d (20 + 3 * j_1))]) (rest := []) C h hl.1 (c_Y_begin l Γ d hm mc so tl tb wr j_1 hj80 htk) mw_Y_begin lk_X_109 (q0 := 3) rfl rfl rfl (by decide) (by decide) (Nat.le_of_ble_eq_true rfl) dc_X_size_13 (fun v u H locs hp h => ?_)
  obtain ⟨tl_2, rfl⟩ : ∃ zz9, zz9 = u := ⟨_, rfl⟩
  obtain ⟨rfl, htl_2⟩ := hp
  replace h : sT Γ s (xW Γ d hm mc so tl_2 tb wr) H locs := h
  refine W.eq (g2 := F0 m 16 ls []) rfl ?_
  refine lv_iconst (v := (nI 0)) C.x C.b dc_X_size_16 (by decide +kernel) ?_
  refine lv_istore (lv' := [(5, .int (nI 0)), (3, .long (lI (scn (tb j_1 0 1) (tb j_1 1) 0 0))), (2, .ref (d (20 + 3 * j_1))), (0, .ref (d 0)), (1, .int pp)]) C.x C.b dc_X_size_17 hl (by decide) rfl (fun ls hl => ?_)
  have hno : ∀ n, tb j_1 0 0 ≤ n → n < 0 → cnt (tb j_1 0 1) (tb j_1 1) n 0 = 0 := fun n _ b => absurd b (Nat.not_lt_zero _)
  have lp_19 : ∀ (n_19 : Nat) (k : Nat) (z : Nat → Nat → Int64) (H : Heap) (locs : List Loc) (ls : Array Slot), 2 * tb j_1 0 0 - k < n_19 → (k ≤ 2 * tb j_1 0 0) → (∀ r, r < tb j_1 0 0 → z 0 r = lI (cnt (tb j_1 0 1) (tb j_1 1) k r)) → (∀ n, tb j_1 0 0 ≤ n → n < k → cnt (tb j_1 0 1) (tb j_1 1) n 0 = 0) → sT Γ s (xW Γ d hm mc so z tb wr) H locs → lv_has ls 6 [(5, .int (nI k)), (3, .long (lI (scn (tb j_1 0 1) (tb j_1 1) 0 k))), (2, .ref (d (20 + 3 * j_1))), (0, .ref (d 0))] → W p l e rm_X_size s m args below meth c H locs 1 6 Q (F0 m 19 ls []) := by
    intro n_19
    induction n_19 with
    | zero => intro k z H locs ls hms; exact absurd hms (Nat.not_lt_zero _)
    | succ n_19 ih_19 =>
      intro k z H locs ls hms hk hz hno h hl
      refine lv_iload C.x C.b dc_X_size_19 (lv_at hl 0 rfl) ?_
      refine lv_iconst (v := (nI 2)) C.x C.b dc_X_size_21 (by decide +kernel) ?_
      refine lv_aload_n C.x C.b dc_X_size_22 rfl (lv_at hl 2 rfl) ?_
      refine rg_getN C h (17 + j_1) (lk_T (hj80)) rfl in_T 0 (by decide) fl_X_106 rfl dc_X_size_23 ?_
      refine lv_imul C.x C.b dc_X_size_26 ?_
      refine tp_i (pk_mul 2 (tb j_1 0 0)) ?_
      refine bc_ge (tgt := 81) C (by omega) (by omega) dc_X_size_27 (by decide) (fun q27 => ?_) (fun q27 => ?_)
      · have hs63 : scn (tb j_1 0 1) (tb j_1 1) 0 k < 2 ^ 63 := by have a := scn_le (tb j_1 0 1) (tb j_1 1) 0 k; have b := p3_20 k (by omega); omega
        have hk2 : k = 2 * tb j_1 0 0 := by omega
        refine lv_lload_n C.x C.b dc_X_size_81 rfl (lv_at hl 1 rfl) ?_
        refine lv_ldc2 C.x C.b C.o (C.t _ gw_l133) dc_X_size_82 ?_
        refine W.lcmp C.x C.b dc_X_size_85 ?_
        refine lv_if_le (tgt := 94) C.x C.b dc_X_size_86 (by decide) (fun q86 => ?_) (fun q86 => ?_)
        · refine lv_lload_n C.x C.b dc_X_size_94 rfl (lv_at hl 1 rfl) ?_
          refine lv_l2i C.x C.b dc_X_size_95 (lI_i _) ?_
          refine W.widen (k := 6) (n := 40) (by decide) (by decide) ?_
          rw [hQ]
          exact vx_ret (rt_i C z h (⟨j_1, ⟨lt_j_1, e_j_1⟩, Or.inr ⟨fun n a b => hno n a (by omega), by rw [← hk2]; exact Or.inr ⟨(cmp_le hs63 (by decide)).mp q86, rfl⟩⟩⟩) dc_X_size_96)
        · refine lv_bipush (v := (-2)) C.x C.b dc_X_size_89 (by decide +kernel) ?_
          refine lv_goto (tgt := 96) C.x C.b dc_X_size_91 (by decide) ?_
          refine W.widen (k := 6) (n := 40) (by decide) (by decide) ?_
          rw [hQ]
          exact vx_ret (rt_i C z h (⟨j_1, ⟨lt_j_1, e_j_1⟩, Or.inr ⟨fun n a b => hno n a (by omega), by rw [← hk2]; exact Or.inl ⟨Nat.lt_of_not_le (fun z9 => q86 ((cmp_le (b := 1000000000) hs63 (by decide)).mpr z9)), rfl⟩⟩⟩) dc_X_size_96)
      · have hc63 : cnt (tb j_1 0 1) (tb j_1 1) k 0 < 2 ^ 63 := Nat.lt_of_le_of_lt (Nat.le_trans (cnt_le _ _ k 0) (p3_20 k (by omega))) (by decide)
        refine lv_iload C.x C.b dc_X_size_30 (lv_at hl 0 rfl) ?_
        refine lv_aload_n C.x C.b dc_X_size_32 rfl (lv_at hl 2 rfl) ?_
        refine rg_getN C h (17 + j_1) (lk_T (hj80)) rfl in_T 0 (by decide) fl_X_106 rfl dc_X_size_33 ?_
        refine bc_lt (tgt := 55) C (by omega) (by omega) dc_X_size_36 (by decide) (fun q36 => ?_) (fun q36 => ?_)
        · refine lv_lload_n C.x C.b dc_X_size_55 rfl (lv_at hl 1 rfl) ?_
          refine lv_aload_n C.x C.b dc_X_size_56 rfl (lv_at hl 3 rfl) ?_
          refine rg_get C h 0 rfl rfl in_X 2 (by decide) fl_X_25 rfl dc_X_size_57 ?_
          refine rg_getN C h 3 rfl rfl in_Y 0 (by decide) fl_X_114 rfl dc_X_size_60 ?_
          refine lv_iconst (v := (nI 0)) C.x C.b dc_X_size_63 (by decide +kernel) ?_
          refine rg_lld C h 15 rfl (by omega) (by decide) dc_X_size_64 ?_
          refine lv_ladd C.x C.b dc_X_size_65 ?_
          refine tp_l (y := lI (scn (tb j_1 0 1) (tb j_1 1) 0 (k + 1))) (by rw [hz 0 htk.1, lI_add]; rfl) ?_
          refine lv_lstore_n (lv' := [(3, .long (lI (scn (tb j_1 0 1) (tb j_1 1) 0 (k + 1)))), (5, .int (nI k)), (2, .ref (d (20 + 3 * j_1))), (0, .ref (d 0))]) C.x C.b dc_X_size_66 rfl hl (by decide) rfl (fun ls hl => ?_)
          refine lv_aload_n C.x C.b dc_X_size_67 rfl (lv_at hl 3 rfl) ?_
          refine rg_get C h 0 rfl rfl in_X 2 (by decide) fl_X_25 rfl dc_X_size_68 ?_
          refine lv_aload_n C.x C.b dc_X_size_71 rfl (lv_at hl 2 rfl) ?_
          refine kv_V (As := [.ref (d (20 + 3 * j_1))]) (rest := []) C h hl.1 (c_Y_lengthen l Γ d hm mc so z tb wr j_1 k hj80 htk hz) mw_Y_lengthen lk_X_111 (q0 := 3) rfl rfl rfl (by decide) (by decide) (Nat.le_of_ble_eq_true rfl) dc_X_size_72 (fun v u H locs hp h => ?_)
          obtain ⟨tl_3, rfl⟩ : ∃ zz9, zz9 = u := ⟨_, rfl⟩
          obtain ⟨rfl, htl_3⟩ := hp
          replace h : sT Γ s (xW Γ d hm mc so tl_3 tb wr) H locs := h
          refine W.eq (g2 := F0 m 75 ls []) rfl ?_
          refine lv_iinc (v := nI (k + 1)) (lv' := [(5, .int (nI (k + 1))), (3, .long (lI (scn (tb j_1 0 1) (tb j_1 1) 0 (k + 1)))), (2, .ref (d (20 + 3 * j_1))), (0, .ref (d 0))]) C.x C.b dc_X_size_75 hl (k := 1) rfl (nI_1 k) (by decide) rfl (fun ls hl => ?_)
          refine lv_goto (tgt := 19) C.x C.b dc_X_size_78 (by decide) ?_
          have hno : ∀ n, tb j_1 0 0 ≤ n → n < k + 1 → cnt (tb j_1 0 1) (tb j_1 1) n 0 = 0 := fun n a b => by
            by_cases e9 : n = k
            · subst e9
              first
              | exact absurd a (by omega)
              | exact Nat.le_zero.mp ((cmp_le hc63 (by decide)).mp (by rw [hz 0 htk.1] at q50; exact q50))
            · exact hno n a (by omega)
          exact ih_19 (k + 1) tl_3 _ _ _ (by omega) (by first | assumption | omega) (by assumption) (by assumption) h (lv_sub hl [0, 1, 2, 3] rfl)
        · refine lv_aload_n C.x C.b dc_X_size_39 rfl (lv_at hl 3 rfl) ?_
          refine rg_get C h 0 rfl rfl in_X 2 (by decide) fl_X_25 rfl dc_X_size_40 ?_
          refine rg_getN C h 3 rfl rfl in_Y 0 (by decide) fl_X_114 rfl dc_X_size_43 ?_
          refine lv_iconst (v := (nI 0)) C.x C.b dc_X_size_46 (by decide +kernel) ?_
          refine rg_lld C h 15 rfl (by omega) (by decide) dc_X_size_47 ?_
          refine lv_lconst (v := 0) C.x C.b dc_X_size_48 (by decide +kernel) ?_
          refine W.lcmp C.x C.b dc_X_size_49 ?_
          refine lv_if_le (tgt := 55) C.x C.b dc_X_size_50 (by decide) (fun q50 => ?_) (fun q50 => ?_)
          · refine lv_lload_n C.x C.b dc_X_size_55 rfl (lv_at hl 1 rfl) ?_
            refine lv_aload_n C.x C.b dc_X_size_56 rfl (lv_at hl 3 rfl) ?_
            refine rg_get C h 0 rfl rfl in_X 2 (by decide) fl_X_25 rfl dc_X_size_57 ?_
            refine rg_getN C h 3 rfl rfl in_Y 0 (by decide) fl_X_114 rfl dc_X_size_60 ?_
            refine lv_iconst (v := (nI 0)) C.x C.b dc_X_size_63 (by decide +kernel) ?_
            refine rg_lld C h 15 rfl (by omega) (by decide) dc_X_size_64 ?_
            refine lv_ladd C.x C.b dc_X_size_65 ?_
            refine tp_l (y := lI (scn (tb j_1 0 1) (tb j_1 1) 0 (k + 1))) (by rw [hz 0 htk.1, lI_add]; rfl) ?_
            refine lv_lstore_n (lv' := [(3, .long (lI (scn (tb j_1 0 1) (tb j_1 1) 0 (k + 1)))), (5, .int (nI k)), (2, .ref (d (20 + 3 * j_1))), (0, .ref (d 0))]) C.x C.b dc_X_size_66 rfl hl (by decide) rfl (fun ls hl => ?_)
            refine lv_aload_n C.x C.b dc_X_size_67 rfl (lv_at hl 3 rfl) ?_
            refine rg_get C h 0 rfl rfl in_X 2 (by decide) fl_X_25 rfl dc_X_size_68 ?_
            refine lv_aload_n C.x C.b dc_X_size_71 rfl (lv_at hl 2 rfl) ?_
            refine kv_V (As := [.ref (d (20 + 3 * j_1))]) (rest := []) C h hl.1 (c_Y_lengthen l Γ d hm mc so z tb wr j_1 k hj80 htk hz) mw_Y_lengthen lk_X_111 (q0 := 3) rfl rfl rfl (by decide) (by decide) (Nat.le_of_ble_eq_true rfl) dc_X_size_72 (fun v u H locs hp h => ?_)
            obtain ⟨tl_4, rfl⟩ : ∃ zz9, zz9 = u := ⟨_, rfl⟩
            obtain ⟨rfl, htl_4⟩ := hp
            replace h : sT Γ s (xW Γ d hm mc so tl_4 tb wr) H locs := h
            refine W.eq (g2 := F0 m 75 ls []) rfl ?_
            refine lv_iinc (v := nI (k + 1)) (lv' := [(5, .int (nI (k + 1))), (3, .long (lI (scn (tb j_1 0 1) (tb j_1 1) 0 (k + 1)))), (2, .ref (d (20 + 3 * j_1))), (0, .ref (d 0))]) C.x C.b dc_X_size_75 hl (k := 1) rfl (nI_1 k) (by decide) rfl (fun ls hl => ?_)
            refine lv_goto (tgt := 19) C.x C.b dc_X_size_78 (by decide) ?_
            have hno : ∀ n, tb j_1 0 0 ≤ n → n < k + 1 → cnt (tb j_1 0 1) (tb j_1 1) n 0 = 0 := fun n a b => by
              by_cases e9 : n = k
              · subst e9
                first
                | exact absurd a (by omega)
                | exact Nat.le_zero.mp ((cmp_le hc63 (by decide)).mp (by rw [hz 0 htk.1] at q50; exact q50))
              · exact hno n a (by omega)
            exact ih_19 (k + 1) tl_4 _ _ _ (by omega) (by first | assumption | omega) (by assumption) (by assumption) h (lv_sub hl [0, 1, 2, 3] rfl)
          · refine lv_iconst (v := (mI 0)) C.x C.b dc_X_size_53 (by decide +kernel) ?_
            refine W.widen (k := 6) (n := 40) (by decide) (by decide) ?_
            rw [hQ]
            exact vx_ret (rt_i C z h (⟨j_1, ⟨lt_j_1, e_j_1⟩, Or.inl ⟨⟨k, by omega, by omega, by
              apply Nat.pos_of_ne_zero
              intro e9
              rw [hz 0 htk.1] at q50
              exact q50 ((cmp_le (b := 0) hc63 (by decide)).mpr (by omega))⟩, rfl⟩⟩) dc_X_size_54)
  exact lp_19 _ 0 tl_2 _ _ _ (Nat.lt_succ_self _) (by first | assumption | omega) (by assumption) (by assumption) h (lv_sub hl [0, 1, 2, 3] rfl)

