theorem wl_sr : ∀ k, k < 30 → ((nI (2 * k)).toInt64 &&& 63) = Int64.ofNat (2 * k) := by decide +kernel
theorem wl_sm : ∀ k, k < 30 → ((Int64.ofNat (2 * k)).toBitVec.smod 64).toNat = 2 * k := by decide +kernel
theorem wl_3 : ∀ i, i < 64 → (3#64).getLsbD i = decide (i < 2) := by decide +kernel
theorem wl_r (x : Int64) {k : Nat} (hk : k < 30) : (x >>> ((nI (2 * k)).toInt64 &&& 63)) &&& 3 = lI (wl x k) := by
  rw [wl_sr k hk]
  apply Int64.toBitVec_inj.1
  rw [Int64.toBitVec_and]
  show (x.toBitVec.sshiftRight ((Int64.ofNat (2 * k)).toBitVec.smod 64).toNat) &&& 3#64 = BitVec.ofNat 64 (wl x k)
  rw [wl_sm k hk]
  apply BitVec.eq_of_getLsbD_eq
  intro i hi
  rw [BitVec.getLsbD_and, BitVec.getLsbD_sshiftRight, wl_3 i hi, BitVec.getLsbD_ofNat]
  unfold wl
  rw [show (4 : Nat) = 2 ^ 2 from rfl, Nat.testBit_mod_two_pow, Nat.testBit_div_two_pow]
  by_cases h2 : i < 2
  · rw [if_pos (by omega), decide_eq_true h2, decide_eq_true hi, decide_eq_false (show ¬ 64 ≤ i by omega)]
    simp only [Bool.not_false, Bool.true_and, Bool.and_true]
    rw [Nat.add_comm]
    rfl
  · simp [h2]
theorem cmp_ge {a b : Nat} (ha : a < 2 ^ 63) (hb : b < 2 ^ 63) : 0 ≤ lg_cmp (lI a) (lI b) ↔ b ≤ a := by
  have e : lI b < lI a ↔ b < a := by rw [Int64.lt_iff_toInt_lt, lI_toInt ha, lI_toInt hb]; omega
  have e2 : lI a = lI b ↔ a = b := by rw [← Int64.toInt_inj, lI_toInt ha, lI_toInt hb]; omega
  unfold lg_cmp
  by_cases h : b < a
  · rw [if_pos (e.mpr h)]
    exact ⟨fun _ => by omega, fun _ => by decide⟩
  · rw [if_neg (fun z => h (e.mp z))]
    by_cases h3 : a = b
    · rw [if_pos (e2.mpr h3)]; exact ⟨fun _ => by omega, fun _ => by decide⟩
    · rw [if_neg (fun z => h3 (e2.mp z))]; exact ⟨fun z => absurd z (by decide), fun z => by omega⟩
def rQ (c : Nat) (ri u : Nat → Nat → Nat) : Prop := u 20 0 = c ∧ u 20 1 = ri 20 1 ∧ sS ri u (ri 20 1)
theorem none_codes {K : mM} {co : Nat → Nat} {n : Nat} (hA : ∀ i, i < n → K.2.2.1 (co i) = false ∧ ∀ l, l < 3 → ∃ j, j < n ∧ co j = K.2.1 (co i) l) : ∀ (w : List Nat) (i : Nat), i < n → lts w → macc K (co i) w = false
  | [], i, hi, _ => (hA i hi).1
  | l :: w, i, hi, hw => by
    obtain ⟨hl, hw2⟩ := lts_tl hw
    obtain ⟨j, j1, j2⟩ := (hA i hi).2 l hl
    rw [macc_cons, ← j2]
    exact none_codes hA w j j1 hw2
theorem LD.near {ri : Nat → Nat → Nat} {p : Nat} {f : Nat → Nat} (hO : rOK ri p) (h : LD ri p f) {r k l : Nat} (hr : r < ri 0 p) (hl : l < 3) (hc : f r = k + 2) (hk : k < 11) : f (rN ri p (r * 3 + l)) = k + 1 ↔ dlv (rT ri p 0 1) (rN ri p) k (rN ri p (r * 3 + l)) = true := by
  obtain ⟨⟨-, a⟩, -⟩ := h r hr
  obtain ⟨-, a2⟩ := a (k + 1) hc
  obtain ⟨⟨c0, c1⟩, -⟩ := h _ (hO.2.2.2.2.1 r l hr hl)
  constructor
  · intro e; exact (c1 k e).1
  · intro e
    cases hx : f (rN ri p (r * 3 + l)) with
    | zero => rw [c0 hx k hk] at e; cases e
    | succ x =>
      obtain ⟨y, z⟩ := c1 x hx
      by_cases h1 : x = k
      · rw [h1]
      · exfalso
        by_cases h2 : x < k
        · have := a2 (x + 1) (by omega)
          rw [dlv_s.mpr ⟨l, hl, y⟩] at this
          cases this
        · rw [z k (by omega)] at e; cases e
theorem LD.some {ri : Nat → Nat → Nat} {p : Nat} {f : Nat → Nat} (hO : rOK ri p) (h : LD ri p f) {r k : Nat} (hr : r < ri 0 p) (hc : f r = k + 2) (hk : k < 11) : ∃ l, l < 3 ∧ f (rN ri p (r * 3 + l)) = k + 1 := by
  obtain ⟨⟨-, a⟩, -⟩ := h r hr
  obtain ⟨l, hl, y⟩ := dlv_s.mp (a (k + 1) hc).1
  exact ⟨l, hl, (h.near hO hr hl hc hk).mpr y⟩
theorem LD.nxl {ri : Nat → Nat → Nat} {p : Nat} {f : Nat → Nat} (hO : rOK ri p) (h : LD ri p f) {r k q : Nat} (hr : r < ri 0 p) (hc : f r = k + 2) (hk : k < 11) (hq : q < 3) (qn : ∀ l, l < q → f (rN ri p (r * 3 + l)) ≠ k + 1) (qy : f (rN ri p (r * 3 + q)) = k + 1) : q = nxl (rT ri p 0 1) (rN ri p) k r := by
  refine (nxl_u hq ((h.near hO hr hq hc hk).mp qy) (fun l hl => ?_)).symm
  cases hd : dlv (rT ri p 0 1) (rN ri p) k (rN ri p (r * 3 + l)) with
  | false => rfl
  | true => exact absurd ((h.near hO hr (by omega) hc hk).mpr hd) (qn l hl)
theorem mI_pred {n : Nat} (h : 1 ≤ n) : mI n - nI 1 = mI (n - 1) := by
  obtain ⟨k, rfl⟩ : ∃ k, n = k + 1 := ⟨n - 1, by omega⟩
  rw [← mI_s]; rfl

set_option maxRecDepth 100000 in theorem gw_m122 : Cond.constantLong rn_M 122 3 ∈ gw := gw_t 796 rfl rfl
set_option maxRecDepth 100000 in theorem gw_m132 : Cond.constantLong rn_M 132 1000000000 ∈ gw := gw_t 833 rfl rfl
/-- a rest that has a word has one of fewer letters than there are rests -/
theorem dlv_short {t : Nat → Nat → Nat} (h : tOK t) {r : Nat} (hr : r < t 0 0) : ∀ {k : Nat}, dlv (t 0 1) (t 1) k r = true → ∃ j, j < t 0 0 ∧ dlv (t 0 1) (t 1) j r = true := by
  have ex : ∀ k, ∀ r, r < t 0 0 → (dlv (t 0 1) (t 1) k r = true ∧ ∀ j, j < k → dlv (t 0 1) (t 1) j r = false) → ∀ d, d ≤ k → ∃ x, x < t 0 0 ∧ dlv (t 0 1) (t 1) d x = true ∧ ∀ j, j < d → dlv (t 0 1) (t 1) j x = false := by
    intro k
    induction k with
    | zero => intro r hr a d hd; exact ⟨r, hr, by rw [show d = 0 by omega]; exact a.1, fun j hj => by omega⟩
    | succ k ih =>
      intro r hr a d hd
      by_cases e : d = k + 1
      · rw [e]; exact ⟨r, hr, a⟩
      · obtain ⟨l, hl, b⟩ := dlv_s.mp a.1
        refine ih _ (h.2.2.2.2 r l hr hl) ⟨b, fun j hj => ?_⟩ d (by omega)
        cases hd2 : dlv (t 0 1) (t 1) j (t 1 (r * 3 + l)) with
        | false => rfl
        | true =>
          have := a.2 (j + 1) (by omega)
          rw [dlv_s.mpr ⟨l, hl, hd2⟩] at this
          cases this
  intro k hk
  have mn : ∃ k, dlv (t 0 1) (t 1) k r = true ∧ ∀ j, j < k → dlv (t 0 1) (t 1) j r = false := by
    induction k using Nat.strongRecOn with
    | ind k ih =>
      by_cases z : ∃ j, j < k ∧ dlv (t 0 1) (t 1) j r = true
      · obtain ⟨j, j1, j2⟩ := z; exact ih j j1 j2
      · refine ⟨k, hk, fun j hj => ?_⟩
        cases hd : dlv (t 0 1) (t 1) j r with
        | false => rfl
        | true => exact absurd ⟨j, hj, hd⟩ z
  obtain ⟨m, m1, m2⟩ := mn
  have all := ex m r hr ⟨m1, m2⟩
  have le := pig (t 0 0) (m + 1) (fun d => if hd : d ≤ m then Classical.choose (all d hd) else 0) (fun d hd => by
    rw [dif_pos (by omega)]; exact (Classical.choose_spec (all d (by omega))).1) (fun a b ha hb e => by
    rw [dif_pos (by omega), dif_pos (by omega)] at e
    have xa := (Classical.choose_spec (all a (by omega))).2
    have xb := (Classical.choose_spec (all b (by omega))).2
    rw [e] at xa
    rcases Nat.lt_trichotomy a b with z | z | z
    · have := xb.2 a z; rw [xa.1] at this; cases this
    · exact z
    · have := xa.2 b z; rw [xb.1] at this; cases this)
  exact ⟨m, by omega, m1⟩
abbrev rm_M_beginnings : Room := { frames := 5, cells := 0, slots := 0, locals := 120 }
set_option maxRecDepth 100000 in
set_option maxHeartbeats 4000000 in
theorem c_M_beginnings (l : Launch) (Γ : gG) (r : Nat → Nat) (ri : Nat → Nat → Nat) (rl : Nat → Nat → Int64) (wr : va_W) (pp : Int32) (hS : RS ri) : cT l Γ my_M_beginnings bc_M_beginnings 3 (some .int) rm_M_beginnings [.ref (r 0), .int pp] (rW Γ r ri rl wr) (S := Nat → Nat → Nat) (fun v u => (¬ (∃ i, i < ri 20 1 ∧ pp = nI i) ∧ rbad 1 ri v u) ∨ ∃ i, (i < ri 20 1 ∧ pp = nI i) ∧ ∃ lv, (∀ x, x < ri 0 i → (lv x = true ↔ ∃ k, k < 11 ∧ dlv (rT ri i 0 1) (rN ri i) k x = true)) ∧ mkF 2 ri (jG (rT ri i) (ri 1 i) lv) v u) (fun u => rW Γ r u rl wr) := by
  refine cT.start (by decide) (Nat.le_of_ble_eq_true rfl) (fun p e s m args below meth c ls Q hQ C hmn h hl => ?_)
  replace hl : lv_has ls 3 [(0, .ref (r 0)), (1, .int pp)] := hl
  have hS80 := hS.1
  refine lv_aload_n C.x C.b dc_M_beginnings_0 rfl (lv_at hl 0 rfl) ?_
  refine lv_aload_n C.x C.b dc_M_beginnings_1 rfl (lv_at hl 0 rfl) ?_
  refine lv_iload_n C.x C.b dc_M_beginnings_2 rfl (lv_at hl 1 rfl) ?_
  refine kv_V (As := [.int pp]) (rest := [.ref (r 0)]) C h hl.1 (c_M_isSet l Γ r ri rl wr pp (by omega)) mw_M_isSet lk_M_115 (q0 := 0) rfl rfl rfl (by decide) (by decide) (Nat.le_of_ble_eq_true rfl) dc_M_beginnings_3 (fun v u H locs hp h => ?_)
  obtain ⟨bs_1, rfl⟩ : ∃ zz9, zz9 = u := ⟨_, rfl⟩
  obtain ⟨rfl, hbs_1⟩ := hp
  replace h : sT Γ s (rW Γ r ri rl wr) _ _ := h
  refine W.eq (g2 := F0 m 6 ls [.int (bI bs_1), .ref (r 0)]) rfl ?_
  refine bb_eq (tgt := 13) C dc_M_beginnings_6 (by decide) (fun q6 => ?_) (fun q6 => ?_)
  · refine lv_iconst (v := (nI 1)) C.x C.b dc_M_beginnings_13 (by decide +kernel) ?_
    refine rg_put (ty := .int) C h 0 rfl rfl in_M tk_M nm_M 0 (by decide) fl_M_54 rfl (by decide +kernel) rfl rfl (by simp) dc_M_beginnings_14 (fun H locs h => ?_)
    obtain ⟨ri_2, eri_2⟩ : ∃ zz9, zz9 = us ri 20 (us (ri 20) 0 1) := ⟨_, rfl⟩
    have fri_2 : ∀ zk, zk ≠ 20 → ri_2 zk = ri zk := fun zk hzk => by rw [eri_2, us_n _ _ hzk]
    have gri_2 : ri_2 20 = us (ri 20) 0 1 := by rw [eri_2, us_s]
    have xri_2 : ri_2 20 0 = 1 ∧ ri_2 20 1 = ri 20 1 ∧ ri_2 20 2 = ri 20 2 ∧ ri_2 20 3 = ri 20 3 ∧ ri_2 20 4 = ri 20 4 ∧ ri_2 20 5 = ri 20 5 ∧ ri_2 20 6 = ri 20 6 := by rw [gri_2]; exact ⟨us_s _ _ _, us_n _ _ (by decide), us_n _ _ (by decide), us_n _ _ (by decide), us_n _ _ (by decide), us_n _ _ (by decide), us_n _ _ (by decide)⟩
    replace h : sT Γ s (rW Γ r ri_2 rl wr) H locs := by rw [eri_2]; exact h
    have hss : sS ri ri_2 (ri 20 1) := sS.of (fri_2 0 (by decide)) (fri_2 1 (by decide)) (fri_2 2 (by decide)) (fri_2 3 (by decide))
    refine lv_aload_n C.x C.b dc_M_beginnings_17 rfl (lv_at hl 0 rfl) ?_
    refine rg_get C h 0 rfl rfl in_M 0 (by decide) fl_M_54 rfl dc_M_beginnings_18 ?_
    refine tp_i (y := nI 1) (by rw [show ri_2 20 0 = 1 by omega]) ?_
    refine bz_le (tgt := 26) C (by omega) dc_M_beginnings_21 (by decide) (fun q21 => absurd q21 (by decide)) (fun q21 => ?_)
    refine lv_iconst (v := (nI 0)) C.x C.b dc_M_beginnings_24 (by decide +kernel) ?_
    rw [hQ]
    exact rt_i C ri_2 h (Or.inl ⟨fun z => by first | (obtain ⟨i, a, c⟩ := z; rw [hbs_1.mpr ⟨i, a, c⟩] at q6; exact Bool.noConfusion q6), by omega, ⟨_, rfl⟩, by omega, hss⟩) dc_M_beginnings_25
  · refine lv_iconst (v := (nI 0)) C.x C.b dc_M_beginnings_9 (by decide +kernel) ?_
    refine lv_goto (tgt := 14) C.x C.b dc_M_beginnings_10 (by decide) ?_
    obtain ⟨i, hi, ei⟩ := hbs_1.mp q6
    subst ei
    refine rg_put (ty := .int) C h 0 rfl rfl in_M tk_M nm_M 0 (by decide) fl_M_54 rfl (by decide +kernel) rfl rfl (by simp) dc_M_beginnings_14 (fun H locs h => ?_)
    obtain ⟨ri_3, eri_3⟩ : ∃ zz9, zz9 = us ri 20 (us (ri 20) 0 0) := ⟨_, rfl⟩
    have fri_3 : ∀ zk, zk ≠ 20 → ri_3 zk = ri zk := fun zk hzk => by rw [eri_3, us_n _ _ hzk]
    have gri_3 : ri_3 20 = us (ri 20) 0 0 := by rw [eri_3, us_s]
    have xri_3 : ri_3 20 0 = 0 ∧ ri_3 20 1 = ri 20 1 ∧ ri_3 20 2 = ri 20 2 ∧ ri_3 20 3 = ri 20 3 ∧ ri_3 20 4 = ri 20 4 ∧ ri_3 20 5 = ri 20 5 ∧ ri_3 20 6 = ri 20 6 := by rw [gri_3]; exact ⟨us_s _ _ _, us_n _ _ (by decide), us_n _ _ (by decide), us_n _ _ (by decide), us_n _ _ (by decide), us_n _ _ (by decide), us_n _ _ (by decide)⟩
    replace h : sT Γ s (rW Γ r ri_3 rl wr) H locs := by rw [eri_3]; exact h
    have hss : sS ri ri_3 (ri 20 1) := sS.of (fri_3 0 (by decide)) (fri_3 1 (by decide)) (fri_3 2 (by decide)) (fri_3 3 (by decide))
    refine lv_aload_n C.x C.b dc_M_beginnings_17 rfl (lv_at hl 0 rfl) ?_
    refine rg_get C h 0 rfl rfl in_M 0 (by decide) fl_M_54 rfl dc_M_beginnings_18 ?_
    refine tp_i (y := nI 0) (by rw [show ri_3 20 0 = 0 by omega]) ?_
    refine bz_le (tgt := 26) C (by omega) dc_M_beginnings_21 (by decide) (fun q21 => ?_) (fun q21 => absurd q21 (by decide))
    have hO1 : rOK ri_3 i := hss.rok hi (hS.2 _ hi).1
    have hO := (hS.2 _ hi).1
    have hi80 := hO.1
    have hi10 := hO.2.2.1
    have eT := hss.tab hi hO.2.2.1
    have e0 := (hss _ hi).1
    have F20 : ∀ zk, zk ≠ 20 → ri_3 zk = ri zk := fri_3
    have S20 : ri_3 20 0 = 0 ∧ ri_3 20 1 = ri 20 1 := ⟨by omega, by omega⟩
    refine lv_aload_n C.x C.b dc_M_beginnings_26 rfl (lv_at hl 0 rfl) ?_
    refine lv_iload_n C.x C.b dc_M_beginnings_27 rfl (lv_at hl 1 rfl) ?_
    refine kv_V (As := [.int (nI i)]) (rest := []) C h hl.1 (c_M_look l Γ r ri_3 rl wr i (hO1)) mw_M_look lk_M_118 (q0 := 0) rfl rfl rfl (by decide) (by decide) (Nat.le_of_ble_eq_true rfl) dc_M_beginnings_28 (fun v u H locs hp h => ?_)
    obtain ⟨ri_4, rfl⟩ : ∃ zz9, zz9 = u := ⟨_, rfl⟩
    obtain ⟨rfl, kL_ri_4, lD_ri_4⟩ := hp
    replace h : sT Γ s (rW Γ r ri_4 rl wr) _ _ := h
    refine W.eq (g2 := F0 m 31 ls []) rfl ?_
    have hlk : ∀ x, x < ri 0 i → (¬ ri_4 11 x = 0 ↔ ∃ k, k < 11 ∧ dlv (rT ri i 0 1) (rN ri i) k x = true) ∧ ri_4 11 x ≤ 12 := fun x hx => by
      obtain ⟨⟨a, b⟩, c⟩ := lD_ri_4 x (by omega)
      rw [eT, show rN ri_3 i = rN ri i from congrFun eT 1] at a b
      refine ⟨⟨fun z9 => ?_, fun z9 e9 => ?_⟩, c⟩
      · obtain ⟨k, ek⟩ : ∃ k, ri_4 11 x = k + 1 := ⟨ri_4 11 x - 1, by omega⟩
        by_cases hk : k < 11
        · exact ⟨k, hk, (b k ek).1⟩
        · exfalso
          obtain ⟨k2, k3, k4⟩ := dlv_short (rOK.tok hO) (show x < rT ri i 0 0 from hx) (b k ek).1
          have k5 : dlv (rT ri i 0 1) (rN ri i) k2 x = true := k4
          rw [(b k ek).2 k2 (by have : k2 < ri 0 i := k3; omega)] at k5
          cases k5
      · obtain ⟨k, k1, k2⟩ := z9
        rw [a e9 k k1] at k2; cases k2
    obtain ⟨lf, elf⟩ : ∃ zz9, zz9 = ri_4 := ⟨_, rfl⟩
    rw [← elf] at hlk kL_ri_4 h
    have kLk := kL_ri_4
    have l0 : lf 0 i = ri 0 i := by rw [kLk 0 (by decide)]; exact e0
    refine lv_iconst (v := (nI 0)) C.x C.b dc_M_beginnings_31 (by decide +kernel) ?_
    refine lv_istore_n (lv' := [(2, .int (nI 0)), (0, .ref (r 0)), (1, .int (nI i))]) C.x C.b dc_M_beginnings_32 rfl hl (by decide) rfl (fun ls hl => ?_)
    have hz1 : ∀ zk, zk ≠ 10 → lf zk = lf zk := fun _ _ => rfl
    have hA1 : ∀ x, x < 0 → lf 10 x = if lf 11 x = 0 then 0 else 1 := fun x hx => absurd hx (Nat.not_lt_zero _)
    have lp_33 : ∀ (n_33 : Nat) (k : Nat) (z : Nat → Nat → Nat) (H : Heap) (locs : List Loc) (ls : Array Slot), ri 0 i - k < n_33 → (k ≤ ri 0 i) → (∀ zk, zk ≠ 10 → z zk = lf zk) → (∀ x, x < k → z 10 x = if lf 11 x = 0 then 0 else 1) → sT Γ s (rW Γ r z rl wr) H locs → lv_has ls 3 [(2, .int (nI k)), (1, .int (nI i)), (0, .ref (r 0))] → W p l e rm_M_beginnings s m args below meth c H locs 0 0 Q (F0 m 33 ls []) := by
      intro n_33
      induction n_33 with
      | zero => intro k z H locs ls hms; exact absurd hms (Nat.not_lt_zero _)
      | succ n_33 ih_33 =>
        intro k z H locs ls hms hk hz hA h hl
        have z0 : z 0 i = ri 0 i := by rw [hz 0 (by decide)]; exact l0
        have z11 : z 11 = lf 11 := hz 11 (by decide)
        refine lv_iload_n C.x C.b dc_M_beginnings_33 rfl (lv_at hl 0 rfl) ?_
        refine lv_aload_n C.x C.b dc_M_beginnings_34 rfl (lv_at hl 2 rfl) ?_
        refine rg_get C h 0 rfl rfl in_M 2 (by decide) fl_M_9 rfl dc_M_beginnings_35 ?_
        refine lv_iload_n C.x C.b dc_M_beginnings_38 rfl (lv_at hl 1 rfl) ?_
        refine rg_ild C h 1 rfl (by omega) (by decide) dc_M_beginnings_39 ?_
        refine bc_ge (tgt := 69) C (by omega) (by omega) dc_M_beginnings_40 (by decide) (fun q40 => ?_) (fun q40 => ?_)
        · have zk1 : ∀ zk, zk ≠ 10 → zk ≠ 11 → zk ≠ 20 → z zk = ri zk := fun zk a b c => by rw [hz zk a, kLk zk b]; exact F20 zk c
          have zs : z 20 0 = 0 ∧ z 20 1 = ri 20 1 := by rw [hz 20 (by decide), kLk 20 (by decide)]; exact S20
          have hsz : sS ri z (ri 20 1) := sS.of (zk1 0 (by decide) (by decide) (by decide)) (zk1 1 (by decide) (by decide) (by decide)) (zk1 2 (by decide) (by decide) (by decide)) (zk1 3 (by decide) (by decide) (by decide))
          refine lv_aload_n C.x C.b dc_M_beginnings_69 rfl (lv_at hl 2 rfl) ?_
          refine lv_bipush (v := (nI 8)) C.x C.b dc_M_beginnings_70 (by decide +kernel) ?_
          refine lv_iload_n C.x C.b dc_M_beginnings_72 rfl (lv_at hl 1 rfl) ?_
          refine lv_iload_n C.x C.b dc_M_beginnings_73 rfl (lv_at hl 1 rfl) ?_
          refine lv_iconst (v := (nI 0)) C.x C.b dc_M_beginnings_74 (by decide +kernel) ?_
          refine kv_V (As := [.int (nI 8), .int (nI i), .int (nI i), .int (nI 0)]) (rest := []) C h hl.1 (c_M_make l Γ r z rl wr 8 i i 0 (hS.of zs.2 hsz) (jG (rT ri i) (ri 1 i) (rLv z)) (by
            have kk9 := rk_G (ri := z) (i := i) (hsz.rok hi hO) (fun c hc => by rw [hA c (by omega)]; split <;> decide)
            rw [hsz.tab hi hO.2.2.1, (hsz _ hi).2.1] at kk9
            exact kk9) (Or.inl (by omega)) (Or.inl (by omega))) mw_M_make lk_M_111 (q0 := 0) rfl rfl rfl (by decide) (by decide) (Nat.le_of_ble_eq_true rfl) dc_M_beginnings_75 (fun v u H locs hp h => ?_)
          obtain ⟨rn, rfl⟩ : ∃ zz9, zz9 = u := ⟨_, rfl⟩
          obtain ⟨xv, hxv⟩ : ∃ x, v = some (Value.int x) := by
            rcases hp with z9 | z9
            · exact ⟨_, z9.2.1⟩
            · exact ⟨_, z9.2.2.1⟩
          subst hxv
          replace h : sT Γ s (rW Γ r rn rl wr) _ _ := h
          refine W.eq (g2 := F0 m 78 ls [.int xv]) rfl ?_
          have hlv : ∀ x, x < ri 0 i → (rLv z x = true ↔ ∃ k, k < 11 ∧ dlv (rT ri i 0 1) (rN ri i) k x = true) := fun x hx => by
            rw [← (hlk x hx).1]
            unfold rLv
            rw [hA x (by omega), decide_eq_true_iff]
            by_cases e9 : lf 11 x = 0
            · rw [if_pos e9]; exact ⟨fun z9 => absurd z9 (by decide), fun z9 => absurd e9 z9⟩
            · rw [if_neg e9]; exact ⟨fun _ => e9, fun _ => rfl⟩
          rw [hQ]
          exact rt_i C rn h (Or.inr ⟨i, ⟨hi, rfl⟩, rLv z, hlv, mkF.of hp zs.1 zs.2 hsz⟩) dc_M_beginnings_78
        · refine lv_aload_n C.x C.b dc_M_beginnings_43 rfl (lv_at hl 2 rfl) ?_
          refine rg_get C h 0 rfl rfl in_M 17 (by decide) fl_M_41 rfl dc_M_beginnings_44 ?_
          refine lv_iload_n C.x C.b dc_M_beginnings_47 rfl (lv_at hl 0 rfl) ?_
          refine lv_aload_n C.x C.b dc_M_beginnings_48 rfl (lv_at hl 2 rfl) ?_
          refine rg_get C h 0 rfl rfl in_M 18 (by decide) fl_M_44 rfl dc_M_beginnings_49 ?_
          refine lv_iload_n C.x C.b dc_M_beginnings_52 rfl (lv_at hl 0 rfl) ?_
          refine rg_mld C h 12 rfl (by omega) (by decide) dc_M_beginnings_53 ?_
          refine bm_lt (tgt := 61) C (by rw [z11]; have := (hlk k (by omega)).2; omega) dc_M_beginnings_54 (by decide) (fun q54 => ?_) (fun q54 => ?_)
          · rw [z11] at q54
            refine lv_iconst (v := (nI 0)) C.x C.b dc_M_beginnings_61 (by decide +kernel) ?_
            refine rg_zst C h 11 rfl (by omega) (by decide) (by omega) dc_M_beginnings_62 (fun H locs h => ?_)
            obtain ⟨ri_5, eri_5⟩ : ∃ zz9, zz9 = us z 10 (us (z 10) k 0) := ⟨_, rfl⟩
            have fri_5 : ∀ zk, zk ≠ 10 → ri_5 zk = z zk := fun zk hzk => by rw [eri_5, us_n _ _ hzk]
            have gri_5 : ri_5 10 = us (z 10) k 0 := by rw [eri_5, us_s]
            have xri_5 : ri_5 20 0 = z 20 0 ∧ ri_5 20 1 = z 20 1 ∧ ri_5 20 2 = z 20 2 ∧ ri_5 20 3 = z 20 3 ∧ ri_5 20 4 = z 20 4 ∧ ri_5 20 5 = z 20 5 ∧ ri_5 20 6 = z 20 6 := by rw [fri_5 20 (by decide)]; exact ⟨rfl, rfl, rfl, rfl, rfl, rfl, rfl⟩
            replace h : sT Γ s (rW Γ r ri_5 rl wr) H locs := by rw [eri_5]; exact h
            refine lv_iinc (v := nI (k + 1)) (lv' := [(2, .int (nI (k + 1))), (1, .int (nI i)), (0, .ref (r 0))]) C.x C.b dc_M_beginnings_63 hl (k := 0) rfl (nI_1 k) (by decide) rfl (fun ls hl => ?_)
            refine lv_goto (tgt := 33) C.x C.b dc_M_beginnings_66 (by decide) ?_
            have hz1 : ∀ zk, zk ≠ 10 → ri_5 zk = lf zk := fun zk a => (fri_5 zk a).trans (hz zk a)
            have hA1 : ∀ x, x < k + 1 → ri_5 10 x = if lf 11 x = 0 then 0 else 1 := fun x hx => by
              rw [gri_5]
              by_cases e9 : x = k
              · rw [e9, us_s, if_pos q54]
              · rw [us_n _ _ e9]; exact hA x (by omega)
            exact ih_33 (k + 1) ri_5 _ _ _ (by omega) (by first | assumption | omega) (hz1) (hA1) h (lv_sub hl [0, 1, 2] rfl)
          · rw [z11] at q54
            refine lv_iconst (v := (nI 1)) C.x C.b dc_M_beginnings_57 (by decide +kernel) ?_
            refine lv_goto (tgt := 62) C.x C.b dc_M_beginnings_58 (by decide) ?_
            refine rg_zst C h 11 rfl (by omega) (by decide) (by omega) dc_M_beginnings_62 (fun H locs h => ?_)
            obtain ⟨ri_6, eri_6⟩ : ∃ zz9, zz9 = us z 10 (us (z 10) k 1) := ⟨_, rfl⟩
            have fri_6 : ∀ zk, zk ≠ 10 → ri_6 zk = z zk := fun zk hzk => by rw [eri_6, us_n _ _ hzk]
            have gri_6 : ri_6 10 = us (z 10) k 1 := by rw [eri_6, us_s]
            have xri_6 : ri_6 20 0 = z 20 0 ∧ ri_6 20 1 = z 20 1 ∧ ri_6 20 2 = z 20 2 ∧ ri_6 20 3 = z 20 3 ∧ ri_6 20 4 = z 20 4 ∧ ri_6 20 5 = z 20 5 ∧ ri_6 20 6 = z 20 6 := by rw [fri_6 20 (by decide)]; exact ⟨rfl, rfl, rfl, rfl, rfl, rfl, rfl⟩
            replace h : sT Γ s (rW Γ r ri_6 rl wr) H locs := by rw [eri_6]; exact h
            refine lv_iinc (v := nI (k + 1)) (lv' := [(2, .int (nI (k + 1))), (1, .int (nI i)), (0, .ref (r 0))]) C.x C.b dc_M_beginnings_63 hl (k := 0) rfl (nI_1 k) (by decide) rfl (fun ls hl => ?_)
            refine lv_goto (tgt := 33) C.x C.b dc_M_beginnings_66 (by decide) ?_
            have hz1 : ∀ zk, zk ≠ 10 → ri_6 zk = lf zk := fun zk a => (fri_6 zk a).trans (hz zk a)
            have hA1 : ∀ x, x < k + 1 → ri_6 10 x = if lf 11 x = 0 then 0 else 1 := fun x hx => by
              rw [gri_6]
              by_cases e9 : x = k
              · rw [e9, us_s, if_neg q54]
              · rw [us_n _ _ e9]; exact hA x (by omega)
            exact ih_33 (k + 1) ri_6 _ _ _ (by omega) (by first | assumption | omega) (hz1) (hA1) h (lv_sub hl [0, 1, 2] rfl)
    exact lp_33 _ 0 lf _ _ _ (Nat.lt_succ_self _) (by first | assumption | omega) (hz1) (hA1) h (lv_sub hl [0, 2, 1] rfl)

abbrev rm_M_rests : Room := { frames := 1, cells := 0, slots := 0, locals := 21 }
set_option maxRecDepth 100000 in
set_option maxHeartbeats 4000000 in
theorem c_M_rests (l : Launch) (Γ : gG) (r : Nat → Nat) (ri : Nat → Nat → Nat) (rl : Nat → Nat → Int64) (wr : va_W) (pp : Int32) (hS : RS ri) : cT l Γ my_M_rests bc_M_rests 2 (some .int) rm_M_rests [.ref (r 0), .int pp] (rW Γ r ri rl wr) (S := Nat → Nat → Nat) (fun v u => (¬ (∃ i, i < ri 20 1 ∧ pp = nI i) ∧ rbad 1 ri v u) ∨ ∃ i, (i < ri 20 1 ∧ pp = nI i) ∧ v = some (.int (nI (ri 0 i))) ∧ rQ 0 ri u) (fun u => rW Γ r u rl wr) := by
  refine cT.start (by decide) (Nat.le_of_ble_eq_true rfl) (fun p e s m args below meth c ls Q hQ C hmn h hl => ?_)
  replace hl : lv_has ls 2 [(0, .ref (r 0)), (1, .int pp)] := hl
  have hS80 := hS.1
  refine lv_aload_n C.x C.b dc_M_rests_0 rfl (lv_at hl 0 rfl) ?_
  refine lv_aload_n C.x C.b dc_M_rests_1 rfl (lv_at hl 0 rfl) ?_
  refine lv_iload_n C.x C.b dc_M_rests_2 rfl (lv_at hl 1 rfl) ?_
  refine kv_V (As := [.int pp]) (rest := [.ref (r 0)]) C h hl.1 (c_M_isSet l Γ r ri rl wr pp (by omega)) mw_M_isSet lk_M_115 (q0 := 0) rfl rfl rfl (by decide) (by decide) (Nat.le_of_ble_eq_true rfl) dc_M_rests_3 (fun v u H locs hp h => ?_)
  obtain ⟨bs_1, rfl⟩ : ∃ zz9, zz9 = u := ⟨_, rfl⟩
  obtain ⟨rfl, hbs_1⟩ := hp
  replace h : sT Γ s (rW Γ r ri rl wr) _ _ := h
  refine W.eq (g2 := F0 m 6 ls [.int (bI bs_1), .ref (r 0)]) rfl ?_
  refine bb_eq (tgt := 13) C dc_M_rests_6 (by decide) (fun q6 => ?_) (fun q6 => ?_)
  · refine lv_iconst (v := (nI 1)) C.x C.b dc_M_rests_13 (by decide +kernel) ?_
    refine rg_put (ty := .int) C h 0 rfl rfl in_M tk_M nm_M 0 (by decide) fl_M_54 rfl (by decide +kernel) rfl rfl (by simp) dc_M_rests_14 (fun H locs h => ?_)
    obtain ⟨ri_2, eri_2⟩ : ∃ zz9, zz9 = us ri 20 (us (ri 20) 0 1) := ⟨_, rfl⟩
    have fri_2 : ∀ zk, zk ≠ 20 → ri_2 zk = ri zk := fun zk hzk => by rw [eri_2, us_n _ _ hzk]
    have gri_2 : ri_2 20 = us (ri 20) 0 1 := by rw [eri_2, us_s]
    have xri_2 : ri_2 20 0 = 1 ∧ ri_2 20 1 = ri 20 1 ∧ ri_2 20 2 = ri 20 2 ∧ ri_2 20 3 = ri 20 3 ∧ ri_2 20 4 = ri 20 4 ∧ ri_2 20 5 = ri 20 5 ∧ ri_2 20 6 = ri 20 6 := by rw [gri_2]; exact ⟨us_s _ _ _, us_n _ _ (by decide), us_n _ _ (by decide), us_n _ _ (by decide), us_n _ _ (by decide), us_n _ _ (by decide), us_n _ _ (by decide)⟩
    replace h : sT Γ s (rW Γ r ri_2 rl wr) H locs := by rw [eri_2]; exact h
    have hss : sS ri ri_2 (ri 20 1) := sS.of (fri_2 0 (by decide)) (fri_2 1 (by decide)) (fri_2 2 (by decide)) (fri_2 3 (by decide))
    refine lv_aload_n C.x C.b dc_M_rests_17 rfl (lv_at hl 0 rfl) ?_
    refine rg_get C h 0 rfl rfl in_M 0 (by decide) fl_M_54 rfl dc_M_rests_18 ?_
    refine tp_i (y := nI 1) (by rw [show ri_2 20 0 = 1 by omega]) ?_
    refine bz_le (tgt := 28) C (by omega) dc_M_rests_21 (by decide) (fun q21 => absurd q21 (by decide)) (fun q21 => ?_)
    refine lv_iconst (v := (nI 0)) C.x C.b dc_M_rests_24 (by decide +kernel) ?_
    refine lv_goto (tgt := 34) C.x C.b dc_M_rests_25 (by decide) ?_
    rw [hQ]
    exact rt_i C ri_2 h (Or.inl ⟨fun z => by first | (obtain ⟨i, a, c⟩ := z; rw [hbs_1.mpr ⟨i, a, c⟩] at q6; exact Bool.noConfusion q6), by omega, ⟨_, rfl⟩, by omega, hss⟩) dc_M_rests_34
  · refine lv_iconst (v := (nI 0)) C.x C.b dc_M_rests_9 (by decide +kernel) ?_
    refine lv_goto (tgt := 14) C.x C.b dc_M_rests_10 (by decide) ?_
    obtain ⟨i, hi, ei⟩ := hbs_1.mp q6
    subst ei
    refine rg_put (ty := .int) C h 0 rfl rfl in_M tk_M nm_M 0 (by decide) fl_M_54 rfl (by decide +kernel) rfl rfl (by simp) dc_M_rests_14 (fun H locs h => ?_)
    obtain ⟨ri_3, eri_3⟩ : ∃ zz9, zz9 = us ri 20 (us (ri 20) 0 0) := ⟨_, rfl⟩
    have fri_3 : ∀ zk, zk ≠ 20 → ri_3 zk = ri zk := fun zk hzk => by rw [eri_3, us_n _ _ hzk]
    have gri_3 : ri_3 20 = us (ri 20) 0 0 := by rw [eri_3, us_s]
    have xri_3 : ri_3 20 0 = 0 ∧ ri_3 20 1 = ri 20 1 ∧ ri_3 20 2 = ri 20 2 ∧ ri_3 20 3 = ri 20 3 ∧ ri_3 20 4 = ri 20 4 ∧ ri_3 20 5 = ri 20 5 ∧ ri_3 20 6 = ri 20 6 := by rw [gri_3]; exact ⟨us_s _ _ _, us_n _ _ (by decide), us_n _ _ (by decide), us_n _ _ (by decide), us_n _ _ (by decide), us_n _ _ (by decide), us_n _ _ (by decide)⟩
    replace h : sT Γ s (rW Γ r ri_3 rl wr) H locs := by rw [eri_3]; exact h
    have hss : sS ri ri_3 (ri 20 1) := sS.of (fri_3 0 (by decide)) (fri_3 1 (by decide)) (fri_3 2 (by decide)) (fri_3 3 (by decide))
    refine lv_aload_n C.x C.b dc_M_rests_17 rfl (lv_at hl 0 rfl) ?_
    refine rg_get C h 0 rfl rfl in_M 0 (by decide) fl_M_54 rfl dc_M_rests_18 ?_
    refine tp_i (y := nI 0) (by rw [show ri_3 20 0 = 0 by omega]) ?_
    refine bz_le (tgt := 28) C (by omega) dc_M_rests_21 (by decide) (fun q21 => ?_) (fun q21 => absurd q21 (by decide))
    refine lv_aload_n C.x C.b dc_M_rests_28 rfl (lv_at hl 0 rfl) ?_
    refine rg_get C h 0 rfl rfl in_M 2 (by decide) fl_M_9 rfl dc_M_rests_29 ?_
    refine lv_iload_n C.x C.b dc_M_rests_32 rfl (lv_at hl 1 rfl) ?_
    refine rg_ild C h 1 rfl (by have := (hS.2 _ hi).1.1; omega) (by decide) dc_M_rests_33 ?_
    rw [hQ]
    exact rt_i C ri_3 h (Or.inr ⟨i, ⟨hi, rfl⟩, by rw [(hss _ hi).1], by omega, by omega, hss⟩) dc_M_rests_34

abbrev rm_M_count : Room := { frames := 0, cells := 0, slots := 0, locals := 0 }
set_option maxRecDepth 100000 in
set_option maxHeartbeats 4000000 in
theorem c_M_count (l : Launch) (Γ : gG) (r : Nat → Nat) (ri : Nat → Nat → Nat) (rl : Nat → Nat → Int64) (wr : va_W)  : cT l Γ my_M_count bc_M_count 1 (some .int) rm_M_count [.ref (r 0)] (rW Γ r ri rl wr) (S := Nat → Nat → Nat) (fun v u => v = some (.int (nI (ri 20 1))) ∧ rQ 0 ri u) (fun u => rW Γ r u rl wr) := by
  refine cT.start (by decide) (Nat.le_of_ble_eq_true rfl) (fun p e s m args below meth c ls Q hQ C hmn h hl => ?_)
  replace hl : lv_has ls 1 [(0, .ref (r 0))] := hl
  refine lv_aload_n C.x C.b dc_M_count_0 rfl (lv_at hl 0 rfl) ?_
  refine lv_iconst (v := (nI 0)) C.x C.b dc_M_count_1 (by decide +kernel) ?_
  refine rg_put (ty := .int) C h 0 rfl rfl in_M tk_M nm_M 0 (by decide) fl_M_54 rfl (by decide +kernel) rfl rfl (by simp) dc_M_count_2 (fun H locs h => ?_)
  obtain ⟨ri_1, eri_1⟩ : ∃ zz9, zz9 = us ri 20 (us (ri 20) 0 0) := ⟨_, rfl⟩
  have fri_1 : ∀ zk, zk ≠ 20 → ri_1 zk = ri zk := fun zk hzk => by rw [eri_1, us_n _ _ hzk]
  have gri_1 : ri_1 20 = us (ri 20) 0 0 := by rw [eri_1, us_s]
  have xri_1 : ri_1 20 0 = 0 ∧ ri_1 20 1 = ri 20 1 ∧ ri_1 20 2 = ri 20 2 ∧ ri_1 20 3 = ri 20 3 ∧ ri_1 20 4 = ri 20 4 ∧ ri_1 20 5 = ri 20 5 ∧ ri_1 20 6 = ri 20 6 := by rw [gri_1]; exact ⟨us_s _ _ _, us_n _ _ (by decide), us_n _ _ (by decide), us_n _ _ (by decide), us_n _ _ (by decide), us_n _ _ (by decide), us_n _ _ (by decide)⟩
  replace h : sT Γ s (rW Γ r ri_1 rl wr) H locs := by rw [eri_1]; exact h
  refine lv_aload_n C.x C.b dc_M_count_5 rfl (lv_at hl 0 rfl) ?_
  refine rg_get C h 0 rfl rfl in_M 1 (by decide) fl_M_58 rfl dc_M_count_6 ?_
  rw [hQ]
  exact rt_i C ri_1 h (⟨by rw [show ri_1 20 1 = ri 20 1 by omega], by omega, by omega, sS.of (fri_1 0 (by decide)) (fri_1 1 (by decide)) (fri_1 2 (by decide)) (fri_1 3 (by decide))⟩) dc_M_count_9

abbrev rm_M_countJ : Room := { frames := 1, cells := 0, slots := 0, locals := 23 }
set_option maxRecDepth 100000 in
set_option maxHeartbeats 4000000 in
theorem c_M_countJ (l : Launch) (Γ : gG) (r : Nat → Nat) (ri : Nat → Nat → Nat) (rl : Nat → Nat → Int64) (wr : va_W) (p9 n9 : Nat) (hO : rOK ri p9) (hn9 : n9 < 100) : cT l Γ my_M_countJ bc_M_countJ 5 (some .long) rm_M_countJ [.ref (r 0), .int (nI p9), .int (nI n9)] (rW Γ r ri rl wr) (S := Nat → Nat → Int64) (fun v u => v = some (.long (lI (cnt (rT ri p9 0 1) (rN ri p9) n9 (ri 1 p9))))) (fun u => rW Γ r ri u wr) := by
  refine cT.start (by decide) (Nat.le_of_ble_eq_true rfl) (fun p e s m args below meth c ls Q hQ C hmn h hl => ?_)
  replace hl : lv_has ls 5 [(0, .ref (r 0)), (1, .int (nI p9)), (2, .int (nI n9))] := hl
  obtain ⟨a1, a2, a3, a4, a5, a6⟩ := id hO
  refine lv_iconst (v := (nI 0)) C.x C.b dc_M_countJ_0 (by decide +kernel) ?_
  refine lv_istore_n (lv' := [(3, .int (nI 0)), (0, .ref (r 0)), (1, .int (nI p9)), (2, .int (nI n9))]) C.x C.b dc_M_countJ_1 rfl hl (by decide) rfl (fun ls hl => ?_)
  have hA1 : ∀ x, x < 0 → rl 0 x = lI (cnt (rT ri p9 0 1) (rN ri p9) 0 x) := fun x hx => absurd hx (Nat.not_lt_zero _)
  have lp_2 : ∀ (n_2 : Nat) (k : Nat) (z : Nat → Nat → Int64) (H : Heap) (locs : List Loc) (ls : Array Slot), ri 0 p9 - k < n_2 → (k ≤ ri 0 p9) → (∀ x, x < k → z 0 x = lI (cnt (rT ri p9 0 1) (rN ri p9) 0 x)) → sT Γ s (rW Γ r ri z wr) H locs → lv_has ls 5 [(3, .int (nI k)), (1, .int (nI p9)), (2, .int (nI n9)), (0, .ref (r 0))] → W p l e rm_M_countJ s m args below meth c H locs 0 0 Q (F0 m 2 ls []) := by
    intro n_2
    induction n_2 with
    | zero => intro k z H locs ls hms; exact absurd hms (Nat.not_lt_zero _)
    | succ n_2 ih_2 =>
      intro k z H locs ls hms hk hA h hl
      refine lv_iload_n C.x C.b dc_M_countJ_2 rfl (lv_at hl 0 rfl) ?_
      refine lv_aload_n C.x C.b dc_M_countJ_3 rfl (lv_at hl 3 rfl) ?_
      refine rg_get C h 0 rfl rfl in_M 2 (by decide) fl_M_9 rfl dc_M_countJ_4 ?_
      refine lv_iload_n C.x C.b dc_M_countJ_7 rfl (lv_at hl 1 rfl) ?_
      refine rg_ild C h 1 rfl (by omega) (by decide) dc_M_countJ_8 ?_
      refine bc_ge (tgt := 38) C (by omega) (by omega) dc_M_countJ_9 (by decide) (fun q9 => ?_) (fun q9 => ?_)
      · refine lv_iconst (v := (nI 0)) C.x C.b dc_M_countJ_38 (by decide +kernel) ?_
        refine lv_istore_n (lv' := [(3, .int (nI 0)), (1, .int (nI p9)), (2, .int (nI n9)), (0, .ref (r 0))]) C.x C.b dc_M_countJ_39 rfl hl (by decide) rfl (fun ls hl => ?_)
        have hA1 : ∀ x, x < ri 0 p9 → z 0 x = lI (cnt (rT ri p9 0 1) (rN ri p9) 0 x) := fun x hx => hA x (by omega)
        have lp_40 : ∀ (n_40 : Nat) (k : Nat) (z : Nat → Nat → Int64) (H : Heap) (locs : List Loc) (ls : Array Slot), n9 - k < n_40 → (k ≤ n9) → (∀ x, x < ri 0 p9 → z 0 x = lI (cnt (rT ri p9 0 1) (rN ri p9) k x)) → sT Γ s (rW Γ r ri z wr) H locs → lv_has ls 5 [(3, .int (nI k)), (1, .int (nI p9)), (2, .int (nI n9)), (0, .ref (r 0))] → W p l e rm_M_countJ s m args below meth c H locs 0 0 Q (F0 m 40 ls []) := by
          intro n_40
          induction n_40 with
          | zero => intro k z H locs ls hms; exact absurd hms (Nat.not_lt_zero _)
          | succ n_40 ih_40 =>
            intro k z H locs ls hms hk hA h hl
            refine lv_iload_n C.x C.b dc_M_countJ_40 rfl (lv_at hl 0 rfl) ?_
            refine lv_iload_n C.x C.b dc_M_countJ_41 rfl (lv_at hl 2 rfl) ?_
            refine bc_ge (tgt := 153) C (by omega) (by omega) dc_M_countJ_42 (by decide) (fun q42 => ?_) (fun q42 => ?_)
            · refine lv_aload_n C.x C.b dc_M_countJ_153 rfl (lv_at hl 3 rfl) ?_
              refine rg_get C h 0 rfl rfl in_M 19 (by decide) fl_M_47 rfl dc_M_countJ_154 ?_
              refine lv_aload_n C.x C.b dc_M_countJ_157 rfl (lv_at hl 3 rfl) ?_
              refine rg_get C h 0 rfl rfl in_M 3 (by decide) fl_M_13 rfl dc_M_countJ_158 ?_
              refine lv_iload_n C.x C.b dc_M_countJ_161 rfl (lv_at hl 1 rfl) ?_
              refine rg_ild C h 2 rfl (by omega) (by decide) dc_M_countJ_162 ?_
              refine rg_lld C h 13 rfl (by omega) (by decide) dc_M_countJ_163 ?_
              rw [hQ]
              exact rt_l C z h (by rw [hA _ a4, show k = n9 by omega]) dc_M_countJ_164
            · refine lv_iconst (v := (nI 0)) C.x C.b dc_M_countJ_45 (by decide +kernel) ?_
              refine lv_istore (lv' := [(4, .int (nI 0)), (3, .int (nI k)), (1, .int (nI p9)), (2, .int (nI n9)), (0, .ref (r 0))]) C.x C.b dc_M_countJ_46 hl (by decide) rfl (fun ls hl => ?_)
              have h01 : z 0 = z 0 := rfl
              have hB1 : ∀ x, x < 0 → z 1 x = lI (cnt (rT ri p9 0 1) (rN ri p9) (k + 1) x) := fun x hx => absurd hx (Nat.not_lt_zero _)
              have lp_48 : ∀ (n_48 : Nat) (s9 : Nat) (y : Nat → Nat → Int64) (H : Heap) (locs : List Loc) (ls : Array Slot), ri 0 p9 - s9 < n_48 → (s9 ≤ ri 0 p9) → (y 0 = z 0) → (∀ x, x < s9 → y 1 x = lI (cnt (rT ri p9 0 1) (rN ri p9) (k + 1) x)) → sT Γ s (rW Γ r ri y wr) H locs → lv_has ls 5 [(4, .int (nI s9)), (3, .int (nI k)), (1, .int (nI p9)), (2, .int (nI n9)), (0, .ref (r 0))] → W p l e rm_M_countJ s m args below meth c H locs 0 0 Q (F0 m 48 ls []) := by
                intro n_48
                induction n_48 with
                | zero => intro s9 y H locs ls hms; exact absurd hms (Nat.not_lt_zero _)
                | succ n_48 ih_48 =>
                  intro s9 y H locs ls hms hs9 h0 hB h hl
                  refine lv_iload C.x C.b dc_M_countJ_48 (lv_at hl 0 rfl) ?_
                  refine lv_aload_n C.x C.b dc_M_countJ_50 rfl (lv_at hl 4 rfl) ?_
                  refine rg_get C h 0 rfl rfl in_M 2 (by decide) fl_M_9 rfl dc_M_countJ_51 ?_
                  refine lv_iload_n C.x C.b dc_M_countJ_54 rfl (lv_at hl 2 rfl) ?_
                  refine rg_ild C h 1 rfl (by omega) (by decide) dc_M_countJ_55 ?_
                  refine bc_ge (tgt := 113) C (by omega) (by omega) dc_M_countJ_56 (by decide) (fun q56 => ?_) (fun q56 => ?_)
                  · obtain ⟨x9, ex9⟩ : ∃ zz9, zz9 = y := ⟨_, rfl⟩
                    rw [← ex9] at hB h0 h
                    refine lv_iconst (v := (nI 0)) C.x C.b dc_M_countJ_113 (by decide +kernel) ?_
                    refine lv_istore (lv' := [(4, .int (nI 0)), (3, .int (nI k)), (1, .int (nI p9)), (2, .int (nI n9)), (0, .ref (r 0))]) C.x C.b dc_M_countJ_114 hl (by decide) rfl (fun ls hl => ?_)
                    have h11 : x9 1 = x9 1 := rfl
                    have hC1 : ∀ x, x < 0 → x9 0 x = lI (cnt (rT ri p9 0 1) (rN ri p9) (k + 1) x) := fun x hx => absurd hx (Nat.not_lt_zero _)
                    have lp_116 : ∀ (n_116 : Nat) (s8 : Nat) (y : Nat → Nat → Int64) (H : Heap) (locs : List Loc) (ls : Array Slot), ri 0 p9 - s8 < n_116 → (s8 ≤ ri 0 p9) → (y 1 = x9 1) → (∀ x, x < s8 → y 0 x = lI (cnt (rT ri p9 0 1) (rN ri p9) (k + 1) x)) → sT Γ s (rW Γ r ri y wr) H locs → lv_has ls 5 [(4, .int (nI s8)), (3, .int (nI k)), (1, .int (nI p9)), (2, .int (nI n9)), (0, .ref (r 0))] → W p l e rm_M_countJ s m args below meth c H locs 0 0 Q (F0 m 116 ls []) := by
                      intro n_116
                      induction n_116 with
                      | zero => intro s8 y H locs ls hms; exact absurd hms (Nat.not_lt_zero _)
                      | succ n_116 ih_116 =>
                        intro s8 y H locs ls hms hs8 h1 hC h hl
                        refine lv_iload C.x C.b dc_M_countJ_116 (lv_at hl 0 rfl) ?_
                        refine lv_aload_n C.x C.b dc_M_countJ_118 rfl (lv_at hl 4 rfl) ?_
                        refine rg_get C h 0 rfl rfl in_M 2 (by decide) fl_M_9 rfl dc_M_countJ_119 ?_
                        refine lv_iload_n C.x C.b dc_M_countJ_122 rfl (lv_at hl 2 rfl) ?_
                        refine rg_ild C h 1 rfl (by omega) (by decide) dc_M_countJ_123 ?_
                        refine bc_ge (tgt := 147) C (by omega) (by omega) dc_M_countJ_124 (by decide) (fun q124 => ?_) (fun q124 => ?_)
                        · refine lv_iinc (v := nI (k + 1)) (lv' := [(3, .int (nI (k + 1))), (4, .int (nI s8)), (1, .int (nI p9)), (2, .int (nI n9)), (0, .ref (r 0))]) C.x C.b dc_M_countJ_147 hl (k := 1) rfl (nI_1 k) (by decide) rfl (fun ls hl => ?_)
                          refine lv_goto (tgt := 40) C.x C.b dc_M_countJ_150 (by decide) ?_
                          have hA1 : ∀ x, x < ri 0 p9 → y 0 x = lI (cnt (rT ri p9 0 1) (rN ri p9) (k + 1) x) := fun x hx => hC x (by omega)
                          exact ih_40 (k + 1) y _ _ _ (by omega) (by first | assumption | omega) (hA1) h (lv_sub hl [0, 2, 3, 4] rfl)
                        · refine lv_aload_n C.x C.b dc_M_countJ_127 rfl (lv_at hl 4 rfl) ?_
                          refine rg_get C h 0 rfl rfl in_M 19 (by decide) fl_M_47 rfl dc_M_countJ_128 ?_
                          refine lv_iload C.x C.b dc_M_countJ_131 (lv_at hl 0 rfl) ?_
                          refine lv_aload_n C.x C.b dc_M_countJ_133 rfl (lv_at hl 4 rfl) ?_
                          refine rg_get C h 0 rfl rfl in_M 20 (by decide) fl_M_51 rfl dc_M_countJ_134 ?_
                          refine lv_iload C.x C.b dc_M_countJ_137 (lv_at hl 0 rfl) ?_
                          refine rg_lld C h 14 rfl (by omega) (by decide) dc_M_countJ_139 ?_
                          refine rg_lst C h 13 rfl (by omega) (by decide) dc_M_countJ_140 (fun H locs h => ?_)
                          obtain ⟨rl_1, erl_1⟩ : ∃ zz9, zz9 = us y 0 (us (y 0) s8 (y 1 s8)) := ⟨_, rfl⟩
                          have frl_1 : ∀ zk, zk ≠ 0 → rl_1 zk = y zk := fun zk hzk => by rw [erl_1, us_n _ _ hzk]
                          have grl_1 : rl_1 0 = us (y 0) s8 (y 1 s8) := by rw [erl_1, us_s]
                          replace h : sT Γ s (rW Γ r ri rl_1 wr) H locs := by rw [erl_1]; exact h
                          refine lv_iinc (v := nI (s8 + 1)) (lv' := [(4, .int (nI (s8 + 1))), (3, .int (nI k)), (1, .int (nI p9)), (2, .int (nI n9)), (0, .ref (r 0))]) C.x C.b dc_M_countJ_141 hl (k := 0) rfl (nI_1 s8) (by decide) rfl (fun ls hl => ?_)
                          refine lv_goto (tgt := 116) C.x C.b dc_M_countJ_144 (by decide) ?_
                          have h11 : rl_1 1 = x9 1 := by rw [frl_1 1 (by decide)]; exact h1
                          have hC1 : ∀ x, x < s8 + 1 → rl_1 0 x = lI (cnt (rT ri p9 0 1) (rN ri p9) (k + 1) x) := fun x hx => by
                            rw [grl_1]
                            by_cases e9 : x = s8
                            · rw [e9, us_s, h1]; exact hB s8 (by omega)
                            · rw [us_n _ _ e9]; exact hC x (by omega)
                          exact ih_116 (s8 + 1) rl_1 _ _ _ (by omega) (by first | assumption | omega) (h11) (hC1) h (lv_sub hl [0, 1, 2, 3, 4] rfl)
                    exact lp_116 _ 0 x9 _ _ _ (Nat.lt_succ_self _) (by first | assumption | omega) (h11) (hC1) h (lv_sub hl [0, 1, 2, 3, 4] rfl)
                  · have b0 := a5 s9 0 (by omega) (by decide)
                    have b1 := a5 s9 1 (by omega) (by decide)
                    have b2 := a5 s9 2 (by omega) (by decide)
                    refine lv_aload_n C.x C.b dc_M_countJ_59 rfl (lv_at hl 4 rfl) ?_
                    refine rg_get C h 0 rfl rfl in_M 20 (by decide) fl_M_51 rfl dc_M_countJ_60 ?_
                    refine lv_iload C.x C.b dc_M_countJ_63 (lv_at hl 0 rfl) ?_
                    refine lv_aload_n C.x C.b dc_M_countJ_65 rfl (lv_at hl 4 rfl) ?_
                    refine rg_get C h 0 rfl rfl in_M 19 (by decide) fl_M_47 rfl dc_M_countJ_66 ?_
                    refine lv_aload_n C.x C.b dc_M_countJ_69 rfl (lv_at hl 4 rfl) ?_
                    refine lv_iload_n C.x C.b dc_M_countJ_70 rfl (lv_at hl 2 rfl) ?_
                    refine lv_iload C.x C.b dc_M_countJ_71 (lv_at hl 0 rfl) ?_
                    refine lv_iconst (v := (nI 0)) C.x C.b dc_M_countJ_73 (by decide +kernel) ?_
                    refine kv_V (As := [.int (nI p9), .int (nI s9), .int (nI 0)]) (rest := [.ref (r 13), .int (nI s9), .ref (r 14)]) C h hl.1 (c_M_next l Γ r ri y wr p9 s9 0 (by omega) (by omega) (by omega)) mw_M_next lk_M_61 (q0 := 0) rfl rfl rfl (by decide) (by decide) (Nat.le_of_ble_eq_true rfl) dc_M_countJ_74 (fun v u H locs hp h => ?_)
                    obtain rfl := hp
                    replace h : sT Γ s (rW Γ r ri y wr) _ _ := h
                    refine W.eq (g2 := F0 m 77 ls [.int (nI (rN ri p9 (s9 * 3 + 0))), .ref (r 13), .int (nI s9), .ref (r 14)]) rfl ?_
                    refine rg_lld C h 13 rfl (by omega) (by decide) dc_M_countJ_77 ?_
                    refine lv_aload_n C.x C.b dc_M_countJ_78 rfl (lv_at hl 4 rfl) ?_
                    refine rg_get C h 0 rfl rfl in_M 19 (by decide) fl_M_47 rfl dc_M_countJ_79 ?_
                    refine lv_aload_n C.x C.b dc_M_countJ_82 rfl (lv_at hl 4 rfl) ?_
                    refine lv_iload_n C.x C.b dc_M_countJ_83 rfl (lv_at hl 2 rfl) ?_
                    refine lv_iload C.x C.b dc_M_countJ_84 (lv_at hl 0 rfl) ?_
                    refine lv_iconst (v := (nI 1)) C.x C.b dc_M_countJ_86 (by decide +kernel) ?_
                    refine kv_V (As := [.int (nI p9), .int (nI s9), .int (nI 1)]) (rest := [.ref (r 13), .long (y 0 (rN ri p9 (s9 * 3 + 0))), .int (nI s9), .ref (r 14)]) C h hl.1 (c_M_next l Γ r ri y wr p9 s9 1 (by omega) (by omega) (by omega)) mw_M_next lk_M_61 (q0 := 0) rfl rfl rfl (by decide) (by decide) (Nat.le_of_ble_eq_true rfl) dc_M_countJ_87 (fun v u H locs hp h => ?_)
                    obtain rfl := hp
                    replace h : sT Γ s (rW Γ r ri y wr) _ _ := h
                    refine W.eq (g2 := F0 m 90 ls [.int (nI (rN ri p9 (s9 * 3 + 1))), .ref (r 13), .long (y 0 (rN ri p9 (s9 * 3 + 0))), .int (nI s9), .ref (r 14)]) rfl ?_
                    refine rg_lld C h 13 rfl (by omega) (by decide) dc_M_countJ_90 ?_
                    refine lv_ladd C.x C.b dc_M_countJ_91 ?_
                    refine lv_aload_n C.x C.b dc_M_countJ_92 rfl (lv_at hl 4 rfl) ?_
                    refine rg_get C h 0 rfl rfl in_M 19 (by decide) fl_M_47 rfl dc_M_countJ_93 ?_
                    refine lv_aload_n C.x C.b dc_M_countJ_96 rfl (lv_at hl 4 rfl) ?_
                    refine lv_iload_n C.x C.b dc_M_countJ_97 rfl (lv_at hl 2 rfl) ?_
                    refine lv_iload C.x C.b dc_M_countJ_98 (lv_at hl 0 rfl) ?_
                    refine lv_iconst (v := (nI 2)) C.x C.b dc_M_countJ_100 (by decide +kernel) ?_
                    refine kv_V (As := [.int (nI p9), .int (nI s9), .int (nI 2)]) (rest := [.ref (r 13), .long ((y 0 (rN ri p9 (s9 * 3 + 0))) + (y 0 (rN ri p9 (s9 * 3 + 1)))), .int (nI s9), .ref (r 14)]) C h hl.1 (c_M_next l Γ r ri y wr p9 s9 2 (by omega) (by omega) (by omega)) mw_M_next lk_M_61 (q0 := 0) rfl rfl rfl (by decide) (by decide) (Nat.le_of_ble_eq_true rfl) dc_M_countJ_101 (fun v u H locs hp h => ?_)
                    obtain rfl := hp
                    replace h : sT Γ s (rW Γ r ri y wr) _ _ := h
                    refine W.eq (g2 := F0 m 104 ls [.int (nI (rN ri p9 (s9 * 3 + 2))), .ref (r 13), .long ((y 0 (rN ri p9 (s9 * 3 + 0))) + (y 0 (rN ri p9 (s9 * 3 + 1)))), .int (nI s9), .ref (r 14)]) rfl ?_
                    refine rg_lld C h 13 rfl (by omega) (by decide) dc_M_countJ_104 ?_
                    refine lv_ladd C.x C.b dc_M_countJ_105 ?_
                    refine rg_lst C h 14 rfl (by omega) (by decide) dc_M_countJ_106 (fun H locs h => ?_)
                    obtain ⟨rl_2, erl_2⟩ : ∃ zz9, zz9 = us y 1 (us (y 1) s9 (((y 0 (rN ri p9 (s9 * 3 + 0))) + (y 0 (rN ri p9 (s9 * 3 + 1)))) + (y 0 (rN ri p9 (s9 * 3 + 2))))) := ⟨_, rfl⟩
                    have frl_2 : ∀ zk, zk ≠ 1 → rl_2 zk = y zk := fun zk hzk => by rw [erl_2, us_n _ _ hzk]
                    have grl_2 : rl_2 1 = us (y 1) s9 (((y 0 (rN ri p9 (s9 * 3 + 0))) + (y 0 (rN ri p9 (s9 * 3 + 1)))) + (y 0 (rN ri p9 (s9 * 3 + 2)))) := by rw [erl_2, us_s]
                    replace h : sT Γ s (rW Γ r ri rl_2 wr) H locs := by rw [erl_2]; exact h
                    refine lv_iinc (v := nI (s9 + 1)) (lv' := [(4, .int (nI (s9 + 1))), (3, .int (nI k)), (1, .int (nI p9)), (2, .int (nI n9)), (0, .ref (r 0))]) C.x C.b dc_M_countJ_107 hl (k := 0) rfl (nI_1 s9) (by decide) rfl (fun ls hl => ?_)
                    refine lv_goto (tgt := 48) C.x C.b dc_M_countJ_110 (by decide) ?_
                    have h01 : rl_2 0 = z 0 := by rw [frl_2 0 (by decide)]; exact h0
                    have hB1 : ∀ x, x < s9 + 1 → rl_2 1 x = lI (cnt (rT ri p9 0 1) (rN ri p9) (k + 1) x) := fun x hx => by
                      rw [grl_2]
                      by_cases e9 : x = s9
                      · rw [e9, us_s, h0, hA _ (a5 s9 0 (by omega) (by decide)), hA _ (a5 s9 1 (by omega) (by decide)), hA _ (a5 s9 2 (by omega) (by decide)), lI_add, lI_add]
                        show _ = lI (0 + _ + _ + _)
                        rw [Nat.zero_add]
                      · rw [us_n _ _ e9]; exact hB x (by omega)
                    exact ih_48 (s9 + 1) rl_2 _ _ _ (by omega) (by first | assumption | omega) (h01) (hB1) h (lv_sub hl [0, 1, 2, 3, 4] rfl)
              exact lp_48 _ 0 z _ _ _ (Nat.lt_succ_self _) (by first | assumption | omega) (h01) (hB1) h (lv_sub hl [0, 1, 2, 3, 4] rfl)
        exact lp_40 _ 0 z _ _ _ (Nat.lt_succ_self _) (by first | assumption | omega) (hA1) h (lv_sub hl [0, 1, 2, 3] rfl)
      · refine lv_aload_n C.x C.b dc_M_countJ_12 rfl (lv_at hl 3 rfl) ?_
        refine rg_get C h 0 rfl rfl in_M 19 (by decide) fl_M_47 rfl dc_M_countJ_13 ?_
        refine lv_iload_n C.x C.b dc_M_countJ_16 rfl (lv_at hl 0 rfl) ?_
        refine lv_aload_n C.x C.b dc_M_countJ_17 rfl (lv_at hl 3 rfl) ?_
        refine lv_iload_n C.x C.b dc_M_countJ_18 rfl (lv_at hl 1 rfl) ?_
        refine lv_iload_n C.x C.b dc_M_countJ_19 rfl (lv_at hl 0 rfl) ?_
        refine kv_V (As := [.int (nI p9), .int (nI k)]) (rest := [.int (nI k), .ref (r 13)]) C h hl.1 (c_M_isEnd l Γ r ri z wr p9 k (by omega) (by omega) (a6 k (by omega))) mw_M_isEnd lk_M_64 (q0 := 0) rfl rfl rfl (by decide) (by decide) (Nat.le_of_ble_eq_true rfl) dc_M_countJ_20 (fun v u H locs hp h => ?_)
        obtain rfl := hp
        replace h : sT Γ s (rW Γ r ri z wr) _ _ := h
        refine W.eq (g2 := F0 m 23 ls [.int (bI (rEb ri p9 k)), .int (nI k), .ref (r 13)]) rfl ?_
        refine bb_eq (tgt := 30) C dc_M_countJ_23 (by decide) (fun q23 => ?_) (fun q23 => ?_)
        · refine lv_lconst (v := 0) C.x C.b dc_M_countJ_30 (by decide +kernel) ?_
          refine rg_lst C h 13 rfl (by omega) (by decide) dc_M_countJ_31 (fun H locs h => ?_)
          obtain ⟨rl_3, erl_3⟩ : ∃ zz9, zz9 = us z 0 (us (z 0) k 0) := ⟨_, rfl⟩
          have frl_3 : ∀ zk, zk ≠ 0 → rl_3 zk = z zk := fun zk hzk => by rw [erl_3, us_n _ _ hzk]
          have grl_3 : rl_3 0 = us (z 0) k 0 := by rw [erl_3, us_s]
          replace h : sT Γ s (rW Γ r ri rl_3 wr) H locs := by rw [erl_3]; exact h
          refine lv_iinc (v := nI (k + 1)) (lv' := [(3, .int (nI (k + 1))), (1, .int (nI p9)), (2, .int (nI n9)), (0, .ref (r 0))]) C.x C.b dc_M_countJ_32 hl (k := 0) rfl (nI_1 k) (by decide) rfl (fun ls hl => ?_)
          refine lv_goto (tgt := 2) C.x C.b dc_M_countJ_35 (by decide) ?_
          have hA1 : ∀ x, x < k + 1 → rl_3 0 x = lI (cnt (rT ri p9 0 1) (rN ri p9) 0 x) := fun x hx => by
            rw [grl_3]
            by_cases e9 : x = k
            · rw [e9, us_s]; show _ = lI ((rT ri p9 0 1).testBit k).toNat; rw [rT_bit (by omega), q23]; rfl
            · rw [us_n _ _ e9]; exact hA x (by omega)
          exact ih_2 (k + 1) rl_3 _ _ _ (by omega) (by first | assumption | omega) (hA1) h (lv_sub hl [0, 1, 2, 3] rfl)
        · refine lv_lconst (v := 1) C.x C.b dc_M_countJ_26 (by decide +kernel) ?_
          refine lv_goto (tgt := 31) C.x C.b dc_M_countJ_27 (by decide) ?_
          refine rg_lst C h 13 rfl (by omega) (by decide) dc_M_countJ_31 (fun H locs h => ?_)
          obtain ⟨rl_4, erl_4⟩ : ∃ zz9, zz9 = us z 0 (us (z 0) k 1) := ⟨_, rfl⟩
          have frl_4 : ∀ zk, zk ≠ 0 → rl_4 zk = z zk := fun zk hzk => by rw [erl_4, us_n _ _ hzk]
          have grl_4 : rl_4 0 = us (z 0) k 1 := by rw [erl_4, us_s]
          replace h : sT Γ s (rW Γ r ri rl_4 wr) H locs := by rw [erl_4]; exact h
          refine lv_iinc (v := nI (k + 1)) (lv' := [(3, .int (nI (k + 1))), (1, .int (nI p9)), (2, .int (nI n9)), (0, .ref (r 0))]) C.x C.b dc_M_countJ_32 hl (k := 0) rfl (nI_1 k) (by decide) rfl (fun ls hl => ?_)
          refine lv_goto (tgt := 2) C.x C.b dc_M_countJ_35 (by decide) ?_
          have hA1 : ∀ x, x < k + 1 → rl_4 0 x = lI (cnt (rT ri p9 0 1) (rN ri p9) 0 x) := fun x hx => by
            rw [grl_4]
            by_cases e9 : x = k
            · rw [e9, us_s]; show _ = lI ((rT ri p9 0 1).testBit k).toNat; rw [rT_bit (by omega), q23]; rfl
            · rw [us_n _ _ e9]; exact hA x (by omega)
          exact ih_2 (k + 1) rl_4 _ _ _ (by omega) (by first | assumption | omega) (hA1) h (lv_sub hl [0, 1, 2, 3] rfl)
  exact lp_2 _ 0 rl _ _ _ (Nat.lt_succ_self _) (by first | assumption | omega) (hA1) h (lv_sub hl [0, 2, 3, 1] rfl)

