/-! the reference's sets, as tables -/
def eAll (f : Nat → Bool) : Nat → Nat
  | 0 => 0
  | k + 1 => if f k = true then eAll f k ||| 2 ^ k else eAll f k
theorem eAll_lt (f : Nat → Bool) : ∀ n, eAll f n < 2 ^ n
  | 0 => Nat.lt_add_one 0
  | n + 1 => by
    have h := eAll_lt f n
    have h2 : 2 ^ n < 2 ^ (n + 1) := Nat.pow_lt_pow_right (by decide) (by omega)
    rw [eAll]
    split
    · exact Nat.or_lt_two_pow (by omega) h2
    · omega
theorem eAll_bit (f : Nat → Bool) (r : Nat) : ∀ n, (eAll f n).testBit r = (decide (r < n) && f r)
  | 0 => by rw [eAll]; simp
  | n + 1 => by
    rw [eAll]
    by_cases e : r = n
    · subst e
      cases hf : f r
      · rw [if_neg (by decide), eAll_bit f r r]; simp [hf]
      · rw [if_pos rfl, Nat.testBit_or, Nat.testBit_two_pow_self]; simp
    · split
      · rw [Nat.testBit_or, Nat.testBit_two_pow_of_ne (by omega), eAll_bit f r n]
        rw [Bool.or_false]
        congr 1
        exact decide_eq_decide.mpr (by omega)
      · rw [eAll_bit f r n]
        congr 1
        exact decide_eq_decide.mpr (by omega)
def rN (ri : Nat → Nat → Nat) (p : Nat) : Nat → Nat := fun k => if k < 30 then ri 2 (30 * p + k) else 0
def rEb (ri : Nat → Nat → Nat) (p : Nat) : Nat → Bool := fun s => decide (ri 3 (10 * p + s) = 1)
def rT (ri : Nat → Nat → Nat) (p : Nat) : Nat → Nat → Nat := fun c k => if c = 0 then (if k = 0 then ri 0 p else if k = 1 then eAll (rEb ri p) (ri 0 p) else 0) else rN ri p k
def rOK (ri : Nat → Nat → Nat) (p : Nat) : Prop := p < 80 ∧ 1 ≤ ri 0 p ∧ ri 0 p ≤ 10 ∧ ri 1 p < ri 0 p ∧ (∀ s l, s < ri 0 p → l < 3 → rN ri p (s * 3 + l) < ri 0 p) ∧ ∀ s, s < ri 0 p → ri 3 (10 * p + s) ≤ 1
theorem rT_bit {ri : Nat → Nat → Nat} {p s : Nat} (h : s < ri 0 p) : (rT ri p 0 1).testBit s = rEb ri p s := by
  show (eAll (rEb ri p) (ri 0 p)).testBit s = _
  rw [eAll_bit, decide_eq_true h, Bool.true_and]
theorem rT_lt {ri : Nat → Nat → Nat} {p : Nat} (h : ri 0 p ≤ 10) : rT ri p 0 1 < 1024 := Nat.lt_of_lt_of_le (eAll_lt _ _) (Nat.pow_le_pow_right (n := 2) (by decide) h)
theorem rOK.tok {ri : Nat → Nat → Nat} {p : Nat} (h : rOK ri p) : tOK (rT ri p) := ⟨h.2.1, h.2.2.1, rT_lt h.2.2.1, (by decide : (0 : Nat) < 1024), h.2.2.2.2.1⟩
theorem nI_b {x : Nat} (h : x ≤ 1) : nI x = bI (decide (x = 1)) := by
  have : x = 0 ∨ x = 1 := by omega
  rcases this with rfl | rfl <;> decide +kernel
theorem and_ne {a b : Nat} : ¬ (a &&& b = 0) ↔ ∃ s, a.testBit s = true ∧ b.testBit s = true := by
  constructor
  · intro h
    obtain ⟨s, hs⟩ := Nat.exists_testBit_of_ne_zero h
    rw [Nat.testBit_and, Bool.and_eq_true] at hs
    exact ⟨s, hs⟩
  · rintro ⟨s, h1, h2⟩ e
    have : (a &&& b).testBit s = true := by rw [Nat.testBit_and, h1, h2]; rfl
    rw [e, Nat.zero_testBit] at this
    cases this
theorem and_ff (c : Nat) : nI c &&& nI 1023 = nI (c % 1024) := by rw [nI_and]; exact congrArg nI (Nat.and_two_pow_sub_one_eq_mod c 10)
theorem and_f (c : Nat) : nI c &&& nI 15 = nI (c % 16) := by rw [nI_and]; exact congrArg nI (Nat.and_two_pow_sub_one_eq_mod c 4)
theorem aAll_lt {S : Nat} {nx : Nat → Nat} {N : Nat} : ∀ n, (∀ r, r < n → nx r < N) → aAll S nx n < 2 ^ N
  | 0, _ => Nat.two_pow_pos N
  | n + 1, h => by
    have a := aAll_lt (S := S) n (fun r hr => h r (by omega))
    rw [aAll]
    split
    · exact Nat.or_lt_two_pow a (Nat.pow_lt_pow_right (by decide) (h n (by omega)))
    · exact a
/-! the reference's codes, as machines -/
def bOp (w : Nat) (a b : Bool) : Bool := if w = 0 then a || b else if w = 1 then a && b else if w = 2 then a && !b else a != b
def jE : mM := (0, (fun _ _ => 1), (fun c => decide (c = 0)), fun c => c < 2)
def jhB (t : Nat → Nat → Nat) (r x S : Nat) : Nat := 1024 * x + if (t 0 1).testBit x = true then S ||| 2 ^ r else S
def jH (t : Nat → Nat → Nat) (s : Nat) (u : Nat → Nat → Nat) (r : Nat) : mM := (jhB t r s 0, (fun c l => jhB t r (t 1 (c / 1024 * 3 + l)) (aAll (c % 1024) (fun x => u 1 (x * 3 + l)) (u 0 0))), maH u, fun c => c / 1024 < t 0 0 ∧ c % 1024 < 2 ^ u 0 0)
def jB (w : Nat) (t : Nat → Nat → Nat) (s : Nat) (u : Nat → Nat → Nat) (r : Nat) : mM := (16 * s + r, (fun c l => 16 * t 1 (c / 16 * 3 + l) + u 1 (c % 16 * 3 + l)), (fun c => bOp w ((t 0 1).testBit (c / 16)) ((u 0 1).testBit (c % 16))), fun c => c / 16 < t 0 0 ∧ c % 16 < u 0 0)
def jnS (t : Nat → Nat → Nat) (s c l : Nat) : Nat := aAll (if c = 1024 then 2 ^ s else c) (fun x => t 1 (x * 3 + l)) (t 0 0)
def jN (t : Nat → Nat → Nat) (s : Nat) : mM := (1024, (fun c l => if jnS t s c l &&& t 0 1 = 0 then jnS t s c l else jnS t s c l ||| 2 ^ s), maN t, fun c => c ≤ 1024)
def jC (t : Nat → Nat → Nat) (s : Nat) : mM := (s, mmR t, (fun c => !(t 0 1).testBit c), fun c => c < t 0 0)
def jK (t : Nat → Nat → Nat) (s : Nat) : mM := (t 0 1, mmK t, (fun c => c.testBit s), fun c => c < 1024)
def jR (t : Nat → Nat → Nat) (s w : Nat) : mM := (t 1 (s * 3 + w), mmR t, (fun c => (t 0 1).testBit c), fun c => c < t 0 0)
def jG (t : Nat → Nat → Nat) (s : Nat) (lv : Nat → Bool) : mM := (s, mmR t, lv, fun c => c < t 0 0)
def rLv (ri : Nat → Nat → Nat) : Nat → Bool := fun c => decide (ri 10 c = 1)
/-- the machine of the making under way -/
def RK (ri : Nat → Nat → Nat) (K : mM) : Prop :=
  (ri 20 2 = 0 ∧ ri 20 5 < 8 ∧ K = mqO (ri 20 5) 0) ∨
  (ri 20 2 = 1 ∧ K = jE) ∨
  (ri 20 2 = 2 ∧ rOK ri (ri 20 3) ∧ rOK ri (ri 20 4) ∧ K = jH (rT ri (ri 20 3)) (ri 1 (ri 20 3)) (rT ri (ri 20 4)) (ri 1 (ri 20 4))) ∨
  (ri 20 2 = 3 ∧ ri 20 5 < 4 ∧ rOK ri (ri 20 3) ∧ rOK ri (ri 20 4) ∧ K = jB (ri 20 5) (rT ri (ri 20 3)) (ri 1 (ri 20 3)) (rT ri (ri 20 4)) (ri 1 (ri 20 4))) ∨
  (ri 20 2 = 4 ∧ rOK ri (ri 20 3) ∧ K = jN (rT ri (ri 20 3)) (ri 1 (ri 20 3))) ∨
  (ri 20 2 = 5 ∧ rOK ri (ri 20 3) ∧ K = jC (rT ri (ri 20 3)) (ri 1 (ri 20 3))) ∨
  (ri 20 2 = 6 ∧ rOK ri (ri 20 3) ∧ K = jK (rT ri (ri 20 3)) (ri 1 (ri 20 3))) ∨
  (ri 20 2 = 7 ∧ ri 20 5 < 3 ∧ rOK ri (ri 20 3) ∧ K = jR (rT ri (ri 20 3)) (ri 1 (ri 20 3)) (ri 20 5)) ∨
  (ri 20 2 = 8 ∧ rOK ri (ri 20 3) ∧ (∀ c, c < ri 0 (ri 20 3) → ri 10 c ≤ 1) ∧ K = jG (rT ri (ri 20 3)) (ri 1 (ri 20 3)) (rLv ri))
theorem rT_eq {ri ri2 : Nat → Nat → Nat} (h0 : ri2 0 = ri 0) (h2 : ri2 2 = ri 2) (h3 : ri2 3 = ri 3) (p : Nat) : rT ri2 p = rT ri p := by
  unfold rT rN rEb
  rw [h0, h2, h3]
theorem rOK_eq {ri ri2 : Nat → Nat → Nat} (h0 : ri2 0 = ri 0) (h1 : ri2 1 = ri 1) (h2 : ri2 2 = ri 2) (h3 : ri2 3 = ri 3) (p : Nat) : rOK ri2 p = rOK ri p := by
  unfold rOK rN
  rw [h0, h1, h2, h3]
theorem RK.same {ri ri2 : Nat → Nat → Nat} {K : mM} (h0 : ri2 0 = ri 0) (h1 : ri2 1 = ri 1) (h2 : ri2 2 = ri 2) (h3 : ri2 3 = ri 3) (h10 : ri2 10 = ri 10) (s2 : ri2 20 2 = ri 20 2) (s3 : ri2 20 3 = ri 20 3) (s4 : ri2 20 4 = ri 20 4) (s5 : ri2 20 5 = ri 20 5) (h : RK ri K) : RK ri2 K := by
  unfold RK rLv
  rw [s2, s3, s4, s5]
  simp only [rT_eq h0 h2 h3, rOK_eq h0 h1 h2 h3, h0, h1, h10]
  exact h
theorem jhB_div {t : Nat → Nat → Nat} {r x S n : Nat} (hr : r < n) (hn : n ≤ 10) (h : S < 2 ^ n) : jhB t r x S / 1024 = x ∧ jhB t r x S % 1024 < 2 ^ n ∧ jhB t r x S % 1024 = if (t 0 1).testBit x = true then S ||| 2 ^ r else S := by
  have h3 : 2 ^ n ≤ 1024 := Nat.pow_le_pow_right (n := 2) (by decide) hn
  have h2 : (if (t 0 1).testBit x = true then S ||| 2 ^ r else S) < 2 ^ n := by
    split
    · exact Nat.or_lt_two_pow h (Nat.pow_lt_pow_right (by decide) hr)
    · exact h
  unfold jhB
  generalize (if (t 0 1).testBit x = true then S ||| 2 ^ r else S) = z at *
  refine ⟨by omega, by omega, by omega⟩
theorem RK.ok {ri : Nat → Nat → Nat} {K : mM} (h : RK ri K) : K.2.2.2 K.1 ∧ (∀ c l, K.2.2.2 c → l < 3 → K.2.2.2 (K.2.1 c l)) ∧ ∀ c, K.2.2.2 c → c < 10242 := by
  rcases h with ⟨-, -, rfl⟩ | ⟨-, rfl⟩ | ⟨-, h1, h2, rfl⟩ | ⟨-, -, h1, h2, rfl⟩ | ⟨-, h1, rfl⟩ | ⟨-, h1, rfl⟩ | ⟨-, h1, rfl⟩ | ⟨-, hb, h1, rfl⟩ | ⟨-, h1, -, rfl⟩
  · refine ⟨(by decide : 0 < 3), fun c l _ _ => ?_, fun c (hc : c < 3) => by omega⟩
    show mmO _ c l < 3
    unfold mmO
    split <;> decide
  · exact ⟨(by decide : 0 < 2), fun c l _ _ => (by decide : 1 < 2), fun c (hc : c < 2) => by omega⟩
  · obtain ⟨a1, a2, a3, a4, a5, a6⟩ := h1
    obtain ⟨b1, b2, b3, b4, b5, b6⟩ := h2
    refine ⟨?_, fun c l (hc : c / 1024 < ri 0 (ri 20 3) ∧ c % 1024 < 2 ^ ri 0 (ri 20 4)) hl => ?_, fun c (hc : c / 1024 < ri 0 (ri 20 3) ∧ c % 1024 < 2 ^ ri 0 (ri 20 4)) => by omega⟩
    · have k := jhB_div (t := rT ri (ri 20 3)) (x := ri 1 (ri 20 3)) (S := 0) b4 b3 (Nat.two_pow_pos _)
      exact ⟨by show jhB _ _ _ _ / 1024 < _; rw [k.1]; exact a4, k.2.1⟩
    · have k := jhB_div (t := rT ri (ri 20 3)) (x := rN ri (ri 20 3) (c / 1024 * 3 + l)) (S := aAll (c % 1024) (fun x => rN ri (ri 20 4) (x * 3 + l)) (ri 0 (ri 20 4))) b4 b3 (aAll_lt _ (fun r hr => b5 r l hr hl))
      exact ⟨by show jhB _ _ _ _ / 1024 < _; exact Nat.lt_of_le_of_lt (Nat.le_of_eq k.1) (a5 _ l hc.1 hl), k.2.1⟩
  · obtain ⟨a1, a2, a3, a4, a5, a6⟩ := h1
    obtain ⟨b1, b2, b3, b4, b5, b6⟩ := h2
    refine ⟨⟨?_, ?_⟩, fun c l (hc : c / 16 < ri 0 (ri 20 3) ∧ c % 16 < ri 0 (ri 20 4)) hl => ?_, fun c (hc : c / 16 < ri 0 (ri 20 3) ∧ c % 16 < ri 0 (ri 20 4)) => by omega⟩
    · show (16 * ri 1 (ri 20 3) + ri 1 (ri 20 4)) / 16 < ri 0 (ri 20 3); omega
    · show (16 * ri 1 (ri 20 3) + ri 1 (ri 20 4)) % 16 < ri 0 (ri 20 4); omega
    · have x := a5 _ l hc.1 hl
      have y := b5 _ l hc.2 hl
      show (16 * rN ri (ri 20 3) (c / 16 * 3 + l) + rN ri (ri 20 4) (c % 16 * 3 + l)) / 16 < ri 0 (ri 20 3) ∧ (16 * rN ri (ri 20 3) (c / 16 * 3 + l) + rN ri (ri 20 4) (c % 16 * 3 + l)) % 16 < ri 0 (ri 20 4)
      constructor <;> omega
  · obtain ⟨a1, a2, a3, a4, a5, a6⟩ := h1
    refine ⟨Nat.le_refl _, fun c l _ hl => ?_, fun c (hc : c ≤ 1024) => by omega⟩
    show (if jnS (rT ri (ri 20 3)) (ri 1 (ri 20 3)) c l &&& rT ri (ri 20 3) 0 1 = 0 then jnS (rT ri (ri 20 3)) (ri 1 (ri 20 3)) c l else jnS (rT ri (ri 20 3)) (ri 1 (ri 20 3)) c l ||| 2 ^ ri 1 (ri 20 3)) ≤ 1024
    have h1 : jnS (rT ri (ri 20 3)) (ri 1 (ri 20 3)) c l < 2 ^ ri 0 (ri 20 3) := aAll_lt _ (fun r hr => a5 r l hr hl)
    have h3 : 2 ^ ri 0 (ri 20 3) ≤ 1024 := Nat.pow_le_pow_right (n := 2) (by decide) a3
    split
    · omega
    · have := Nat.or_lt_two_pow h1 (Nat.pow_lt_pow_right (a := 2) (by decide) a4); omega
  · obtain ⟨a1, a2, a3, a4, a5, a6⟩ := h1
    exact ⟨a4, fun c l (hc : c < ri 0 (ri 20 3)) hl => a5 c l hc hl, fun c (hc : c < ri 0 (ri 20 3)) => by omega⟩
  · obtain ⟨a1, a2, a3, a4, a5, a6⟩ := h1
    refine ⟨rT_lt a3, fun c l _ _ => ?_, fun c (hc : c < 1024) => by omega⟩
    exact Nat.lt_of_lt_of_le (bAll_lt c _ _) (Nat.pow_le_pow_right (n := 2) (by decide) a3)
  · obtain ⟨a1, a2, a3, a4, a5, a6⟩ := h1
    exact ⟨a5 _ _ a4 hb, fun c l (hc : c < ri 0 (ri 20 3)) hl => a5 c l hc hl, fun c (hc : c < ri 0 (ri 20 3)) => by omega⟩
  · obtain ⟨a1, a2, a3, a4, a5, a6⟩ := h1
    exact ⟨a4, fun c l (hc : c < ri 0 (ri 20 3)) hl => a5 c l hc hl, fun c (hc : c < ri 0 (ri 20 3)) => by omega⟩

abbrev rm_M_thrown : Room := { frames := 0, cells := 0, slots := 0, locals := 0 }
set_option maxRecDepth 100000 in
set_option maxHeartbeats 4000000 in
theorem c_M_thrown (l : Launch) (Γ : gG) (r : Nat → Nat) (ri : Nat → Nat → Nat) (rl : Nat → Nat → Int64) (wr : va_W)  : cT l Γ my_M_thrown bc_M_thrown 1 (some .int) rm_M_thrown [.ref (r 0)] (rW Γ r ri rl wr) (S := Unit) (fun v _ => v = some (.int (nI (ri 20 0)))) (fun _ => rW Γ r ri rl wr) := by
  refine cT.start (by decide) (Nat.le_of_ble_eq_true rfl) (fun p e s m args below meth c ls Q hQ C hmn h hl => ?_)
  replace hl : lv_has ls 1 [(0, .ref (r 0))] := hl
  refine lv_aload_n C.x C.b dc_M_thrown_0 rfl (lv_at hl 0 rfl) ?_
  refine rg_get C h 0 rfl rfl in_M 0 (by decide) fl_M_54 rfl dc_M_thrown_1 ?_
  rw [hQ]
  exact rt_i C () h (rfl) dc_M_thrown_4

abbrev rm_M_isSet : Room := { frames := 0, cells := 0, slots := 0, locals := 0 }
set_option maxRecDepth 100000 in
set_option maxHeartbeats 4000000 in
theorem c_M_isSet (l : Launch) (Γ : gG) (r : Nat → Nat) (ri : Nat → Nat → Nat) (rl : Nat → Nat → Int64) (wr : va_W) (pp : Int32) (h80 : ri 20 1 ≤ 80) : cT l Γ my_M_isSet bc_M_isSet 2 (some .boolean) rm_M_isSet [.ref (r 0), .int pp] (rW Γ r ri rl wr) (S := Bool) (fun v b => v = some (.int (bI b)) ∧ (b = true ↔ ∃ j, j < ri 20 1 ∧ pp = nI j)) (fun _ => rW Γ r ri rl wr) := by
  refine cT.start (by decide) (Nat.le_of_ble_eq_true rfl) (fun p e s m args below meth c ls Q hQ C hmn h hl => ?_)
  replace hl : lv_has ls 2 [(0, .ref (r 0)), (1, .int pp)] := hl
  refine lv_iload_n C.x C.b dc_M_isSet_0 rfl (lv_at hl 1 rfl) ?_
  refine lv_if_lt (tgt := 16) C.x C.b dc_M_isSet_1 (by decide) (fun q1 => ?_) (fun q1 => ?_)
  · refine lv_iconst (v := (nI 0)) C.x C.b dc_M_isSet_16 (by decide +kernel) ?_
    rw [hQ]
    exact rt_z C false h (⟨by decide +kernel, fun z => (by cases z), fun z => (by obtain ⟨j, hj, e⟩ := z; rw [e] at q1; exact absurd q1 (nI_pos (by omega)))⟩) (by decide +kernel) dc_M_isSet_17
  · refine lv_iload_n C.x C.b dc_M_isSet_4 rfl (lv_at hl 1 rfl) ?_
    refine lv_aload_n C.x C.b dc_M_isSet_5 rfl (lv_at hl 0 rfl) ?_
    refine rg_get C h 0 rfl rfl in_M 1 (by decide) fl_M_58 rfl dc_M_isSet_6 ?_
    refine lv_icmp_ge (tgt := 16) C.x C.b dc_M_isSet_9 (by decide) (fun q9 => ?_) (fun q9 => ?_)
    · refine lv_iconst (v := (nI 0)) C.x C.b dc_M_isSet_16 (by decide +kernel) ?_
      rw [hQ]
      exact rt_z C false h (⟨by decide +kernel, fun z => (by cases z), fun z => (by obtain ⟨j, hj, e⟩ := z; rw [e] at q9; exact absurd (nI_lt hj (by omega)) (Int32.not_lt.mpr q9))⟩) (by decide +kernel) dc_M_isSet_17
    · refine lv_iconst (v := (nI 1)) C.x C.b dc_M_isSet_12 (by decide +kernel) ?_
      refine lv_goto (tgt := 17) C.x C.b dc_M_isSet_13 (by decide) ?_
      rw [hQ]
      exact rt_z C true h (⟨by decide +kernel, fun _ => (by
        rcases pk_ix pp (n := ri 20 1) (by omega) with z | z | z
        · exact absurd z q1
        · exact absurd z q9
        · exact z), fun _ => rfl⟩) (by decide +kernel) dc_M_isSet_17

abbrev rm_M_next : Room := { frames := 0, cells := 0, slots := 0, locals := 0 }
set_option maxRecDepth 100000 in
set_option maxHeartbeats 4000000 in
theorem c_M_next (l : Launch) (Γ : gG) (r : Nat → Nat) (ri : Nat → Nat → Nat) (rl : Nat → Nat → Int64) (wr : va_W) (p9 s9 lt : Nat) (hp : p9 < 80) (hs : s9 < 10) (hlt : lt < 3) : cT l Γ my_M_next bc_M_next 4 (some .int) rm_M_next [.ref (r 0), .int (nI p9), .int (nI s9), .int (nI lt)] (rW Γ r ri rl wr) (S := Unit) (fun v _ => v = some (.int (nI (rN ri p9 (s9 * 3 + lt))))) (fun _ => rW Γ r ri rl wr) := by
  refine cT.start (by decide) (Nat.le_of_ble_eq_true rfl) (fun p e s m args below meth c ls Q hQ C hmn h hl => ?_)
  replace hl : lv_has ls 4 [(0, .ref (r 0)), (1, .int (nI p9)), (2, .int (nI s9)), (3, .int (nI lt))] := hl
  refine lv_aload_n C.x C.b dc_M_next_0 rfl (lv_at hl 0 rfl) ?_
  refine rg_get C h 0 rfl rfl in_M 4 (by decide) fl_M_16 rfl dc_M_next_1 ?_
  refine lv_iconst (v := (nI 3)) C.x C.b dc_M_next_4 (by decide +kernel) ?_
  refine lv_bipush (v := (nI 10)) C.x C.b dc_M_next_5 (by decide +kernel) ?_
  refine lv_iload_n C.x C.b dc_M_next_7 rfl (lv_at hl 1 rfl) ?_
  refine lv_imul C.x C.b dc_M_next_8 ?_
  refine tp_i (pk_mul 10 p9) ?_
  refine lv_iload_n C.x C.b dc_M_next_9 rfl (lv_at hl 2 rfl) ?_
  refine lv_iadd C.x C.b dc_M_next_10 ?_
  refine tp_i (nI_add (10 * p9) s9) ?_
  refine lv_imul C.x C.b dc_M_next_11 ?_
  refine tp_i (pk_mul 3 ((10 * p9) + s9)) ?_
  refine lv_iload_n C.x C.b dc_M_next_12 rfl (lv_at hl 3 rfl) ?_
  refine lv_iadd C.x C.b dc_M_next_13 ?_
  refine tp_i (nI_add (3 * ((10 * p9) + s9)) lt) ?_
  refine rg_ild C h 3 rfl (by omega) (by decide) dc_M_next_14 ?_
  rw [hQ]
  exact rt_i C () h (by unfold rN; rw [if_pos (by omega), show 30 * p9 + (s9 * 3 + lt) = 3 * (10 * p9 + s9) + lt by omega]) dc_M_next_15

abbrev rm_M_isEnd : Room := { frames := 0, cells := 0, slots := 0, locals := 0 }
set_option maxRecDepth 100000 in
set_option maxHeartbeats 4000000 in
theorem c_M_isEnd (l : Launch) (Γ : gG) (r : Nat → Nat) (ri : Nat → Nat → Nat) (rl : Nat → Nat → Int64) (wr : va_W) (p9 s9 : Nat) (hp : p9 < 80) (hs : s9 < 10) (h1 : ri 3 (10 * p9 + s9) ≤ 1) : cT l Γ my_M_isEnd bc_M_isEnd 3 (some .boolean) rm_M_isEnd [.ref (r 0), .int (nI p9), .int (nI s9)] (rW Γ r ri rl wr) (S := Unit) (fun v _ => v = some (.int (bI (rEb ri p9 s9)))) (fun _ => rW Γ r ri rl wr) := by
  refine cT.start (by decide) (Nat.le_of_ble_eq_true rfl) (fun p e s m args below meth c ls Q hQ C hmn h hl => ?_)
  replace hl : lv_has ls 3 [(0, .ref (r 0)), (1, .int (nI p9)), (2, .int (nI s9))] := hl
  refine lv_aload_n C.x C.b dc_M_isEnd_0 rfl (lv_at hl 0 rfl) ?_
  refine rg_get C h 0 rfl rfl in_M 5 (by decide) fl_M_19 rfl dc_M_isEnd_1 ?_
  refine lv_bipush (v := (nI 10)) C.x C.b dc_M_isEnd_4 (by decide +kernel) ?_
  refine lv_iload_n C.x C.b dc_M_isEnd_6 rfl (lv_at hl 1 rfl) ?_
  refine lv_imul C.x C.b dc_M_isEnd_7 ?_
  refine tp_i (pk_mul 10 p9) ?_
  refine lv_iload_n C.x C.b dc_M_isEnd_8 rfl (lv_at hl 2 rfl) ?_
  refine lv_iadd C.x C.b dc_M_isEnd_9 ?_
  refine tp_i (nI_add (10 * p9) s9) ?_
  refine rg_zld C h 4 rfl (by omega) (by decide) dc_M_isEnd_10 ?_
  rw [hQ]
  exact rt_z C () h (by rw [nI_b h1]; rfl) (by have := nI_b h1; rw [this]; exact bI_01 _) dc_M_isEnd_11

abbrev rm_M_all : Room := { frames := 1, cells := 0, slots := 0, locals := 23 }
set_option maxRecDepth 100000 in
set_option maxHeartbeats 4000000 in
theorem c_M_all (l : Launch) (Γ : gG) (r : Nat → Nat) (ri : Nat → Nat → Nat) (rl : Nat → Nat → Int64) (wr : va_W) (p9 S lt : Nat) (hp : p9 < 80) (hS : S < 2 ^ 31) (hlt : lt < 3) (hrc : ri 0 p9 ≤ 10) (hnx : ∀ x, x < ri 0 p9 → rN ri p9 (x * 3 + lt) < 10) : cT l Γ my_M_all bc_M_all 6 (some .int) rm_M_all [.ref (r 0), .int (nI p9), .int (nI S), .int (nI lt)] (rW Γ r ri rl wr) (S := Unit) (fun v _ => v = some (.int (nI (aAll S (fun x => rN ri p9 (x * 3 + lt)) (ri 0 p9))))) (fun _ => rW Γ r ri rl wr) := by
  refine cT.start (by decide) (Nat.le_of_ble_eq_true rfl) (fun p e s m args below meth c ls Q hQ C hmn h hl => ?_)
  replace hl : lv_has ls 6 [(0, .ref (r 0)), (1, .int (nI p9)), (2, .int (nI S)), (3, .int (nI lt))] := hl
  refine lv_iconst (v := (nI 0)) C.x C.b dc_M_all_0 (by decide +kernel) ?_
  refine lv_istore (lv' := [(4, .int (nI 0)), (0, .ref (r 0)), (1, .int (nI p9)), (2, .int (nI S)), (3, .int (nI lt))]) C.x C.b dc_M_all_1 hl (by decide) rfl (fun ls hl => ?_)
  refine lv_iconst (v := (nI 0)) C.x C.b dc_M_all_3 (by decide +kernel) ?_
  refine lv_istore (lv' := [(5, .int (nI 0)), (4, .int (nI 0)), (0, .ref (r 0)), (1, .int (nI p9)), (2, .int (nI S)), (3, .int (nI lt))]) C.x C.b dc_M_all_4 hl (by decide) rfl (fun ls hl => ?_)
  have lp_6 : ∀ (n_6 : Nat) (k : Nat) (H : Heap) (locs : List Loc) (ls : Array Slot), ri 0 p9 - k < n_6 → (k ≤ ri 0 p9) → sT Γ s (rW Γ r ri rl wr) H locs → lv_has ls 6 [(5, .int (nI k)), (4, .int (nI (aAll S (fun x => rN ri p9 (x * 3 + lt)) k))), (0, .ref (r 0)), (1, .int (nI p9)), (2, .int (nI S)), (3, .int (nI lt))] → W p l e rm_M_all s m args below meth c H locs 0 0 Q (F0 m 6 ls []) := by
    intro n_6
    induction n_6 with
    | zero => intro k H locs ls hms; exact absurd hms (Nat.not_lt_zero _)
    | succ n_6 ih_6 =>
      intro k H locs ls hms hk h hl
      refine lv_iload C.x C.b dc_M_all_6 (lv_at hl 0 rfl) ?_
      refine lv_aload_n C.x C.b dc_M_all_8 rfl (lv_at hl 2 rfl) ?_
      refine rg_get C h 0 rfl rfl in_M 2 (by decide) fl_M_9 rfl dc_M_all_9 ?_
      refine lv_iload_n C.x C.b dc_M_all_12 rfl (lv_at hl 3 rfl) ?_
      refine rg_ild C h 1 rfl (by omega) (by decide) dc_M_all_13 ?_
      refine bc_ge (tgt := 48) C (by omega) (by omega) dc_M_all_14 (by decide) (fun q14 => ?_) (fun q14 => ?_)
      · refine lv_iload C.x C.b dc_M_all_48 (lv_at hl 1 rfl) ?_
        rw [hQ]
        exact rt_i C () h (by rw [show k = ri 0 p9 by omega]) dc_M_all_50
      · refine lv_iload_n C.x C.b dc_M_all_17 rfl (lv_at hl 4 rfl) ?_
        refine lv_iload C.x C.b dc_M_all_18 (lv_at hl 0 rfl) ?_
        refine lv_ishr C.x C.b dc_M_all_20 ?_
        refine tp_i (nI_shr (a := S) (n := k) (by omega) (by omega)) ?_
        refine lv_iconst (v := (nI 1)) C.x C.b dc_M_all_21 (by decide +kernel) ?_
        refine lv_iand C.x C.b dc_M_all_22 ?_
        refine tp_i (nI_and1 (S / 2 ^ k)) ?_
        refine lv_iconst (v := (nI 1)) C.x C.b dc_M_all_23 (by decide +kernel) ?_
        refine bc_ne (tgt := 42) C (by omega) (by omega) dc_M_all_24 (by decide) (fun q24 => ?_) (fun q24 => ?_)
        · refine lv_iinc (v := nI (k + 1)) (lv' := [(5, .int (nI (k + 1))), (4, .int (nI (aAll S (fun x => rN ri p9 (x * 3 + lt)) k))), (0, .ref (r 0)), (1, .int (nI p9)), (2, .int (nI S)), (3, .int (nI lt))]) C.x C.b dc_M_all_42 hl (k := 0) rfl (nI_1 k) (by decide) rfl (fun ls hl => ?_)
          refine lv_goto (tgt := 6) C.x C.b dc_M_all_45 (by decide) ?_
          rw [show aAll S (fun x => rN ri p9 (x * 3 + lt)) k = aAll S (fun x => rN ri p9 (x * 3 + lt)) (k + 1) from (aAll_n ((tb_iff0 _ _).mp (by omega))).symm] at hl
          exact ih_6 (k + 1) _ _ _ (by omega) (by first | assumption | omega) h (lv_sub hl [0, 1, 2, 3, 4, 5] rfl)
        · refine lv_iload C.x C.b dc_M_all_27 (lv_at hl 1 rfl) ?_
          refine lv_iconst (v := (nI 1)) C.x C.b dc_M_all_29 (by decide +kernel) ?_
          refine lv_aload_n C.x C.b dc_M_all_30 rfl (lv_at hl 2 rfl) ?_
          refine lv_iload_n C.x C.b dc_M_all_31 rfl (lv_at hl 3 rfl) ?_
          refine lv_iload C.x C.b dc_M_all_32 (lv_at hl 0 rfl) ?_
          refine lv_iload_n C.x C.b dc_M_all_34 rfl (lv_at hl 5 rfl) ?_
          refine kv_V (As := [.int (nI p9), .int (nI k), .int (nI lt)]) (rest := [.int (nI 1), .int (nI (aAll S (fun x => rN ri p9 (x * 3 + lt)) k))]) C h hl.1 (c_M_next l Γ r ri rl wr p9 k lt (by omega) (by omega) (by omega)) mw_M_next lk_M_61 (q0 := 0) rfl rfl rfl (by decide) (by decide) (Nat.le_of_ble_eq_true rfl) dc_M_all_35 (fun v u H locs hp h => ?_)
          obtain rfl := hp
          replace h : sT Γ s (rW Γ r ri rl wr) _ _ := h
          refine W.eq (g2 := F0 m 38 ls [.int (nI (rN ri p9 (k * 3 + lt))), .int (nI 1), .int (nI (aAll S (fun x => rN ri p9 (x * 3 + lt)) k))]) rfl ?_
          refine lv_ishl C.x C.b dc_M_all_38 ?_
          refine tp_i (nI_shl1 (n := (rN ri p9 (k * 3 + lt))) (Nat.lt_of_lt_of_le (hnx _ (by omega)) (by decide))) ?_
          refine lv_ior C.x C.b dc_M_all_39 ?_
          refine tp_i (nI_or (aAll S (fun x => rN ri p9 (x * 3 + lt)) k) (2 ^ (rN ri p9 (k * 3 + lt)))) ?_
          refine lv_istore (lv' := [(4, .int (nI ((aAll S (fun x => rN ri p9 (x * 3 + lt)) k) ||| (2 ^ (rN ri p9 (k * 3 + lt)))))), (5, .int (nI k)), (0, .ref (r 0)), (1, .int (nI p9)), (2, .int (nI S)), (3, .int (nI lt))]) C.x C.b dc_M_all_40 hl (by decide) rfl (fun ls hl => ?_)
          refine lv_iinc (v := nI (k + 1)) (lv' := [(5, .int (nI (k + 1))), (4, .int (nI ((aAll S (fun x => rN ri p9 (x * 3 + lt)) k) ||| (2 ^ (rN ri p9 (k * 3 + lt)))))), (0, .ref (r 0)), (1, .int (nI p9)), (2, .int (nI S)), (3, .int (nI lt))]) C.x C.b dc_M_all_42 hl (k := 1) rfl (nI_1 k) (by decide) rfl (fun ls hl => ?_)
          refine lv_goto (tgt := 6) C.x C.b dc_M_all_45 (by decide) ?_
          rw [show aAll S (fun x => rN ri p9 (x * 3 + lt)) k ||| 2 ^ rN ri p9 (k * 3 + lt) = aAll S (fun x => rN ri p9 (x * 3 + lt)) (k + 1) from (aAll_s (nx := (fun x => rN ri p9 (x * 3 + lt))) ((tb_iff1 _ _).mp q24)).symm] at hl
          exact ih_6 (k + 1) _ _ _ (by omega) (by first | assumption | omega) h (lv_sub hl [0, 1, 2, 3, 4, 5] rfl)
  exact lp_6 _ 0 _ _ _ (Nat.lt_succ_self _) (by first | assumption | omega) h (lv_sub hl [0, 1, 2, 3, 4, 5] rfl)

abbrev rm_M_someEnd : Room := { frames := 1, cells := 0, slots := 0, locals := 22 }
set_option maxRecDepth 100000 in
set_option maxHeartbeats 4000000 in
theorem c_M_someEnd (l : Launch) (Γ : gG) (r : Nat → Nat) (ri : Nat → Nat → Nat) (rl : Nat → Nat → Int64) (wr : va_W) (p9 S : Nat) (hp : p9 < 80) (hS : S < 2 ^ 31) (hrc : ri 0 p9 ≤ 10) (he : ∀ x, x < ri 0 p9 → ri 3 (10 * p9 + x) ≤ 1) : cT l Γ my_M_someEnd bc_M_someEnd 4 (some .boolean) rm_M_someEnd [.ref (r 0), .int (nI p9), .int (nI S)] (rW Γ r ri rl wr) (S := Unit) (fun v _ => v = some (.int (bI (decide (¬ S &&& rT ri p9 0 1 = 0))))) (fun _ => rW Γ r ri rl wr) := by
  refine cT.start (by decide) (Nat.le_of_ble_eq_true rfl) (fun p e s m args below meth c ls Q hQ C hmn h hl => ?_)
  replace hl : lv_has ls 4 [(0, .ref (r 0)), (1, .int (nI p9)), (2, .int (nI S))] := hl
  refine lv_iconst (v := (nI 0)) C.x C.b dc_M_someEnd_0 (by decide +kernel) ?_
  refine lv_istore_n (lv' := [(3, .int (nI 0)), (0, .ref (r 0)), (1, .int (nI p9)), (2, .int (nI S))]) C.x C.b dc_M_someEnd_1 rfl hl (by decide) rfl (fun ls hl => ?_)
  have hA : ∀ x, x < 0 → ¬ (S.testBit x = true ∧ rEb ri p9 x = true) := fun x hx => absurd hx (Nat.not_lt_zero _)
  have lp_2 : ∀ (n_2 : Nat) (k : Nat) (H : Heap) (locs : List Loc) (ls : Array Slot), ri 0 p9 - k < n_2 → (k ≤ ri 0 p9) → (∀ x, x < k → ¬ (S.testBit x = true ∧ rEb ri p9 x = true)) → sT Γ s (rW Γ r ri rl wr) H locs → lv_has ls 4 [(3, .int (nI k)), (0, .ref (r 0)), (1, .int (nI p9)), (2, .int (nI S))] → W p l e rm_M_someEnd s m args below meth c H locs 0 0 Q (F0 m 2 ls []) := by
    intro n_2
    induction n_2 with
    | zero => intro k H locs ls hms; exact absurd hms (Nat.not_lt_zero _)
    | succ n_2 ih_2 =>
      intro k H locs ls hms hk hA h hl
      refine lv_iload_n C.x C.b dc_M_someEnd_2 rfl (lv_at hl 0 rfl) ?_
      refine lv_aload_n C.x C.b dc_M_someEnd_3 rfl (lv_at hl 1 rfl) ?_
      refine rg_get C h 0 rfl rfl in_M 2 (by decide) fl_M_9 rfl dc_M_someEnd_4 ?_
      refine lv_iload_n C.x C.b dc_M_someEnd_7 rfl (lv_at hl 2 rfl) ?_
      refine rg_ild C h 1 rfl (by omega) (by decide) dc_M_someEnd_8 ?_
      refine bc_ge (tgt := 38) C (by omega) (by omega) dc_M_someEnd_9 (by decide) (fun q9 => ?_) (fun q9 => ?_)
      · refine lv_iconst (v := (nI 0)) C.x C.b dc_M_someEnd_38 (by decide +kernel) ?_
        rw [hQ]
        exact rt_z C () h (rb_f (decide_eq_false (fun z => by
          obtain ⟨x, x1, x2⟩ := and_ne.mp z
          have hx : x < ri 0 p9 := by
            apply Classical.byContradiction
            intro hx
            rw [show rT ri p9 0 1 = eAll (rEb ri p9) (ri 0 p9) from rfl, eAll_bit, decide_eq_false hx] at x2
            cases x2
          rw [rT_bit hx] at x2
          exact hA x (by omega) ⟨x1, x2⟩))) (by decide +kernel) dc_M_someEnd_39
      · refine lv_iload_n C.x C.b dc_M_someEnd_12 rfl (lv_at hl 3 rfl) ?_
        refine lv_iload_n C.x C.b dc_M_someEnd_13 rfl (lv_at hl 0 rfl) ?_
        refine lv_ishr C.x C.b dc_M_someEnd_14 ?_
        refine tp_i (nI_shr (a := S) (n := k) (by omega) (by omega)) ?_
        refine lv_iconst (v := (nI 1)) C.x C.b dc_M_someEnd_15 (by decide +kernel) ?_
        refine lv_iand C.x C.b dc_M_someEnd_16 ?_
        refine tp_i (nI_and1 (S / 2 ^ k)) ?_
        refine lv_iconst (v := (nI 1)) C.x C.b dc_M_someEnd_17 (by decide +kernel) ?_
        refine bc_ne (tgt := 32) C (by omega) (by omega) dc_M_someEnd_18 (by decide) (fun q18 => ?_) (fun q18 => ?_)
        · refine lv_iinc (v := nI (k + 1)) (lv' := [(3, .int (nI (k + 1))), (0, .ref (r 0)), (1, .int (nI p9)), (2, .int (nI S))]) C.x C.b dc_M_someEnd_32 hl (k := 0) rfl (nI_1 k) (by decide) rfl (fun ls hl => ?_)
          refine lv_goto (tgt := 2) C.x C.b dc_M_someEnd_35 (by decide) ?_
          have hA : ∀ x, x < k + 1 → ¬ (S.testBit x = true ∧ rEb ri p9 x = true) := fun x hx => by
            by_cases e9 : x = k
            · subst e9
              first
              | (rw [q27]; exact fun z => by cases z.2)
              | exact fun z => q18 ((tb_iff1 _ _).mpr z.1)
            · exact hA x (by omega)
          exact ih_2 (k + 1) _ _ _ (by omega) (by first | assumption | omega) (by first | assumption | omega) h (lv_sub hl [0, 1, 2, 3] rfl)
        · refine lv_aload_n C.x C.b dc_M_someEnd_21 rfl (lv_at hl 1 rfl) ?_
          refine lv_iload_n C.x C.b dc_M_someEnd_22 rfl (lv_at hl 2 rfl) ?_
          refine lv_iload_n C.x C.b dc_M_someEnd_23 rfl (lv_at hl 0 rfl) ?_
          refine kv_V (As := [.int (nI p9), .int (nI k)]) (rest := []) C h hl.1 (c_M_isEnd l Γ r ri rl wr p9 k (by omega) (by omega) (he k (by omega))) mw_M_isEnd lk_M_64 (q0 := 0) rfl rfl rfl (by decide) (by decide) (Nat.le_of_ble_eq_true rfl) dc_M_someEnd_24 (fun v u H locs hp h => ?_)
          obtain rfl := hp
          replace h : sT Γ s (rW Γ r ri rl wr) _ _ := h
          refine W.eq (g2 := F0 m 27 ls [.int (bI (rEb ri p9 k))]) rfl ?_
          refine bb_eq (tgt := 32) C dc_M_someEnd_27 (by decide) (fun q27 => ?_) (fun q27 => ?_)
          · refine lv_iinc (v := nI (k + 1)) (lv' := [(3, .int (nI (k + 1))), (0, .ref (r 0)), (1, .int (nI p9)), (2, .int (nI S))]) C.x C.b dc_M_someEnd_32 hl (k := 0) rfl (nI_1 k) (by decide) rfl (fun ls hl => ?_)
            refine lv_goto (tgt := 2) C.x C.b dc_M_someEnd_35 (by decide) ?_
            have hA : ∀ x, x < k + 1 → ¬ (S.testBit x = true ∧ rEb ri p9 x = true) := fun x hx => by
              by_cases e9 : x = k
              · subst e9
                first
                | (rw [q27]; exact fun z => by cases z.2)
                | exact fun z => q18 ((tb_iff1 _ _).mpr z.1)
              · exact hA x (by omega)
            exact ih_2 (k + 1) _ _ _ (by omega) (by first | assumption | omega) (by first | assumption | omega) h (lv_sub hl [0, 1, 2, 3] rfl)
          · refine lv_iconst (v := (nI 1)) C.x C.b dc_M_someEnd_30 (by decide +kernel) ?_
            rw [hQ]
            exact rt_z C () h (rb_t (decide_eq_true (and_ne.mpr ⟨k, (tb_iff1 _ _).mp q18, by rw [rT_bit (by omega)]; exact q27⟩))) (by decide +kernel) dc_M_someEnd_31
  exact lp_2 _ 0 _ _ _ (Nat.lt_succ_self _) (by first | assumption | omega) (by first | assumption | omega) h (lv_sub hl [0, 1, 2, 3] rfl)

