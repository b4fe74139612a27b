theorem xor_z {a b : Nat} (h : a ^^^ b = 0) : a = b := by
  apply Nat.eq_of_testBit_eq
  intro i
  have e : (a ^^^ b).testBit i = false := by rw [h, Nat.zero_testBit]
  rw [Nat.testBit_xor] at e
  revert e
  cases a.testBit i <;> cases b.testBit i <;> decide
theorem ask_bit {M : mM} {so : Nat → Nat → Nat} {i t : Nat} (h : SI M so) (hi : i < so 10 0) (ha : so 4 i = so 10 1) (ht : t < so 10 1) : (so 3 i).testBit t = macc M (so 1 i) (tW so t t) := by
  obtain ⟨-, -, z⟩ := h.2.2.2.2.2.1 i hi
  obtain ⟨z1, z2⟩ := z t ht
  cases e : macc M (so 1 i) (tW so t t) with
  | true => exact z2 (by omega) e
  | false =>
    cases e2 : (so 3 i).testBit t with
    | false => rfl
    | true => rw [z1 e2] at e; cases e
theorem bits_ne {a b n : Nat} (ha : a < 2 ^ n) (hb : b < 2 ^ n) (h : a ≠ b) : ∃ t, t < n ∧ a.testBit t ≠ b.testBit t := by
  apply Classical.byContradiction
  intro hn
  apply h
  apply Nat.eq_of_testBit_eq
  intro t
  by_cases ht : t < n
  · apply Classical.byContradiction
    intro e
    exact hn ⟨t, ht, e⟩
  · have hp : 2 ^ n ≤ 2 ^ t := Nat.pow_le_pow_right (by decide) (by omega)
    rw [Nat.testBit_lt_two_pow (Nat.lt_of_lt_of_le ha hp), Nat.testBit_lt_two_pow (Nat.lt_of_lt_of_le hb hp)]
theorem tW_lts {M : mM} {so : Nat → Nat → Nat} (h : SI M so) : ∀ n t, t < so 10 1 → lts (tW so n t)
  | 0, _, _ => lts_nil
  | n + 1, t, ht => by
    rw [tW]
    split
    · exact lts_nil
    · obtain ⟨a, b⟩ := h.2.2.2.2.1.2.2 t (by omega) ht
      exact lts_cons a (tW_lts h n _ (by omega))
def KI (M : mM) (so : Nat → Nat → Nat) : Prop :=
  so 10 2 ≤ 10 ∧ (∀ k, k < so 10 2 → so 7 k < so 10 0) ∧ (0 < so 10 2 → so 7 0 = 0) ∧ (so 10 1 ≤ so 10 2 ∨ (so 10 1 = 1 ∧ so 10 2 = 0)) ∧
  ∀ k k', k < k' → k' < so 10 2 → ∃ t, t < so 10 1 ∧ macc M (so 1 (so 7 k)) (tW so t t) ≠ macc M (so 1 (so 7 k')) (tW so t t)
theorem KI.ext {M : mM} {so so' : Nat → Nat → Nat} (e : sE so so') (h : KI M so) : KI M so' := by
  obtain ⟨e1, e2, e3, e4, e5, e6⟩ := e
  have tw : ∀ n t, tW so' n t = tW so n t := tW_eq (e1 5 (by decide) (by decide)) (e1 6 (by decide) (by decide))
  have e7 := e1 7 (by decide) (by decide)
  obtain ⟨h1, h2, h3, h4, h5⟩ := h
  refine ⟨by omega, fun k hk => ?_, fun hk => ?_, by omega, fun k k' a b => ?_⟩
  · rw [e7]; have := h2 k (by omega); omega
  · rw [e7]; exact h3 (by omega)
  · obtain ⟨t, t1, t2⟩ := h5 k k' a (by omega)
    refine ⟨t, by omega, ?_⟩
    rw [e7, tw, (e6 _ (h2 k (by omega))).1, (e6 _ (h2 k' (by omega))).1]
    exact t2
def EA (so : Nat → Nat → Nat) : Prop := ∀ k, k < so 10 2 → so 4 (so 7 k) = so 10 1
theorem EA.ext {M : mM} {so so' : Nat → Nat → Nat} (e : sE so so') (hS : SI M so') (hk : ∀ k, k < so 10 2 → so 7 k < so 10 0) (h : EA so) : EA so' := fun k hk2 => by
  obtain ⟨e1, e2, e3, e4, e5, e6⟩ := e
  have a := hk k (by omega)
  have b := (e6 _ a).2.1
  rw [h k (by omega)] at b
  rw [e1 7 (by decide) (by decide)]
  have c := (hS.2.2.2.2.2.1 (so 7 k) (by omega)).1
  omega
/-- place i is of kind k: it answers as its example does, also behind each of the first q letters -/
def AG (M : mM) (so : Nat → Nat → Nat) (i k q : Nat) : Prop := (∀ t, t < so 10 1 → macc M (so 1 i) (tW so t t) = macc M (so 1 (so 7 k)) (tW so t t)) ∧ ∀ l, l < q → so 2 (i * 3 + l) ≠ 0 ∧ ∀ t, t < so 10 1 → macc M (M.2.1 (so 1 i) l) (tW so t t) = macc M (M.2.1 (so 1 (so 7 k)) l) (tW so t t)
theorem AG.ext {M : mM} {so so' : Nat → Nat → Nat} {i k q : Nat} (e : sE so so') (hi : i < so 10 0) (hk : so 7 k < so 10 0) (hq : q ≤ 3) (h : AG M so i k q) : AG M so' i k q := by
  obtain ⟨e1, e2, e3, e4, e5, e6⟩ := e
  have tw : ∀ n t, tW so' n t = tW so n t := tW_eq (e1 5 (by decide) (by decide)) (e1 6 (by decide) (by decide))
  refine ⟨fun t ht => ?_, fun l hl => ⟨(e6 i hi).2.2.2 l (by omega) (h.2 l hl).1, fun t ht => ?_⟩⟩
  · rw [e1 7 (by decide) (by decide), (e6 i hi).1, (e6 _ hk).1, tw]; exact h.1 t (by omega)
  · rw [e1 7 (by decide) (by decide), (e6 i hi).1, (e6 _ hk).1, tw]; exact (h.2 l hl).2 t (by omega)
def SD (M : mM) (so : Nat → Nat → Nat) (n : Nat) : Prop := ∀ i, i < n → so 4 i = so 10 1 ∧ ∃ k, k < so 10 2 ∧ AG M so i k 3
theorem SD.ext {M : mM} {so so' : Nat → Nat → Nat} {n : Nat} (e : sE so so') (hS : SI M so') (hk : ∀ k, k < so 10 2 → so 7 k < so 10 0) (hn : n ≤ so 10 0) (h : SD M so n) : SD M so' n := fun i hi => by
  obtain ⟨a, k, b, c⟩ := h i hi
  have x := (e.2.2.2.2.2 i (by omega)).2.1
  have y := (hS.2.2.2.2.2.1 i (by have := e.2.2.2.2.1; omega)).1
  exact ⟨by have := e.2.1; omega, k, by have := e.2.2.1; omega, c.ext e (by omega) (hk k b) (Nat.le_refl _)⟩
/-- a kind more -/
theorem SI.ak {M : mM} {so so' : Nat → Nat → Nat} {i : Nat} (r : akR so i so') (h : SI M so) : SI M so' := by
  obtain ⟨r7, r10, rk⟩ := r
  have e0 : so' 10 0 = so 10 0 := by rw [r10, us_n _ _ (by decide)]
  have e1 : so' 10 1 = so 10 1 := by rw [r10, us_n _ _ (by decide)]
  have k : ∀ n, n ≤ 6 → so' n = so n := fun n hn => rk n (by omega) (by omega)
  have tw : ∀ n t, tW so' n t = tW so n t := tW_eq (k 5 (by decide)) (k 6 (by decide))
  unfold SI
  rw [e0, e1, k 0 (by decide), k 1 (by decide), k 2 (by decide), k 3 (by decide), k 4 (by decide), k 5 (by decide), k 6 (by decide)]
  obtain ⟨a1, a2, a3, a4, a5, a6, a7⟩ := h
  refine ⟨a1, a2, a3, a4, a5, fun i hi => ?_, a7⟩
  obtain ⟨x, y, z⟩ := a6 i hi
  exact ⟨x, y, fun t ht => by rw [tw]; exact z t ht⟩
theorem KI.ak {M : mM} {so so' : Nat → Nat → Nat} {i : Nat} (r : akR so i so') (hi : i < so 10 0) (h0 : so 10 2 = 0 → i = 0) (h10 : so 10 2 < 10) (hd : ∀ k, k < so 10 2 → ∃ t, t < so 10 1 ∧ macc M (so 1 (so 7 k)) (tW so t t) ≠ macc M (so 1 i) (tW so t t)) (h : KI M so) : KI M so' := by
  obtain ⟨r7, r10, rk⟩ := r
  have e0 : so' 10 0 = so 10 0 := by rw [r10, us_n _ _ (by decide)]
  have e1 : so' 10 1 = so 10 1 := by rw [r10, us_n _ _ (by decide)]
  have e2 : so' 10 2 = so 10 2 + 1 := by rw [r10, us_s]
  have tw : ∀ n t, tW so' n t = tW so n t := tW_eq (rk 5 (by decide) (by decide)) (rk 6 (by decide) (by decide))
  obtain ⟨h1, h2, h3, h4, h5⟩ := h
  have s7 : ∀ k, k < so 10 2 → so' 7 k = so 7 k := fun k hk => by rw [r7, us_n _ _ (by omega)]
  have n7 : so' 7 (so 10 2) = i := by rw [r7, us_s]
  refine ⟨by omega, fun k hk => ?_, fun _ => ?_, by omega, fun k k' a b => ?_⟩
  · by_cases hk2 : k < so 10 2
    · rw [s7 k hk2, e0]; exact h2 k hk2
    · rw [show k = so 10 2 by omega, n7, e0]; exact hi
  · by_cases hz : so 10 2 = 0
    · rw [← hz, n7, hz]; exact h0 hz
    · rw [s7 0 (by omega)]; exact h3 (by omega)
  · by_cases hk2 : k' < so 10 2
    · obtain ⟨t, t1, t2⟩ := h5 k k' a hk2
      exact ⟨t, by omega, by rw [s7 k (by omega), s7 k' hk2, rk 1 (by decide) (by decide), tw]; exact t2⟩
    · obtain ⟨t, t1, t2⟩ := hd k (by omega)
      exact ⟨t, by omega, by rw [s7 k (by omega), show k' = so 10 2 by omega, n7, rk 1 (by decide) (by decide), tw]; exact t2⟩
theorem EA.ak {so so' : Nat → Nat → Nat} {i : Nat} (r : akR so i so') (hi : so 4 i = so 10 1) (h : EA so) : EA so' := fun k hk => by
  obtain ⟨r7, r10, rk⟩ := r
  have e1 : so' 10 1 = so 10 1 := by rw [r10, us_n _ _ (by decide)]
  have e2 : so' 10 2 = so 10 2 + 1 := by rw [r10, us_s]
  rw [rk 4 (by decide) (by decide), r7, e1]
  by_cases hk2 : k = so 10 2
  · rw [hk2, us_s]; exact hi
  · rw [us_n _ _ hk2]; exact h k (by omega)
theorem SD.ak {M : mM} {so so' : Nat → Nat → Nat} {i n : Nat} (r : akR so i so') (h : SD M so n) : SD M so' n := fun j hj => by
  obtain ⟨r7, r10, rk⟩ := r
  have e1 : so' 10 1 = so 10 1 := by rw [r10, us_n _ _ (by decide)]
  have e2 : so' 10 2 = so 10 2 + 1 := by rw [r10, us_s]
  have tw : ∀ n t, tW so' n t = tW so n t := tW_eq (rk 5 (by decide) (by decide)) (rk 6 (by decide) (by decide))
  obtain ⟨a, k, b, c⟩ := h j hj
  have s7 : so' 7 k = so 7 k := by rw [r7, us_n _ _ (by omega)]
  refine ⟨by rw [rk 4 (by decide) (by decide), e1]; exact a, k, by omega, fun t ht => ?_, fun l hl => ⟨by rw [rk 2 (by decide) (by decide)]; exact (c.2 l hl).1, fun t ht => ?_⟩⟩
  · rw [s7, rk 1 (by decide) (by decide), tw]; exact c.1 t (by omega)
  · rw [s7, rk 1 (by decide) (by decide), tw]; exact (c.2 l hl).2 t (by omega)
/-- eleven words after which the machine goes on differently -/
def MN (M : mM) : Prop := ∃ f : Nat → List Nat, (∀ i, i < 11 → lts (f i)) ∧ ∀ i j, i < j → j < 11 → ∃ w, lts w ∧ macc M M.1 (f i ++ w) ≠ macc M M.1 (f j ++ w)
theorem macc_app (M : mM) (a w : List Nat) : macc M M.1 (a ++ w) = macc M (mrun M M.1 a) w := by rw [macc, macc, mrun_app]
theorem MN.of {M : mM} {so : Nat → Nat → Nat} {i : Nat} (hS : SI M so) (hK : KI M so) (h10 : 10 ≤ so 10 2) (hi : i < so 10 0) (hd : ∀ k, k < so 10 2 → ∃ w, lts w ∧ macc M (so 1 (so 7 k)) w ≠ macc M (so 1 i) w) : MN M := by
  have hr := hS.2.2.2.2.2.2
  have hk : ∀ k, ∃ w, k < 11 → lts w ∧ mrun M M.1 w = so 1 (if k < 10 then so 7 k else i) := fun k => by
    by_cases h : k < 11
    · obtain ⟨w, a, b⟩ := hr (if k < 10 then so 7 k else i) (by split; exact hK.2.1 k (by omega); exact hi)
      exact ⟨w, fun _ => ⟨a, b⟩⟩
    · exact ⟨[], fun z => absurd z h⟩
  obtain ⟨f, hf⟩ : ∃ f : Nat → List Nat, ∀ k, k < 11 → lts (f k) ∧ mrun M M.1 (f k) = so 1 (if k < 10 then so 7 k else i) := ⟨fun k => (hk k).choose, fun k => (hk k).choose_spec⟩
  refine ⟨f, fun k h => (hf k h).1, fun a b hab hb => ?_⟩
  have ea := (hf a (by omega)).2
  have eb := (hf b hb).2
  rw [if_pos (by omega)] at ea
  by_cases hb2 : b < 10
  · rw [if_pos hb2] at eb
    obtain ⟨t, t1, t2⟩ := hK.2.2.2.2 a b hab (by omega)
    exact ⟨tW so t t, tW_lts hS t t t1, by rw [macc_app, macc_app, ea, eb]; exact t2⟩
  · rw [if_neg hb2] at eb
    obtain ⟨w, w1, w2⟩ := hd a (by omega)
    exact ⟨w, w1, by rw [macc_app, macc_app, ea, eb]; exact w2⟩
/-- a test more -/
theorem tW_low {so so' : Nat → Nat → Nat} {T : Nat} (h : ∀ q, q < T → so' 5 q = so 5 q ∧ so' 6 q = so 6 q) (h6 : ∀ q, 1 ≤ q → q < T → so 6 q < q) : ∀ n t, t < T → tW so' n t = tW so n t
  | 0, _, _ => rfl
  | n + 1, t, ht => by
    rw [tW, tW]
    by_cases h0 : t = 0
    · rw [if_pos h0, if_pos h0]
    · rw [if_neg h0, if_neg h0, (h t ht).1, (h t ht).2, tW_low h h6 n _ (by have := h6 t (by omega) ht; omega)]
theorem tW_more {so : Nat → Nat → Nat} {T : Nat} (h6 : ∀ q, 1 ≤ q → q < T → so 6 q < q) : ∀ n t, t < T → t ≤ n → tW so n t = tW so t t := by
  have key : ∀ n m t, t < T → t ≤ n → t ≤ m → tW so n t = tW so m t := by
    intro n
    induction n with
    | zero => intro m t ht hn hm; rw [show t = 0 by omega, tW_0, tW_0]
    | succ n ih =>
      intro m t ht hn hm
      by_cases h0 : t = 0
      · rw [h0, tW_0, tW_0]
      · cases m with
        | zero => omega
        | succ m => rw [tW, tW, if_neg h0, if_neg h0, ih m _ (by have := h6 t (by omega) ht; omega) (by have := h6 t (by omega) ht; omega) (by have := h6 t (by omega) ht; omega)]
  exact fun n t ht hn => key n t t ht hn (Nat.le_refl _)
theorem sp_facts {M : mM} {so so' : Nat → Nat → Nat} {i l t : Nat} (r : spR so i l t so') (h : SI M so) (ht : t < so 10 1) : so' 10 0 = so 10 0 ∧ so' 10 1 = so 10 1 + 1 ∧ so' 10 2 = so 10 2 + 1 ∧ so' 10 3 = so 10 3 ∧ (∀ q, q < so 10 1 → tW so' q q = tW so q q) ∧ tW so' (so 10 1) (so 10 1) = l :: tW so t t := by
  obtain ⟨r7, r10, r5, r6, rk⟩ := r
  have h6 := fun q a b => (h.2.2.2.2.1.2.2 q a b).2
  have low := tW_low (so := so) (so' := so') (T := so 10 1) (fun q hq => ⟨by rw [r5, us_n _ _ (by omega)], by rw [r6, us_n _ _ (by omega)]⟩) h6
  refine ⟨by rw [r10, us_n _ _ (by decide), us_n _ _ (by decide)], by rw [r10, us_s], by rw [r10, us_n _ _ (by decide), us_s], by rw [r10, us_n _ _ (by decide), us_n _ _ (by decide)], fun q hq => low q q hq, ?_⟩
  have h1 := h.2.2.2.2.1.1
  obtain ⟨n, hn⟩ : ∃ n, so 10 1 = n + 1 := ⟨so 10 1 - 1, by omega⟩
  have e5 : so' 5 (so 10 1) = l := by rw [r5, us_s]
  have e6 : so' 6 (so 10 1) = t := by rw [r6, us_s]
  have s : tW so' (so 10 1) (so 10 1) = so' 5 (so 10 1) :: tW so' n (so' 6 (so 10 1)) := by
    generalize so 10 1 = T at *
    subst hn
    rw [tW, if_neg (by omega)]
  rw [s, e5, e6, low n t ht, tW_more h6 n t ht (by omega)]
theorem SI.sp {M : mM} {so so' : Nat → Nat → Nat} {i l t : Nat} (r : spR so i l t so') (hl : l < 3) (ht : t < so 10 1) (h9 : so 10 1 < 10) (h : SI M so) : SI M so' := by
  obtain ⟨f0, f1, f2, f3, f4, f5⟩ := sp_facts r h ht
  obtain ⟨r7, r10, r5, r6, rk⟩ := r
  have k : ∀ n, n ≤ 4 → so' n = so n := fun n hn => rk n (by omega) (by omega) (by omega) (by omega)
  obtain ⟨a1, a2, a3, a4, a5, a6, a7⟩ := h
  unfold SI
  rw [f0, f1, k 0 (by decide), k 1 (by decide), k 2 (by decide), k 3 (by decide), k 4 (by decide)]
  refine ⟨a1, a2, a3, a4, ⟨by omega, by omega, fun q q1 q2 => ?_⟩, fun j hj => ?_, a7⟩
  · by_cases e : q = so 10 1
    · rw [e, r5, us_s, r6, us_s]; exact ⟨hl, ht⟩
    · rw [r5, us_n _ _ e, r6, us_n _ _ e]; exact a5.2.2 q q1 (by omega)
  · obtain ⟨x, y, z⟩ := a6 j hj
    have p2 : 2 ^ so 10 1 < 2 ^ (so 10 1 + 1) := Nat.pow_lt_pow_right (by decide) (by omega)
    refine ⟨by omega, by omega, fun q hq => ?_⟩
    by_cases e : q = so 10 1
    · rw [e, Nat.testBit_lt_two_pow y]
      exact ⟨fun w => (by cases w), fun w => absurd w (by omega)⟩
    · rw [f4 q (by omega)]; exact z q (by omega)
theorem KI.sp {M : mM} {so so' : Nat → Nat → Nat} {i l t : Nat} (r : spR so i l t so') (hS : SI M so) (ht : t < so 10 1) (hi : i < so 10 0) (h1 : 1 ≤ so 10 2) (h10 : so 10 2 < 10) (hd : ∀ k, k < so 10 2 → (∃ q, q < so 10 1 ∧ macc M (so 1 (so 7 k)) (tW so q q) ≠ macc M (so 1 i) (tW so q q)) ∨ macc M (so 1 (so 7 k)) (l :: tW so t t) ≠ macc M (so 1 i) (l :: tW so t t)) (h : KI M so) : KI M so' := by
  obtain ⟨f0, f1, f2, f3, f4, f5⟩ := sp_facts r hS ht
  obtain ⟨r7, r10, r5, r6, rk⟩ := r
  obtain ⟨h1', h2, h3, h4, h5⟩ := h
  have s7 : ∀ k, k < so 10 2 → so' 7 k = so 7 k := fun k hk => by rw [r7, us_n _ _ (by omega)]
  have n7 : so' 7 (so 10 2) = i := by rw [r7, us_s]
  have k1 : so' 1 = so 1 := rk 1 (by decide) (by decide) (by decide) (by decide)
  refine ⟨by omega, fun k hk => ?_, fun _ => ?_, by omega, fun k k' a b => ?_⟩
  · by_cases hk2 : k < so 10 2
    · rw [s7 k hk2, f0]; exact h2 k hk2
    · rw [show k = so 10 2 by omega, n7, f0]; exact hi
  · rw [s7 0 (by omega)]; exact h3 (by omega)
  · by_cases hk2 : k' < so 10 2
    · obtain ⟨q, t1, t2⟩ := h5 k k' a hk2
      exact ⟨q, by omega, by rw [s7 k (by omega), s7 k' hk2, k1, f4 q t1]; exact t2⟩
    · rw [show k' = so 10 2 by omega, n7, s7 k (by omega), k1]
      rcases hd k (by omega) with ⟨q, t1, t2⟩ | z
      · exact ⟨q, by omega, by rw [f4 q t1]; exact t2⟩
      · exact ⟨so 10 1, by omega, by rw [f5]; exact z⟩
