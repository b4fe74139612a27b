/-! machines, as values: start, step, accepts, the places that are used -/
abbrev mM : Type := Nat × (Nat → Nat → Nat) × (Nat → Bool) × (Nat → Prop)
def mrun (M : mM) : Nat → List Nat → Nat
  | pl, [] => pl
  | pl, l :: w => mrun M (M.2.1 pl l) w
def macc (M : mM) (pl : Nat) (w : List Nat) : Bool := M.2.2.1 (mrun M pl w)
def lts (w : List Nat) : Prop := ∀ l ∈ w, l < 3
theorem lts_nil : lts [] := fun _ h => by cases h
theorem lts_cons {l : Nat} {w : List Nat} (h : l < 3) (hw : lts w) : lts (l :: w) := fun x hx => by
  rcases List.mem_cons.mp hx with rfl | h2
  · exact h
  · exact hw x h2
theorem lts_app {a b : List Nat} (ha : lts a) (hb : lts b) : lts (a ++ b) := fun x hx => (List.mem_append.mp hx).elim (ha x) (hb x)
theorem lts_tl {l : Nat} {w : List Nat} (h : lts (l :: w)) : l < 3 ∧ lts w := ⟨h l List.mem_cons_self, fun x hx => h x (List.mem_cons_of_mem _ hx)⟩
theorem mrun_app (M : mM) : ∀ (a b : List Nat) (pl : Nat), mrun M pl (a ++ b) = mrun M (mrun M pl a) b
  | [], _, _ => rfl
  | l :: a, b, pl => by rw [List.cons_append, mrun, mrun, mrun_app M a b]
theorem mrun_snoc (M : mM) (pl : Nat) (w : List Nat) (l : Nat) : mrun M pl (w ++ [l]) = M.2.1 (mrun M pl w) l := by rw [mrun_app]; rfl
theorem macc_cons (M : mM) (pl l : Nat) (w : List Nat) : macc M pl (l :: w) = macc M (M.2.1 pl l) w := rfl
/-- what every table of the class keeps -/
def tOK (t : Nat → Nat → Nat) : Prop := 1 ≤ t 0 0 ∧ t 0 0 ≤ 10 ∧ t 0 1 < 1024 ∧ t 0 2 < 1024 ∧ ∀ r l, r < t 0 0 → l < 3 → t 1 (r * 3 + l) < t 0 0
def mOK (d : Nat → Nat) (tb : Nat → Nat → Nat → Nat) (mc : va_E) (M : mM) : Prop :=
  (∃ bits fst, mc = .inr (4, [.int (nI bits), .int (nI fst)]) ∧ bits < 8 ∧ fst < 3 ∧ M = (fst, mmO bits, (fun pl => decide (pl = 1)), fun pl => pl < 3)) ∨
  (∃ i fst en, mc = .inr (5, [.ref (d (20 + 3 * i)), .int (nI fst), .int en]) ∧ i < 80 ∧ tOK (tb i) ∧ fst < tb i 0 0 ∧ M = (fst, mmR (tb i), maR en, fun pl => pl < tb i 0 0)) ∨
  (∃ how i j, mc = .inr (6, [.int (nI how), .ref (d (20 + 3 * i)), .ref (d (20 + 3 * j))]) ∧ how < 4 ∧ i < 80 ∧ j < 80 ∧ tOK (tb i) ∧ tOK (tb j) ∧ M = (0, mmB (tb i) (tb j), maB how (tb i) (tb j), fun pl => pl / 10 < tb i 0 0 ∧ pl % 10 < tb j 0 0)) ∨
  (∃ i j, mc = .inr (7, [.ref (d (20 + 3 * i)), .ref (d (20 + 3 * j))]) ∧ i < 80 ∧ j < 80 ∧ tOK (tb i) ∧ tOK (tb j) ∧ M = (mwB (tb i) 0 0, mmH (tb i) (tb j), maH (tb j), fun pl => pl / 1024 < tb i 0 0)) ∨
  (∃ i, mc = .inr (8, [.ref (d (20 + 3 * i))]) ∧ i < 80 ∧ tOK (tb i) ∧ M = (1024, mmN (tb i), maN (tb i), fun pl => pl ≤ 1024)) ∨
  (∃ i, mc = .inr (9, [.ref (d (20 + 3 * i))]) ∧ i < 80 ∧ tOK (tb i) ∧ M = (tb i 0 1, mmK (tb i), maK, fun pl => pl < 1024))
theorem bAll_lt (S : Nat) (nx : Nat → Nat) : ∀ n, bAll S nx n < 2 ^ n
  | 0 => Nat.lt_add_one 0
  | n + 1 => by
    have h := bAll_lt S nx n
    have h2 : 2 ^ n < 2 ^ (n + 1) := Nat.pow_lt_pow_right (by decide) (by omega)
    rw [bAll]
    split
    · exact Nat.or_lt_two_pow (by omega) h2
    · omega
theorem mwB_div {t : Nat → Nat → Nat} {a S : Nat} (h : S < 1024) : mwB t a S / 1024 = a ∧ mwB t a S % 1024 = S ||| ((t 0 1).testBit a).toNat := by
  have h1 : ((t 0 1).testBit a).toNat < 2 ^ 10 := by cases (t 0 1).testBit a <;> decide
  have h2 : S ||| ((t 0 1).testBit a).toNat < 1024 := Nat.or_lt_two_pow (n := 10) h h1
  unfold mwB
  constructor <;> omega
theorem and_lt {a b n : Nat} (h : b < n) : a &&& b < n := Nat.lt_of_le_of_lt Nat.and_le_right h
theorem mok_ok {d : Nat → Nat} {tb : Nat → Nat → Nat → Nat} {mc : va_E} {M : mM} (h : mOK d tb mc M) : M.2.2.2 M.1 ∧ (∀ pl l, M.2.2.2 pl → l < 3 → M.2.2.2 (M.2.1 pl l)) ∧ ∀ pl, M.2.2.2 pl → pl < 10240 := by
  rcases h with ⟨bits, fst, -, h1, h2, rfl⟩ | ⟨i, fst, en, -, hi, ht, hf, rfl⟩ | ⟨how, i, j, -, hw, hi, hj, ht, hu, rfl⟩ | ⟨i, j, -, hi, hj, ht, hu, rfl⟩ | ⟨i, -, hi, ht, rfl⟩ | ⟨i, -, hi, ht, rfl⟩
  · refine ⟨h2, fun pl l _ _ => ?_, fun pl (hp : pl < 3) => by omega⟩
    show mmO bits pl l < 3
    unfold mmO
    split <;> decide
  · refine ⟨hf, fun pl l hp hl => ht.2.2.2.2 pl l hp hl, fun pl (hp : pl < tb i 0 0) => by have := ht.2.1; omega⟩
  · refine ⟨⟨(by show 0 / 10 < _; have := ht.1; omega), (by show 0 % 10 < _; have := hu.1; omega)⟩, fun pl l (hp : pl / 10 < tb i 0 0 ∧ pl % 10 < tb j 0 0) hl => ?_, fun pl (hp : pl / 10 < tb i 0 0 ∧ pl % 10 < tb j 0 0) => by have := ht.2.1; omega⟩
    have a := ht.2.2.2.2 (pl / 10) l hp.1 hl
    have b := hu.2.2.2.2 (pl % 10) l hp.2 hl
    have c := hu.2.1
    show mmB (tb i) (tb j) pl l / 10 < tb i 0 0 ∧ mmB (tb i) (tb j) pl l % 10 < tb j 0 0
    unfold mmB
    constructor <;> omega
  · refine ⟨?_, fun pl l (hp : pl / 1024 < tb i 0 0) hl => ?_, fun pl (hp : pl / 1024 < tb i 0 0) => by have := ht.2.1; omega⟩
    · show mwB (tb i) 0 0 / 1024 < _
      rw [(mwB_div (by decide)).1]; exact ht.1
    · show mmH (tb i) (tb j) pl l / 1024 < _
      unfold mmH
      rw [(mwB_div (and_lt hu.2.2.2.1)).1]
      exact ht.2.2.2.2 _ l hp hl
  · refine ⟨Nat.le_refl _, fun pl l _ _ => ?_, fun pl (hp : pl ≤ 1024) => by omega⟩
    show mmN (tb i) pl l ≤ 1024
    have h1 : mnS (tb i) pl l < 2 ^ 10 := and_lt ht.2.2.2.1
    unfold mmN
    split
    · omega
    · have := Nat.or_lt_two_pow (n := 10) h1 (show 1 < 2 ^ 10 by decide); omega
  · refine ⟨ht.2.2.1, fun pl l _ _ => ?_, fun pl (hp : pl < 1024) => by omega⟩
    show mmK (tb i) pl l < 1024
    have h1 := bAll_lt pl (fun r => tb i 1 (r * 3 + l)) (tb i 0 0)
    exact Nat.lt_of_lt_of_le h1 (Nat.pow_le_pow_right (n := 2) (by decide) ht.2.1)
/-- no more places than numbers -/
theorem pig : ∀ (N n : Nat) (f : Nat → Nat), (∀ i, i < n → f i < N) → (∀ i j, i < n → j < n → f i = f j → i = j) → n ≤ N
  | 0, n, f, h, _ => by
    cases n with
    | zero => exact Nat.le_refl _
    | succ n => exact absurd (h 0 (by omega)) (Nat.not_lt_zero _)
  | N + 1, n, f, h, inj => by
    by_cases hx : ∃ i, i < n ∧ f i = N
    · obtain ⟨i0, hi0, e0⟩ := hx
      have := pig N (n - 1) (fun j => if j < i0 then f j else f (j + 1)) (fun i hi => by
        split
        · have := h i (by omega); have : f i ≠ N := fun e => by have := inj i i0 (by omega) hi0 (by omega); omega
          omega
        · have := h (i + 1) (by omega); have : f (i + 1) ≠ N := fun e => by have := inj (i + 1) i0 (by omega) hi0 (by omega); omega
          omega) (fun i j hi hj e => by
        split at e <;> split at e
        · exact inj i j (by omega) (by omega) e
        · have := inj i (j + 1) (by omega) (by omega) e; omega
        · have := inj (i + 1) j (by omega) (by omega) e; omega
        · have := inj (i + 1) (j + 1) (by omega) (by omega) e; omega)
      omega
    · have := pig N n f (fun i hi => by
        have := h i hi
        have : f i ≠ N := fun e => hx ⟨i, hi, e⟩
        omega) inj
      omega
/-! the sorter's state -/
def tW (so : Nat → Nat → Nat) : Nat → Nat → List Nat
  | 0, _ => []
  | n + 1, t => if t = 0 then [] else so 5 t :: tW so n (so 6 t)
def SI (M : mM) (so : Nat → Nat → Nat) : Prop :=
  so 10 0 ≤ 10240 ∧
  (∀ i, i < so 10 0 → M.2.2.2 (so 1 i) ∧ so 0 (so 1 i) = i + 1) ∧
  (∀ q, q < 10240 → so 0 q ≠ 0 → so 0 q ≤ so 10 0 ∧ so 1 (so 0 q - 1) = q) ∧
  (∀ i l, i < so 10 0 → l < 3 → so 2 (i * 3 + l) ≠ 0 → so 2 (i * 3 + l) ≤ so 10 0 ∧ so 1 (so 2 (i * 3 + l) - 1) = M.2.1 (so 1 i) l) ∧
  (1 ≤ so 10 1 ∧ so 10 1 ≤ 10 ∧ ∀ t, 1 ≤ t → t < so 10 1 → so 5 t < 3 ∧ so 6 t < t) ∧
  (∀ i, i < so 10 0 → so 4 i ≤ so 10 1 ∧ so 3 i < 2 ^ so 10 1 ∧ ∀ t, t < so 10 1 → ((so 3 i).testBit t = true → macc M (so 1 i) (tW so t t) = true) ∧ (t < so 4 i → macc M (so 1 i) (tW so t t) = true → (so 3 i).testBit t = true)) ∧
  ∀ i, i < so 10 0 → ∃ w, lts w ∧ mrun M M.1 w = so 1 i
/-- what stays while places are met -/
def sE (so so' : Nat → Nat → Nat) : Prop :=
  (∀ k, 5 ≤ k → k ≤ 9 → so' k = so k) ∧ so' 10 1 = so 10 1 ∧ so' 10 2 = so 10 2 ∧ so' 10 3 = so 10 3 ∧ so 10 0 ≤ so' 10 0 ∧ ∀ i, i < so 10 0 → so' 1 i = so 1 i ∧ so 4 i ≤ so' 4 i ∧ (∀ t, (so 3 i).testBit t = true → (so' 3 i).testBit t = true) ∧ ∀ l, l < 3 → so 2 (i * 3 + l) ≠ 0 → so' 2 (i * 3 + l) ≠ 0
theorem sE.rf {so : Nat → Nat → Nat} : sE so so := ⟨fun _ _ _ => rfl, rfl, rfl, rfl, Nat.le_refl _, fun _ _ => ⟨rfl, Nat.le_refl _, fun _ z => z, fun _ _ z => z⟩⟩
theorem sE.tr {a b c : Nat → Nat → Nat} (h : sE a b) (g : sE b c) : sE a c := by
  obtain ⟨h1, h2, h3, h4, h5, h6⟩ := h
  obtain ⟨g1, g2, g3, g4, g5, g6⟩ := g
  refine ⟨fun k x y => (g1 k x y).trans (h1 k x y), g2.trans h2, g3.trans h3, g4.trans h4, Nat.le_trans h5 g5, fun i hi => ?_⟩
  have x := h6 i hi
  have y := g6 i (Nat.lt_of_lt_of_le hi h5)
  exact ⟨y.1.trans x.1, Nat.le_trans x.2.1 y.2.1, fun t z => y.2.2.1 t (x.2.2.1 t z), fun l hl z => y.2.2.2 l hl (x.2.2.2 l hl z)⟩
theorem tW_eq {so so' : Nat → Nat → Nat} (h5 : so' 5 = so 5) (h6 : so' 6 = so 6) : ∀ n t, tW so' n t = tW so n t
  | 0, _ => rfl
  | n + 1, t => by rw [tW, tW, h5, h6, tW_eq h5 h6 n]
/-- what meeting a new place writes -/
def mtR (so : Nat → Nat → Nat) (pl : Nat) (so' : Nat → Nat → Nat) : Prop :=
  so' 0 = us (so 0) pl (so 10 0 + 1) ∧ so' 1 = us (so 1) (so 10 0) pl ∧ (∀ j, so' 2 j = if so 10 0 * 3 ≤ j ∧ j < so 10 0 * 3 + 3 then 0 else so 2 j) ∧ so' 3 = us (so 3) (so 10 0) 0 ∧ so' 4 = us (so 4) (so 10 0) 0 ∧ so' 10 = us (so 10) 0 (so 10 0 + 1) ∧ ∀ k, 5 ≤ k → k ≤ 9 → so' k = so k
theorem SI.room {M : mM} {so : Nat → Nat → Nat} {pl : Nat} (hb : ∀ q, M.2.2.2 q → q < 10240) (h : SI M so) (hp : pl < 10240) (h0 : so 0 pl = 0) : so 10 0 < 10240 := by
  have := pig 10240 (so 10 0 + 1) (fun i => if i < so 10 0 then so 1 i else pl) (fun i hi => by
    split
    · exact hb _ (h.2.1 i (by omega)).1
    · exact hp) (fun i j hi hj e => by
    split at e <;> split at e
    · rename_i a b
      have x := (h.2.1 i a).2
      have y := (h.2.1 j b).2
      rw [e] at x; omega
    · rename_i a b
      have x := (h.2.1 i a).2
      rw [e] at x; omega
    · rename_i a b
      have x := (h.2.1 j b).2
      rw [← e] at x; omega
    · omega)
  omega
theorem SI.meet {M : mM} {so so' : Nat → Nat → Nat} {pl : Nat} (hb : ∀ q, M.2.2.2 q → q < 10240) (h : SI M so) (hv : M.2.2.2 pl) (h0 : so 0 pl = 0) (hw : ∃ w, lts w ∧ mrun M M.1 w = pl) (r : mtR so pl so') : SI M so' ∧ sE so so' := by
  have hr := h.room hb (hb _ hv) h0
  obtain ⟨a1, a2, a3, a4, a5, a6, a7⟩ := h
  obtain ⟨r0, r1, r2, r3, r4, r10, rk⟩ := r
  have e0 : so' 10 0 = so 10 0 + 1 := by rw [r10, us_s]
  have e1 : so' 10 1 = so 10 1 := by rw [r10, us_n _ _ (by decide)]
  have tw : ∀ n t, tW so' n t = tW so n t := tW_eq (rk 5 (by decide) (by decide)) (rk 6 (by decide) (by decide))
  have p1 : ∀ i, i < so 10 0 → so' 1 i = so 1 i := fun i hi => by rw [r1, us_n _ _ (by omega)]
  have pn : so' 1 (so 10 0) = pl := by rw [r1, us_s]
  have ne : ∀ i, i < so 10 0 → so 1 i ≠ pl := fun i hi e => by have := (a2 i hi).2; rw [e] at this; omega
  refine ⟨⟨by omega, fun i hi => ?_, fun q hq hz => ?_, fun i l hi hl hz => ?_, ?_, fun i hi => ?_, fun i hi => ?_⟩, rk, e1, by rw [r10, us_n _ _ (by decide)], by rw [r10, us_n _ _ (by decide)], by omega, fun i hi => ⟨p1 i hi, by rw [r4, us_n _ _ (by omega)]; exact Nat.le_refl _, fun t z => by rw [r3, us_n _ _ (by omega)]; exact z, fun l hl z => by rw [r2, if_neg (by omega)]; exact z⟩⟩
  · by_cases hi2 : i < so 10 0
    · rw [p1 i hi2, r0, us_n _ _ (ne i hi2)]; exact a2 i hi2
    · have : i = so 10 0 := by omega
      subst this
      rw [pn, r0, us_s]; exact ⟨hv, rfl⟩
  · by_cases hqp : q = pl
    · subst hqp
      rw [r0, us_s, e0]
      exact ⟨Nat.le_refl _, by rw [Nat.add_sub_cancel]; exact pn⟩
    · rw [r0, us_n _ _ hqp] at hz ⊢
      obtain ⟨x, y⟩ := a3 q hq hz
      exact ⟨by omega, by rw [p1 _ (by omega)]; exact y⟩
  · by_cases hi2 : i < so 10 0
    · rw [r2, if_neg (by omega)] at hz ⊢
      obtain ⟨x, y⟩ := a4 i l hi2 hl hz
      exact ⟨by omega, by rw [p1 _ (by omega), p1 i hi2]; exact y⟩
    · rw [r2, if_pos (by omega)] at hz
      exact absurd rfl hz
  · rw [e1, rk 5 (by decide) (by decide), rk 6 (by decide) (by decide)]; exact a5
  · rw [e1]
    by_cases hi2 : i < so 10 0
    · rw [p1 i hi2, r3, r4, us_n _ _ (by omega), us_n _ _ (by omega)]
      obtain ⟨x, y, z⟩ := a6 i hi2
      exact ⟨x, y, fun t ht => by rw [tw]; exact z t ht⟩
    · have : i = so 10 0 := by omega
      subst this
      rw [r3, r4, us_s, us_s]
      exact ⟨Nat.zero_le _, Nat.two_pow_pos _, fun t _ => ⟨fun z => (by rw [Nat.zero_testBit] at z; cases z), fun z => absurd z (Nat.not_lt_zero _)⟩⟩
  · by_cases hi2 : i < so 10 0
    · rw [p1 i hi2]; exact a7 i hi2
    · have : i = so 10 0 := by omega
      subst this
      rw [pn]; exact hw
theorem SI.follow {M : mM} {so so' : Nat → Nat → Nat} {i l j : Nat} (h : SI M so) (hi : i < so 10 0) (hl : l < 3) (hj : j < so 10 0) (e : so 1 j = M.2.1 (so 1 i) l) (r : so' = us so 2 (us (so 2) (i * 3 + l) (j + 1))) : SI M so' ∧ sE so so' := by
  obtain ⟨a1, a2, a3, a4, a5, a6, a7⟩ := h
  have k : ∀ n, n ≠ 2 → so' n = so n := fun n hn => by rw [r, us_n _ _ hn]
  have tw : ∀ n t, tW so' n t = tW so n t := tW_eq (k 5 (by decide)) (k 6 (by decide))
  refine ⟨⟨by rw [k 10 (by decide)]; exact a1, ?_, ?_, fun i2 l2 hi2 hl2 hz => ?_, ?_, ?_, ?_⟩, fun n h5 h9 => k n (by omega), by rw [k 10 (by decide)], by rw [k 10 (by decide)], by rw [k 10 (by decide)], by rw [k 10 (by decide)]; exact Nat.le_refl _, fun n _ => ⟨by rw [k 1 (by decide)], by rw [k 4 (by decide)]; exact Nat.le_refl _, fun t z => by rw [k 3 (by decide)]; exact z, fun l2 hl2 z => by
    rw [r, us_s]
    by_cases q : n * 3 + l2 = i * 3 + l
    · rw [q, us_s]; exact Nat.succ_ne_zero _
    · rw [us_n _ _ q]; exact z⟩⟩
  · rw [k 10 (by decide), k 1 (by decide), k 0 (by decide)]; exact a2
  · rw [k 10 (by decide), k 1 (by decide), k 0 (by decide)]; exact a3
  · rw [k 10 (by decide)] at hi2
    rw [k 10 (by decide), k 1 (by decide)]
    rw [r, us_s] at hz ⊢
    by_cases q : i2 * 3 + l2 = i * 3 + l
    · have q1 : i2 = i := by omega
      have q2 : l2 = l := by omega
      subst q1; subst q2
      rw [us_s, Nat.add_sub_cancel]
      exact ⟨by omega, e⟩
    · rw [us_n _ _ q] at hz ⊢
      exact a4 i2 l2 hi2 hl2 hz
  · rw [k 10 (by decide), k 5 (by decide), k 6 (by decide)]; exact a5
  · rw [k 10 (by decide), k 3 (by decide), k 4 (by decide), k 1 (by decide)]
    intro i2 hi2
    obtain ⟨x, y, z⟩ := a6 i2 hi2
    exact ⟨x, y, fun t ht => by rw [tw]; exact z t ht⟩
  · rw [k 10 (by decide), k 1 (by decide)]; exact a7
/-- one more right bit -/
theorem SI.bit {M : mM} {so so' : Nat → Nat → Nat} {i t : Nat} (h : SI M so) (hi : i < so 10 0) (ht : t < so 10 1) (hb : macc M (so 1 i) (tW so t t) = true) (r : so' = us so 3 (us (so 3) i (so 3 i ||| 2 ^ t))) : SI M so' ∧ sE so so' := by
  obtain ⟨a1, a2, a3, a4, a5, a6, a7⟩ := h
  have k : ∀ n, n ≠ 3 → so' n = so n := fun n hn => by rw [r, us_n _ _ hn]
  have tw : ∀ n t, tW so' n t = tW so n t := tW_eq (k 5 (by decide)) (k 6 (by decide))
  refine ⟨⟨by rw [k 10 (by decide)]; exact a1, ?_, ?_, ?_, ?_, fun i2 hi2 => ?_, ?_⟩, fun n h5 h9 => k n (by omega), by rw [k 10 (by decide)], by rw [k 10 (by decide)], by rw [k 10 (by decide)], by rw [k 10 (by decide)]; exact Nat.le_refl _, fun n _ => ⟨by rw [k 1 (by decide)], by rw [k 4 (by decide)]; exact Nat.le_refl _, fun t2 z => by
    rw [r, us_s]
    by_cases q : n = i
    · subst q; rw [us_s, Nat.testBit_or, z, Bool.true_or]
    · rw [us_n _ _ q]; exact z, fun l hl z => by rw [k 2 (by decide)]; exact z⟩⟩
  · rw [k 10 (by decide), k 1 (by decide), k 0 (by decide)]; exact a2
  · rw [k 10 (by decide), k 1 (by decide), k 0 (by decide)]; exact a3
  · rw [k 10 (by decide), k 1 (by decide), k 2 (by decide)]; exact a4
  · rw [k 10 (by decide), k 5 (by decide), k 6 (by decide)]; exact a5
  · rw [k 10 (by decide)] at hi2
    rw [k 10 (by decide), k 4 (by decide), k 1 (by decide), r, us_s]
    obtain ⟨x, y, z⟩ := a6 i2 hi2
    by_cases q : i2 = i
    · subst q
      rw [us_s]
      refine ⟨x, Nat.or_lt_two_pow y (Nat.pow_lt_pow_right (by decide) ht), fun t2 ht2 => ?_⟩
      rw [← r, tw, Nat.testBit_or, Nat.testBit_two_pow, Bool.or_eq_true, decide_eq_true_eq]
      obtain ⟨z1, z2⟩ := z t2 ht2
      refine ⟨fun w => ?_, fun w1 w2 => Or.inl (z2 w1 w2)⟩
      rcases w with w | w
      · exact z1 w
      · subst w; exact hb
    · rw [us_n _ _ q]
      exact ⟨x, y, fun t2 ht2 => by rw [← r, tw]; exact z t2 ht2⟩
  · rw [k 10 (by decide), k 1 (by decide)]; exact a7
/-- all tests asked -/
theorem SI.all {M : mM} {so so' : Nat → Nat → Nat} {i : Nat} (h : SI M so) (hi : i < so 10 0) (hA : ∀ t, t < so 10 1 → macc M (so 1 i) (tW so t t) = true → (so 3 i).testBit t = true) (r : so' = us so 4 (us (so 4) i (so 10 1))) : SI M so' ∧ sE so so' := by
  obtain ⟨a1, a2, a3, a4, a5, a6, a7⟩ := h
  have k : ∀ n, n ≠ 4 → so' n = so n := fun n hn => by rw [r, us_n _ _ hn]
  have tw : ∀ n t, tW so' n t = tW so n t := tW_eq (k 5 (by decide)) (k 6 (by decide))
  refine ⟨⟨by rw [k 10 (by decide)]; exact a1, ?_, ?_, ?_, ?_, fun i2 hi2 => ?_, ?_⟩, fun n h5 h9 => k n (by omega), by rw [k 10 (by decide)], by rw [k 10 (by decide)], by rw [k 10 (by decide)], by rw [k 10 (by decide)]; exact Nat.le_refl _, fun n hn => ⟨by rw [k 1 (by decide)], ?_, fun t z => by rw [k 3 (by decide)]; exact z, fun l hl z => by rw [k 2 (by decide)]; exact z⟩⟩
  · rw [k 10 (by decide), k 1 (by decide), k 0 (by decide)]; exact a2
  · rw [k 10 (by decide), k 1 (by decide), k 0 (by decide)]; exact a3
  · rw [k 10 (by decide), k 1 (by decide), k 2 (by decide)]; exact a4
  · rw [k 10 (by decide), k 5 (by decide), k 6 (by decide)]; exact a5
  · rw [k 10 (by decide)] at hi2
    obtain ⟨x, y, z⟩ := a6 i2 hi2
    rw [k 10 (by decide), k 3 (by decide), k 1 (by decide), r, us_s]
    by_cases q : i2 = i
    · subst q
      rw [us_s]
      exact ⟨Nat.le_refl _, y, fun t ht => by rw [← r, tw]; exact ⟨(z t ht).1, fun _ => hA t ht⟩⟩
    · rw [us_n _ _ q]
      exact ⟨x, y, fun t ht => by rw [← r, tw]; exact z t ht⟩
  · rw [k 10 (by decide), k 1 (by decide)]; exact a7
  · rw [r, us_s]
    by_cases q : n = i
    · subst q; rw [us_s]; exact (a6 n hn).1
    · rw [us_n _ _ q]; exact Nat.le_refl _
theorem tW_0 (so : Nat → Nat → Nat) (n : Nat) : tW so n 0 = [] := by cases n <;> simp [tW]
/-- one letter of a test -/
theorem tW_st {M : mM} {so : Nat → Nat → Nat} {n t pl : Nat} (hn : t ≤ n) (ht : t ≠ 0) : macc M pl (tW so n t) = macc M (M.2.1 pl (so 5 t)) (tW so (n - 1) (so 6 t)) := by
  cases n with
  | zero => omega
  | succ n => rw [tW, if_neg ht, macc_cons, Nat.add_sub_cancel]
def akR (so : Nat → Nat → Nat) (i : Nat) (so' : Nat → Nat → Nat) : Prop := so' 7 = us (so 7) (so 10 2) i ∧ so' 10 = us (so 10) 2 (so 10 2 + 1) ∧ ∀ k, k ≠ 7 → k ≠ 10 → so' k = so k
def spR (so : Nat → Nat → Nat) (i l t : Nat) (so' : Nat → Nat → Nat) : Prop := so' 7 = us (so 7) (so 10 2) i ∧ so' 10 = us (us (so 10) 2 (so 10 2 + 1)) 1 (so 10 1 + 1) ∧ so' 5 = us (so 5) (so 10 1) l ∧ so' 6 = us (so 6) (so 10 1) t ∧ ∀ k, k ≠ 7 → k ≠ 10 → k ≠ 5 → k ≠ 6 → so' k = so k
/-! the lowest bit -/
theorem ntz_lem : ∀ x, x < 1024 → x ≠ 0 → ∃ t, t < 10 ∧ x.testBit t = true ∧ (nI x ^^^ mI 0) &&& (nI x - nI 1) = nI (2 ^ t - 1) := by decide +kernel
def sB (so : Nat → Nat → Nat) : Prop := so 10 0 ≤ 10240 ∧ (∀ i, i < so 10 0 → so 1 i < 10240) ∧ ∀ q, q < 10240 → so 0 q ≠ 0 → ∃ i, i < so 10 0 ∧ so 1 i = q
theorem SI.sB {M : mM} {so : Nat → Nat → Nat} (hb : ∀ q, M.2.2.2 q → q < 10240) (h : SI M so) : sB so := by
  refine ⟨h.1, fun i hi => hb _ (h.2.1 i hi).1, fun q hq hz => ?_⟩
  obtain ⟨a, b⟩ := h.2.2.1 q hq hz
  exact ⟨so 0 q - 1, by omega, b⟩
theorem SI.zero {M : mM} {so : Nat → Nat → Nat} (h0 : so 10 0 = 0) (h1 : so 10 1 = 1) (hz : ∀ q, q < 10240 → so 0 q = 0) : SI M so := by
  refine ⟨by omega, fun i hi => by omega, fun q hq hn => absurd (hz q hq) hn, fun i l hi => by omega, ⟨by omega, by omega, fun t a b => by omega⟩, fun i hi => by omega, fun i hi => by omega⟩
/-- met places that lead to met places alone, none of which accepts -/
theorem none_met {M : mM} {so : Nat → Nat → Nat} (hA : ∀ i, i < so 10 0 → M.2.2.1 (so 1 i) = false ∧ ∀ l, l < 3 → ∃ j, j < so 10 0 ∧ so 1 j = M.2.1 (so 1 i) l) : ∀ (w : List Nat) (i : Nat), i < so 10 0 → lts w → macc M (so 1 i) w = false
  | [], i, hi, _ => (hA i hi).1
  | l :: w, i, hi, hw => by
    obtain ⟨j, hj, e⟩ := (hA i hi).2 l (lts_tl hw).1
    rw [macc_cons, ← e]
    exact none_met hA w j hj (lts_tl hw).2
