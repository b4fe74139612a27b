/-! writing a table -/
/-- behind letter l the kind k goes on as kind k2 -/
def KS (M : mM) (so : Nat → Nat → Nat) (k l k2 : Nat) : Prop := k2 < so 10 2 ∧ ∀ t, t < so 10 1 → macc M (M.2.1 (so 1 (so 7 k)) l) (tW so t t) = macc M (so 1 (so 7 k2)) (tW so t t)
def WI (M : mM) (so z : Nat → Nat → Nat) (nx : Nat → Nat) (E m p b : Nat) : Prop :=
  (∀ k, k ≠ 8 → k ≠ 9 → z k = so k) ∧
  (1 ≤ m ∧ m ≤ so 10 2 ∧ z 9 0 = 0) ∧
  (∀ j, j < m → z 9 j < so 10 2 ∧ z 8 (z 9 j) = j) ∧
  (∀ k, k < so 10 2 → z 8 k = so 10 2 ∨ (z 8 k < m ∧ z 9 (z 8 k) = k)) ∧
  (∀ i, i < p → nx i < m ∧ KS M so (z 9 (i / 3)) (i % 3) (z 9 (nx i))) ∧
  (∀ v, 1 ≤ v → v < m → ∃ i, i < p ∧ nx i = v) ∧
  (∀ i v, i < p → v < nx i → v = 0 ∨ ∃ j, j < i ∧ nx j = v) ∧
  (∀ j, 1 ≤ j → j < b → ∃ i, i < 3 * j ∧ nx i = j) ∧
  (E < 2 ^ b ∧ ∀ r, r < b → E.testBit r = M.2.2.1 (so 1 (so 7 (z 9 r))))
theorem WI.init {M : mM} {so z : Nat → Nat → Nat} {nx : Nat → Nat} (h1 : 1 ≤ so 10 2) (hz : ∀ k, k ≠ 8 → k ≠ 9 → z k = so k) (h9 : z 9 0 = 0) (h80 : z 8 0 = 0) (h8 : ∀ k, 1 ≤ k → k < so 10 2 → z 8 k = so 10 2) : WI M so z nx 0 1 0 0 := by
  refine ⟨hz, ⟨by omega, h1, h9⟩, fun j hj => ?_, fun k hk => ?_, fun i hi => absurd hi (Nat.not_lt_zero _), fun v a b => by omega, fun i v hi => absurd hi (Nat.not_lt_zero _), fun j a b => by omega, by decide, fun r hr => absurd hr (Nat.not_lt_zero _)⟩
  · rw [show j = 0 by omega, h9, h80]; exact ⟨by omega, rfl⟩
  · by_cases hk0 : k = 0
    · right; rw [hk0, h80, h9]; exact ⟨by omega, rfl⟩
    · left; exact h8 k (by omega) hk
theorem WI.row {M : mM} {so z : Nat → Nat → Nat} {nx : Nat → Nat} {E m r v : Nat} (h : WI M so z nx E m (3 * r) r) (hr : r < m) (hv : v = (M.2.2.1 (so 1 (so 7 (z 9 r)))).toNat) : WI M so z nx (E ||| v * 2 ^ r) m (3 * r + 0) (r + 1) := by
  obtain ⟨a1, a2, a3, a4, a5, a6, a7, a8, a9, a10⟩ := h
  have hv2 : v * 2 ^ r < 2 ^ (r + 1) := by
    rw [hv, Nat.pow_succ]
    cases M.2.2.1 (so 1 (so 7 (z 9 r))) <;> simp <;> have := Nat.two_pow_pos r <;> omega
  refine ⟨a1, a2, a3, a4, a5, a6, a7, fun j j1 j2 => ?_, Nat.or_lt_two_pow (Nat.lt_of_lt_of_le a9 (Nat.pow_le_pow_right (by decide) (by omega))) hv2, fun q hq => ?_⟩
  · by_cases e : j = r
    · subst e; exact a6 j j1 hr
    · exact a8 j j1 (by omega)
  · rw [Nat.testBit_or]
    by_cases e : q = r
    · subst e
      rw [Nat.testBit_lt_two_pow a9, hv, Bool.false_or]
      cases M.2.2.1 (so 1 (so 7 (z 9 q)))
      · simp
      · simp [Nat.testBit_two_pow]
    · rw [a10 q (by omega), hv]
      cases M.2.2.1 (so 1 (so 7 (z 9 r)))
      · simp
      · simp [Nat.testBit_two_pow]; omega
theorem KS.z9 {M : mM} {so : Nat → Nat → Nat} {a b l k : Nat} (e : a = b) (h : KS M so a l k) : KS M so b l k := e ▸ h
/-- a kind that has its number -/
theorem WI.old {M : mM} {so z : Nat → Nat → Nat} {nx nx2 : Nat → Nat} {E m r q k : Nat} (h : WI M so z nx E m (3 * r + q) (r + 1)) (hq : q < 3) (hK : KS M so (z 9 r) q k) (h8 : z 8 k ≠ so 10 2) (hn : nx2 = us nx (r * 3 + q) (z 8 k)) : WI M so z nx2 E m (3 * r + (q + 1)) (r + 1) := by
  obtain ⟨a1, a2, a3, a4, a5, a6, a7, a8, a9⟩ := h
  obtain ⟨b1, b2⟩ := (a4 k hK.1).resolve_left h8
  have low : ∀ i, i < 3 * r + q → nx2 i = nx i := fun i hi => by rw [hn, us_n _ _ (by omega)]
  have at_ : nx2 (3 * r + q) = z 8 k := by rw [hn, show 3 * r + q = r * 3 + q by omega, us_s]
  refine ⟨a1, a2, a3, a4, fun i hi => ?_, fun v v1 v2 => ?_, fun i v hi hv => ?_, fun j j1 j2 => ?_, a9⟩
  · by_cases e : i = 3 * r + q
    · subst e
      rw [at_, b2, show (3 * r + q) / 3 = r by omega, show (3 * r + q) % 3 = q by omega]
      exact ⟨b1, hK⟩
    · rw [low i (by omega)]; exact a5 i (by omega)
  · obtain ⟨i, i1, i2⟩ := a6 v v1 v2
    exact ⟨i, by omega, by rw [low i i1]; exact i2⟩
  · by_cases e : i = 3 * r + q
    · subst e
      rw [at_] at hv
      by_cases hv0 : v = 0
      · exact Or.inl hv0
      · obtain ⟨j, j1, j2⟩ := a6 v (by omega) (by omega)
        exact Or.inr ⟨j, j1, by rw [low j j1]; exact j2⟩
    · rw [low i (by omega)] at hv
      rcases a7 i v (by omega) hv with z | ⟨j, j1, j2⟩
      · exact Or.inl z
      · exact Or.inr ⟨j, j1, by rw [low j (by omega)]; exact j2⟩
  · obtain ⟨i, i1, i2⟩ := a8 j j1 j2
    exact ⟨i, i1, by rw [low i (by omega)]; exact i2⟩
theorem WI.lt {M : mM} {so z : Nat → Nat → Nat} {nx : Nat → Nat} {E m p b k : Nat} (h : WI M so z nx E m p b) (hk : k < so 10 2) (h8 : z 8 k = so 10 2) : m < so 10 2 := by
  obtain ⟨a1, a2, a3, a4, -⟩ := h
  have := pig (so 10 2) (m + 1) (fun j => if j < m then z 9 j else k) (fun i hi => by
    split
    · rename_i c; exact (a3 i c).1
    · exact hk) (fun i j hi hj e => by
    split at e <;> split at e
    · rename_i c d
      have x := (a3 i c).2; have y := (a3 j d).2
      rw [e] at x; omega
    · rename_i c d
      have x := (a3 i c).2
      rw [e] at x; omega
    · rename_i c d
      have x := (a3 j d).2
      rw [← e] at x; omega
    · omega)
  omega
/-- a kind that gets the next number -/
theorem WI.new {M : mM} {so z z2 : Nat → Nat → Nat} {nx nx2 : Nat → Nat} {E m r q k : Nat} (h : WI M so z nx E m (3 * r + q) (r + 1)) (hr : r < m) (hq : q < 3) (hK : KS M so (z 9 r) q k) (h8 : z 8 k = so 10 2) (hz8 : z2 8 = us (z 8) k m) (hz9 : z2 9 = us (z 9) m k) (hzk : ∀ n, n ≠ 8 → n ≠ 9 → z2 n = z n) (hn : nx2 = us nx (r * 3 + q) m) : WI M so z2 nx2 E (m + 1) (3 * r + (q + 1)) (r + 1) := by
  have hlt := h.lt hK.1 h8
  obtain ⟨a1, a2, a3, a4, a5, a6, a7, a8, a9, a10⟩ := h
  have low : ∀ i, i < 3 * r + q → nx2 i = nx i := fun i hi => by rw [hn, us_n _ _ (by omega)]
  have at_ : nx2 (3 * r + q) = m := by rw [hn, show 3 * r + q = r * 3 + q by omega, us_s]
  have z9l : ∀ j, j < m → z2 9 j = z 9 j := fun j hj => by rw [hz9, us_n _ _ (by omega)]
  have z9m : z2 9 m = k := by rw [hz9, us_s]
  refine ⟨fun n n8 n9 => (hzk n n8 n9).trans (a1 n n8 n9), ⟨by omega, by omega, by rw [z9l 0 (by omega)]; exact a2.2.2⟩, fun j hj => ?_, fun k2 hk2 => ?_, fun i hi => ?_, fun v v1 v2 => ?_, fun i v hi hv => ?_, fun j j1 j2 => ?_, a9, fun r2 hr2 => ?_⟩
  · by_cases e : j = m
    · subst e; rw [z9m, hz8, us_s]; exact ⟨hK.1, rfl⟩
    · obtain ⟨x, y⟩ := a3 j (by omega)
      rw [z9l j (by omega), hz8, us_n _ _ (fun e2 => by rw [e2] at y; omega)]
      exact ⟨x, y⟩
  · rw [hz8]
    by_cases e : k2 = k
    · subst e; right; rw [us_s, z9m]; exact ⟨by omega, rfl⟩
    · rw [us_n _ _ e]
      rcases a4 k2 hk2 with x | ⟨x, y⟩
      · exact Or.inl x
      · right; rw [z9l _ x]; exact ⟨by omega, y⟩
  · by_cases e : i = 3 * r + q
    · subst e
      rw [at_, z9m, show (3 * r + q) / 3 = r by omega, show (3 * r + q) % 3 = q by omega, z9l r hr]
      exact ⟨by omega, hK⟩
    · obtain ⟨x, y⟩ := a5 i (by omega)
      rw [low i (by omega), z9l _ x, z9l (i / 3) (by omega)]
      exact ⟨by omega, y⟩
  · by_cases e : v = m
    · subst e; exact ⟨3 * r + q, by omega, at_⟩
    · obtain ⟨i, i1, i2⟩ := a6 v v1 (by omega)
      exact ⟨i, by omega, by rw [low i i1]; exact i2⟩
  · by_cases e : i = 3 * r + q
    · subst e
      rw [at_] at hv
      by_cases hv0 : v = 0
      · exact Or.inl hv0
      · obtain ⟨j, j1, j2⟩ := a6 v (by omega) hv
        exact Or.inr ⟨j, j1, by rw [low j j1]; exact j2⟩
    · rw [low i (by omega)] at hv
      rcases a7 i v (by omega) hv with z | ⟨j, j1, j2⟩
      · exact Or.inl z
      · exact Or.inr ⟨j, j1, by rw [low j (by omega)]; exact j2⟩
  · obtain ⟨i, i1, i2⟩ := a8 j j1 j2
    exact ⟨i, i1, by rw [low i (by omega)]; exact i2⟩
  · rw [z9l r2 (by omega)]; exact a10 r2 hr2
/-- a place's kind by its answers -/
theorem SD.kind {M : mM} {so : Nat → Nat → Nat} (hS : SI M so) (hK : KI M so) (hD : SD M so (so 10 0)) {i : Nat} (hi : i < so 10 0) : ∃ k, k < so 10 2 ∧ AG M so i k 3 ∧ so 3 i = so 3 (so 7 k) := by
  obtain ⟨a, k, b, c⟩ := hD i hi
  refine ⟨k, b, c, ?_⟩
  have hk := hK.2.1 k b
  apply Classical.byContradiction
  intro e
  obtain ⟨t, t1, t2⟩ := bits_ne (hS.2.2.2.2.2.1 i hi).2.1 (hS.2.2.2.2.2.1 _ hk).2.1 e
  rw [ask_bit hS hi a t1, ask_bit hS hk (hD _ hk).1 t1, c.1 t t1] at t2
  exact t2 rfl
/-- the place behind a met place's letter -/
theorem SD.next {M : mM} {so : Nat → Nat → Nat} (hS : SI M so) (hD : SD M so (so 10 0)) {i l : Nat} (hi : i < so 10 0) (hl : l < 3) : so 2 (i * 3 + l) ≠ 0 ∧ so 2 (i * 3 + l) - 1 < so 10 0 ∧ so 1 (so 2 (i * 3 + l) - 1) = M.2.1 (so 1 i) l := by
  obtain ⟨a, k, b, c⟩ := hD i hi
  have h0 := (c.2 l hl).1
  obtain ⟨x, y⟩ := hS.2.2.2.1 i l hi hl h0
  exact ⟨h0, by omega, y⟩
/-- two places that answer all tests alike go on alike -/
theorem SD.same {M : mM} {so : Nat → Nat → Nat} (hS : SI M so) (hK : KI M so) (hD : SD M so (so 10 0)) : ∀ (w : List Nat) (i j : Nat), lts w → i < so 10 0 → j < so 10 0 → (∀ t, t < so 10 1 → macc M (so 1 i) (tW so t t) = macc M (so 1 j) (tW so t t)) → macc M (so 1 i) w = macc M (so 1 j) w
  | [], i, j, _, hi, hj, h => by
    have := h 0 hS.2.2.2.2.1.1
    rw [tW_0] at this
    exact this
  | l :: w, i, j, hw, hi, hj, h => by
    have hl := (lts_tl hw).1
    obtain ⟨-, x1, x2⟩ := hD.next hS hi hl
    obtain ⟨-, y1, y2⟩ := hD.next hS hj hl
    rw [macc_cons, macc_cons, ← x2, ← y2]
    refine SD.same hS hK hD w _ _ (lts_tl hw).2 x1 y1 (fun t ht => ?_)
    obtain ⟨ki, ki1, ki2, -⟩ := SD.kind hS hK hD hi
    obtain ⟨kj, kj1, kj2, -⟩ := SD.kind hS hK hD hj
    have ek : ki = kj := by
      apply Classical.byContradiction
      intro ne
      have key : ∀ a b, a < b → b < so 10 2 → (∀ t, t < so 10 1 → macc M (so 1 (so 7 a)) (tW so t t) = macc M (so 1 (so 7 b)) (tW so t t)) → False := fun a b ab hb hh => by
        obtain ⟨t, t1, t2⟩ := hK.2.2.2.2 a b ab hb
        exact t2 (hh t t1)
      rcases Nat.lt_or_gt_of_ne ne with a | a
      · exact key ki kj a kj1 (fun t ht => by rw [← ki2.1 t ht, ← kj2.1 t ht]; exact h t ht)
      · exact key kj ki a ki1 (fun t ht => by rw [← ki2.1 t ht, ← kj2.1 t ht]; exact (h t ht).symm)
    subst ek
    rw [x2, y2, (ki2.2 l hl).2 t ht, (kj2.2 l hl).2 t ht]
/-- a table as a machine -/
def tM (t : Nat → Nat → Nat) : mM := (0, mmR t, (fun r => (t 0 1).testBit r), fun r => r < t 0 0)
def tMin (t : Nat → Nat → Nat) : Prop := ∀ a b, a < b → b < t 0 0 → ∃ w, lts w ∧ macc (tM t) a w ≠ macc (tM t) b w
def tCan (t : Nat → Nat → Nat) : Prop := (∀ i v, i < 3 * t 0 0 → v < t 1 i → v = 0 ∨ ∃ j, j < i ∧ t 1 j = v) ∧ (∀ j, 1 ≤ j → j < t 0 0 → ∃ i, i < 3 * j ∧ t 1 i = j) ∧ t 0 1 < 2 ^ t 0 0
theorem WI.done {M : mM} {so z : Nat → Nat → Nat} {nx : Nat → Nat} {E m r : Nat} (hS : SI M so) (hK : KI M so) (hD : SD M so (so 10 0)) (h1 : 1 ≤ so 10 2) (h0 : so 1 0 = M.1) (h00 : 1 ≤ so 10 0) (h : WI M so z nx E m (3 * r) r) (hrm : r ≤ m) (hr : m ≤ r ∨ so 10 2 ≤ r) : m = so 10 2 ∧ r = so 10 2 := by
  obtain ⟨a1, a2, a3, a4, a5, -⟩ := h
  rcases hr with hr | hr
  · have er : r = m := by omega
    subst er
    have e70 : so 7 0 = 0 := hK.2.2.1 (by omega)
    have reach : ∀ (w : List Nat) (i : Nat), lts w → i < so 10 0 → (∃ j, j < r ∧ ∀ t, t < so 10 1 → macc M (so 1 i) (tW so t t) = macc M (so 1 (so 7 (z 9 j))) (tW so t t)) → ∀ i2, i2 < so 10 0 → so 1 i2 = mrun M (so 1 i) w → ∃ j, j < r ∧ ∀ t, t < so 10 1 → macc M (so 1 i2) (tW so t t) = macc M (so 1 (so 7 (z 9 j))) (tW so t t) := by
      intro w
      induction w with
      | nil => intro i _ hi hj i2 hi2 e; rw [e]; exact hj
      | cons l w ih =>
        intro i hw hi hj i2 hi2 e
        have hl := (lts_tl hw).1
        obtain ⟨-, x1, x2⟩ := hD.next hS hi hl
        refine ih _ (lts_tl hw).2 x1 ?_ i2 hi2 (by rw [x2]; exact e)
        obtain ⟨j, j1, j2⟩ := hj
        have hkj := hK.2.1 _ (a3 j j1).1
        obtain ⟨y1, y2⟩ := a5 (3 * j + l) (by omega)
        rw [show (3 * j + l) / 3 = j by omega, show (3 * j + l) % 3 = l by omega] at y2
        refine ⟨nx (3 * j + l), y1, fun t ht => ?_⟩
        rw [← y2.2 t ht, x2]
        have := hD.same hS hK (l :: tW so t t) i (so 7 (z 9 j)) (lts_cons hl (tW_lts hS t t ht)) hi hkj j2
        rw [macc_cons, macc_cons] at this
        exact this
    have all : ∀ k, k < so 10 2 → z 8 k < r ∧ z 9 (z 8 k) = k := by
      intro k hk
      refine (a4 k hk).resolve_left (fun e => ?_)
      have hkm := hK.2.1 k hk
      obtain ⟨w, w1, w2⟩ := hS.2.2.2.2.2.2 (so 7 k) hkm
      obtain ⟨j, j1, j2⟩ := reach w 0 w1 (by omega) ⟨0, by omega, fun t _ => by rw [a2.2.2, e70]⟩ (so 7 k) hkm (by rw [h0]; exact w2.symm)
      have hj := (a3 j j1)
      have : k = z 9 j := by
        apply Classical.byContradiction
        intro ne
        rcases Nat.lt_or_gt_of_ne ne with a | a
        · obtain ⟨t, t1, t2⟩ := hK.2.2.2.2 k (z 9 j) a hj.1
          exact t2 (j2 t t1)
        · obtain ⟨t, t1, t2⟩ := hK.2.2.2.2 (z 9 j) k a hk
          exact t2 (j2 t t1).symm
      rw [this, hj.2] at e
      omega
    have := pig r (so 10 2) (fun k => z 8 k) (fun k hk => (all k hk).1) (fun i j hi hj e => by
      have x := (all i hi).2; have y := (all j hj).2
      have e2 : z 8 i = z 8 j := e
      rw [e2] at x; omega)
    omega
  · omega
theorem WI.lang {M : mM} {so z : Nat → Nat → Nat} {t : Nat → Nat → Nat} {r : Nat} (hS : SI M so) (hK : KI M so) (hD : SD M so (so 10 0)) (h : WI M so z (t 1) (t 0 1) r (3 * r) r) (hr : r = so 10 2) (ht : t 0 0 = so 10 2) : (∀ (w : List Nat) (a : Nat), lts w → a < t 0 0 → macc (tM t) a w = macc M (so 1 (so 7 (z 9 a))) w) ∧ tMin t ∧ tCan t ∧ ∀ a l, a < t 0 0 → l < 3 → t 1 (a * 3 + l) < t 0 0 := by
  obtain ⟨a1, a2, a3, a4, a5, a6, a7, a8, a9, a10⟩ := h
  have lang : ∀ (w : List Nat) (a : Nat), lts w → a < t 0 0 → macc (tM t) a w = macc M (so 1 (so 7 (z 9 a))) w := by
    intro w
    induction w with
    | nil => intro a _ ha; exact a10 a (by omega)
    | cons l w ih =>
      intro a hw ha
      have hl := (lts_tl hw).1
      obtain ⟨y1, y2⟩ := a5 (a * 3 + l) (by omega)
      rw [show (a * 3 + l) / 3 = a by omega, show (a * 3 + l) % 3 = l by omega] at y2
      rw [macc_cons, macc_cons]
      show macc (tM t) (t 1 (a * 3 + l)) w = _
      rw [ih _ (lts_tl hw).2 (by omega)]
      have hka := hK.2.1 _ (a3 a (by omega)).1
      have hkb := hK.2.1 _ (a3 _ y1).1
      obtain ⟨-, x1, x2⟩ := hD.next hS hka hl
      rw [← x2]
      exact hD.same hS hK w _ _ (lts_tl hw).2 hkb x1 (fun q hq => by rw [x2]; exact (y2.2 q hq).symm)
  refine ⟨lang, fun a b ab hb => ?_, ⟨fun i v hi hv => a7 i v (by omega) hv, fun j j1 j2 => a8 j j1 (by omega), by rw [ht, ← hr]; exact a9⟩, fun a l ha hl => by have := (a5 (a * 3 + l) (by omega)).1; omega⟩
  have ha3 := a3 a (by omega)
  have hb3 := a3 b (by omega)
  have ne : z 9 a ≠ z 9 b := fun e => by have x := ha3.2; rw [e, hb3.2] at x; omega
  have : ∃ w, lts w ∧ macc M (so 1 (so 7 (z 9 a))) w ≠ macc M (so 1 (so 7 (z 9 b))) w := by
    rcases Nat.lt_or_gt_of_ne ne with c | c
    · obtain ⟨q, q1, q2⟩ := hK.2.2.2.2 _ _ c hb3.1
      exact ⟨_, tW_lts hS q q q1, q2⟩
    · obtain ⟨q, q1, q2⟩ := hK.2.2.2.2 _ _ c ha3.1
      exact ⟨_, tW_lts hS q q q1, fun e => q2 e.symm⟩
  obtain ⟨w, w1, w2⟩ := this
  exact ⟨w, w1, by rw [lang w a w1 (by omega), lang w b w1 hb]; exact w2⟩
/-- what a kept table is -/
def tG (t : Nat → Nat → Nat) : Prop := tOK t ∧ tMin t ∧ tCan t ∧ ∀ r, r < t 0 0 → fOK (t 0 1) (t 1) (t 0 0) r (t 2 r) ∧ t 2 r ≤ t 0 0 + 1 ∧ (t 0 2).testBit r = decide (t 2 r ≠ 0)
theorem SI.z {M : mM} {so z : Nat → Nat → Nat} (e : ∀ k, k ≠ 8 → k ≠ 9 → z k = so k) (h : SI M so) : SI M z := by
  have tw : ∀ n t, tW z n t = tW so n t := tW_eq (e 5 (by decide) (by decide)) (e 6 (by decide) (by decide))
  obtain ⟨a1, a2, a3, a4, a5, a6, a7⟩ := h
  unfold SI
  rw [e 0 (by decide) (by decide), e 1 (by decide) (by decide), e 2 (by decide) (by decide), e 3 (by decide) (by decide), e 4 (by decide) (by decide), e 5 (by decide) (by decide), e 6 (by decide) (by decide), e 10 (by decide) (by decide)]
  refine ⟨a1, a2, a3, a4, a5, fun i hi => ?_, a7⟩
  obtain ⟨x, y, w⟩ := a6 i hi
  exact ⟨x, y, fun t ht => by rw [tw]; exact w t ht⟩
theorem tM_eq {t u : Nat → Nat → Nat} (h0 : u 0 0 = t 0 0) (h1 : u 0 1 = t 0 1) (h : u 1 = t 1) : tM u = tM t := by
  unfold tM mmR
  rw [h0, h1, h]
theorem wr_E {M : mM} {so z : Nat → Nat → Nat} {nx : Nat → Nat} {E r : Nat} (h : WI M so z nx E r (3 * r) r) (hr : r ≤ 10) : E < 1024 := Nat.lt_of_lt_of_le h.2.2.2.2.2.2.2.2.1 (Nat.pow_le_pow_right (n := 2) (by decide) hr)
theorem wr_fin {M : mM} {so z : Nat → Nat → Nat} {t t2 u : Nat → Nat → Nat → Nat} {n0 E r : Nat} (hS : SI M so) (hK : KI M so) (hD : SD M so (so 10 0)) (h1 : 1 ≤ so 10 2) (h0 : so 1 0 = M.1) (h : WI M so z (t n0 1) E r (3 * r) r) (hr : r = so 10 2) (e00 : t2 n0 0 0 = so 10 2) (e01 : t2 n0 0 1 = E) (e1 : t2 n0 1 = t n0 1) (hm : mL2 t2 u n0 (t2 n0 0 0) 0) : tG (u n0) ∧ ∀ w, lts w → macc (tM (u n0)) 0 w = macc M M.1 w := by
  obtain ⟨k1, k2, k3, k4⟩ := hm.1
  have hE := wr_E h (by have := hK.1; omega)
  have hl := WI.lang (t := t2 n0) hS hK hD (by rw [e1, e01]; exact h) hr e00
  obtain ⟨l1, l2, l3, l4⟩ := hl
  have em := tM_eq (t := t2 n0) (u := u n0) k2 k3 k4
  refine ⟨⟨⟨by omega, by have := hK.1; omega, by rw [k3, e01]; exact hE, hm.2.1, fun a l ha hl => ?_⟩, fun a b ab hb => ?_, ?_, fun q hq => ?_⟩, fun w hw => ?_⟩
  · rw [k4, k2]; exact l4 a l (by omega) hl
  · rw [em]; exact l2 a b ab (by omega)
  · unfold tCan; rw [k2, k3, k4]; exact l3
  · rw [k2, k3, k4]
    have := hm.2.2 q (by omega)
    rw [if_neg (Nat.not_lt_zero _)] at this
    exact this
  · rw [em, l1 w 0 hw (by omega), h.2.1.2.2, hK.2.2.1 (by omega), h0]
theorem bit0 (x : Nat) : (x.testBit 0).toNat = x % 2 := by
  rw [Nat.testBit_zero]
  have : x % 2 = 0 ∨ x % 2 = 1 := by omega
  rcases this with h | h <;> rw [h] <;> decide
