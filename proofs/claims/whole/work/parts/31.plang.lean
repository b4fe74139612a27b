/-! languages -/
/-- two places have the same words -/
def SE (t : Nat → Nat → Nat) (a : Nat) (u : Nat → Nat → Nat) (b : Nat) : Prop := ∀ w, lts w → macc (tM t) a w = macc (tM u) b w
theorem SE.step {t u : Nat → Nat → Nat} {a b l : Nat} (h : SE t a u b) (hl : l < 3) : SE t (t 1 (a * 3 + l)) u (u 1 (b * 3 + l)) := fun w hw => h (l :: w) (lts_cons hl hw)
theorem SE.sy {t u : Nat → Nat → Nat} {a b : Nat} (h : SE t a u b) : SE u b t a := fun w hw => (h w hw).symm
theorem SE.tr {t u v : Nat → Nat → Nat} {a b c : Nat} (h : SE t a u b) (g : SE u b v c) : SE t a v c := fun w hw => (h w hw).trans (g w hw)
theorem SE.bit {t u : Nat → Nat → Nat} {a b : Nat} (h : SE t a u b) : (t 0 1).testBit a = (u 0 1).testBit b := h [] lts_nil
theorem SE.run {t u : Nat → Nat → Nat} : ∀ (w : List Nat) {a b : Nat}, SE t a u b → lts w → SE t (mrun (tM t) a w) u (mrun (tM u) b w)
  | [], _, _, h, _ => h
  | _ :: w, _, _, h, hw => SE.run w (h.step (lts_tl hw).1) (lts_tl hw).2
theorem se_dlv {t u : Nat → Nat → Nat} : ∀ (k : Nat) {a b : Nat}, SE t a u b → dlv (t 0 1) (t 1) k a = dlv (u 0 1) (u 1) k b
  | 0, _, _, h => h.bit
  | k + 1, a, b, h => by
    have h0 := se_dlv k (h.step (l := 0) (by decide))
    have h1 := se_dlv k (h.step (l := 1) (by decide))
    have h2 := se_dlv k (h.step (l := 2) (by decide))
    rw [Nat.add_zero, Nat.add_zero] at h0
    unfold dlv
    rw [h0, h1, h2]
theorem se_cnt {t u : Nat → Nat → Nat} : ∀ (k : Nat) {a b : Nat}, SE t a u b → cnt (t 0 1) (t 1) k a = cnt (u 0 1) (u 1) k b
  | 0, _, _, h => congrArg Bool.toNat h.bit
  | k + 1, a, b, h => by
    have h0 := se_cnt k (h.step (l := 0) (by decide))
    have h1 := se_cnt k (h.step (l := 1) (by decide))
    have h2 := se_cnt k (h.step (l := 2) (by decide))
    show 0 + cnt (t 0 1) (t 1) k (t 1 (a * 3 + 0)) + cnt (t 0 1) (t 1) k (t 1 (a * 3 + 1)) + cnt (t 0 1) (t 1) k (t 1 (a * 3 + 2)) = 0 + cnt (u 0 1) (u 1) k (u 1 (b * 3 + 0)) + cnt (u 0 1) (u 1) k (u 1 (b * 3 + 1)) + cnt (u 0 1) (u 1) k (u 1 (b * 3 + 2))
    rw [h0, h1, h2]
theorem se_scn {t u : Nat → Nat → Nat} {a b : Nat} (h : SE t a u b) : ∀ n, scn (t 0 1) (t 1) a n = scn (u 0 1) (u 1) b n
  | 0 => rfl
  | n + 1 => by
    show scn _ _ a n + _ = scn _ _ b n + _
    rw [se_scn h n, se_cnt n h]
theorem se_nxl {t u : Nat → Nat → Nat} {a b : Nat} (n : Nat) (h : SE t a u b) : nxl (t 0 1) (t 1) n a = nxl (u 0 1) (u 1) n b := by
  have h0 := se_dlv n (h.step (l := 0) (by decide))
  have h1 := se_dlv n (h.step (l := 1) (by decide))
  rw [Nat.add_zero, Nat.add_zero] at h0
  unfold nxl
  rw [h0, h1]
theorem se_lst {t u : Nat → Nat → Nat} {a b : Nat} (n : Nat) (h : SE t a u b) : ∀ k, SE t (lst (t 0 1) (t 1) n a k) u (lst (u 0 1) (u 1) n b k)
  | 0 => h
  | k + 1 => by
    have ih := se_lst n h k
    show SE t (t 1 (lst (t 0 1) (t 1) n a k * 3 + _)) u (u 1 (lst (u 0 1) (u 1) n b k * 3 + _))
    rw [se_nxl (n - k - 1) ih]
    exact ih.step (nxl_lt _ _ _ _)
theorem run_lt {t : Nat → Nat → Nat} (h : tOK t) : ∀ (w : List Nat) (a : Nat), lts w → a < t 0 0 → mrun (tM t) a w < t 0 0
  | [], _, _, ha => ha
  | l :: w, a, hw, ha => run_lt h w _ (lts_tl hw).2 (h.2.2.2.2 a l ha (lts_tl hw).1)
theorem tMin.eq {t : Nat → Nat → Nat} (h : tMin t) {a b : Nat} (ha : a < t 0 0) (hb : b < t 0 0) (e : SE t a t b) : a = b := by
  rcases Nat.lt_trichotomy a b with z | z | z
  · obtain ⟨w, w1, w2⟩ := h a b z hb; exact absurd (e w w1) w2
  · exact z
  · obtain ⟨w, w1, w2⟩ := h b a z ha; exact absurd (e w w1).symm w2
/-- as many rests -/
theorem few {t u : Nat → Nat → Nat} {a0 b0 : Nat} (hu : tOK u) (hb : b0 < u 0 0) (hm : tMin t) (hr : ∀ s, s < t 0 0 → ∃ w, lts w ∧ mrun (tM t) a0 w = s) (h : SE t a0 u b0) : t 0 0 ≤ u 0 0 := by
  refine pig (u 0 0) (t 0 0) (fun s => if hs : s < t 0 0 then mrun (tM u) b0 (Classical.choose (hr s hs)) else 0) (fun s hs => ?_) (fun i j hi hj e => ?_)
  · rw [dif_pos hs]; exact run_lt hu _ _ (Classical.choose_spec (hr s hs)).1 hb
  · rw [dif_pos hi, dif_pos hj] at e
    have x := Classical.choose_spec (hr i hi)
    have y := Classical.choose_spec (hr j hj)
    have p := SE.run _ h x.1
    have q := SE.run _ h y.1
    rw [x.2, e] at p
    rw [y.2] at q
    exact hm.eq hi hj (p.tr q.sy)
theorem tCan.reach {t : Nat → Nat → Nat} (h : tCan t) : ∀ n s, s < n → s < t 0 0 → ∃ w, lts w ∧ mrun (tM t) 0 w = s
  | 0, s, hs, _ => absurd hs (Nat.not_lt_zero _)
  | n + 1, s, hs, ht => by
    by_cases h0 : s = 0
    · exact ⟨[], lts_nil, h0.symm⟩
    · obtain ⟨i, i1, i2⟩ := h.2.1 s (by omega) ht
      obtain ⟨w, w1, w2⟩ := tCan.reach h n (i / 3) (by omega) (by omega)
      refine ⟨w ++ [i % 3], lts_app w1 (lts_cons (by omega) lts_nil), ?_⟩
      rw [mrun_snoc, w2]
      show t 1 (i / 3 * 3 + i % 3) = s
      rw [show i / 3 * 3 + i % 3 = i by omega]; exact i2
theorem as_many {t u : Nat → Nat → Nat} {b0 : Nat} (ht : tG t) (hu : tOK u) (hm : tMin u) (hb : b0 < u 0 0) (hr : ∀ s, s < u 0 0 → ∃ w, lts w ∧ mrun (tM u) b0 w = s) (h : SE t 0 u b0) : t 0 0 = u 0 0 := by
  have a := few hu hb ht.2.1 (fun s hs => tCan.reach ht.2.2.1 (s + 1) s (by omega) hs) h
  have b := few ht.1 ht.1.1 hm hr h.sy
  omega
/-- one table for one language -/
theorem canon {t u : Nat → Nat → Nat} (ht : tG t) (hu : tG u) (h : SE t 0 u 0) : t 0 0 = u 0 0 ∧ t 0 1 = u 0 1 ∧ ∀ k, k < t 0 0 * 3 → t 1 k = u 1 k := by
  have hn := as_many ht hu.1 hu.2.1 hu.1.1 (fun s hs => tCan.reach hu.2.2.1 (s + 1) s (by omega) hs) h
  have rows : ∀ i, (∀ j, j < i → t 1 j = u 1 j) → ∀ r, 3 * r ≤ i → r < t 0 0 → SE t r u r := by
    intro i hp r
    induction r using Nat.strongRecOn with
    | ind r ih =>
      intro hr hrn
      by_cases h0 : r = 0
      · subst h0; exact h
      · obtain ⟨j, j1, j2⟩ := ht.2.2.1.2.1 r (by omega) hrn
        have e := (ih (j / 3) (by omega) (by omega) (by omega)).step (l := j % 3) (by omega)
        rw [show j / 3 * 3 + j % 3 = j by omega, ← hp j (by omega), j2] at e
        exact e
  have pre : ∀ i, i ≤ 3 * t 0 0 → ∀ j, j < i → t 1 j = u 1 j := by
    intro i
    induction i with
    | zero => intro _ j hj; exact absurd hj (Nat.not_lt_zero _)
    | succ i ih =>
      intro hi j hj
      have hp := ih (by omega)
      by_cases e : j = i
      · subst e
        have row := (rows j hp (j / 3) (by omega) (by omega)).step (l := j % 3) (by omega)
        rw [show j / 3 * 3 + j % 3 = j by omega] at row
        have old : ∀ k, k < j → SE t (t 1 k) u (u 1 k) := fun k hk => by
          have z := (rows j hp (k / 3) (by omega) (by omega)).step (l := k % 3) (by omega)
          rw [show k / 3 * 3 + k % 3 = k by omega] at z
          exact z
        have tx := ht.1.nx (k := j) (by omega)
        have ux := hu.1.nx (k := j) (by omega)
        rcases Nat.lt_trichotomy (t 1 j) (u 1 j) with z | z | z
        · exfalso
          have s1 : SE t (t 1 j) u (t 1 j) := by
            rcases hu.2.2.1.1 j _ (by omega) z with q | ⟨k, k1, k2⟩
            · rw [q]; exact h
            · have s := old k k1
              rw [hp k k1, k2] at s
              exact s
          have := hu.2.1.eq (by omega) ux (s1.sy.tr row)
          omega
        · exact z
        · exfalso
          have s1 : SE t (u 1 j) u (u 1 j) := by
            rcases ht.2.2.1.1 j _ (by omega) z with q | ⟨k, k1, k2⟩
            · rw [q]; exact h
            · have s := old k k1
              rw [← hp k k1, k2] at s
              exact s
          have := ht.2.1.eq tx (by omega) (row.tr s1.sy)
          omega
      · exact hp j (by omega)
  refine ⟨hn, ?_, fun k hk => pre _ (Nat.le_refl _) k (by omega)⟩
  apply Nat.eq_of_testBit_eq
  intro i
  by_cases hi : i < t 0 0
  · exact (rows _ (pre _ (Nat.le_refl _)) i (by omega) hi).bit
  · rw [Nat.testBit_lt_two_pow (Nat.lt_of_lt_of_le ht.2.2.1.2.2 (Nat.pow_le_pow_right (by decide) (by omega))), Nat.testBit_lt_two_pow (Nat.lt_of_lt_of_le hu.2.2.1.2.2 (Nat.pow_le_pow_right (by decide) (by omega)))]
theorem canon_c {t u : Nat → Nat → Nat} (ht : tOK t) (h0 : t 0 0 = u 0 0) (h1 : t 0 1 = u 0 1) (h2 : ∀ k, k < t 0 0 * 3 → t 1 k = u 1 k) : ∀ (w : List Nat) (a : Nat), lts w → a < t 0 0 → macc (tM t) a w = macc (tM u) a w
  | [], a, _, _ => by show (t 0 1).testBit a = (u 0 1).testBit a; rw [h1]
  | l :: w, a, hw, ha => by
    obtain ⟨hl, hw2⟩ := lts_tl hw
    rw [macc_cons, macc_cons]
    show macc (tM t) (t 1 (a * 3 + l)) w = macc (tM u) (u 1 (a * 3 + l)) w
    rw [← h2 _ (by omega)]
    exact canon_c ht h0 h1 h2 w _ hw2 (ht.2.2.2.2 a l ha hl)
/-! too many rests -/
theorem MN.lang {M K : mM} (h : ∀ w, lts w → macc M M.1 w = macc K K.1 w) (m : MN M) : MN K := by
  obtain ⟨f, f1, f2⟩ := m
  refine ⟨f, f1, fun i j hij hj => ?_⟩
  obtain ⟨w, w1, w2⟩ := f2 i j hij hj
  refine ⟨w, w1, ?_⟩
  rw [← h _ (lts_app (f1 i (by omega)) w1), ← h _ (lts_app (f1 j hj) w1)]
  exact w2
theorem no_MN {t : Nat → Nat → Nat} {s : Nat} {K : mM} (ht : tOK t) (hs : s < t 0 0) (h : ∀ w, lts w → macc (tM t) s w = macc K K.1 w) : ¬ MN K := by
  rintro ⟨f, f1, f2⟩
  have := pig (t 0 0) 11 (fun i => mrun (tM t) s (f i)) (fun i hi => run_lt ht _ _ (f1 i hi) hs) (fun i j hi hj e => by
    apply Classical.byContradiction
    intro ne
    have key : ∀ i j, i < j → j < 11 → mrun (tM t) s (f i) = mrun (tM t) s (f j) → False := fun i j hij hj e => by
      obtain ⟨w, w1, w2⟩ := f2 i j hij hj
      rw [← h _ (lts_app (f1 i (by omega)) w1), ← h _ (lts_app (f1 j hj) w1)] at w2
      unfold macc at w2
      rw [mrun_app, mrun_app, e] at w2
      exact w2 rfl
    rcases Nat.lt_or_gt_of_ne ne with z | z
    · exact key i j z hj e
    · exact key j i z hi e.symm)
  have := ht.2.1
  omega
/-! lengths -/
theorem dlv_w {t : Nat → Nat → Nat} : ∀ (k a : Nat), dlv (t 0 1) (t 1) k a = true ↔ ∃ w, lts w ∧ w.length = k ∧ macc (tM t) a w = true
  | 0, a => ⟨fun h => ⟨[], lts_nil, rfl, h⟩, fun ⟨w, _, w2, w3⟩ => by
      have := List.eq_nil_of_length_eq_zero w2
      subst this; exact w3⟩
  | k + 1, a => by
    rw [dlv_s]
    constructor
    · rintro ⟨l, hl, h⟩
      obtain ⟨w, w1, w2, w3⟩ := (dlv_w (t := t) k _).mp h
      exact ⟨l :: w, lts_cons hl w1, by rw [List.length_cons, w2], w3⟩
    · rintro ⟨w, w1, w2, w3⟩
      cases w with
      | nil => cases w2
      | cons l w => exact ⟨l, (lts_tl w1).1, (dlv_w (t := t) k _).mpr ⟨w, (lts_tl w1).2, by rw [List.length_cons] at w2; omega, w3⟩⟩
theorem cnt_pos {t : Nat → Nat → Nat} : ∀ (k a : Nat), 0 < cnt (t 0 1) (t 1) k a ↔ dlv (t 0 1) (t 1) k a = true
  | 0, a => by
    show 0 < ((t 0 1).testBit a).toNat ↔ (t 0 1).testBit a = true
    cases (t 0 1).testBit a <;> decide
  | k + 1, a => by
    have h0 := cnt_pos (t := t) k (t 1 (a * 3 + 0))
    have h1 := cnt_pos (t := t) k (t 1 (a * 3 + 1))
    have h2 := cnt_pos (t := t) k (t 1 (a * 3 + 2))
    show 0 < 0 + cnt (t 0 1) (t 1) k (t 1 (a * 3 + 0)) + cnt (t 0 1) (t 1) k (t 1 (a * 3 + 1)) + cnt (t 0 1) (t 1) k (t 1 (a * 3 + 2)) ↔ _
    rw [dlv_s]
    constructor
    · intro h
      by_cases z0 : 0 < cnt (t 0 1) (t 1) k (t 1 (a * 3 + 0))
      · exact ⟨0, by decide, h0.mp z0⟩
      · by_cases z1 : 0 < cnt (t 0 1) (t 1) k (t 1 (a * 3 + 1))
        · exact ⟨1, by decide, h1.mp z1⟩
        · exact ⟨2, by decide, h2.mp (by omega)⟩
    · rintro ⟨l, hl, h⟩
      have : l = 0 ∨ l = 1 ∨ l = 2 := by omega
      rcases this with rfl | rfl | rfl
      · have := h0.mpr h; omega
      · have := h1.mpr h; omega
      · have := h2.mpr h; omega
/-- a word as long as there are rests comes by some rest twice -/
theorem pump {t : Nat → Nat → Nat} (ht : tOK t) {a k : Nat} (ha : a < t 0 0) (hk : t 0 0 ≤ k) (h : dlv (t 0 1) (t 1) k a = true) : ∃ d, 1 ≤ d ∧ d ≤ t 0 0 ∧ dlv (t 0 1) (t 1) (k - d) a = true ∧ dlv (t 0 1) (t 1) (k + d) a = true := by
  obtain ⟨w, w1, w2, w3⟩ := (dlv_w k a).mp h
  have tk : ∀ i, lts (w.take i) := fun i l hl => w1 l (List.mem_of_mem_take hl)
  have dr : ∀ i, lts (w.drop i) := fun i l hl => w1 l (List.mem_of_mem_drop hl)
  have two : ∃ i j, i < j ∧ j < t 0 0 + 1 ∧ mrun (tM t) a (w.take i) = mrun (tM t) a (w.take j) := by
    apply Classical.byContradiction
    intro no
    have := pig (t 0 0) (t 0 0 + 1) (fun i => mrun (tM t) a (w.take i)) (fun i _ => run_lt ht _ _ (tk i) ha) (fun i j hi hj e => by
      rcases Nat.lt_trichotomy i j with z | z | z
      · exact absurd ⟨i, j, z, hj, e⟩ no
      · exact z
      · exact absurd ⟨j, i, z, hi, e.symm⟩ no)
    omega
  obtain ⟨i, j, hij, hj, e⟩ := two
  have acc : ∀ m, macc (tM t) (mrun (tM t) a (w.take m)) (w.drop m) = true := fun m => by
    unfold macc; rw [← mrun_app, List.take_append_drop]; exact w3
  refine ⟨j - i, by omega, by omega, (dlv_w _ a).mpr ⟨w.take i ++ w.drop j, lts_app (tk i) (dr j), ?_, ?_⟩, (dlv_w _ a).mpr ⟨w.take j ++ w.drop i, lts_app (tk j) (dr i), ?_, ?_⟩⟩
  · rw [List.length_append, List.length_take, List.length_drop, w2]; omega
  · unfold macc; rw [mrun_app, e]; exact acc j
  · rw [List.length_append, List.length_take, List.length_drop, w2]; omega
  · unfold macc; rw [mrun_app, ← e]; exact acc i
theorem pump_dn {t : Nat → Nat → Nat} (ht : tOK t) {a N : Nat} (ha : a < t 0 0) (hN : t 0 0 ≤ N) : ∀ k, N ≤ k → dlv (t 0 1) (t 1) k a = true → ∃ m, N ≤ m ∧ m < N + t 0 0 ∧ dlv (t 0 1) (t 1) m a = true := by
  intro k
  induction k using Nat.strongRecOn with
  | ind k ih =>
    intro hk h
    by_cases z : k < N + t 0 0
    · exact ⟨k, hk, z, h⟩
    · obtain ⟨d, d1, d2, d3, -⟩ := pump ht ha (by omega) h
      exact ih (k - d) (by omega) (by omega) d3
theorem pump_up {t : Nat → Nat → Nat} (ht : tOK t) {a N k : Nat} (ha : a < t 0 0) (hk : t 0 0 ≤ k) (h : dlv (t 0 1) (t 1) k a = true) : ∃ m, N ≤ m ∧ t 0 0 ≤ m ∧ dlv (t 0 1) (t 1) m a = true := by
  induction N with
  | zero => exact ⟨k, Nat.zero_le _, hk, h⟩
  | succ N ih =>
    obtain ⟨m, m1, m2, m3⟩ := ih
    obtain ⟨d, d1, -, -, d4⟩ := pump ht ha m2 m3
    exact ⟨m + d, by omega, by omega, d4⟩
theorem scn_z {e : Nat} {nx : Nat → Nat} {r n : Nat} (h : ∀ m, n ≤ m → cnt e nx m r = 0) : ∀ k, scn e nx r (n + k) = scn e nx r n
  | 0 => rfl
  | k + 1 => by
    show scn e nx r (n + k) + cnt e nx (n + k) r = _
    rw [scn_z h k, h _ (by omega)]; rfl
/-- endless: by either bound -/
theorem ends_eq {t : Nat → Nat → Nat} (ht : tOK t) {a : Nat} (ha : a < t 0 0) : (∃ n, t 0 0 ≤ n ∧ n < 2 * t 0 0 ∧ 0 < cnt (t 0 1) (t 1) n a) ↔ ∃ n, 10 ≤ n ∧ n < 20 ∧ 0 < cnt (t 0 1) (t 1) n a := by
  have h10 := ht.2.1
  constructor
  · rintro ⟨n, n1, n2, n3⟩
    obtain ⟨m, m1, m2, m3⟩ := pump_up (N := 10) ht ha n1 ((cnt_pos _ _).mp n3)
    obtain ⟨k, k1, k2, k3⟩ := pump_dn ht ha h10 m m1 m3
    exact ⟨k, k1, by omega, (cnt_pos _ _).mpr k3⟩
  · rintro ⟨n, n1, n2, n3⟩
    obtain ⟨k, k1, k2, k3⟩ := pump_dn ht ha (Nat.le_refl _) n (by omega) ((cnt_pos _ _).mp n3)
    exact ⟨k, k1, by omega, (cnt_pos _ _).mpr k3⟩
theorem sum_eq {t : Nat → Nat → Nat} (ht : tOK t) {a : Nat} (ha : a < t 0 0) (h : ∀ n, t 0 0 ≤ n → n < 2 * t 0 0 → cnt (t 0 1) (t 1) n a = 0) : scn (t 0 1) (t 1) a (2 * t 0 0) = scn (t 0 1) (t 1) a 20 := by
  have h10 := ht.2.1
  have all : ∀ m, t 0 0 ≤ m → cnt (t 0 1) (t 1) m a = 0 := fun m hm => by
    apply Classical.byContradiction
    intro z
    obtain ⟨k, k1, k2, k3⟩ := pump_dn ht ha (Nat.le_refl _) m hm ((cnt_pos m a).mp (by omega))
    have := h k k1 (by omega)
    have := (cnt_pos k a).mpr k3
    omega
  rw [show 2 * t 0 0 = t 0 0 + t 0 0 by omega, scn_z all, show 20 = t 0 0 + (20 - t 0 0) by omega, scn_z all]
/-- the code of the shortest word's length, by either bound -/
theorem code_eq {t u : Nat → Nat → Nat} {b c d : Nat} (ht : tG t) (hu : tOK u) (hb : b < u 0 0) (h : SE t 0 u b) (hc : t 2 0 = c) (hd : fOK (u 0 1) (u 1) 11 b d) : c = d := by
  obtain ⟨⟨a1, a2⟩, -, -⟩ := ht.2.2.2 0 ht.1.1
  rw [hc] at a1 a2
  have e : ∀ k, dlv (t 0 1) (t 1) k 0 = dlv (u 0 1) (u 1) k b := fun k => se_dlv k h
  have h10 := hu.2.1
  cases c with
  | zero =>
    cases d with
    | zero => rfl
    | succ k =>
      exfalso
      have := (hd.2 k rfl).1
      rw [← e] at this
      obtain ⟨j, j1, j2⟩ := dlv_short ht.1 ht.1.1 this
      rw [a1 rfl j j1] at j2; cases j2
  | succ c =>
    have x := a2 c rfl
    cases d with
    | zero =>
      exfalso
      obtain ⟨j, j1, j2⟩ := dlv_short hu hb (k := c) (by rw [← e]; exact x.1)
      rw [hd.1 rfl j (by omega)] at j2; cases j2
    | succ k =>
      have y := hd.2 k rfl
      rcases Nat.lt_trichotomy c k with z | z | z
      · have := y.2 c z; rw [← e, x.1] at this; cases this
      · rw [z]
      · have := x.2 k z; rw [e, y.1] at this; cases this
