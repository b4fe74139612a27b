theorem eAll_congr {f g : Nat → Bool} : ∀ n, (∀ s, s < n → f s = g s) → eAll f n = eAll g n
  | 0, _ => rfl
  | n + 1, h => by rw [eAll, eAll, h n (by omega), eAll_congr n (fun s hs => h s (by omega))]
/-- the sets below n are as they were -/
def sS (ri ri2 : Nat → Nat → Nat) (n : Nat) : Prop := ∀ p, p < n → ri2 0 p = ri 0 p ∧ ri2 1 p = ri 1 p ∧ (∀ k, k < 30 → ri2 2 (30 * p + k) = ri 2 (30 * p + k)) ∧ ∀ s, s < 10 → ri2 3 (10 * p + s) = ri 3 (10 * p + s)
def rG (ri : Nat → Nat → Nat) (p : Nat) : Prop := rOK ri p ∧ tMin (rT ri p) ∧ ∀ s, s < ri 0 p → ∃ w, lts w ∧ mrun (tM (rT ri p)) (ri 1 p) w = s
theorem sS.tab {ri ri2 : Nat → Nat → Nat} {n p : Nat} (h : sS ri ri2 n) (hp : p < n) (h0 : ri 0 p ≤ 10) : rT ri2 p = rT ri p := by
  obtain ⟨a, b, c, d⟩ := h p hp
  have e1 : rN ri2 p = rN ri p := by
    funext k
    unfold rN
    by_cases hk : k < 30
    · rw [if_pos hk, if_pos hk, c k hk]
    · rw [if_neg hk, if_neg hk]
  have e2 : eAll (rEb ri2 p) (ri2 0 p) = eAll (rEb ri p) (ri 0 p) := by
    rw [a]
    exact eAll_congr _ (fun s hs => by unfold rEb; rw [d s (by omega)])
  unfold rT
  rw [e1, e2, a]
theorem sS.ok {ri ri2 : Nat → Nat → Nat} {n p : Nat} (h : sS ri ri2 n) (hp : p < n) (k : rG ri p) : rG ri2 p := by
  obtain ⟨k1, k2, k3⟩ := k
  have e := h.tab hp k1.2.2.1
  obtain ⟨a, b, c, d⟩ := h p hp
  obtain ⟨x1, x2, x3, x4, x5, x6⟩ := k1
  have eN : rN ri2 p = rN ri p := congrFun e 1
  refine ⟨⟨x1, by omega, by omega, by rw [a, b]; exact x4, by rw [a, eN]; exact x5, fun s hs => by rw [d s (by omega)]; exact x6 s (by omega)⟩, by rw [e]; exact k2, fun s hs => by rw [e, b]; exact k3 s (by omega)⟩
theorem sS.rf {ri : Nat → Nat → Nat} {n : Nat} : sS ri ri n := fun _ _ => ⟨rfl, rfl, fun _ _ => rfl, fun _ _ => rfl⟩
theorem sS.of {ri ri2 : Nat → Nat → Nat} {n : Nat} (h0 : ri2 0 = ri 0) (h1 : ri2 1 = ri 1) (h2 : ri2 2 = ri 2) (h3 : ri2 3 = ri 3) : sS ri ri2 n := fun _ _ => by rw [h0, h1, h2, h3]; exact ⟨rfl, rfl, fun _ _ => rfl, fun _ _ => rfl⟩
theorem sS.rok {ri ri2 : Nat → Nat → Nat} {n p : Nat} (h : sS ri ri2 n) (hp : p < n) (k1 : rOK ri p) : rOK ri2 p := by
  have e := h.tab hp k1.2.2.1
  obtain ⟨a, b, c, d⟩ := h p hp
  obtain ⟨x1, x2, x3, x4, x5, x6⟩ := k1
  have eN : rN ri2 p = rN ri p := congrFun e 1
  exact ⟨x1, by omega, by omega, by rw [a, b]; exact x4, by rw [a, eN]; exact x5, fun s hs => by rw [d s (by omega)]; exact x6 s (by omega)⟩
theorem RK.keep {ri ri2 : Nat → Nat → Nat} {K : mM} {n : Nat} (hs : sS ri ri2 n) (h10 : ri2 10 = ri 10) (s2 : ri2 20 2 = ri 20 2) (s3 : ri2 20 3 = ri 20 3) (s4 : ri2 20 4 = ri 20 4) (s5 : ri2 20 5 = ri 20 5) (h3 : ri 20 3 < n ∨ ri 20 2 ≤ 1) (h4 : ri 20 4 < n ∨ ri 20 2 ≤ 1) (h : RK ri K) : RK ri2 K := by
  unfold RK rLv
  rw [s2, s3, s4, s5, h10]
  rcases h with h | h | h | h | h | h | h | h | h
  · exact Or.inl h
  · exact Or.inr (Or.inl h)
  all_goals
    have p3 : ri 20 3 < n := h3.resolve_right (by have := h.1; omega)
    have p4 : ri 20 4 < n := h4.resolve_right (by have := h.1; omega)
    have e1 : ri2 1 (ri 20 3) = ri 1 (ri 20 3) := (hs _ p3).2.1
    have e2 : ri2 1 (ri 20 4) = ri 1 (ri 20 4) := (hs _ p4).2.1
    have e0 : ri2 0 (ri 20 3) = ri 0 (ri 20 3) := (hs _ p3).1
    rw [e1, e2, e0]
  · obtain ⟨hw, a, b, c⟩ := h
    refine Or.inr (Or.inr (Or.inl ⟨hw, hs.rok p3 a, hs.rok p4 b, ?_⟩))
    rw [hs.tab p3 a.2.2.1, hs.tab p4 b.2.2.1]; exact c
  · obtain ⟨hw, hb, a, b, c⟩ := h
    refine Or.inr (Or.inr (Or.inr (Or.inl ⟨hw, hb, hs.rok p3 a, hs.rok p4 b, ?_⟩)))
    rw [hs.tab p3 a.2.2.1, hs.tab p4 b.2.2.1]; exact c
  · obtain ⟨hw, a, c⟩ := h
    refine Or.inr (Or.inr (Or.inr (Or.inr (Or.inl ⟨hw, hs.rok p3 a, ?_⟩))))
    rw [hs.tab p3 a.2.2.1]; exact c
  · obtain ⟨hw, a, c⟩ := h
    refine Or.inr (Or.inr (Or.inr (Or.inr (Or.inr (Or.inl ⟨hw, hs.rok p3 a, ?_⟩)))))
    rw [hs.tab p3 a.2.2.1]; exact c
  · obtain ⟨hw, a, c⟩ := h
    refine Or.inr (Or.inr (Or.inr (Or.inr (Or.inr (Or.inr (Or.inl ⟨hw, hs.rok p3 a, ?_⟩))))))
    rw [hs.tab p3 a.2.2.1]; exact c
  · obtain ⟨hw, hb, a, c⟩ := h
    refine Or.inr (Or.inr (Or.inr (Or.inr (Or.inr (Or.inr (Or.inr (Or.inl ⟨hw, hb, hs.rok p3 a, ?_⟩)))))))
    rw [hs.tab p3 a.2.2.1]; exact c
  · obtain ⟨hw, a, hv, c⟩ := h
    refine Or.inr (Or.inr (Or.inr (Or.inr (Or.inr (Or.inr (Or.inr (Or.inr ⟨hw, hs.rok p3 a, hv, ?_⟩)))))))
    rw [hs.tab p3 a.2.2.1]; exact c
/-- the sets, in order -/
def RS (ri : Nat → Nat → Nat) : Prop := ri 20 1 ≤ 80 ∧ ∀ p, p < ri 20 1 → rG ri p
def TP (K : mM) (ri : Nat → Nat → Nat) (i l : Nat) : Prop := (∀ a b, a < i → b < 3 → ri 6 (3 * a + b) < ri 20 6 ∧ ri 5 (ri 6 (3 * a + b)) = K.2.1 (ri 5 a) b) ∧ ∀ b, b < l → ri 6 (3 * i + b) < ri 20 6 ∧ ri 5 (ri 6 (3 * i + b)) = K.2.1 (ri 5 i) b
theorem TP.step {K : mM} {y y1 y2 : Nat → Nat → Nat} {i l j : Nat} (h : TP K y i l) (hi : i < y 20 6) (hl : l < 3) (hX : eX y y1) (hj : j < y1 20 6) (hj5 : y1 5 j = K.2.1 (y 5 i) l) (e6 : y2 6 = us (y1 6) (3 * i + l) j) (e5 : y2 5 = y1 5) (e20 : y2 20 = y1 20) : TP K y2 i (l + 1) := by
  have k6 : y1 6 = y 6 := hX.1 6 (by decide) (by decide) (by decide)
  have le := hX.2.2.1
  have old : ∀ a b, a ≤ i → 3 * a + b ≠ 3 * i + l → (y 6 (3 * a + b) < y 20 6 ∧ y 5 (y 6 (3 * a + b)) = K.2.1 (y 5 a) b) → y2 6 (3 * a + b) < y2 20 6 ∧ y2 5 (y2 6 (3 * a + b)) = K.2.1 (y2 5 a) b := fun a b ha hne q => by
    rw [e6, us_n _ _ hne, k6, e20, e5, hX.2.2.2 _ q.1, hX.2.2.2 a (by omega)]
    exact ⟨by omega, q.2⟩
  refine ⟨fun a b ha hb => old a b (by omega) (by omega) (h.1 a b ha hb), fun b hb => ?_⟩
  by_cases e : b = l
  · subst e
    rw [e6, us_s, e20, e5, hX.2.2.2 i hi]
    exact ⟨hj, hj5⟩
  · exact old i b (Nat.le_refl _) (by omega) (h.2 b (by omega))
theorem TP.row {K : mM} {y : Nat → Nat → Nat} {i : Nat} (h : TP K y i 3) : TP K y (i + 1) 0 := by
  refine ⟨fun a b ha hb => ?_, fun b hb => absurd hb (Nat.not_lt_zero _)⟩
  by_cases e : a = i
  · subst e; exact h.2 b hb
  · exact h.1 a b (by omega) hb
/-- what writing a set has done: ends below ke, letters below p -/
def WK (K : mM) (x e : Nat → Nat → Nat) (s ke p : Nat) : Prop := (∀ zk, zk ≠ 2 → zk ≠ 3 → e zk = x zk) ∧ (∀ j, j < 10 * s → e 3 j = x 3 j) ∧ (∀ j, j < 30 * s → e 2 j = x 2 j) ∧ (∀ a, a < ke → e 3 (10 * s + a) = (K.2.2.1 (x 5 (x 9 a))).toNat) ∧ ∀ i, i < p → e 2 (30 * s + i) = x 7 (x 6 (3 * x 9 (i / 3) + i % 3))
theorem WK.rf {K : mM} {x : Nat → Nat → Nat} {s : Nat} : WK K x x s 0 0 := ⟨fun _ _ _ => rfl, fun _ _ => rfl, fun _ _ => rfl, fun _ h => absurd h (Nat.not_lt_zero _), fun _ h => absurd h (Nat.not_lt_zero _)⟩
theorem WK.end {K : mM} {x e e2 : Nat → Nat → Nat} {s k p v : Nat} (h : WK K x e s k p) (hv : v = (K.2.2.1 (x 5 (x 9 k))).toNat) (f : ∀ zk, zk ≠ 3 → e2 zk = e zk) (g : e2 3 = us (e 3) (10 * s + k) v) : WK K x e2 s (k + 1) p := by
  obtain ⟨a1, a2, a3, a4, a5⟩ := h
  refine ⟨fun zk h2 h3 => (f zk h3).trans (a1 zk h2 h3), fun j hj => by rw [g, us_n _ _ (by omega)]; exact a2 j hj, fun j hj => by rw [f 2 (by decide)]; exact a3 j hj, fun a ha => ?_, fun i hi => by rw [f 2 (by decide)]; exact a5 i hi⟩
  rw [g]
  by_cases e : a = k
  · subst e; rw [us_s]; exact hv
  · rw [us_n _ _ (by omega)]; exact a4 a (by omega)
theorem WK.let {K : mM} {x e e2 : Nat → Nat → Nat} {s ke p v : Nat} (h : WK K x e s ke p) (hv : v = x 7 (x 6 (3 * x 9 (p / 3) + p % 3))) (f : ∀ zk, zk ≠ 2 → e2 zk = e zk) (g : e2 2 = us (e 2) (30 * s + p) v) : WK K x e2 s ke (p + 1) := by
  obtain ⟨a1, a2, a3, a4, a5⟩ := h
  refine ⟨fun zk h2 h3 => (f zk h2).trans (a1 zk h2 h3), fun j hj => by rw [f 3 (by decide)]; exact a2 j hj, fun j hj => by rw [g, us_n _ _ (by omega)]; exact a3 j hj, fun a ha => by rw [f 3 (by decide)]; exact a4 a ha, fun i hi => ?_⟩
  rw [g]
  by_cases e : i = p
  · subst e; rw [us_s]; exact hv
  · rw [us_n _ _ (by omega)]; exact a5 i (by omega)
theorem mk_lang {K : mM} {x fi : Nat → Nat → Nat} {s n : Nat} (h1 : 1 ≤ n) (hs : s < 80) (h10 : n ≤ 10) (hG : GF K x n) (hT : TO K x) (hE : EI K x 10242) (hc : 1 ≤ x 20 6) (h5 : x 5 0 = K.1) (f0 : fi 0 s = n) (f1 : fi 1 s = x 7 0)
    (f3 : ∀ a, a < n → fi 3 (10 * s + a) = (K.2.2.1 (x 5 (x 9 a))).toNat) (f2 : ∀ i, i < 3 * n → fi 2 (30 * s + i) = x 7 (x 6 (3 * x 9 (i / 3) + i % 3))) : rG fi s ∧ ∀ w, lts w → macc (tM (rT fi s)) (fi 1 s) w = macc K K.1 w := by
  obtain ⟨g1, g2, g3, g4⟩ := hG
  have eb : ∀ a, a < n → rEb fi s a = K.2.2.1 (x 5 (x 9 a)) := fun a ha => by
    unfold rEb; rw [f3 a ha]; cases K.2.2.1 (x 5 (x 9 a)) <;> rfl
  have en : ∀ a b, a < n → b < 3 → rN fi s (a * 3 + b) = x 7 (x 6 (3 * x 9 a + b)) := fun a b ha hb => by
    unfold rN; rw [if_pos (by omega), f2 _ (by omega), show (a * 3 + b) / 3 = a by omega, show (a * 3 + b) % 3 = b by omega]
  have st : ∀ i l, i < x 20 6 → l < 3 → rN fi s (x 7 i * 3 + l) = x 7 (x 6 (3 * i + l)) := fun i l hi hl => by
    have hk := g1 i hi
    rw [en _ l hk hl]
    obtain ⟨q1, q2⟩ := g2 _ hk
    exact (g3 _ _ q1 hi q2).2 l hl
  have gd : ∀ i, i < x 20 6 → (rT fi s 0 1).testBit (x 7 i) = K.2.2.1 (x 5 i) := fun i hi => by
    have hk := g1 i hi
    rw [rT_bit (by rw [f0]; exact hk), eb _ hk]
    obtain ⟨q1, q2⟩ := g2 _ hk
    exact (g3 _ _ q1 hi q2).1
  have A : ∀ (w : List Nat), lts w → ∀ i, i < x 20 6 → macc (tM (rT fi s)) (x 7 i) w = macc K (x 5 i) w := by
    intro w
    induction w with
    | nil => intro _ i hi; exact gd i hi
    | cons l w ih =>
      intro hw i hi
      obtain ⟨hl, hw2⟩ := lts_tl hw
      obtain ⟨q1, q2⟩ := hT i l hi hl
      rw [macc_cons, macc_cons, ← q2]
      show macc (tM (rT fi s)) (rN fi s (x 7 i * 3 + l)) w = _
      rw [st i l hi hl]
      exact ih hw2 _ q1
  have D : ∀ (w : List Nat), lts w → ∀ i, i < x 20 6 → ∃ j, j < x 20 6 ∧ x 5 j = mrun K (x 5 i) w ∧ mrun (tM (rT fi s)) (x 7 i) w = x 7 j := by
    intro w
    induction w with
    | nil => intro _ i hi; exact ⟨i, hi, rfl, rfl⟩
    | cons l w ih =>
      intro hw i hi
      obtain ⟨hl, hw2⟩ := lts_tl hw
      obtain ⟨q1, q2⟩ := hT i l hi hl
      obtain ⟨j, j1, j2, j3⟩ := ih hw2 _ q1
      refine ⟨j, j1, by rw [j2, q2]; rfl, ?_⟩
      show mrun (tM (rT fi s)) (rN fi s (x 7 i * 3 + l)) w = _
      rw [st i l hi hl]; exact j3
  refine ⟨⟨⟨hs, by omega, by omega, by rw [f0, f1]; exact g1 0 (by omega), fun a b ha hb => ?_, fun a ha => ?_⟩, fun a b hab hb => ?_, fun a ha => ?_⟩, fun w hw => ?_⟩
  · rw [f0] at ha ⊢
    rw [en a b ha hb]
    exact g1 _ (hT _ b (g2 a ha).1 hb).1
  · rw [f0] at ha
    rw [f3 a ha]; cases K.2.2.1 (x 5 (x 9 a)) <;> decide
  · have hb' : b < n := by rw [← f0]; exact hb
    obtain ⟨p1, p2⟩ := g2 a (by omega)
    obtain ⟨r1, r2⟩ := g2 b hb'
    obtain ⟨w, w1, w2⟩ := g4 _ _ p1 r1 (by rw [p2, r2]; omega)
    refine ⟨w, w1, ?_⟩
    have e1 := A w w1 _ p1
    have e2 := A w w1 _ r1
    rw [p2] at e1
    rw [r2] at e2
    rw [e1, e2]; exact w2
  · have ha' : a < n := by rw [← f0]; exact ha
    obtain ⟨p1, p2⟩ := g2 a ha'
    obtain ⟨w, w1, w2⟩ := hE.2.2.2 _ p1
    obtain ⟨j, j1, j2, j3⟩ := D w w1 0 (by omega)
    have ej : j = x 9 a := by
      have e1 := (hE.2.1 j j1).2
      have e2 := (hE.2.1 _ p1).2
      rw [j2, h5, w2] at e1
      omega
    exact ⟨w, w1, by rw [f1, j3, ej, p2]⟩
  · rw [f1, ← h5]; exact A w hw 0 (by omega)

/-- the reference's state with a making's numbers -/
def rs4 (ri : Nat → Nat → Nat) (h p q w : Nat) : Nat → Nat → Nat := us ri 20 (us (us (us (us (ri 20) 2 h) 3 p) 4 q) 5 w)
/-- a making has ended -/
def mkR (ri : Nat → Nat → Nat) (K : mM) (v : Option Value) (u : Nat → Nat → Nat) : Prop :=
  (u 20 0 = 2 ∧ v = some (.int (nI 0)) ∧ (ri 20 1 = 80 ∨ MN K) ∧ u 20 1 = ri 20 1 ∧ sS ri u (ri 20 1)) ∨
  (u 20 0 = ri 20 0 ∧ ri 20 1 < 80 ∧ v = some (.int (nI (ri 20 1))) ∧ u 20 1 = ri 20 1 + 1 ∧ sS ri u (ri 20 1) ∧ rG u (ri 20 1) ∧ ∀ w, lts w → macc (tM (rT u (ri 20 1))) (u 1 (ri 20 1)) w = macc K K.1 w)
abbrev rm_M_make : Room := { frames := 4, cells := 0, slots := 0, locals := 92 }
set_option maxRecDepth 100000 in
set_option maxHeartbeats 4000000 in
theorem c_M_make (l : Launch) (Γ : gG) (r : Nat → Nat) (ri : Nat → Nat → Nat) (rl : Nat → Nat → Int64) (wr : va_W) (h9 p9 q9 w9 : Nat) (hS : RS ri) (K : mM) (hK : RK (rs4 ri h9 p9 q9 w9) K) (hp9 : p9 < ri 20 1 ∨ h9 ≤ 1) (hq9 : q9 < ri 20 1 ∨ h9 ≤ 1) : cT l Γ my_M_make bc_M_make 9 (some .int) rm_M_make [.ref (r 0), .int (nI h9), .int (nI p9), .int (nI q9), .int (nI w9)] (rW Γ r ri rl wr) (S := Nat → Nat → Nat) (mkR ri K) (fun u => rW Γ r u rl wr) := by
  refine cT.start (by decide) (Nat.le_of_ble_eq_true rfl) (fun p e s m args below meth c ls Q hQ C hmn h hl => ?_)
  replace hl : lv_has ls 9 [(0, .ref (r 0)), (1, .int (nI h9)), (2, .int (nI p9)), (3, .int (nI q9)), (4, .int (nI w9))] := hl
  have hS80 := hS.1
  refine lv_aload_n C.x C.b dc_M_make_0 rfl (lv_at hl 0 rfl) ?_
  refine rg_get C h 0 rfl rfl in_M 1 (by decide) fl_M_58 rfl dc_M_make_1 ?_
  refine lv_bipush (v := (nI 80)) C.x C.b dc_M_make_4 (by decide +kernel) ?_
  refine bc_ne (tgt := 16) C (by omega) (by omega) dc_M_make_6 (by decide) (fun q6 => ?_) (fun q6 => ?_)
  · refine lv_aload_n C.x C.b dc_M_make_16 rfl (lv_at hl 0 rfl) ?_
    refine lv_iload_n C.x C.b dc_M_make_17 rfl (lv_at hl 1 rfl) ?_
    refine rg_put (ty := .int) C h 0 rfl rfl in_M tk_M nm_M 6 (by decide) fl_M_68 rfl (by decide +kernel) rfl rfl (by simp) dc_M_make_18 (fun H locs h => ?_)
    obtain ⟨ri_1, eri_1⟩ : ∃ zz9, zz9 = us ri 20 (us (ri 20) 2 h9) := ⟨_, rfl⟩
    have fri_1 : ∀ zk, zk ≠ 20 → ri_1 zk = ri zk := fun zk hzk => by rw [eri_1, us_n _ _ hzk]
    have gri_1 : ri_1 20 = us (ri 20) 2 h9 := by rw [eri_1, us_s]
    have xri_1 : ri_1 20 0 = ri 20 0 ∧ ri_1 20 1 = ri 20 1 ∧ ri_1 20 2 = h9 ∧ ri_1 20 3 = ri 20 3 ∧ ri_1 20 4 = ri 20 4 ∧ ri_1 20 5 = ri 20 5 ∧ ri_1 20 6 = ri 20 6 := by rw [gri_1]; exact ⟨us_n _ _ (by decide), us_n _ _ (by decide), us_s _ _ _, us_n _ _ (by decide), us_n _ _ (by decide), us_n _ _ (by decide), us_n _ _ (by decide)⟩
    replace h : sT Γ s (rW Γ r ri_1 rl wr) H locs := by rw [eri_1]; exact h
    refine lv_aload_n C.x C.b dc_M_make_21 rfl (lv_at hl 0 rfl) ?_
    refine lv_iload_n C.x C.b dc_M_make_22 rfl (lv_at hl 2 rfl) ?_
    refine rg_put (ty := .int) C h 0 rfl rfl in_M tk_M nm_M 7 (by decide) fl_M_71 rfl (by decide +kernel) rfl rfl (by simp) dc_M_make_23 (fun H locs h => ?_)
    obtain ⟨ri_2, eri_2⟩ : ∃ zz9, zz9 = us ri_1 20 (us (ri_1 20) 3 p9) := ⟨_, rfl⟩
    have fri_2 : ∀ zk, zk ≠ 20 → ri_2 zk = ri_1 zk := fun zk hzk => by rw [eri_2, us_n _ _ hzk]
    have gri_2 : ri_2 20 = us (ri_1 20) 3 p9 := by rw [eri_2, us_s]
    have xri_2 : ri_2 20 0 = ri_1 20 0 ∧ ri_2 20 1 = ri_1 20 1 ∧ ri_2 20 2 = ri_1 20 2 ∧ ri_2 20 3 = p9 ∧ ri_2 20 4 = ri_1 20 4 ∧ ri_2 20 5 = ri_1 20 5 ∧ ri_2 20 6 = ri_1 20 6 := by rw [gri_2]; exact ⟨us_n _ _ (by decide), us_n _ _ (by decide), us_n _ _ (by decide), us_s _ _ _, us_n _ _ (by decide), us_n _ _ (by decide), us_n _ _ (by decide)⟩
    replace h : sT Γ s (rW Γ r ri_2 rl wr) H locs := by rw [eri_2]; exact h
    refine lv_aload_n C.x C.b dc_M_make_26 rfl (lv_at hl 0 rfl) ?_
    refine lv_iload_n C.x C.b dc_M_make_27 rfl (lv_at hl 3 rfl) ?_
    refine rg_put (ty := .int) C h 0 rfl rfl in_M tk_M nm_M 8 (by decide) fl_M_74 rfl (by decide +kernel) rfl rfl (by simp) dc_M_make_28 (fun H locs h => ?_)
    obtain ⟨ri_3, eri_3⟩ : ∃ zz9, zz9 = us ri_2 20 (us (ri_2 20) 4 q9) := ⟨_, rfl⟩
    have fri_3 : ∀ zk, zk ≠ 20 → ri_3 zk = ri_2 zk := fun zk hzk => by rw [eri_3, us_n _ _ hzk]
    have gri_3 : ri_3 20 = us (ri_2 20) 4 q9 := by rw [eri_3, us_s]
    have xri_3 : ri_3 20 0 = ri_2 20 0 ∧ ri_3 20 1 = ri_2 20 1 ∧ ri_3 20 2 = ri_2 20 2 ∧ ri_3 20 3 = ri_2 20 3 ∧ ri_3 20 4 = q9 ∧ ri_3 20 5 = ri_2 20 5 ∧ ri_3 20 6 = ri_2 20 6 := by rw [gri_3]; exact ⟨us_n _ _ (by decide), us_n _ _ (by decide), us_n _ _ (by decide), us_n _ _ (by decide), us_s _ _ _, us_n _ _ (by decide), us_n _ _ (by decide)⟩
    replace h : sT Γ s (rW Γ r ri_3 rl wr) H locs := by rw [eri_3]; exact h
    refine lv_aload_n C.x C.b dc_M_make_31 rfl (lv_at hl 0 rfl) ?_
    refine lv_iload C.x C.b dc_M_make_32 (lv_at hl 4 rfl) ?_
    refine rg_put (ty := .int) C h 0 rfl rfl in_M tk_M nm_M 9 (by decide) fl_M_77 rfl (by decide +kernel) rfl rfl (by simp) dc_M_make_34 (fun H locs h => ?_)
    obtain ⟨ri_4, eri_4⟩ : ∃ zz9, zz9 = us ri_3 20 (us (ri_3 20) 5 w9) := ⟨_, rfl⟩
    have fri_4 : ∀ zk, zk ≠ 20 → ri_4 zk = ri_3 zk := fun zk hzk => by rw [eri_4, us_n _ _ hzk]
    have gri_4 : ri_4 20 = us (ri_3 20) 5 w9 := by rw [eri_4, us_s]
    have xri_4 : ri_4 20 0 = ri_3 20 0 ∧ ri_4 20 1 = ri_3 20 1 ∧ ri_4 20 2 = ri_3 20 2 ∧ ri_4 20 3 = ri_3 20 3 ∧ ri_4 20 4 = ri_3 20 4 ∧ ri_4 20 5 = w9 ∧ ri_4 20 6 = ri_3 20 6 := by rw [gri_4]; exact ⟨us_n _ _ (by decide), us_n _ _ (by decide), us_n _ _ (by decide), us_n _ _ (by decide), us_n _ _ (by decide), us_s _ _ _, us_n _ _ (by decide)⟩
    replace h : sT Γ s (rW Γ r ri_4 rl wr) H locs := by rw [eri_4]; exact h
    refine lv_aload_n C.x C.b dc_M_make_37 rfl (lv_at hl 0 rfl) ?_
    refine lv_iconst (v := (nI 0)) C.x C.b dc_M_make_38 (by decide +kernel) ?_
    refine rg_put (ty := .int) C h 0 rfl rfl in_M tk_M nm_M 10 (by decide) fl_M_86 rfl (by decide +kernel) rfl rfl (by simp) dc_M_make_39 (fun H locs h => ?_)
    obtain ⟨ri_5, eri_5⟩ : ∃ zz9, zz9 = us ri_4 20 (us (ri_4 20) 6 0) := ⟨_, rfl⟩
    have fri_5 : ∀ zk, zk ≠ 20 → ri_5 zk = ri_4 zk := fun zk hzk => by rw [eri_5, us_n _ _ hzk]
    have gri_5 : ri_5 20 = us (ri_4 20) 6 0 := by rw [eri_5, us_s]
    have xri_5 : ri_5 20 0 = ri_4 20 0 ∧ ri_5 20 1 = ri_4 20 1 ∧ ri_5 20 2 = ri_4 20 2 ∧ ri_5 20 3 = ri_4 20 3 ∧ ri_5 20 4 = ri_4 20 4 ∧ ri_5 20 5 = ri_4 20 5 ∧ ri_5 20 6 = 0 := by rw [gri_5]; exact ⟨us_n _ _ (by decide), us_n _ _ (by decide), us_n _ _ (by decide), us_n _ _ (by decide), us_n _ _ (by decide), us_n _ _ (by decide), us_s _ _ _⟩
    replace h : sT Γ s (rW Γ r ri_5 rl wr) H locs := by rw [eri_5]; exact h
    have b0k : ∀ zk, zk ≠ 20 → ri_5 zk = ri zk := fun zk hzk => by rw [fri_5 zk hzk, fri_4 zk hzk, fri_3 zk hzk, fri_2 zk hzk, fri_1 zk hzk]
    have b0s : ri_5 20 0 = ri 20 0 ∧ ri_5 20 1 = ri 20 1 ∧ ri_5 20 2 = h9 ∧ ri_5 20 3 = p9 ∧ ri_5 20 4 = q9 ∧ ri_5 20 5 = w9 ∧ ri_5 20 6 = 0 := by omega
    have hKb : RK ri_5 K := RK.same (ri := rs4 ri h9 p9 q9 w9) (b0k 0 (by decide)) (b0k 1 (by decide)) (b0k 2 (by decide)) (b0k 3 (by decide)) (b0k 10 (by decide)) b0s.2.2.1 b0s.2.2.2.1 b0s.2.2.2.2.1 b0s.2.2.2.2.2.1 hK
    obtain ⟨b0, eb0⟩ : ∃ zz9, zz9 = ri_5 := ⟨_, rfl⟩
    rw [← eb0] at b0k b0s hKb h
    refine lv_iconst (v := (nI 0)) C.x C.b dc_M_make_42 (by decide +kernel) ?_
    refine lv_istore (lv' := [(5, .int (nI 0)), (0, .ref (r 0)), (1, .int (nI h9)), (2, .int (nI p9)), (3, .int (nI q9)), (4, .int (nI w9))]) C.x C.b dc_M_make_43 hl (by decide) rfl (fun ls hl => ?_)
    have hz1 : ∀ zk, zk ≠ 4 → b0 zk = b0 zk := fun _ _ => rfl
    have h41 : ∀ j, j < 0 → b0 4 j = 0 := fun j hj => absurd hj (Nat.not_lt_zero _)
    have lp_45 : ∀ (n_45 : Nat) (k : Nat) (z : Nat → Nat → Nat) (H : Heap) (locs : List Loc) (ls : Array Slot), 10242 - k < n_45 → (k ≤ 10242) → (∀ zk, zk ≠ 4 → z zk = b0 zk) → (∀ j, j < k → z 4 j = 0) → sT Γ s (rW Γ r z rl wr) H locs → lv_has ls 9 [(5, .int (nI k)), (0, .ref (r 0))] → W p l e rm_M_make s m args below meth c H locs 0 0 Q (F0 m 45 ls []) := by
      intro n_45
      induction n_45 with
      | zero => intro k z H locs ls hms; exact absurd hms (Nat.not_lt_zero _)
      | succ n_45 ih_45 =>
        intro k z H locs ls hms hk hz h4 h hl
        refine lv_iload C.x C.b dc_M_make_45 (lv_at hl 0 rfl) ?_
        refine lv_sipush (v := (nI 10242)) C.x C.b dc_M_make_47 (by decide +kernel) ?_
        refine bc_ge (tgt := 67) C (by omega) (by omega) dc_M_make_50 (by decide) (fun q50 => ?_) (fun q50 => ?_)
        · have hKz : RK z K := RK.same (hz 0 (by decide)) (hz 1 (by decide)) (hz 2 (by decide)) (hz 3 (by decide)) (hz 10 (by decide)) (by rw [hz 20 (by decide)]) (by rw [hz 20 (by decide)]) (by rw [hz 20 (by decide)]) (by rw [hz 20 (by decide)]) hKb
          have hok := hKz.ok
          have z6 : z 20 6 = 0 := by rw [hz 20 (by decide)]; exact b0s.2.2.2.2.2.2
          have hEz : EI K z 10242 := ⟨by omega, fun i hi => absurd hi (by omega), fun c hc h0 => absurd (h4 c (by omega)) h0, fun i hi => absurd hi (by omega)⟩
          refine lv_aload_n C.x C.b dc_M_make_67 rfl (lv_at hl 1 rfl) ?_
          refine lv_aload_n C.x C.b dc_M_make_68 rfl (lv_at hl 1 rfl) ?_
          refine kv_V (As := []) (rest := [.ref (r 0)]) C h hl.1 (c_M_begin l Γ r z rl wr K hKz) mw_M_begin lk_M_96 (q0 := 0) rfl rfl rfl (by decide) (by decide) (Nat.le_of_ble_eq_true rfl) dc_M_make_69 (fun v u H locs hp h => ?_)
          obtain rfl := hp
          replace h : sT Γ s (rW Γ r z rl wr) _ _ := h
          refine W.eq (g2 := F0 m 72 ls [.int (nI (K.1)), .ref (r 0)]) rfl ?_
          refine kv_V (As := [.int (nI (K.1))]) (rest := []) C h hl.1 (c_M_come l Γ r z rl wr K 10242 (K.1) (Nat.le_refl _) hok.2.2 hEz hok.1 ⟨[], lts_nil, rfl⟩) mw_M_come lk_M_100 (q0 := 0) rfl rfl rfl (by decide) (by decide) (Nat.le_of_ble_eq_true rfl) dc_M_make_72 (fun v u H locs hp h => ?_)
          obtain ⟨⟨jc_7, ri_6⟩, rfl⟩ : ∃ zz9, zz9 = u := ⟨_, rfl⟩
          obtain ⟨rfl, cE_ri_6, cX_ri_6, cl_ri_6, ce_ri_6, cz_ri_6⟩ := hp
          dsimp only at cE_ri_6 cX_ri_6 cl_ri_6 ce_ri_6 cz_ri_6
          replace h : sT Γ s (rW Γ r ri_6 rl wr) _ _ := h
          refine W.eq (g2 := F0 m 75 ls [.int (nI jc_7)]) rfl ?_
          refine lv_istore (lv' := [(5, .int (nI jc_7)), (0, .ref (r 0))]) C.x C.b dc_M_make_75 hl (by decide) rfl (fun ls hl => ?_)
          refine lv_iconst (v := (nI 0)) C.x C.b dc_M_make_77 (by decide +kernel) ?_
          refine lv_istore (lv' := [(6, .int (nI 0)), (5, .int (nI jc_7)), (0, .ref (r 0))]) C.x C.b dc_M_make_78 hl (by decide) rfl (fun ls hl => ?_)
          have hj0 : jc_7 = 0 := cz_ri_6 z6
          have hy1 : (∀ zk, zk ≠ 4 → zk ≠ 5 → zk ≠ 6 → zk ≠ 20 → ri_6 zk = b0 zk) ∧ (∀ j, j ≠ 6 → ri_6 20 j = b0 20 j) := ⟨fun zk a b c d9 => (cX_ri_6.1 zk a b d9).trans (hz zk a), fun j9 hj9 => (cX_ri_6.2.1 j9 hj9).trans (by rw [hz 20 (by decide)])⟩
          have hy01 : 1 ≤ ri_6 20 6 ∧ ri_6 5 0 = K.1 := ⟨by omega, by rw [← hj0]; exact ce_ri_6⟩
          have hE1 := cE_ri_6
          have hTP1 : TP K ri_6 0 0 := ⟨fun a b ha => absurd ha (Nat.not_lt_zero _), fun b hb => absurd hb (Nat.not_lt_zero _)⟩
          have lp_80 : ∀ (n_80 : Nat) (i9 : Nat) (y : Nat → Nat → Nat) (H : Heap) (locs : List Loc) (ls : Array Slot), 10242 - i9 < n_80 → (i9 ≤ y 20 6) → (EI K y 10242) → ((∀ zk, zk ≠ 4 → zk ≠ 5 → zk ≠ 6 → zk ≠ 20 → y zk = b0 zk) ∧ (∀ j, j ≠ 6 → y 20 j = b0 20 j)) → (1 ≤ y 20 6 ∧ y 5 0 = K.1) → (TP K y i9 0) → sT Γ s (rW Γ r y rl wr) H locs → lv_has ls 9 [(6, .int (nI i9)), (0, .ref (r 0))] → W p l e rm_M_make s m args below meth c H locs 0 0 Q (F0 m 80 ls []) := by
            intro n_80
            induction n_80 with
            | zero => intro i9 y H locs ls hms; exact absurd hms (Nat.not_lt_zero _)
            | succ n_80 ih_80 =>
              intro i9 y H locs ls hms hi9 hE hy hy0 hTP h hl
              have hEc := hE.1
              refine lv_iload C.x C.b dc_M_make_80 (lv_at hl 0 rfl) ?_
              refine lv_aload_n C.x C.b dc_M_make_82 rfl (lv_at hl 1 rfl) ?_
              refine rg_get C h 0 rfl rfl in_M 10 (by decide) fl_M_86 rfl dc_M_make_83 ?_
              refine bc_ge (tgt := 139) C (by omega) (by omega) dc_M_make_86 (by decide) (fun q86 => ?_) (fun q86 => ?_)
              · have hKy : RK y K := RK.same (hy.1 0 (by decide) (by decide) (by decide) (by decide)) (hy.1 1 (by decide) (by decide) (by decide) (by decide)) (hy.1 2 (by decide) (by decide) (by decide) (by decide)) (hy.1 3 (by decide) (by decide) (by decide) (by decide)) (hy.1 10 (by decide) (by decide) (by decide) (by decide)) (hy.2 2 (by decide)) (hy.2 3 (by decide)) (hy.2 4 (by decide)) (hy.2 5 (by decide)) hKb
                have hTO : TO K y := fun a b ha hb => hTP.1 a b (by omega) hb
                refine lv_aload_n C.x C.b dc_M_make_139 rfl (lv_at hl 1 rfl) ?_
                refine kv_V (As := []) (rest := []) C h hl.1 (c_M_apart l Γ r y rl wr K hKy hE hTO hy0.1) mw_M_apart lk_M_108 (q0 := 0) rfl rfl rfl (by decide) (by decide) (Nat.le_of_ble_eq_true rfl) dc_M_make_140 (fun v u H locs hp h => ?_)
                obtain ⟨⟨na_9, ri_8⟩, rfl⟩ : ∃ zz9, zz9 = u := ⟨_, rfl⟩
                obtain ⟨rfl, aK_ri_8, aR_ri_8⟩ := hp
                dsimp only at aK_ri_8 aR_ri_8
                replace h : sT Γ s (rW Γ r ri_8 rl wr) _ _ := h
                refine W.eq (g2 := F0 m 143 ls [.int (nI na_9)]) rfl ?_
                refine lv_istore (lv' := [(6, .int (nI na_9)), (0, .ref (r 0))]) C.x C.b dc_M_make_143 hl (by decide) rfl (fun ls hl => ?_)
                have yb : ∀ zk, zk ≠ 4 → zk ≠ 5 → zk ≠ 6 → zk ≠ 7 → zk ≠ 8 → zk ≠ 9 → zk ≠ 20 → ri_8 zk = ri zk := fun zk a b c d9 e9 f9 g9 => (aK_ri_8 zk d9 e9 f9).trans ((hy.1 zk a b c g9).trans (b0k zk g9))
                have x20 : ri_8 20 = y 20 := aK_ri_8 20 (by decide) (by decide) (by decide)
                have x200 : ri_8 20 0 = ri 20 0 ∧ ri_8 20 1 = ri 20 1 := by rw [x20, hy.2 0 (by decide), hy.2 1 (by decide)]; exact ⟨b0s.1, b0s.2.1⟩
                have hna : na_9 ≤ 11 := by rcases aR_ri_8 with z9 | z9 <;> omega
                refine lv_iload C.x C.b dc_M_make_145 (lv_at hl 0 rfl) ?_
                refine lv_bipush (v := (nI 10)) C.x C.b dc_M_make_147 (by decide +kernel) ?_
                refine bc_le (tgt := 159) C (by omega) (by omega) dc_M_make_149 (by decide) (fun q149 => ?_) (fun q149 => ?_)
                · obtain ⟨hn1, hn10, hGF⟩ := aR_ri_8.resolve_left (fun z9 => by omega)
                  have hs80 : ri_8 20 1 < 80 := by omega
                  have x5 : ri_8 5 = y 5 := aK_ri_8 5 (by decide) (by decide) (by decide)
                  have x6 : ri_8 6 = y 6 := aK_ri_8 6 (by decide) (by decide) (by decide)
                  have x4 : ri_8 4 = y 4 := aK_ri_8 4 (by decide) (by decide) (by decide)
                  have hTx : TO K ri_8 := by unfold TO; rw [x20, x5, x6]; exact hTO
                  have hEx : EI K ri_8 10242 := by unfold EI; rw [x20, x5, x4]; exact hE
                  have hc1 : 1 ≤ ri_8 20 6 := by rw [x20]; exact hy0.1
                  have hcx := hEx.1
                  have h50 : ri_8 5 0 = K.1 := by rw [x5]; exact hy0.2
                  have hg10 : ∀ i, i < ri_8 20 6 → ri_8 7 i < 10 := fun i hi => Nat.lt_of_lt_of_le (hGF.1 i hi) hn10
                  refine lv_aload_n C.x C.b dc_M_make_159 rfl (lv_at hl 1 rfl) ?_
                  refine rg_get C h 0 rfl rfl in_M 2 (by decide) fl_M_9 rfl dc_M_make_160 ?_
                  refine lv_aload_n C.x C.b dc_M_make_163 rfl (lv_at hl 1 rfl) ?_
                  refine rg_get C h 0 rfl rfl in_M 1 (by decide) fl_M_58 rfl dc_M_make_164 ?_
                  refine lv_iload C.x C.b dc_M_make_167 (lv_at hl 0 rfl) ?_
                  refine rg_ist C h 1 rfl (by omega) (by decide) dc_M_make_169 (fun H locs h => ?_)
                  obtain ⟨ri_10, eri_10⟩ : ∃ zz9, zz9 = us ri_8 0 (us (ri_8 0) (ri_8 20 1) na_9) := ⟨_, rfl⟩
                  have fri_10 : ∀ zk, zk ≠ 0 → ri_10 zk = ri_8 zk := fun zk hzk => by rw [eri_10, us_n _ _ hzk]
                  have gri_10 : ri_10 0 = us (ri_8 0) (ri_8 20 1) na_9 := by rw [eri_10, us_s]
                  have xri_10 : ri_10 20 0 = ri_8 20 0 ∧ ri_10 20 1 = ri_8 20 1 ∧ ri_10 20 2 = ri_8 20 2 ∧ ri_10 20 3 = ri_8 20 3 ∧ ri_10 20 4 = ri_8 20 4 ∧ ri_10 20 5 = ri_8 20 5 ∧ ri_10 20 6 = ri_8 20 6 := by rw [fri_10 20 (by decide)]; exact ⟨rfl, rfl, rfl, rfl, rfl, rfl, rfl⟩
                  replace h : sT Γ s (rW Γ r ri_10 rl wr) H locs := by rw [eri_10]; exact h
                  refine lv_aload_n C.x C.b dc_M_make_170 rfl (lv_at hl 1 rfl) ?_
                  refine rg_get C h 0 rfl rfl in_M 3 (by decide) fl_M_13 rfl dc_M_make_171 ?_
                  refine lv_aload_n C.x C.b dc_M_make_174 rfl (lv_at hl 1 rfl) ?_
                  refine rg_get C h 0 rfl rfl in_M 1 (by decide) fl_M_58 rfl dc_M_make_175 ?_
                  refine lv_aload_n C.x C.b dc_M_make_178 rfl (lv_at hl 1 rfl) ?_
                  refine rg_get C h 0 rfl rfl in_M 14 (by decide) fl_M_32 rfl dc_M_make_179 ?_
                  refine lv_iconst (v := (nI 0)) C.x C.b dc_M_make_182 (by decide +kernel) ?_
                  refine rg_ild C h 8 rfl (by omega) (by decide) dc_M_make_183 ?_
                  refine rg_ist C h 2 rfl (by omega) (by decide) dc_M_make_184 (fun H locs h => ?_)
                  obtain ⟨ri_11, eri_11⟩ : ∃ zz9, zz9 = us ri_10 1 (us (ri_10 1) (ri_10 20 1) (ri_10 7 0)) := ⟨_, rfl⟩
                  have fri_11 : ∀ zk, zk ≠ 1 → ri_11 zk = ri_10 zk := fun zk hzk => by rw [eri_11, us_n _ _ hzk]
                  have gri_11 : ri_11 1 = us (ri_10 1) (ri_10 20 1) (ri_10 7 0) := by rw [eri_11, us_s]
                  have xri_11 : ri_11 20 0 = ri_10 20 0 ∧ ri_11 20 1 = ri_10 20 1 ∧ ri_11 20 2 = ri_10 20 2 ∧ ri_11 20 3 = ri_10 20 3 ∧ ri_11 20 4 = ri_10 20 4 ∧ ri_11 20 5 = ri_10 20 5 ∧ ri_11 20 6 = ri_10 20 6 := by rw [fri_11 20 (by decide)]; exact ⟨rfl, rfl, rfl, rfl, rfl, rfl, rfl⟩
                  replace h : sT Γ s (rW Γ r ri_11 rl wr) H locs := by rw [eri_11]; exact h
                  have fk : ∀ zk, zk ≠ 0 → zk ≠ 1 → ri_11 zk = ri_8 zk := fun zk a b => by rw [fri_11 zk b, fri_10 zk a]
                  have hGf : GF K ri_11 na_9 := by unfold GF; rw [fk 20 (by decide) (by decide), fk 7 (by decide) (by decide), fk 9 (by decide) (by decide), fk 5 (by decide) (by decide), fk 6 (by decide) (by decide)]; exact hGF
                  have hTf : TO K ri_11 := by unfold TO; rw [fk 20 (by decide) (by decide), fk 5 (by decide) (by decide), fk 6 (by decide) (by decide)]; exact hTx
                  have hEf : EI K ri_11 10242 := by unfold EI; rw [fk 20 (by decide) (by decide), fk 5 (by decide) (by decide), fk 4 (by decide) (by decide)]; exact hEx
                  have hf6 : ri_11 20 6 = ri_8 20 6 ∧ ri_11 20 1 = ri_8 20 1 ∧ ri_11 20 0 = ri_8 20 0 := by rw [fk 20 (by decide) (by decide)]; exact ⟨rfl, rfl, rfl⟩
                  have hf5 : ri_11 5 0 = K.1 := by rw [fk 5 (by decide) (by decide)]; exact h50
                  have hf0 : ri_11 0 = us (ri 0) (ri 20 1) na_9 := by rw [fri_11 0 (by decide), gri_10, x200.2, yb 0 (by decide) (by decide) (by decide) (by decide) (by decide) (by decide) (by decide)]
                  have hf1 : ri_11 1 = us (ri 1) (ri 20 1) (ri_11 7 0) := by rw [gri_11, xri_10.2.1, x200.2, fri_10 1 (by decide), yb 1 (by decide) (by decide) (by decide) (by decide) (by decide) (by decide) (by decide), fri_10 7 (by decide), fk 7 (by decide) (by decide)]
                  have hf2 : ri_11 2 = ri 2 := by rw [fk 2 (by decide) (by decide)]; exact yb 2 (by decide) (by decide) (by decide) (by decide) (by decide) (by decide) (by decide)
                  have hf3 : ri_11 3 = ri 3 := by rw [fk 3 (by decide) (by decide)]; exact yb 3 (by decide) (by decide) (by decide) (by decide) (by decide) (by decide) (by decide)
                  have hf10 : ri_11 10 = ri 10 := by rw [fk 10 (by decide) (by decide)]; exact yb 10 (by decide) (by decide) (by decide) (by decide) (by decide) (by decide) (by decide)
                  have hf20 : ri_11 20 2 = h9 ∧ ri_11 20 3 = p9 ∧ ri_11 20 4 = q9 ∧ ri_11 20 5 = w9 := by rw [fk 20 (by decide) (by decide), x20, hy.2 2 (by decide), hy.2 3 (by decide), hy.2 4 (by decide), hy.2 5 (by decide)]; exact ⟨b0s.2.2.1, b0s.2.2.2.1, b0s.2.2.2.2.1, b0s.2.2.2.2.2.1⟩
                  obtain ⟨f0, ef0⟩ : ∃ zz9, zz9 = ri_11 := ⟨_, rfl⟩
                  rw [← ef0] at hGf hTf hEf hf6 hf5 hf0 hf1 hf2 hf3 hf10 hf20 h
                  have hKf : ∀ (e9 : Nat → Nat → Nat) (ke p : Nat), WK K f0 e9 (ri 20 1) ke p → RK e9 K := fun e9 ke p hW => by
                    have e20 : e9 20 = f0 20 := hW.1 20 (by decide) (by decide)
                    refine RK.keep (ri := rs4 ri h9 p9 q9 w9) (n := ri 20 1) (fun p2 hp2 => ?_) (by rw [hW.1 10 (by decide) (by decide)]; exact hf10) (by rw [e20]; exact hf20.1) (by rw [e20]; exact hf20.2.1) (by rw [e20]; exact hf20.2.2.1) (by rw [e20]; exact hf20.2.2.2) hp9 hq9 hK
                    rw [hW.1 0 (by decide) (by decide), hW.1 1 (by decide) (by decide), hf0, hf1, us_n _ _ (by omega), us_n _ _ (by omega)]
                    exact ⟨rfl, rfl, fun a ha => by rw [hW.2.2.1 _ (by omega), hf2]; rfl, fun a ha => by rw [hW.2.1 _ (by omega), hf3]; rfl⟩
                  have hfg := hGf.1
                  have hff := hGf.2.1
                  have hfc := hEf.1
                  have hv9 : ∀ a, a < na_9 → K.2.2.2 (f0 5 (f0 9 a)) := fun a ha => (hEf.2.1 _ (hff a ha).1).1
                  refine lv_iconst (v := (nI 0)) C.x C.b dc_M_make_185 (by decide +kernel) ?_
                  refine lv_istore (lv' := [(7, .int (nI 0)), (6, .int (nI na_9)), (0, .ref (r 0))]) C.x C.b dc_M_make_186 hl (by decide) rfl (fun ls hl => ?_)
                  have hW1 : WK K f0 f0 (ri 20 1) 0 (3 * 0) := WK.rf
                  have lp_188 : ∀ (n_188 : Nat) (k : Nat) (e9 : Nat → Nat → Nat) (H : Heap) (locs : List Loc) (ls : Array Slot), na_9 - k < n_188 → (k ≤ na_9) → (WK K f0 e9 (ri 20 1) k (3 * k)) → sT Γ s (rW Γ r e9 rl wr) H locs → lv_has ls 9 [(7, .int (nI k)), (6, .int (nI na_9)), (0, .ref (r 0))] → W p l e rm_M_make s m args below meth c H locs 0 0 Q (F0 m 188 ls []) := by
                    intro n_188
                    induction n_188 with
                    | zero => intro k e9 H locs ls hms; exact absurd hms (Nat.not_lt_zero _)
                    | succ n_188 ih_188 =>
                      intro k e9 H locs ls hms hk hW h hl
                      have e20 : e9 20 = f0 20 := hW.1 20 (by decide) (by decide)
                      have e6 : e9 20 1 = ri 20 1 := by rw [e20]; omega
                      have e60 : e9 20 0 = f0 20 0 := by rw [e20]
                      refine lv_iload C.x C.b dc_M_make_188 (lv_at hl 0 rfl) ?_
                      refine lv_iload C.x C.b dc_M_make_190 (lv_at hl 1 rfl) ?_
                      refine bc_ge (tgt := 289) C (by omega) (by omega) dc_M_make_192 (by decide) (fun q192 => ?_) (fun q192 => ?_)
                      · refine lv_aload_n C.x C.b dc_M_make_289 rfl (lv_at hl 2 rfl) ?_
                        refine lv_dup C.x C.b dc_M_make_290 rfl ?_
                        refine rg_get C h 0 rfl rfl in_M 1 (by decide) fl_M_58 rfl dc_M_make_291 ?_
                        refine lv_iconst (v := (nI 1)) C.x C.b dc_M_make_294 (by decide +kernel) ?_
                        refine lv_iadd C.x C.b dc_M_make_295 ?_
                        refine tp_i (nI_add (e9 20 1) 1) ?_
                        refine rg_put (ty := .int) C h 0 rfl rfl in_M tk_M nm_M 1 (by decide) fl_M_58 rfl (by decide +kernel) rfl rfl (by simp) dc_M_make_296 (fun H locs h => ?_)
                        obtain ⟨ri_12, eri_12⟩ : ∃ zz9, zz9 = us e9 20 (us (e9 20) 1 ((e9 20 1) + 1)) := ⟨_, rfl⟩
                        have fri_12 : ∀ zk, zk ≠ 20 → ri_12 zk = e9 zk := fun zk hzk => by rw [eri_12, us_n _ _ hzk]
                        have gri_12 : ri_12 20 = us (e9 20) 1 ((e9 20 1) + 1) := by rw [eri_12, us_s]
                        have xri_12 : ri_12 20 0 = e9 20 0 ∧ ri_12 20 1 = (e9 20 1) + 1 ∧ ri_12 20 2 = e9 20 2 ∧ ri_12 20 3 = e9 20 3 ∧ ri_12 20 4 = e9 20 4 ∧ ri_12 20 5 = e9 20 5 ∧ ri_12 20 6 = e9 20 6 := by rw [gri_12]; exact ⟨us_n _ _ (by decide), us_s _ _ _, us_n _ _ (by decide), us_n _ _ (by decide), us_n _ _ (by decide), us_n _ _ (by decide), us_n _ _ (by decide)⟩
                        replace h : sT Γ s (rW Γ r ri_12 rl wr) H locs := by rw [eri_12]; exact h
                        refine lv_aload_n C.x C.b dc_M_make_299 rfl (lv_at hl 2 rfl) ?_
                        refine rg_get C h 0 rfl rfl in_M 1 (by decide) fl_M_58 rfl dc_M_make_300 ?_
                        refine lv_iconst (v := (nI 1)) C.x C.b dc_M_make_303 (by decide +kernel) ?_
                        refine lv_isub C.x C.b dc_M_make_304 ?_
                        refine tp_i (pk_sub (a := (ri_12 20 1)) (b := 1) (by omega)) ?_
                        have hke : k = na_9 := by omega
                        have n0 : ∀ zk, zk ≠ 20 → ri_12 zk = e9 zk := fri_12
                        have hfin := mk_lang (fi := ri_12) (s := ri 20 1) hn1 (by omega) hn10 hGf hTf hEf (by omega) hf5 (by rw [n0 0 (by decide), hW.1 0 (by decide) (by decide), hf0, us_s]) (by rw [n0 1 (by decide), hW.1 1 (by decide) (by decide), hf1, us_s]) (fun a ha => by rw [n0 3 (by decide)]; exact hW.2.2.2.1 a (by omega)) (fun i hi => by rw [n0 2 (by decide)]; exact hW.2.2.2.2 i (by omega))
                        have hsame : sS ri ri_12 (ri 20 1) := fun p2 hp2 => by
                          rw [n0 0 (by decide), n0 1 (by decide), n0 2 (by decide), n0 3 (by decide), hW.1 0 (by decide) (by decide), hW.1 1 (by decide) (by decide), hf0, hf1, us_n _ _ (by omega), us_n _ _ (by omega)]
                          exact ⟨rfl, rfl, fun a ha => by rw [hW.2.2.1 _ (by omega), hf2], fun a ha => by rw [hW.2.1 _ (by omega), hf3]⟩
                        rw [hQ]
                        exact rt_i C ri_12 h (Or.inr ⟨by omega, by omega, by rw [show ri_12 20 1 - 1 = ri 20 1 by omega], by omega, hsame, hfin.1, hfin.2⟩) dc_M_make_305
                      · have hkk : K.2.2.2 (f0 5 (f0 9 k)) := hv9 k (by omega)
                        have e5 : e9 5 = f0 5 := hW.1 5 (by decide) (by decide)
                        have e99 : e9 9 = f0 9 := hW.1 9 (by decide) (by decide)
                        have hfk := (hff k (by omega)).1
                        have hKe := hKf e9 _ _ hW
                        refine lv_aload_n C.x C.b dc_M_make_195 rfl (lv_at hl 2 rfl) ?_
                        refine rg_get C h 0 rfl rfl in_M 5 (by decide) fl_M_19 rfl dc_M_make_196 ?_
                        refine lv_bipush (v := (nI 10)) C.x C.b dc_M_make_199 (by decide +kernel) ?_
                        refine lv_aload_n C.x C.b dc_M_make_201 rfl (lv_at hl 2 rfl) ?_
                        refine rg_get C h 0 rfl rfl in_M 1 (by decide) fl_M_58 rfl dc_M_make_202 ?_
                        refine lv_imul C.x C.b dc_M_make_205 ?_
                        refine tp_i (pk_mul 10 (e9 20 1)) ?_
                        refine lv_iload C.x C.b dc_M_make_206 (lv_at hl 0 rfl) ?_
                        refine lv_iadd C.x C.b dc_M_make_208 ?_
                        refine tp_i (nI_add (10 * (e9 20 1)) k) ?_
                        refine lv_aload_n C.x C.b dc_M_make_209 rfl (lv_at hl 2 rfl) ?_
                        refine lv_aload_n C.x C.b dc_M_make_210 rfl (lv_at hl 2 rfl) ?_
                        refine rg_get C h 0 rfl rfl in_M 12 (by decide) fl_M_26 rfl dc_M_make_211 ?_
                        refine lv_aload_n C.x C.b dc_M_make_214 rfl (lv_at hl 2 rfl) ?_
                        refine rg_get C h 0 rfl rfl in_M 16 (by decide) fl_M_38 rfl dc_M_make_215 ?_
                        refine lv_iload C.x C.b dc_M_make_218 (lv_at hl 0 rfl) ?_
                        refine rg_ild C h 10 rfl (by omega) (by decide) dc_M_make_220 ?_
                        refine rg_ild C h 6 rfl (by rw [e99]; omega) (by decide) dc_M_make_221 ?_
                        refine kv_V (As := [.int (nI (e9 5 (e9 9 k)))]) (rest := [.int (nI ((10 * (e9 20 1)) + k)), .ref (r 4)]) C h hl.1 (c_M_isGood l Γ r e9 rl wr K hKe (e9 5 (e9 9 k)) (by rw [e5, e99]; exact hkk)) mw_M_isGood lk_M_89 (q0 := 0) rfl rfl rfl (by decide) (by decide) (Nat.le_of_ble_eq_true rfl) dc_M_make_222 (fun v u H locs hp h => ?_)
                        obtain rfl := hp
                        replace h : sT Γ s (rW Γ r e9 rl wr) _ _ := h
                        refine W.eq (g2 := F0 m 225 ls [.int (bI (K.2.2.1 (e9 5 (e9 9 k)))), .int (nI ((10 * (e9 20 1)) + k)), .ref (r 4)]) rfl ?_
                        rw [bI_n, e5, e99]
                        refine rg_zst C h 4 rfl (by omega) (by decide) (by cases K.2.2.1 (f0 5 (f0 9 k)) <;> decide) dc_M_make_225 (fun H locs h => ?_)
                        obtain ⟨ri_13, eri_13⟩ : ∃ zz9, zz9 = us e9 3 (us (e9 3) ((10 * (e9 20 1)) + k) ((K.2.2.1 (f0 5 (f0 9 k))).toNat)) := ⟨_, rfl⟩
                        have fri_13 : ∀ zk, zk ≠ 3 → ri_13 zk = e9 zk := fun zk hzk => by rw [eri_13, us_n _ _ hzk]
                        have gri_13 : ri_13 3 = us (e9 3) ((10 * (e9 20 1)) + k) ((K.2.2.1 (f0 5 (f0 9 k))).toNat) := by rw [eri_13, us_s]
                        have xri_13 : ri_13 20 0 = e9 20 0 ∧ ri_13 20 1 = e9 20 1 ∧ ri_13 20 2 = e9 20 2 ∧ ri_13 20 3 = e9 20 3 ∧ ri_13 20 4 = e9 20 4 ∧ ri_13 20 5 = e9 20 5 ∧ ri_13 20 6 = e9 20 6 := by rw [fri_13 20 (by decide)]; exact ⟨rfl, rfl, rfl, rfl, rfl, rfl, rfl⟩
                        replace h : sT Γ s (rW Γ r ri_13 rl wr) H locs := by rw [eri_13]; exact h
                        refine lv_iconst (v := (nI 0)) C.x C.b dc_M_make_226 (by decide +kernel) ?_
                        refine lv_istore (lv' := [(8, .int (nI 0)), (7, .int (nI k)), (6, .int (nI na_9)), (0, .ref (r 0))]) C.x C.b dc_M_make_227 hl (by decide) rfl (fun ls hl => ?_)
                        have hW1 : WK K f0 ri_13 (ri 20 1) (k + 1) (3 * k + 0) := hW.end (v := (K.2.2.1 (f0 5 (f0 9 k))).toNat) rfl fri_13 (by rw [gri_13, e6])
                        have lp_229 : ∀ (n_229 : Nat) (q : Nat) (t9 : Nat → Nat → Nat) (H : Heap) (locs : List Loc) (ls : Array Slot), 3 - q < n_229 → (q ≤ 3) → (WK K f0 t9 (ri 20 1) (k + 1) (3 * k + q)) → sT Γ s (rW Γ r t9 rl wr) H locs → lv_has ls 9 [(8, .int (nI q)), (7, .int (nI k)), (6, .int (nI na_9)), (0, .ref (r 0))] → W p l e rm_M_make s m args below meth c H locs 0 0 Q (F0 m 229 ls []) := by
                          intro n_229
                          induction n_229 with
                          | zero => intro q t9 H locs ls hms; exact absurd hms (Nat.not_lt_zero _)
                          | succ n_229 ih_229 =>
                            intro q t9 H locs ls hms hq hW h hl
                            have t20 : t9 20 = f0 20 := hW.1 20 (by decide) (by decide)
                            have t6 : t9 20 1 = ri 20 1 := by rw [t20]; omega
                            have t7 : t9 7 = f0 7 := hW.1 7 (by decide) (by decide)
                            have t66 : t9 6 = f0 6 := hW.1 6 (by decide) (by decide)
                            have t9_9 : t9 9 = f0 9 := hW.1 9 (by decide) (by decide)
                            refine lv_iload C.x C.b dc_M_make_229 (lv_at hl 0 rfl) ?_
                            refine lv_iconst (v := (nI 3)) C.x C.b dc_M_make_231 (by decide +kernel) ?_
                            refine bc_ge (tgt := 283) C (by omega) (by omega) dc_M_make_232 (by decide) (fun q232 => ?_) (fun q232 => ?_)
                            · refine lv_iinc (v := nI (k + 1)) (lv' := [(7, .int (nI (k + 1))), (8, .int (nI q)), (6, .int (nI na_9)), (0, .ref (r 0))]) C.x C.b dc_M_make_283 hl (k := 1) rfl (nI_1 k) (by decide) rfl (fun ls hl => ?_)
                              refine lv_goto (tgt := 188) C.x C.b dc_M_make_286 (by decide) ?_
                              have q3 : q = 3 := by omega
                              have hW1 : WK K f0 t9 (ri 20 1) (k + 1) (3 * (k + 1)) := by rw [show 3 * (k + 1) = 3 * k + q by omega]; exact hW
                              exact ih_188 (k + 1) t9 _ _ _ (by omega) (by first | assumption | omega) (hW1) h (lv_sub hl [0, 2, 3] rfl)
                            · have hfk := (hff k (by omega)).1
                              have hto9 := (hTf (f0 9 k) q hfk (by omega)).1
                              refine lv_aload_n C.x C.b dc_M_make_235 rfl (lv_at hl 3 rfl) ?_
                              refine rg_get C h 0 rfl rfl in_M 4 (by decide) fl_M_16 rfl dc_M_make_236 ?_
                              refine lv_iconst (v := (nI 3)) C.x C.b dc_M_make_239 (by decide +kernel) ?_
                              refine lv_bipush (v := (nI 10)) C.x C.b dc_M_make_240 (by decide +kernel) ?_
                              refine lv_aload_n C.x C.b dc_M_make_242 rfl (lv_at hl 3 rfl) ?_
                              refine rg_get C h 0 rfl rfl in_M 1 (by decide) fl_M_58 rfl dc_M_make_243 ?_
                              refine lv_imul C.x C.b dc_M_make_246 ?_
                              refine tp_i (pk_mul 10 (t9 20 1)) ?_
                              refine lv_iload C.x C.b dc_M_make_247 (lv_at hl 1 rfl) ?_
                              refine lv_iadd C.x C.b dc_M_make_249 ?_
                              refine tp_i (nI_add (10 * (t9 20 1)) k) ?_
                              refine lv_imul C.x C.b dc_M_make_250 ?_
                              refine tp_i (pk_mul 3 ((10 * (t9 20 1)) + k)) ?_
                              refine lv_iload C.x C.b dc_M_make_251 (lv_at hl 0 rfl) ?_
                              refine lv_iadd C.x C.b dc_M_make_253 ?_
                              refine tp_i (nI_add (3 * ((10 * (t9 20 1)) + k)) q) ?_
                              refine lv_aload_n C.x C.b dc_M_make_254 rfl (lv_at hl 3 rfl) ?_
                              refine rg_get C h 0 rfl rfl in_M 14 (by decide) fl_M_32 rfl dc_M_make_255 ?_
                              refine lv_aload_n C.x C.b dc_M_make_258 rfl (lv_at hl 3 rfl) ?_
                              refine rg_get C h 0 rfl rfl in_M 13 (by decide) fl_M_29 rfl dc_M_make_259 ?_
                              refine lv_iconst (v := (nI 3)) C.x C.b dc_M_make_262 (by decide +kernel) ?_
                              refine lv_aload_n C.x C.b dc_M_make_263 rfl (lv_at hl 3 rfl) ?_
                              refine rg_get C h 0 rfl rfl in_M 16 (by decide) fl_M_38 rfl dc_M_make_264 ?_
                              refine lv_iload C.x C.b dc_M_make_267 (lv_at hl 1 rfl) ?_
                              refine rg_ild C h 10 rfl (by omega) (by decide) dc_M_make_269 ?_
                              refine lv_imul C.x C.b dc_M_make_270 ?_
                              refine tp_i (pk_mul 3 (t9 9 k)) ?_
                              refine lv_iload C.x C.b dc_M_make_271 (lv_at hl 0 rfl) ?_
                              refine lv_iadd C.x C.b dc_M_make_273 ?_
                              refine tp_i (nI_add (3 * (t9 9 k)) q) ?_
                              refine rg_ild C h 7 rfl (by rw [t9_9]; omega) (by decide) dc_M_make_274 ?_
                              refine rg_ild C h 8 rfl (by rw [t66, t9_9]; omega) (by decide) dc_M_make_275 ?_
                              refine rg_ist C h 3 rfl (by omega) (by decide) dc_M_make_276 (fun H locs h => ?_)
                              obtain ⟨ri_14, eri_14⟩ : ∃ zz9, zz9 = us t9 2 (us (t9 2) ((3 * ((10 * (t9 20 1)) + k)) + q) (t9 7 (t9 6 ((3 * (t9 9 k)) + q)))) := ⟨_, rfl⟩
                              have fri_14 : ∀ zk, zk ≠ 2 → ri_14 zk = t9 zk := fun zk hzk => by rw [eri_14, us_n _ _ hzk]
                              have gri_14 : ri_14 2 = us (t9 2) ((3 * ((10 * (t9 20 1)) + k)) + q) (t9 7 (t9 6 ((3 * (t9 9 k)) + q))) := by rw [eri_14, us_s]
                              have xri_14 : ri_14 20 0 = t9 20 0 ∧ ri_14 20 1 = t9 20 1 ∧ ri_14 20 2 = t9 20 2 ∧ ri_14 20 3 = t9 20 3 ∧ ri_14 20 4 = t9 20 4 ∧ ri_14 20 5 = t9 20 5 ∧ ri_14 20 6 = t9 20 6 := by rw [fri_14 20 (by decide)]; exact ⟨rfl, rfl, rfl, rfl, rfl, rfl, rfl⟩
                              replace h : sT Γ s (rW Γ r ri_14 rl wr) H locs := by rw [eri_14]; exact h
                              refine lv_iinc (v := nI (q + 1)) (lv' := [(8, .int (nI (q + 1))), (7, .int (nI k)), (6, .int (nI na_9)), (0, .ref (r 0))]) C.x C.b dc_M_make_277 hl (k := 0) rfl (nI_1 q) (by decide) rfl (fun ls hl => ?_)
                              refine lv_goto (tgt := 229) C.x C.b dc_M_make_280 (by decide) ?_
                              have hW1 : WK K f0 ri_14 (ri 20 1) (k + 1) (3 * k + q + 1) := hW.let (v := f0 7 (f0 6 (3 * f0 9 k + q))) (by rw [show (3 * k + q) / 3 = k by omega, show (3 * k + q) % 3 = q by omega]) fri_14 (by rw [gri_14, t6, show 3 * (10 * ri 20 1 + k) + q = 30 * ri 20 1 + (3 * k + q) by omega, t7, t66, t9_9])
                              exact ih_229 (q + 1) ri_14 _ _ _ (by omega) (by first | assumption | omega) (hW1) h (lv_sub hl [0, 1, 2, 3] rfl)
                        exact lp_229 _ 0 ri_13 _ _ _ (Nat.lt_succ_self _) (by first | assumption | omega) (hW1) h (lv_sub hl [0, 1, 2, 3] rfl)
                  exact lp_188 _ 0 f0 _ _ _ (Nat.lt_succ_self _) (by first | assumption | omega) (hW1) h (lv_sub hl [0, 1, 2] rfl)
                · refine lv_aload_n C.x C.b dc_M_make_152 rfl (lv_at hl 1 rfl) ?_
                  refine lv_iconst (v := (nI 2)) C.x C.b dc_M_make_153 (by decide +kernel) ?_
                  refine rg_put (ty := .int) C h 0 rfl rfl in_M tk_M nm_M 0 (by decide) fl_M_54 rfl (by decide +kernel) rfl rfl (by simp) dc_M_make_154 (fun H locs h => ?_)
                  obtain ⟨ri_15, eri_15⟩ : ∃ zz9, zz9 = us ri_8 20 (us (ri_8 20) 0 2) := ⟨_, rfl⟩
                  have fri_15 : ∀ zk, zk ≠ 20 → ri_15 zk = ri_8 zk := fun zk hzk => by rw [eri_15, us_n _ _ hzk]
                  have gri_15 : ri_15 20 = us (ri_8 20) 0 2 := by rw [eri_15, us_s]
                  have xri_15 : ri_15 20 0 = 2 ∧ ri_15 20 1 = ri_8 20 1 ∧ ri_15 20 2 = ri_8 20 2 ∧ ri_15 20 3 = ri_8 20 3 ∧ ri_15 20 4 = ri_8 20 4 ∧ ri_15 20 5 = ri_8 20 5 ∧ ri_15 20 6 = ri_8 20 6 := by rw [gri_15]; exact ⟨us_s _ _ _, us_n _ _ (by decide), us_n _ _ (by decide), us_n _ _ (by decide), us_n _ _ (by decide), us_n _ _ (by decide), us_n _ _ (by decide)⟩
                  replace h : sT Γ s (rW Γ r ri_15 rl wr) H locs := by rw [eri_15]; exact h
                  refine lv_iconst (v := (nI 0)) C.x C.b dc_M_make_157 (by decide +kernel) ?_
                  have hmn : MN K := aR_ri_8.elim (fun z9 => z9.2) (fun z9 => by omega)
                  rw [hQ]
                  exact rt_i C ri_15 h (Or.inl ⟨by omega, rfl, Or.inr hmn, by omega, sS.of (by rw [fri_15 0 (by decide)]; exact yb 0 (by decide) (by decide) (by decide) (by decide) (by decide) (by decide) (by decide)) (by rw [fri_15 1 (by decide)]; exact yb 1 (by decide) (by decide) (by decide) (by decide) (by decide) (by decide) (by decide)) (by rw [fri_15 2 (by decide)]; exact yb 2 (by decide) (by decide) (by decide) (by decide) (by decide) (by decide) (by decide)) (by rw [fri_15 3 (by decide)]; exact yb 3 (by decide) (by decide) (by decide) (by decide) (by decide) (by decide) (by decide))⟩) dc_M_make_158
              · refine lv_iconst (v := (nI 0)) C.x C.b dc_M_make_89 (by decide +kernel) ?_
                refine lv_istore (lv' := [(7, .int (nI 0)), (6, .int (nI i9)), (0, .ref (r 0))]) C.x C.b dc_M_make_90 hl (by decide) rfl (fun ls hl => ?_)
                have hE1 := hE
                have hy1 := hy
                have hy01 := hy0
                have hTP1 := hTP
                have hiy1 : i9 < y 20 6 := by omega
                have lp_92 : ∀ (n_92 : Nat) (q : Nat) (y : Nat → Nat → Nat) (H : Heap) (locs : List Loc) (ls : Array Slot), 3 - q < n_92 → (q ≤ 3) → (i9 < y 20 6) → (EI K y 10242) → ((∀ zk, zk ≠ 4 → zk ≠ 5 → zk ≠ 6 → zk ≠ 20 → y zk = b0 zk) ∧ (∀ j, j ≠ 6 → y 20 j = b0 20 j)) → (1 ≤ y 20 6 ∧ y 5 0 = K.1) → (TP K y i9 q) → sT Γ s (rW Γ r y rl wr) H locs → lv_has ls 9 [(7, .int (nI q)), (6, .int (nI i9)), (0, .ref (r 0))] → W p l e rm_M_make s m args below meth c H locs 0 0 Q (F0 m 92 ls []) := by
                  intro n_92
                  induction n_92 with
                  | zero => intro q y H locs ls hms; exact absurd hms (Nat.not_lt_zero _)
                  | succ n_92 ih_92 =>
                    intro q y H locs ls hms hq hiy hE hy hy0 hTP h hl
                    have hEc := hE.1
                    have hKy : RK y K := RK.same (hy.1 0 (by decide) (by decide) (by decide) (by decide)) (hy.1 1 (by decide) (by decide) (by decide) (by decide)) (hy.1 2 (by decide) (by decide) (by decide) (by decide)) (hy.1 3 (by decide) (by decide) (by decide) (by decide)) (hy.1 10 (by decide) (by decide) (by decide) (by decide)) (hy.2 2 (by decide)) (hy.2 3 (by decide)) (hy.2 4 (by decide)) (hy.2 5 (by decide)) hKb
                    have hvi := (hE.2.1 i9 hiy).1
                    refine lv_iload C.x C.b dc_M_make_92 (lv_at hl 0 rfl) ?_
                    refine lv_iconst (v := (nI 3)) C.x C.b dc_M_make_94 (by decide +kernel) ?_
                    refine bc_ge (tgt := 133) C (by omega) (by omega) dc_M_make_95 (by decide) (fun q95 => ?_) (fun q95 => ?_)
                    · refine lv_iinc (v := nI (i9 + 1)) (lv' := [(6, .int (nI (i9 + 1))), (7, .int (nI q)), (0, .ref (r 0))]) C.x C.b dc_M_make_133 hl (k := 1) rfl (nI_1 i9) (by decide) rfl (fun ls hl => ?_)
                      refine lv_goto (tgt := 80) C.x C.b dc_M_make_136 (by decide) ?_
                      have hE1 := hE
                      have hy1 := hy
                      have hy01 := hy0
                      have q3 : q = 3 := by omega
                      rw [q3] at hTP
                      have hTP1 := hTP.row
                      exact ih_80 (i9 + 1) y _ _ _ (by omega) (by omega) (hE1) (hy1) (hy01) (hTP1) h (lv_sub hl [0, 2] rfl)
                    · refine lv_aload_n C.x C.b dc_M_make_98 rfl (lv_at hl 2 rfl) ?_
                      refine rg_get C h 0 rfl rfl in_M 13 (by decide) fl_M_29 rfl dc_M_make_99 ?_
                      refine lv_iconst (v := (nI 3)) C.x C.b dc_M_make_102 (by decide +kernel) ?_
                      refine lv_iload C.x C.b dc_M_make_103 (lv_at hl 1 rfl) ?_
                      refine lv_imul C.x C.b dc_M_make_105 ?_
                      refine tp_i (pk_mul 3 i9) ?_
                      refine lv_iload C.x C.b dc_M_make_106 (lv_at hl 0 rfl) ?_
                      refine lv_iadd C.x C.b dc_M_make_108 ?_
                      refine tp_i (nI_add (3 * i9) q) ?_
                      refine lv_aload_n C.x C.b dc_M_make_109 rfl (lv_at hl 2 rfl) ?_
                      refine lv_aload_n C.x C.b dc_M_make_110 rfl (lv_at hl 2 rfl) ?_
                      refine lv_aload_n C.x C.b dc_M_make_111 rfl (lv_at hl 2 rfl) ?_
                      refine rg_get C h 0 rfl rfl in_M 12 (by decide) fl_M_26 rfl dc_M_make_112 ?_
                      refine lv_iload C.x C.b dc_M_make_115 (lv_at hl 1 rfl) ?_
                      refine rg_ild C h 6 rfl (by omega) (by decide) dc_M_make_117 ?_
                      refine lv_iload C.x C.b dc_M_make_118 (lv_at hl 0 rfl) ?_
                      refine kv_V (As := [.int (nI (y 5 i9)), .int (nI q)]) (rest := [.ref (r 0), .int (nI ((3 * i9) + q)), .ref (r 7)]) C h hl.1 (c_M_step l Γ r y rl wr K hKy (y 5 i9) q hvi (by omega)) mw_M_step lk_M_104 (q0 := 0) rfl rfl rfl (by decide) (by decide) (Nat.le_of_ble_eq_true rfl) dc_M_make_120 (fun v u H locs hp h => ?_)
                      obtain rfl := hp
                      replace h : sT Γ s (rW Γ r y rl wr) _ _ := h
                      refine W.eq (g2 := F0 m 123 ls [.int (nI (K.2.1 (y 5 i9) q)), .ref (r 0), .int (nI ((3 * i9) + q)), .ref (r 7)]) rfl ?_
                      refine kv_V (As := [.int (nI (K.2.1 (y 5 i9) q))]) (rest := [.int (nI ((3 * i9) + q)), .ref (r 7)]) C h hl.1 (c_M_come l Γ r y rl wr K 10242 (K.2.1 (y 5 i9) q) (Nat.le_refl _) hok.2.2 hE (hok.2.1 _ _ hvi (by omega)) (by obtain ⟨w, w1, w2⟩ := hE.2.2.2 i9 hiy; exact ⟨w ++ [q], lts_app w1 (lts_cons (by omega) lts_nil), by rw [mrun_snoc, w2]⟩)) mw_M_come lk_M_100 (q0 := 0) rfl rfl rfl (by decide) (by decide) (Nat.le_of_ble_eq_true rfl) dc_M_make_123 (fun v u H locs hp h => ?_)
                      obtain ⟨⟨jc_17, ri_16⟩, rfl⟩ : ∃ zz9, zz9 = u := ⟨_, rfl⟩
                      obtain ⟨rfl, cE_ri_16, cX_ri_16, cl_ri_16, ce_ri_16, cz_ri_16⟩ := hp
                      dsimp only at cE_ri_16 cX_ri_16 cl_ri_16 ce_ri_16 cz_ri_16
                      replace h : sT Γ s (rW Γ r ri_16 rl wr) _ _ := h
                      refine W.eq (g2 := F0 m 126 ls [.int (nI jc_17), .int (nI ((3 * i9) + q)), .ref (r 7)]) rfl ?_
                      refine rg_ist C h 7 rfl (by omega) (by decide) dc_M_make_126 (fun H locs h => ?_)
                      obtain ⟨ri_18, eri_18⟩ : ∃ zz9, zz9 = us ri_16 6 (us (ri_16 6) ((3 * i9) + q) jc_17) := ⟨_, rfl⟩
                      have fri_18 : ∀ zk, zk ≠ 6 → ri_18 zk = ri_16 zk := fun zk hzk => by rw [eri_18, us_n _ _ hzk]
                      have gri_18 : ri_18 6 = us (ri_16 6) ((3 * i9) + q) jc_17 := by rw [eri_18, us_s]
                      have xri_18 : ri_18 20 0 = ri_16 20 0 ∧ ri_18 20 1 = ri_16 20 1 ∧ ri_18 20 2 = ri_16 20 2 ∧ ri_18 20 3 = ri_16 20 3 ∧ ri_18 20 4 = ri_16 20 4 ∧ ri_18 20 5 = ri_16 20 5 ∧ ri_18 20 6 = ri_16 20 6 := by rw [fri_18 20 (by decide)]; exact ⟨rfl, rfl, rfl, rfl, rfl, rfl, rfl⟩
                      replace h : sT Γ s (rW Γ r ri_18 rl wr) H locs := by rw [eri_18]; exact h
                      refine lv_iinc (v := nI (q + 1)) (lv' := [(7, .int (nI (q + 1))), (6, .int (nI i9)), (0, .ref (r 0))]) C.x C.b dc_M_make_127 hl (k := 0) rfl (nI_1 q) (by decide) rfl (fun ls hl => ?_)
                      refine lv_goto (tgt := 92) C.x C.b dc_M_make_130 (by decide) ?_
                      have hy1 : (∀ zk, zk ≠ 4 → zk ≠ 5 → zk ≠ 6 → zk ≠ 20 → ri_18 zk = b0 zk) ∧ (∀ j, j ≠ 6 → ri_18 20 j = b0 20 j) := ⟨fun zk a b c9 d9 => (fri_18 zk c9).trans ((cX_ri_16.1 zk a b d9).trans (hy.1 zk a b c9 d9)), fun j9 hj9 => by rw [fri_18 20 (by decide)]; exact (cX_ri_16.2.1 j9 hj9).trans (hy.2 j9 hj9)⟩
                      have e20 : ri_18 20 = ri_16 20 := fri_18 20 (by decide)
                      have e5 : ri_18 5 = ri_16 5 := fri_18 5 (by decide)
                      have e4 : ri_18 4 = ri_16 4 := fri_18 4 (by decide)
                      have cge := cX_ri_16.2.2.1
                      have hy01 : 1 ≤ ri_18 20 6 ∧ ri_18 5 0 = K.1 := ⟨by rw [e20]; omega, by rw [e5, cX_ri_16.2.2.2 0 (by omega)]; exact hy0.2⟩
                      have hE1 : EI K ri_18 10242 := by unfold EI; rw [e20, e5, e4]; exact cE_ri_16
                      have hTP1 : TP K ri_18 i9 (q + 1) := hTP.step hiy (by omega) cX_ri_16 cl_ri_16 ce_ri_16 gri_18 e5 e20
                      have hiy1 : i9 < ri_18 20 6 := by rw [e20]; omega
                      exact ih_92 (q + 1) ri_18 _ _ _ (by omega) (by first | assumption | omega) (hiy1) (hE1) (hy1) (hy01) (hTP1) h (lv_sub hl [0, 1, 2] rfl)
                exact lp_92 _ 0 y _ _ _ (Nat.lt_succ_self _) (by first | assumption | omega) (hiy1) (hE1) (hy1) (hy01) (hTP1) h (lv_sub hl [0, 1, 2] rfl)
          exact lp_80 _ 0 ri_6 _ _ _ (Nat.lt_succ_self _) (by omega) (hE1) (hy1) (hy01) (hTP1) h (lv_sub hl [0, 2] rfl)
        · refine lv_aload_n C.x C.b dc_M_make_53 rfl (lv_at hl 1 rfl) ?_
          refine rg_get C h 0 rfl rfl in_M 11 (by decide) fl_M_23 rfl dc_M_make_54 ?_
          refine lv_iload C.x C.b dc_M_make_57 (lv_at hl 0 rfl) ?_
          refine lv_iconst (v := (mI 0)) C.x C.b dc_M_make_59 (by decide +kernel) ?_
          refine rg_mst C h 5 rfl (by omega) (by decide) dc_M_make_60 (fun H locs h => ?_)
          obtain ⟨ri_19, eri_19⟩ : ∃ zz9, zz9 = us z 4 (us (z 4) k 0) := ⟨_, rfl⟩
          have fri_19 : ∀ zk, zk ≠ 4 → ri_19 zk = z zk := fun zk hzk => by rw [eri_19, us_n _ _ hzk]
          have gri_19 : ri_19 4 = us (z 4) k 0 := by rw [eri_19, us_s]
          have xri_19 : ri_19 20 0 = z 20 0 ∧ ri_19 20 1 = z 20 1 ∧ ri_19 20 2 = z 20 2 ∧ ri_19 20 3 = z 20 3 ∧ ri_19 20 4 = z 20 4 ∧ ri_19 20 5 = z 20 5 ∧ ri_19 20 6 = z 20 6 := by rw [fri_19 20 (by decide)]; exact ⟨rfl, rfl, rfl, rfl, rfl, rfl, rfl⟩
          replace h : sT Γ s (rW Γ r ri_19 rl wr) H locs := by rw [eri_19]; exact h
          refine lv_iinc (v := nI (k + 1)) (lv' := [(5, .int (nI (k + 1))), (0, .ref (r 0))]) C.x C.b dc_M_make_61 hl (k := 0) rfl (nI_1 k) (by decide) rfl (fun ls hl => ?_)
          refine lv_goto (tgt := 45) C.x C.b dc_M_make_64 (by decide) ?_
          have hz1 : ∀ zk, zk ≠ 4 → ri_19 zk = b0 zk := fun zk hzk => (fri_19 zk hzk).trans (hz zk hzk)
          have h41 : ∀ j, j < k + 1 → ri_19 4 j = 0 := fun j hj => by
            rw [gri_19]
            by_cases e9 : j = k
            · rw [e9, us_s]
            · rw [us_n _ _ e9]; exact h4 j (by omega)
          exact ih_45 (k + 1) ri_19 _ _ _ (by omega) (by first | assumption | omega) (hz1) (h41) h (lv_sub hl [0, 1] rfl)
    exact lp_45 _ 0 b0 _ _ _ (Nat.lt_succ_self _) (by first | assumption | omega) (hz1) (h41) h (lv_sub hl [0, 1] rfl)
  · refine lv_aload_n C.x C.b dc_M_make_9 rfl (lv_at hl 0 rfl) ?_
    refine lv_iconst (v := (nI 2)) C.x C.b dc_M_make_10 (by decide +kernel) ?_
    refine rg_put (ty := .int) C h 0 rfl rfl in_M tk_M nm_M 0 (by decide) fl_M_54 rfl (by decide +kernel) rfl rfl (by simp) dc_M_make_11 (fun H locs h => ?_)
    obtain ⟨ri_20, eri_20⟩ : ∃ zz9, zz9 = us ri 20 (us (ri 20) 0 2) := ⟨_, rfl⟩
    have fri_20 : ∀ zk, zk ≠ 20 → ri_20 zk = ri zk := fun zk hzk => by rw [eri_20, us_n _ _ hzk]
    have gri_20 : ri_20 20 = us (ri 20) 0 2 := by rw [eri_20, us_s]
    have xri_20 : ri_20 20 0 = 2 ∧ ri_20 20 1 = ri 20 1 ∧ ri_20 20 2 = ri 20 2 ∧ ri_20 20 3 = ri 20 3 ∧ ri_20 20 4 = ri 20 4 ∧ ri_20 20 5 = ri 20 5 ∧ ri_20 20 6 = ri 20 6 := by rw [gri_20]; exact ⟨us_s _ _ _, us_n _ _ (by decide), us_n _ _ (by decide), us_n _ _ (by decide), us_n _ _ (by decide), us_n _ _ (by decide), us_n _ _ (by decide)⟩
    replace h : sT Γ s (rW Γ r ri_20 rl wr) H locs := by rw [eri_20]; exact h
    refine lv_iconst (v := (nI 0)) C.x C.b dc_M_make_14 (by decide +kernel) ?_
    rw [hQ]
    exact rt_i C ri_20 h (Or.inl ⟨by omega, rfl, Or.inl q6, by omega, sS.of (fri_20 0 (by decide)) (fri_20 1 (by decide)) (fri_20 2 (by decide)) (fri_20 3 (by decide))⟩) dc_M_make_15

