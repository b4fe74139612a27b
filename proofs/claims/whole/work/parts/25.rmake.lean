/-! the reference's exploration -/
def EI (K : mM) (ri : Nat → Nat → Nat) (B : Nat) : Prop :=
  ri 20 6 ≤ B ∧ (∀ i, i < ri 20 6 → K.2.2.2 (ri 5 i) ∧ ri 4 (ri 5 i) = i + 1) ∧ (∀ c, c < B → ri 4 c ≠ 0 → ri 4 c ≤ ri 20 6 ∧ ri 5 (ri 4 c - 1) = c) ∧ ∀ i, i < ri 20 6 → ∃ w, lts w ∧ mrun K K.1 w = ri 5 i
def eX (ri ri2 : Nat → Nat → Nat) : Prop := (∀ k, k ≠ 4 → k ≠ 5 → k ≠ 20 → ri2 k = ri k) ∧ (∀ j, j ≠ 6 → ri2 20 j = ri 20 j) ∧ ri 20 6 ≤ ri2 20 6 ∧ ∀ i, i < ri 20 6 → ri2 5 i = ri 5 i
theorem eX.rf {ri : Nat → Nat → Nat} : eX ri ri := ⟨fun _ _ _ _ => rfl, fun _ _ => rfl, Nat.le_refl _, fun _ _ => rfl⟩
theorem eX.tr {a b c : Nat → Nat → Nat} (h : eX a b) (g : eX b c) : eX a c := ⟨fun k x y z => (g.1 k x y z).trans (h.1 k x y z), fun j hj => (g.2.1 j hj).trans (h.2.1 j hj), Nat.le_trans h.2.2.1 g.2.2.1, fun i hi => (g.2.2.2 i (Nat.lt_of_lt_of_le hi h.2.2.1)).trans (h.2.2.2 i hi)⟩
theorem RK.eX {ri ri2 : Nat → Nat → Nat} {K : mM} (h : eX ri ri2) (k : RK ri K) : RK ri2 K :=
  RK.same (h.1 0 (by decide) (by decide) (by decide)) (h.1 1 (by decide) (by decide) (by decide)) (h.1 2 (by decide) (by decide) (by decide)) (h.1 3 (by decide) (by decide) (by decide)) (h.1 10 (by decide) (by decide) (by decide)) (h.2.1 2 (by decide)) (h.2.1 3 (by decide)) (h.2.1 4 (by decide)) (h.2.1 5 (by decide)) k
def cmR (ri : Nat → Nat → Nat) (c : Nat) (ri2 : Nat → Nat → Nat) : Prop := ri2 4 = us (ri 4) c (ri 20 6 + 1) ∧ ri2 5 = us (ri 5) (ri 20 6) c ∧ ri2 20 = us (ri 20) 6 (ri 20 6 + 1) ∧ ∀ k, k ≠ 4 → k ≠ 5 → k ≠ 20 → ri2 k = ri k
theorem EI.room {K : mM} {ri : Nat → Nat → Nat} {B c : Nat} (hb : ∀ q, K.2.2.2 q → q < B) (h : EI K ri B) (hc : c < B) (h0 : ri 4 c = 0) : ri 20 6 < B := by
  have := pig B (ri 20 6 + 1) (fun i => if i < ri 20 6 then ri 5 i else c) (fun i hi => by
    split
    · exact hb _ (h.2.1 i (by omega)).1
    · exact hc) (fun i j hi hj e => by
    split at e <;> split at e
    · rename_i a b
      have x := (h.2.1 i a).2
      have y := (h.2.1 j b).2
      rw [e] at x; omega
    · rename_i a b
      have x := (h.2.1 i a).2
      rw [e] at x; omega
    · rename_i a b
      have x := (h.2.1 j b).2
      rw [← e] at x; omega
    · omega)
  omega
theorem EI.come {K : mM} {ri ri2 : Nat → Nat → Nat} {B c : Nat} (hb : ∀ q, K.2.2.2 q → q < B) (h : EI K ri B) (hv : K.2.2.2 c) (h0 : ri 4 c = 0) (hw : ∃ w, lts w ∧ mrun K K.1 w = c) (r : cmR ri c ri2) : EI K ri2 B ∧ eX ri ri2 ∧ ri2 20 6 = ri 20 6 + 1 ∧ ri2 5 (ri 20 6) = c := by
  have hr := h.room hb (hb _ hv) h0
  obtain ⟨a1, a2, a3, a7⟩ := h
  obtain ⟨r0, r1, r10, rk⟩ := r
  have e0 : ri2 20 6 = ri 20 6 + 1 := by rw [r10, us_s]
  have p1 : ∀ i, i < ri 20 6 → ri2 5 i = ri 5 i := fun i hi => by rw [r1, us_n _ _ (by omega)]
  have pn : ri2 5 (ri 20 6) = c := by rw [r1, us_s]
  have ne : ∀ i, i < ri 20 6 → ri 5 i ≠ c := fun i hi e => by have := (a2 i hi).2; rw [e] at this; omega
  refine ⟨⟨by omega, fun i hi => ?_, fun q hq hz => ?_, fun i hi => ?_⟩, ⟨rk, fun j hj => by rw [r10, us_n _ _ hj], by omega, p1⟩, e0, pn⟩
  · by_cases hi2 : i < ri 20 6
    · rw [p1 i hi2, r0, us_n _ _ (ne i hi2)]; exact a2 i hi2
    · have : i = ri 20 6 := by omega
      subst this
      rw [pn, r0, us_s]; exact ⟨hv, rfl⟩
  · by_cases hqp : q = c
    · subst hqp
      rw [r0, us_s, e0]
      exact ⟨Nat.le_refl _, by rw [Nat.add_sub_cancel]; exact pn⟩
    · rw [r0, us_n _ _ hqp] at hz ⊢
      obtain ⟨x, y⟩ := a3 q hq hz
      exact ⟨by omega, by rw [p1 _ (by omega)]; exact y⟩
  · by_cases hi2 : i < ri 20 6
    · rw [p1 i hi2]; exact a7 i hi2
    · have : i = ri 20 6 := by omega
      subst this
      rw [pn]; exact hw
/-- where the codes' letters lead -/
def TO (K : mM) (ri : Nat → Nat → Nat) : Prop := ∀ i l, i < ri 20 6 → l < 3 → ri 6 (3 * i + l) < ri 20 6 ∧ ri 5 (ri 6 (3 * i + l)) = K.2.1 (ri 5 i) l
/-! refinement -/
def DS (K : mM) (a b : Nat) : Prop := ∃ w, lts w ∧ macc K a w ≠ macc K b w
def AL (g to : Nat → Nat) (i j : Nat) : Prop := g i = g j ∧ ∀ l, l < 3 → g (to (3 * i + l)) = g (to (3 * j + l))
theorem AL.rf {g to : Nat → Nat} {i : Nat} : AL g to i i := ⟨rfl, fun _ _ => rfl⟩
theorem AL.sy {g to : Nat → Nat} {i j : Nat} (h : AL g to i j) : AL g to j i := ⟨h.1.symm, fun l hl => (h.2 l hl).symm⟩
theorem AL.tr {g to : Nat → Nat} {i j k : Nat} (h : AL g to i j) (h2 : AL g to j k) : AL g to i k := ⟨h.1.trans h2.1, fun l hl => (h.2 l hl).trans (h2.2 l hl)⟩
def IN (g to fi ot : Nat → Nat) (i c : Nat) : Prop := c ≤ 10 ∧ c ≤ i ∧ (∀ k, k < c → fi k < i) ∧ (∀ a b, a < b → b < c → ¬ AL g to (fi a) (fi b)) ∧ ∀ j, j < i → ot j < c ∧ AL g to j (fi (ot j))
theorem IN.old {g to fi ot ot2 : Nat → Nat} {i c k : Nat} (h : IN g to fi ot i c) (hk : k < c) (ha : AL g to i (fi k)) (e : ot2 = us ot i k) : IN g to fi ot2 (i + 1) c := by
  subst e
  obtain ⟨a1, a2, a3, a4, a5⟩ := h
  refine ⟨a1, by omega, fun k hk => by have := a3 k hk; omega, a4, fun j hj => ?_⟩
  by_cases e : j = i
  · subst e; rw [us_s]; exact ⟨hk, ha⟩
  · rw [us_n _ _ e]; exact a5 j (by omega)
theorem IN.new {g to fi fi2 ot ot2 : Nat → Nat} {i c : Nat} (h : IN g to fi ot i c) (hc : c < 10) (hn : ∀ k, k < c → ¬ AL g to i (fi k)) (e1 : fi2 = us fi c i) (e2 : ot2 = us ot i c) : IN g to fi2 ot2 (i + 1) (c + 1) := by
  subst e1 e2
  obtain ⟨a1, a2, a3, a4, a5⟩ := h
  refine ⟨by omega, by omega, fun k hk => ?_, fun a b hab hb => ?_, fun j hj => ?_⟩
  · by_cases e : k = c
    · subst e; rw [us_s]; omega
    · rw [us_n _ _ e]; have := a3 k (by omega); omega
  · by_cases e : b = c
    · subst e
      rw [us_s, us_n _ _ (by omega)]
      exact fun z => hn a (by omega) z.sy
    · rw [us_n _ _ e, us_n _ _ (by omega)]; exact a4 a b hab (by omega)
  · by_cases e : j = i
    · subst e; rw [us_s, us_s]; exact ⟨by omega, AL.rf⟩
    · rw [us_n ot c e]
      obtain ⟨x, y⟩ := a5 j (by omega)
      rw [us_n fi i (by omega)]
      exact ⟨by omega, y⟩
theorem surj_le {c m : Nat} (f : Nat → Nat) (h : ∀ k, k < m → ∃ x, x < c ∧ f x = k) : m ≤ c := by
  refine pig c m (fun k => if hk : k < m then Classical.choose (h k hk) else 0) (fun i hi => ?_) (fun i j hi hj e => ?_)
  · rw [dif_pos hi]; exact (Classical.choose_spec (h i hi)).1
  · rw [dif_pos hi, dif_pos hj] at e
    have a := (Classical.choose_spec (h i hi)).2
    have b := (Classical.choose_spec (h j hj)).2
    rw [e] at a; omega
theorem surj_inj {c : Nat} (f : Nat → Nat) (h : ∀ k, k < c → ∃ x, x < c ∧ f x = k) {x y : Nat} (hx : x < c) (hy : y < c) (e : f x = f y) : x = y := by
  apply Classical.byContradiction
  intro hne
  have := surj_le (c := c - 1) (m := c) (fun z => if z < y then f z else f (z + 1)) (fun k hk => by
    obtain ⟨z, hz, hf⟩ := h k hk
    have key : ∀ z, z < c → z ≠ y → f z = k → ∃ x, x < c - 1 ∧ (if x < y then f x else f (x + 1)) = k := fun z hz hzy hf => by
      by_cases h1 : z < y
      · exact ⟨z, by omega, by rw [if_pos h1]; exact hf⟩
      · exact ⟨z - 1, by omega, by rw [if_neg (by omega), show z - 1 + 1 = z by omega]; exact hf⟩
    by_cases h1 : z = y
    · exact key x hx hne (by rw [e, ← h1]; exact hf)
    · exact key z hz h1 hf)
  omega
def PT (K : mM) (co g : Nat → Nat) (n m : Nat) : Prop := (∀ i j, i < n → j < n → g i ≠ g j → DS K (co i) (co j)) ∧ (∀ i j, i < n → j < n → g i = g j → K.2.2.1 (co i) = K.2.2.1 (co j)) ∧ (∀ i, i < n → g i ≤ 10) ∧ (m = 0 ∨ ((∀ i, i < n → g i < m) ∧ ∀ k, k < m → ∃ i, i < n ∧ g i = k))
theorem al_ds {K : mM} {co g to : Nat → Nat} {n m i j : Nat} (h : PT K co g n m) (hT : ∀ i l, i < n → l < 3 → to (3 * i + l) < n ∧ co (to (3 * i + l)) = K.2.1 (co i) l) (hi : i < n) (hj : j < n) (hn : ¬ AL g to i j) : DS K (co i) (co j) := by
  by_cases h1 : g i = g j
  · have : ∃ l, l < 3 ∧ g (to (3 * i + l)) ≠ g (to (3 * j + l)) := by
      apply Classical.byContradiction
      intro hx
      exact hn ⟨h1, fun l hl => Classical.byContradiction (fun z => hx ⟨l, hl, z⟩)⟩
    obtain ⟨l, hl, h2⟩ := this
    obtain ⟨w, w1, w2⟩ := h.1 _ _ (hT i l hi hl).1 (hT j l hj hl).1 h2
    rw [(hT i l hi hl).2, (hT j l hj hl).2] at w2
    exact ⟨l :: w, lts_cons hl w1, w2⟩
  · exact h.1 i j hi hj h1
theorem PT.next {K : mM} {co g g2 to fi ot : Nat → Nat} {n m c : Nat} (h : PT K co g n m) (hT : ∀ i l, i < n → l < 3 → to (3 * i + l) < n ∧ co (to (3 * i + l)) = K.2.1 (co i) l) (h1 : 1 ≤ n) (hI : IN g to fi ot n c) (hg : ∀ j, j < n → g2 j = ot j) :
    PT K co g2 n c ∧ m ≤ c ∧ 1 ≤ c ∧ (∀ k, k < c → fi k < n ∧ g2 (fi k) = k) ∧ (c = m → ∀ i j, i < n → j < n → g2 i = g2 j → AL g2 to i j) := by
  obtain ⟨a1, a2, a3, a4, a5⟩ := hI
  have b1 : ∀ i, i < n → g2 i < c ∧ AL g to i (fi (g2 i)) := fun i hi => by rw [hg i hi]; exact a5 i hi
  have nu : ∀ a b, a < c → b < c → AL g to (fi a) (fi b) → a = b := fun a b ha hb z => by
    rcases Nat.lt_trichotomy a b with k | k | k
    · exact absurd z (a4 a b k hb)
    · exact k
    · exact absurd z.sy (a4 b a k ha)
  have eqv : ∀ i j, i < n → j < n → (g2 i = g2 j ↔ AL g to i j) := fun i j hi hj => by
    obtain ⟨x1, x2⟩ := b1 i hi
    obtain ⟨y1, y2⟩ := b1 j hj
    constructor
    · intro e; rw [e] at x2; exact x2.tr y2.sy
    · intro z; exact nu _ _ x1 y1 (x2.sy.tr (z.tr y2))
  have fk : ∀ k, k < c → fi k < n ∧ g2 (fi k) = k := fun k hk => by
    have hf := a3 k hk
    obtain ⟨x1, x2⟩ := b1 _ hf
    exact ⟨hf, (nu _ _ hk x1 x2).symm⟩
  have c1 : 1 ≤ c := by have := (b1 0 (by omega)).1; omega
  have sur : ∀ k, k < m → ∃ x, x < c ∧ g (fi x) = k := fun k hk => by
    rcases h.2.2.2 with z | ⟨-, z⟩
    · omega
    · obtain ⟨i, hi, e⟩ := z k hk
      obtain ⟨x1, x2⟩ := b1 i hi
      exact ⟨g2 i, x1, by rw [← x2.1]; exact e⟩
  refine ⟨⟨fun i j hi hj hne => al_ds h hT hi hj (fun z => hne ((eqv i j hi hj).mpr z)), fun i j hi hj e => h.2.1 i j hi hj ((eqv i j hi hj).mp e).1, fun i hi => by have := (b1 i hi).1; omega, Or.inr ⟨fun i hi => (b1 i hi).1, fun k hk => ⟨fi k, (fk k hk).1, (fk k hk).2⟩⟩⟩, surj_le _ sur, c1, fk, fun e i j hi hj e2 => ?_⟩
  have z := (eqv i j hi hj).mp e2
  have back : ∀ a b, a < n → b < n → g a = g b → g2 a = g2 b := fun a b ha hb eab => by
    subst e
    obtain ⟨x1, x2⟩ := b1 a ha
    obtain ⟨y1, y2⟩ := b1 b hb
    exact surj_inj (fun x => g (fi x)) sur x1 y1 (by show g (fi (g2 a)) = g (fi (g2 b)); rw [← x2.1, ← y2.1]; exact eab)
  exact ⟨e2, fun l hl => back _ _ (hT i l hi hl).1 (hT j l hj hl).1 (z.2 l hl)⟩
/-- the groups when apart is done -/
def GF (K : mM) (ri : Nat → Nat → Nat) (n : Nat) : Prop := (∀ i, i < ri 20 6 → ri 7 i < n) ∧ (∀ k, k < n → ri 9 k < ri 20 6 ∧ ri 7 (ri 9 k) = k) ∧ (∀ i j, i < ri 20 6 → j < ri 20 6 → ri 7 i = ri 7 j → K.2.2.1 (ri 5 i) = K.2.2.1 (ri 5 j) ∧ ∀ l, l < 3 → ri 7 (ri 6 (3 * i + l)) = ri 7 (ri 6 (3 * j + l))) ∧ ∀ i j, i < ri 20 6 → j < ri 20 6 → ri 7 i ≠ ri 7 j → DS K (ri 5 i) (ri 5 j)
theorem MN.codes {K : mM} {co : Nat → Nat} {n : Nat} (x : Nat → Nat) (hx : ∀ k, k < 11 → x k < n) (hw : ∀ i, i < n → ∃ w, lts w ∧ mrun K K.1 w = co i) (hd : ∀ a b, a < b → b < 11 → DS K (co (x a)) (co (x b))) : MN K := by
  refine ⟨fun i => if hi : i < 11 then Classical.choose (hw (x i) (hx i hi)) else [], fun i hi => ?_, fun i j hij hj => ?_⟩
  · dsimp only; rw [dif_pos hi]; exact (Classical.choose_spec (hw (x i) (hx i hi))).1
  · obtain ⟨w, w1, w2⟩ := hd i j hij hj
    refine ⟨w, w1, ?_⟩
    have hi : i < 11 := by omega
    dsimp only
    rw [dif_pos hi, dif_pos hj, macc_app, macc_app, (Classical.choose_spec (hw (x i) (hx i hi))).2, (Classical.choose_spec (hw (x j) (hx j hj))).2]
    exact w2
theorem MN.apart {K : mM} {co g to fi ot : Nat → Nat} {n m i : Nat} (h : PT K co g n m) (hT : ∀ i l, i < n → l < 3 → to (3 * i + l) < n ∧ co (to (3 * i + l)) = K.2.1 (co i) l) (hI : IN g to fi ot i 10) (hi : i < n) (hn : ∀ k, k < 10 → ¬ AL g to i (fi k)) (hw : ∀ i, i < n → ∃ w, lts w ∧ mrun K K.1 w = co i) : MN K := by
  obtain ⟨a1, a2, a3, a4, a5⟩ := hI
  refine MN.codes (fun k => if k < 10 then fi k else i) (fun k hk => ?_) hw (fun a b hab hb => ?_)
  · split
    · rename_i z; have := a3 k z; omega
    · exact hi
  · rw [if_pos (show a < 10 by omega)]
    have ha := a3 a (by omega)
    split
    · rename_i z
      have hb2 := a3 b z
      exact al_ds h hT (by omega) (by omega) (a4 a b hab z)
    · exact al_ds h hT (by omega) hi (fun z => hn a (by omega) z.sy)
theorem PT.first {K : mM} {co g : Nat → Nat} {n : Nat} (hg : ∀ i, i < n → g i = (K.2.2.1 (co i)).toNat) : PT K co g n 0 := by
  refine ⟨fun i j hi hj h => ⟨[], lts_nil, fun e => h ?_⟩, fun i j hi hj h => ?_, fun i hi => ?_, Or.inl rfl⟩
  · rw [hg i hi, hg j hj]; exact congrArg Bool.toNat e
  · rw [hg i hi, hg j hj] at h
    revert h
    cases K.2.2.1 (co i) <;> cases K.2.2.1 (co j) <;> decide
  · rw [hg i hi]; cases K.2.2.1 (co i) <;> decide

abbrev rm_M_come : Room := { frames := 0, cells := 0, slots := 0, locals := 0 }
set_option maxRecDepth 100000 in
set_option maxHeartbeats 4000000 in
theorem c_M_come (l : Launch) (Γ : gG) (r : Nat → Nat) (ri : Nat → Nat → Nat) (rl : Nat → Nat → Int64) (wr : va_W) (K : mM) (B c9 : Nat) (hB : B ≤ 10242) (hb : ∀ q, K.2.2.2 q → q < B) (hE : EI K ri B) (hv : K.2.2.2 c9) (hw : ∃ w, lts w ∧ mrun K K.1 w = c9) : cT l Γ my_M_come bc_M_come 2 (some .int) rm_M_come [.ref (r 0), .int (nI c9)] (rW Γ r ri rl wr) (S := Nat × (Nat → Nat → Nat)) (fun v u => v = some (.int (nI u.1)) ∧ EI K u.2 B ∧ eX ri u.2 ∧ u.1 < u.2 20 6 ∧ u.2 5 u.1 = c9 ∧ (ri 20 6 = 0 → u.1 = 0)) (fun u => rW Γ r u.2 rl wr) := by
  refine cT.start (by decide) (Nat.le_of_ble_eq_true rfl) (fun p e s m args below meth c ls Q hQ C hmn h hl => ?_)
  replace hl : lv_has ls 2 [(0, .ref (r 0)), (1, .int (nI c9))] := hl
  have hc := hb c9 hv
  have hE1 := hE.1
  have h4 : ri 4 c9 < 2 ^ 31 := by
    by_cases z : ri 4 c9 = 0
    · omega
    · have := (hE.2.2.1 c9 hc z).1; omega
  refine lv_aload_n C.x C.b dc_M_come_0 rfl (lv_at hl 0 rfl) ?_
  refine rg_get C h 0 rfl rfl in_M 11 (by decide) fl_M_23 rfl dc_M_come_1 ?_
  refine lv_iload_n C.x C.b dc_M_come_4 rfl (lv_at hl 1 rfl) ?_
  refine rg_mld C h 5 rfl (by omega) (by decide) dc_M_come_5 ?_
  refine bm_lt (tgt := 16) C (h4) dc_M_come_6 (by decide) (fun q6 => ?_) (fun q6 => ?_)
  · have hlt := hE.room hb hc q6
    refine lv_aload_n C.x C.b dc_M_come_16 rfl (lv_at hl 0 rfl) ?_
    refine rg_get C h 0 rfl rfl in_M 11 (by decide) fl_M_23 rfl dc_M_come_17 ?_
    refine lv_iload_n C.x C.b dc_M_come_20 rfl (lv_at hl 1 rfl) ?_
    refine lv_aload_n C.x C.b dc_M_come_21 rfl (lv_at hl 0 rfl) ?_
    refine rg_get C h 0 rfl rfl in_M 10 (by decide) fl_M_86 rfl dc_M_come_22 ?_
    refine tp_i (mI_s (ri 20 6)) ?_
    refine rg_mst C h 5 rfl (by omega) (by decide) dc_M_come_25 (fun H locs h => ?_)
    obtain ⟨ri_1, eri_1⟩ : ∃ zz9, zz9 = us ri 4 (us (ri 4) c9 (ri 20 6 + 1)) := ⟨_, rfl⟩
    have fri_1 : ∀ zk, zk ≠ 4 → ri_1 zk = ri zk := fun zk hzk => by rw [eri_1, us_n _ _ hzk]
    have gri_1 : ri_1 4 = us (ri 4) c9 (ri 20 6 + 1) := by rw [eri_1, us_s]
    have xri_1 : ri_1 20 0 = ri 20 0 ∧ ri_1 20 1 = ri 20 1 ∧ ri_1 20 2 = ri 20 2 ∧ ri_1 20 3 = ri 20 3 ∧ ri_1 20 4 = ri 20 4 ∧ ri_1 20 5 = ri 20 5 ∧ ri_1 20 6 = ri 20 6 := by rw [fri_1 20 (by decide)]; exact ⟨rfl, rfl, rfl, rfl, rfl, rfl, rfl⟩
    replace h : sT Γ s (rW Γ r ri_1 rl wr) H locs := by rw [eri_1]; exact h
    refine lv_aload_n C.x C.b dc_M_come_26 rfl (lv_at hl 0 rfl) ?_
    refine rg_get C h 0 rfl rfl in_M 12 (by decide) fl_M_26 rfl dc_M_come_27 ?_
    refine lv_aload_n C.x C.b dc_M_come_30 rfl (lv_at hl 0 rfl) ?_
    refine rg_get C h 0 rfl rfl in_M 10 (by decide) fl_M_86 rfl dc_M_come_31 ?_
    refine lv_iload_n C.x C.b dc_M_come_34 rfl (lv_at hl 1 rfl) ?_
    refine rg_ist C h 6 rfl (by omega) (by decide) dc_M_come_35 (fun H locs h => ?_)
    obtain ⟨ri_2, eri_2⟩ : ∃ zz9, zz9 = us ri_1 5 (us (ri_1 5) (ri_1 20 6) c9) := ⟨_, rfl⟩
    have fri_2 : ∀ zk, zk ≠ 5 → ri_2 zk = ri_1 zk := fun zk hzk => by rw [eri_2, us_n _ _ hzk]
    have gri_2 : ri_2 5 = us (ri_1 5) (ri_1 20 6) c9 := by rw [eri_2, us_s]
    have xri_2 : ri_2 20 0 = ri_1 20 0 ∧ ri_2 20 1 = ri_1 20 1 ∧ ri_2 20 2 = ri_1 20 2 ∧ ri_2 20 3 = ri_1 20 3 ∧ ri_2 20 4 = ri_1 20 4 ∧ ri_2 20 5 = ri_1 20 5 ∧ ri_2 20 6 = ri_1 20 6 := by rw [fri_2 20 (by decide)]; exact ⟨rfl, rfl, rfl, rfl, rfl, rfl, rfl⟩
    replace h : sT Γ s (rW Γ r ri_2 rl wr) H locs := by rw [eri_2]; exact h
    refine lv_aload_n C.x C.b dc_M_come_36 rfl (lv_at hl 0 rfl) ?_
    refine lv_dup C.x C.b dc_M_come_37 rfl ?_
    refine rg_get C h 0 rfl rfl in_M 10 (by decide) fl_M_86 rfl dc_M_come_38 ?_
    refine lv_iconst (v := (nI 1)) C.x C.b dc_M_come_41 (by decide +kernel) ?_
    refine lv_iadd C.x C.b dc_M_come_42 ?_
    refine tp_i (nI_add (ri_2 20 6) 1) ?_
    refine rg_put (ty := .int) C h 0 rfl rfl in_M tk_M nm_M 10 (by decide) fl_M_86 rfl (by decide +kernel) rfl rfl (by simp) dc_M_come_43 (fun H locs h => ?_)
    obtain ⟨ri_3, eri_3⟩ : ∃ zz9, zz9 = us ri_2 20 (us (ri_2 20) 6 ((ri_2 20 6) + 1)) := ⟨_, rfl⟩
    have fri_3 : ∀ zk, zk ≠ 20 → ri_3 zk = ri_2 zk := fun zk hzk => by rw [eri_3, us_n _ _ hzk]
    have gri_3 : ri_3 20 = us (ri_2 20) 6 ((ri_2 20 6) + 1) := by rw [eri_3, us_s]
    have xri_3 : ri_3 20 0 = ri_2 20 0 ∧ ri_3 20 1 = ri_2 20 1 ∧ ri_3 20 2 = ri_2 20 2 ∧ ri_3 20 3 = ri_2 20 3 ∧ ri_3 20 4 = ri_2 20 4 ∧ ri_3 20 5 = ri_2 20 5 ∧ ri_3 20 6 = (ri_2 20 6) + 1 := by rw [gri_3]; exact ⟨us_n _ _ (by decide), us_n _ _ (by decide), us_n _ _ (by decide), us_n _ _ (by decide), us_n _ _ (by decide), us_n _ _ (by decide), us_s _ _ _⟩
    replace h : sT Γ s (rW Γ r ri_3 rl wr) H locs := by rw [eri_3]; exact h
    refine lv_aload_n C.x C.b dc_M_come_46 rfl (lv_at hl 0 rfl) ?_
    refine rg_get C h 0 rfl rfl in_M 10 (by decide) fl_M_86 rfl dc_M_come_47 ?_
    refine lv_iconst (v := (nI 1)) C.x C.b dc_M_come_50 (by decide +kernel) ?_
    refine lv_isub C.x C.b dc_M_come_51 ?_
    refine tp_i (pk_sub (a := (ri_3 20 6)) (b := 1) (by omega)) ?_
    have hR : cmR ri c9 ri_3 := by
      refine ⟨?_, ?_, ?_, fun k h4 h5 h20 => ?_⟩
      · rw [fri_3 4 (by decide), fri_2 4 (by decide), gri_1]
      · rw [fri_3 5 (by decide), gri_2, fri_1 5 (by decide), xri_1.2.2.2.2.2.2]
      · rw [gri_3, fri_2 20 (by decide), fri_1 20 (by decide)]
      · rw [fri_3 k h20, fri_2 k h5, fri_1 k h4]
    obtain ⟨k1, k2, k3, k4⟩ := hE.come hb hv q6 hw hR
    rw [hQ]
    exact rt_i C (ri 20 6, ri_3) h (⟨by rw [k3, Nat.add_sub_cancel], k1, k2, by show ri 20 6 < ri_3 20 6; omega, k4, fun z => z⟩) dc_M_come_52
  · refine lv_aload_n C.x C.b dc_M_come_9 rfl (lv_at hl 0 rfl) ?_
    refine rg_get C h 0 rfl rfl in_M 11 (by decide) fl_M_23 rfl dc_M_come_10 ?_
    refine lv_iload_n C.x C.b dc_M_come_13 rfl (lv_at hl 1 rfl) ?_
    refine rg_mld C h 5 rfl (by omega) (by decide) dc_M_come_14 ?_
    obtain ⟨hk1, hk2⟩ := hE.2.2.1 c9 hc q6
    rw [hQ]
    exact rt_i C (ri 4 c9 - 1, ri) h (⟨by rw [mI_s, show ri 4 c9 - 1 + 1 = ri 4 c9 by omega], hE, eX.rf, by show ri 4 c9 - 1 < ri 20 6; omega, hk2, fun z => by show ri 4 c9 - 1 = 0; omega⟩) dc_M_come_15

abbrev rm_M_alike : Room := { frames := 0, cells := 0, slots := 0, locals := 0 }
set_option maxRecDepth 100000 in
set_option maxHeartbeats 4000000 in
theorem c_M_alike (l : Launch) (Γ : gG) (r : Nat → Nat) (ri : Nat → Nat → Nat) (rl : Nat → Nat → Int64) (wr : va_W) (i9 j9 n9 : Nat) (hi : i9 < n9) (hj : j9 < n9) (hn : n9 ≤ 10242) (hto : ∀ x, x < 3 * n9 → ri 6 x < n9) (hg : ∀ x, x < n9 → ri 7 x ≤ 10) : cT l Γ my_M_alike bc_M_alike 3 (some .boolean) rm_M_alike [.ref (r 0), .int (nI i9), .int (nI j9)] (rW Γ r ri rl wr) (S := Bool) (fun v b => v = some (.int (bI b)) ∧ (b = true ↔ AL (ri 7) (ri 6) i9 j9)) (fun _ => rW Γ r ri rl wr) := by
  refine cT.start (by decide) (Nat.le_of_ble_eq_true rfl) (fun p e s m args below meth c ls Q hQ C hmn h hl => ?_)
  replace hl : lv_has ls 3 [(0, .ref (r 0)), (1, .int (nI i9)), (2, .int (nI j9))] := hl
  have ha1 := hg i9 hi
  have ha2 := hg j9 hj
  have tt : ∀ x, x < 3 * n9 → ri 6 x < 10242 := fun x hx => Nat.lt_of_lt_of_le (hto x hx) hn
  refine lv_aload_n C.x C.b dc_M_alike_0 rfl (lv_at hl 0 rfl) ?_
  refine rg_get C h 0 rfl rfl in_M 14 (by decide) fl_M_32 rfl dc_M_alike_1 ?_
  refine lv_iload_n C.x C.b dc_M_alike_4 rfl (lv_at hl 1 rfl) ?_
  refine rg_ild C h 8 rfl (by omega) (by decide) dc_M_alike_5 ?_
  refine lv_aload_n C.x C.b dc_M_alike_6 rfl (lv_at hl 0 rfl) ?_
  refine rg_get C h 0 rfl rfl in_M 14 (by decide) fl_M_32 rfl dc_M_alike_7 ?_
  refine lv_iload_n C.x C.b dc_M_alike_10 rfl (lv_at hl 2 rfl) ?_
  refine rg_ild C h 8 rfl (by omega) (by decide) dc_M_alike_11 ?_
  refine bc_ne (tgt := 114) C (by omega) (by omega) dc_M_alike_12 (by decide) (fun q12 => ?_) (fun q12 => ?_)
  · refine lv_iconst (v := (nI 0)) C.x C.b dc_M_alike_114 (by decide +kernel) ?_
    rw [hQ]
    exact rt_z C false h (⟨by decide +kernel, fun z => (by cases z), fun z => absurd z.1 q12⟩) (by decide +kernel) dc_M_alike_115
  · refine lv_aload_n C.x C.b dc_M_alike_15 rfl (lv_at hl 0 rfl) ?_
    refine rg_get C h 0 rfl rfl in_M 14 (by decide) fl_M_32 rfl dc_M_alike_16 ?_
    refine lv_aload_n C.x C.b dc_M_alike_19 rfl (lv_at hl 0 rfl) ?_
    refine rg_get C h 0 rfl rfl in_M 13 (by decide) fl_M_29 rfl dc_M_alike_20 ?_
    refine lv_iconst (v := (nI 3)) C.x C.b dc_M_alike_23 (by decide +kernel) ?_
    refine lv_iload_n C.x C.b dc_M_alike_24 rfl (lv_at hl 1 rfl) ?_
    refine lv_imul C.x C.b dc_M_alike_25 ?_
    refine tp_i (pk_mul 3 i9) ?_
    refine rg_ild C h 7 rfl (by omega) (by decide) dc_M_alike_26 ?_
    refine rg_ild C h 8 rfl (tt _ (by omega)) (by decide) dc_M_alike_27 ?_
    refine lv_aload_n C.x C.b dc_M_alike_28 rfl (lv_at hl 0 rfl) ?_
    refine rg_get C h 0 rfl rfl in_M 14 (by decide) fl_M_32 rfl dc_M_alike_29 ?_
    refine lv_aload_n C.x C.b dc_M_alike_32 rfl (lv_at hl 0 rfl) ?_
    refine rg_get C h 0 rfl rfl in_M 13 (by decide) fl_M_29 rfl dc_M_alike_33 ?_
    refine lv_iconst (v := (nI 3)) C.x C.b dc_M_alike_36 (by decide +kernel) ?_
    refine lv_iload_n C.x C.b dc_M_alike_37 rfl (lv_at hl 2 rfl) ?_
    refine lv_imul C.x C.b dc_M_alike_38 ?_
    refine tp_i (pk_mul 3 j9) ?_
    refine rg_ild C h 7 rfl (by omega) (by decide) dc_M_alike_39 ?_
    refine rg_ild C h 8 rfl (tt _ (by omega)) (by decide) dc_M_alike_40 ?_
    refine bc_ne (tgt := 114) C (by have := hg (ri 6 (3 * i9)) (hto _ (by omega)); omega) (by have := hg (ri 6 (3 * j9)) (hto _ (by omega)); omega) dc_M_alike_41 (by decide) (fun q41 => ?_) (fun q41 => ?_)
    · refine lv_iconst (v := (nI 0)) C.x C.b dc_M_alike_114 (by decide +kernel) ?_
      rw [hQ]
      exact rt_z C false h (⟨by decide +kernel, fun z => (by cases z), fun z => absurd (z.2 0 (by decide)) q41⟩) (by decide +kernel) dc_M_alike_115
    · refine lv_aload_n C.x C.b dc_M_alike_44 rfl (lv_at hl 0 rfl) ?_
      refine rg_get C h 0 rfl rfl in_M 14 (by decide) fl_M_32 rfl dc_M_alike_45 ?_
      refine lv_aload_n C.x C.b dc_M_alike_48 rfl (lv_at hl 0 rfl) ?_
      refine rg_get C h 0 rfl rfl in_M 13 (by decide) fl_M_29 rfl dc_M_alike_49 ?_
      refine lv_iconst (v := (nI 3)) C.x C.b dc_M_alike_52 (by decide +kernel) ?_
      refine lv_iload_n C.x C.b dc_M_alike_53 rfl (lv_at hl 1 rfl) ?_
      refine lv_imul C.x C.b dc_M_alike_54 ?_
      refine tp_i (pk_mul 3 i9) ?_
      refine lv_iconst (v := (nI 1)) C.x C.b dc_M_alike_55 (by decide +kernel) ?_
      refine lv_iadd C.x C.b dc_M_alike_56 ?_
      refine tp_i (nI_add (3 * i9) 1) ?_
      refine rg_ild C h 7 rfl (by omega) (by decide) dc_M_alike_57 ?_
      refine rg_ild C h 8 rfl (tt _ (by omega)) (by decide) dc_M_alike_58 ?_
      refine lv_aload_n C.x C.b dc_M_alike_59 rfl (lv_at hl 0 rfl) ?_
      refine rg_get C h 0 rfl rfl in_M 14 (by decide) fl_M_32 rfl dc_M_alike_60 ?_
      refine lv_aload_n C.x C.b dc_M_alike_63 rfl (lv_at hl 0 rfl) ?_
      refine rg_get C h 0 rfl rfl in_M 13 (by decide) fl_M_29 rfl dc_M_alike_64 ?_
      refine lv_iconst (v := (nI 3)) C.x C.b dc_M_alike_67 (by decide +kernel) ?_
      refine lv_iload_n C.x C.b dc_M_alike_68 rfl (lv_at hl 2 rfl) ?_
      refine lv_imul C.x C.b dc_M_alike_69 ?_
      refine tp_i (pk_mul 3 j9) ?_
      refine lv_iconst (v := (nI 1)) C.x C.b dc_M_alike_70 (by decide +kernel) ?_
      refine lv_iadd C.x C.b dc_M_alike_71 ?_
      refine tp_i (nI_add (3 * j9) 1) ?_
      refine rg_ild C h 7 rfl (by omega) (by decide) dc_M_alike_72 ?_
      refine rg_ild C h 8 rfl (tt _ (by omega)) (by decide) dc_M_alike_73 ?_
      refine bc_ne (tgt := 114) C (by have := hg (ri 6 (3 * i9 + 1)) (hto _ (by omega)); omega) (by have := hg (ri 6 (3 * j9 + 1)) (hto _ (by omega)); omega) dc_M_alike_74 (by decide) (fun q74 => ?_) (fun q74 => ?_)
      · refine lv_iconst (v := (nI 0)) C.x C.b dc_M_alike_114 (by decide +kernel) ?_
        rw [hQ]
        exact rt_z C false h (⟨by decide +kernel, fun z => (by cases z), fun z => absurd (z.2 1 (by decide)) q74⟩) (by decide +kernel) dc_M_alike_115
      · refine lv_aload_n C.x C.b dc_M_alike_77 rfl (lv_at hl 0 rfl) ?_
        refine rg_get C h 0 rfl rfl in_M 14 (by decide) fl_M_32 rfl dc_M_alike_78 ?_
        refine lv_aload_n C.x C.b dc_M_alike_81 rfl (lv_at hl 0 rfl) ?_
        refine rg_get C h 0 rfl rfl in_M 13 (by decide) fl_M_29 rfl dc_M_alike_82 ?_
        refine lv_iconst (v := (nI 3)) C.x C.b dc_M_alike_85 (by decide +kernel) ?_
        refine lv_iload_n C.x C.b dc_M_alike_86 rfl (lv_at hl 1 rfl) ?_
        refine lv_imul C.x C.b dc_M_alike_87 ?_
        refine tp_i (pk_mul 3 i9) ?_
        refine lv_iconst (v := (nI 2)) C.x C.b dc_M_alike_88 (by decide +kernel) ?_
        refine lv_iadd C.x C.b dc_M_alike_89 ?_
        refine tp_i (nI_add (3 * i9) 2) ?_
        refine rg_ild C h 7 rfl (by omega) (by decide) dc_M_alike_90 ?_
        refine rg_ild C h 8 rfl (tt _ (by omega)) (by decide) dc_M_alike_91 ?_
        refine lv_aload_n C.x C.b dc_M_alike_92 rfl (lv_at hl 0 rfl) ?_
        refine rg_get C h 0 rfl rfl in_M 14 (by decide) fl_M_32 rfl dc_M_alike_93 ?_
        refine lv_aload_n C.x C.b dc_M_alike_96 rfl (lv_at hl 0 rfl) ?_
        refine rg_get C h 0 rfl rfl in_M 13 (by decide) fl_M_29 rfl dc_M_alike_97 ?_
        refine lv_iconst (v := (nI 3)) C.x C.b dc_M_alike_100 (by decide +kernel) ?_
        refine lv_iload_n C.x C.b dc_M_alike_101 rfl (lv_at hl 2 rfl) ?_
        refine lv_imul C.x C.b dc_M_alike_102 ?_
        refine tp_i (pk_mul 3 j9) ?_
        refine lv_iconst (v := (nI 2)) C.x C.b dc_M_alike_103 (by decide +kernel) ?_
        refine lv_iadd C.x C.b dc_M_alike_104 ?_
        refine tp_i (nI_add (3 * j9) 2) ?_
        refine rg_ild C h 7 rfl (by omega) (by decide) dc_M_alike_105 ?_
        refine rg_ild C h 8 rfl (tt _ (by omega)) (by decide) dc_M_alike_106 ?_
        refine bc_ne (tgt := 114) C (by have := hg (ri 6 (3 * i9 + 2)) (hto _ (by omega)); omega) (by have := hg (ri 6 (3 * j9 + 2)) (hto _ (by omega)); omega) dc_M_alike_107 (by decide) (fun q107 => ?_) (fun q107 => ?_)
        · refine lv_iconst (v := (nI 0)) C.x C.b dc_M_alike_114 (by decide +kernel) ?_
          rw [hQ]
          exact rt_z C false h (⟨by decide +kernel, fun z => (by cases z), fun z => absurd (z.2 2 (by decide)) q107⟩) (by decide +kernel) dc_M_alike_115
        · refine lv_iconst (v := (nI 1)) C.x C.b dc_M_alike_110 (by decide +kernel) ?_
          refine lv_goto (tgt := 115) C.x C.b dc_M_alike_111 (by decide) ?_
          rw [hQ]
          exact rt_z C true h (⟨by decide +kernel, fun _ => ⟨q12, fun l hl => by
            have : l = 0 ∨ l = 1 ∨ l = 2 := by omega
            rcases this with rfl | rfl | rfl
            · exact q41
            · exact q74
            · exact q107⟩, fun _ => rfl⟩) (by decide +kernel) dc_M_alike_115

abbrev rm_M_apart : Room := { frames := 3, cells := 0, slots := 0, locals := 68 }
set_option maxRecDepth 100000 in
set_option maxHeartbeats 4000000 in
theorem c_M_apart (l : Launch) (Γ : gG) (r : Nat → Nat) (ri : Nat → Nat → Nat) (rl : Nat → Nat → Int64) (wr : va_W) (K : mM) (hK : RK ri K) (hE : EI K ri 10242) (hT : TO K ri) (h1 : 1 ≤ ri 20 6) : cT l Γ my_M_apart bc_M_apart 5 (some .int) rm_M_apart [.ref (r 0)] (rW Γ r ri rl wr) (S := Nat × (Nat → Nat → Nat)) (fun v u => v = some (.int (nI u.1)) ∧ (∀ zk, zk ≠ 7 → zk ≠ 8 → zk ≠ 9 → u.2 zk = ri zk) ∧ ((u.1 = 11 ∧ MN K) ∨ (1 ≤ u.1 ∧ u.1 ≤ 10 ∧ GF K u.2 u.1))) (fun u => rW Γ r u.2 rl wr) := by
  refine cT.start (by decide) (Nat.le_of_ble_eq_true rfl) (fun p e s m args below meth c ls Q hQ C hmn h hl => ?_)
  replace hl : lv_has ls 5 [(0, .ref (r 0))] := hl
  have hE1 := hE.1
  have hto : ∀ x, x < 3 * ri 20 6 → ri 6 x < ri 20 6 := fun x hx => by
    have := (hT (x / 3) (x % 3) (by omega) (by omega)).1
    rw [show 3 * (x / 3) + x % 3 = x by omega] at this
    exact this
  refine lv_iconst (v := (nI 0)) C.x C.b dc_M_apart_0 (by decide +kernel) ?_
  refine lv_istore_n (lv' := [(1, .int (nI 0)), (0, .ref (r 0))]) C.x C.b dc_M_apart_1 rfl hl (by decide) rfl (fun ls hl => ?_)
  refine lv_iconst (v := (nI 0)) C.x C.b dc_M_apart_2 (by decide +kernel) ?_
  refine lv_istore_n (lv' := [(2, .int (nI 0)), (1, .int (nI 0)), (0, .ref (r 0))]) C.x C.b dc_M_apart_3 rfl hl (by decide) rfl (fun ls hl => ?_)
  have hz1 : ∀ zk, zk ≠ 7 → ri zk = ri zk := fun _ _ => rfl
  have hg1 : ∀ j, j < 0 → ri 7 j = (K.2.2.1 (ri 5 j)).toNat := fun j hj => absurd hj (Nat.not_lt_zero _)
  have lp_4 : ∀ (n_4 : Nat) (k : Nat) (z : Nat → Nat → Nat) (H : Heap) (locs : List Loc) (ls : Array Slot), ri 20 6 - k < n_4 → (k ≤ ri 20 6) → (∀ zk, zk ≠ 7 → z zk = ri zk) → (∀ j, j < k → z 7 j = (K.2.2.1 (ri 5 j)).toNat) → sT Γ s (rW Γ r z rl wr) H locs → lv_has ls 5 [(2, .int (nI k)), (1, .int (nI 0)), (0, .ref (r 0))] → W p l e rm_M_apart s m args below meth c H locs 0 0 Q (F0 m 4 ls []) := by
    intro n_4
    induction n_4 with
    | zero => intro k z H locs ls hms; exact absurd hms (Nat.not_lt_zero _)
    | succ n_4 ih_4 =>
      intro k z H locs ls hms hk hz hg h hl
      have z20 : z 20 = ri 20 := hz 20 (by decide)
      have z6 : z 20 6 = ri 20 6 := by rw [z20]
      have hKz : RK z K := RK.same (hz 0 (by decide)) (hz 1 (by decide)) (hz 2 (by decide)) (hz 3 (by decide)) (hz 10 (by decide)) (by rw [z20]) (by rw [z20]) (by rw [z20]) (by rw [z20]) hK
      refine lv_iload_n C.x C.b dc_M_apart_4 rfl (lv_at hl 0 rfl) ?_
      refine lv_aload_n C.x C.b dc_M_apart_5 rfl (lv_at hl 2 rfl) ?_
      refine rg_get C h 0 rfl rfl in_M 10 (by decide) fl_M_86 rfl dc_M_apart_6 ?_
      refine bc_ge (tgt := 42) C (by omega) (by omega) dc_M_apart_9 (by decide) (fun q9 => ?_) (fun q9 => ?_)
      · have hz2 : ∀ zk, zk ≠ 7 → zk ≠ 8 → zk ≠ 9 → z zk = ri zk := fun zk a _ _ => hz zk a
        have hP2 : PT K (ri 5) (z 7) (ri 20 6) 0 := PT.first (fun i hi => hg i (by omega))
        have lp_42 : ∀ (n_42 : Nat) (m9 : Nat) (z : Nat → Nat → Nat) (H : Heap) (locs : List Loc) (ls : Array Slot), 10 - m9 < n_42 → (m9 ≤ 10) → (∀ zk, zk ≠ 7 → zk ≠ 8 → zk ≠ 9 → z zk = ri zk) → (PT K (ri 5) (z 7) (ri 20 6) m9) → sT Γ s (rW Γ r z rl wr) H locs → lv_has ls 5 [(1, .int (nI m9)), (0, .ref (r 0))] → W p l e rm_M_apart s m args below meth c H locs 0 0 Q (F0 m 42 ls []) := by
          intro n_42
          induction n_42 with
          | zero => intro m9 z H locs ls hms; exact absurd hms (Nat.not_lt_zero _)
          | succ n_42 ih_42 =>
            intro m9 z H locs ls hms hm9 hz hP h hl
            refine lv_iconst (v := (nI 0)) C.x C.b dc_M_apart_42 (by decide +kernel) ?_
            refine lv_istore_n (lv' := [(2, .int (nI 0)), (1, .int (nI m9)), (0, .ref (r 0))]) C.x C.b dc_M_apart_43 rfl hl (by decide) rfl (fun ls hl => ?_)
            refine lv_iconst (v := (nI 0)) C.x C.b dc_M_apart_44 (by decide +kernel) ?_
            refine lv_istore_n (lv' := [(3, .int (nI 0)), (2, .int (nI 0)), (1, .int (nI m9)), (0, .ref (r 0))]) C.x C.b dc_M_apart_45 rfl hl (by decide) rfl (fun ls hl => ?_)
            have hy : ∀ zk, zk ≠ 7 → zk ≠ 8 → zk ≠ 9 → z zk = ri zk := hz
            have hy7 : z 7 = z 7 := rfl
            have hI : IN (z 7) (ri 6) (z 9) (z 8) 0 0 := ⟨by decide, by decide, fun k hk => absurd hk (Nat.not_lt_zero _), fun a b _ hb => absurd hb (Nat.not_lt_zero _), fun j hj => absurd hj (Nat.not_lt_zero _)⟩
            have lp_46 : ∀ (n_46 : Nat) (i9 : Nat) (c9 : Nat) (y : Nat → Nat → Nat) (H : Heap) (locs : List Loc) (ls : Array Slot), ri 20 6 - i9 < n_46 → (i9 ≤ ri 20 6) → (∀ zk, zk ≠ 7 → zk ≠ 8 → zk ≠ 9 → y zk = ri zk) → (y 7 = z 7) → (IN (z 7) (ri 6) (y 9) (y 8) i9 c9) → sT Γ s (rW Γ r y rl wr) H locs → lv_has ls 5 [(3, .int (nI i9)), (2, .int (nI c9)), (1, .int (nI m9)), (0, .ref (r 0))] → W p l e rm_M_apart s m args below meth c H locs 0 0 Q (F0 m 46 ls []) := by
              intro n_46
              induction n_46 with
              | zero => intro i9 c9 y H locs ls hms; exact absurd hms (Nat.not_lt_zero _)
              | succ n_46 ih_46 =>
                intro i9 c9 y H locs ls hms hi9 hy hy7 hI h hl
                have y6 : y 20 6 = ri 20 6 := by rw [hy 20 (by decide) (by decide) (by decide)]
                have yt : y 6 = ri 6 := hy 6 (by decide) (by decide) (by decide)
                have hIc := hI.1
                have hIc2 := hI.2.1
                refine lv_iload_n C.x C.b dc_M_apart_46 rfl (lv_at hl 0 rfl) ?_
                refine lv_aload_n C.x C.b dc_M_apart_47 rfl (lv_at hl 3 rfl) ?_
                refine rg_get C h 0 rfl rfl in_M 10 (by decide) fl_M_86 rfl dc_M_apart_48 ?_
                refine bc_ge (tgt := 124) C (by omega) (by omega) dc_M_apart_51 (by decide) (fun q51 => ?_) (fun q51 => ?_)
                · refine lv_iconst (v := (nI 0)) C.x C.b dc_M_apart_124 (by decide +kernel) ?_
                  refine lv_istore_n (lv' := [(3, .int (nI 0)), (2, .int (nI c9)), (1, .int (nI m9)), (0, .ref (r 0))]) C.x C.b dc_M_apart_125 rfl hl (by decide) rfl (fun ls hl => ?_)
                  have hx : ∀ zk, zk ≠ 7 → zk ≠ 8 → zk ≠ 9 → y zk = ri zk := hy
                  have hx8 : y 8 = y 8 := rfl
                  have hx9 : y 9 = y 9 := rfl
                  have hxg : ∀ j, j < 0 → y 7 j = y 8 j := fun j hj => absurd hj (Nat.not_lt_zero _)
                  have lp_126 : ∀ (n_126 : Nat) (i2 : Nat) (x : Nat → Nat → Nat) (H : Heap) (locs : List Loc) (ls : Array Slot), ri 20 6 - i2 < n_126 → (i2 ≤ ri 20 6) → (∀ zk, zk ≠ 7 → zk ≠ 8 → zk ≠ 9 → x zk = ri zk) → (x 8 = y 8) → (x 9 = y 9) → (∀ j, j < i2 → x 7 j = y 8 j) → sT Γ s (rW Γ r x rl wr) H locs → lv_has ls 5 [(3, .int (nI i2)), (2, .int (nI c9)), (1, .int (nI m9)), (0, .ref (r 0))] → W p l e rm_M_apart s m args below meth c H locs 0 0 Q (F0 m 126 ls []) := by
                    intro n_126
                    induction n_126 with
                    | zero => intro i2 x H locs ls hms; exact absurd hms (Nat.not_lt_zero _)
                    | succ n_126 ih_126 =>
                      intro i2 x H locs ls hms hi2 hx hx8 hx9 hxg h hl
                      have x6 : x 20 6 = ri 20 6 := by rw [hx 20 (by decide) (by decide) (by decide)]
                      have hx8o := hx8
                      refine lv_iload_n C.x C.b dc_M_apart_126 rfl (lv_at hl 0 rfl) ?_
                      refine lv_aload_n C.x C.b dc_M_apart_127 rfl (lv_at hl 3 rfl) ?_
                      refine rg_get C h 0 rfl rfl in_M 10 (by decide) fl_M_86 rfl dc_M_apart_128 ?_
                      refine bc_ge (tgt := 152) C (by omega) (by omega) dc_M_apart_131 (by decide) (fun q131 => ?_) (fun q131 => ?_)
                      · have hie : i9 = ri 20 6 := by omega
                        have hnx := PT.next (g2 := x 7) hP hT h1 (by rw [← hie]; exact hI) (fun j hj => hxg j (by omega))
                        have hle := hnx.2.1
                        refine lv_iload_n C.x C.b dc_M_apart_152 rfl (lv_at hl 1 rfl) ?_
                        refine lv_iload_n C.x C.b dc_M_apart_153 rfl (lv_at hl 2 rfl) ?_
                        refine bc_ne (tgt := 159) C (by omega) (by omega) dc_M_apart_154 (by decide) (fun q154 => ?_) (fun q154 => ?_)
                        · refine lv_iload_n C.x C.b dc_M_apart_159 rfl (lv_at hl 1 rfl) ?_
                          refine lv_istore_n (lv' := [(1, .int (nI c9)), (3, .int (nI i2)), (2, .int (nI c9)), (0, .ref (r 0))]) C.x C.b dc_M_apart_160 rfl hl (by decide) rfl (fun ls hl => ?_)
                          refine lv_goto (tgt := 42) C.x C.b dc_M_apart_161 (by decide) ?_
                          have hz2 := hx
                          have hP2 := hnx.1
                          exact ih_42 c9 x _ _ _ (by omega) (by first | assumption | omega) (hz2) (hP2) h (lv_sub hl [0, 3] rfl)
                        · refine lv_iload_n C.x C.b dc_M_apart_157 rfl (lv_at hl 1 rfl) ?_
                          have hfin : GF K x c9 := by
                            have x5 : x 5 = ri 5 := hx 5 (by decide) (by decide) (by decide)
                            have xt : x 6 = ri 6 := hx 6 (by decide) (by decide) (by decide)
                            unfold GF
                            rw [x6, x5, xt, hx9]
                            refine ⟨fun i hi => ?_, hnx.2.2.2.1, fun i j hi hj e => ⟨hnx.1.2.1 i j hi hj e, (hnx.2.2.2.2 (by omega) i j hi hj e).2⟩, hnx.1.1⟩
                            rcases hnx.1.2.2.2 with z9 | z9
                            · have := hnx.2.2.1; omega
                            · exact z9.1 i hi
                          rw [hQ]
                          exact rt_i C (c9, x) h (⟨rfl, hx, Or.inr ⟨hnx.2.2.1, by show c9 ≤ 10; omega, hfin⟩⟩) dc_M_apart_158
                      · refine lv_aload_n C.x C.b dc_M_apart_134 rfl (lv_at hl 3 rfl) ?_
                        refine rg_get C h 0 rfl rfl in_M 14 (by decide) fl_M_32 rfl dc_M_apart_135 ?_
                        refine lv_iload_n C.x C.b dc_M_apart_138 rfl (lv_at hl 0 rfl) ?_
                        refine lv_aload_n C.x C.b dc_M_apart_139 rfl (lv_at hl 3 rfl) ?_
                        refine rg_get C h 0 rfl rfl in_M 15 (by decide) fl_M_35 rfl dc_M_apart_140 ?_
                        refine lv_iload_n C.x C.b dc_M_apart_143 rfl (lv_at hl 0 rfl) ?_
                        refine rg_ild C h 9 rfl (by omega) (by decide) dc_M_apart_144 ?_
                        refine rg_ist C h 8 rfl (by omega) (by decide) dc_M_apart_145 (fun H locs h => ?_)
                        obtain ⟨ri_1, eri_1⟩ : ∃ zz9, zz9 = us x 7 (us (x 7) i2 (x 8 i2)) := ⟨_, rfl⟩
                        have fri_1 : ∀ zk, zk ≠ 7 → ri_1 zk = x zk := fun zk hzk => by rw [eri_1, us_n _ _ hzk]
                        have gri_1 : ri_1 7 = us (x 7) i2 (x 8 i2) := by rw [eri_1, us_s]
                        have xri_1 : ri_1 20 0 = x 20 0 ∧ ri_1 20 1 = x 20 1 ∧ ri_1 20 2 = x 20 2 ∧ ri_1 20 3 = x 20 3 ∧ ri_1 20 4 = x 20 4 ∧ ri_1 20 5 = x 20 5 ∧ ri_1 20 6 = x 20 6 := by rw [fri_1 20 (by decide)]; exact ⟨rfl, rfl, rfl, rfl, rfl, rfl, rfl⟩
                        replace h : sT Γ s (rW Γ r ri_1 rl wr) H locs := by rw [eri_1]; exact h
                        refine lv_iinc (v := nI (i2 + 1)) (lv' := [(3, .int (nI (i2 + 1))), (2, .int (nI c9)), (1, .int (nI m9)), (0, .ref (r 0))]) C.x C.b dc_M_apart_146 hl (k := 0) rfl (nI_1 i2) (by decide) rfl (fun ls hl => ?_)
                        refine lv_goto (tgt := 126) C.x C.b dc_M_apart_149 (by decide) ?_
                        have hx : ∀ zk, zk ≠ 7 → zk ≠ 8 → zk ≠ 9 → ri_1 zk = ri zk := fun zk a b c => by rw [fri_1 zk a]; exact hx zk a b c
                        have hx8 : ri_1 8 = y 8 := by rw [fri_1 8 (by decide)]; exact hx8
                        have hx9 : ri_1 9 = y 9 := by rw [fri_1 9 (by decide)]; exact hx9
                        have hxg : ∀ j, j < i2 + 1 → ri_1 7 j = y 8 j := fun j hj => by
                          rw [gri_1]
                          by_cases e9 : j = i2
                          · rw [e9, us_s, hx8o]
                          · rw [us_n _ _ e9]; exact hxg j (by omega)
                        exact ih_126 (i2 + 1) ri_1 _ _ _ (by omega) (by first | assumption | omega) (by first | assumption | omega) (by first | assumption | omega) (by first | assumption | omega) (by first | assumption | omega) h (lv_sub hl [0, 1, 2, 3] rfl)
                  exact lp_126 _ 0 y _ _ _ (Nat.lt_succ_self _) (by first | assumption | omega) (by first | assumption | omega) (by first | assumption | omega) (by first | assumption | omega) (by first | assumption | omega) h (lv_sub hl [0, 1, 2, 3] rfl)
                · refine lv_iconst (v := (nI 0)) C.x C.b dc_M_apart_54 (by decide +kernel) ?_
                  refine lv_istore (lv' := [(4, .int (nI 0)), (3, .int (nI i9)), (2, .int (nI c9)), (1, .int (nI m9)), (0, .ref (r 0))]) C.x C.b dc_M_apart_55 hl (by decide) rfl (fun ls hl => ?_)
                  have hno : ∀ k2, k2 < 0 → ¬ AL (z 7) (ri 6) i9 (y 9 k2) := fun k2 hk2 => absurd hk2 (Nat.not_lt_zero _)
                  have lp_57 : ∀ (n_57 : Nat) (k : Nat) (H : Heap) (locs : List Loc) (ls : Array Slot), c9 - k < n_57 → (k ≤ c9) → (∀ k2, k2 < k → ¬ AL (z 7) (ri 6) i9 (y 9 k2)) → sT Γ s (rW Γ r y rl wr) H locs → lv_has ls 5 [(4, .int (nI k)), (3, .int (nI i9)), (2, .int (nI c9)), (1, .int (nI m9)), (0, .ref (r 0))] → W p l e rm_M_apart s m args below meth c H locs 0 0 Q (F0 m 57 ls []) := by
                    intro n_57
                    induction n_57 with
                    | zero => intro k H locs ls hms; exact absurd hms (Nat.not_lt_zero _)
                    | succ n_57 ih_57 =>
                      intro k H locs ls hms hk hno h hl
                      refine lv_iload C.x C.b dc_M_apart_57 (lv_at hl 0 rfl) ?_
                      refine lv_iload_n C.x C.b dc_M_apart_59 rfl (lv_at hl 2 rfl) ?_
                      refine bc_ge (tgt := 84) C (by omega) (by omega) dc_M_apart_60 (by decide) (fun q60 => ?_) (fun q60 => ?_)
                      · refine lv_iload C.x C.b dc_M_apart_84 (lv_at hl 0 rfl) ?_
                        refine lv_bipush (v := (nI 10)) C.x C.b dc_M_apart_86 (by decide +kernel) ?_
                        refine bc_ne (tgt := 94) C (by omega) (by omega) dc_M_apart_88 (by decide) (fun q88 => ?_) (fun q88 => ?_)
                        · refine lv_iload C.x C.b dc_M_apart_94 (lv_at hl 0 rfl) ?_
                          refine lv_iload_n C.x C.b dc_M_apart_96 rfl (lv_at hl 2 rfl) ?_
                          refine bc_ne (tgt := 110) C (by omega) (by omega) dc_M_apart_97 (by decide) (fun q97 => ?_) (fun q97 => ?_)
                          · exfalso; omega
                          · refine lv_aload_n C.x C.b dc_M_apart_100 rfl (lv_at hl 4 rfl) ?_
                            refine rg_get C h 0 rfl rfl in_M 16 (by decide) fl_M_38 rfl dc_M_apart_101 ?_
                            refine lv_iload_n C.x C.b dc_M_apart_104 rfl (lv_at hl 2 rfl) ?_
                            refine lv_iload_n C.x C.b dc_M_apart_105 rfl (lv_at hl 1 rfl) ?_
                            refine rg_ist C h 10 rfl (by omega) (by decide) dc_M_apart_106 (fun H locs h => ?_)
                            obtain ⟨ri_2, eri_2⟩ : ∃ zz9, zz9 = us y 9 (us (y 9) c9 i9) := ⟨_, rfl⟩
                            have fri_2 : ∀ zk, zk ≠ 9 → ri_2 zk = y zk := fun zk hzk => by rw [eri_2, us_n _ _ hzk]
                            have gri_2 : ri_2 9 = us (y 9) c9 i9 := by rw [eri_2, us_s]
                            have xri_2 : ri_2 20 0 = y 20 0 ∧ ri_2 20 1 = y 20 1 ∧ ri_2 20 2 = y 20 2 ∧ ri_2 20 3 = y 20 3 ∧ ri_2 20 4 = y 20 4 ∧ ri_2 20 5 = y 20 5 ∧ ri_2 20 6 = y 20 6 := by rw [fri_2 20 (by decide)]; exact ⟨rfl, rfl, rfl, rfl, rfl, rfl, rfl⟩
                            replace h : sT Γ s (rW Γ r ri_2 rl wr) H locs := by rw [eri_2]; exact h
                            refine lv_iinc (v := nI (c9 + 1)) (lv' := [(2, .int (nI (c9 + 1))), (4, .int (nI k)), (3, .int (nI i9)), (1, .int (nI m9)), (0, .ref (r 0))]) C.x C.b dc_M_apart_107 hl (k := 2) rfl (nI_1 c9) (by decide) rfl (fun ls hl => ?_)
                            refine lv_aload_n C.x C.b dc_M_apart_110 rfl (lv_at hl 4 rfl) ?_
                            refine rg_get C h 0 rfl rfl in_M 15 (by decide) fl_M_35 rfl dc_M_apart_111 ?_
                            refine lv_iload_n C.x C.b dc_M_apart_114 rfl (lv_at hl 2 rfl) ?_
                            refine lv_iload C.x C.b dc_M_apart_115 (lv_at hl 1 rfl) ?_
                            refine rg_ist C h 9 rfl (by omega) (by decide) dc_M_apart_117 (fun H locs h => ?_)
                            obtain ⟨ri_3, eri_3⟩ : ∃ zz9, zz9 = us ri_2 8 (us (ri_2 8) i9 k) := ⟨_, rfl⟩
                            have fri_3 : ∀ zk, zk ≠ 8 → ri_3 zk = ri_2 zk := fun zk hzk => by rw [eri_3, us_n _ _ hzk]
                            have gri_3 : ri_3 8 = us (ri_2 8) i9 k := by rw [eri_3, us_s]
                            have xri_3 : ri_3 20 0 = ri_2 20 0 ∧ ri_3 20 1 = ri_2 20 1 ∧ ri_3 20 2 = ri_2 20 2 ∧ ri_3 20 3 = ri_2 20 3 ∧ ri_3 20 4 = ri_2 20 4 ∧ ri_3 20 5 = ri_2 20 5 ∧ ri_3 20 6 = ri_2 20 6 := by rw [fri_3 20 (by decide)]; exact ⟨rfl, rfl, rfl, rfl, rfl, rfl, rfl⟩
                            replace h : sT Γ s (rW Γ r ri_3 rl wr) H locs := by rw [eri_3]; exact h
                            refine lv_iinc (v := nI (i9 + 1)) (lv' := [(3, .int (nI (i9 + 1))), (2, .int (nI (c9 + 1))), (4, .int (nI k)), (1, .int (nI m9)), (0, .ref (r 0))]) C.x C.b dc_M_apart_118 hl (k := 2) rfl (nI_1 i9) (by decide) rfl (fun ls hl => ?_)
                            refine lv_goto (tgt := 46) C.x C.b dc_M_apart_121 (by decide) ?_
                            have hy2 : ∀ zk, zk ≠ 7 → zk ≠ 8 → zk ≠ 9 → ri_3 zk = ri zk := fun zk a b c => by rw [fri_3 zk b, fri_2 zk c]; exact hy zk a b c
                            have hy72 : ri_3 7 = z 7 := by rw [fri_3 7 (by decide), fri_2 7 (by decide)]; exact hy7
                            have hI2 : IN (z 7) (ri 6) (ri_3 9) (ri_3 8) (i9 + 1) (c9 + 1) := hI.new (by omega) (fun k2 hk2 => hno k2 (by omega)) (by rw [fri_3 9 (by decide), gri_2]) (by rw [gri_3, fri_2 8 (by decide), show k = c9 by omega])
                            exact ih_46 (i9 + 1) (c9 + 1) ri_3 _ _ _ (by omega) (by first | assumption | omega) (by first | exact hy2 | exact hy) (by first | exact hy72 | exact hy7) (by first | exact hI2 | exact hI) h (lv_sub hl [0, 1, 3, 4] rfl)
                        · refine lv_bipush (v := (nI 11)) C.x C.b dc_M_apart_91 (by decide +kernel) ?_
                          rw [hQ]
                          exact rt_i C (11, y) h (⟨rfl, hy, Or.inl ⟨rfl, MN.apart hP hT (by rw [show (10 : Nat) = c9 by omega]; exact hI) (by omega) (fun k2 hk2 => hno k2 (by omega)) hE.2.2.2⟩⟩) dc_M_apart_93
                      · refine lv_aload_n C.x C.b dc_M_apart_63 rfl (lv_at hl 4 rfl) ?_
                        refine lv_iload_n C.x C.b dc_M_apart_64 rfl (lv_at hl 1 rfl) ?_
                        refine lv_aload_n C.x C.b dc_M_apart_65 rfl (lv_at hl 4 rfl) ?_
                        refine rg_get C h 0 rfl rfl in_M 16 (by decide) fl_M_38 rfl dc_M_apart_66 ?_
                        refine lv_iload C.x C.b dc_M_apart_69 (lv_at hl 0 rfl) ?_
                        refine rg_ild C h 10 rfl (by omega) (by decide) dc_M_apart_71 ?_
                        refine kv_V (As := [.int (nI i9), .int (nI (y 9 k))]) (rest := []) C h hl.1 (c_M_alike l Γ r y rl wr i9 (y 9 k) (ri 20 6) (by omega) (Nat.lt_of_lt_of_le (hI.2.2.1 k (by omega)) hi9) hE1 (by rw [yt]; exact hto) (by rw [hy7]; exact hP.2.2.1)) mw_M_alike lk_M_93 (q0 := 0) rfl rfl rfl (by decide) (by decide) (Nat.le_of_ble_eq_true rfl) dc_M_apart_72 (fun v u H locs hp h => ?_)
                        obtain ⟨ba_4, rfl⟩ : ∃ zz9, zz9 = u := ⟨_, rfl⟩
                        obtain ⟨rfl, hba_4⟩ := hp
                        replace h : sT Γ s (rW Γ r y rl wr) _ _ := h
                        refine W.eq (g2 := F0 m 75 ls [.int (bI ba_4)]) rfl ?_
                        refine bb_ne (tgt := 84) C dc_M_apart_75 (by decide) (fun q75 => ?_) (fun q75 => ?_)
                        · have hal : AL (z 7) (ri 6) i9 (y 9 k) := by have := hba_4.mp q75; rw [yt, hy7] at this; exact this
                          refine lv_iload C.x C.b dc_M_apart_84 (lv_at hl 0 rfl) ?_
                          refine lv_bipush (v := (nI 10)) C.x C.b dc_M_apart_86 (by decide +kernel) ?_
                          refine bc_ne (tgt := 94) C (by omega) (by omega) dc_M_apart_88 (by decide) (fun q88 => ?_) (fun q88 => ?_)
                          · refine lv_iload C.x C.b dc_M_apart_94 (lv_at hl 0 rfl) ?_
                            refine lv_iload_n C.x C.b dc_M_apart_96 rfl (lv_at hl 2 rfl) ?_
                            refine bc_ne (tgt := 110) C (by omega) (by omega) dc_M_apart_97 (by decide) (fun q97 => ?_) (fun q97 => ?_)
                            · refine lv_aload_n C.x C.b dc_M_apart_110 rfl (lv_at hl 4 rfl) ?_
                              refine rg_get C h 0 rfl rfl in_M 15 (by decide) fl_M_35 rfl dc_M_apart_111 ?_
                              refine lv_iload_n C.x C.b dc_M_apart_114 rfl (lv_at hl 1 rfl) ?_
                              refine lv_iload C.x C.b dc_M_apart_115 (lv_at hl 0 rfl) ?_
                              refine rg_ist C h 9 rfl (by omega) (by decide) dc_M_apart_117 (fun H locs h => ?_)
                              obtain ⟨ri_5, eri_5⟩ : ∃ zz9, zz9 = us y 8 (us (y 8) i9 k) := ⟨_, rfl⟩
                              have fri_5 : ∀ zk, zk ≠ 8 → ri_5 zk = y zk := fun zk hzk => by rw [eri_5, us_n _ _ hzk]
                              have gri_5 : ri_5 8 = us (y 8) i9 k := by rw [eri_5, us_s]
                              have xri_5 : ri_5 20 0 = y 20 0 ∧ ri_5 20 1 = y 20 1 ∧ ri_5 20 2 = y 20 2 ∧ ri_5 20 3 = y 20 3 ∧ ri_5 20 4 = y 20 4 ∧ ri_5 20 5 = y 20 5 ∧ ri_5 20 6 = y 20 6 := by rw [fri_5 20 (by decide)]; exact ⟨rfl, rfl, rfl, rfl, rfl, rfl, rfl⟩
                              replace h : sT Γ s (rW Γ r ri_5 rl wr) H locs := by rw [eri_5]; exact h
                              refine lv_iinc (v := nI (i9 + 1)) (lv' := [(3, .int (nI (i9 + 1))), (4, .int (nI k)), (2, .int (nI c9)), (1, .int (nI m9)), (0, .ref (r 0))]) C.x C.b dc_M_apart_118 hl (k := 1) rfl (nI_1 i9) (by decide) rfl (fun ls hl => ?_)
                              refine lv_goto (tgt := 46) C.x C.b dc_M_apart_121 (by decide) ?_
                              have hy2 : ∀ zk, zk ≠ 7 → zk ≠ 8 → zk ≠ 9 → ri_5 zk = ri zk := fun zk a b c => by rw [fri_5 zk b]; exact hy zk a b c
                              have hy72 : ri_5 7 = z 7 := by rw [fri_5 7 (by decide)]; exact hy7
                              have hI2 : IN (z 7) (ri 6) (ri_5 9) (ri_5 8) (i9 + 1) c9 := by rw [fri_5 9 (by decide)]; exact hI.old (by omega) hal (gri_5)
                              exact ih_46 (i9 + 1) c9 ri_5 _ _ _ (by omega) (by first | assumption | omega) (by first | exact hy2 | exact hy) (by first | exact hy72 | exact hy7) (by first | exact hI2 | exact hI) h (lv_sub hl [0, 2, 3, 4] rfl)
                            · exfalso; omega
                          · refine lv_bipush (v := (nI 11)) C.x C.b dc_M_apart_91 (by decide +kernel) ?_
                            rw [hQ]
                            exact rt_i C (11, y) h (absurd q88 (by omega)) dc_M_apart_93
                        · refine lv_iinc (v := nI (k + 1)) (lv' := [(4, .int (nI (k + 1))), (3, .int (nI i9)), (2, .int (nI c9)), (1, .int (nI m9)), (0, .ref (r 0))]) C.x C.b dc_M_apart_78 hl (k := 0) rfl (nI_1 k) (by decide) rfl (fun ls hl => ?_)
                          refine lv_goto (tgt := 57) C.x C.b dc_M_apart_81 (by decide) ?_
                          have hno : ∀ k2, k2 < k + 1 → ¬ AL (z 7) (ri 6) i9 (y 9 k2) := fun k2 hk2 => by
                            by_cases e9 : k2 = k
                            · rw [e9]; intro z9; rw [yt, hy7] at hba_4; rw [hba_4.mpr z9] at q75; cases q75
                            · exact hno k2 (by omega)
                          exact ih_57 (k + 1) _ _ _ (by omega) (by first | assumption | omega) (by first | assumption | omega) h (lv_sub hl [0, 1, 2, 3, 4] rfl)
                  exact lp_57 _ 0 _ _ _ (Nat.lt_succ_self _) (by first | assumption | omega) (by first | assumption | omega) h (lv_sub hl [0, 1, 2, 3, 4] rfl)
            exact lp_46 _ 0 0 z _ _ _ (Nat.lt_succ_self _) (by first | assumption | omega) (by first | exact hy2 | exact hy) (by first | exact hy72 | exact hy7) (by first | exact hI2 | exact hI) h (lv_sub hl [0, 1, 2, 3] rfl)
        exact lp_42 _ 0 z _ _ _ (Nat.lt_succ_self _) (by first | assumption | omega) (hz2) (hP2) h (lv_sub hl [1, 2] rfl)
      · refine lv_aload_n C.x C.b dc_M_apart_12 rfl (lv_at hl 2 rfl) ?_
        refine rg_get C h 0 rfl rfl in_M 14 (by decide) fl_M_32 rfl dc_M_apart_13 ?_
        refine lv_iload_n C.x C.b dc_M_apart_16 rfl (lv_at hl 0 rfl) ?_
        refine lv_aload_n C.x C.b dc_M_apart_17 rfl (lv_at hl 2 rfl) ?_
        refine lv_aload_n C.x C.b dc_M_apart_18 rfl (lv_at hl 2 rfl) ?_
        refine rg_get C h 0 rfl rfl in_M 12 (by decide) fl_M_26 rfl dc_M_apart_19 ?_
        refine lv_iload_n C.x C.b dc_M_apart_22 rfl (lv_at hl 0 rfl) ?_
        refine rg_ild C h 6 rfl (by omega) (by decide) dc_M_apart_23 ?_
        refine kv_V (As := [.int (nI (z 5 k))]) (rest := [.int (nI k), .ref (r 8)]) C h hl.1 (c_M_isGood l Γ r z rl wr K hKz (z 5 k) (by rw [hz 5 (by decide)]; exact (hE.2.1 k (by omega)).1)) mw_M_isGood lk_M_89 (q0 := 0) rfl rfl rfl (by decide) (by decide) (Nat.le_of_ble_eq_true rfl) dc_M_apart_24 (fun v u H locs hp h => ?_)
        obtain rfl := hp
        replace h : sT Γ s (rW Γ r z rl wr) _ _ := h
        refine W.eq (g2 := F0 m 27 ls [.int (bI (K.2.2.1 (z 5 k))), .int (nI k), .ref (r 8)]) rfl ?_
        refine bb_eq (tgt := 34) C dc_M_apart_27 (by decide) (fun q27 => ?_) (fun q27 => ?_)
        · refine lv_iconst (v := (nI 0)) C.x C.b dc_M_apart_34 (by decide +kernel) ?_
          refine rg_ist C h 8 rfl (by omega) (by decide) dc_M_apart_35 (fun H locs h => ?_)
          obtain ⟨ri_6, eri_6⟩ : ∃ zz9, zz9 = us z 7 (us (z 7) k 0) := ⟨_, rfl⟩
          have fri_6 : ∀ zk, zk ≠ 7 → ri_6 zk = z zk := fun zk hzk => by rw [eri_6, us_n _ _ hzk]
          have gri_6 : ri_6 7 = us (z 7) k 0 := by rw [eri_6, us_s]
          have xri_6 : ri_6 20 0 = z 20 0 ∧ ri_6 20 1 = z 20 1 ∧ ri_6 20 2 = z 20 2 ∧ ri_6 20 3 = z 20 3 ∧ ri_6 20 4 = z 20 4 ∧ ri_6 20 5 = z 20 5 ∧ ri_6 20 6 = z 20 6 := by rw [fri_6 20 (by decide)]; exact ⟨rfl, rfl, rfl, rfl, rfl, rfl, rfl⟩
          replace h : sT Γ s (rW Γ r ri_6 rl wr) H locs := by rw [eri_6]; exact h
          refine lv_iinc (v := nI (k + 1)) (lv' := [(2, .int (nI (k + 1))), (1, .int (nI 0)), (0, .ref (r 0))]) C.x C.b dc_M_apart_36 hl (k := 0) rfl (nI_1 k) (by decide) rfl (fun ls hl => ?_)
          refine lv_goto (tgt := 4) C.x C.b dc_M_apart_39 (by decide) ?_
          have hz1 : ∀ zk, zk ≠ 7 → ri_6 zk = ri zk := fun zk hzk => (fri_6 zk hzk).trans (hz zk hzk)
          have hg1 : ∀ j, j < k + 1 → ri_6 7 j = (K.2.2.1 (ri 5 j)).toNat := fun j hj => by
            rw [gri_6]
            by_cases e9 : j = k
            · rw [e9, us_s, ← hz 5 (by decide), q27]; rfl
            · rw [us_n _ _ e9]; exact hg j (by omega)
          exact ih_4 (k + 1) ri_6 _ _ _ (by omega) (by first | assumption | omega) (by assumption) (by assumption) h (lv_sub hl [0, 1, 2] rfl)
        · refine lv_iconst (v := (nI 1)) C.x C.b dc_M_apart_30 (by decide +kernel) ?_
          refine lv_goto (tgt := 35) C.x C.b dc_M_apart_31 (by decide) ?_
          refine rg_ist C h 8 rfl (by omega) (by decide) dc_M_apart_35 (fun H locs h => ?_)
          obtain ⟨ri_7, eri_7⟩ : ∃ zz9, zz9 = us z 7 (us (z 7) k 1) := ⟨_, rfl⟩
          have fri_7 : ∀ zk, zk ≠ 7 → ri_7 zk = z zk := fun zk hzk => by rw [eri_7, us_n _ _ hzk]
          have gri_7 : ri_7 7 = us (z 7) k 1 := by rw [eri_7, us_s]
          have xri_7 : ri_7 20 0 = z 20 0 ∧ ri_7 20 1 = z 20 1 ∧ ri_7 20 2 = z 20 2 ∧ ri_7 20 3 = z 20 3 ∧ ri_7 20 4 = z 20 4 ∧ ri_7 20 5 = z 20 5 ∧ ri_7 20 6 = z 20 6 := by rw [fri_7 20 (by decide)]; exact ⟨rfl, rfl, rfl, rfl, rfl, rfl, rfl⟩
          replace h : sT Γ s (rW Γ r ri_7 rl wr) H locs := by rw [eri_7]; exact h
          refine lv_iinc (v := nI (k + 1)) (lv' := [(2, .int (nI (k + 1))), (1, .int (nI 0)), (0, .ref (r 0))]) C.x C.b dc_M_apart_36 hl (k := 0) rfl (nI_1 k) (by decide) rfl (fun ls hl => ?_)
          refine lv_goto (tgt := 4) C.x C.b dc_M_apart_39 (by decide) ?_
          have hz1 : ∀ zk, zk ≠ 7 → ri_7 zk = ri zk := fun zk hzk => (fri_7 zk hzk).trans (hz zk hzk)
          have hg1 : ∀ j, j < k + 1 → ri_7 7 j = (K.2.2.1 (ri 5 j)).toNat := fun j hj => by
            rw [gri_7]
            by_cases e9 : j = k
            · rw [e9, us_s, ← hz 5 (by decide), q27]; rfl
            · rw [us_n _ _ e9]; exact hg j (by omega)
          exact ih_4 (k + 1) ri_7 _ _ _ (by omega) (by first | assumption | omega) (by assumption) (by assumption) h (lv_sub hl [0, 1, 2] rfl)
  exact lp_4 _ 0 ri _ _ _ (Nat.lt_succ_self _) (by first | assumption | omega) (by assumption) (by assumption) h (lv_sub hl [0, 1, 2] rfl)

