/-! the operations: the class's machine and the reference's go together -/
theorem bis {M K : mM} (R : Nat → Nat → Prop) (hs : ∀ a b l, R a b → l < 3 → R (M.2.1 a l) (K.2.1 b l)) (ha : ∀ a b, R a b → M.2.2.1 a = K.2.2.1 b) : ∀ (w : List Nat) (a b : Nat), lts w → R a b → macc M a w = macc K b w
  | [], a, b, _, h => ha a b h
  | l :: w, a, b, hw, h => bis R hs ha w _ _ (lts_tl hw).2 (hs a b l h (lts_tl hw).1)
theorem lg_e : ∀ w, lts w → macc (mqO 0 1) (mqO 0 1).1 w = macc jE jE.1 w := fun w hw => by
  refine bis (fun a b => (a = 1 ∧ b = 0) ∨ (a = 2 ∧ b = 1)) (fun a b l h hl => ?_) (fun a b h => ?_) w _ _ hw (Or.inl ⟨rfl, rfl⟩)
  · refine Or.inr ⟨?_, rfl⟩
    show mmO 0 a l = 2
    unfold mmO
    rw [if_neg (fun z => by rw [Nat.zero_testBit] at z; exact Bool.noConfusion z.2)]
  · show decide (a = 1) = decide (b = 0)
    rcases h with ⟨rfl, rfl⟩ | ⟨rfl, rfl⟩ <;> rfl
theorem maR_all : ∀ e : Fin 1024, ∀ p : Fin 10, maR (nI e.val) p.val = e.val.testBit p.val ∧ maR (nI e.val ^^^ mI 0) p.val = !e.val.testBit p.val := by decide +kernel
theorem lg_r {t u : Nat → Nat → Nat} {a b e : Nat} {f : Nat → Bool} (ht : tOK t) (he : e < 1024) (ha : a < t 0 0) (hab : SE t a u b) (K : mM) (h1 : K.1 = b) (h2 : K.2.1 = mmR u) (h3 : ∀ x y, x < t 0 0 → SE t x u y → (∃ w, lts w ∧ mrun (tM u) b w = y) → e.testBit x = K.2.2.1 y) : ∀ w, lts w → macc (mqR t a (nI e)) (mqR t a (nI e)).1 w = macc K K.1 w := fun w hw => by
  refine bis (fun x y => x < t 0 0 ∧ SE t x u y ∧ ∃ w, lts w ∧ mrun (tM u) b w = y) (fun x y l h hl => ?_) (fun x y h => ?_) w _ _ hw ⟨ha, by rw [h1]; exact hab, [], lts_nil, h1.symm⟩
  · rw [h2]
    refine ⟨ht.2.2.2.2 x l h.1 hl, h.2.1.step hl, ?_⟩
    obtain ⟨v, v1, v2⟩ := h.2.2
    exact ⟨v ++ [l], lts_app v1 (lts_cons hl lts_nil), by rw [mrun_snoc, v2]; rfl⟩
  · show maR (nI e) x = _
    rw [(maR_all ⟨e, he⟩ ⟨x, by have := h.1; have := ht.2.1; omega⟩).1]
    exact h3 x y h.1 h.2.1 h.2.2
theorem lg_c {t u : Nat → Nat → Nat} {b : Nat} (ht : tOK t) (h : SE t 0 u b) : ∀ w, lts w → macc (mqR t 0 (nI (t 0 1) ^^^ mI 0)) (mqR t 0 (nI (t 0 1) ^^^ mI 0)).1 w = macc (jC u b) (jC u b).1 w := fun w hw => by
  refine bis (fun x y => x < t 0 0 ∧ SE t x u y) (fun x y l h hl => ?_) (fun x y h => ?_) w _ _ hw ⟨ht.1, h⟩
  · exact ⟨ht.2.2.2.2 x l h.1 hl, h.2.step hl⟩
  · show maR (nI (t 0 1) ^^^ mI 0) x = !(u 0 1).testBit y
    rw [(maR_all ⟨t 0 1, ht.2.2.1⟩ ⟨x, by have := h.1; have := ht.2.1; omega⟩).2, ← h.2.bit]
theorem lg_s {t u : Nat → Nat → Nat} {b lt : Nat} (ht : tOK t) (hl : lt < 3) (h : SE t 0 u b) : ∀ w, lts w → macc (mqR t (t 1 (0 * 3 + lt)) (nI (t 0 1))) (mqR t (t 1 (0 * 3 + lt)) (nI (t 0 1))).1 w = macc (jR u b lt) (jR u b lt).1 w :=
  lg_r (f := fun _ => true) ht ht.2.2.1 (ht.2.2.2.2 0 lt ht.1 hl) (h.step hl) (jR u b lt) rfl rfl (fun _ _ _ e _ => e.bit)
/-- a rest of which the table says that it has no word has none -/
theorem tG.dead {t : Nat → Nat → Nat} (h : tG t) {r : Nat} (hr : r < t 0 0) : (t 0 2).testBit r = true ↔ ∃ k, dlv (t 0 1) (t 1) k r = true := by
  obtain ⟨f, -, e⟩ := h.2.2.2 r hr
  rw [e, decide_eq_true_iff]
  constructor
  · intro z
    obtain ⟨k, hk⟩ := Nat.exists_eq_succ_of_ne_zero z
    exact ⟨k, (f.2 k hk).1⟩
  · rintro ⟨k, hk⟩ z
    obtain ⟨j, j1, j2⟩ := dlv_short h.1 hr hk
    rw [f.1 z j j1] at j2; cases j2
theorem tG.dw {t : Nat → Nat → Nat} (h : tG t) {r : Nat} (hr : r < t 0 0) {w : List Nat} (hw : lts w) (ha : macc (tM t) r w = true) : (t 0 2).testBit r = true := (h.dead hr).mpr ⟨w.length, (dlv_w _ _).mpr ⟨w, hw, rfl, ha⟩⟩
theorem lg_g {t u : Nat → Nat → Nat} {b : Nat} {lv : Nat → Bool} (ht : tG t) (hu : tOK u) (hb : b < u 0 0) (h : SE t 0 u b) (hl : ∀ x, x < u 0 0 → (lv x = true ↔ ∃ k, k < 11 ∧ dlv (u 0 1) (u 1) k x = true)) : ∀ w, lts w → macc (mqR t 0 (nI (t 0 2))) (mqR t 0 (nI (t 0 2))).1 w = macc (jG u b lv) (jG u b lv).1 w :=
  lg_r (f := fun _ => true) ht.1 ht.1.2.2.2.1 ht.1.1 h (jG u b lv) rfl rfl (fun x y hx e hy => by
    obtain ⟨v, v1, v2⟩ := hy
    have hyl : y < u 0 0 := by rw [← v2]; exact run_lt hu _ _ v1 hb
    show (t 0 2).testBit x = lv y
    rw [Bool.eq_iff_iff, ht.dead hx, hl y hyl]
    constructor
    · rintro ⟨k, hk⟩
      rw [se_dlv k e] at hk
      obtain ⟨j, j1, j2⟩ := dlv_short hu hyl hk
      exact ⟨j, by have := hu.2.1; omega, j2⟩
    · rintro ⟨k, -, hk⟩
      exact ⟨k, by rw [se_dlv k e]; exact hk⟩)
theorem lg_b {t u t2 u2 : Nat → Nat → Nat} {how s r : Nat} (ht : tOK t) (hu : tOK u) (ht2 : tOK t2) (hu2 : tOK u2) (hs : s < t2 0 0) (hr : r < u2 0 0) (h : SE t 0 t2 s) (g : SE u 0 u2 r) : ∀ w, lts w → macc (mqB how t u) (mqB how t u).1 w = macc (jB how t2 s u2 r) (jB how t2 s u2 r).1 w := fun w hw => by
  have hn := hu.2.1
  have hn2 := hu2.2.1
  refine bis (fun x y => x % 10 < u 0 0 ∧ y % 16 < u2 0 0 ∧ SE t (x / 10) t2 (y / 16) ∧ SE u (x % 10) u2 (y % 16)) (fun x y l h hl => ?_) (fun x y h => ?_) w _ _ hw ?_
  · obtain ⟨h1, h2, h3, h4⟩ := h
    have a := hu.2.2.2.2 (x % 10) l h1 hl
    have b := hu2.2.2.2.2 (y % 16) l h2 hl
    show mmB t u x l % 10 < u 0 0 ∧ (16 * t2 1 (y / 16 * 3 + l) + u2 1 (y % 16 * 3 + l)) % 16 < u2 0 0 ∧ SE t (mmB t u x l / 10) t2 ((16 * t2 1 (y / 16 * 3 + l) + u2 1 (y % 16 * 3 + l)) / 16) ∧ SE u (mmB t u x l % 10) u2 ((16 * t2 1 (y / 16 * 3 + l) + u2 1 (y % 16 * 3 + l)) % 16)
    unfold mmB
    rw [show (t 1 (x / 10 * 3 + l) * 10 + u 1 (x % 10 * 3 + l)) / 10 = t 1 (x / 10 * 3 + l) by omega, show (t 1 (x / 10 * 3 + l) * 10 + u 1 (x % 10 * 3 + l)) % 10 = u 1 (x % 10 * 3 + l) by omega, show (16 * t2 1 (y / 16 * 3 + l) + u2 1 (y % 16 * 3 + l)) / 16 = t2 1 (y / 16 * 3 + l) by omega, show (16 * t2 1 (y / 16 * 3 + l) + u2 1 (y % 16 * 3 + l)) % 16 = u2 1 (y % 16 * 3 + l) by omega]
    exact ⟨a, b, h3.step hl, h4.step hl⟩
  · show maB how t u x = bOp how ((t2 0 1).testBit (y / 16)) ((u2 0 1).testBit (y % 16))
    rw [← h.2.2.1.bit, ← h.2.2.2.bit]
    rfl
  · show 0 % 10 < u 0 0 ∧ (16 * s + r) % 16 < u2 0 0 ∧ SE t (0 / 10) t2 ((16 * s + r) / 16) ∧ SE u (0 % 10) u2 ((16 * s + r) % 16)
    rw [show (16 * s + r) / 16 = s by omega, show (16 * s + r) % 16 = r by omega]
    exact ⟨hu.1, hr, h, g⟩
/-! backwards -/
theorem bAll_bit (S : Nat) (nx : Nat → Nat) (r : Nat) : ∀ n, (bAll S nx n).testBit r = (decide (r < n) && S.testBit (nx r))
  | 0 => by rw [bAll]; simp
  | n + 1 => by
    rw [bAll]
    by_cases e : r = n
    · subst e
      cases hf : S.testBit (nx r)
      · rw [if_neg (by decide), bAll_bit S nx r r]; simp [hf]
      · rw [if_pos rfl, Nat.testBit_or, Nat.testBit_two_pow_self]; simp
    · split
      · rw [Nat.testBit_or, Nat.testBit_two_pow_of_ne (by omega), bAll_bit S nx r n]
        rw [Bool.or_false]
        congr 1
        exact decide_eq_decide.mpr (by omega)
      · rw [bAll_bit S nx r n]
        congr 1
        exact decide_eq_decide.mpr (by omega)
theorem lts_rev {w : List Nat} (h : lts w) : lts w.reverse := fun l hl => h l (List.mem_reverse.mp hl)
theorem back_w {t : Nat → Nat → Nat} {M : mM} (ht : tOK t) (hM : M.2.1 = mmK t) : ∀ (w : List Nat) (S x : Nat), lts w → x < t 0 0 → (mrun M S w).testBit x = S.testBit (mrun (tM t) x w.reverse)
  | [], _, _, _, _ => rfl
  | l :: w, S, x, hw, hx => by
    obtain ⟨hl, hw2⟩ := lts_tl hw
    show (mrun M (M.2.1 S l) w).testBit x = _
    rw [back_w ht hM w _ x hw2 hx, hM, List.reverse_cons, mrun_snoc]
    show (bAll S (fun r => t 1 (r * 3 + l)) (t 0 0)).testBit _ = _
    rw [bAll_bit, decide_eq_true (run_lt ht _ _ (lts_rev hw2) hx), Bool.true_and]
    rfl
theorem lg_k {t u : Nat → Nat → Nat} {b : Nat} (ht : tOK t) (hu : tOK u) (hb : b < u 0 0) (h : SE t 0 u b) : ∀ w, lts w → macc (mqK t) (mqK t).1 w = macc (jK u b) (jK u b).1 w := fun w hw => by
  have a := back_w (M := mqK t) ht rfl w (t 0 1) 0 hw ht.1
  have c := back_w (M := jK u b) hu rfl w (u 0 1) b hw hb
  show maK (mrun (mqK t) (t 0 1) w) = (mrun (jK u b) (u 0 1) w).testBit b
  rw [c]
  have e := h _ (lts_rev hw)
  unfold macc at e
  refine Eq.trans ?_ e
  refine Eq.trans ?_ a
  generalize mrun (mqK t) (t 0 1) w = z
  unfold maK
  rw [Nat.testBit_zero]
  by_cases q : z % 2 = 0
  · rw [q]; rfl
  · rw [show z % 2 = 1 by omega]; rfl
/-! sets of rests -/
/-- the rests S have the word w -/
def UW (u : Nat → Nat → Nat) (S : Nat) (w : List Nat) : Prop := ∃ r, r < u 0 0 ∧ S.testBit r = true ∧ macc (tM u) r w = true
theorem aAll_bit (S : Nat) (nx : Nat → Nat) (x : Nat) : ∀ n, (aAll S nx n).testBit x = true ↔ ∃ r, r < n ∧ S.testBit r = true ∧ nx r = x
  | 0 => by rw [aAll, Nat.zero_testBit]; exact ⟨fun h => (by cases h), fun ⟨r, h, _⟩ => absurd h (Nat.not_lt_zero _)⟩
  | n + 1 => by
    have ih := aAll_bit S nx x n
    rw [aAll]
    constructor
    · split
      · rename_i hb
        intro h
        rw [Nat.testBit_or, Bool.or_eq_true] at h
        rcases h with h | h
        · obtain ⟨r, r1, r2⟩ := ih.mp h; exact ⟨r, by omega, r2⟩
        · rw [Nat.testBit_two_pow, decide_eq_true_iff] at h
          exact ⟨n, by omega, hb, h⟩
      · intro h
        obtain ⟨r, r1, r2⟩ := ih.mp h; exact ⟨r, by omega, r2⟩
    · rintro ⟨r, r1, r2, r3⟩
      by_cases e : r = n
      · subst e
        rw [if_pos r2, Nat.testBit_or, r3, Nat.testBit_two_pow_self, Bool.or_true]
      · have h := ih.mpr ⟨r, by omega, r2, r3⟩
        split
        · rw [Nat.testBit_or, h]; rfl
        · exact h
theorem UW.step {u : Nat → Nat → Nat} (hu : tOK u) {S l : Nat} {w : List Nat} (hl : l < 3) : UW u (aAll S (fun r => u 1 (r * 3 + l)) (u 0 0)) w ↔ UW u S (l :: w) := by
  constructor
  · rintro ⟨x, x1, x2, x3⟩
    obtain ⟨r, r1, r2, r3⟩ := (aAll_bit _ _ _ _).mp x2
    subst r3
    exact ⟨r, r1, r2, x3⟩
  · rintro ⟨r, r1, r2, r3⟩
    exact ⟨_, hu.2.2.2.2 r l r1 hl, (aAll_bit _ _ _ _).mpr ⟨r, r1, r2, rfl⟩, r3⟩
theorem UW.live {u : Nat → Nat → Nat} (hu : tG u) {S : Nat} {w : List Nat} (hw : lts w) : UW u (S &&& u 0 2) w ↔ UW u S w := by
  constructor
  · rintro ⟨x, x1, x2, x3⟩
    rw [Nat.testBit_and, Bool.and_eq_true] at x2
    exact ⟨x, x1, x2.1, x3⟩
  · rintro ⟨x, x1, x2, x3⟩
    exact ⟨x, x1, by rw [Nat.testBit_and, x2, hu.dw x1 hw x3]; rfl, x3⟩
theorem UW.plus {u : Nat → Nat → Nat} {S r : Nat} (hr : r < u 0 0) {w : List Nat} : UW u (S ||| 2 ^ r) w ↔ (UW u S w ∨ macc (tM u) r w = true) := by
  constructor
  · rintro ⟨x, x1, x2, x3⟩
    rw [Nat.testBit_or, Bool.or_eq_true] at x2
    rcases x2 with h | h
    · exact Or.inl ⟨x, x1, h, x3⟩
    · rw [Nat.testBit_two_pow, decide_eq_true_iff] at h
      subst h; exact Or.inr x3
  · rintro (⟨x, x1, x2, x3⟩ | h)
    · exact ⟨x, x1, by rw [Nat.testBit_or, x2]; rfl, x3⟩
    · exact ⟨r, hr, by rw [Nat.testBit_or, Nat.testBit_two_pow_self, Bool.or_true], h⟩
theorem UW.nil {u : Nat → Nat → Nat} {S : Nat} (he : u 0 1 < 2 ^ u 0 0) : UW u S [] ↔ ¬ S &&& u 0 1 = 0 := by
  rw [and_ne]
  constructor
  · rintro ⟨x, -, x2, x3⟩; exact ⟨x, x2, x3⟩
  · rintro ⟨x, x2, x3⟩
    refine ⟨x, ?_, x2, x3⟩
    apply Classical.byContradiction
    intro z
    rw [Nat.testBit_lt_two_pow (Nat.lt_of_lt_of_le he (Nat.pow_le_pow_right (by decide) (by omega)))] at x3
    cases x3
theorem UW.one {u : Nat → Nat → Nat} {r : Nat} (hr : r < u 0 0) {w : List Nat} : UW u (2 ^ r) w ↔ macc (tM u) r w = true := by
  constructor
  · rintro ⟨x, x1, x2, x3⟩
    rw [Nat.testBit_two_pow, decide_eq_true_iff] at x2
    subst x2; exact x3
  · exact fun h => ⟨r, hr, Nat.testBit_two_pow_self, h⟩
/-- one after the other -/
theorem lg_h {t u t2 u2 : Nat → Nat → Nat} {s r : Nat} (ht : tOK t) (hu : tG u) (ht2 : tOK t2) (hu2 : tOK u2) (he2 : u2 0 1 < 2 ^ u2 0 0) (hs : s < t2 0 0) (hr : r < u2 0 0) (h : SE t 0 t2 s) (g : SE u 0 u2 r) : ∀ w, lts w → macc (mqH t u) (mqH t u).1 w = macc (jH t2 s u2 r) (jH t2 s u2 r).1 w := fun w hw => by
  have beg : ∀ a b S S2, S < 1024 → S2 < 2 ^ u2 0 0 → SE t a t2 b → (∀ w, lts w → (UW u S w ↔ UW u2 S2 w)) → SE t (mwB t a S / 1024) t2 (jhB t2 r b S2 / 1024) ∧ ∀ w, lts w → (UW u (mwB t a S % 1024) w ↔ UW u2 (jhB t2 r b S2 % 1024) w) := by
    intro a b S S2 hS hS2 e f
    obtain ⟨p1, p2⟩ := mwB_div (t := t) (a := a) hS
    obtain ⟨q1, -, q2⟩ := jhB_div (t := t2) (x := b) hr hu2.2.1 hS2
    rw [p1, p2, q1, q2, ← e.bit]
    refine ⟨e, fun w hw => ?_⟩
    cases (t 0 1).testBit a
    · rw [if_neg (by decide)]
      show UW u (S ||| 0) w ↔ _
      rw [Nat.or_zero]
      exact f w hw
    · rw [if_pos rfl]
      show UW u (S ||| 2 ^ 0) w ↔ _
      rw [UW.plus hu.1.1, UW.plus hr, f w hw, g w hw]
  refine bis (fun x y => SE t (x / 1024) t2 (y / 1024) ∧ ∀ w, lts w → (UW u (x % 1024) w ↔ UW u2 (y % 1024) w)) (fun x y l h hl => ?_) (fun x y h => ?_) w _ _ hw ?_
  · refine beg _ _ _ _ (and_lt hu.1.2.2.2.1) (aAll_lt _ (fun z hz => hu2.2.2.2.2 z l hz hl)) (h.1.step hl) (fun w hw => ?_)
    rw [UW.live hu hw, UW.step hu.1 hl, UW.step hu2 hl]
    exact h.2 _ (lts_cons hl hw)
  · show decide (¬ x % 1024 &&& u 0 1 = 0) = decide (¬ y % 1024 &&& u2 0 1 = 0)
    apply decide_eq_decide.mpr
    rw [← UW.nil hu.2.2.1.2.2, ← UW.nil he2]
    exact h.2 [] lts_nil
  · refine beg _ _ _ _ (by decide) (Nat.two_pow_pos _) h (fun w _ => ?_)
    constructor
    · rintro ⟨x, -, x2, -⟩; rw [Nat.zero_testBit] at x2; cases x2
    · rintro ⟨x, -, x2, -⟩; rw [Nat.zero_testBit] at x2; cases x2
/-- any number of them, one after the other -/
theorem lg_n {t u : Nat → Nat → Nat} {s : Nat} (ht : tG t) (hu : tOK u) (he2 : u 0 1 < 2 ^ u 0 0) (hs : s < u 0 0) (h : SE t 0 u s) : ∀ w, lts w → macc (mqN t) (mqN t).1 w = macc (jN u s) (jN u s).1 w := fun w hw => by
  have st : ∀ S S2 x y l, l < 3 → mnS t x l = aAll S (fun r => t 1 (r * 3 + l)) (t 0 0) &&& t 0 2 → jnS u s y l = aAll S2 (fun r => u 1 (r * 3 + l)) (u 0 0) → (∀ w, lts w → (UW t S w ↔ UW u S2 w)) → ((mqN t).2.1 x l < 1024 ∧ (jN u s).2.1 y l < 1024) ∧ ∀ w, lts w → (UW t ((mqN t).2.1 x l) w ↔ UW u ((jN u s).2.1 y l) w) := by
    intro S S2 x y l hl e1 e2 f
    have g : ∀ w, lts w → (UW t (mnS t x l) w ↔ UW u (jnS u s y l) w) := fun w hw => by
      rw [e1, e2, UW.live ht hw, UW.step ht.1 hl, UW.step hu hl]
      exact f _ (lts_cons hl hw)
    have l1 : mnS t x l < 2 ^ 10 := by rw [e1]; exact and_lt ht.1.2.2.2.1
    have l2 : jnS u s y l < 2 ^ 10 := by rw [e2]; exact Nat.lt_of_lt_of_le (aAll_lt _ (fun z hz => hu.2.2.2.2 z l hz hl)) (Nat.pow_le_pow_right (by decide) hu.2.1)
    have z := g [] lts_nil
    rw [UW.nil ht.2.2.1.2.2, UW.nil he2] at z
    show (mmN t x l < 1024 ∧ (if jnS u s y l &&& u 0 1 = 0 then jnS u s y l else jnS u s y l ||| 2 ^ s) < 1024) ∧ ∀ w, lts w → (UW t (mmN t x l) w ↔ UW u (if jnS u s y l &&& u 0 1 = 0 then jnS u s y l else jnS u s y l ||| 2 ^ s) w)
    unfold mmN
    by_cases q : mnS t x l &&& t 0 1 = 0
    · have q2 : jnS u s y l &&& u 0 1 = 0 := Classical.byContradiction (fun k => z.mpr k q)
      rw [if_pos q, if_pos q2]
      exact ⟨⟨l1, l2⟩, g⟩
    · have q2 := z.mp q
      rw [if_neg q, if_neg q2]
      refine ⟨⟨Nat.or_lt_two_pow (n := 10) l1 (by decide), Nat.or_lt_two_pow (n := 10) l2 (Nat.pow_lt_pow_right (by decide) (by have := hu.2.1; omega))⟩, fun w hw => ?_⟩
      show UW t (mnS t x l ||| 2 ^ 0) w ↔ _
      rw [UW.plus ht.1.1, UW.plus hs, g w hw, h w hw]
  refine bis (fun x y => (x = 1024 ∧ y = 1024) ∨ ((x < 1024 ∧ y < 1024) ∧ ∀ w, lts w → (UW t x w ↔ UW u y w))) (fun x y l h2 hl => ?_) (fun x y h => ?_) w _ _ hw (Or.inl ⟨rfl, rfl⟩)
  · refine Or.inr ?_
    rcases h2 with ⟨rfl, rfl⟩ | ⟨⟨h1, h2⟩, h3⟩
    · exact st (2 ^ 0) (2 ^ s) _ _ l hl rfl rfl (fun w hw => by rw [UW.one ht.1.1, UW.one hs, h w hw])
    · exact st x y _ _ l hl (by unfold mnS; rw [if_neg (by omega)]) (by unfold jnS; rw [if_neg (by omega)]) h3
  · show decide (x = 1024 ∨ ¬ x &&& t 0 1 = 0) = decide (y = 1024 ∨ ¬ y &&& u 0 1 = 0)
    rcases h with ⟨rfl, rfl⟩ | ⟨⟨h1, h2⟩, h3⟩
    · rw [decide_eq_true (Or.inl rfl), decide_eq_true (Or.inl rfl)]
    · apply decide_eq_decide.mpr
      rw [← UW.nil ht.2.2.1.2.2, ← UW.nil he2, h3 [] lts_nil]
      exact ⟨fun k => Or.inr (k.resolve_left (by omega)), fun k => Or.inr (k.resolve_left (by omega))⟩
