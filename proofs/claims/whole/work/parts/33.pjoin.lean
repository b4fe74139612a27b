/-! class and reference side by side -/
theorem nj {a b : Nat} (ha : a < 1000) (hb : b < 1000) (h : nI a = nI b) : a = b := by
  have := (mI_eqm (a := a + 1) (b := b + 1) (by omega) (by omega)).mp (by rw [← mI_s, ← mI_s]; exact h)
  omega
def LE (M K : mM) : Prop := ∀ w, lts w → macc M M.1 w = macc K K.1 w
def JS (so : Nat → Nat → Nat) (tb : Nat → Nat → Nat → Nat) (ri : Nat → Nat → Nat) : Prop := CS so tb ∧ RS ri ∧ ri 20 1 = so 10 3 ∧ ∀ p, p < so 10 3 → SE (tb p) 0 (rT ri p) (ri 1 p)
/-- the two together: each goes its own way -/
theorem pr_b {t u : Nat → Nat → Nat} {how : Nat} (hu : tOK u) : ∀ w, lts w → macc (mqB how t u) (mqB how t u).1 w = bOp how (macc (tM t) 0 w) (macc (tM u) 0 w) := by
  have key : ∀ (w : List Nat) (x a b : Nat), lts w → x / 10 = a → x % 10 = b → b < u 0 0 → macc (mqB how t u) x w = bOp how (macc (tM t) a w) (macc (tM u) b w) := by
    intro w
    induction w with
    | nil => rintro x a b - rfl rfl -; rfl
    | cons l w ih =>
      intro x a b hw h1 h2 h3
      obtain ⟨hl, hw2⟩ := lts_tl hw
      have hn := hu.2.1
      have k := hu.2.2.2.2 b l h3 hl
      rw [macc_cons, macc_cons, macc_cons]
      refine ih _ _ _ hw2 ?_ ?_ k
      · show mmB t u x l / 10 = t 1 (a * 3 + l)
        unfold mmB; rw [h1, h2]; omega
      · show mmB t u x l % 10 = u 1 (b * 3 + l)
        unfold mmB; rw [h1, h2]; omega
  exact fun w hw => key w 0 0 0 hw rfl rfl hu.1
section JN
variable {so so2 : Nat → Nat → Nat} {tb : Nat → Nat → Nat → Nat} {ri u2 : Nat → Nat → Nat} {hm : Nat} {mc : va_E} {k : Nat} {g : Nat → Int64} {v : Option Value} {u : xG}
theorem JS.kp (h : JS so tb ri) (hc : CS so2 tb) (h3 : so2 10 3 = so 10 3) (h1 : u2 20 1 = ri 20 1) (hs : sS ri u2 (ri 20 1)) : JS so2 tb u2 := by
  obtain ⟨-, a, b, c⟩ := h
  refine ⟨hc, a.of h1 hs, by rw [h1, h3, b], fun p hp => ?_⟩
  rw [h3] at hp
  have hq : p < ri 20 1 := by rw [b]; exact hp
  rw [hs.tab hq (a.2 p hq).1.2.2.1, (hs p hq).2.1]
  exact c p hp
theorem JS.t (h : JS so tb ri) {p : Nat} (hp : p < so 10 3) : tG (tb p) ∧ tOK (rT ri p) ∧ ri 1 p < rT ri p 0 0 ∧ rT ri p 0 1 < 2 ^ rT ri p 0 0 ∧ SE (tb p) 0 (rT ri p) (ri 1 p) ∧ tMin (rT ri p) ∧ ∀ s, s < rT ri p 0 0 → ∃ w, lts w ∧ mrun (tM (rT ri p)) (ri 1 p) w = s := by
  have g := h.2.1.2 p (by rw [h.2.2.1]; exact hp)
  exact ⟨h.1.2.2 p hp, g.1.tok, g.1.2.2.2.1, eAll_lt _ _, h.2.2.2 p hp, g.2.1, g.2.2⟩
/-- the law's part of a making -/
def wM (hm : Nat) (mc : va_E) (so : Nat → Nat → Nat) (tb : Nat → Nat → Nat → Nat) (c : Nat) (LA : mM → Prop) (k : Nat) (u : xG) (g : Nat → Int64) : Prop :=
  (k = 0 ∧ ∃ M x, LA M ∧ mkP so tb M (some (.int x)) u ∧ g 0 = x.toInt64) ∨ (k = 1 ∧ (∀ M, ¬ LA M) ∧ u = (hm, mc, so, tb)) ∨ (k = c ∧ ∃ M, LA M ∧ mkX so tb M u)
/-- what the law finds equal -/
def JC (k : Nat) (g : Nat → Int64) (v : Option Value) (so : Nat → Nat → Nat) (tb : Nat → Nat → Nat → Nat) (u2 : Nat → Nat → Nat) : Prop := JS so tb u2 ∧ u2 20 0 = k ∧ ∃ x, v = some (.int x) ∧ (k = 0 → g 0 = x.toInt64)
def JZ (k : Nat) (g : Nat → Int64) (v : Option Value) (so : Nat → Nat → Nat) (tb : Nat → Nat → Nat → Nat) (u2 : Nat → Nat → Nat) : Prop := JS so tb u2 ∧ u2 20 0 = k ∧ ∃ x, v = some (.int x) ∧ (k = 0 → g 0 = if x = 0 then 0 else 1)
def JL (k : Nat) (g : Nat → Int64) (v : Option Value) (so : Nat → Nat → Nat) (tb : Nat → Nat → Nat → Nat) (u2 : Nat → Nat → Nat) : Prop := JS so tb u2 ∧ u2 20 0 = k ∧ ∃ x, v = some (.long x) ∧ (k = 0 → g 0 = x)
theorem jn_mk {c : Nat} {LA LB : mM → Prop} (h0 : c ≠ 0) (hJ : JS so tb ri) (hx : wM hm mc so tb c LA k u g) (hr : ((∀ K, ¬ LB K) ∧ rbad 1 ri v u2) ∨ ∃ K, LB K ∧ mkF c ri K v u2) (hE : (∃ M, LA M) ↔ ∃ K, LB K) (hL : ∀ M K, LA M → LB K → LE M K) : JC k g v u.2.2.1 u.2.2.2 u2 := by
  have hc := hJ.2.2.1
  rcases hx with ⟨rfl, M, x, hM, ⟨m1, m2, m3, m4, m5, m6⟩, hg⟩ | ⟨rfl, hM, rfl⟩ | ⟨rfl, M, hM, m1, m2, m3, m4⟩
  · rcases hr with ⟨hK, -⟩ | ⟨K, hK, hF⟩
    · obtain ⟨K, hK2⟩ := hE.mp ⟨M, hM⟩
      exact absurd hK2 (hK K)
    · have e := hL M K hM hK
      rcases hF with ⟨-, -, f3, -, -⟩ | ⟨f1, f2, f3, f4, f5, f6, f7⟩
      · exfalso
        rcases f3 with f3 | f3
        · omega
        · exact no_MN (m3.2.2 (so 10 3) (by omega)).1 (m3.2.2 (so 10 3) (by omega)).1.1 (fun w hw => (m6 w hw).trans (e w hw)) f3
      · refine ⟨⟨m3, ⟨by omega, fun p hp => ?_⟩, by omega, fun p hp => ?_⟩, f1, nI (ri 20 1), f3, fun _ => ?_⟩
        · rw [f4] at hp
          by_cases z : p = ri 20 1
          · rw [z]; exact f6
          · exact f5.ok (by omega) (hJ.2.1.2 p (by omega))
        · rw [m4] at hp
          by_cases z : p = so 10 3
          · intro w hw
            have a := m6 w hw
            have b := f7 w hw
            rw [z, a, e w hw, ← hc, b]
          · rw [m5 p (by omega), f5.tab (by omega) (hJ.2.1.2 p (by omega)).1.2.2.1, (f5 p (by omega)).2.1]
            exact hJ.2.2.2 p (by omega)
        · rw [hg]
          injection m1 with m1
          injection m1 with m1
          rw [m1, hc]
  · rcases hr with ⟨hK, b1, ⟨x, b2⟩, b3, b4⟩ | ⟨K, hK, hF⟩
    · exact ⟨hJ.kp hJ.1 rfl b3 b4, b1, x, b2, fun z => absurd z (by decide)⟩
    · obtain ⟨M, hM2⟩ := hE.mpr ⟨K, hK⟩
      exact absurd hM2 (hM M)
  · rcases hr with ⟨hK, -⟩ | ⟨K, hK, hF⟩
    · obtain ⟨K, hK2⟩ := hE.mp ⟨M, hM⟩
      exact absurd hK2 (hK K)
    · have e := hL M K hM hK
      rcases hF with ⟨f1, ⟨x, f2⟩, f3, f4, f5⟩ | ⟨f1, f2, f3, f4, f5, f6, f7⟩
      · rw [m3]
        refine ⟨hJ.kp m1 m2 f4 f5, f1, x, f2, fun z => absurd z h0⟩
      · exfalso
        rcases m4 with m4 | m4
        · omega
        · exact no_MN f6.1.tok f6.1.2.2.2.1 (fun w hw => f7 w hw) (MN.lang e m4)
theorem jn_letters {bits : Int32} (hJ : JS so tb ri) (hx : wM hm mc so tb 2 (fun M => ∃ b, b < 8 ∧ bits = nI b ∧ M = mqO b 0) k u g) (hr : (¬ (∃ b, b < 8 ∧ bits = nI b) ∧ rbad 1 ri v u2) ∨ ∃ b, (b < 8 ∧ bits = nI b) ∧ mkF 2 ri (mqO b 0) v u2) : JC k g v u.2.2.1 u.2.2.2 u2 := by
  have hc := hJ.2.2.1
  refine jn_mk (LB := (fun K => ∃ b, (b < 8 ∧ bits = nI b) ∧ K = mqO b 0)) (by decide) hJ hx ?_ ?_ ?_
  · rcases hr with ⟨h, r⟩ | ⟨b, h, r⟩
    · exact Or.inl ⟨fun K ⟨b, hb, _⟩ => h ⟨b, hb⟩, r⟩
    · exact Or.inr ⟨_, ⟨b, h, rfl⟩, r⟩
  · exact ⟨fun ⟨_, b, h0, h1, _⟩ => ⟨_, b, ⟨h0, h1⟩, rfl⟩, fun ⟨_, b, ⟨h0, h1⟩, _⟩ => ⟨_, b, h0, h1, rfl⟩⟩
  · rintro M K ⟨b, h0, h1, rfl⟩ ⟨b2, ⟨g0, g1⟩, rfl⟩
    have h80 := hJ.1.2.1
    cases nj (by omega) (by omega) (h1.symm.trans g1)
    exact fun w hw => rfl

theorem jn_then {pp qq : Int32} (hJ : JS so tb ri) (hx : wM hm mc so tb 2 (fun M => ∃ i j, i < so 10 3 ∧ j < so 10 3 ∧ pp = nI i ∧ qq = nI j ∧ M = mqH (tb i) (tb j)) k u g) (hr : (¬ (∃ i j, i < ri 20 1 ∧ j < ri 20 1 ∧ pp = nI i ∧ qq = nI j) ∧ rbad 1 ri v u2) ∨ ∃ i j, (i < ri 20 1 ∧ j < ri 20 1 ∧ pp = nI i ∧ qq = nI j) ∧ mkF 2 ri (jH (rT ri i) (ri 1 i) (rT ri j) (ri 1 j)) v u2) : JC k g v u.2.2.1 u.2.2.2 u2 := by
  have hc := hJ.2.2.1
  rw [hc] at hr
  refine jn_mk (LB := (fun K => ∃ i j, (i < so 10 3 ∧ j < so 10 3 ∧ pp = nI i ∧ qq = nI j) ∧ K = jH (rT ri i) (ri 1 i) (rT ri j) (ri 1 j))) (by decide) hJ hx ?_ ?_ ?_
  · rcases hr with ⟨h, r⟩ | ⟨i, j, h, r⟩
    · exact Or.inl ⟨fun K ⟨i, j, hb, _⟩ => h ⟨i, j, hb⟩, r⟩
    · exact Or.inr ⟨_, ⟨i, j, h, rfl⟩, r⟩
  · exact ⟨fun ⟨_, i, j, h0, h1, h2, h3, _⟩ => ⟨_, i, j, ⟨h0, h1, h2, h3⟩, rfl⟩, fun ⟨_, i, j, ⟨h0, h1, h2, h3⟩, _⟩ => ⟨_, i, j, h0, h1, h2, h3, rfl⟩⟩
  · rintro M K ⟨i, j, h0, h1, h2, h3, rfl⟩ ⟨i2, j2, ⟨g0, g1, g2, g3⟩, rfl⟩
    have h80 := hJ.1.2.1
    cases nj (by omega) (by omega) (h2.symm.trans g2)
    cases nj (by omega) (by omega) (h3.symm.trans g3)
    obtain ⟨a1, a2, a3, a4, a5, -, -⟩ := hJ.t (p := i) (by omega)
    obtain ⟨b1, b2, b3, b4, b5, -, -⟩ := hJ.t (p := j) (by omega)
    exact lg_h a1.1 b1 a2 b2 b4 a3 b3 a5 b5

theorem jn_both {hw pp qq : Int32} (hJ : JS so tb ri) (hx : wM hm mc so tb 2 (fun M => ∃ w i j, w < 4 ∧ hw = nI w ∧ i < so 10 3 ∧ j < so 10 3 ∧ pp = nI i ∧ qq = nI j ∧ M = mqB w (tb i) (tb j)) k u g) (hr : (¬ (∃ w i j, w < 4 ∧ hw = nI w ∧ i < ri 20 1 ∧ j < ri 20 1 ∧ pp = nI i ∧ qq = nI j) ∧ rbad 1 ri v u2) ∨ ∃ w i j, (w < 4 ∧ hw = nI w ∧ i < ri 20 1 ∧ j < ri 20 1 ∧ pp = nI i ∧ qq = nI j) ∧ mkF 2 ri (jB w (rT ri i) (ri 1 i) (rT ri j) (ri 1 j)) v u2) : JC k g v u.2.2.1 u.2.2.2 u2 := by
  have hc := hJ.2.2.1
  rw [hc] at hr
  refine jn_mk (LB := (fun K => ∃ w i j, (w < 4 ∧ hw = nI w ∧ i < so 10 3 ∧ j < so 10 3 ∧ pp = nI i ∧ qq = nI j) ∧ K = jB w (rT ri i) (ri 1 i) (rT ri j) (ri 1 j))) (by decide) hJ hx ?_ ?_ ?_
  · rcases hr with ⟨h, r⟩ | ⟨w, i, j, h, r⟩
    · exact Or.inl ⟨fun K ⟨w, i, j, hb, _⟩ => h ⟨w, i, j, hb⟩, r⟩
    · exact Or.inr ⟨_, ⟨w, i, j, h, rfl⟩, r⟩
  · exact ⟨fun ⟨_, w, i, j, h0, h1, h2, h3, h4, h5, _⟩ => ⟨_, w, i, j, ⟨h0, h1, h2, h3, h4, h5⟩, rfl⟩, fun ⟨_, w, i, j, ⟨h0, h1, h2, h3, h4, h5⟩, _⟩ => ⟨_, w, i, j, h0, h1, h2, h3, h4, h5, rfl⟩⟩
  · rintro M K ⟨w, i, j, h0, h1, h2, h3, h4, h5, rfl⟩ ⟨w2, i2, j2, ⟨g0, g1, g2, g3, g4, g5⟩, rfl⟩
    have h80 := hJ.1.2.1
    cases nj (by omega) (by omega) (h1.symm.trans g1)
    cases nj (by omega) (by omega) (h4.symm.trans g4)
    cases nj (by omega) (by omega) (h5.symm.trans g5)
    obtain ⟨a1, a2, a3, a4, a5, -, -⟩ := hJ.t (p := i) (by omega)
    obtain ⟨b1, b2, b3, b4, b5, -, -⟩ := hJ.t (p := j) (by omega)
    exact lg_b a1.1 b1.1 a2 b2 a3 b3 a5 b5

theorem jn_many {pp : Int32} (hJ : JS so tb ri) (hx : wM hm mc so tb 2 (fun M => ∃ i, i < so 10 3 ∧ pp = nI i ∧ M = mqN (tb i)) k u g) (hr : (¬ (∃ i, i < ri 20 1 ∧ pp = nI i) ∧ rbad 1 ri v u2) ∨ ∃ i, (i < ri 20 1 ∧ pp = nI i) ∧ mkF 2 ri (jN (rT ri i) (ri 1 i)) v u2) : JC k g v u.2.2.1 u.2.2.2 u2 := by
  have hc := hJ.2.2.1
  rw [hc] at hr
  refine jn_mk (LB := (fun K => ∃ i, (i < so 10 3 ∧ pp = nI i) ∧ K = jN (rT ri i) (ri 1 i))) (by decide) hJ hx ?_ ?_ ?_
  · rcases hr with ⟨h, r⟩ | ⟨i, h, r⟩
    · exact Or.inl ⟨fun K ⟨i, hb, _⟩ => h ⟨i, hb⟩, r⟩
    · exact Or.inr ⟨_, ⟨i, h, rfl⟩, r⟩
  · exact ⟨fun ⟨_, i, h0, h1, _⟩ => ⟨_, i, ⟨h0, h1⟩, rfl⟩, fun ⟨_, i, ⟨h0, h1⟩, _⟩ => ⟨_, i, h0, h1, rfl⟩⟩
  · rintro M K ⟨i, h0, h1, rfl⟩ ⟨i2, ⟨g0, g1⟩, rfl⟩
    have h80 := hJ.1.2.1
    cases nj (by omega) (by omega) (h1.symm.trans g1)
    obtain ⟨a1, a2, a3, a4, a5, -, -⟩ := hJ.t (p := i) (by omega)
    exact lg_n a1 a2 a4 a3 a5

theorem jn_contrary {pp : Int32} (hJ : JS so tb ri) (hx : wM hm mc so tb 2 (fun M => ∃ i, i < so 10 3 ∧ pp = nI i ∧ M = mqR (tb i) 0 (nI (tb i 0 1) ^^^ mI 0)) k u g) (hr : (¬ (∃ i, i < ri 20 1 ∧ pp = nI i) ∧ rbad 1 ri v u2) ∨ ∃ i, (i < ri 20 1 ∧ pp = nI i) ∧ mkF 2 ri (jC (rT ri i) (ri 1 i)) v u2) : JC k g v u.2.2.1 u.2.2.2 u2 := by
  have hc := hJ.2.2.1
  rw [hc] at hr
  refine jn_mk (LB := (fun K => ∃ i, (i < so 10 3 ∧ pp = nI i) ∧ K = jC (rT ri i) (ri 1 i))) (by decide) hJ hx ?_ ?_ ?_
  · rcases hr with ⟨h, r⟩ | ⟨i, h, r⟩
    · exact Or.inl ⟨fun K ⟨i, hb, _⟩ => h ⟨i, hb⟩, r⟩
    · exact Or.inr ⟨_, ⟨i, h, rfl⟩, r⟩
  · exact ⟨fun ⟨_, i, h0, h1, _⟩ => ⟨_, i, ⟨h0, h1⟩, rfl⟩, fun ⟨_, i, ⟨h0, h1⟩, _⟩ => ⟨_, i, h0, h1, rfl⟩⟩
  · rintro M K ⟨i, h0, h1, rfl⟩ ⟨i2, ⟨g0, g1⟩, rfl⟩
    have h80 := hJ.1.2.1
    cases nj (by omega) (by omega) (h1.symm.trans g1)
    obtain ⟨a1, a2, a3, a4, a5, -, -⟩ := hJ.t (p := i) (by omega)
    exact lg_c a1.1 a5

theorem jn_back {pp : Int32} (hJ : JS so tb ri) (hx : wM hm mc so tb 2 (fun M => ∃ i, i < so 10 3 ∧ pp = nI i ∧ M = mqK (tb i)) k u g) (hr : (¬ (∃ i, i < ri 20 1 ∧ pp = nI i) ∧ rbad 1 ri v u2) ∨ ∃ i, (i < ri 20 1 ∧ pp = nI i) ∧ mkF 2 ri (jK (rT ri i) (ri 1 i)) v u2) : JC k g v u.2.2.1 u.2.2.2 u2 := by
  have hc := hJ.2.2.1
  rw [hc] at hr
  refine jn_mk (LB := (fun K => ∃ i, (i < so 10 3 ∧ pp = nI i) ∧ K = jK (rT ri i) (ri 1 i))) (by decide) hJ hx ?_ ?_ ?_
  · rcases hr with ⟨h, r⟩ | ⟨i, h, r⟩
    · exact Or.inl ⟨fun K ⟨i, hb, _⟩ => h ⟨i, hb⟩, r⟩
    · exact Or.inr ⟨_, ⟨i, h, rfl⟩, r⟩
  · exact ⟨fun ⟨_, i, h0, h1, _⟩ => ⟨_, i, ⟨h0, h1⟩, rfl⟩, fun ⟨_, i, ⟨h0, h1⟩, _⟩ => ⟨_, i, h0, h1, rfl⟩⟩
  · rintro M K ⟨i, h0, h1, rfl⟩ ⟨i2, ⟨g0, g1⟩, rfl⟩
    have h80 := hJ.1.2.1
    cases nj (by omega) (by omega) (h1.symm.trans g1)
    obtain ⟨a1, a2, a3, a4, a5, -, -⟩ := hJ.t (p := i) (by omega)
    exact lg_k a1.1 a2 a3 a5

theorem jn_rest {pp ll : Int32} (hJ : JS so tb ri) (hx : wM hm mc so tb 2 (fun M => ∃ i lt, i < so 10 3 ∧ lt < 3 ∧ pp = nI i ∧ ll = nI lt ∧ M = mqR (tb i) (tb i 1 (0 * 3 + lt)) (nI (tb i 0 1))) k u g) (hr : (¬ (∃ i lt, i < ri 20 1 ∧ lt < 3 ∧ pp = nI i ∧ ll = nI lt) ∧ rbad 1 ri v u2) ∨ ∃ i lt, (i < ri 20 1 ∧ lt < 3 ∧ pp = nI i ∧ ll = nI lt) ∧ mkF 2 ri (jR (rT ri i) (ri 1 i) lt) v u2) : JC k g v u.2.2.1 u.2.2.2 u2 := by
  have hc := hJ.2.2.1
  rw [hc] at hr
  refine jn_mk (LB := (fun K => ∃ i lt, (i < so 10 3 ∧ lt < 3 ∧ pp = nI i ∧ ll = nI lt) ∧ K = jR (rT ri i) (ri 1 i) lt)) (by decide) hJ hx ?_ ?_ ?_
  · rcases hr with ⟨h, r⟩ | ⟨i, lt, h, r⟩
    · exact Or.inl ⟨fun K ⟨i, lt, hb, _⟩ => h ⟨i, lt, hb⟩, r⟩
    · exact Or.inr ⟨_, ⟨i, lt, h, rfl⟩, r⟩
  · exact ⟨fun ⟨_, i, lt, h0, h1, h2, h3, _⟩ => ⟨_, i, lt, ⟨h0, h1, h2, h3⟩, rfl⟩, fun ⟨_, i, lt, ⟨h0, h1, h2, h3⟩, _⟩ => ⟨_, i, lt, h0, h1, h2, h3, rfl⟩⟩
  · rintro M K ⟨i, lt, h0, h1, h2, h3, rfl⟩ ⟨i2, lt2, ⟨g0, g1, g2, g3⟩, rfl⟩
    have h80 := hJ.1.2.1
    cases nj (by omega) (by omega) (h2.symm.trans g2)
    cases nj (by omega) (by omega) (h3.symm.trans g3)
    obtain ⟨a1, a2, a3, a4, a5, -, -⟩ := hJ.t (p := i) (by omega)
    exact lg_s a1.1 h1 a5

theorem jn_beginnings {pp : Int32} (hJ : JS so tb ri) (hx : wM hm mc so tb 2 (fun M => ∃ i, i < so 10 3 ∧ pp = nI i ∧ M = mqR (tb i) 0 (nI (tb i 0 2))) k u g) (hr : (¬ (∃ i, i < ri 20 1 ∧ pp = nI i) ∧ rbad 1 ri v u2) ∨ ∃ i, (i < ri 20 1 ∧ pp = nI i) ∧ ∃ lv, (∀ x, x < ri 0 i → (lv x = true ↔ ∃ k, k < 11 ∧ dlv (rT ri i 0 1) (rN ri i) k x = true)) ∧ mkF 2 ri (jG (rT ri i) (ri 1 i) lv) v u2) : JC k g v u.2.2.1 u.2.2.2 u2 := by
  have hc := hJ.2.2.1
  rw [hc] at hr
  refine jn_mk (LB := (fun K => ∃ i, (i < so 10 3 ∧ pp = nI i) ∧ ∃ lv, (∀ x, x < ri 0 i → (lv x = true ↔ ∃ k, k < 11 ∧ dlv (rT ri i 0 1) (rN ri i) k x = true)) ∧ K = jG (rT ri i) (ri 1 i) lv)) (by decide) hJ hx ?_ ?_ ?_
  · rcases hr with ⟨h, r⟩ | ⟨i, h, lv, hl, r⟩
    · exact Or.inl ⟨fun K ⟨i, hb, _⟩ => h ⟨i, hb⟩, r⟩
    · exact Or.inr ⟨_, ⟨i, h, lv, hl, rfl⟩, r⟩
  · exact ⟨fun ⟨_, i, h0, h1, _⟩ => ⟨_, i, ⟨h0, h1⟩, fun x => @decide (∃ k, k < 11 ∧ dlv (rT ri i 0 1) (rN ri i) k x = true) (Classical.propDecidable _), fun x _ => @decide_eq_true_iff _ (Classical.propDecidable _), rfl⟩, fun ⟨_, i, ⟨h0, h1⟩, _⟩ => ⟨_, i, h0, h1, rfl⟩⟩
  · rintro M K ⟨i, h0, h1, rfl⟩ ⟨i2, ⟨g0, g1⟩, lv, hl, rfl⟩
    have h80 := hJ.1.2.1
    cases nj (by omega) (by omega) (h1.symm.trans g1)
    obtain ⟨a1, a2, a3, a4, a5, -, -⟩ := hJ.t (p := i) (by omega)
    exact lg_g a1 a2 a3 a5 hl

theorem jn_empty (hJ : JS so tb ri) (hx : wM hm mc so tb 1 (fun M => ∃ b, b = 0 ∧ M = mqO 0 1) k u g) (hr : mkF 1 ri jE v u2) : JC k g v u.2.2.1 u.2.2.2 u2 := by
  refine jn_mk (LB := fun K => K = jE) (by decide) hJ hx (Or.inr ⟨_, rfl, hr⟩) ⟨fun _ => ⟨_, rfl⟩, fun _ => ⟨_, 0, rfl, rfl⟩⟩ ?_
  rintro M K ⟨b, -, rfl⟩ rfl
  exact lg_e

theorem jn_rests {pp : Int32} (hJ : JS so tb ri) (hc2 : CS so2 tb) (h32 : so2 10 3 = so 10 3) (hx : (k = 0 ∧ ∃ x : Int32, (∃ i, (i < so 10 3 ∧ pp = nI i) ∧ some (Value.int x) = some (.int (nI (tb i 0 0)))) ∧ g 0 = x.toInt64) ∨ (k = 1 ∧ ¬ ∃ i, i < so 10 3 ∧ pp = nI i)) (hr : (¬ (∃ i, i < ri 20 1 ∧ pp = nI i) ∧ rbad 1 ri v u2) ∨ ∃ i, (i < ri 20 1 ∧ pp = nI i) ∧ v = some (.int (nI (ri 0 i))) ∧ rQ 0 ri u2) : JC k g v so2 tb u2 := by
  have hc := hJ.2.2.1
  have h80 := hJ.1.2.1
  rw [hc] at hr
  rcases hr with ⟨hn, b1, ⟨x, b2⟩, b3, b4⟩ | ⟨i, hi, e1, q1, q2, q3⟩
  · rcases hx with ⟨-, x2, ⟨j, hj, -⟩, -⟩ | ⟨rfl, -⟩
    · exact absurd ⟨j, hj⟩ hn
    · exact ⟨hJ.kp hc2 h32 b3 b4, b1, x, b2, fun z => absurd z (by decide)⟩
  · rcases hx with ⟨rfl, x2, ⟨j, hj, ej⟩, eg⟩ | ⟨-, hn⟩
    · cases nj (by omega) (by omega) (hi.2.symm.trans hj.2)
      obtain ⟨a1, a2, a3, a4, a5, a6, a7⟩ := hJ.t (p := i) (by omega)
      have e := as_many a1 a2 a6 a3 a7 a5
      injection ej with ej
      injection ej with ej
      exact ⟨hJ.kp hc2 h32 q2 q3, q1, _, e1, fun _ => by rw [eg, ej, e]; rfl⟩
    · exact absurd ⟨i, hi⟩ hn

theorem jn_words {pp nn : Int32} (hJ : JS so tb ri) (hc2 : CS so2 tb) (h32 : so2 10 3 = so 10 3) (hx : (k = 0 ∧ ∃ x : Int64, (∃ i n, (i < so 10 3 ∧ pp = nI i ∧ n < 40 ∧ nn = nI n) ∧ some (Value.long x) = some (.long (lI (cnt (tb i 0 1) (tb i 1) n 0)))) ∧ g 0 = x) ∨ (k = 1 ∧ ¬ ∃ i n, i < so 10 3 ∧ pp = nI i ∧ n < 40 ∧ nn = nI n)) (hr : (¬ (∃ i n9, i < ri 20 1 ∧ n9 < 40 ∧ pp = nI i ∧ nn = nI n9) ∧ (u2 20 0 = 1 ∧ (∃ x, v = some (.long x)) ∧ u2 20 1 = ri 20 1 ∧ sS ri u2 (ri 20 1))) ∨ ∃ i n9, (i < ri 20 1 ∧ n9 < 40 ∧ pp = nI i ∧ nn = nI n9) ∧ v = some (.long (lI (cnt (rT ri i 0 1) (rN ri i) n9 (ri 1 i)))) ∧ rQ 0 ri u2) : JL k g v so2 tb u2 := by
  have hc := hJ.2.2.1
  have h80 := hJ.1.2.1
  rcases hr with ⟨hn, b1, ⟨x, b2⟩, b3, b4⟩ | ⟨i, n9, hi, e1, q1, q2, q3⟩
  · rcases hx with ⟨-, x2, ⟨j, n, hj, -⟩, -⟩ | ⟨rfl, -⟩
    · exact absurd ⟨j, n, by omega, hj.2.2.1, hj.2.1, hj.2.2.2⟩ hn
    · exact ⟨hJ.kp hc2 h32 b3 b4, b1, x, b2, fun z => absurd z (by decide)⟩
  · rcases hx with ⟨rfl, x2, ⟨j, n, hj, ej⟩, eg⟩ | ⟨-, hn⟩
    · cases nj (by omega) (by omega) (hi.2.2.1.symm.trans hj.2.1)
      cases nj (by omega) (by omega) (hi.2.2.2.symm.trans hj.2.2.2)
      obtain ⟨a1, a2, a3, a4, a5, a6, a7⟩ := hJ.t (p := i) (by omega)
      have e := se_cnt n9 a5
      injection ej with ej
      injection ej with ej
      exact ⟨hJ.kp hc2 h32 q2 q3, q1, _, e1, fun _ => by rw [eg, ej, e]; rfl⟩
    · exact absurd ⟨i, n9, by omega, hi.2.2.1, hi.2.1, hi.2.2.2⟩ hn

theorem jn_has {pp nn : Int32} {wd : Int64} (hJ : JS so tb ri) (hc2 : CS so2 tb) (h32 : so2 10 3 = so 10 3) (hx : (k = 0 ∧ ∃ x : Int32, (∃ i n, (i < so 10 3 ∧ pp = nI i ∧ n ≤ 30 ∧ nn = nI n ∧ ∀ k, k < n → wl wd k < 3) ∧ some (Value.int x) = some (.int (bI (macc (tM (tb i)) 0 (wL wd n))))) ∧ g 0 = if x = 0 then 0 else 1) ∨ (k = 1 ∧ ¬ ∃ i n, i < so 10 3 ∧ pp = nI i ∧ n ≤ 30 ∧ nn = nI n ∧ ∀ k, k < n → wl wd k < 3)) (hr : (¬ (∃ i n9, i < ri 20 1 ∧ pp = nI i ∧ n9 ≤ 30 ∧ nn = nI n9 ∧ ∀ k, k < n9 → wl wd k < 3) ∧ rbad 1 ri v u2) ∨ ∃ i n9, (i < ri 20 1 ∧ pp = nI i ∧ n9 ≤ 30 ∧ nn = nI n9 ∧ ∀ k, k < n9 → wl wd k < 3) ∧ v = some (.int (bI (macc (tM (rT ri i)) (ri 1 i) (wL wd n9)))) ∧ rQ 0 ri u2) : JZ k g v so2 tb u2 := by
  have hc := hJ.2.2.1
  have h80 := hJ.1.2.1
  rw [hc] at hr
  rcases hr with ⟨hn, b1, ⟨x, b2⟩, b3, b4⟩ | ⟨i, n9, hi, e1, q1, q2, q3⟩
  · rcases hx with ⟨-, x2, ⟨j, n, hj, -⟩, -⟩ | ⟨rfl, -⟩
    · exact absurd ⟨j, n, hj⟩ hn
    · exact ⟨hJ.kp hc2 h32 b3 b4, b1, x, b2, fun z => absurd z (by decide)⟩
  · rcases hx with ⟨rfl, x2, ⟨j, n, hj, ej⟩, eg⟩ | ⟨-, hn⟩
    · obtain ⟨j1, j2, j3, j4, j5⟩ := hj
      obtain ⟨i1, i2, i3, i4, i5⟩ := hi
      cases nj (by omega) (by omega) (i2.symm.trans j2)
      cases nj (by omega) (by omega) (i4.symm.trans j4)
      obtain ⟨a1, a2, a3, a4, a5, a6, a7⟩ := hJ.t (p := i) (by omega)
      have e := a5 (wL wd n9) (fun l hl => by
        obtain ⟨z, z1, z2⟩ := List.mem_map.mp hl
        rw [← z2]; exact i5 z (List.mem_range.mp z1))
      injection ej with ej
      injection ej with ej
      exact ⟨hJ.kp hc2 h32 q2 q3, q1, _, e1, fun _ => by rw [eg, ej, e]⟩
    · exact absurd ⟨i, n9, hi⟩ hn

theorem jn_same {pp qq : Int32} (hJ : JS so tb ri) (hc2 : CS so2 tb) (h32 : so2 10 3 = so 10 3) (hx : (k = 0 ∧ ∃ x : Int32, (∃ i j, (i < so 10 3 ∧ j < so 10 3 ∧ pp = nI i ∧ qq = nI j) ∧ ∃ b : Bool, some (Value.int x) = some (.int (bI b)) ∧ (b = true ↔ (tb i 0 0 = tb j 0 0 ∧ tb i 0 1 = tb j 0 1 ∧ ∀ k, k < tb i 0 0 * 3 → tb i 1 k = tb j 1 k))) ∧ g 0 = if x = 0 then 0 else 1) ∨ (k = 1 ∧ ¬ ∃ i j, i < so 10 3 ∧ j < so 10 3 ∧ pp = nI i ∧ qq = nI j)) (hr : (¬ (∃ i j, i < ri 20 1 ∧ j < ri 20 1 ∧ pp = nI i ∧ qq = nI j) ∧ rbad 1 ri v u2) ∨ ∃ i j, (i < ri 20 1 ∧ j < ri 20 1 ∧ pp = nI i ∧ qq = nI j) ∧ ∃ b : Bool, v = some (.int (bI b)) ∧ (b = true ↔ ∀ w, lts w → macc (jD 1 (rT ri i) (ri 1 i) (rT ri j) (ri 1 j)) (jD 1 (rT ri i) (ri 1 i) (rT ri j) (ri 1 j)).1 w = false) ∧ rQ 0 ri u2) : JZ k g v so2 tb u2 := by
  have hc := hJ.2.2.1
  have h80 := hJ.1.2.1
  rw [hc] at hr
  rcases hr with ⟨hn, b1, ⟨x, b2⟩, b3, b4⟩ | ⟨i, j, hi, b, e1, e2, q1, q2, q3⟩
  · rcases hx with ⟨-, x2, ⟨i, j, hj, -⟩, -⟩ | ⟨rfl, -⟩
    · exact absurd ⟨i, j, hj⟩ hn
    · exact ⟨hJ.kp hc2 h32 b3 b4, b1, x, b2, fun z => absurd z (by decide)⟩
  · rcases hx with ⟨rfl, x2, ⟨i2, j2, hj, b2, ej, eb⟩, eg⟩ | ⟨-, hn⟩
    · obtain ⟨j1, j2, j3, j4⟩ := hj
      obtain ⟨i1, i2, i3, i4⟩ := hi
      cases nj (by omega) (by omega) (i3.symm.trans j3)
      cases nj (by omega) (by omega) (i4.symm.trans j4)
      obtain ⟨a1, a2, a3, a4, a5, -, -⟩ := hJ.t (p := i) (by omega)
      obtain ⟨c1, c2, c3, c4, c5, -, -⟩ := hJ.t (p := j) (by omega)
      have e : b2 = b := by
        rw [Bool.eq_iff_iff, eb, e2]
        have L := lg_b (how := 3) a1.1 c1.1 a2 c2 a3 c3 a5 c5
        have P := pr_b (how := 3) (t := tb i) (u := tb j) c1.1
        constructor
        · rintro ⟨h0, h1, h2⟩ w hw
          show macc (jB 3 _ _ _ _) _ w = false
          refine (L w hw).symm.trans ((P w hw).trans ?_)
          have := canon_c a1.1 h0 h1 h2 w 0 hw a1.1.1
          rw [this]
          cases macc (tM (tb j)) 0 w <;> rfl
        · intro h
          refine canon a1 c1 (fun w hw => ?_)
          have z := h w hw
          have y := (P w hw).symm.trans ((L w hw).trans z)
          revert y
          cases macc (tM (tb i)) 0 w <;> cases macc (tM (tb j)) 0 w <;> decide
      injection ej with ej
      injection ej with ej
      exact ⟨hJ.kp hc2 h32 q2 q3, q1, _, e1, fun _ => by rw [eg, ej, e]⟩
    · exact absurd ⟨i, j, hi⟩ hn

theorem jn_inside {pp qq : Int32} (hJ : JS so tb ri) (hc2 : CS so2 tb) (h32 : so2 10 3 = so 10 3) (hx : (k = 0 ∧ ∃ x : Int32, (∃ i j, (i < so 10 3 ∧ j < so 10 3 ∧ pp = nI i ∧ qq = nI j) ∧ ∃ b : Bool, some (Value.int x) = some (.int (bI b)) ∧ (b = true ↔ ∀ w, lts w → ¬ macc (mqB 2 (tb i) (tb j)) 0 w = true)) ∧ g 0 = if x = 0 then 0 else 1) ∨ (k = 1 ∧ ¬ ∃ i j, i < so 10 3 ∧ j < so 10 3 ∧ pp = nI i ∧ qq = nI j)) (hr : (¬ (∃ i j, i < ri 20 1 ∧ j < ri 20 1 ∧ pp = nI i ∧ qq = nI j) ∧ rbad 1 ri v u2) ∨ ∃ i j, (i < ri 20 1 ∧ j < ri 20 1 ∧ pp = nI i ∧ qq = nI j) ∧ ∃ b : Bool, v = some (.int (bI b)) ∧ (b = true ↔ ∀ w, lts w → macc (jD 0 (rT ri i) (ri 1 i) (rT ri j) (ri 1 j)) (jD 0 (rT ri i) (ri 1 i) (rT ri j) (ri 1 j)).1 w = false) ∧ rQ 0 ri u2) : JZ k g v so2 tb u2 := by
  have hc := hJ.2.2.1
  have h80 := hJ.1.2.1
  rw [hc] at hr
  rcases hr with ⟨hn, b1, ⟨x, b2⟩, b3, b4⟩ | ⟨i, j, hi, b, e1, e2, q1, q2, q3⟩
  · rcases hx with ⟨-, x2, ⟨i, j, hj, -⟩, -⟩ | ⟨rfl, -⟩
    · exact absurd ⟨i, j, hj⟩ hn
    · exact ⟨hJ.kp hc2 h32 b3 b4, b1, x, b2, fun z => absurd z (by decide)⟩
  · rcases hx with ⟨rfl, x2, ⟨i2, j2, hj, b2, ej, eb⟩, eg⟩ | ⟨-, hn⟩
    · obtain ⟨j1, j2, j3, j4⟩ := hj
      obtain ⟨i1, i2, i3, i4⟩ := hi
      cases nj (by omega) (by omega) (i3.symm.trans j3)
      cases nj (by omega) (by omega) (i4.symm.trans j4)
      obtain ⟨a1, a2, a3, a4, a5, -, -⟩ := hJ.t (p := i) (by omega)
      obtain ⟨c1, c2, c3, c4, c5, -, -⟩ := hJ.t (p := j) (by omega)
      have e : b2 = b := by
        rw [Bool.eq_iff_iff, eb, e2]
        have L := lg_b (how := 2) a1.1 c1.1 a2 c2 a3 c3 a5 c5
        constructor
        · intro h w hw
          refine (L w hw).symm.trans ?_
          exact Bool.eq_false_iff.mpr (h w hw)
        · intro h w hw z
          have y := h w hw
          have y2 := (L w hw).trans y
          rw [show macc (mqB 2 (tb i) (tb j)) (mqB 2 (tb i) (tb j)).1 w = macc (mqB 2 (tb i) (tb j)) 0 w from rfl, z] at y2
          cases y2
      injection ej with ej
      injection ej with ej
      exact ⟨hJ.kp hc2 h32 q2 q3, q1, _, e1, fun _ => by rw [eg, ej, e]⟩
    · exact absurd ⟨i, j, hi⟩ hn

theorem jn_shortest {pp : Int32} (hJ : JS so tb ri) (hc2 : CS so2 tb) (h32 : so2 10 3 = so 10 3) (hx : (k = 0 ∧ ∃ x : Int32, (∃ i, (i < so 10 3 ∧ pp = nI i) ∧ tb i 2 0 ≠ 0 ∧ some (Value.int x) = some (.int (mI (tb i 2 0)))) ∧ g 0 = x.toInt64) ∨ (k = 1 ∧ ¬ ∃ i, i < so 10 3 ∧ pp = nI i) ∨ (k = 2 ∧ ∃ i, (i < so 10 3 ∧ pp = nI i) ∧ tb i 2 0 = 0)) (hr : (¬ (∃ i, i < ri 20 1 ∧ pp = nI i) ∧ rbad 1 ri v u2) ∨ ∃ i, (i < ri 20 1 ∧ pp = nI i) ∧ ∃ f, LD ri i f ∧ ((f (ri 1 i) = 0 ∧ (∃ x, v = some (.int x)) ∧ rQ 2 ri u2) ∨ (¬ f (ri 1 i) = 0 ∧ v = some (.int (mI (f (ri 1 i)))) ∧ rQ 0 ri u2))) : JC k g v so2 tb u2 := by
  have hc := hJ.2.2.1
  have h80 := hJ.1.2.1
  rw [hc] at hr
  rcases hr with ⟨hn, b1, ⟨x, b2⟩, b3, b4⟩ | ⟨i, hi, f, hf, hq⟩
  · rcases hx with ⟨-, x2, ⟨j, hj, -⟩, -⟩ | ⟨rfl, -⟩ | ⟨-, j, hj, -⟩
    · exact absurd ⟨j, hj⟩ hn
    · exact ⟨hJ.kp hc2 h32 b3 b4, b1, x, b2, fun z => absurd z (by decide)⟩
    · exact absurd ⟨j, hj⟩ hn
  · obtain ⟨a1, a2, a3, a4, a5, a6, a7⟩ := hJ.t (p := i) (by omega)
    have e := code_eq a1 a2 a3 a5 rfl (hf _ a3).1
    rcases hx with ⟨rfl, x2, ⟨j, hj, h0, ej⟩, eg⟩ | ⟨-, hn⟩ | ⟨rfl, j, hj, h0⟩
    · cases nj (by omega) (by omega) (hi.2.symm.trans hj.2)
      rcases hq with ⟨z, -⟩ | ⟨-, e1, q1, q2, q3⟩
      · exact absurd (e.trans z) h0
      · injection ej with ej
        injection ej with ej
        exact ⟨hJ.kp hc2 h32 q2 q3, q1, _, e1, fun _ => by rw [eg, ej, e]⟩
    · exact absurd ⟨i, hi⟩ hn
    · cases nj (by omega) (by omega) (hi.2.symm.trans hj.2)
      rcases hq with ⟨-, ⟨x, b2⟩, q1, q2, q3⟩ | ⟨z, -⟩
      · exact ⟨hJ.kp hc2 h32 q2 q3, q1, x, b2, fun z => absurd z (by decide)⟩
      · exact absurd (e.symm.trans h0) z

theorem jn_letter {pp ii : Int32} (hJ : JS so tb ri) (hc2 : CS so2 tb) (h32 : so2 10 3 = so 10 3) (hx : (k = 0 ∧ ∃ x : Int32, (∃ i q, ((i < so 10 3 ∧ pp = nI i) ∧ q + 1 < tb i 2 0 ∧ ii = nI q) ∧ some (Value.int x) = some (.int (nI (nxl (tb i 0 1) (tb i 1) (tb i 2 0 - q - 2) (lst (tb i 0 1) (tb i 1) (tb i 2 0 - 1) 0 q))))) ∧ g 0 = x.toInt64) ∨ (k = 1 ∧ ¬ ∃ i, i < so 10 3 ∧ pp = nI i) ∨ (k = 2 ∧ ∃ i, (i < so 10 3 ∧ pp = nI i) ∧ ¬ ∃ q, q + 1 < tb i 2 0 ∧ ii = nI q)) (hr : (¬ (∃ i, i < ri 20 1 ∧ pp = nI i) ∧ rbad 1 ri v u2) ∨ ∃ i, (i < ri 20 1 ∧ pp = nI i) ∧ ∃ f, LD ri i f ∧ (((¬ ∃ q, q + 1 < f (ri 1 i) ∧ ii = nI q) ∧ (∃ x, v = some (.int x)) ∧ rQ 2 ri u2) ∨ ∃ q, q + 1 < f (ri 1 i) ∧ ii = nI q ∧ v = some (.int (nI (nxl (rT ri i 0 1) (rN ri i) (f (ri 1 i) - q - 2) (lst (rT ri i 0 1) (rN ri i) (f (ri 1 i) - 1) (ri 1 i) q)))) ∧ rQ 0 ri u2)) : JC k g v so2 tb u2 := by
  have hc := hJ.2.2.1
  have h80 := hJ.1.2.1
  rw [hc] at hr
  rcases hr with ⟨hn, b1, ⟨x, b2⟩, b3, b4⟩ | ⟨i, hi, f, hf, hq⟩
  · rcases hx with ⟨-, x2, ⟨j, q, ⟨hj, -⟩, -⟩, -⟩ | ⟨rfl, -⟩ | ⟨-, j, hj, -⟩
    · exact absurd ⟨j, hj⟩ hn
    · exact ⟨hJ.kp hc2 h32 b3 b4, b1, x, b2, fun z => absurd z (by decide)⟩
    · exact absurd ⟨j, hj⟩ hn
  · obtain ⟨a1, a2, a3, a4, a5, a6, a7⟩ := hJ.t (p := i) (by omega)
    have e := code_eq a1 a2 a3 a5 rfl (hf _ a3).1
    have l12 := (hf _ a3).2
    rcases hx with ⟨rfl, x2, ⟨j, q, ⟨hj, h0, h1⟩, ej⟩, eg⟩ | ⟨-, hn⟩ | ⟨rfl, j, hj, h0⟩
    · cases nj (by omega) (by omega) (hi.2.symm.trans hj.2)
      rcases hq with ⟨z, -⟩ | ⟨q2, h2, h3, e1, q1, q4, q3⟩
      · exact absurd ⟨q, by omega, h1⟩ z
      · cases nj (by omega) (by omega) (h1.symm.trans h3)
        injection ej with ej
        injection ej with ej
        refine ⟨hJ.kp hc2 h32 q4 q3, q1, _, e1, fun _ => ?_⟩
        rw [eg, ej, e, se_nxl _ (se_lst _ a5 q)]
        rfl
    · exact absurd ⟨i, hi⟩ hn
    · cases nj (by omega) (by omega) (hi.2.symm.trans hj.2)
      rcases hq with ⟨-, ⟨x, b2⟩, q1, q2, q3⟩ | ⟨q2, h2, h3, -⟩
      · exact ⟨hJ.kp hc2 h32 q2 q3, q1, x, b2, fun z => absurd z (by decide)⟩
      · exact absurd ⟨q2, by omega, h3⟩ h0

theorem jn_size {pp : Int32} (hJ : JS so tb ri) (hc2 : CS so2 tb) (h32 : so2 10 3 = so 10 3) (hx : (k = 0 ∧ ∃ x : Int32, (∃ i, (i < so 10 3 ∧ pp = nI i) ∧ (((∃ n, tb i 0 0 ≤ n ∧ n < 2 * tb i 0 0 ∧ 0 < cnt (tb i 0 1) (tb i 1) n 0) ∧ some (Value.int x) = some (.int (mI 0))) ∨ ((∀ n, tb i 0 0 ≤ n → n < 2 * tb i 0 0 → cnt (tb i 0 1) (tb i 1) n 0 = 0) ∧ ((1000000000 < scn (tb i 0 1) (tb i 1) 0 (2 * tb i 0 0) ∧ some (Value.int x) = some (.int (-2))) ∨ (scn (tb i 0 1) (tb i 1) 0 (2 * tb i 0 0) ≤ 1000000000 ∧ some (Value.int x) = some (.int (nI (scn (tb i 0 1) (tb i 1) 0 (2 * tb i 0 0))))))))) ∧ g 0 = x.toInt64) ∨ (k = 1 ∧ ¬ ∃ i, i < so 10 3 ∧ pp = nI i)) (hr : (¬ (∃ i, i < ri 20 1 ∧ pp = nI i) ∧ (u2 20 0 = 1 ∧ (∃ x, v = some (.int x)) ∧ u2 20 1 = ri 20 1 ∧ sS ri u2 (ri 20 1))) ∨ ∃ i, (i < ri 20 1 ∧ pp = nI i) ∧ (((∃ n, 10 ≤ n ∧ n < 20 ∧ 0 < cnt (rT ri i 0 1) (rN ri i) n (ri 1 i)) ∧ v = some (.int (mI 0))) ∨ ((∀ n, 10 ≤ n → n < 20 → cnt (rT ri i 0 1) (rN ri i) n (ri 1 i) = 0) ∧ ((1000000000 < scn (rT ri i 0 1) (rN ri i) (ri 1 i) 20 ∧ v = some (.int (-2))) ∨ (scn (rT ri i 0 1) (rN ri i) (ri 1 i) 20 ≤ 1000000000 ∧ v = some (.int (nI (scn (rT ri i 0 1) (rN ri i) (ri 1 i) 20))))))) ∧ rQ 0 ri u2) : JC k g v so2 tb u2 := by
  have hc := hJ.2.2.1
  have h80 := hJ.1.2.1
  rcases hr with ⟨hn, b1, ⟨x, b2⟩, b3, b4⟩ | ⟨i, hi, e1, q1, q2, q3⟩
  · rcases hx with ⟨-, x2, ⟨j, hj, -⟩, -⟩ | ⟨rfl, -⟩
    · exact absurd ⟨j, by omega, hj.2⟩ hn
    · exact ⟨hJ.kp hc2 h32 b3 b4, b1, x, b2, fun z => absurd z (by decide)⟩
  · rcases hx with ⟨rfl, x2, ⟨j, hj, ej⟩, eg⟩ | ⟨-, hn⟩
    · cases nj (by omega) (by omega) (hi.2.symm.trans hj.2)
      obtain ⟨a1, a2, a3, a4, a5, a6, a7⟩ := hJ.t (p := i) (by omega)
      have ec : ∀ n, cnt (rT ri i 0 1) (rN ri i) n (ri 1 i) = cnt (tb i 0 1) (tb i 1) n 0 := fun n => (se_cnt n a5).symm
      have es : scn (rT ri i 0 1) (rN ri i) (ri 1 i) 20 = scn (tb i 0 1) (tb i 1) 0 20 := (se_scn a5 20).symm
      simp only [ec, es] at e1
      have E := ends_eq a1.1 a1.1.1
      refine ⟨hJ.kp hc2 h32 q2 q3, q1, x2, ?_, fun _ => eg⟩
      rcases ej with ⟨ej, f1⟩ | ⟨ej, f1⟩
      · rcases e1 with ⟨-, f2⟩ | ⟨f2, -⟩
        · rw [f2, ← f1]
        · obtain ⟨n, n1, n2, n3⟩ := E.mp ej; have := f2 n n1 n2; omega
      · rcases e1 with ⟨f2, -⟩ | ⟨-, f2⟩
        · obtain ⟨n, n1, n2, n3⟩ := E.mpr f2; have := ej n n1 n2; omega
        · rw [sum_eq a1.1 a1.1.1 ej] at f1
          rcases f1 with ⟨z1, f1⟩ | ⟨z1, f1⟩ <;> rcases f2 with ⟨z2, f2⟩ | ⟨z2, f2⟩
          · rw [f2, ← f1]
          · omega
          · omega
          · rw [f2, ← f1]
    · exact absurd ⟨i, by omega, hi.2⟩ hn
end JN
