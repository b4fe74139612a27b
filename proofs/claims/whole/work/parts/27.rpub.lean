/-- a making's end, as the law sees it; c: what is thrown where there is no room -/
def mkF (c : Nat) (ri : Nat → Nat → Nat) (K : mM) (v : Option Value) (u : Nat → Nat → Nat) : Prop :=
  (u 20 0 = c ∧ (∃ x, v = some (.int x)) ∧ (ri 20 1 = 80 ∨ MN K) ∧ u 20 1 = ri 20 1 ∧ sS ri u (ri 20 1)) ∨
  (u 20 0 = 0 ∧ ri 20 1 < 80 ∧ v = some (.int (nI (ri 20 1))) ∧ u 20 1 = ri 20 1 + 1 ∧ sS ri u (ri 20 1) ∧ rG u (ri 20 1) ∧ ∀ w, lts w → macc (tM (rT u (ri 20 1))) (u 1 (ri 20 1)) w = macc K K.1 w)
def rbad (c : Nat) (ri : Nat → Nat → Nat) (v : Option Value) (u : Nat → Nat → Nat) : Prop := u 20 0 = c ∧ (∃ x, v = some (.int x)) ∧ u 20 1 = ri 20 1 ∧ sS ri u (ri 20 1)
theorem sS.tr {a b c : Nat → Nat → Nat} {n : Nat} (h : sS a b n) (g : sS b c n) : sS a c n := fun p hp => by
  obtain ⟨h1, h2, h3, h4⟩ := h p hp
  obtain ⟨g1, g2, g3, g4⟩ := g p hp
  exact ⟨g1.trans h1, g2.trans h2, fun k hk => (g3 k hk).trans (h3 k hk), fun s hs => (g4 s hs).trans (h4 s hs)⟩
theorem mkF.of {ri ri1 u : Nat → Nat → Nat} {K : mM} {v : Option Value} (h : mkR ri1 K v u) (h0 : ri1 20 0 = 0) (h1 : ri1 20 1 = ri 20 1) (hs : sS ri ri1 (ri 20 1)) : mkF 2 ri K v u := by
  unfold mkR at h
  rw [h1] at h
  rcases h with ⟨a, b, c, d, e⟩ | ⟨a, b, c, d, e, f⟩
  · exact Or.inl ⟨a, ⟨_, b⟩, c, d, hs.tr e⟩
  · exact Or.inr ⟨a.trans h0, b, c, d, hs.tr e, f⟩
theorem RS.of {ri ri1 : Nat → Nat → Nat} (h : RS ri) (h1 : ri1 20 1 = ri 20 1) (hs : sS ri ri1 (ri 20 1)) : RS ri1 := ⟨by rw [h1]; exact h.1, fun p hp => hs.ok (by rw [← h1]; exact hp) (h.2 p (by rw [← h1]; exact hp))⟩
section RKQ
variable {ri : Nat → Nat → Nat}
theorem rs4_k {h p q w k : Nat} (hk : k ≠ 20) : rs4 ri h p q w k = ri k := us_n _ _ hk
theorem rs4_ok {h p q w a : Nat} (k : rOK ri a) : rOK (rs4 ri h p q w) a := by rw [rOK_eq (rs4_k (by decide)) (rs4_k (by decide)) (rs4_k (by decide)) (rs4_k (by decide))]; exact k
theorem rs4_T {h p q w a : Nat} : rT (rs4 ri h p q w) a = rT ri a := rT_eq (rs4_k (by decide)) (rs4_k (by decide)) (rs4_k (by decide)) a
theorem rk_O {b : Nat} (hb : b < 8) : RK (rs4 ri 0 0 0 b) (mqO b 0) := Or.inl ⟨rfl, hb, rfl⟩
theorem rk_E : RK (rs4 ri 1 0 0 0) jE := Or.inr (Or.inl ⟨rfl, rfl⟩)
theorem rk_H {i j : Nat} (h1 : rOK ri i) (h2 : rOK ri j) : RK (rs4 ri 2 i j 0) (jH (rT ri i) (ri 1 i) (rT ri j) (ri 1 j)) := by
  have k : RK (rs4 ri 2 i j 0) (jH (rT (rs4 ri 2 i j 0) i) (rs4 ri 2 i j 0 1 i) (rT (rs4 ri 2 i j 0) j) (rs4 ri 2 i j 0 1 j)) := Or.inr (Or.inr (Or.inl ⟨rfl, rs4_ok h1, rs4_ok h2, rfl⟩))
  rw [rs4_T, rs4_T, rs4_k (show 1 ≠ 20 by decide)] at k
  exact k
theorem rk_B {w i j : Nat} (hw : w < 4) (h1 : rOK ri i) (h2 : rOK ri j) : RK (rs4 ri 3 i j w) (jB w (rT ri i) (ri 1 i) (rT ri j) (ri 1 j)) := by
  have k : RK (rs4 ri 3 i j w) (jB w (rT (rs4 ri 3 i j w) i) (rs4 ri 3 i j w 1 i) (rT (rs4 ri 3 i j w) j) (rs4 ri 3 i j w 1 j)) := Or.inr (Or.inr (Or.inr (Or.inl ⟨rfl, hw, rs4_ok h1, rs4_ok h2, rfl⟩)))
  rw [rs4_T, rs4_T, rs4_k (show 1 ≠ 20 by decide)] at k
  exact k
theorem rk_N {i : Nat} (h1 : rOK ri i) : RK (rs4 ri 4 i i 0) (jN (rT ri i) (ri 1 i)) := by
  have k : RK (rs4 ri 4 i i 0) (jN (rT (rs4 ri 4 i i 0) i) (rs4 ri 4 i i 0 1 i)) := Or.inr (Or.inr (Or.inr (Or.inr (Or.inl ⟨rfl, rs4_ok h1, rfl⟩))))
  rw [rs4_T, rs4_k (show 1 ≠ 20 by decide)] at k
  exact k
theorem rk_C {i : Nat} (h1 : rOK ri i) : RK (rs4 ri 5 i i 0) (jC (rT ri i) (ri 1 i)) := by
  have k : RK (rs4 ri 5 i i 0) (jC (rT (rs4 ri 5 i i 0) i) (rs4 ri 5 i i 0 1 i)) := Or.inr (Or.inr (Or.inr (Or.inr (Or.inr (Or.inl ⟨rfl, rs4_ok h1, rfl⟩)))))
  rw [rs4_T, rs4_k (show 1 ≠ 20 by decide)] at k
  exact k
theorem rk_K {i : Nat} (h1 : rOK ri i) : RK (rs4 ri 6 i i 0) (jK (rT ri i) (ri 1 i)) := by
  have k : RK (rs4 ri 6 i i 0) (jK (rT (rs4 ri 6 i i 0) i) (rs4 ri 6 i i 0 1 i)) := Or.inr (Or.inr (Or.inr (Or.inr (Or.inr (Or.inr (Or.inl ⟨rfl, rs4_ok h1, rfl⟩))))))
  rw [rs4_T, rs4_k (show 1 ≠ 20 by decide)] at k
  exact k
theorem rk_R {i w : Nat} (hw : w < 3) (h1 : rOK ri i) : RK (rs4 ri 7 i i w) (jR (rT ri i) (ri 1 i) w) := by
  have k : RK (rs4 ri 7 i i w) (jR (rT (rs4 ri 7 i i w) i) (rs4 ri 7 i i w 1 i) w) := Or.inr (Or.inr (Or.inr (Or.inr (Or.inr (Or.inr (Or.inr (Or.inl ⟨rfl, hw, rs4_ok h1, rfl⟩)))))))
  rw [rs4_T, rs4_k (show 1 ≠ 20 by decide)] at k
  exact k
theorem rk_G {i : Nat} (h1 : rOK ri i) (hv : ∀ c, c < ri 0 i → ri 10 c ≤ 1) : RK (rs4 ri 8 i i 0) (jG (rT ri i) (ri 1 i) (rLv ri)) := by
  have k : RK (rs4 ri 8 i i 0) (jG (rT (rs4 ri 8 i i 0) i) (rs4 ri 8 i i 0 1 i) (rLv (rs4 ri 8 i i 0))) := Or.inr (Or.inr (Or.inr (Or.inr (Or.inr (Or.inr (Or.inr (Or.inr ⟨rfl, rs4_ok h1, by rw [rs4_k (show 0 ≠ 20 by decide), rs4_k (show 10 ≠ 20 by decide)]; exact hv, rfl⟩)))))))
  rw [rs4_T, rs4_k (show 1 ≠ 20 by decide), show rLv (rs4 ri 8 i i 0) = rLv ri from by unfold rLv; rw [rs4_k (show 10 ≠ 20 by decide)]] at k
  exact k
end RKQ
/-! look -/
def LK (e : Nat) (nx : Nat → Nat) (n0 : Nat) (f : Nat → Nat) (L r0 : Nat) : Prop := ∀ r, r < n0 → fOK e nx (if r < r0 then L + 1 else L) r (f r) ∧ f r ≤ L + 1
def LR (e : Nat) (nx : Nat → Nat) (n0 : Nat) (f : Nat → Nat) (L r0 l : Nat) : Prop := (∀ r, r < n0 → r ≠ r0 → fOK e nx (if r < r0 then L + 1 else L) r (f r) ∧ f r ≤ L + 1) ∧
  ((f r0 = 0 ∧ (∀ k, k < L → dlv e nx k r0 = false) ∧ ∀ b, b < l → dlv e nx (L - 1) (nx (r0 * 3 + b)) = false) ∨ (f r0 ≠ 0 ∧ (∀ k, f r0 = k + 1 → dlv e nx k r0 = true ∧ ∀ j, j < k → dlv e nx j r0 = false) ∧ f r0 ≤ L + 1))
theorem LR.of {e : Nat} {nx : Nat → Nat} {n0 : Nat} {f : Nat → Nat} {L r0 : Nat} (h : LK e nx n0 f L r0) (hr : r0 < n0) : LR e nx n0 f L r0 0 := by
  refine ⟨fun r hr _ => h r hr, ?_⟩
  obtain ⟨a, b⟩ := h r0 hr
  rw [if_neg (Nat.lt_irrefl _)] at a
  by_cases z : f r0 = 0
  · exact Or.inl ⟨z, a.1 z, fun b hb => absurd hb (Nat.not_lt_zero _)⟩
  · exact Or.inr ⟨z, a.2, b⟩
theorem LR.done {e : Nat} {nx : Nat → Nat} {n0 : Nat} {f : Nat → Nat} {L r0 : Nat} (hL : 1 ≤ L) (h : LR e nx n0 f L r0 3) : LK e nx n0 f L (r0 + 1) := by
  intro r hr
  by_cases er : r = r0
  · subst er
    rw [if_pos (Nat.lt_succ_self _)]
    rcases h.2 with ⟨z, a, b⟩ | ⟨z, a, b⟩
    · refine ⟨⟨fun _ k hk => ?_, fun k hk => by omega⟩, by omega⟩
      by_cases h2 : k < L
      · exact a k h2
      · have : k = L := by omega
        subst this
        obtain ⟨j, rfl⟩ : ∃ j, k = j + 1 := ⟨k - 1, by omega⟩
        cases hd : dlv e nx (j + 1) r with
        | false => rfl
        | true =>
          obtain ⟨l, hl, hd2⟩ := dlv_s.mp hd
          have := b l hl
          rw [Nat.add_sub_cancel] at this
          rw [this] at hd2; cases hd2
    · exact ⟨⟨fun hz => absurd hz z, a⟩, b⟩
  · obtain ⟨a, b⟩ := h.1 r hr er
    refine ⟨?_, b⟩
    by_cases h2 : r < r0
    · rw [if_pos h2] at a; rw [if_pos (by omega)]; exact a
    · rw [if_neg h2] at a; rw [if_neg (by omega)]; exact a
/-- the next letter leads to a rest with code x -/
theorem LR.no {e : Nat} {nx : Nat → Nat} {n0 : Nat} {f : Nat → Nat} {L r0 l : Nat} (hL : 1 ≤ L) (hr : r0 < n0) (hl : l < 3) (hx : nx (r0 * 3 + l) < n0) (h : LR e nx n0 f L r0 l) (hn : f r0 ≠ 0 ∨ f (nx (r0 * 3 + l)) ≠ L) : LR e nx n0 f L r0 (l + 1) := by
  refine ⟨h.1, ?_⟩
  rcases h.2 with ⟨z, a, b⟩ | h2
  · refine Or.inl ⟨z, a, fun b2 hb2 => ?_⟩
    by_cases eb : b2 = l
    · subst eb
      have hn := hn.resolve_left (fun q => q z)
      have key : ∀ k, f (nx (r0 * 3 + b2)) = k + 1 → (dlv e nx k (nx (r0 * 3 + b2)) = true ∧ ∀ j, j < k → dlv e nx j (nx (r0 * 3 + b2)) = false) → dlv e nx (L - 1) (nx (r0 * 3 + b2)) = false := fun k ek hk => by
        by_cases h3 : k < L - 1
        · have := a (k + 1) (by omega)
          rw [dlv_s.mpr ⟨b2, hl, hk.1⟩] at this
          cases this
        · exact hk.2 _ (by omega)
      by_cases ex : nx (r0 * 3 + b2) = r0
      · rw [ex]; exact a _ (by omega)
      · obtain ⟨p, q⟩ := h.1 _ hx ex
        cases hc : f (nx (r0 * 3 + b2)) with
        | zero => exact p.1 hc (L - 1) (by split <;> omega)
        | succ k => exact key k hc (p.2 k hc)
    · exact b b2 (by omega)
  · exact Or.inr h2
theorem LR.yes {e : Nat} {nx : Nat → Nat} {n0 : Nat} {f f2 : Nat → Nat} {L r0 l : Nat} (hL : 1 ≤ L) (hr : r0 < n0) (hl : l < 3) (hx : nx (r0 * 3 + l) < n0) (h : LR e nx n0 f L r0 l) (h0 : f r0 = 0) (hn : f (nx (r0 * 3 + l)) = L) (hf : f2 = us f r0 (L + 1)) : LR e nx n0 f2 L r0 (l + 1) := by
  subst hf
  refine ⟨fun r hr hne => by rw [us_n _ _ hne]; exact h.1 r hr hne, Or.inr ?_⟩
  rw [us_s]
  refine ⟨by omega, fun k hk => ?_, Nat.le_refl _⟩
  have ek : k = L := by omega
  subst ek
  rcases h.2 with ⟨z, a, b⟩ | h2
  · refine ⟨?_, a⟩
    have ex : nx (r0 * 3 + l) ≠ r0 := fun q => by rw [q, h0] at hn; omega
    obtain ⟨p, q⟩ := h.1 _ hx ex
    obtain ⟨j, rfl⟩ : ∃ j, k = j + 1 := ⟨k - 1, by omega⟩
    exact dlv_s.mpr ⟨l, hl, (p.2 j hn).1⟩
  · exact absurd h0 h2.1
theorem LK.up {e : Nat} {nx : Nat → Nat} {n0 : Nat} {f : Nat → Nat} {L r0 : Nat} (h : LK e nx n0 f L r0) (hr : n0 ≤ r0) : LK e nx n0 f (L + 1) 0 := fun r hr2 => by
  obtain ⟨a, b⟩ := h r hr2
  rw [if_pos (by omega)] at a
  rw [if_neg (Nat.not_lt_zero _)]
  exact ⟨a, by omega⟩
/-- the codes of the lengths, when all is looked at -/
def LD (ri : Nat → Nat → Nat) (p : Nat) (f : Nat → Nat) : Prop := ∀ s, s < ri 0 p → fOK (rT ri p 0 1) (rN ri p) 11 s (f s) ∧ f s ≤ 12

abbrev rm_M_letters : Room := { frames := 5, cells := 0, slots := 0, locals := 120 }
set_option maxRecDepth 100000 in
set_option maxHeartbeats 4000000 in
theorem c_M_letters (l : Launch) (Γ : gG) (r : Nat → Nat) (ri : Nat → Nat → Nat) (rl : Nat → Nat → Int64) (wr : va_W) (bits : Int32) (hS : RS ri) : cT l Γ my_M_letters bc_M_letters 2 (some .int) rm_M_letters [.ref (r 0), .int bits] (rW Γ r ri rl wr) (S := Nat → Nat → Nat) (fun v u => (¬ (∃ b, b < 8 ∧ bits = nI b) ∧ rbad 1 ri v u) ∨ ∃ b, (b < 8 ∧ bits = nI b) ∧ mkF 2 ri (mqO b 0) v u) (fun u => rW Γ r u rl wr) := by
  refine cT.start (by decide) (Nat.le_of_ble_eq_true rfl) (fun p e s m args below meth c ls Q hQ C hmn h hl => ?_)
  replace hl : lv_has ls 2 [(0, .ref (r 0)), (1, .int bits)] := hl
  have hS80 := hS.1
  refine lv_aload_n C.x C.b dc_M_letters_0 rfl (lv_at hl 0 rfl) ?_
  refine lv_iload_n C.x C.b dc_M_letters_1 rfl (lv_at hl 1 rfl) ?_
  refine lv_if_lt (tgt := 15) C.x C.b dc_M_letters_2 (by decide) (fun q2 => ?_) (fun q2 => ?_)
  · refine lv_iconst (v := (nI 1)) C.x C.b dc_M_letters_15 (by decide +kernel) ?_
    refine rg_put (ty := .int) C h 0 rfl rfl in_M tk_M nm_M 0 (by decide) fl_M_54 rfl (by decide +kernel) rfl rfl (by simp) dc_M_letters_16 (fun H locs h => ?_)
    obtain ⟨ri_1, eri_1⟩ : ∃ zz9, zz9 = us ri 20 (us (ri 20) 0 1) := ⟨_, rfl⟩
    have fri_1 : ∀ zk, zk ≠ 20 → ri_1 zk = ri zk := fun zk hzk => by rw [eri_1, us_n _ _ hzk]
    have gri_1 : ri_1 20 = us (ri 20) 0 1 := by rw [eri_1, us_s]
    have xri_1 : ri_1 20 0 = 1 ∧ ri_1 20 1 = ri 20 1 ∧ ri_1 20 2 = ri 20 2 ∧ ri_1 20 3 = ri 20 3 ∧ ri_1 20 4 = ri 20 4 ∧ ri_1 20 5 = ri 20 5 ∧ ri_1 20 6 = ri 20 6 := by rw [gri_1]; exact ⟨us_s _ _ _, us_n _ _ (by decide), us_n _ _ (by decide), us_n _ _ (by decide), us_n _ _ (by decide), us_n _ _ (by decide), us_n _ _ (by decide)⟩
    replace h : sT Γ s (rW Γ r ri_1 rl wr) H locs := by rw [eri_1]; exact h
    have hss : sS ri ri_1 (ri 20 1) := sS.of (fri_1 0 (by decide)) (fri_1 1 (by decide)) (fri_1 2 (by decide)) (fri_1 3 (by decide))
    refine lv_aload_n C.x C.b dc_M_letters_19 rfl (lv_at hl 0 rfl) ?_
    refine rg_get C h 0 rfl rfl in_M 0 (by decide) fl_M_54 rfl dc_M_letters_20 ?_
    refine tp_i (y := nI 1) (by rw [show ri_1 20 0 = 1 by omega]) ?_
    refine bz_le (tgt := 30) C (by omega) dc_M_letters_23 (by decide) (fun q23 => absurd q23 (by decide)) (fun q23 => ?_)
    refine lv_iconst (v := (nI 0)) C.x C.b dc_M_letters_26 (by decide +kernel) ?_
    refine lv_goto (tgt := 38) C.x C.b dc_M_letters_27 (by decide) ?_
    rw [hQ]
    exact rt_i C ri_1 h (Or.inl ⟨fun z => by obtain ⟨b, hb, e⟩ := z; subst e; first | exact nI_pos (by omega) q2 | exact absurd (nI_lt hb (by decide)) (Int32.not_lt.mpr q8), by omega, ⟨_, rfl⟩, by omega, hss⟩) dc_M_letters_38
  · refine lv_iload_n C.x C.b dc_M_letters_5 rfl (lv_at hl 1 rfl) ?_
    refine lv_bipush (v := (nI 8)) C.x C.b dc_M_letters_6 (by decide +kernel) ?_
    refine lv_icmp_ge (tgt := 15) C.x C.b dc_M_letters_8 (by decide) (fun q8 => ?_) (fun q8 => ?_)
    · refine lv_iconst (v := (nI 1)) C.x C.b dc_M_letters_15 (by decide +kernel) ?_
      refine rg_put (ty := .int) C h 0 rfl rfl in_M tk_M nm_M 0 (by decide) fl_M_54 rfl (by decide +kernel) rfl rfl (by simp) dc_M_letters_16 (fun H locs h => ?_)
      obtain ⟨ri_2, eri_2⟩ : ∃ zz9, zz9 = us ri 20 (us (ri 20) 0 1) := ⟨_, rfl⟩
      have fri_2 : ∀ zk, zk ≠ 20 → ri_2 zk = ri zk := fun zk hzk => by rw [eri_2, us_n _ _ hzk]
      have gri_2 : ri_2 20 = us (ri 20) 0 1 := by rw [eri_2, us_s]
      have xri_2 : ri_2 20 0 = 1 ∧ ri_2 20 1 = ri 20 1 ∧ ri_2 20 2 = ri 20 2 ∧ ri_2 20 3 = ri 20 3 ∧ ri_2 20 4 = ri 20 4 ∧ ri_2 20 5 = ri 20 5 ∧ ri_2 20 6 = ri 20 6 := by rw [gri_2]; exact ⟨us_s _ _ _, us_n _ _ (by decide), us_n _ _ (by decide), us_n _ _ (by decide), us_n _ _ (by decide), us_n _ _ (by decide), us_n _ _ (by decide)⟩
      replace h : sT Γ s (rW Γ r ri_2 rl wr) H locs := by rw [eri_2]; exact h
      have hss : sS ri ri_2 (ri 20 1) := sS.of (fri_2 0 (by decide)) (fri_2 1 (by decide)) (fri_2 2 (by decide)) (fri_2 3 (by decide))
      refine lv_aload_n C.x C.b dc_M_letters_19 rfl (lv_at hl 0 rfl) ?_
      refine rg_get C h 0 rfl rfl in_M 0 (by decide) fl_M_54 rfl dc_M_letters_20 ?_
      refine tp_i (y := nI 1) (by rw [show ri_2 20 0 = 1 by omega]) ?_
      refine bz_le (tgt := 30) C (by omega) dc_M_letters_23 (by decide) (fun q23 => absurd q23 (by decide)) (fun q23 => ?_)
      refine lv_iconst (v := (nI 0)) C.x C.b dc_M_letters_26 (by decide +kernel) ?_
      refine lv_goto (tgt := 38) C.x C.b dc_M_letters_27 (by decide) ?_
      rw [hQ]
      exact rt_i C ri_2 h (Or.inl ⟨fun z => by obtain ⟨b, hb, e⟩ := z; subst e; first | exact nI_pos (by omega) q2 | exact absurd (nI_lt hb (by decide)) (Int32.not_lt.mpr q8), by omega, ⟨_, rfl⟩, by omega, hss⟩) dc_M_letters_38
    · refine lv_iconst (v := (nI 0)) C.x C.b dc_M_letters_11 (by decide +kernel) ?_
      refine lv_goto (tgt := 16) C.x C.b dc_M_letters_12 (by decide) ?_
      obtain ⟨b, hb, eb⟩ : ∃ b, b < 8 ∧ bits = nI b := by
        rcases pk_ix bits (n := 8) (by decide) with z | z | z
        · exact absurd z q2
        · exact absurd z q8
        · exact z
      subst eb
      refine rg_put (ty := .int) C h 0 rfl rfl in_M tk_M nm_M 0 (by decide) fl_M_54 rfl (by decide +kernel) rfl rfl (by simp) dc_M_letters_16 (fun H locs h => ?_)
      obtain ⟨ri_3, eri_3⟩ : ∃ zz9, zz9 = us ri 20 (us (ri 20) 0 0) := ⟨_, rfl⟩
      have fri_3 : ∀ zk, zk ≠ 20 → ri_3 zk = ri zk := fun zk hzk => by rw [eri_3, us_n _ _ hzk]
      have gri_3 : ri_3 20 = us (ri 20) 0 0 := by rw [eri_3, us_s]
      have xri_3 : ri_3 20 0 = 0 ∧ ri_3 20 1 = ri 20 1 ∧ ri_3 20 2 = ri 20 2 ∧ ri_3 20 3 = ri 20 3 ∧ ri_3 20 4 = ri 20 4 ∧ ri_3 20 5 = ri 20 5 ∧ ri_3 20 6 = ri 20 6 := by rw [gri_3]; exact ⟨us_s _ _ _, us_n _ _ (by decide), us_n _ _ (by decide), us_n _ _ (by decide), us_n _ _ (by decide), us_n _ _ (by decide), us_n _ _ (by decide)⟩
      replace h : sT Γ s (rW Γ r ri_3 rl wr) H locs := by rw [eri_3]; exact h
      have hss : sS ri ri_3 (ri 20 1) := sS.of (fri_3 0 (by decide)) (fri_3 1 (by decide)) (fri_3 2 (by decide)) (fri_3 3 (by decide))
      refine lv_aload_n C.x C.b dc_M_letters_19 rfl (lv_at hl 0 rfl) ?_
      refine rg_get C h 0 rfl rfl in_M 0 (by decide) fl_M_54 rfl dc_M_letters_20 ?_
      refine tp_i (y := nI 0) (by rw [show ri_3 20 0 = 0 by omega]) ?_
      refine bz_le (tgt := 30) C (by omega) dc_M_letters_23 (by decide) (fun q23 => ?_) (fun q23 => absurd q23 (by decide))
      refine lv_aload_n C.x C.b dc_M_letters_30 rfl (lv_at hl 0 rfl) ?_
      refine lv_iconst (v := (nI 0)) C.x C.b dc_M_letters_31 (by decide +kernel) ?_
      refine lv_iconst (v := (nI 0)) C.x C.b dc_M_letters_32 (by decide +kernel) ?_
      refine lv_iconst (v := (nI 0)) C.x C.b dc_M_letters_33 (by decide +kernel) ?_
      refine lv_iload_n C.x C.b dc_M_letters_34 rfl (lv_at hl 1 rfl) ?_
      refine kv_V (As := [.int (nI 0), .int (nI 0), .int (nI 0), .int (nI b)]) (rest := []) C h hl.1 (c_M_make l Γ r ri_3 rl wr 0 0 0 b (hS.of (by omega) hss) (mqO b 0) (rk_O hb) (Or.inr (by decide)) (Or.inr (by decide))) mw_M_make lk_M_111 (q0 := 0) rfl rfl rfl (by decide) (by decide) (Nat.le_of_ble_eq_true rfl) dc_M_letters_35 (fun v u H locs hp h => ?_)
      obtain ⟨rn, rfl⟩ : ∃ zz9, zz9 = u := ⟨_, rfl⟩
      obtain ⟨xv, hxv⟩ : ∃ x, v = some (Value.int x) := by
        rcases hp with z9 | z9
        · exact ⟨_, z9.2.1⟩
        · exact ⟨_, z9.2.2.1⟩
      subst hxv
      replace h : sT Γ s (rW Γ r rn rl wr) _ _ := h
      refine W.eq (g2 := F0 m 38 ls [.int xv]) rfl ?_
      rw [hQ]
      exact rt_i C rn h (Or.inr ⟨b, ⟨hb, rfl⟩, mkF.of hp (by omega) (by omega) hss⟩) dc_M_letters_38

abbrev rm_M_then : Room := { frames := 5, cells := 0, slots := 0, locals := 120 }
set_option maxRecDepth 100000 in
set_option maxHeartbeats 4000000 in
theorem c_M_then (l : Launch) (Γ : gG) (r : Nat → Nat) (ri : Nat → Nat → Nat) (rl : Nat → Nat → Int64) (wr : va_W) (pp qq : Int32) (hS : RS ri) : cT l Γ my_M_then bc_M_then 3 (some .int) rm_M_then [.ref (r 0), .int pp, .int qq] (rW Γ r ri rl wr) (S := Nat → Nat → Nat) (fun v u => (¬ (∃ i j, i < ri 20 1 ∧ j < ri 20 1 ∧ pp = nI i ∧ qq = nI j) ∧ rbad 1 ri v u) ∨ ∃ i j, (i < ri 20 1 ∧ j < ri 20 1 ∧ pp = nI i ∧ qq = nI j) ∧ mkF 2 ri (jH (rT ri i) (ri 1 i) (rT ri j) (ri 1 j)) v u) (fun u => rW Γ r u rl wr) := by
  refine cT.start (by decide) (Nat.le_of_ble_eq_true rfl) (fun p e s m args below meth c ls Q hQ C hmn h hl => ?_)
  replace hl : lv_has ls 3 [(0, .ref (r 0)), (1, .int pp), (2, .int qq)] := hl
  have hS80 := hS.1
  refine lv_aload_n C.x C.b dc_M_then_0 rfl (lv_at hl 0 rfl) ?_
  refine lv_aload_n C.x C.b dc_M_then_1 rfl (lv_at hl 0 rfl) ?_
  refine lv_iload_n C.x C.b dc_M_then_2 rfl (lv_at hl 1 rfl) ?_
  refine kv_V (As := [.int pp]) (rest := [.ref (r 0)]) C h hl.1 (c_M_isSet l Γ r ri rl wr pp (by omega)) mw_M_isSet lk_M_115 (q0 := 0) rfl rfl rfl (by decide) (by decide) (Nat.le_of_ble_eq_true rfl) dc_M_then_3 (fun v u H locs hp h => ?_)
  obtain ⟨bs_1, rfl⟩ : ∃ zz9, zz9 = u := ⟨_, rfl⟩
  obtain ⟨rfl, hbs_1⟩ := hp
  replace h : sT Γ s (rW Γ r ri rl wr) _ _ := h
  refine W.eq (g2 := F0 m 6 ls [.int (bI bs_1), .ref (r 0)]) rfl ?_
  refine bb_eq (tgt := 21) C dc_M_then_6 (by decide) (fun q6 => ?_) (fun q6 => ?_)
  · refine lv_iconst (v := (nI 1)) C.x C.b dc_M_then_21 (by decide +kernel) ?_
    refine rg_put (ty := .int) C h 0 rfl rfl in_M tk_M nm_M 0 (by decide) fl_M_54 rfl (by decide +kernel) rfl rfl (by simp) dc_M_then_22 (fun H locs h => ?_)
    obtain ⟨ri_2, eri_2⟩ : ∃ zz9, zz9 = us ri 20 (us (ri 20) 0 1) := ⟨_, rfl⟩
    have fri_2 : ∀ zk, zk ≠ 20 → ri_2 zk = ri zk := fun zk hzk => by rw [eri_2, us_n _ _ hzk]
    have gri_2 : ri_2 20 = us (ri 20) 0 1 := by rw [eri_2, us_s]
    have xri_2 : ri_2 20 0 = 1 ∧ ri_2 20 1 = ri 20 1 ∧ ri_2 20 2 = ri 20 2 ∧ ri_2 20 3 = ri 20 3 ∧ ri_2 20 4 = ri 20 4 ∧ ri_2 20 5 = ri 20 5 ∧ ri_2 20 6 = ri 20 6 := by rw [gri_2]; exact ⟨us_s _ _ _, us_n _ _ (by decide), us_n _ _ (by decide), us_n _ _ (by decide), us_n _ _ (by decide), us_n _ _ (by decide), us_n _ _ (by decide)⟩
    replace h : sT Γ s (rW Γ r ri_2 rl wr) H locs := by rw [eri_2]; exact h
    have hss : sS ri ri_2 (ri 20 1) := sS.of (fri_2 0 (by decide)) (fri_2 1 (by decide)) (fri_2 2 (by decide)) (fri_2 3 (by decide))
    refine lv_aload_n C.x C.b dc_M_then_25 rfl (lv_at hl 0 rfl) ?_
    refine rg_get C h 0 rfl rfl in_M 0 (by decide) fl_M_54 rfl dc_M_then_26 ?_
    refine tp_i (y := nI 1) (by rw [show ri_2 20 0 = 1 by omega]) ?_
    refine bz_le (tgt := 36) C (by omega) dc_M_then_29 (by decide) (fun q29 => absurd q29 (by decide)) (fun q29 => ?_)
    refine lv_iconst (v := (nI 0)) C.x C.b dc_M_then_32 (by decide +kernel) ?_
    refine lv_goto (tgt := 44) C.x C.b dc_M_then_33 (by decide) ?_
    rw [hQ]
    exact rt_i C ri_2 h (Or.inl ⟨fun z => by first | (obtain ⟨i, j, a, b, c, d9⟩ := z; rw [hbs_1.mpr ⟨i, a, c⟩] at q6; exact Bool.noConfusion q6), by omega, ⟨_, rfl⟩, by omega, hss⟩) dc_M_then_44
  · refine lv_aload_n C.x C.b dc_M_then_9 rfl (lv_at hl 0 rfl) ?_
    refine lv_iload_n C.x C.b dc_M_then_10 rfl (lv_at hl 2 rfl) ?_
    refine kv_V (As := [.int qq]) (rest := [.ref (r 0)]) C h hl.1 (c_M_isSet l Γ r ri rl wr qq (by omega)) mw_M_isSet lk_M_115 (q0 := 0) rfl rfl rfl (by decide) (by decide) (Nat.le_of_ble_eq_true rfl) dc_M_then_11 (fun v u H locs hp h => ?_)
    obtain ⟨bs_3, rfl⟩ : ∃ zz9, zz9 = u := ⟨_, rfl⟩
    obtain ⟨rfl, hbs_3⟩ := hp
    replace h : sT Γ s (rW Γ r ri rl wr) _ _ := h
    refine W.eq (g2 := F0 m 14 ls [.int (bI bs_3), .ref (r 0)]) rfl ?_
    refine bb_eq (tgt := 21) C dc_M_then_14 (by decide) (fun q14 => ?_) (fun q14 => ?_)
    · refine lv_iconst (v := (nI 1)) C.x C.b dc_M_then_21 (by decide +kernel) ?_
      refine rg_put (ty := .int) C h 0 rfl rfl in_M tk_M nm_M 0 (by decide) fl_M_54 rfl (by decide +kernel) rfl rfl (by simp) dc_M_then_22 (fun H locs h => ?_)
      obtain ⟨ri_4, eri_4⟩ : ∃ zz9, zz9 = us ri 20 (us (ri 20) 0 1) := ⟨_, rfl⟩
      have fri_4 : ∀ zk, zk ≠ 20 → ri_4 zk = ri zk := fun zk hzk => by rw [eri_4, us_n _ _ hzk]
      have gri_4 : ri_4 20 = us (ri 20) 0 1 := by rw [eri_4, us_s]
      have xri_4 : ri_4 20 0 = 1 ∧ ri_4 20 1 = ri 20 1 ∧ ri_4 20 2 = ri 20 2 ∧ ri_4 20 3 = ri 20 3 ∧ ri_4 20 4 = ri 20 4 ∧ ri_4 20 5 = ri 20 5 ∧ ri_4 20 6 = ri 20 6 := by rw [gri_4]; exact ⟨us_s _ _ _, us_n _ _ (by decide), us_n _ _ (by decide), us_n _ _ (by decide), us_n _ _ (by decide), us_n _ _ (by decide), us_n _ _ (by decide)⟩
      replace h : sT Γ s (rW Γ r ri_4 rl wr) H locs := by rw [eri_4]; exact h
      have hss : sS ri ri_4 (ri 20 1) := sS.of (fri_4 0 (by decide)) (fri_4 1 (by decide)) (fri_4 2 (by decide)) (fri_4 3 (by decide))
      refine lv_aload_n C.x C.b dc_M_then_25 rfl (lv_at hl 0 rfl) ?_
      refine rg_get C h 0 rfl rfl in_M 0 (by decide) fl_M_54 rfl dc_M_then_26 ?_
      refine tp_i (y := nI 1) (by rw [show ri_4 20 0 = 1 by omega]) ?_
      refine bz_le (tgt := 36) C (by omega) dc_M_then_29 (by decide) (fun q29 => absurd q29 (by decide)) (fun q29 => ?_)
      refine lv_iconst (v := (nI 0)) C.x C.b dc_M_then_32 (by decide +kernel) ?_
      refine lv_goto (tgt := 44) C.x C.b dc_M_then_33 (by decide) ?_
      rw [hQ]
      exact rt_i C ri_4 h (Or.inl ⟨fun z => by first | (obtain ⟨i, j, a, b, c, d9⟩ := z; rw [hbs_1.mpr ⟨i, a, c⟩] at q6; exact Bool.noConfusion q6) | (obtain ⟨i, j, a, b, c, d9⟩ := z; rw [hbs_3.mpr ⟨j, b, d9⟩] at q14; exact Bool.noConfusion q14), by omega, ⟨_, rfl⟩, by omega, hss⟩) dc_M_then_44
    · refine lv_iconst (v := (nI 0)) C.x C.b dc_M_then_17 (by decide +kernel) ?_
      refine lv_goto (tgt := 22) C.x C.b dc_M_then_18 (by decide) ?_
      obtain ⟨i, hi, ei⟩ := hbs_1.mp q6
      subst ei
      obtain ⟨j, hj, ej⟩ := hbs_3.mp q14
      subst ej
      refine rg_put (ty := .int) C h 0 rfl rfl in_M tk_M nm_M 0 (by decide) fl_M_54 rfl (by decide +kernel) rfl rfl (by simp) dc_M_then_22 (fun H locs h => ?_)
      obtain ⟨ri_5, eri_5⟩ : ∃ zz9, zz9 = us ri 20 (us (ri 20) 0 0) := ⟨_, rfl⟩
      have fri_5 : ∀ zk, zk ≠ 20 → ri_5 zk = ri zk := fun zk hzk => by rw [eri_5, us_n _ _ hzk]
      have gri_5 : ri_5 20 = us (ri 20) 0 0 := by rw [eri_5, us_s]
      have xri_5 : ri_5 20 0 = 0 ∧ ri_5 20 1 = ri 20 1 ∧ ri_5 20 2 = ri 20 2 ∧ ri_5 20 3 = ri 20 3 ∧ ri_5 20 4 = ri 20 4 ∧ ri_5 20 5 = ri 20 5 ∧ ri_5 20 6 = ri 20 6 := by rw [gri_5]; exact ⟨us_s _ _ _, us_n _ _ (by decide), us_n _ _ (by decide), us_n _ _ (by decide), us_n _ _ (by decide), us_n _ _ (by decide), us_n _ _ (by decide)⟩
      replace h : sT Γ s (rW Γ r ri_5 rl wr) H locs := by rw [eri_5]; exact h
      have hss : sS ri ri_5 (ri 20 1) := sS.of (fri_5 0 (by decide)) (fri_5 1 (by decide)) (fri_5 2 (by decide)) (fri_5 3 (by decide))
      refine lv_aload_n C.x C.b dc_M_then_25 rfl (lv_at hl 0 rfl) ?_
      refine rg_get C h 0 rfl rfl in_M 0 (by decide) fl_M_54 rfl dc_M_then_26 ?_
      refine tp_i (y := nI 0) (by rw [show ri_5 20 0 = 0 by omega]) ?_
      refine bz_le (tgt := 36) C (by omega) dc_M_then_29 (by decide) (fun q29 => ?_) (fun q29 => absurd q29 (by decide))
      refine lv_aload_n C.x C.b dc_M_then_36 rfl (lv_at hl 0 rfl) ?_
      refine lv_iconst (v := (nI 2)) C.x C.b dc_M_then_37 (by decide +kernel) ?_
      refine lv_iload_n C.x C.b dc_M_then_38 rfl (lv_at hl 1 rfl) ?_
      refine lv_iload_n C.x C.b dc_M_then_39 rfl (lv_at hl 2 rfl) ?_
      refine lv_iconst (v := (nI 0)) C.x C.b dc_M_then_40 (by decide +kernel) ?_
      refine kv_V (As := [.int (nI 2), .int (nI i), .int (nI j), .int (nI 0)]) (rest := []) C h hl.1 (c_M_make l Γ r ri_5 rl wr 2 i j 0 (hS.of (by omega) hss) (jH (rT ri i) (ri 1 i) (rT ri j) (ri 1 j)) (by
        have kk9 := rk_H (hss.rok hi (hS.2 _ hi).1) (hss.rok hj (hS.2 _ hj).1)
        try rw [hss.tab hi (hS.2 _ hi).1.2.2.1] at kk9
        try rw [hss.tab hj (hS.2 _ hj).1.2.2.1] at kk9
        try rw [(hss _ hi).2.1] at kk9
        try rw [(hss _ hj).2.1] at kk9
        exact kk9) (Or.inl (by omega)) (Or.inl (by omega))) mw_M_make lk_M_111 (q0 := 0) rfl rfl rfl (by decide) (by decide) (Nat.le_of_ble_eq_true rfl) dc_M_then_41 (fun v u H locs hp h => ?_)
      obtain ⟨rn, rfl⟩ : ∃ zz9, zz9 = u := ⟨_, rfl⟩
      obtain ⟨xv, hxv⟩ : ∃ x, v = some (Value.int x) := by
        rcases hp with z9 | z9
        · exact ⟨_, z9.2.1⟩
        · exact ⟨_, z9.2.2.1⟩
      subst hxv
      replace h : sT Γ s (rW Γ r rn rl wr) _ _ := h
      refine W.eq (g2 := F0 m 44 ls [.int xv]) rfl ?_
      rw [hQ]
      exact rt_i C rn h (Or.inr ⟨i, j, ⟨hi, hj, rfl, rfl⟩, mkF.of hp (by omega) (by omega) hss⟩) dc_M_then_44

abbrev rm_M_both : Room := { frames := 5, cells := 0, slots := 0, locals := 120 }
set_option maxRecDepth 100000 in
set_option maxHeartbeats 4000000 in
theorem c_M_both (l : Launch) (Γ : gG) (r : Nat → Nat) (ri : Nat → Nat → Nat) (rl : Nat → Nat → Int64) (wr : va_W) (hw pp qq : Int32) (hS : RS ri) : cT l Γ my_M_both bc_M_both 4 (some .int) rm_M_both [.ref (r 0), .int hw, .int pp, .int qq] (rW Γ r ri rl wr) (S := Nat → Nat → Nat) (fun v u => (¬ (∃ w i j, w < 4 ∧ hw = nI w ∧ i < ri 20 1 ∧ j < ri 20 1 ∧ pp = nI i ∧ qq = nI j) ∧ rbad 1 ri v u) ∨ ∃ w i j, (w < 4 ∧ hw = nI w ∧ i < ri 20 1 ∧ j < ri 20 1 ∧ pp = nI i ∧ qq = nI j) ∧ mkF 2 ri (jB w (rT ri i) (ri 1 i) (rT ri j) (ri 1 j)) v u) (fun u => rW Γ r u rl wr) := by
  refine cT.start (by decide) (Nat.le_of_ble_eq_true rfl) (fun p e s m args below meth c ls Q hQ C hmn h hl => ?_)
  replace hl : lv_has ls 4 [(0, .ref (r 0)), (1, .int hw), (2, .int pp), (3, .int qq)] := hl
  have hS80 := hS.1
  refine lv_aload_n C.x C.b dc_M_both_0 rfl (lv_at hl 0 rfl) ?_
  refine lv_iload_n C.x C.b dc_M_both_1 rfl (lv_at hl 1 rfl) ?_
  refine lv_if_lt (tgt := 30) C.x C.b dc_M_both_2 (by decide) (fun q2 => ?_) (fun q2 => ?_)
  · refine lv_iconst (v := (nI 1)) C.x C.b dc_M_both_30 (by decide +kernel) ?_
    refine rg_put (ty := .int) C h 0 rfl rfl in_M tk_M nm_M 0 (by decide) fl_M_54 rfl (by decide +kernel) rfl rfl (by simp) dc_M_both_31 (fun H locs h => ?_)
    obtain ⟨ri_1, eri_1⟩ : ∃ zz9, zz9 = us ri 20 (us (ri 20) 0 1) := ⟨_, rfl⟩
    have fri_1 : ∀ zk, zk ≠ 20 → ri_1 zk = ri zk := fun zk hzk => by rw [eri_1, us_n _ _ hzk]
    have gri_1 : ri_1 20 = us (ri 20) 0 1 := by rw [eri_1, us_s]
    have xri_1 : ri_1 20 0 = 1 ∧ ri_1 20 1 = ri 20 1 ∧ ri_1 20 2 = ri 20 2 ∧ ri_1 20 3 = ri 20 3 ∧ ri_1 20 4 = ri 20 4 ∧ ri_1 20 5 = ri 20 5 ∧ ri_1 20 6 = ri 20 6 := by rw [gri_1]; exact ⟨us_s _ _ _, us_n _ _ (by decide), us_n _ _ (by decide), us_n _ _ (by decide), us_n _ _ (by decide), us_n _ _ (by decide), us_n _ _ (by decide)⟩
    replace h : sT Γ s (rW Γ r ri_1 rl wr) H locs := by rw [eri_1]; exact h
    have hss : sS ri ri_1 (ri 20 1) := sS.of (fri_1 0 (by decide)) (fri_1 1 (by decide)) (fri_1 2 (by decide)) (fri_1 3 (by decide))
    refine lv_aload_n C.x C.b dc_M_both_34 rfl (lv_at hl 0 rfl) ?_
    refine rg_get C h 0 rfl rfl in_M 0 (by decide) fl_M_54 rfl dc_M_both_35 ?_
    refine tp_i (y := nI 1) (by rw [show ri_1 20 0 = 1 by omega]) ?_
    refine bz_le (tgt := 45) C (by omega) dc_M_both_38 (by decide) (fun q38 => absurd q38 (by decide)) (fun q38 => ?_)
    refine lv_iconst (v := (nI 0)) C.x C.b dc_M_both_41 (by decide +kernel) ?_
    refine lv_goto (tgt := 53) C.x C.b dc_M_both_42 (by decide) ?_
    rw [hQ]
    exact rt_i C ri_1 h (Or.inl ⟨fun z => by first | (obtain ⟨w, i, j, hb, e, a, b, c, d9⟩ := z; subst e; exact nI_pos (by omega) q2) | (obtain ⟨w, i, j, hb, e, a, b, c, d9⟩ := z; subst e; exact absurd (nI_lt hb (by decide)) (Int32.not_lt.mpr q7)), by omega, ⟨_, rfl⟩, by omega, hss⟩) dc_M_both_53
  · refine lv_iload_n C.x C.b dc_M_both_5 rfl (lv_at hl 1 rfl) ?_
    refine lv_iconst (v := (nI 4)) C.x C.b dc_M_both_6 (by decide +kernel) ?_
    refine lv_icmp_ge (tgt := 30) C.x C.b dc_M_both_7 (by decide) (fun q7 => ?_) (fun q7 => ?_)
    · refine lv_iconst (v := (nI 1)) C.x C.b dc_M_both_30 (by decide +kernel) ?_
      refine rg_put (ty := .int) C h 0 rfl rfl in_M tk_M nm_M 0 (by decide) fl_M_54 rfl (by decide +kernel) rfl rfl (by simp) dc_M_both_31 (fun H locs h => ?_)
      obtain ⟨ri_2, eri_2⟩ : ∃ zz9, zz9 = us ri 20 (us (ri 20) 0 1) := ⟨_, rfl⟩
      have fri_2 : ∀ zk, zk ≠ 20 → ri_2 zk = ri zk := fun zk hzk => by rw [eri_2, us_n _ _ hzk]
      have gri_2 : ri_2 20 = us (ri 20) 0 1 := by rw [eri_2, us_s]
      have xri_2 : ri_2 20 0 = 1 ∧ ri_2 20 1 = ri 20 1 ∧ ri_2 20 2 = ri 20 2 ∧ ri_2 20 3 = ri 20 3 ∧ ri_2 20 4 = ri 20 4 ∧ ri_2 20 5 = ri 20 5 ∧ ri_2 20 6 = ri 20 6 := by rw [gri_2]; exact ⟨us_s _ _ _, us_n _ _ (by decide), us_n _ _ (by decide), us_n _ _ (by decide), us_n _ _ (by decide), us_n _ _ (by decide), us_n _ _ (by decide)⟩
      replace h : sT Γ s (rW Γ r ri_2 rl wr) H locs := by rw [eri_2]; exact h
      have hss : sS ri ri_2 (ri 20 1) := sS.of (fri_2 0 (by decide)) (fri_2 1 (by decide)) (fri_2 2 (by decide)) (fri_2 3 (by decide))
      refine lv_aload_n C.x C.b dc_M_both_34 rfl (lv_at hl 0 rfl) ?_
      refine rg_get C h 0 rfl rfl in_M 0 (by decide) fl_M_54 rfl dc_M_both_35 ?_
      refine tp_i (y := nI 1) (by rw [show ri_2 20 0 = 1 by omega]) ?_
      refine bz_le (tgt := 45) C (by omega) dc_M_both_38 (by decide) (fun q38 => absurd q38 (by decide)) (fun q38 => ?_)
      refine lv_iconst (v := (nI 0)) C.x C.b dc_M_both_41 (by decide +kernel) ?_
      refine lv_goto (tgt := 53) C.x C.b dc_M_both_42 (by decide) ?_
      rw [hQ]
      exact rt_i C ri_2 h (Or.inl ⟨fun z => by first | (obtain ⟨w, i, j, hb, e, a, b, c, d9⟩ := z; subst e; exact nI_pos (by omega) q2) | (obtain ⟨w, i, j, hb, e, a, b, c, d9⟩ := z; subst e; exact absurd (nI_lt hb (by decide)) (Int32.not_lt.mpr q7)), by omega, ⟨_, rfl⟩, by omega, hss⟩) dc_M_both_53
    · refine lv_aload_n C.x C.b dc_M_both_10 rfl (lv_at hl 0 rfl) ?_
      refine lv_iload_n C.x C.b dc_M_both_11 rfl (lv_at hl 2 rfl) ?_
      refine kv_V (As := [.int pp]) (rest := [.ref (r 0)]) C h hl.1 (c_M_isSet l Γ r ri rl wr pp (by omega)) mw_M_isSet lk_M_115 (q0 := 0) rfl rfl rfl (by decide) (by decide) (Nat.le_of_ble_eq_true rfl) dc_M_both_12 (fun v u H locs hp h => ?_)
      obtain ⟨bs_3, rfl⟩ : ∃ zz9, zz9 = u := ⟨_, rfl⟩
      obtain ⟨rfl, hbs_3⟩ := hp
      replace h : sT Γ s (rW Γ r ri rl wr) _ _ := h
      refine W.eq (g2 := F0 m 15 ls [.int (bI bs_3), .ref (r 0)]) rfl ?_
      refine bb_eq (tgt := 30) C dc_M_both_15 (by decide) (fun q15 => ?_) (fun q15 => ?_)
      · refine lv_iconst (v := (nI 1)) C.x C.b dc_M_both_30 (by decide +kernel) ?_
        refine rg_put (ty := .int) C h 0 rfl rfl in_M tk_M nm_M 0 (by decide) fl_M_54 rfl (by decide +kernel) rfl rfl (by simp) dc_M_both_31 (fun H locs h => ?_)
        obtain ⟨ri_4, eri_4⟩ : ∃ zz9, zz9 = us ri 20 (us (ri 20) 0 1) := ⟨_, rfl⟩
        have fri_4 : ∀ zk, zk ≠ 20 → ri_4 zk = ri zk := fun zk hzk => by rw [eri_4, us_n _ _ hzk]
        have gri_4 : ri_4 20 = us (ri 20) 0 1 := by rw [eri_4, us_s]
        have xri_4 : ri_4 20 0 = 1 ∧ ri_4 20 1 = ri 20 1 ∧ ri_4 20 2 = ri 20 2 ∧ ri_4 20 3 = ri 20 3 ∧ ri_4 20 4 = ri 20 4 ∧ ri_4 20 5 = ri 20 5 ∧ ri_4 20 6 = ri 20 6 := by rw [gri_4]; exact ⟨us_s _ _ _, us_n _ _ (by decide), us_n _ _ (by decide), us_n _ _ (by decide), us_n _ _ (by decide), us_n _ _ (by decide), us_n _ _ (by decide)⟩
        replace h : sT Γ s (rW Γ r ri_4 rl wr) H locs := by rw [eri_4]; exact h
        have hss : sS ri ri_4 (ri 20 1) := sS.of (fri_4 0 (by decide)) (fri_4 1 (by decide)) (fri_4 2 (by decide)) (fri_4 3 (by decide))
        refine lv_aload_n C.x C.b dc_M_both_34 rfl (lv_at hl 0 rfl) ?_
        refine rg_get C h 0 rfl rfl in_M 0 (by decide) fl_M_54 rfl dc_M_both_35 ?_
        refine tp_i (y := nI 1) (by rw [show ri_4 20 0 = 1 by omega]) ?_
        refine bz_le (tgt := 45) C (by omega) dc_M_both_38 (by decide) (fun q38 => absurd q38 (by decide)) (fun q38 => ?_)
        refine lv_iconst (v := (nI 0)) C.x C.b dc_M_both_41 (by decide +kernel) ?_
        refine lv_goto (tgt := 53) C.x C.b dc_M_both_42 (by decide) ?_
        rw [hQ]
        exact rt_i C ri_4 h (Or.inl ⟨fun z => by first | (obtain ⟨w, i, j, hb, e, a, b, c, d9⟩ := z; subst e; exact nI_pos (by omega) q2) | (obtain ⟨w, i, j, hb, e, a, b, c, d9⟩ := z; subst e; exact absurd (nI_lt hb (by decide)) (Int32.not_lt.mpr q7)) | (obtain ⟨w, i, j, hb, e, a, b, c, d9⟩ := z; rw [hbs_3.mpr ⟨i, a, c⟩] at q15; exact Bool.noConfusion q15), by omega, ⟨_, rfl⟩, by omega, hss⟩) dc_M_both_53
      · refine lv_aload_n C.x C.b dc_M_both_18 rfl (lv_at hl 0 rfl) ?_
        refine lv_iload_n C.x C.b dc_M_both_19 rfl (lv_at hl 3 rfl) ?_
        refine kv_V (As := [.int qq]) (rest := [.ref (r 0)]) C h hl.1 (c_M_isSet l Γ r ri rl wr qq (by omega)) mw_M_isSet lk_M_115 (q0 := 0) rfl rfl rfl (by decide) (by decide) (Nat.le_of_ble_eq_true rfl) dc_M_both_20 (fun v u H locs hp h => ?_)
        obtain ⟨bs_5, rfl⟩ : ∃ zz9, zz9 = u := ⟨_, rfl⟩
        obtain ⟨rfl, hbs_5⟩ := hp
        replace h : sT Γ s (rW Γ r ri rl wr) _ _ := h
        refine W.eq (g2 := F0 m 23 ls [.int (bI bs_5), .ref (r 0)]) rfl ?_
        refine bb_eq (tgt := 30) C dc_M_both_23 (by decide) (fun q23 => ?_) (fun q23 => ?_)
        · refine lv_iconst (v := (nI 1)) C.x C.b dc_M_both_30 (by decide +kernel) ?_
          refine rg_put (ty := .int) C h 0 rfl rfl in_M tk_M nm_M 0 (by decide) fl_M_54 rfl (by decide +kernel) rfl rfl (by simp) dc_M_both_31 (fun H locs h => ?_)
          obtain ⟨ri_6, eri_6⟩ : ∃ zz9, zz9 = us ri 20 (us (ri 20) 0 1) := ⟨_, rfl⟩
          have fri_6 : ∀ zk, zk ≠ 20 → ri_6 zk = ri zk := fun zk hzk => by rw [eri_6, us_n _ _ hzk]
          have gri_6 : ri_6 20 = us (ri 20) 0 1 := by rw [eri_6, us_s]
          have xri_6 : ri_6 20 0 = 1 ∧ ri_6 20 1 = ri 20 1 ∧ ri_6 20 2 = ri 20 2 ∧ ri_6 20 3 = ri 20 3 ∧ ri_6 20 4 = ri 20 4 ∧ ri_6 20 5 = ri 20 5 ∧ ri_6 20 6 = ri 20 6 := by rw [gri_6]; exact ⟨us_s _ _ _, us_n _ _ (by decide), us_n _ _ (by decide), us_n _ _ (by decide), us_n _ _ (by decide), us_n _ _ (by decide), us_n _ _ (by decide)⟩
          replace h : sT Γ s (rW Γ r ri_6 rl wr) H locs := by rw [eri_6]; exact h
          have hss : sS ri ri_6 (ri 20 1) := sS.of (fri_6 0 (by decide)) (fri_6 1 (by decide)) (fri_6 2 (by decide)) (fri_6 3 (by decide))
          refine lv_aload_n C.x C.b dc_M_both_34 rfl (lv_at hl 0 rfl) ?_
          refine rg_get C h 0 rfl rfl in_M 0 (by decide) fl_M_54 rfl dc_M_both_35 ?_
          refine tp_i (y := nI 1) (by rw [show ri_6 20 0 = 1 by omega]) ?_
          refine bz_le (tgt := 45) C (by omega) dc_M_both_38 (by decide) (fun q38 => absurd q38 (by decide)) (fun q38 => ?_)
          refine lv_iconst (v := (nI 0)) C.x C.b dc_M_both_41 (by decide +kernel) ?_
          refine lv_goto (tgt := 53) C.x C.b dc_M_both_42 (by decide) ?_
          rw [hQ]
          exact rt_i C ri_6 h (Or.inl ⟨fun z => by first | (obtain ⟨w, i, j, hb, e, a, b, c, d9⟩ := z; subst e; exact nI_pos (by omega) q2) | (obtain ⟨w, i, j, hb, e, a, b, c, d9⟩ := z; subst e; exact absurd (nI_lt hb (by decide)) (Int32.not_lt.mpr q7)) | (obtain ⟨w, i, j, hb, e, a, b, c, d9⟩ := z; rw [hbs_3.mpr ⟨i, a, c⟩] at q15; exact Bool.noConfusion q15) | (obtain ⟨w, i, j, hb, e, a, b, c, d9⟩ := z; rw [hbs_5.mpr ⟨j, b, d9⟩] at q23; exact Bool.noConfusion q23), by omega, ⟨_, rfl⟩, by omega, hss⟩) dc_M_both_53
        · refine lv_iconst (v := (nI 0)) C.x C.b dc_M_both_26 (by decide +kernel) ?_
          refine lv_goto (tgt := 31) C.x C.b dc_M_both_27 (by decide) ?_
          obtain ⟨i, hi, ei⟩ := hbs_3.mp q15
          subst ei
          obtain ⟨j, hj, ej⟩ := hbs_5.mp q23
          subst ej
          obtain ⟨w, hw, ew⟩ : ∃ w, w < 4 ∧ hw = nI w := by
            rcases pk_ix hw (n := 4) (by decide) with z | z | z
            · exact absurd z q2
            · exact absurd z q7
            · exact z
          subst ew
          refine rg_put (ty := .int) C h 0 rfl rfl in_M tk_M nm_M 0 (by decide) fl_M_54 rfl (by decide +kernel) rfl rfl (by simp) dc_M_both_31 (fun H locs h => ?_)
          obtain ⟨ri_7, eri_7⟩ : ∃ zz9, zz9 = us ri 20 (us (ri 20) 0 0) := ⟨_, rfl⟩
          have fri_7 : ∀ zk, zk ≠ 20 → ri_7 zk = ri zk := fun zk hzk => by rw [eri_7, us_n _ _ hzk]
          have gri_7 : ri_7 20 = us (ri 20) 0 0 := by rw [eri_7, us_s]
          have xri_7 : ri_7 20 0 = 0 ∧ ri_7 20 1 = ri 20 1 ∧ ri_7 20 2 = ri 20 2 ∧ ri_7 20 3 = ri 20 3 ∧ ri_7 20 4 = ri 20 4 ∧ ri_7 20 5 = ri 20 5 ∧ ri_7 20 6 = ri 20 6 := by rw [gri_7]; exact ⟨us_s _ _ _, us_n _ _ (by decide), us_n _ _ (by decide), us_n _ _ (by decide), us_n _ _ (by decide), us_n _ _ (by decide), us_n _ _ (by decide)⟩
          replace h : sT Γ s (rW Γ r ri_7 rl wr) H locs := by rw [eri_7]; exact h
          have hss : sS ri ri_7 (ri 20 1) := sS.of (fri_7 0 (by decide)) (fri_7 1 (by decide)) (fri_7 2 (by decide)) (fri_7 3 (by decide))
          refine lv_aload_n C.x C.b dc_M_both_34 rfl (lv_at hl 0 rfl) ?_
          refine rg_get C h 0 rfl rfl in_M 0 (by decide) fl_M_54 rfl dc_M_both_35 ?_
          refine tp_i (y := nI 0) (by rw [show ri_7 20 0 = 0 by omega]) ?_
          refine bz_le (tgt := 45) C (by omega) dc_M_both_38 (by decide) (fun q38 => ?_) (fun q38 => absurd q38 (by decide))
          refine lv_aload_n C.x C.b dc_M_both_45 rfl (lv_at hl 0 rfl) ?_
          refine lv_iconst (v := (nI 3)) C.x C.b dc_M_both_46 (by decide +kernel) ?_
          refine lv_iload_n C.x C.b dc_M_both_47 rfl (lv_at hl 2 rfl) ?_
          refine lv_iload_n C.x C.b dc_M_both_48 rfl (lv_at hl 3 rfl) ?_
          refine lv_iload_n C.x C.b dc_M_both_49 rfl (lv_at hl 1 rfl) ?_
          refine kv_V (As := [.int (nI 3), .int (nI i), .int (nI j), .int (nI w)]) (rest := []) C h hl.1 (c_M_make l Γ r ri_7 rl wr 3 i j w (hS.of (by omega) hss) (jB w (rT ri i) (ri 1 i) (rT ri j) (ri 1 j)) (by
            have kk9 := rk_B hw (hss.rok hi (hS.2 _ hi).1) (hss.rok hj (hS.2 _ hj).1)
            try rw [hss.tab hi (hS.2 _ hi).1.2.2.1] at kk9
            try rw [hss.tab hj (hS.2 _ hj).1.2.2.1] at kk9
            try rw [(hss _ hi).2.1] at kk9
            try rw [(hss _ hj).2.1] at kk9
            exact kk9) (Or.inl (by omega)) (Or.inl (by omega))) mw_M_make lk_M_111 (q0 := 0) rfl rfl rfl (by decide) (by decide) (Nat.le_of_ble_eq_true rfl) dc_M_both_50 (fun v u H locs hp h => ?_)
          obtain ⟨rn, rfl⟩ : ∃ zz9, zz9 = u := ⟨_, rfl⟩
          obtain ⟨xv, hxv⟩ : ∃ x, v = some (Value.int x) := by
            rcases hp with z9 | z9
            · exact ⟨_, z9.2.1⟩
            · exact ⟨_, z9.2.2.1⟩
          subst hxv
          replace h : sT Γ s (rW Γ r rn rl wr) _ _ := h
          refine W.eq (g2 := F0 m 53 ls [.int xv]) rfl ?_
          rw [hQ]
          exact rt_i C rn h (Or.inr ⟨w, i, j, ⟨hw, rfl, hi, hj, rfl, rfl⟩, mkF.of hp (by omega) (by omega) hss⟩) dc_M_both_53

abbrev rm_M_many : Room := { frames := 5, cells := 0, slots := 0, locals := 120 }
set_option maxRecDepth 100000 in
set_option maxHeartbeats 4000000 in
theorem c_M_many (l : Launch) (Γ : gG) (r : Nat → Nat) (ri : Nat → Nat → Nat) (rl : Nat → Nat → Int64) (wr : va_W) (pp : Int32) (hS : RS ri) : cT l Γ my_M_many bc_M_many 2 (some .int) rm_M_many [.ref (r 0), .int pp] (rW Γ r ri rl wr) (S := Nat → Nat → Nat) (fun v u => (¬ (∃ i, i < ri 20 1 ∧ pp = nI i) ∧ rbad 1 ri v u) ∨ ∃ i, (i < ri 20 1 ∧ pp = nI i) ∧ mkF 2 ri (jN (rT ri i) (ri 1 i)) v u) (fun u => rW Γ r u rl wr) := by
  refine cT.start (by decide) (Nat.le_of_ble_eq_true rfl) (fun p e s m args below meth c ls Q hQ C hmn h hl => ?_)
  replace hl : lv_has ls 2 [(0, .ref (r 0)), (1, .int pp)] := hl
  have hS80 := hS.1
  refine lv_aload_n C.x C.b dc_M_many_0 rfl (lv_at hl 0 rfl) ?_
  refine lv_aload_n C.x C.b dc_M_many_1 rfl (lv_at hl 0 rfl) ?_
  refine lv_iload_n C.x C.b dc_M_many_2 rfl (lv_at hl 1 rfl) ?_
  refine kv_V (As := [.int pp]) (rest := [.ref (r 0)]) C h hl.1 (c_M_isSet l Γ r ri rl wr pp (by omega)) mw_M_isSet lk_M_115 (q0 := 0) rfl rfl rfl (by decide) (by decide) (Nat.le_of_ble_eq_true rfl) dc_M_many_3 (fun v u H locs hp h => ?_)
  obtain ⟨bs_1, rfl⟩ : ∃ zz9, zz9 = u := ⟨_, rfl⟩
  obtain ⟨rfl, hbs_1⟩ := hp
  replace h : sT Γ s (rW Γ r ri rl wr) _ _ := h
  refine W.eq (g2 := F0 m 6 ls [.int (bI bs_1), .ref (r 0)]) rfl ?_
  refine bb_eq (tgt := 13) C dc_M_many_6 (by decide) (fun q6 => ?_) (fun q6 => ?_)
  · refine lv_iconst (v := (nI 1)) C.x C.b dc_M_many_13 (by decide +kernel) ?_
    refine rg_put (ty := .int) C h 0 rfl rfl in_M tk_M nm_M 0 (by decide) fl_M_54 rfl (by decide +kernel) rfl rfl (by simp) dc_M_many_14 (fun H locs h => ?_)
    obtain ⟨ri_2, eri_2⟩ : ∃ zz9, zz9 = us ri 20 (us (ri 20) 0 1) := ⟨_, rfl⟩
    have fri_2 : ∀ zk, zk ≠ 20 → ri_2 zk = ri zk := fun zk hzk => by rw [eri_2, us_n _ _ hzk]
    have gri_2 : ri_2 20 = us (ri 20) 0 1 := by rw [eri_2, us_s]
    have xri_2 : ri_2 20 0 = 1 ∧ ri_2 20 1 = ri 20 1 ∧ ri_2 20 2 = ri 20 2 ∧ ri_2 20 3 = ri 20 3 ∧ ri_2 20 4 = ri 20 4 ∧ ri_2 20 5 = ri 20 5 ∧ ri_2 20 6 = ri 20 6 := by rw [gri_2]; exact ⟨us_s _ _ _, us_n _ _ (by decide), us_n _ _ (by decide), us_n _ _ (by decide), us_n _ _ (by decide), us_n _ _ (by decide), us_n _ _ (by decide)⟩
    replace h : sT Γ s (rW Γ r ri_2 rl wr) H locs := by rw [eri_2]; exact h
    have hss : sS ri ri_2 (ri 20 1) := sS.of (fri_2 0 (by decide)) (fri_2 1 (by decide)) (fri_2 2 (by decide)) (fri_2 3 (by decide))
    refine lv_aload_n C.x C.b dc_M_many_17 rfl (lv_at hl 0 rfl) ?_
    refine rg_get C h 0 rfl rfl in_M 0 (by decide) fl_M_54 rfl dc_M_many_18 ?_
    refine tp_i (y := nI 1) (by rw [show ri_2 20 0 = 1 by omega]) ?_
    refine bz_le (tgt := 28) C (by omega) dc_M_many_21 (by decide) (fun q21 => absurd q21 (by decide)) (fun q21 => ?_)
    refine lv_iconst (v := (nI 0)) C.x C.b dc_M_many_24 (by decide +kernel) ?_
    refine lv_goto (tgt := 36) C.x C.b dc_M_many_25 (by decide) ?_
    rw [hQ]
    exact rt_i C ri_2 h (Or.inl ⟨fun z => by first | (obtain ⟨i, a, c⟩ := z; rw [hbs_1.mpr ⟨i, a, c⟩] at q6; exact Bool.noConfusion q6), by omega, ⟨_, rfl⟩, by omega, hss⟩) dc_M_many_36
  · refine lv_iconst (v := (nI 0)) C.x C.b dc_M_many_9 (by decide +kernel) ?_
    refine lv_goto (tgt := 14) C.x C.b dc_M_many_10 (by decide) ?_
    obtain ⟨i, hi, ei⟩ := hbs_1.mp q6
    subst ei
    refine rg_put (ty := .int) C h 0 rfl rfl in_M tk_M nm_M 0 (by decide) fl_M_54 rfl (by decide +kernel) rfl rfl (by simp) dc_M_many_14 (fun H locs h => ?_)
    obtain ⟨ri_3, eri_3⟩ : ∃ zz9, zz9 = us ri 20 (us (ri 20) 0 0) := ⟨_, rfl⟩
    have fri_3 : ∀ zk, zk ≠ 20 → ri_3 zk = ri zk := fun zk hzk => by rw [eri_3, us_n _ _ hzk]
    have gri_3 : ri_3 20 = us (ri 20) 0 0 := by rw [eri_3, us_s]
    have xri_3 : ri_3 20 0 = 0 ∧ ri_3 20 1 = ri 20 1 ∧ ri_3 20 2 = ri 20 2 ∧ ri_3 20 3 = ri 20 3 ∧ ri_3 20 4 = ri 20 4 ∧ ri_3 20 5 = ri 20 5 ∧ ri_3 20 6 = ri 20 6 := by rw [gri_3]; exact ⟨us_s _ _ _, us_n _ _ (by decide), us_n _ _ (by decide), us_n _ _ (by decide), us_n _ _ (by decide), us_n _ _ (by decide), us_n _ _ (by decide)⟩
    replace h : sT Γ s (rW Γ r ri_3 rl wr) H locs := by rw [eri_3]; exact h
    have hss : sS ri ri_3 (ri 20 1) := sS.of (fri_3 0 (by decide)) (fri_3 1 (by decide)) (fri_3 2 (by decide)) (fri_3 3 (by decide))
    refine lv_aload_n C.x C.b dc_M_many_17 rfl (lv_at hl 0 rfl) ?_
    refine rg_get C h 0 rfl rfl in_M 0 (by decide) fl_M_54 rfl dc_M_many_18 ?_
    refine tp_i (y := nI 0) (by rw [show ri_3 20 0 = 0 by omega]) ?_
    refine bz_le (tgt := 28) C (by omega) dc_M_many_21 (by decide) (fun q21 => ?_) (fun q21 => absurd q21 (by decide))
    refine lv_aload_n C.x C.b dc_M_many_28 rfl (lv_at hl 0 rfl) ?_
    refine lv_iconst (v := (nI 4)) C.x C.b dc_M_many_29 (by decide +kernel) ?_
    refine lv_iload_n C.x C.b dc_M_many_30 rfl (lv_at hl 1 rfl) ?_
    refine lv_iload_n C.x C.b dc_M_many_31 rfl (lv_at hl 1 rfl) ?_
    refine lv_iconst (v := (nI 0)) C.x C.b dc_M_many_32 (by decide +kernel) ?_
    refine kv_V (As := [.int (nI 4), .int (nI i), .int (nI i), .int (nI 0)]) (rest := []) C h hl.1 (c_M_make l Γ r ri_3 rl wr 4 i i 0 (hS.of (by omega) hss) (jN (rT ri i) (ri 1 i)) (by
      have kk9 := rk_N (hss.rok hi (hS.2 _ hi).1)
      try rw [hss.tab hi (hS.2 _ hi).1.2.2.1] at kk9
      try rw [(hss _ hi).2.1] at kk9
      exact kk9) (Or.inl (by omega)) (Or.inl (by omega))) mw_M_make lk_M_111 (q0 := 0) rfl rfl rfl (by decide) (by decide) (Nat.le_of_ble_eq_true rfl) dc_M_many_33 (fun v u H locs hp h => ?_)
    obtain ⟨rn, rfl⟩ : ∃ zz9, zz9 = u := ⟨_, rfl⟩
    obtain ⟨xv, hxv⟩ : ∃ x, v = some (Value.int x) := by
      rcases hp with z9 | z9
      · exact ⟨_, z9.2.1⟩
      · exact ⟨_, z9.2.2.1⟩
    subst hxv
    replace h : sT Γ s (rW Γ r rn rl wr) _ _ := h
    refine W.eq (g2 := F0 m 36 ls [.int xv]) rfl ?_
    rw [hQ]
    exact rt_i C rn h (Or.inr ⟨i, ⟨hi, rfl⟩, mkF.of hp (by omega) (by omega) hss⟩) dc_M_many_36

abbrev rm_M_contrary : Room := { frames := 5, cells := 0, slots := 0, locals := 120 }
set_option maxRecDepth 100000 in
set_option maxHeartbeats 4000000 in
theorem c_M_contrary (l : Launch) (Γ : gG) (r : Nat → Nat) (ri : Nat → Nat → Nat) (rl : Nat → Nat → Int64) (wr : va_W) (pp : Int32) (hS : RS ri) : cT l Γ my_M_contrary bc_M_contrary 2 (some .int) rm_M_contrary [.ref (r 0), .int pp] (rW Γ r ri rl wr) (S := Nat → Nat → Nat) (fun v u => (¬ (∃ i, i < ri 20 1 ∧ pp = nI i) ∧ rbad 1 ri v u) ∨ ∃ i, (i < ri 20 1 ∧ pp = nI i) ∧ mkF 2 ri (jC (rT ri i) (ri 1 i)) v u) (fun u => rW Γ r u rl wr) := by
  refine cT.start (by decide) (Nat.le_of_ble_eq_true rfl) (fun p e s m args below meth c ls Q hQ C hmn h hl => ?_)
  replace hl : lv_has ls 2 [(0, .ref (r 0)), (1, .int pp)] := hl
  have hS80 := hS.1
  refine lv_aload_n C.x C.b dc_M_contrary_0 rfl (lv_at hl 0 rfl) ?_
  refine lv_aload_n C.x C.b dc_M_contrary_1 rfl (lv_at hl 0 rfl) ?_
  refine lv_iload_n C.x C.b dc_M_contrary_2 rfl (lv_at hl 1 rfl) ?_
  refine kv_V (As := [.int pp]) (rest := [.ref (r 0)]) C h hl.1 (c_M_isSet l Γ r ri rl wr pp (by omega)) mw_M_isSet lk_M_115 (q0 := 0) rfl rfl rfl (by decide) (by decide) (Nat.le_of_ble_eq_true rfl) dc_M_contrary_3 (fun v u H locs hp h => ?_)
  obtain ⟨bs_1, rfl⟩ : ∃ zz9, zz9 = u := ⟨_, rfl⟩
  obtain ⟨rfl, hbs_1⟩ := hp
  replace h : sT Γ s (rW Γ r ri rl wr) _ _ := h
  refine W.eq (g2 := F0 m 6 ls [.int (bI bs_1), .ref (r 0)]) rfl ?_
  refine bb_eq (tgt := 13) C dc_M_contrary_6 (by decide) (fun q6 => ?_) (fun q6 => ?_)
  · refine lv_iconst (v := (nI 1)) C.x C.b dc_M_contrary_13 (by decide +kernel) ?_
    refine rg_put (ty := .int) C h 0 rfl rfl in_M tk_M nm_M 0 (by decide) fl_M_54 rfl (by decide +kernel) rfl rfl (by simp) dc_M_contrary_14 (fun H locs h => ?_)
    obtain ⟨ri_2, eri_2⟩ : ∃ zz9, zz9 = us ri 20 (us (ri 20) 0 1) := ⟨_, rfl⟩
    have fri_2 : ∀ zk, zk ≠ 20 → ri_2 zk = ri zk := fun zk hzk => by rw [eri_2, us_n _ _ hzk]
    have gri_2 : ri_2 20 = us (ri 20) 0 1 := by rw [eri_2, us_s]
    have xri_2 : ri_2 20 0 = 1 ∧ ri_2 20 1 = ri 20 1 ∧ ri_2 20 2 = ri 20 2 ∧ ri_2 20 3 = ri 20 3 ∧ ri_2 20 4 = ri 20 4 ∧ ri_2 20 5 = ri 20 5 ∧ ri_2 20 6 = ri 20 6 := by rw [gri_2]; exact ⟨us_s _ _ _, us_n _ _ (by decide), us_n _ _ (by decide), us_n _ _ (by decide), us_n _ _ (by decide), us_n _ _ (by decide), us_n _ _ (by decide)⟩
    replace h : sT Γ s (rW Γ r ri_2 rl wr) H locs := by rw [eri_2]; exact h
    have hss : sS ri ri_2 (ri 20 1) := sS.of (fri_2 0 (by decide)) (fri_2 1 (by decide)) (fri_2 2 (by decide)) (fri_2 3 (by decide))
    refine lv_aload_n C.x C.b dc_M_contrary_17 rfl (lv_at hl 0 rfl) ?_
    refine rg_get C h 0 rfl rfl in_M 0 (by decide) fl_M_54 rfl dc_M_contrary_18 ?_
    refine tp_i (y := nI 1) (by rw [show ri_2 20 0 = 1 by omega]) ?_
    refine bz_le (tgt := 28) C (by omega) dc_M_contrary_21 (by decide) (fun q21 => absurd q21 (by decide)) (fun q21 => ?_)
    refine lv_iconst (v := (nI 0)) C.x C.b dc_M_contrary_24 (by decide +kernel) ?_
    refine lv_goto (tgt := 36) C.x C.b dc_M_contrary_25 (by decide) ?_
    rw [hQ]
    exact rt_i C ri_2 h (Or.inl ⟨fun z => by first | (obtain ⟨i, a, c⟩ := z; rw [hbs_1.mpr ⟨i, a, c⟩] at q6; exact Bool.noConfusion q6), by omega, ⟨_, rfl⟩, by omega, hss⟩) dc_M_contrary_36
  · refine lv_iconst (v := (nI 0)) C.x C.b dc_M_contrary_9 (by decide +kernel) ?_
    refine lv_goto (tgt := 14) C.x C.b dc_M_contrary_10 (by decide) ?_
    obtain ⟨i, hi, ei⟩ := hbs_1.mp q6
    subst ei
    refine rg_put (ty := .int) C h 0 rfl rfl in_M tk_M nm_M 0 (by decide) fl_M_54 rfl (by decide +kernel) rfl rfl (by simp) dc_M_contrary_14 (fun H locs h => ?_)
    obtain ⟨ri_3, eri_3⟩ : ∃ zz9, zz9 = us ri 20 (us (ri 20) 0 0) := ⟨_, rfl⟩
    have fri_3 : ∀ zk, zk ≠ 20 → ri_3 zk = ri zk := fun zk hzk => by rw [eri_3, us_n _ _ hzk]
    have gri_3 : ri_3 20 = us (ri 20) 0 0 := by rw [eri_3, us_s]
    have xri_3 : ri_3 20 0 = 0 ∧ ri_3 20 1 = ri 20 1 ∧ ri_3 20 2 = ri 20 2 ∧ ri_3 20 3 = ri 20 3 ∧ ri_3 20 4 = ri 20 4 ∧ ri_3 20 5 = ri 20 5 ∧ ri_3 20 6 = ri 20 6 := by rw [gri_3]; exact ⟨us_s _ _ _, us_n _ _ (by decide), us_n _ _ (by decide), us_n _ _ (by decide), us_n _ _ (by decide), us_n _ _ (by decide), us_n _ _ (by decide)⟩
    replace h : sT Γ s (rW Γ r ri_3 rl wr) H locs := by rw [eri_3]; exact h
    have hss : sS ri ri_3 (ri 20 1) := sS.of (fri_3 0 (by decide)) (fri_3 1 (by decide)) (fri_3 2 (by decide)) (fri_3 3 (by decide))
    refine lv_aload_n C.x C.b dc_M_contrary_17 rfl (lv_at hl 0 rfl) ?_
    refine rg_get C h 0 rfl rfl in_M 0 (by decide) fl_M_54 rfl dc_M_contrary_18 ?_
    refine tp_i (y := nI 0) (by rw [show ri_3 20 0 = 0 by omega]) ?_
    refine bz_le (tgt := 28) C (by omega) dc_M_contrary_21 (by decide) (fun q21 => ?_) (fun q21 => absurd q21 (by decide))
    refine lv_aload_n C.x C.b dc_M_contrary_28 rfl (lv_at hl 0 rfl) ?_
    refine lv_iconst (v := (nI 5)) C.x C.b dc_M_contrary_29 (by decide +kernel) ?_
    refine lv_iload_n C.x C.b dc_M_contrary_30 rfl (lv_at hl 1 rfl) ?_
    refine lv_iload_n C.x C.b dc_M_contrary_31 rfl (lv_at hl 1 rfl) ?_
    refine lv_iconst (v := (nI 0)) C.x C.b dc_M_contrary_32 (by decide +kernel) ?_
    refine kv_V (As := [.int (nI 5), .int (nI i), .int (nI i), .int (nI 0)]) (rest := []) C h hl.1 (c_M_make l Γ r ri_3 rl wr 5 i i 0 (hS.of (by omega) hss) (jC (rT ri i) (ri 1 i)) (by
      have kk9 := rk_C (hss.rok hi (hS.2 _ hi).1)
      try rw [hss.tab hi (hS.2 _ hi).1.2.2.1] at kk9
      try rw [(hss _ hi).2.1] at kk9
      exact kk9) (Or.inl (by omega)) (Or.inl (by omega))) mw_M_make lk_M_111 (q0 := 0) rfl rfl rfl (by decide) (by decide) (Nat.le_of_ble_eq_true rfl) dc_M_contrary_33 (fun v u H locs hp h => ?_)
    obtain ⟨rn, rfl⟩ : ∃ zz9, zz9 = u := ⟨_, rfl⟩
    obtain ⟨xv, hxv⟩ : ∃ x, v = some (Value.int x) := by
      rcases hp with z9 | z9
      · exact ⟨_, z9.2.1⟩
      · exact ⟨_, z9.2.2.1⟩
    subst hxv
    replace h : sT Γ s (rW Γ r rn rl wr) _ _ := h
    refine W.eq (g2 := F0 m 36 ls [.int xv]) rfl ?_
    rw [hQ]
    exact rt_i C rn h (Or.inr ⟨i, ⟨hi, rfl⟩, mkF.of hp (by omega) (by omega) hss⟩) dc_M_contrary_36

abbrev rm_M_back : Room := { frames := 5, cells := 0, slots := 0, locals := 120 }
set_option maxRecDepth 100000 in
set_option maxHeartbeats 4000000 in
theorem c_M_back (l : Launch) (Γ : gG) (r : Nat → Nat) (ri : Nat → Nat → Nat) (rl : Nat → Nat → Int64) (wr : va_W) (pp : Int32) (hS : RS ri) : cT l Γ my_M_back bc_M_back 2 (some .int) rm_M_back [.ref (r 0), .int pp] (rW Γ r ri rl wr) (S := Nat → Nat → Nat) (fun v u => (¬ (∃ i, i < ri 20 1 ∧ pp = nI i) ∧ rbad 1 ri v u) ∨ ∃ i, (i < ri 20 1 ∧ pp = nI i) ∧ mkF 2 ri (jK (rT ri i) (ri 1 i)) v u) (fun u => rW Γ r u rl wr) := by
  refine cT.start (by decide) (Nat.le_of_ble_eq_true rfl) (fun p e s m args below meth c ls Q hQ C hmn h hl => ?_)
  replace hl : lv_has ls 2 [(0, .ref (r 0)), (1, .int pp)] := hl
  have hS80 := hS.1
  refine lv_aload_n C.x C.b dc_M_back_0 rfl (lv_at hl 0 rfl) ?_
  refine lv_aload_n C.x C.b dc_M_back_1 rfl (lv_at hl 0 rfl) ?_
  refine lv_iload_n C.x C.b dc_M_back_2 rfl (lv_at hl 1 rfl) ?_
  refine kv_V (As := [.int pp]) (rest := [.ref (r 0)]) C h hl.1 (c_M_isSet l Γ r ri rl wr pp (by omega)) mw_M_isSet lk_M_115 (q0 := 0) rfl rfl rfl (by decide) (by decide) (Nat.le_of_ble_eq_true rfl) dc_M_back_3 (fun v u H locs hp h => ?_)
  obtain ⟨bs_1, rfl⟩ : ∃ zz9, zz9 = u := ⟨_, rfl⟩
  obtain ⟨rfl, hbs_1⟩ := hp
  replace h : sT Γ s (rW Γ r ri rl wr) _ _ := h
  refine W.eq (g2 := F0 m 6 ls [.int (bI bs_1), .ref (r 0)]) rfl ?_
  refine bb_eq (tgt := 13) C dc_M_back_6 (by decide) (fun q6 => ?_) (fun q6 => ?_)
  · refine lv_iconst (v := (nI 1)) C.x C.b dc_M_back_13 (by decide +kernel) ?_
    refine rg_put (ty := .int) C h 0 rfl rfl in_M tk_M nm_M 0 (by decide) fl_M_54 rfl (by decide +kernel) rfl rfl (by simp) dc_M_back_14 (fun H locs h => ?_)
    obtain ⟨ri_2, eri_2⟩ : ∃ zz9, zz9 = us ri 20 (us (ri 20) 0 1) := ⟨_, rfl⟩
    have fri_2 : ∀ zk, zk ≠ 20 → ri_2 zk = ri zk := fun zk hzk => by rw [eri_2, us_n _ _ hzk]
    have gri_2 : ri_2 20 = us (ri 20) 0 1 := by rw [eri_2, us_s]
    have xri_2 : ri_2 20 0 = 1 ∧ ri_2 20 1 = ri 20 1 ∧ ri_2 20 2 = ri 20 2 ∧ ri_2 20 3 = ri 20 3 ∧ ri_2 20 4 = ri 20 4 ∧ ri_2 20 5 = ri 20 5 ∧ ri_2 20 6 = ri 20 6 := by rw [gri_2]; exact ⟨us_s _ _ _, us_n _ _ (by decide), us_n _ _ (by decide), us_n _ _ (by decide), us_n _ _ (by decide), us_n _ _ (by decide), us_n _ _ (by decide)⟩
    replace h : sT Γ s (rW Γ r ri_2 rl wr) H locs := by rw [eri_2]; exact h
    have hss : sS ri ri_2 (ri 20 1) := sS.of (fri_2 0 (by decide)) (fri_2 1 (by decide)) (fri_2 2 (by decide)) (fri_2 3 (by decide))
    refine lv_aload_n C.x C.b dc_M_back_17 rfl (lv_at hl 0 rfl) ?_
    refine rg_get C h 0 rfl rfl in_M 0 (by decide) fl_M_54 rfl dc_M_back_18 ?_
    refine tp_i (y := nI 1) (by rw [show ri_2 20 0 = 1 by omega]) ?_
    refine bz_le (tgt := 28) C (by omega) dc_M_back_21 (by decide) (fun q21 => absurd q21 (by decide)) (fun q21 => ?_)
    refine lv_iconst (v := (nI 0)) C.x C.b dc_M_back_24 (by decide +kernel) ?_
    refine lv_goto (tgt := 37) C.x C.b dc_M_back_25 (by decide) ?_
    rw [hQ]
    exact rt_i C ri_2 h (Or.inl ⟨fun z => by first | (obtain ⟨i, a, c⟩ := z; rw [hbs_1.mpr ⟨i, a, c⟩] at q6; exact Bool.noConfusion q6), by omega, ⟨_, rfl⟩, by omega, hss⟩) dc_M_back_37
  · refine lv_iconst (v := (nI 0)) C.x C.b dc_M_back_9 (by decide +kernel) ?_
    refine lv_goto (tgt := 14) C.x C.b dc_M_back_10 (by decide) ?_
    obtain ⟨i, hi, ei⟩ := hbs_1.mp q6
    subst ei
    refine rg_put (ty := .int) C h 0 rfl rfl in_M tk_M nm_M 0 (by decide) fl_M_54 rfl (by decide +kernel) rfl rfl (by simp) dc_M_back_14 (fun H locs h => ?_)
    obtain ⟨ri_3, eri_3⟩ : ∃ zz9, zz9 = us ri 20 (us (ri 20) 0 0) := ⟨_, rfl⟩
    have fri_3 : ∀ zk, zk ≠ 20 → ri_3 zk = ri zk := fun zk hzk => by rw [eri_3, us_n _ _ hzk]
    have gri_3 : ri_3 20 = us (ri 20) 0 0 := by rw [eri_3, us_s]
    have xri_3 : ri_3 20 0 = 0 ∧ ri_3 20 1 = ri 20 1 ∧ ri_3 20 2 = ri 20 2 ∧ ri_3 20 3 = ri 20 3 ∧ ri_3 20 4 = ri 20 4 ∧ ri_3 20 5 = ri 20 5 ∧ ri_3 20 6 = ri 20 6 := by rw [gri_3]; exact ⟨us_s _ _ _, us_n _ _ (by decide), us_n _ _ (by decide), us_n _ _ (by decide), us_n _ _ (by decide), us_n _ _ (by decide), us_n _ _ (by decide)⟩
    replace h : sT Γ s (rW Γ r ri_3 rl wr) H locs := by rw [eri_3]; exact h
    have hss : sS ri ri_3 (ri 20 1) := sS.of (fri_3 0 (by decide)) (fri_3 1 (by decide)) (fri_3 2 (by decide)) (fri_3 3 (by decide))
    refine lv_aload_n C.x C.b dc_M_back_17 rfl (lv_at hl 0 rfl) ?_
    refine rg_get C h 0 rfl rfl in_M 0 (by decide) fl_M_54 rfl dc_M_back_18 ?_
    refine tp_i (y := nI 0) (by rw [show ri_3 20 0 = 0 by omega]) ?_
    refine bz_le (tgt := 28) C (by omega) dc_M_back_21 (by decide) (fun q21 => ?_) (fun q21 => absurd q21 (by decide))
    refine lv_aload_n C.x C.b dc_M_back_28 rfl (lv_at hl 0 rfl) ?_
    refine lv_bipush (v := (nI 6)) C.x C.b dc_M_back_29 (by decide +kernel) ?_
    refine lv_iload_n C.x C.b dc_M_back_31 rfl (lv_at hl 1 rfl) ?_
    refine lv_iload_n C.x C.b dc_M_back_32 rfl (lv_at hl 1 rfl) ?_
    refine lv_iconst (v := (nI 0)) C.x C.b dc_M_back_33 (by decide +kernel) ?_
    refine kv_V (As := [.int (nI 6), .int (nI i), .int (nI i), .int (nI 0)]) (rest := []) C h hl.1 (c_M_make l Γ r ri_3 rl wr 6 i i 0 (hS.of (by omega) hss) (jK (rT ri i) (ri 1 i)) (by
      have kk9 := rk_K (hss.rok hi (hS.2 _ hi).1)
      try rw [hss.tab hi (hS.2 _ hi).1.2.2.1] at kk9
      try rw [(hss _ hi).2.1] at kk9
      exact kk9) (Or.inl (by omega)) (Or.inl (by omega))) mw_M_make lk_M_111 (q0 := 0) rfl rfl rfl (by decide) (by decide) (Nat.le_of_ble_eq_true rfl) dc_M_back_34 (fun v u H locs hp h => ?_)
    obtain ⟨rn, rfl⟩ : ∃ zz9, zz9 = u := ⟨_, rfl⟩
    obtain ⟨xv, hxv⟩ : ∃ x, v = some (Value.int x) := by
      rcases hp with z9 | z9
      · exact ⟨_, z9.2.1⟩
      · exact ⟨_, z9.2.2.1⟩
    subst hxv
    replace h : sT Γ s (rW Γ r rn rl wr) _ _ := h
    refine W.eq (g2 := F0 m 37 ls [.int xv]) rfl ?_
    rw [hQ]
    exact rt_i C rn h (Or.inr ⟨i, ⟨hi, rfl⟩, mkF.of hp (by omega) (by omega) hss⟩) dc_M_back_37

abbrev rm_M_rest : Room := { frames := 5, cells := 0, slots := 0, locals := 120 }
set_option maxRecDepth 100000 in
set_option maxHeartbeats 4000000 in
theorem c_M_rest (l : Launch) (Γ : gG) (r : Nat → Nat) (ri : Nat → Nat → Nat) (rl : Nat → Nat → Int64) (wr : va_W) (pp ll : Int32) (hS : RS ri) : cT l Γ my_M_rest bc_M_rest 3 (some .int) rm_M_rest [.ref (r 0), .int pp, .int ll] (rW Γ r ri rl wr) (S := Nat → Nat → Nat) (fun v u => (¬ (∃ i lt, i < ri 20 1 ∧ lt < 3 ∧ pp = nI i ∧ ll = nI lt) ∧ rbad 1 ri v u) ∨ ∃ i lt, (i < ri 20 1 ∧ lt < 3 ∧ pp = nI i ∧ ll = nI lt) ∧ mkF 2 ri (jR (rT ri i) (ri 1 i) lt) v u) (fun u => rW Γ r u rl wr) := by
  refine cT.start (by decide) (Nat.le_of_ble_eq_true rfl) (fun p e s m args below meth c ls Q hQ C hmn h hl => ?_)
  replace hl : lv_has ls 3 [(0, .ref (r 0)), (1, .int pp), (2, .int ll)] := hl
  have hS80 := hS.1
  refine lv_aload_n C.x C.b dc_M_rest_0 rfl (lv_at hl 0 rfl) ?_
  refine lv_aload_n C.x C.b dc_M_rest_1 rfl (lv_at hl 0 rfl) ?_
  refine lv_iload_n C.x C.b dc_M_rest_2 rfl (lv_at hl 1 rfl) ?_
  refine kv_V (As := [.int pp]) (rest := [.ref (r 0)]) C h hl.1 (c_M_isSet l Γ r ri rl wr pp (by omega)) mw_M_isSet lk_M_115 (q0 := 0) rfl rfl rfl (by decide) (by decide) (Nat.le_of_ble_eq_true rfl) dc_M_rest_3 (fun v u H locs hp h => ?_)
  obtain ⟨bs_1, rfl⟩ : ∃ zz9, zz9 = u := ⟨_, rfl⟩
  obtain ⟨rfl, hbs_1⟩ := hp
  replace h : sT Γ s (rW Γ r ri rl wr) _ _ := h
  refine W.eq (g2 := F0 m 6 ls [.int (bI bs_1), .ref (r 0)]) rfl ?_
  refine bb_eq (tgt := 22) C dc_M_rest_6 (by decide) (fun q6 => ?_) (fun q6 => ?_)
  · refine lv_iconst (v := (nI 1)) C.x C.b dc_M_rest_22 (by decide +kernel) ?_
    refine rg_put (ty := .int) C h 0 rfl rfl in_M tk_M nm_M 0 (by decide) fl_M_54 rfl (by decide +kernel) rfl rfl (by simp) dc_M_rest_23 (fun H locs h => ?_)
    obtain ⟨ri_2, eri_2⟩ : ∃ zz9, zz9 = us ri 20 (us (ri 20) 0 1) := ⟨_, rfl⟩
    have fri_2 : ∀ zk, zk ≠ 20 → ri_2 zk = ri zk := fun zk hzk => by rw [eri_2, us_n _ _ hzk]
    have gri_2 : ri_2 20 = us (ri 20) 0 1 := by rw [eri_2, us_s]
    have xri_2 : ri_2 20 0 = 1 ∧ ri_2 20 1 = ri 20 1 ∧ ri_2 20 2 = ri 20 2 ∧ ri_2 20 3 = ri 20 3 ∧ ri_2 20 4 = ri 20 4 ∧ ri_2 20 5 = ri 20 5 ∧ ri_2 20 6 = ri 20 6 := by rw [gri_2]; exact ⟨us_s _ _ _, us_n _ _ (by decide), us_n _ _ (by decide), us_n _ _ (by decide), us_n _ _ (by decide), us_n _ _ (by decide), us_n _ _ (by decide)⟩
    replace h : sT Γ s (rW Γ r ri_2 rl wr) H locs := by rw [eri_2]; exact h
    have hss : sS ri ri_2 (ri 20 1) := sS.of (fri_2 0 (by decide)) (fri_2 1 (by decide)) (fri_2 2 (by decide)) (fri_2 3 (by decide))
    refine lv_aload_n C.x C.b dc_M_rest_26 rfl (lv_at hl 0 rfl) ?_
    refine rg_get C h 0 rfl rfl in_M 0 (by decide) fl_M_54 rfl dc_M_rest_27 ?_
    refine tp_i (y := nI 1) (by rw [show ri_2 20 0 = 1 by omega]) ?_
    refine bz_le (tgt := 37) C (by omega) dc_M_rest_30 (by decide) (fun q30 => absurd q30 (by decide)) (fun q30 => ?_)
    refine lv_iconst (v := (nI 0)) C.x C.b dc_M_rest_33 (by decide +kernel) ?_
    refine lv_goto (tgt := 46) C.x C.b dc_M_rest_34 (by decide) ?_
    rw [hQ]
    exact rt_i C ri_2 h (Or.inl ⟨fun z => by first | (obtain ⟨i, lt, a, hb, c, e⟩ := z; subst e; exact nI_pos (by omega) q10) | (obtain ⟨i, lt, a, hb, c, e⟩ := z; subst e; exact absurd (nI_lt hb (by decide)) (Int32.not_lt.mpr q15)) | (obtain ⟨i, lt, a, hb, c, e⟩ := z; rw [hbs_1.mpr ⟨i, a, c⟩] at q6; exact Bool.noConfusion q6), by omega, ⟨_, rfl⟩, by omega, hss⟩) dc_M_rest_46
  · refine lv_iload_n C.x C.b dc_M_rest_9 rfl (lv_at hl 2 rfl) ?_
    refine lv_if_lt (tgt := 22) C.x C.b dc_M_rest_10 (by decide) (fun q10 => ?_) (fun q10 => ?_)
    · refine lv_iconst (v := (nI 1)) C.x C.b dc_M_rest_22 (by decide +kernel) ?_
      refine rg_put (ty := .int) C h 0 rfl rfl in_M tk_M nm_M 0 (by decide) fl_M_54 rfl (by decide +kernel) rfl rfl (by simp) dc_M_rest_23 (fun H locs h => ?_)
      obtain ⟨ri_3, eri_3⟩ : ∃ zz9, zz9 = us ri 20 (us (ri 20) 0 1) := ⟨_, rfl⟩
      have fri_3 : ∀ zk, zk ≠ 20 → ri_3 zk = ri zk := fun zk hzk => by rw [eri_3, us_n _ _ hzk]
      have gri_3 : ri_3 20 = us (ri 20) 0 1 := by rw [eri_3, us_s]
      have xri_3 : ri_3 20 0 = 1 ∧ ri_3 20 1 = ri 20 1 ∧ ri_3 20 2 = ri 20 2 ∧ ri_3 20 3 = ri 20 3 ∧ ri_3 20 4 = ri 20 4 ∧ ri_3 20 5 = ri 20 5 ∧ ri_3 20 6 = ri 20 6 := by rw [gri_3]; exact ⟨us_s _ _ _, us_n _ _ (by decide), us_n _ _ (by decide), us_n _ _ (by decide), us_n _ _ (by decide), us_n _ _ (by decide), us_n _ _ (by decide)⟩
      replace h : sT Γ s (rW Γ r ri_3 rl wr) H locs := by rw [eri_3]; exact h
      have hss : sS ri ri_3 (ri 20 1) := sS.of (fri_3 0 (by decide)) (fri_3 1 (by decide)) (fri_3 2 (by decide)) (fri_3 3 (by decide))
      refine lv_aload_n C.x C.b dc_M_rest_26 rfl (lv_at hl 0 rfl) ?_
      refine rg_get C h 0 rfl rfl in_M 0 (by decide) fl_M_54 rfl dc_M_rest_27 ?_
      refine tp_i (y := nI 1) (by rw [show ri_3 20 0 = 1 by omega]) ?_
      refine bz_le (tgt := 37) C (by omega) dc_M_rest_30 (by decide) (fun q30 => absurd q30 (by decide)) (fun q30 => ?_)
      refine lv_iconst (v := (nI 0)) C.x C.b dc_M_rest_33 (by decide +kernel) ?_
      refine lv_goto (tgt := 46) C.x C.b dc_M_rest_34 (by decide) ?_
      rw [hQ]
      exact rt_i C ri_3 h (Or.inl ⟨fun z => by first | (obtain ⟨i, lt, a, hb, c, e⟩ := z; subst e; exact nI_pos (by omega) q10) | (obtain ⟨i, lt, a, hb, c, e⟩ := z; subst e; exact absurd (nI_lt hb (by decide)) (Int32.not_lt.mpr q15)) | (obtain ⟨i, lt, a, hb, c, e⟩ := z; rw [hbs_1.mpr ⟨i, a, c⟩] at q6; exact Bool.noConfusion q6), by omega, ⟨_, rfl⟩, by omega, hss⟩) dc_M_rest_46
    · refine lv_iload_n C.x C.b dc_M_rest_13 rfl (lv_at hl 2 rfl) ?_
      refine lv_iconst (v := (nI 3)) C.x C.b dc_M_rest_14 (by decide +kernel) ?_
      refine lv_icmp_ge (tgt := 22) C.x C.b dc_M_rest_15 (by decide) (fun q15 => ?_) (fun q15 => ?_)
      · refine lv_iconst (v := (nI 1)) C.x C.b dc_M_rest_22 (by decide +kernel) ?_
        refine rg_put (ty := .int) C h 0 rfl rfl in_M tk_M nm_M 0 (by decide) fl_M_54 rfl (by decide +kernel) rfl rfl (by simp) dc_M_rest_23 (fun H locs h => ?_)
        obtain ⟨ri_4, eri_4⟩ : ∃ zz9, zz9 = us ri 20 (us (ri 20) 0 1) := ⟨_, rfl⟩
        have fri_4 : ∀ zk, zk ≠ 20 → ri_4 zk = ri zk := fun zk hzk => by rw [eri_4, us_n _ _ hzk]
        have gri_4 : ri_4 20 = us (ri 20) 0 1 := by rw [eri_4, us_s]
        have xri_4 : ri_4 20 0 = 1 ∧ ri_4 20 1 = ri 20 1 ∧ ri_4 20 2 = ri 20 2 ∧ ri_4 20 3 = ri 20 3 ∧ ri_4 20 4 = ri 20 4 ∧ ri_4 20 5 = ri 20 5 ∧ ri_4 20 6 = ri 20 6 := by rw [gri_4]; exact ⟨us_s _ _ _, us_n _ _ (by decide), us_n _ _ (by decide), us_n _ _ (by decide), us_n _ _ (by decide), us_n _ _ (by decide), us_n _ _ (by decide)⟩
        replace h : sT Γ s (rW Γ r ri_4 rl wr) H locs := by rw [eri_4]; exact h
        have hss : sS ri ri_4 (ri 20 1) := sS.of (fri_4 0 (by decide)) (fri_4 1 (by decide)) (fri_4 2 (by decide)) (fri_4 3 (by decide))
        refine lv_aload_n C.x C.b dc_M_rest_26 rfl (lv_at hl 0 rfl) ?_
        refine rg_get C h 0 rfl rfl in_M 0 (by decide) fl_M_54 rfl dc_M_rest_27 ?_
        refine tp_i (y := nI 1) (by rw [show ri_4 20 0 = 1 by omega]) ?_
        refine bz_le (tgt := 37) C (by omega) dc_M_rest_30 (by decide) (fun q30 => absurd q30 (by decide)) (fun q30 => ?_)
        refine lv_iconst (v := (nI 0)) C.x C.b dc_M_rest_33 (by decide +kernel) ?_
        refine lv_goto (tgt := 46) C.x C.b dc_M_rest_34 (by decide) ?_
        rw [hQ]
        exact rt_i C ri_4 h (Or.inl ⟨fun z => by first | (obtain ⟨i, lt, a, hb, c, e⟩ := z; subst e; exact nI_pos (by omega) q10) | (obtain ⟨i, lt, a, hb, c, e⟩ := z; subst e; exact absurd (nI_lt hb (by decide)) (Int32.not_lt.mpr q15)) | (obtain ⟨i, lt, a, hb, c, e⟩ := z; rw [hbs_1.mpr ⟨i, a, c⟩] at q6; exact Bool.noConfusion q6), by omega, ⟨_, rfl⟩, by omega, hss⟩) dc_M_rest_46
      · refine lv_iconst (v := (nI 0)) C.x C.b dc_M_rest_18 (by decide +kernel) ?_
        refine lv_goto (tgt := 23) C.x C.b dc_M_rest_19 (by decide) ?_
        obtain ⟨i, hi, ei⟩ := hbs_1.mp q6
        subst ei
        obtain ⟨lt, hlt, elt⟩ : ∃ lt, lt < 3 ∧ ll = nI lt := by
          rcases pk_ix ll (n := 3) (by decide) with z | z | z
          · exact absurd z q10
          · exact absurd z q15
          · exact z
        subst elt
        refine rg_put (ty := .int) C h 0 rfl rfl in_M tk_M nm_M 0 (by decide) fl_M_54 rfl (by decide +kernel) rfl rfl (by simp) dc_M_rest_23 (fun H locs h => ?_)
        obtain ⟨ri_5, eri_5⟩ : ∃ zz9, zz9 = us ri 20 (us (ri 20) 0 0) := ⟨_, rfl⟩
        have fri_5 : ∀ zk, zk ≠ 20 → ri_5 zk = ri zk := fun zk hzk => by rw [eri_5, us_n _ _ hzk]
        have gri_5 : ri_5 20 = us (ri 20) 0 0 := by rw [eri_5, us_s]
        have xri_5 : ri_5 20 0 = 0 ∧ ri_5 20 1 = ri 20 1 ∧ ri_5 20 2 = ri 20 2 ∧ ri_5 20 3 = ri 20 3 ∧ ri_5 20 4 = ri 20 4 ∧ ri_5 20 5 = ri 20 5 ∧ ri_5 20 6 = ri 20 6 := by rw [gri_5]; exact ⟨us_s _ _ _, us_n _ _ (by decide), us_n _ _ (by decide), us_n _ _ (by decide), us_n _ _ (by decide), us_n _ _ (by decide), us_n _ _ (by decide)⟩
        replace h : sT Γ s (rW Γ r ri_5 rl wr) H locs := by rw [eri_5]; exact h
        have hss : sS ri ri_5 (ri 20 1) := sS.of (fri_5 0 (by decide)) (fri_5 1 (by decide)) (fri_5 2 (by decide)) (fri_5 3 (by decide))
        refine lv_aload_n C.x C.b dc_M_rest_26 rfl (lv_at hl 0 rfl) ?_
        refine rg_get C h 0 rfl rfl in_M 0 (by decide) fl_M_54 rfl dc_M_rest_27 ?_
        refine tp_i (y := nI 0) (by rw [show ri_5 20 0 = 0 by omega]) ?_
        refine bz_le (tgt := 37) C (by omega) dc_M_rest_30 (by decide) (fun q30 => ?_) (fun q30 => absurd q30 (by decide))
        refine lv_aload_n C.x C.b dc_M_rest_37 rfl (lv_at hl 0 rfl) ?_
        refine lv_bipush (v := (nI 7)) C.x C.b dc_M_rest_38 (by decide +kernel) ?_
        refine lv_iload_n C.x C.b dc_M_rest_40 rfl (lv_at hl 1 rfl) ?_
        refine lv_iload_n C.x C.b dc_M_rest_41 rfl (lv_at hl 1 rfl) ?_
        refine lv_iload_n C.x C.b dc_M_rest_42 rfl (lv_at hl 2 rfl) ?_
        refine kv_V (As := [.int (nI 7), .int (nI i), .int (nI i), .int (nI lt)]) (rest := []) C h hl.1 (c_M_make l Γ r ri_5 rl wr 7 i i lt (hS.of (by omega) hss) (jR (rT ri i) (ri 1 i) lt) (by
          have kk9 := rk_R hlt (hss.rok hi (hS.2 _ hi).1)
          try rw [hss.tab hi (hS.2 _ hi).1.2.2.1] at kk9
          try rw [(hss _ hi).2.1] at kk9
          exact kk9) (Or.inl (by omega)) (Or.inl (by omega))) mw_M_make lk_M_111 (q0 := 0) rfl rfl rfl (by decide) (by decide) (Nat.le_of_ble_eq_true rfl) dc_M_rest_43 (fun v u H locs hp h => ?_)
        obtain ⟨rn, rfl⟩ : ∃ zz9, zz9 = u := ⟨_, rfl⟩
        obtain ⟨xv, hxv⟩ : ∃ x, v = some (Value.int x) := by
          rcases hp with z9 | z9
          · exact ⟨_, z9.2.1⟩
          · exact ⟨_, z9.2.2.1⟩
        subst hxv
        replace h : sT Γ s (rW Γ r rn rl wr) _ _ := h
        refine W.eq (g2 := F0 m 46 ls [.int xv]) rfl ?_
        rw [hQ]
        exact rt_i C rn h (Or.inr ⟨i, lt, ⟨hi, hlt, rfl, rfl⟩, mkF.of hp (by omega) (by omega) hss⟩) dc_M_rest_46

theorem mkE.ok {ri ri1 u : Nat → Nat → Nat} {K : mM} {v : Option Value} (h : mkR ri1 K v u) (h0 : ri1 20 0 = 0) (h1 : ri1 20 1 = ri 20 1) (hs : sS ri ri1 (ri 20 1)) (q : u 20 0 = 0) : mkF 1 ri K v u := by
  rcases mkF.of h h0 h1 hs with z | z
  · have := z.1; omega
  · exact Or.inr z
theorem mkE.full {ri ri1 u t : Nat → Nat → Nat} {K : mM} {v : Option Value} (h : mkR ri1 K v u) (h0 : ri1 20 0 = 0) (h1 : ri1 20 1 = ri 20 1) (hs : sS ri ri1 (ri 20 1)) (q : ¬ u 20 0 = 0) (f : ∀ zk, zk ≠ 20 → t zk = u zk) (t0 : t 20 0 = 1) (t1 : t 20 1 = u 20 1) : mkF 1 ri K v t := by
  rcases mkF.of h h0 h1 hs with ⟨a, b, c, d, e⟩ | z
  · exact Or.inl ⟨t0, b, c, t1.trans d, e.tr (sS.of (f 0 (by decide)) (f 1 (by decide)) (f 2 (by decide)) (f 3 (by decide)))⟩
  · exact absurd z.1 q
abbrev rm_M_empty : Room := { frames := 5, cells := 0, slots := 0, locals := 120 }
set_option maxRecDepth 100000 in
set_option maxHeartbeats 4000000 in
theorem c_M_empty (l : Launch) (Γ : gG) (r : Nat → Nat) (ri : Nat → Nat → Nat) (rl : Nat → Nat → Int64) (wr : va_W) (hS : RS ri) : cT l Γ my_M_empty bc_M_empty 2 (some .int) rm_M_empty [.ref (r 0)] (rW Γ r ri rl wr) (S := Nat → Nat → Nat) (fun v u => mkF 1 ri jE v u) (fun u => rW Γ r u rl wr) := by
  refine cT.start (by decide) (Nat.le_of_ble_eq_true rfl) (fun p e s m args below meth c ls Q hQ C hmn h hl => ?_)
  replace hl : lv_has ls 2 [(0, .ref (r 0))] := hl
  have hS80 := hS.1
  refine lv_aload_n C.x C.b dc_M_empty_0 rfl (lv_at hl 0 rfl) ?_
  refine lv_iconst (v := (nI 0)) C.x C.b dc_M_empty_1 (by decide +kernel) ?_
  refine rg_put (ty := .int) C h 0 rfl rfl in_M tk_M nm_M 0 (by decide) fl_M_54 rfl (by decide +kernel) rfl rfl (by simp) dc_M_empty_2 (fun H locs h => ?_)
  obtain ⟨ri_1, eri_1⟩ : ∃ zz9, zz9 = us ri 20 (us (ri 20) 0 0) := ⟨_, rfl⟩
  have fri_1 : ∀ zk, zk ≠ 20 → ri_1 zk = ri zk := fun zk hzk => by rw [eri_1, us_n _ _ hzk]
  have gri_1 : ri_1 20 = us (ri 20) 0 0 := by rw [eri_1, us_s]
  have xri_1 : ri_1 20 0 = 0 ∧ ri_1 20 1 = ri 20 1 ∧ ri_1 20 2 = ri 20 2 ∧ ri_1 20 3 = ri 20 3 ∧ ri_1 20 4 = ri 20 4 ∧ ri_1 20 5 = ri 20 5 ∧ ri_1 20 6 = ri 20 6 := by rw [gri_1]; exact ⟨us_s _ _ _, us_n _ _ (by decide), us_n _ _ (by decide), us_n _ _ (by decide), us_n _ _ (by decide), us_n _ _ (by decide), us_n _ _ (by decide)⟩
  replace h : sT Γ s (rW Γ r ri_1 rl wr) H locs := by rw [eri_1]; exact h
  have hss : sS ri ri_1 (ri 20 1) := sS.of (fri_1 0 (by decide)) (fri_1 1 (by decide)) (fri_1 2 (by decide)) (fri_1 3 (by decide))
  refine lv_aload_n C.x C.b dc_M_empty_5 rfl (lv_at hl 0 rfl) ?_
  refine lv_iconst (v := (nI 1)) C.x C.b dc_M_empty_6 (by decide +kernel) ?_
  refine lv_iconst (v := (nI 0)) C.x C.b dc_M_empty_7 (by decide +kernel) ?_
  refine lv_iconst (v := (nI 0)) C.x C.b dc_M_empty_8 (by decide +kernel) ?_
  refine lv_iconst (v := (nI 0)) C.x C.b dc_M_empty_9 (by decide +kernel) ?_
  refine kv_V (As := [.int (nI 1), .int (nI 0), .int (nI 0), .int (nI 0)]) (rest := []) C h hl.1 (c_M_make l Γ r ri_1 rl wr 1 0 0 0 (hS.of (by omega) hss) (jE) (rk_E) (Or.inr (by decide)) (Or.inr (by decide))) mw_M_make lk_M_111 (q0 := 0) rfl rfl rfl (by decide) (by decide) (Nat.le_of_ble_eq_true rfl) dc_M_empty_10 (fun v u H locs hp h => ?_)
  obtain ⟨rn, rfl⟩ : ∃ zz9, zz9 = u := ⟨_, rfl⟩
  obtain ⟨xv, hxv⟩ : ∃ x, v = some (Value.int x) := by
    rcases hp with z9 | z9
    · exact ⟨_, z9.2.1⟩
    · exact ⟨_, z9.2.2.1⟩
  subst hxv
  replace h : sT Γ s (rW Γ r rn rl wr) _ _ := h
  refine W.eq (g2 := F0 m 13 ls [.int xv]) rfl ?_
  refine lv_istore_n (lv' := [(1, .int xv), (0, .ref (r 0))]) C.x C.b dc_M_empty_13 rfl hl (by decide) rfl (fun ls hl => ?_)
  have hr20 : rn 20 0 ≤ 2 := hp.elim (fun z9 => by have := z9.1; omega) (fun z9 => by have := z9.1; omega)
  refine lv_aload_n C.x C.b dc_M_empty_14 rfl (lv_at hl 1 rfl) ?_
  refine rg_get C h 0 rfl rfl in_M 0 (by decide) fl_M_54 rfl dc_M_empty_15 ?_
  refine bz_le (tgt := 26) C (by omega) dc_M_empty_18 (by decide) (fun q18 => ?_) (fun q18 => ?_)
  · refine lv_iload_n C.x C.b dc_M_empty_26 rfl (lv_at hl 0 rfl) ?_
    rw [hQ]
    exact rt_i C rn h (mkE.ok hp (by omega) (by omega) hss q18) dc_M_empty_27
  · refine lv_aload_n C.x C.b dc_M_empty_21 rfl (lv_at hl 1 rfl) ?_
    refine lv_iconst (v := (nI 1)) C.x C.b dc_M_empty_22 (by decide +kernel) ?_
    refine rg_put (ty := .int) C h 0 rfl rfl in_M tk_M nm_M 0 (by decide) fl_M_54 rfl (by decide +kernel) rfl rfl (by simp) dc_M_empty_23 (fun H locs h => ?_)
    obtain ⟨ri_2, eri_2⟩ : ∃ zz9, zz9 = us rn 20 (us (rn 20) 0 1) := ⟨_, rfl⟩
    have fri_2 : ∀ zk, zk ≠ 20 → ri_2 zk = rn zk := fun zk hzk => by rw [eri_2, us_n _ _ hzk]
    have gri_2 : ri_2 20 = us (rn 20) 0 1 := by rw [eri_2, us_s]
    have xri_2 : ri_2 20 0 = 1 ∧ ri_2 20 1 = rn 20 1 ∧ ri_2 20 2 = rn 20 2 ∧ ri_2 20 3 = rn 20 3 ∧ ri_2 20 4 = rn 20 4 ∧ ri_2 20 5 = rn 20 5 ∧ ri_2 20 6 = rn 20 6 := by rw [gri_2]; exact ⟨us_s _ _ _, us_n _ _ (by decide), us_n _ _ (by decide), us_n _ _ (by decide), us_n _ _ (by decide), us_n _ _ (by decide), us_n _ _ (by decide)⟩
    replace h : sT Γ s (rW Γ r ri_2 rl wr) H locs := by rw [eri_2]; exact h
    refine lv_iload_n C.x C.b dc_M_empty_26 rfl (lv_at hl 0 rfl) ?_
    rw [hQ]
    exact rt_i C ri_2 h (mkE.full hp (by omega) (by omega) hss q18 fri_2 (by omega) (by omega)) dc_M_empty_27

abbrev rm_M_look : Room := { frames := 1, cells := 0, slots := 0, locals := 23 }
set_option maxRecDepth 100000 in
set_option maxHeartbeats 4000000 in
theorem c_M_look (l : Launch) (Γ : gG) (r : Nat → Nat) (ri : Nat → Nat → Nat) (rl : Nat → Nat → Int64) (wr : va_W) (p9 : Nat) (hO : rOK ri p9) : cT l Γ my_M_look bc_M_look 5 none rm_M_look [.ref (r 0), .int (nI p9)] (rW Γ r ri rl wr) (S := Nat → Nat → Nat) (fun v u => v = none ∧ (∀ zk, zk ≠ 11 → u zk = ri zk) ∧ LD ri p9 (u 11)) (fun u => rW Γ r u rl wr) := by
  refine cT.start (by decide) (Nat.le_of_ble_eq_true rfl) (fun p e s m args below meth c ls Q hQ C hmn h hl => ?_)
  replace hl : lv_has ls 5 [(0, .ref (r 0)), (1, .int (nI p9))] := hl
  obtain ⟨a1, a2, a3, a4, a5, a6⟩ := id hO
  refine lv_iconst (v := (nI 0)) C.x C.b dc_M_look_0 (by decide +kernel) ?_
  refine lv_istore_n (lv' := [(2, .int (nI 0)), (0, .ref (r 0)), (1, .int (nI p9))]) C.x C.b dc_M_look_1 rfl hl (by decide) rfl (fun ls hl => ?_)
  have hz1 : ∀ zk, zk ≠ 11 → ri zk = ri zk := fun _ _ => rfl
  have hA1 : ∀ x, x < 0 → ri 11 x = (rEb ri p9 x).toNat := fun x hx => absurd hx (Nat.not_lt_zero _)
  have lp_2 : ∀ (n_2 : Nat) (k : Nat) (z : Nat → Nat → Nat) (H : Heap) (locs : List Loc) (ls : Array Slot), ri 0 p9 - k < n_2 → (k ≤ ri 0 p9) → (∀ zk, zk ≠ 11 → z zk = ri zk) → (∀ x, x < k → z 11 x = (rEb ri p9 x).toNat) → sT Γ s (rW Γ r z rl wr) H locs → lv_has ls 5 [(2, .int (nI k)), (1, .int (nI p9)), (0, .ref (r 0))] → W p l e rm_M_look s m args below meth c H locs 0 0 Q (F0 m 2 ls []) := by
    intro n_2
    induction n_2 with
    | zero => intro k z H locs ls hms; exact absurd hms (Nat.not_lt_zero _)
    | succ n_2 ih_2 =>
      intro k z H locs ls hms hk hz hA h hl
      have z0 : z 0 p9 = ri 0 p9 := by rw [hz 0 (by decide)]
      have zN : rN z p9 = rN ri p9 := by unfold rN; rw [hz 2 (by decide)]
      have zE : rEb z p9 = rEb ri p9 := by unfold rEb; rw [hz 3 (by decide)]
      refine lv_iload_n C.x C.b dc_M_look_2 rfl (lv_at hl 0 rfl) ?_
      refine lv_aload_n C.x C.b dc_M_look_3 rfl (lv_at hl 2 rfl) ?_
      refine rg_get C h 0 rfl rfl in_M 2 (by decide) fl_M_9 rfl dc_M_look_4 ?_
      refine lv_iload_n C.x C.b dc_M_look_7 rfl (lv_at hl 1 rfl) ?_
      refine rg_ild C h 1 rfl (by omega) (by decide) dc_M_look_8 ?_
      refine bc_ge (tgt := 38) C (by omega) (by omega) dc_M_look_9 (by decide) (fun q9 => ?_) (fun q9 => ?_)
      · refine lv_iconst (v := (nI 0)) C.x C.b dc_M_look_38 (by decide +kernel) ?_
        refine lv_istore_n (lv' := [(2, .int (nI 0)), (1, .int (nI p9)), (0, .ref (r 0))]) C.x C.b dc_M_look_39 rfl hl (by decide) rfl (fun ls hl => ?_)
        have hz1 := hz
        have hL1 : LK (rT ri p9 0 1) (rN ri p9) (ri 0 p9) (z 11) (0 + 1) 0 := fun x hx => by
          rw [if_neg (Nat.not_lt_zero _), hA x (by omega)]
          have eb := rT_bit (ri := ri) (p := p9) hx
          cases hb : rEb ri p9 x
          · rw [hb] at eb
            exact ⟨⟨fun _ k2 hk2 => by rw [show k2 = 0 by omega]; exact eb, fun k2 hk2 => by simp at hk2⟩, by decide⟩
          · rw [hb] at eb
            exact ⟨⟨fun z9 => by simp at z9, fun k2 hk2 => by
              have : k2 = 0 := by simp at hk2; omega
              rw [this]; exact ⟨eb, fun j hj => absurd hj (Nat.not_lt_zero _)⟩⟩, by decide⟩
        have lp_40 : ∀ (n_40 : Nat) (n9 : Nat) (z : Nat → Nat → Nat) (H : Heap) (locs : List Loc) (ls : Array Slot), 10 - n9 < n_40 → (n9 ≤ 10) → (∀ zk, zk ≠ 11 → z zk = ri zk) → (LK (rT ri p9 0 1) (rN ri p9) (ri 0 p9) (z 11) (n9 + 1) 0) → sT Γ s (rW Γ r z rl wr) H locs → lv_has ls 5 [(2, .int (nI n9)), (1, .int (nI p9)), (0, .ref (r 0))] → W p l e rm_M_look s m args below meth c H locs 0 0 Q (F0 m 40 ls []) := by
          intro n_40
          induction n_40 with
          | zero => intro n9 z H locs ls hms; exact absurd hms (Nat.not_lt_zero _)
          | succ n_40 ih_40 =>
            intro n9 z H locs ls hms hn9 hz hL h hl
            have z0 : z 0 p9 = ri 0 p9 := by rw [hz 0 (by decide)]
            have zN : rN z p9 = rN ri p9 := by unfold rN; rw [hz 2 (by decide)]
            have zE : rEb z p9 = rEb ri p9 := by unfold rEb; rw [hz 3 (by decide)]
            refine lv_iload_n C.x C.b dc_M_look_40 rfl (lv_at hl 0 rfl) ?_
            refine lv_bipush (v := (nI 10)) C.x C.b dc_M_look_41 (by decide +kernel) ?_
            refine bc_ge (tgt := 120) C (by omega) (by omega) dc_M_look_43 (by decide) (fun q43 => ?_) (fun q43 => ?_)
            · have h10 : n9 = 10 := by omega
              subst h10
              have hLD : LD ri p9 (z 11) := fun x hx => ⟨by have := (hL x hx).1; rw [if_neg (Nat.not_lt_zero _)] at this; exact this, (hL x hx).2⟩
              rw [hQ]
              exact rt_v C z h (⟨rfl, hz, hLD⟩) dc_M_look_120
            · refine lv_iconst (v := (nI 0)) C.x C.b dc_M_look_46 (by decide +kernel) ?_
              refine lv_istore_n (lv' := [(3, .int (nI 0)), (2, .int (nI n9)), (1, .int (nI p9)), (0, .ref (r 0))]) C.x C.b dc_M_look_47 rfl hl (by decide) rfl (fun ls hl => ?_)
              have hz1 := hz
              have hL1 := hL
              have lp_48 : ∀ (n_48 : Nat) (s9 : Nat) (z : Nat → Nat → Nat) (H : Heap) (locs : List Loc) (ls : Array Slot), ri 0 p9 - s9 < n_48 → (s9 ≤ ri 0 p9) → (∀ zk, zk ≠ 11 → z zk = ri zk) → (LK (rT ri p9 0 1) (rN ri p9) (ri 0 p9) (z 11) (n9 + 1) s9) → sT Γ s (rW Γ r z rl wr) H locs → lv_has ls 5 [(3, .int (nI s9)), (2, .int (nI n9)), (1, .int (nI p9)), (0, .ref (r 0))] → W p l e rm_M_look s m args below meth c H locs 0 0 Q (F0 m 48 ls []) := by
                intro n_48
                induction n_48 with
                | zero => intro s9 z H locs ls hms; exact absurd hms (Nat.not_lt_zero _)
                | succ n_48 ih_48 =>
                  intro s9 z H locs ls hms hs9 hz hLs h hl
                  have z0 : z 0 p9 = ri 0 p9 := by rw [hz 0 (by decide)]
                  have zN : rN z p9 = rN ri p9 := by unfold rN; rw [hz 2 (by decide)]
                  have zE : rEb z p9 = rEb ri p9 := by unfold rEb; rw [hz 3 (by decide)]
                  refine lv_iload_n C.x C.b dc_M_look_48 rfl (lv_at hl 0 rfl) ?_
                  refine lv_aload_n C.x C.b dc_M_look_49 rfl (lv_at hl 3 rfl) ?_
                  refine rg_get C h 0 rfl rfl in_M 2 (by decide) fl_M_9 rfl dc_M_look_50 ?_
                  refine lv_iload_n C.x C.b dc_M_look_53 rfl (lv_at hl 2 rfl) ?_
                  refine rg_ild C h 1 rfl (by omega) (by decide) dc_M_look_54 ?_
                  refine bc_ge (tgt := 114) C (by omega) (by omega) dc_M_look_55 (by decide) (fun q55 => ?_) (fun q55 => ?_)
                  · refine lv_iinc (v := nI (n9 + 1)) (lv' := [(2, .int (nI (n9 + 1))), (3, .int (nI s9)), (1, .int (nI p9)), (0, .ref (r 0))]) C.x C.b dc_M_look_114 hl (k := 1) rfl (nI_1 n9) (by decide) rfl (fun ls hl => ?_)
                    refine lv_goto (tgt := 40) C.x C.b dc_M_look_117 (by decide) ?_
                    have hz1 := hz
                    have hL1 := hLs.up (by omega)
                    exact ih_40 (n9 + 1) z _ _ _ (by omega) (by first | assumption | omega) (hz1) (hL1) h (lv_sub hl [0, 2, 3] rfl)
                  · refine lv_iconst (v := (nI 0)) C.x C.b dc_M_look_58 (by decide +kernel) ?_
                    refine lv_istore (lv' := [(4, .int (nI 0)), (3, .int (nI s9)), (2, .int (nI n9)), (1, .int (nI p9)), (0, .ref (r 0))]) C.x C.b dc_M_look_59 hl (by decide) rfl (fun ls hl => ?_)
                    have hz1 := hz
                    have hR1 := LR.of hLs (by omega)
                    have lp_61 : ∀ (n_61 : Nat) (q : Nat) (z : Nat → Nat → Nat) (H : Heap) (locs : List Loc) (ls : Array Slot), 3 - q < n_61 → (q ≤ 3) → (∀ zk, zk ≠ 11 → z zk = ri zk) → (LR (rT ri p9 0 1) (rN ri p9) (ri 0 p9) (z 11) (n9 + 1) s9 q) → sT Γ s (rW Γ r z rl wr) H locs → lv_has ls 5 [(4, .int (nI q)), (3, .int (nI s9)), (2, .int (nI n9)), (1, .int (nI p9)), (0, .ref (r 0))] → W p l e rm_M_look s m args below meth c H locs 0 0 Q (F0 m 61 ls []) := by
                      intro n_61
                      induction n_61 with
                      | zero => intro q z H locs ls hms; exact absurd hms (Nat.not_lt_zero _)
                      | succ n_61 ih_61 =>
                        intro q z H locs ls hms hq hz hR h hl
                        have z0 : z 0 p9 = ri 0 p9 := by rw [hz 0 (by decide)]
                        have zN : rN z p9 = rN ri p9 := by unfold rN; rw [hz 2 (by decide)]
                        have zE : rEb z p9 = rEb ri p9 := by unfold rEb; rw [hz 3 (by decide)]
                        refine lv_iload C.x C.b dc_M_look_61 (lv_at hl 0 rfl) ?_
                        refine lv_iconst (v := (nI 3)) C.x C.b dc_M_look_63 (by decide +kernel) ?_
                        refine bc_ge (tgt := 108) C (by omega) (by omega) dc_M_look_64 (by decide) (fun q64 => ?_) (fun q64 => ?_)
                        · refine lv_iinc (v := nI (s9 + 1)) (lv' := [(3, .int (nI (s9 + 1))), (4, .int (nI q)), (2, .int (nI n9)), (1, .int (nI p9)), (0, .ref (r 0))]) C.x C.b dc_M_look_108 hl (k := 1) rfl (nI_1 s9) (by decide) rfl (fun ls hl => ?_)
                          refine lv_goto (tgt := 48) C.x C.b dc_M_look_111 (by decide) ?_
                          have hz1 := hz
                          have q3 : q = 3 := by omega
                          rw [q3] at hR
                          have hL1 := hR.done (by omega)
                          exact ih_48 (s9 + 1) z _ _ _ (by omega) (by first | assumption | omega) (hz1) (hL1) h (lv_sub hl [0, 2, 3, 4] rfl)
                        · have hnx := a5 s9 q (by omega) (by omega)
                          have hfs : ∀ x, x < ri 0 p9 → z 11 x ≤ 12 := fun x hx => by
                            by_cases e9 : x = s9
                            · subst e9
                              rcases hR.2 with z9 | z9
                              · have := z9.1; omega
                              · have := z9.2.2; omega
                            · have := (hR.1 x hx e9).2; omega
                          have hf1 := hfs s9 (by omega)
                          have hf2 := hfs _ hnx
                          rw [← zN] at hf2
                          refine lv_aload_n C.x C.b dc_M_look_67 rfl (lv_at hl 4 rfl) ?_
                          refine rg_get C h 0 rfl rfl in_M 18 (by decide) fl_M_44 rfl dc_M_look_68 ?_
                          refine lv_iload_n C.x C.b dc_M_look_71 rfl (lv_at hl 1 rfl) ?_
                          refine rg_mld C h 12 rfl (by omega) (by decide) dc_M_look_72 ?_
                          refine bm_ge (tgt := 102) C (by omega) dc_M_look_73 (by decide) (fun q73 => ?_) (fun q73 => ?_)
                          · refine lv_iinc (v := nI (q + 1)) (lv' := [(4, .int (nI (q + 1))), (3, .int (nI s9)), (2, .int (nI n9)), (1, .int (nI p9)), (0, .ref (r 0))]) C.x C.b dc_M_look_102 hl (k := 0) rfl (nI_1 q) (by decide) rfl (fun ls hl => ?_)
                            refine lv_goto (tgt := 61) C.x C.b dc_M_look_105 (by decide) ?_
                            have hz1 := hz
                            have hR1 := hR.no (by omega) (by omega) (by omega) hnx (Or.inl q73)
                            exact ih_61 (q + 1) z _ _ _ (by omega) (by first | assumption | omega) (hz1) (hR1) h (lv_sub hl [0, 1, 2, 3, 4] rfl)
                          · refine lv_aload_n C.x C.b dc_M_look_76 rfl (lv_at hl 4 rfl) ?_
                            refine rg_get C h 0 rfl rfl in_M 18 (by decide) fl_M_44 rfl dc_M_look_77 ?_
                            refine lv_aload_n C.x C.b dc_M_look_80 rfl (lv_at hl 4 rfl) ?_
                            refine lv_iload_n C.x C.b dc_M_look_81 rfl (lv_at hl 3 rfl) ?_
                            refine lv_iload_n C.x C.b dc_M_look_82 rfl (lv_at hl 1 rfl) ?_
                            refine lv_iload C.x C.b dc_M_look_83 (lv_at hl 0 rfl) ?_
                            refine kv_V (As := [.int (nI p9), .int (nI s9), .int (nI q)]) (rest := [.ref (r 12)]) C h hl.1 (c_M_next l Γ r z rl wr p9 s9 q (by omega) (by omega) (by omega)) mw_M_next lk_M_61 (q0 := 0) rfl rfl rfl (by decide) (by decide) (Nat.le_of_ble_eq_true rfl) dc_M_look_85 (fun v u H locs hp h => ?_)
                            obtain rfl := hp
                            replace h : sT Γ s (rW Γ r z rl wr) _ _ := h
                            refine W.eq (g2 := F0 m 88 ls [.int (nI (rN z p9 (s9 * 3 + q))), .ref (r 12)]) rfl ?_
                            refine rg_mld C h 12 rfl (by rw [zN]; omega) (by decide) dc_M_look_88 ?_
                            refine lv_iload_n C.x C.b dc_M_look_89 rfl (lv_at hl 2 rfl) ?_
                            refine tp_i (mI_s n9) ?_
                            refine bn_ne (tgt := 102) C (by omega) (by omega) dc_M_look_90 (by decide) (fun q90 => ?_) (fun q90 => ?_)
                            · refine lv_iinc (v := nI (q + 1)) (lv' := [(4, .int (nI (q + 1))), (3, .int (nI s9)), (2, .int (nI n9)), (1, .int (nI p9)), (0, .ref (r 0))]) C.x C.b dc_M_look_102 hl (k := 0) rfl (nI_1 q) (by decide) rfl (fun ls hl => ?_)
                              refine lv_goto (tgt := 61) C.x C.b dc_M_look_105 (by decide) ?_
                              have hz1 := hz
                              have hR1 := hR.no (by omega) (by omega) (by omega) hnx (Or.inr (by rw [← zN]; exact q90))
                              exact ih_61 (q + 1) z _ _ _ (by omega) (by first | assumption | omega) (hz1) (hR1) h (lv_sub hl [0, 1, 2, 3, 4] rfl)
                            · refine lv_aload_n C.x C.b dc_M_look_93 rfl (lv_at hl 4 rfl) ?_
                              refine rg_get C h 0 rfl rfl in_M 18 (by decide) fl_M_44 rfl dc_M_look_94 ?_
                              refine lv_iload_n C.x C.b dc_M_look_97 rfl (lv_at hl 1 rfl) ?_
                              refine lv_iload_n C.x C.b dc_M_look_98 rfl (lv_at hl 2 rfl) ?_
                              refine lv_iconst (v := (nI 1)) C.x C.b dc_M_look_99 (by decide +kernel) ?_
                              refine lv_iadd C.x C.b dc_M_look_100 ?_
                              refine tp_i (nI_add n9 1) ?_
                              refine tp_i (mI_s (n9 + 1)) ?_
                              refine rg_mst C h 12 rfl (by omega) (by decide) dc_M_look_101 (fun H locs h => ?_)
                              obtain ⟨ri_1, eri_1⟩ : ∃ zz9, zz9 = us z 11 (us (z 11) s9 (n9 + 1 + 1)) := ⟨_, rfl⟩
                              have fri_1 : ∀ zk, zk ≠ 11 → ri_1 zk = z zk := fun zk hzk => by rw [eri_1, us_n _ _ hzk]
                              have gri_1 : ri_1 11 = us (z 11) s9 (n9 + 1 + 1) := by rw [eri_1, us_s]
                              have xri_1 : ri_1 20 0 = z 20 0 ∧ ri_1 20 1 = z 20 1 ∧ ri_1 20 2 = z 20 2 ∧ ri_1 20 3 = z 20 3 ∧ ri_1 20 4 = z 20 4 ∧ ri_1 20 5 = z 20 5 ∧ ri_1 20 6 = z 20 6 := by rw [fri_1 20 (by decide)]; exact ⟨rfl, rfl, rfl, rfl, rfl, rfl, rfl⟩
                              replace h : sT Γ s (rW Γ r ri_1 rl wr) H locs := by rw [eri_1]; exact h
                              refine lv_iinc (v := nI (q + 1)) (lv' := [(4, .int (nI (q + 1))), (3, .int (nI s9)), (2, .int (nI n9)), (1, .int (nI p9)), (0, .ref (r 0))]) C.x C.b dc_M_look_102 hl (k := 0) rfl (nI_1 q) (by decide) rfl (fun ls hl => ?_)
                              refine lv_goto (tgt := 61) C.x C.b dc_M_look_105 (by decide) ?_
                              have hz1 : ∀ zk, zk ≠ 11 → ri_1 zk = ri zk := fun zk a => (fri_1 zk a).trans (hz zk a)
                              have hR1 := hR.yes (by omega) (by omega) (by omega) hnx q73 (by rw [← zN]; exact q90) gri_1
                              exact ih_61 (q + 1) ri_1 _ _ _ (by omega) (by first | assumption | omega) (hz1) (hR1) h (lv_sub hl [0, 1, 2, 3, 4] rfl)
                    exact lp_61 _ 0 z _ _ _ (Nat.lt_succ_self _) (by first | assumption | omega) (hz1) (hR1) h (lv_sub hl [0, 1, 2, 3, 4] rfl)
              exact lp_48 _ 0 z _ _ _ (Nat.lt_succ_self _) (by first | assumption | omega) (hz1) (hL1) h (lv_sub hl [0, 1, 2, 3] rfl)
        exact lp_40 _ 0 z _ _ _ (Nat.lt_succ_self _) (by first | assumption | omega) (hz1) (hL1) h (lv_sub hl [0, 1, 2] rfl)
      · refine lv_aload_n C.x C.b dc_M_look_12 rfl (lv_at hl 2 rfl) ?_
        refine rg_get C h 0 rfl rfl in_M 18 (by decide) fl_M_44 rfl dc_M_look_13 ?_
        refine lv_iload_n C.x C.b dc_M_look_16 rfl (lv_at hl 0 rfl) ?_
        refine lv_aload_n C.x C.b dc_M_look_17 rfl (lv_at hl 2 rfl) ?_
        refine lv_iload_n C.x C.b dc_M_look_18 rfl (lv_at hl 1 rfl) ?_
        refine lv_iload_n C.x C.b dc_M_look_19 rfl (lv_at hl 0 rfl) ?_
        refine kv_V (As := [.int (nI p9), .int (nI k)]) (rest := [.int (nI k), .ref (r 12)]) C h hl.1 (c_M_isEnd l Γ r z rl wr p9 k (by omega) (by omega) (by rw [hz 3 (by decide)]; exact a6 k (by omega))) mw_M_isEnd lk_M_64 (q0 := 0) rfl rfl rfl (by decide) (by decide) (Nat.le_of_ble_eq_true rfl) dc_M_look_20 (fun v u H locs hp h => ?_)
        obtain rfl := hp
        replace h : sT Γ s (rW Γ r z rl wr) _ _ := h
        refine W.eq (g2 := F0 m 23 ls [.int (bI (rEb z p9 k)), .int (nI k), .ref (r 12)]) rfl ?_
        refine bb_eq (tgt := 30) C dc_M_look_23 (by decide) (fun q23 => ?_) (fun q23 => ?_)
        · refine lv_iconst (v := (mI 0)) C.x C.b dc_M_look_30 (by decide +kernel) ?_
          refine rg_mst C h 12 rfl (by omega) (by decide) dc_M_look_31 (fun H locs h => ?_)
          obtain ⟨ri_2, eri_2⟩ : ∃ zz9, zz9 = us z 11 (us (z 11) k 0) := ⟨_, rfl⟩
          have fri_2 : ∀ zk, zk ≠ 11 → ri_2 zk = z zk := fun zk hzk => by rw [eri_2, us_n _ _ hzk]
          have gri_2 : ri_2 11 = us (z 11) k 0 := by rw [eri_2, us_s]
          have xri_2 : ri_2 20 0 = z 20 0 ∧ ri_2 20 1 = z 20 1 ∧ ri_2 20 2 = z 20 2 ∧ ri_2 20 3 = z 20 3 ∧ ri_2 20 4 = z 20 4 ∧ ri_2 20 5 = z 20 5 ∧ ri_2 20 6 = z 20 6 := by rw [fri_2 20 (by decide)]; exact ⟨rfl, rfl, rfl, rfl, rfl, rfl, rfl⟩
          replace h : sT Γ s (rW Γ r ri_2 rl wr) H locs := by rw [eri_2]; exact h
          refine lv_iinc (v := nI (k + 1)) (lv' := [(2, .int (nI (k + 1))), (1, .int (nI p9)), (0, .ref (r 0))]) C.x C.b dc_M_look_32 hl (k := 0) rfl (nI_1 k) (by decide) rfl (fun ls hl => ?_)
          refine lv_goto (tgt := 2) C.x C.b dc_M_look_35 (by decide) ?_
          have hz1 : ∀ zk, zk ≠ 11 → ri_2 zk = ri zk := fun zk a => (fri_2 zk a).trans (hz zk a)
          have hA1 : ∀ x, x < k + 1 → ri_2 11 x = (rEb ri p9 x).toNat := fun x hx => by
            rw [gri_2]
            by_cases e9 : x = k
            · rw [e9, us_s, ← zE, q23]; rfl
            · rw [us_n _ _ e9]; exact hA x (by omega)
          exact ih_2 (k + 1) ri_2 _ _ _ (by omega) (by first | assumption | omega) (hz1) (hA1) h (lv_sub hl [0, 1, 2] rfl)
        · refine lv_iconst (v := (nI 0)) C.x C.b dc_M_look_26 (by decide +kernel) ?_
          refine lv_goto (tgt := 31) C.x C.b dc_M_look_27 (by decide) ?_
          refine tp_i (mI_s 0) ?_
          refine rg_mst C h 12 rfl (by omega) (by decide) dc_M_look_31 (fun H locs h => ?_)
          obtain ⟨ri_3, eri_3⟩ : ∃ zz9, zz9 = us z 11 (us (z 11) k (0 + 1)) := ⟨_, rfl⟩
          have fri_3 : ∀ zk, zk ≠ 11 → ri_3 zk = z zk := fun zk hzk => by rw [eri_3, us_n _ _ hzk]
          have gri_3 : ri_3 11 = us (z 11) k (0 + 1) := by rw [eri_3, us_s]
          have xri_3 : ri_3 20 0 = z 20 0 ∧ ri_3 20 1 = z 20 1 ∧ ri_3 20 2 = z 20 2 ∧ ri_3 20 3 = z 20 3 ∧ ri_3 20 4 = z 20 4 ∧ ri_3 20 5 = z 20 5 ∧ ri_3 20 6 = z 20 6 := by rw [fri_3 20 (by decide)]; exact ⟨rfl, rfl, rfl, rfl, rfl, rfl, rfl⟩
          replace h : sT Γ s (rW Γ r ri_3 rl wr) H locs := by rw [eri_3]; exact h
          refine lv_iinc (v := nI (k + 1)) (lv' := [(2, .int (nI (k + 1))), (1, .int (nI p9)), (0, .ref (r 0))]) C.x C.b dc_M_look_32 hl (k := 0) rfl (nI_1 k) (by decide) rfl (fun ls hl => ?_)
          refine lv_goto (tgt := 2) C.x C.b dc_M_look_35 (by decide) ?_
          have hz1 : ∀ zk, zk ≠ 11 → ri_3 zk = ri zk := fun zk a => (fri_3 zk a).trans (hz zk a)
          have hA1 : ∀ x, x < k + 1 → ri_3 11 x = (rEb ri p9 x).toNat := fun x hx => by
            rw [gri_3]
            by_cases e9 : x = k
            · rw [e9, us_s, ← zE, q23]; rfl
            · rw [us_n _ _ e9]; exact hA x (by omega)
          exact ih_2 (k + 1) ri_3 _ _ _ (by omega) (by first | assumption | omega) (hz1) (hA1) h (lv_sub hl [0, 1, 2] rfl)
  exact lp_2 _ 0 ri _ _ _ (Nat.lt_succ_self _) (by first | assumption | omega) (hz1) (hA1) h (lv_sub hl [0, 2, 1] rfl)

