/-! the class's cells: x, tables, sorter, tally, machine, ten arrays of the sorter, two of the tally; then the tables -/
def tT (d : Nat → Nat) (tb : Nat → Nat → Nat → Nat) : va_W := (List.range 80).map (fun i => (d (20 + 3 * i), .inr (2, [.int (nI (tb i 0 0)), .int (nI (tb i 0 1)), .int (nI (tb i 0 2)), .ref (d (21 + 3 * i)), .ref (d (22 + 3 * i))])))
def tN (Γ : gG) (d : Nat → Nat) (tb : Nat → Nat → Nat → Nat) : va_W := (List.range 80).map (fun i => (d (21 + 3 * i), .inl (Γ.2.1 0, 30, .inl (nF (tb i 1)))))
def tF (Γ : gG) (d : Nat → Nat) (tb : Nat → Nat → Nat → Nat) : va_W := (List.range 80).map (fun i => (d (22 + 3 * i), .inl (Γ.2.1 0, 10, .inl (mF (tb i 2)))))
abbrev xW (Γ : gG) (d : Nat → Nat) (hm : Nat) (mc : va_E) (so : Nat → Nat → Nat) (tl : Nat → Nat → Int64) (tb : Nat → Nat → Nat → Nat) (wr : va_W) : va_W :=
  (d 0, .inr (0, [.ref (d 1), .ref (d 2), .ref (d 3), .int (nI (so 10 3))])) ::
  (d 1, .inl (Γ.2.1 3, 80, .inr (.inr (.inr (.inr (fun i => some (d (20 + 3 * i)))))))) ::
  (d 2, .inr (1, [.ref hm, .ref (d 5), .ref (d 6), .ref (d 7), .int (nI (so 10 0)), .ref (d 8), .ref (d 9), .ref (d 10), .ref (d 11), .int (nI (so 10 1)), .ref (d 12), .int (nI (so 10 2)), .ref (d 13), .ref (d 14)])) ::
  (d 3, .inr (3, [.ref (d 15), .ref (d 16)])) ::
  (hm, mc) ::
  (d 5, .inl (Γ.2.1 0, 10240, .inl (nF (so 0)))) ::
  (d 6, .inl (Γ.2.1 0, 10240, .inl (nF (so 1)))) ::
  (d 7, .inl (Γ.2.1 0, 30720, .inl (nF (so 2)))) ::
  (d 8, .inl (Γ.2.1 0, 10240, .inl (nF (so 3)))) ::
  (d 9, .inl (Γ.2.1 0, 10240, .inl (nF (so 4)))) ::
  (d 10, .inl (Γ.2.1 0, 10, .inl (nF (so 5)))) ::
  (d 11, .inl (Γ.2.1 0, 10, .inl (nF (so 6)))) ::
  (d 12, .inl (Γ.2.1 0, 10, .inl (nF (so 7)))) ::
  (d 13, .inl (Γ.2.1 0, 10, .inl (nF (so 8)))) ::
  (d 14, .inl (Γ.2.1 0, 10, .inl (nF (so 9)))) ::
  (d 15, .inl (Γ.2.1 1, 10, .inr (.inl (tl 0)))) ::
  (d 16, .inl (Γ.2.1 1, 10, .inr (.inl (tl 1)))) ::
  (tT d tb ++ (tN Γ d tb ++ (tF Γ d tb ++ wr)))
section XW
variable {Γ : gG} {d : Nat → Nat} {hm : Nat} {mc : va_E} {so : Nat → Nat → Nat} {tl : Nat → Nat → Int64} {tb : Nat → Nat → Nat → Nat} {wr : va_W}
theorem tT_len : (tT d tb).length = 80 := by simp [tT]
theorem tN_len : (tN Γ d tb).length = 80 := by simp [tN]
theorem tF_len : (tF Γ d tb).length = 80 := by simp [tF]
theorem lk_T {i : Nat} (hi : i < 80) : (xW Γ d hm mc so tl tb wr)[17 + i]? = some (d (20 + 3 * i), .inr (2, [.int (nI (tb i 0 0)), .int (nI (tb i 0 1)), .int (nI (tb i 0 2)), .ref (d (21 + 3 * i)), .ref (d (22 + 3 * i))])) := by
  rw [show 17 + i = i + 1 + 1 + 1 + 1 + 1 + 1 + 1 + 1 + 1 + 1 + 1 + 1 + 1 + 1 + 1 + 1 + 1 by omega]
  simp only [List.getElem?_cons_succ]
  rw [List.getElem?_append_left (by rw [tT_len]; exact hi)]
  simp [tT, hi]
theorem lk_N {i : Nat} (hi : i < 80) : (xW Γ d hm mc so tl tb wr)[97 + i]? = some (d (21 + 3 * i), .inl (Γ.2.1 0, 30, .inl (nF (tb i 1)))) := by
  rw [show 97 + i = (80 + i) + 1 + 1 + 1 + 1 + 1 + 1 + 1 + 1 + 1 + 1 + 1 + 1 + 1 + 1 + 1 + 1 + 1 by omega]
  simp only [List.getElem?_cons_succ]
  rw [List.getElem?_append_right (by rw [tT_len]; omega), tT_len, show 80 + i - 80 = i by omega, List.getElem?_append_left (by rw [tN_len]; exact hi)]
  simp [tN, hi]
theorem lk_F {i : Nat} (hi : i < 80) : (xW Γ d hm mc so tl tb wr)[177 + i]? = some (d (22 + 3 * i), .inl (Γ.2.1 0, 10, .inl (mF (tb i 2)))) := by
  rw [show 177 + i = (160 + i) + 1 + 1 + 1 + 1 + 1 + 1 + 1 + 1 + 1 + 1 + 1 + 1 + 1 + 1 + 1 + 1 + 1 by omega]
  simp only [List.getElem?_cons_succ]
  rw [List.getElem?_append_right (by rw [tT_len]; omega), tT_len, List.getElem?_append_right (by rw [tN_len]; omega), tN_len, show 160 + i - 80 - 80 = i by omega, List.getElem?_append_left (by rw [tF_len]; exact hi)]
  simp [tF, hi]
theorem tT_set {i : Nat} (hi : i < 80) (k v : Nat) (e : va_E) (he : e = .inr (2, [.int (nI (us (tb i 0) k v 0)), .int (nI (us (tb i 0) k v 1)), .int (nI (us (tb i 0) k v 2)), .ref (d (21 + 3 * i)), .ref (d (22 + 3 * i))])) : (tT d tb).set i (d (20 + 3 * i), e) = tT d (us tb i (us (tb i) 0 (us (tb i 0) k v))) := by
  subst he
  apply List.ext_getElem?
  intro j
  rw [List.getElem?_set]
  by_cases h : i = j
  · subst h
    simp [tT, hi, us]
  · simp only [if_neg h, tT, List.getElem?_map, List.getElem?_range]
    by_cases hj : j < 80
    · simp [hj, us, Ne.symm h]
    · simp [hj]
theorem tN_us {i k : Nat} (hk : k ≠ 1) (f : Nat → Nat) : tN Γ d (us tb i (us (tb i) k f)) = tN Γ d tb := by
  unfold tN
  apply List.map_congr_left
  intro j _
  by_cases h : j = i
  · subst h
    simp [us, hk, Ne.symm hk]
  · simp [us, h]
theorem tF_us {i k : Nat} (hk : k ≠ 2) (f : Nat → Nat) : tF Γ d (us tb i (us (tb i) k f)) = tF Γ d tb := by
  unfold tF
  apply List.map_congr_left
  intro j _
  by_cases h : j = i
  · subst h
    simp [us, hk, Ne.symm hk]
  · simp [us, h]
theorem tT_us {i k : Nat} (hk : k ≠ 0) (f : Nat → Nat) : tT d (us tb i (us (tb i) k f)) = tT d tb := by
  unfold tT
  apply List.map_congr_left
  intro j _
  by_cases h : j = i
  · subst h
    simp [us, hk, Ne.symm hk]
  · simp [us, h]
theorem tN_set {i : Nat} (hi : i < 80) (f : Nat → Nat) : (tN Γ d tb).set i (d (21 + 3 * i), .inl (Γ.2.1 0, 30, .inl (nF f))) = tN Γ d (us tb i (us (tb i) 1 f)) := by
  apply List.ext_getElem?
  intro j
  rw [List.getElem?_set]
  by_cases h : i = j
  · subst h
    simp [tN, hi, us]
  · simp only [if_neg h, tN, List.getElem?_map, List.getElem?_range]
    by_cases hj : j < 80
    · simp [hj, us, Ne.symm h]
    · simp [hj]
theorem tF_set {i : Nat} (hi : i < 80) (f : Nat → Nat) : (tF Γ d tb).set i (d (22 + 3 * i), .inl (Γ.2.1 0, 10, .inl (mF f))) = tF Γ d (us tb i (us (tb i) 2 f)) := by
  apply List.ext_getElem?
  intro j
  rw [List.getElem?_set]
  by_cases h : i = j
  · subst h
    simp [tF, hi, us]
  · simp only [if_neg h, tF, List.getElem?_map, List.getElem?_range]
    by_cases hj : j < 80
    · simp [hj, us, Ne.symm h]
    · simp [hj]
theorem st_T {i : Nat} (hi : i < 80) (k v : Nat) (e : va_E) (he : e = .inr (2, [.int (nI (us (tb i 0) k v 0)), .int (nI (us (tb i 0) k v 1)), .int (nI (us (tb i 0) k v 2)), .ref (d (21 + 3 * i)), .ref (d (22 + 3 * i))])) : (xW Γ d hm mc so tl tb wr).set (17 + i) (d (20 + 3 * i), e) = xW Γ d hm mc so tl (us tb i (us (tb i) 0 (us (tb i 0) k v))) wr := by
  rw [show 17 + i = i + 1 + 1 + 1 + 1 + 1 + 1 + 1 + 1 + 1 + 1 + 1 + 1 + 1 + 1 + 1 + 1 + 1 by omega]
  simp only [List.set_cons_succ]
  rw [List.set_append_left _ _ (by rw [tT_len]; exact hi), tT_set hi k v e he]
  simp only [xW, tN_us (Γ := Γ) (d := d) (tb := tb) (i := i) (show 0 ≠ 1 by decide), tF_us (Γ := Γ) (d := d) (tb := tb) (i := i) (show 0 ≠ 2 by decide)]
theorem st_N {i : Nat} (hi : i < 80) (f : Nat → Nat) : (xW Γ d hm mc so tl tb wr).set (97 + i) (d (21 + 3 * i), .inl (Γ.2.1 0, 30, .inl (nF f))) = xW Γ d hm mc so tl (us tb i (us (tb i) 1 f)) wr := by
  rw [show 97 + i = (80 + i) + 1 + 1 + 1 + 1 + 1 + 1 + 1 + 1 + 1 + 1 + 1 + 1 + 1 + 1 + 1 + 1 + 1 by omega]
  simp only [List.set_cons_succ]
  rw [List.set_append_right _ _ (by rw [tT_len]; omega), tT_len, show 80 + i - 80 = i by omega, List.set_append_left _ _ (by rw [tN_len]; exact hi), tN_set hi f]
  simp only [xW, tT_us (d := d) (tb := tb) (i := i) (show 1 ≠ 0 by decide), tF_us (Γ := Γ) (d := d) (tb := tb) (i := i) (show 1 ≠ 2 by decide)]
theorem st_F {i : Nat} (hi : i < 80) (f : Nat → Nat) : (xW Γ d hm mc so tl tb wr).set (177 + i) (d (22 + 3 * i), .inl (Γ.2.1 0, 10, .inl (mF f))) = xW Γ d hm mc so tl (us tb i (us (tb i) 2 f)) wr := by
  rw [show 177 + i = (160 + i) + 1 + 1 + 1 + 1 + 1 + 1 + 1 + 1 + 1 + 1 + 1 + 1 + 1 + 1 + 1 + 1 + 1 by omega]
  simp only [List.set_cons_succ]
  rw [List.set_append_right _ _ (by rw [tT_len]; omega), tT_len, List.set_append_right _ _ (by rw [tN_len]; omega), tN_len, show 160 + i - 80 - 80 = i by omega, List.set_append_left _ _ (by rw [tF_len]; exact hi), tF_set hi f]
  simp only [xW, tT_us (d := d) (tb := tb) (i := i) (show 2 ≠ 0 by decide), tN_us (Γ := Γ) (d := d) (tb := tb) (i := i) (show 2 ≠ 1 by decide)]
end XW
theorem vd_iff {A : Nat → Prop} {ws : va_W} : va_D A ws ↔ (ws.map (·.1)).Nodup ∧ ∀ q ∈ ws, A q.1 := by
  constructor
  · intro h
    refine ⟨List.pairwise_iff_getElem.mpr (fun i j hi hj hij e => ?_), fun q hq => ?_⟩
    · rw [List.length_map] at hi hj
      rw [List.getElem_map, List.getElem_map] at e
      have := h.1 i j _ _ (List.getElem?_eq_getElem hi) (List.getElem?_eq_getElem hj) e
      omega
    · obtain ⟨k, hk⟩ := List.getElem?_of_mem hq
      exact h.2 k q hk
  · intro h
    refine ⟨fun i j p q hp hq e => ?_, fun k q hk => h.2 q (List.mem_of_getElem? hk)⟩
    have n := List.pairwise_iff_getElem.mp h.1
    obtain ⟨li, ei⟩ := List.getElem?_eq_some_iff.mp hp
    obtain ⟨lj, ej⟩ := List.getElem?_eq_some_iff.mp hq
    rcases Nat.lt_trichotomy i j with a | a | a
    · exact absurd (by rw [List.getElem_map, List.getElem_map, ei, ej]; exact e) (n i j (by rw [List.length_map]; exact li) (by rw [List.length_map]; exact lj) a)
    · exact a
    · exact absurd (by rw [List.getElem_map, List.getElem_map, ei, ej]; exact e.symm) (n j i (by rw [List.length_map]; exact lj) (by rw [List.length_map]; exact li) a)
theorem vp_iff {D : va_G} {cl : List vw_C} {ws : va_W} {H : Heap} : va_P D cl ws H ↔ ∀ q ∈ ws, va_at D cl q H := ⟨fun h q hq => by obtain ⟨k, hk⟩ := List.getElem?_of_mem hq; exact h k q hk, fun h k q hk => h q (List.mem_of_getElem? hk)⟩
/-- a world's cells in another order, some left out -/
theorem sT.sub {Γ : gG} {s : State} {ws ws2 ws3 : va_W} {H : Heap} {locs : List Loc} (h : sT Γ s ws H locs) (hs : ws3.Sublist ws) (hp : ws2.Perm ws3) : sT Γ s ws2 H locs := by
  refine ⟨vp_iff.mpr (fun q hq => vp_iff.mp h.1 q (hs.subset (hp.subset hq))), vd_iff.mpr ⟨?_, fun q hq => (vd_iff.mp h.2.1).2 q (hs.subset (hp.subset hq))⟩, h.2.2⟩
  exact (hp.map (·.1)).nodup_iff.mpr ((vd_iff.mp h.2.1).1.sublist (hs.map (·.1)))
/-- the sorter has another machine -/
theorem xw_mach {Γ : gG} {s : State} {d : Nat → Nat} {hm hm2 : Nat} {mc mc2 : va_E} {so : Nat → Nat → Nat} {tl : Nat → Nat → Int64} {tb : Nat → Nat → Nat → Nat} {wr : va_W} {H : Heap} {locs : List Loc}
    (h : sT Γ s ((xW Γ d hm mc so tl tb ((hm2, mc2) :: wr)).set 2 (d 2, .inr (1, [.ref hm2, .ref (d 5), .ref (d 6), .ref (d 7), .int (nI (so 10 0)), .ref (d 8), .ref (d 9), .ref (d 10), .ref (d 11), .int (nI (so 10 1)), .ref (d 12), .int (nI (so 10 2)), .ref (d 13), .ref (d 14)]))) H locs) : sT Γ s (xW Γ d hm2 mc2 so tl tb wr) H locs := by
  refine h.sub (ws3 := ((xW Γ d hm mc so tl tb ((hm2, mc2) :: wr)).set 2 (d 2, .inr (1, [.ref hm2, .ref (d 5), .ref (d 6), .ref (d 7), .int (nI (so 10 0)), .ref (d 8), .ref (d 9), .ref (d 10), .ref (d 11), .int (nI (so 10 1)), .ref (d 12), .int (nI (so 10 2)), .ref (d 13), .ref (d 14)]))).eraseIdx 4) (List.eraseIdx_sublist _ _) ?_
  simp only [xW, List.set_cons_succ, List.set_cons_zero, List.eraseIdx_cons_succ, List.eraseIdx_cons_zero]
  refine List.Perm.cons _ (List.Perm.cons _ (List.Perm.cons _ (List.Perm.cons _ ?_)))
  have e : ∀ (a b c x : va_W) (y : Nat × va_E) (z : va_W), x ++ (a ++ (b ++ (c ++ y :: z))) = (x ++ (a ++ (b ++ c))) ++ y :: z := by intros; simp
  have e2 : ∀ (a b c x z : va_W), x ++ (a ++ (b ++ (c ++ z))) = (x ++ (a ++ (b ++ c))) ++ z := by intros; simp
  have k := (List.perm_middle (a := (hm2, mc2)) (l₁ := [(d 5, .inl (Γ.2.1 0, 10240, .inl (nF (so 0)))), (d 6, .inl (Γ.2.1 0, 10240, .inl (nF (so 1)))), (d 7, .inl (Γ.2.1 0, 30720, .inl (nF (so 2)))), (d 8, .inl (Γ.2.1 0, 10240, .inl (nF (so 3)))), (d 9, .inl (Γ.2.1 0, 10240, .inl (nF (so 4)))), (d 10, .inl (Γ.2.1 0, 10, .inl (nF (so 5)))), (d 11, .inl (Γ.2.1 0, 10, .inl (nF (so 6)))), (d 12, .inl (Γ.2.1 0, 10, .inl (nF (so 7)))), (d 13, .inl (Γ.2.1 0, 10, .inl (nF (so 8)))), (d 14, .inl (Γ.2.1 0, 10, .inl (nF (so 9)))), (d 15, .inl (Γ.2.1 1, 10, .inr (.inl (tl 0)))), (d 16, .inl (Γ.2.1 1, 10, .inr (.inl (tl 1))))] ++ (tT d tb ++ (tN Γ d tb ++ tF Γ d tb))) (l₂ := wr)).symm
  rw [← e, ← e2] at k
  exact k
/-! the reference's cells -/
abbrev rW (Γ : gG) (r : Nat → Nat) (ri : Nat → Nat → Nat) (rl : Nat → Nat → Int64) (wr : va_W) : va_W :=
  (r 0, .inr (10, [.int (nI (ri 20 0)), .int (nI (ri 20 1)), .ref (r 1), .ref (r 2), .ref (r 3), .ref (r 4), .int (nI (ri 20 2)), .int (nI (ri 20 3)), .int (nI (ri 20 4)), .int (nI (ri 20 5)), .int (nI (ri 20 6)), .ref (r 5), .ref (r 6), .ref (r 7), .ref (r 8), .ref (r 9), .ref (r 10), .ref (r 11), .ref (r 12), .ref (r 13), .ref (r 14)])) ::
  (r 1, .inl (Γ.2.1 0, 80, .inl (nF (ri 0)))) ::
  (r 2, .inl (Γ.2.1 0, 80, .inl (nF (ri 1)))) ::
  (r 3, .inl (Γ.2.1 0, 2400, .inl (nF (ri 2)))) ::
  (r 4, .inl (Γ.2.1 2, 800, .inl (nF (ri 3)))) ::
  (r 5, .inl (Γ.2.1 0, 10242, .inl (mF (ri 4)))) ::
  (r 6, .inl (Γ.2.1 0, 10242, .inl (nF (ri 5)))) ::
  (r 7, .inl (Γ.2.1 0, 30726, .inl (nF (ri 6)))) ::
  (r 8, .inl (Γ.2.1 0, 10242, .inl (nF (ri 7)))) ::
  (r 9, .inl (Γ.2.1 0, 10242, .inl (nF (ri 8)))) ::
  (r 10, .inl (Γ.2.1 0, 10, .inl (nF (ri 9)))) ::
  (r 11, .inl (Γ.2.1 2, 10, .inl (nF (ri 10)))) ::
  (r 12, .inl (Γ.2.1 0, 10, .inl (mF (ri 11)))) ::
  (r 13, .inl (Γ.2.1 1, 10, .inr (.inl (rl 0)))) ::
  (r 14, .inl (Γ.2.1 1, 10, .inr (.inl (rl 1)))) :: wr
