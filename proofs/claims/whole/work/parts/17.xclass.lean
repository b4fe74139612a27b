section XN
variable {p : Program} {l : Launch} {e : Env} {R : Room} {s : State} {m : MethodId} {args : Array Value} {below : List Frame} {meth : Method} {c : Code} {H : Heap} {locs : List Loc} {cells slots : Nat} {Q : State → Prop}
variable {Γ : gG} {cc : ByteArray} {ret : Option FieldType} {own : String} {nL pc : Nat} {ls : Array Slot} {rest : List Value}
variable {d : Nat → Nat} {hm : Nat} {mc : va_E} {so : Nat → Nat → Nat} {tl : Nat → Nat → Int64} {tb : Nat → Nat → Nat → Nat} {wr : va_W}
theorem xw_app (x : va_W) : xW Γ d hm mc so tl tb wr ++ x = xW Γ d hm mc so tl tb (wr ++ x) := by simp [xW]
theorem xw_new {x : Nat × va_E} (h : sT Γ s (xW Γ d hm mc so tl tb wr ++ [x]) H locs) : sT Γ s (xW Γ d hm mc so tl tb (x :: wr)) H locs := by
  rw [xw_app] at h
  refine h.sub (List.Sublist.refl _) ?_
  have k : (x :: wr).Perm (wr ++ [x]) := (List.perm_append_singleton x wr).symm
  simp only [xW]
  refine List.Perm.cons _ (List.Perm.cons _ (List.Perm.cons _ (List.Perm.cons _ (List.Perm.cons _ (List.Perm.cons _ (List.Perm.cons _ (List.Perm.cons _ (List.Perm.cons _ (List.Perm.cons _ (List.Perm.cons _ (List.Perm.cons _ (List.Perm.cons _ (List.Perm.cons _ (List.Perm.cons _ (List.Perm.cons _ (List.Perm.cons _ (?_)))))))))))))))))
  exact List.Perm.append_left _ (List.Perm.append_left _ (List.Perm.append_left _ k))
theorem xw_drop {x : Nat × va_E} (h : sT Γ s (xW Γ d hm mc so tl tb (x :: wr)) H locs) : sT Γ s (xW Γ d hm mc so tl tb wr) H locs := by
  refine h.sub (ws3 := xW Γ d hm mc so tl tb wr) ?_ (List.Perm.refl _)
  simp only [xW]
  refine List.Sublist.cons_cons _ (List.Sublist.cons_cons _ (List.Sublist.cons_cons _ (List.Sublist.cons_cons _ (List.Sublist.cons_cons _ (List.Sublist.cons_cons _ (List.Sublist.cons_cons _ (List.Sublist.cons_cons _ (List.Sublist.cons_cons _ (List.Sublist.cons_cons _ (List.Sublist.cons_cons _ (List.Sublist.cons_cons _ (List.Sublist.cons_cons _ (List.Sublist.cons_cons _ (List.Sublist.cons_cons _ (List.Sublist.cons_cons _ (List.Sublist.cons_cons _ (?_)))))))))))))))))
  exact List.Sublist.append (List.Sublist.refl _) (List.Sublist.append (List.Sublist.refl _) (List.Sublist.append (List.Sublist.refl _) (List.sublist_cons_self _ _)))
theorem lk_M {x : Nat × va_E} : (xW Γ d hm mc so tl tb (x :: wr))[257]? = some x := by
  rw [show 257 = 240 + 1 + 1 + 1 + 1 + 1 + 1 + 1 + 1 + 1 + 1 + 1 + 1 + 1 + 1 + 1 + 1 + 1 from rfl]
  simp only [List.getElem?_cons_succ]
  rw [List.getElem?_append_right (by rw [tT_len]; omega), tT_len, List.getElem?_append_right (by rw [tN_len]; omega), tN_len, List.getElem?_append_right (by rw [tF_len]; omega), tF_len]
  rfl
theorem st_M {x y : Nat × va_E} : (xW Γ d hm mc so tl tb (x :: wr)).set 257 y = xW Γ d hm mc so tl tb (y :: wr) := by
  rw [show 257 = 240 + 1 + 1 + 1 + 1 + 1 + 1 + 1 + 1 + 1 + 1 + 1 + 1 + 1 + 1 + 1 + 1 + 1 from rfl]
  simp only [List.set_cons_succ]
  rw [List.set_append_right _ _ (by rw [tT_len]; omega), tT_len, List.set_append_right _ _ (by rw [tN_len]; omega), tN_len, List.set_append_right _ _ (by rw [tF_len]; omega), tF_len]
  rfl
theorem rg_newM {N ci idx : Nat} {cn : String} {T : u_T} {ty : Nat → FieldType} {fs : List Value} (C : cX Γ p s m args meth c cc ret own nL) (h : sT Γ s (xW Γ d hm mc so tl tb wr) H locs) (hc : cls[ci]? = some (cn, T, N)) (hin : ∀ w ∈ u_ws cn T N, w ∈ gw) (hty : ∀ k, k < N → parseFieldDescriptor (T k).2.2.1 = some (ty k)) (hcl : Cond.classLink own idx cn ∈ gw) (hinst : Cond.instantiable cn N ∈ gw) (hini : Cond.initialized cn ∈ gw) (hfs : ∀ j, j < N → defaultValue (ty j) = vp_V fs j) (hcells : cells + 1 ≤ R.cells) (hslots : slots + N ≤ R.slots) (hdg : decode cc pc = .ok (.new idx, 3))
    (kk : ∀ (q : Nat) (H1 : Heap), sT Γ s (xW Γ d hm mc so tl tb ((q, .inr (ci, fs)) :: wr)) H1 locs → W p l e R s m args below meth c H1 locs (cells + 1) (slots + N) Q (F0 m (pc + 3) ls (.ref q :: rest))) : W p l e R s m args below meth c H locs cells slots Q (F0 m pc ls rest) :=
  va_new C.x C.b C.t hin ty hty C.o (C.t _ hcl) (C.t _ hinst) (C.t _ hini) C.k h.1 h.2.1 h.2.2 C.a hc hfs hcells hslots hdg (fun q H1 a1 a2 a3 => kk q H1 (xw_new ⟨a1, a2, a3⟩))
end XN
/-- the class's state between calls -/
def CS (so : Nat → Nat → Nat) (tb : Nat → Nat → Nat → Nat) : Prop := sB so ∧ so 10 3 ≤ 80 ∧ ∀ i, i < so 10 3 → tG (tb i)
abbrev xG : Type := Nat × va_E × (Nat → Nat → Nat) × (Nat → Nat → Nat → Nat)
/-- a set has been made, of the machine's words -/
def mkP (so : Nat → Nat → Nat) (tb : Nat → Nat → Nat → Nat) (M : mM) (v : Option Value) (u : xG) : Prop :=
  v = some (.int (nI (so 10 3))) ∧ so 10 3 < 80 ∧ CS u.2.2.1 u.2.2.2 ∧ u.2.2.1 10 3 = so 10 3 + 1 ∧ (∀ a, a < so 10 3 → u.2.2.2 a = tb a) ∧ ∀ w, lts w → macc (tM (u.2.2.2 (so 10 3))) 0 w = macc M M.1 w
/-- none has been made -/
def mkX (so : Nat → Nat → Nat) (tb : Nat → Nat → Nat → Nat) (M : mM) (u : xG) : Prop := CS u.2.2.1 tb ∧ u.2.2.1 10 3 = so 10 3 ∧ u.2.2.2 = tb ∧ (80 ≤ so 10 3 ∨ MN M)

set_option maxRecDepth 100000 in theorem nk_X_15 : Cond.classLink rn_X 15 rn_S ∈ gw := gw_t 31 rfl rfl
set_option maxRecDepth 100000 in theorem nk_X_22 : Cond.classLink rn_X 22 rn_Y ∈ gw := gw_t 97 rfl rfl
set_option maxRecDepth 100000 in theorem nk_X_9 : Cond.classLink rn_X 9 rn_T ∈ gw := gw_t 29 rfl rfl
set_option maxRecDepth 100000 in theorem nk_X_37 : Cond.classLink rn_X 37 rn_O ∈ gw := gw_t 238 rfl rfl
set_option maxRecDepth 100000 in theorem nk_X_46 : Cond.classLink rn_X 46 rn_H ∈ gw := gw_t 413 rfl rfl
set_option maxRecDepth 100000 in theorem nk_X_57 : Cond.classLink rn_X 57 rn_B ∈ gw := gw_t 438 rfl rfl
set_option maxRecDepth 100000 in theorem nk_X_62 : Cond.classLink rn_X 62 rn_N ∈ gw := gw_t 461 rfl rfl
set_option maxRecDepth 100000 in theorem nk_X_67 : Cond.classLink rn_X 67 rn_R ∈ gw := gw_t 478 rfl rfl
set_option maxRecDepth 100000 in theorem nk_X_76 : Cond.classLink rn_X 76 rn_K ∈ gw := gw_t 501 rfl rfl
set_option maxRecDepth 100000 in theorem nk_S_9 : Cond.classLink rn_S 9 rn_O ∈ gw := gw_t 37 rfl rfl
set_option maxRecDepth 100000 in theorem nk_L_8 : Cond.classLink rn_L 8 rn_X ∈ gw := gw_t 21 rfl rfl
set_option maxRecDepth 100000 in theorem nk_L_74 : Cond.classLink rn_L 74 rn_M ∈ gw := gw_t 629 rfl rfl
set_option maxRecDepth 100000 in theorem ns_X : Cond.instantiable rn_X 4 ∈ gw := gw_t 22 rfl rfl
set_option maxRecDepth 100000 in theorem ni_X : Cond.initialized rn_X ∈ gw := gw_t 1 rfl rfl
set_option maxRecDepth 100000 in theorem ns_S : Cond.instantiable rn_S 14 ∈ gw := gw_t 32 rfl rfl
set_option maxRecDepth 100000 in theorem ni_S : Cond.initialized rn_S ∈ gw := gw_t 2 rfl rfl
set_option maxRecDepth 100000 in theorem ns_T : Cond.instantiable rn_T 5 ∈ gw := gw_t 112 rfl rfl
set_option maxRecDepth 100000 in theorem ni_T : Cond.initialized rn_T ∈ gw := gw_t 6 rfl rfl
set_option maxRecDepth 100000 in theorem ns_Y : Cond.instantiable rn_Y 2 ∈ gw := gw_t 98 rfl rfl
set_option maxRecDepth 100000 in theorem ni_Y : Cond.initialized rn_Y ∈ gw := gw_t 5 rfl rfl
set_option maxRecDepth 100000 in theorem ns_O : Cond.instantiable rn_O 2 ∈ gw := gw_t 38 rfl rfl
set_option maxRecDepth 100000 in theorem ni_O : Cond.initialized rn_O ∈ gw := gw_t 4 rfl rfl
set_option maxRecDepth 100000 in theorem ns_R : Cond.instantiable rn_R 3 ∈ gw := gw_t 479 rfl rfl
set_option maxRecDepth 100000 in theorem ni_R : Cond.initialized rn_R ∈ gw := gw_t 17 rfl rfl
set_option maxRecDepth 100000 in theorem ns_B : Cond.instantiable rn_B 3 ∈ gw := gw_t 439 rfl rfl
set_option maxRecDepth 100000 in theorem ni_B : Cond.initialized rn_B ∈ gw := gw_t 15 rfl rfl
set_option maxRecDepth 100000 in theorem ns_H : Cond.instantiable rn_H 2 ∈ gw := gw_t 288 rfl rfl
set_option maxRecDepth 100000 in theorem ni_H : Cond.initialized rn_H ∈ gw := gw_t 14 rfl rfl
set_option maxRecDepth 100000 in theorem ns_N : Cond.instantiable rn_N 1 ∈ gw := gw_t 462 rfl rfl
set_option maxRecDepth 100000 in theorem ni_N : Cond.initialized rn_N ∈ gw := gw_t 16 rfl rfl
set_option maxRecDepth 100000 in theorem ns_K : Cond.instantiable rn_K 1 ∈ gw := gw_t 502 rfl rfl
set_option maxRecDepth 100000 in theorem ni_K : Cond.initialized rn_K ∈ gw := gw_t 18 rfl rfl
set_option maxRecDepth 100000 in theorem ns_M : Cond.instantiable rn_M 21 ∈ gw := gw_t 630 rfl rfl
set_option maxRecDepth 100000 in theorem ni_M : Cond.initialized rn_M ∈ gw := gw_t 7 rfl rfl
abbrev rm_A_init : Room := { frames := 1, cells := 0, slots := 0, locals := 12 }
set_option maxRecDepth 100000 in
set_option maxHeartbeats 4000000 in
theorem c_A_init (l : Launch) (Γ : gG) (ws : va_W) (a : Nat) : cT l Γ my_A_init bc_A_init 1 none rm_A_init [.ref a] (ws) (S := Unit) (fun v _ => v = none) (fun _ => ws) := by
  refine cT.start (by decide) (Nat.le_of_ble_eq_true rfl) (fun p e s m args below meth c ls Q hQ C hmn h hl => ?_)
  replace hl : lv_has ls 1 [(0, .ref a)] := hl
  refine lv_aload_n C.x C.b dc_A_init_0 rfl (lv_at hl 0 rfl) ?_
  refine W.objInit C.x C.b C.o (C.t _ lk_A_1) (C.t _ gw_oi) (C.t _ gw_oc) rfl (by rw [C.n]; exact hl.1) rfl dc_A_init_1 (by decide) (Nat.le_of_ble_eq_true rfl) ?_
  refine W.eq (g2 := F0 m 4 ls []) rfl ?_
  rw [hQ]
  exact rt_v C () h (rfl) dc_A_init_4

abbrev rm_O_init : Room := { frames := 2, cells := 0, slots := 0, locals := 32 }
set_option maxRecDepth 100000 in
set_option maxHeartbeats 4000000 in
theorem c_O_init (l : Launch) (Γ : gG) (d : Nat → Nat) (hm : Nat) (mc : va_E) (so : Nat → Nat → Nat) (tl : Nat → Nat → Int64) (tb : Nat → Nat → Nat → Nat) (wr : va_W) (q : Nat) (bits fst : Nat) : cT l Γ my_O_init bc_O_init 3 none rm_O_init [.ref q, .int (nI bits), .int (nI fst)] (xW Γ d hm mc so tl tb ((q, .inr (4, [.int 0, .int 0])) :: wr)) (S := Unit) (fun v _ => v = none) (fun _ => xW Γ d hm mc so tl tb ((q, .inr (4, [.int (nI bits), .int (nI fst)])) :: wr)) := by
  refine cT.start (by decide) (Nat.le_of_ble_eq_true rfl) (fun p e s m args below meth c ls Q hQ C hmn h hl => ?_)
  replace hl : lv_has ls 3 [(0, .ref q), (1, .int (nI bits)), (2, .int (nI fst))] := hl
  refine lv_aload_n C.x C.b dc_O_init_0 rfl (lv_at hl 0 rfl) ?_
  refine kv_IN (As := []) (rest := []) C h hl.1 (c_A_init l Γ _ q) mw_A_init lk_O_1 rfl (by decide) (by decide) (Nat.le_of_ble_eq_true rfl) dc_O_init_1 (fun v u H locs hp h => ?_)
  obtain rfl := hp
  replace h : sT Γ s (xW Γ d hm mc so tl tb ((q, .inr (4, [.int 0, .int 0])) :: wr)) H locs := h
  refine W.eq (g2 := F0 m 4 ls []) rfl ?_
  refine lv_aload_n C.x C.b dc_O_init_4 rfl (lv_at hl 0 rfl) ?_
  refine lv_iload_n C.x C.b dc_O_init_5 rfl (lv_at hl 1 rfl) ?_
  refine rg_putF (ty := .int) C hmn h 257 lk_M rfl in_O tk_O nm_O 0 (by decide) fl_O_7 rfl rfl (by decide +kernel) rfl rfl (by simp) dc_O_init_6 (fun H locs h => ?_)
  replace h := h.eq st_M
  replace h : sT Γ s (xW Γ d hm mc so tl tb ((q, .inr (4, [.int (nI bits), .int 0])) :: wr)) H locs := h
  refine lv_aload_n C.x C.b dc_O_init_9 rfl (lv_at hl 0 rfl) ?_
  refine lv_iload_n C.x C.b dc_O_init_10 rfl (lv_at hl 2 rfl) ?_
  refine rg_putF (ty := .int) C hmn h 257 lk_M rfl in_O tk_O nm_O 1 (by decide) fl_O_13 rfl rfl (by decide +kernel) rfl rfl (by simp) dc_O_init_11 (fun H locs h => ?_)
  replace h := h.eq st_M
  replace h : sT Γ s (xW Γ d hm mc so tl tb ((q, .inr (4, [.int (nI bits), .int (nI fst)])) :: wr)) H locs := h
  rw [hQ]
  exact rt_v C () h (rfl) dc_O_init_14

abbrev rm_R_init : Room := { frames := 2, cells := 0, slots := 0, locals := 32 }
set_option maxRecDepth 100000 in
set_option maxHeartbeats 4000000 in
theorem c_R_init (l : Launch) (Γ : gG) (d : Nat → Nat) (hm : Nat) (mc : va_E) (so : Nat → Nat → Nat) (tl : Nat → Nat → Int64) (tb : Nat → Nat → Nat → Nat) (wr : va_W) (q : Nat) (i fst : Nat) (en : Int32) : cT l Γ my_R_init bc_R_init 4 none rm_R_init [.ref q, .ref (d (20 + 3 * i)), .int (nI fst), .int en] (xW Γ d hm mc so tl tb ((q, .inr (5, [.null, .int 0, .int 0])) :: wr)) (S := Unit) (fun v _ => v = none) (fun _ => xW Γ d hm mc so tl tb ((q, .inr (5, [.ref (d (20 + 3 * i)), .int (nI fst), .int en])) :: wr)) := by
  refine cT.start (by decide) (Nat.le_of_ble_eq_true rfl) (fun p e s m args below meth c ls Q hQ C hmn h hl => ?_)
  replace hl : lv_has ls 4 [(0, .ref q), (1, .ref (d (20 + 3 * i))), (2, .int (nI fst)), (3, .int en)] := hl
  refine lv_aload_n C.x C.b dc_R_init_0 rfl (lv_at hl 0 rfl) ?_
  refine kv_IN (As := []) (rest := []) C h hl.1 (c_A_init l Γ _ q) mw_A_init lk_R_1 rfl (by decide) (by decide) (Nat.le_of_ble_eq_true rfl) dc_R_init_1 (fun v u H locs hp h => ?_)
  obtain rfl := hp
  replace h : sT Γ s (xW Γ d hm mc so tl tb ((q, .inr (5, [.null, .int 0, .int 0])) :: wr)) H locs := h
  refine W.eq (g2 := F0 m 4 ls []) rfl ?_
  refine lv_aload_n C.x C.b dc_R_init_4 rfl (lv_at hl 0 rfl) ?_
  refine lv_aload_n C.x C.b dc_R_init_5 rfl (lv_at hl 1 rfl) ?_
  refine rg_putF (ty := .object "RestSets$Table") C hmn h 257 lk_M rfl in_R tk_R nm_R 0 (by decide) fl_R_7 rfl rfl (by decide +kernel) rfl rfl (by simp) dc_R_init_6 (fun H locs h => ?_)
  replace h := h.eq st_M
  replace h : sT Γ s (xW Γ d hm mc so tl tb ((q, .inr (5, [.ref (d (20 + 3 * i)), .int 0, .int 0])) :: wr)) H locs := h
  refine lv_aload_n C.x C.b dc_R_init_9 rfl (lv_at hl 0 rfl) ?_
  refine lv_iload_n C.x C.b dc_R_init_10 rfl (lv_at hl 2 rfl) ?_
  refine rg_putF (ty := .int) C hmn h 257 lk_M rfl in_R tk_R nm_R 1 (by decide) fl_R_13 rfl rfl (by decide +kernel) rfl rfl (by simp) dc_R_init_11 (fun H locs h => ?_)
  replace h := h.eq st_M
  replace h : sT Γ s (xW Γ d hm mc so tl tb ((q, .inr (5, [.ref (d (20 + 3 * i)), .int (nI fst), .int 0])) :: wr)) H locs := h
  refine lv_aload_n C.x C.b dc_R_init_14 rfl (lv_at hl 0 rfl) ?_
  refine lv_iload_n C.x C.b dc_R_init_15 rfl (lv_at hl 3 rfl) ?_
  refine rg_putF (ty := .int) C hmn h 257 lk_M rfl in_R tk_R nm_R 2 (by decide) fl_R_17 rfl rfl (by decide +kernel) rfl rfl (by simp) dc_R_init_16 (fun H locs h => ?_)
  replace h := h.eq st_M
  replace h : sT Γ s (xW Γ d hm mc so tl tb ((q, .inr (5, [.ref (d (20 + 3 * i)), .int (nI fst), .int en])) :: wr)) H locs := h
  rw [hQ]
  exact rt_v C () h (rfl) dc_R_init_19

abbrev rm_B_init : Room := { frames := 2, cells := 0, slots := 0, locals := 32 }
set_option maxRecDepth 100000 in
set_option maxHeartbeats 4000000 in
theorem c_B_init (l : Launch) (Γ : gG) (d : Nat → Nat) (hm : Nat) (mc : va_E) (so : Nat → Nat → Nat) (tl : Nat → Nat → Int64) (tb : Nat → Nat → Nat → Nat) (wr : va_W) (q : Nat) (how i j : Nat) : cT l Γ my_B_init bc_B_init 4 none rm_B_init [.ref q, .int (nI how), .ref (d (20 + 3 * i)), .ref (d (20 + 3 * j))] (xW Γ d hm mc so tl tb ((q, .inr (6, [.int 0, .null, .null])) :: wr)) (S := Unit) (fun v _ => v = none) (fun _ => xW Γ d hm mc so tl tb ((q, .inr (6, [.int (nI how), .ref (d (20 + 3 * i)), .ref (d (20 + 3 * j))])) :: wr)) := by
  refine cT.start (by decide) (Nat.le_of_ble_eq_true rfl) (fun p e s m args below meth c ls Q hQ C hmn h hl => ?_)
  replace hl : lv_has ls 4 [(0, .ref q), (1, .int (nI how)), (2, .ref (d (20 + 3 * i))), (3, .ref (d (20 + 3 * j)))] := hl
  refine lv_aload_n C.x C.b dc_B_init_0 rfl (lv_at hl 0 rfl) ?_
  refine kv_IN (As := []) (rest := []) C h hl.1 (c_A_init l Γ _ q) mw_A_init lk_B_3 rfl (by decide) (by decide) (Nat.le_of_ble_eq_true rfl) dc_B_init_1 (fun v u H locs hp h => ?_)
  obtain rfl := hp
  replace h : sT Γ s (xW Γ d hm mc so tl tb ((q, .inr (6, [.int 0, .null, .null])) :: wr)) H locs := h
  refine W.eq (g2 := F0 m 4 ls []) rfl ?_
  refine lv_aload_n C.x C.b dc_B_init_4 rfl (lv_at hl 0 rfl) ?_
  refine lv_iload_n C.x C.b dc_B_init_5 rfl (lv_at hl 1 rfl) ?_
  refine rg_putF (ty := .int) C hmn h 257 lk_M rfl in_B tk_B nm_B 0 (by decide) fl_B_9 rfl rfl (by decide +kernel) rfl rfl (by simp) dc_B_init_6 (fun H locs h => ?_)
  replace h := h.eq st_M
  replace h : sT Γ s (xW Γ d hm mc so tl tb ((q, .inr (6, [.int (nI how), .null, .null])) :: wr)) H locs := h
  refine lv_aload_n C.x C.b dc_B_init_9 rfl (lv_at hl 0 rfl) ?_
  refine lv_aload_n C.x C.b dc_B_init_10 rfl (lv_at hl 2 rfl) ?_
  refine rg_putF (ty := .object "RestSets$Table") C hmn h 257 lk_M rfl in_B tk_B nm_B 1 (by decide) fl_B_15 rfl rfl (by decide +kernel) rfl rfl (by simp) dc_B_init_11 (fun H locs h => ?_)
  replace h := h.eq st_M
  replace h : sT Γ s (xW Γ d hm mc so tl tb ((q, .inr (6, [.int (nI how), .ref (d (20 + 3 * i)), .null])) :: wr)) H locs := h
  refine lv_aload_n C.x C.b dc_B_init_14 rfl (lv_at hl 0 rfl) ?_
  refine lv_aload_n C.x C.b dc_B_init_15 rfl (lv_at hl 3 rfl) ?_
  refine rg_putF (ty := .object "RestSets$Table") C hmn h 257 lk_M rfl in_B tk_B nm_B 2 (by decide) fl_B_19 rfl rfl (by decide +kernel) rfl rfl (by simp) dc_B_init_16 (fun H locs h => ?_)
  replace h := h.eq st_M
  replace h : sT Γ s (xW Γ d hm mc so tl tb ((q, .inr (6, [.int (nI how), .ref (d (20 + 3 * i)), .ref (d (20 + 3 * j))])) :: wr)) H locs := h
  rw [hQ]
  exact rt_v C () h (rfl) dc_B_init_19

abbrev rm_H_init : Room := { frames := 2, cells := 0, slots := 0, locals := 32 }
set_option maxRecDepth 100000 in
set_option maxHeartbeats 4000000 in
theorem c_H_init (l : Launch) (Γ : gG) (d : Nat → Nat) (hm : Nat) (mc : va_E) (so : Nat → Nat → Nat) (tl : Nat → Nat → Int64) (tb : Nat → Nat → Nat → Nat) (wr : va_W) (q : Nat) (i j : Nat) : cT l Γ my_H_init bc_H_init 3 none rm_H_init [.ref q, .ref (d (20 + 3 * i)), .ref (d (20 + 3 * j))] (xW Γ d hm mc so tl tb ((q, .inr (7, [.null, .null])) :: wr)) (S := Unit) (fun v _ => v = none) (fun _ => xW Γ d hm mc so tl tb ((q, .inr (7, [.ref (d (20 + 3 * i)), .ref (d (20 + 3 * j))])) :: wr)) := by
  refine cT.start (by decide) (Nat.le_of_ble_eq_true rfl) (fun p e s m args below meth c ls Q hQ C hmn h hl => ?_)
  replace hl : lv_has ls 3 [(0, .ref q), (1, .ref (d (20 + 3 * i))), (2, .ref (d (20 + 3 * j)))] := hl
  refine lv_aload_n C.x C.b dc_H_init_0 rfl (lv_at hl 0 rfl) ?_
  refine kv_IN (As := []) (rest := []) C h hl.1 (c_A_init l Γ _ q) mw_A_init lk_H_3 rfl (by decide) (by decide) (Nat.le_of_ble_eq_true rfl) dc_H_init_1 (fun v u H locs hp h => ?_)
  obtain rfl := hp
  replace h : sT Γ s (xW Γ d hm mc so tl tb ((q, .inr (7, [.null, .null])) :: wr)) H locs := h
  refine W.eq (g2 := F0 m 4 ls []) rfl ?_
  refine lv_aload_n C.x C.b dc_H_init_4 rfl (lv_at hl 0 rfl) ?_
  refine lv_aload_n C.x C.b dc_H_init_5 rfl (lv_at hl 1 rfl) ?_
  refine rg_putF (ty := .object "RestSets$Table") C hmn h 257 lk_M rfl in_H tk_H nm_H 0 (by decide) fl_H_9 rfl rfl (by decide +kernel) rfl rfl (by simp) dc_H_init_6 (fun H locs h => ?_)
  replace h := h.eq st_M
  replace h : sT Γ s (xW Γ d hm mc so tl tb ((q, .inr (7, [.ref (d (20 + 3 * i)), .null])) :: wr)) H locs := h
  refine lv_aload_n C.x C.b dc_H_init_9 rfl (lv_at hl 0 rfl) ?_
  refine lv_aload_n C.x C.b dc_H_init_10 rfl (lv_at hl 2 rfl) ?_
  refine rg_putF (ty := .object "RestSets$Table") C hmn h 257 lk_M rfl in_H tk_H nm_H 1 (by decide) fl_H_15 rfl rfl (by decide +kernel) rfl rfl (by simp) dc_H_init_11 (fun H locs h => ?_)
  replace h := h.eq st_M
  replace h : sT Γ s (xW Γ d hm mc so tl tb ((q, .inr (7, [.ref (d (20 + 3 * i)), .ref (d (20 + 3 * j))])) :: wr)) H locs := h
  rw [hQ]
  exact rt_v C () h (rfl) dc_H_init_14

abbrev rm_N_init : Room := { frames := 2, cells := 0, slots := 0, locals := 32 }
set_option maxRecDepth 100000 in
set_option maxHeartbeats 4000000 in
theorem c_N_init (l : Launch) (Γ : gG) (d : Nat → Nat) (hm : Nat) (mc : va_E) (so : Nat → Nat → Nat) (tl : Nat → Nat → Int64) (tb : Nat → Nat → Nat → Nat) (wr : va_W) (q : Nat) (i : Nat) : cT l Γ my_N_init bc_N_init 2 none rm_N_init [.ref q, .ref (d (20 + 3 * i))] (xW Γ d hm mc so tl tb ((q, .inr (8, [.null])) :: wr)) (S := Unit) (fun v _ => v = none) (fun _ => xW Γ d hm mc so tl tb ((q, .inr (8, [.ref (d (20 + 3 * i))])) :: wr)) := by
  refine cT.start (by decide) (Nat.le_of_ble_eq_true rfl) (fun p e s m args below meth c ls Q hQ C hmn h hl => ?_)
  replace hl : lv_has ls 2 [(0, .ref q), (1, .ref (d (20 + 3 * i)))] := hl
  refine lv_aload_n C.x C.b dc_N_init_0 rfl (lv_at hl 0 rfl) ?_
  refine kv_IN (As := []) (rest := []) C h hl.1 (c_A_init l Γ _ q) mw_A_init lk_N_3 rfl (by decide) (by decide) (Nat.le_of_ble_eq_true rfl) dc_N_init_1 (fun v u H locs hp h => ?_)
  obtain rfl := hp
  replace h : sT Γ s (xW Γ d hm mc so tl tb ((q, .inr (8, [.null])) :: wr)) H locs := h
  refine W.eq (g2 := F0 m 4 ls []) rfl ?_
  refine lv_aload_n C.x C.b dc_N_init_4 rfl (lv_at hl 0 rfl) ?_
  refine lv_aload_n C.x C.b dc_N_init_5 rfl (lv_at hl 1 rfl) ?_
  refine rg_putF (ty := .object "RestSets$Table") C hmn h 257 lk_M rfl in_N tk_N nm_N 0 (by decide) fl_N_9 rfl rfl (by decide +kernel) rfl rfl (by simp) dc_N_init_6 (fun H locs h => ?_)
  replace h := h.eq st_M
  replace h : sT Γ s (xW Γ d hm mc so tl tb ((q, .inr (8, [.ref (d (20 + 3 * i))])) :: wr)) H locs := h
  rw [hQ]
  exact rt_v C () h (rfl) dc_N_init_9

abbrev rm_K_init : Room := { frames := 2, cells := 0, slots := 0, locals := 32 }
set_option maxRecDepth 100000 in
set_option maxHeartbeats 4000000 in
theorem c_K_init (l : Launch) (Γ : gG) (d : Nat → Nat) (hm : Nat) (mc : va_E) (so : Nat → Nat → Nat) (tl : Nat → Nat → Int64) (tb : Nat → Nat → Nat → Nat) (wr : va_W) (q : Nat) (i : Nat) : cT l Γ my_K_init bc_K_init 2 none rm_K_init [.ref q, .ref (d (20 + 3 * i))] (xW Γ d hm mc so tl tb ((q, .inr (9, [.null])) :: wr)) (S := Unit) (fun v _ => v = none) (fun _ => xW Γ d hm mc so tl tb ((q, .inr (9, [.ref (d (20 + 3 * i))])) :: wr)) := by
  refine cT.start (by decide) (Nat.le_of_ble_eq_true rfl) (fun p e s m args below meth c ls Q hQ C hmn h hl => ?_)
  replace hl : lv_has ls 2 [(0, .ref q), (1, .ref (d (20 + 3 * i)))] := hl
  refine lv_aload_n C.x C.b dc_K_init_0 rfl (lv_at hl 0 rfl) ?_
  refine kv_IN (As := []) (rest := []) C h hl.1 (c_A_init l Γ _ q) mw_A_init lk_K_1 rfl (by decide) (by decide) (Nat.le_of_ble_eq_true rfl) dc_K_init_1 (fun v u H locs hp h => ?_)
  obtain rfl := hp
  replace h : sT Γ s (xW Γ d hm mc so tl tb ((q, .inr (9, [.null])) :: wr)) H locs := h
  refine W.eq (g2 := F0 m 4 ls []) rfl ?_
  refine lv_aload_n C.x C.b dc_K_init_4 rfl (lv_at hl 0 rfl) ?_
  refine lv_aload_n C.x C.b dc_K_init_5 rfl (lv_at hl 1 rfl) ?_
  refine rg_putF (ty := .object "RestSets$Table") C hmn h 257 lk_M rfl in_K tk_K nm_K 0 (by decide) fl_K_7 rfl rfl (by decide +kernel) rfl rfl (by simp) dc_K_init_6 (fun H locs h => ?_)
  replace h := h.eq st_M
  replace h : sT Γ s (xW Γ d hm mc so tl tb ((q, .inr (9, [.ref (d (20 + 3 * i))])) :: wr)) H locs := h
  rw [hQ]
  exact rt_v C () h (rfl) dc_K_init_9

abbrev rm_X_tableOf : Room := { frames := 6, cells := 1, slots := 6, locals := 82 }
set_option maxRecDepth 100000 in
set_option maxHeartbeats 4000000 in
theorem c_X_tableOf (l : Launch) (Γ : gG) (d : Nat → Nat) (hm : Nat) (mc : va_E) (so : Nat → Nat → Nat) (tl : Nat → Nat → Int64) (tb : Nat → Nat → Nat → Nat) (wr : va_W) (pp : Int32) (h80 : so 10 3 ≤ 80) (hst : l.stackTraces = false) : cTx l Γ my_X_tableOf bc_X_tableOf 2 (some (.object "RestSets$Table")) rm_X_tableOf [.ref (d 0), .int pp] (xW Γ d hm mc so tl tb wr) (S := Nat) (fun v j => v = some (.ref (d (20 + 3 * j))) ∧ j < so 10 3 ∧ pp = nI j) (fun _ => xW Γ d hm mc so tl tb wr) (SX := Unit) (fun E _ => E = en_iae ∧ ¬ ∃ j, j < so 10 3 ∧ pp = nI j) (fun _ => xW Γ d hm mc so tl tb wr) := by
  refine cTx.start (by decide) (Nat.le_of_ble_eq_true rfl) (fun p e s m args below meth c ls Q hQ C hmn hno hX h hl => ?_)
  replace hl : lv_has ls 2 [(0, .ref (d 0)), (1, .int pp)] := hl
  refine lv_iload_n C.x C.b dc_X_tableOf_0 rfl (lv_at hl 1 rfl) ?_
  refine lv_if_lt (tgt := 12) C.x C.b dc_X_tableOf_1 (by decide) (fun q1 => ?_) (fun q1 => ?_)
  · rw [hQ]
    exact rt_thr (names := ns_iae) C hst hno hX hl.1 () h (⟨rfl, fun z => by obtain ⟨j, hj, e⟩ := z; rw [e] at q1; exact nI_pos (by omega) q1⟩) (by decide) (by decide) tw_iae tk_iae ti_iae (text := "no such set") (by decide) dc_X_tableOf_12 dc_X_tableOf_15 dc_X_tableOf_16 dc_X_tableOf_18 dc_X_tableOf_21 (by decide) (Nat.le_of_ble_eq_true rfl) (by decide) (by decide) (by decide) (by decide)
  · refine lv_iload_n C.x C.b dc_X_tableOf_4 rfl (lv_at hl 1 rfl) ?_
    refine lv_aload_n C.x C.b dc_X_tableOf_5 rfl (lv_at hl 0 rfl) ?_
    refine rg_get C h 0 rfl rfl in_X 3 (by decide) fl_X_135 rfl dc_X_tableOf_6 ?_
    refine lv_icmp_lt (tgt := 22) C.x C.b dc_X_tableOf_9 (by decide) (fun q9 => ?_) (fun q9 => ?_)
    · obtain ⟨j, hj, hpj⟩ : ∃ j, j < so 10 3 ∧ pp = nI j := by
        rcases pk_ix pp (n := so 10 3) (by omega) with z | z | z
        · exact absurd z q1
        · exact absurd q9 (Int32.not_lt.mpr z)
        · exact z
      subst hpj
      refine lv_aload_n C.x C.b dc_X_tableOf_22 rfl (lv_at hl 0 rfl) ?_
      refine rg_get C h 0 rfl rfl in_X 0 (by decide) fl_X_11 rfl dc_X_tableOf_23 ?_
      refine lv_iload_n C.x C.b dc_X_tableOf_26 rfl (lv_at hl 1 rfl) ?_
      refine rg_ald C h 1 rfl (by omega) (by decide) rfl dc_X_tableOf_27 ?_
      refine W.widen (k := 1) (n := 6) (by decide) (by decide) ?_
      rw [hQ]
      exact vx_ret (rt_a C j h (⟨rfl, hj, rfl⟩) dc_X_tableOf_28)
    · rw [hQ]
      exact rt_thr (names := ns_iae) C hst hno hX hl.1 () h (⟨rfl, fun z => by obtain ⟨j, hj, e⟩ := z; rw [e] at q9; exact q9 (nI_lt hj (by omega))⟩) (by decide) (by decide) tw_iae tk_iae ti_iae (text := "no such set") (by decide) dc_X_tableOf_12 dc_X_tableOf_15 dc_X_tableOf_16 dc_X_tableOf_18 dc_X_tableOf_21 (by decide) (Nat.le_of_ble_eq_true rfl) (by decide) (by decide) (by decide) (by decide)

abbrev rm_X_keep : Room := { frames := 6, cells := 1, slots := 6, locals := 142 }
set_option maxRecDepth 100000 in
set_option maxHeartbeats 4000000 in
theorem c_X_keep (l : Launch) (Γ : gG) (d : Nat → Nat) (hm : Nat) (mc : va_E) (so : Nat → Nat → Nat) (tl : Nat → Nat → Int64) (tb : Nat → Nat → Nat → Nat) (wr : va_W) (hm2 : Nat) (mc2 : va_E) (M : mM) (hM : mOK d tb mc2 M) (hMx : ∀ t, (∀ a, a ≠ so 10 3 → t a = tb a) → mOK d t mc2 M) (hC0 : CS so tb) (hst : l.stackTraces = false) : cTx l Γ my_X_keep bc_X_keep 4 (some .int) rm_X_keep [.ref (d 0), .ref hm2] (xW Γ d hm mc so tl tb ((hm2, mc2) :: wr)) (S := xG) (mkP so tb M) (fun u => xW Γ d u.1 u.2.1 u.2.2.1 tl u.2.2.2 wr) (SX := xG) (fun E u => E = en_ioe ∧ mkX so tb M u) (fun u => xW Γ d u.1 u.2.1 u.2.2.1 tl u.2.2.2 wr) := by
  refine cTx.start (by decide) (Nat.le_of_ble_eq_true rfl) (fun p e s m args below meth c ls Q hQ C hmn hno hX h hl => ?_)
  replace hl : lv_has ls 4 [(0, .ref (d 0)), (1, .ref hm2)] := hl
  have h80 := hC0.2.1
  refine lv_aload_n C.x C.b dc_X_keep_0 rfl (lv_at hl 0 rfl) ?_
  refine rg_get C h 0 rfl rfl in_X 3 (by decide) fl_X_135 rfl dc_X_keep_1 ?_
  refine lv_bipush (v := (nI 80)) C.x C.b dc_X_keep_4 (by decide +kernel) ?_
  refine bc_lt (tgt := 19) C (by omega) (by omega) dc_X_keep_6 (by decide) (fun q6 => ?_) (fun q6 => ?_)
  · refine lv_aload_n C.x C.b dc_X_keep_19 rfl (lv_at hl 0 rfl) ?_
    refine rg_get C h 0 rfl rfl in_X 1 (by decide) fl_X_18 rfl dc_X_keep_20 ?_
    refine lv_aload_n C.x C.b dc_X_keep_23 rfl (lv_at hl 1 rfl) ?_
    refine kv_V (As := [.ref hm2]) (rest := []) C h hl.1 (c_S_begin l Γ d hm mc so tl tb wr hm2 mc2 M hM hC0.1) mw_S_begin lk_X_98 (q0 := 2) rfl rfl rfl (by decide) (by decide) (Nat.le_of_ble_eq_true rfl) dc_X_keep_24 (fun v u H locs hp h => ?_)
    obtain ⟨so_1, rfl⟩ : ∃ zz9, zz9 = u := ⟨_, rfl⟩
    obtain ⟨rfl, bg⟩ := hp
    replace h : sT Γ s (xW Γ d hm2 mc2 so_1 tl tb wr) H locs := h
    refine W.eq (g2 := F0 m 27 ls []) rfl ?_
    refine lv_iconst (v := (nI 1)) C.x C.b dc_X_keep_27 (by decide +kernel) ?_
    refine lv_istore_n (lv' := [(2, .int (nI 1)), (0, .ref (d 0)), (1, .ref hm2)]) C.x C.b dc_X_keep_28 rfl hl (by decide) rfl (fun ls hl => ?_)
    refine lv_iconst (v := (nI 0)) C.x C.b dc_X_keep_29 (by decide +kernel) ?_
    refine lv_istore_n (lv' := [(3, .int (nI 0)), (2, .int (nI 1)), (0, .ref (d 0)), (1, .ref hm2)]) C.x C.b dc_X_keep_30 rfl hl (by decide) rfl (fun ls hl => ?_)
    have hB : (1 : Nat) = 1 → KI M so_1 ∧ so_1 10 1 = 0 + 1 := fun _ => ⟨⟨by omega, fun k hk => by omega, fun hk => by omega, by omega, fun k k2 a b => by omega⟩, by omega⟩
    have lp_31 : ∀ (n_31 : Nat) (r : Nat) (vd : Nat) (z : Nat → Nat → Nat) (H : Heap) (locs : List Loc) (ls : Array Slot), 10 - r < n_31 → (r ≤ 10) → (SI M z) → (z 10 3 = so 10 3) → (1 ≤ z 10 0) → (z 1 0 = M.1) → (vd ≤ 2) → (vd = 0 → KI M z ∧ SD M z (z 10 0) ∧ 1 ≤ z 10 2) → (vd = 1 → KI M z ∧ z 10 1 = r + 1) → (vd = 2 → MN M) → sT Γ s (xW Γ d hm2 mc2 z tl tb wr) H locs → lv_has ls 4 [(3, .int (nI r)), (2, .int (nI vd)), (0, .ref (d 0))] → W p l e rm_X_keep s m args below meth c H locs 0 0 Q (F0 m 31 ls []) := by
      intro n_31
      induction n_31 with
      | zero => intro r vd z H locs ls hms; exact absurd hms (Nat.not_lt_zero _)
      | succ n_31 ih_31 =>
        intro r vd z H locs ls hms hr SI_z h3 h00 h01 hv2 hA hB hC h hl
        refine lv_iload_n C.x C.b dc_X_keep_31 rfl (lv_at hl 0 rfl) ?_
        refine lv_bipush (v := (nI 10)) C.x C.b dc_X_keep_32 (by decide +kernel) ?_
        refine bc_ge (tgt := 56) C (by omega) (by omega) dc_X_keep_34 (by decide) (fun q34 => ?_) (fun q34 => ?_)
        · refine lv_iload_n C.x C.b dc_X_keep_56 rfl (lv_at hl 1 rfl) ?_
          refine bz_eq (tgt := 70) C (by omega) dc_X_keep_57 (by decide) (fun q57 => ?_) (fun q57 => ?_)
          · have hv0 : vd = 0 := by omega
            obtain ⟨KI_z, SD_z, hk1⟩ := hA hv0
            refine lv_aload_n C.x C.b dc_X_keep_70 rfl (lv_at hl 2 rfl) ?_
            refine rg_get C h 0 rfl rfl in_X 1 (by decide) fl_X_18 rfl dc_X_keep_71 ?_
            refine lv_aload_n C.x C.b dc_X_keep_74 rfl (lv_at hl 2 rfl) ?_
            refine rg_get C h 0 rfl rfl in_X 0 (by decide) fl_X_11 rfl dc_X_keep_75 ?_
            refine lv_aload_n C.x C.b dc_X_keep_78 rfl (lv_at hl 2 rfl) ?_
            refine rg_get C h 0 rfl rfl in_X 3 (by decide) fl_X_135 rfl dc_X_keep_79 ?_
            refine rg_ald C h 1 rfl (by omega) (by decide) rfl dc_X_keep_82 ?_
            refine kv_V (As := [.ref (d (20 + 3 * (z 10 3)))]) (rest := []) C h hl.1 (c_S_writeTo l Γ d hm2 mc2 z tl tb wr M (z 10 3) (by omega) (fun t ht => hMx t (by rw [← h3]; exact ht)) SI_z KI_z SD_z hk1 h01 h00) mw_S_writeTo lk_X_151 (q0 := 2) rfl rfl rfl (by decide) (by decide) (Nat.le_of_ble_eq_true rfl) dc_X_keep_83 (fun v u H locs hp h => ?_)
            obtain ⟨⟨so_2, tb_3⟩, rfl⟩ : ∃ zz9, zz9 = u := ⟨_, rfl⟩
            obtain ⟨rfl, SI_so_2, w3_so_2, wo_so_2, wg_so_2, wl_so_2⟩ := hp
            dsimp only at SI_so_2 w3_so_2 wo_so_2 wg_so_2 wl_so_2
            replace h : sT Γ s (xW Γ d hm2 mc2 so_2 tl tb_3 wr) H locs := h
            refine W.eq (g2 := F0 m 86 ls []) rfl ?_
            refine lv_aload_n C.x C.b dc_X_keep_86 rfl (lv_at hl 2 rfl) ?_
            refine lv_dup C.x C.b dc_X_keep_87 rfl ?_
            refine rg_get C h 0 rfl rfl in_X 3 (by decide) fl_X_135 rfl dc_X_keep_88 ?_
            refine lv_iconst (v := (nI 1)) C.x C.b dc_X_keep_91 (by decide +kernel) ?_
            refine lv_iadd C.x C.b dc_X_keep_92 ?_
            refine tp_i (nI_add (so_2 10 3) 1) ?_
            refine rg_put (ty := .int) C h 0 rfl rfl in_X tk_X nm_X 3 (by decide) fl_X_135 rfl (by decide +kernel) rfl rfl (by simp) dc_X_keep_93 (fun H locs h => ?_)
            obtain ⟨so_4, eso_4⟩ : ∃ zz9, zz9 = us so_2 10 (us (so_2 10) 3 ((so_2 10 3) + 1)) := ⟨_, rfl⟩
            have xso_4 : so_4 10 0 = so_2 10 0 ∧ so_4 10 1 = so_2 10 1 ∧ so_4 10 2 = so_2 10 2 ∧ so_4 10 3 = ((so_2 10 3) + 1) := by rw [eso_4, us_s]; exact ⟨us_n _ _ (by decide), us_n _ _ (by decide), us_n _ _ (by decide), us_s _ _ _⟩
            replace h : sT Γ s (xW Γ d hm2 mc2 so_4 tl tb_3 wr) H locs := by rw [eso_4]; exact h
            refine lv_aload_n C.x C.b dc_X_keep_96 rfl (lv_at hl 2 rfl) ?_
            refine rg_get C h 0 rfl rfl in_X 3 (by decide) fl_X_135 rfl dc_X_keep_97 ?_
            refine lv_iconst (v := (nI 1)) C.x C.b dc_X_keep_100 (by decide +kernel) ?_
            refine lv_isub C.x C.b dc_X_keep_101 ?_
            refine tp_i (pk_sub (a := (so_4 10 3)) (b := 1) (by omega)) ?_
            have hok := mok_ok hM
            have e10 : so_4 10 3 = so 10 3 + 1 := by omega
            have hsB : sB so_4 := by
              have a := SI_so_2.sB hok.2.2
              have e0 : so_4 10 0 = so_2 10 0 := xso_4.1
              have k1 : ∀ n, n ≠ 10 → so_4 n = so_2 n := fun n hn => by rw [eso_4, us_n _ _ hn]
              unfold sB
              rw [e0, k1 1 (by decide), k1 0 (by decide)]
              exact a
            have hz3 : z 10 3 = so 10 3 := h3
            have hfin : mkP so tb M (some (.int (nI (so_4 10 3 - 1)))) (hm2, mc2, so_4, tb_3) := by
              refine ⟨by rw [e10, Nat.add_sub_cancel], by omega, ⟨hsB, by show so_4 10 3 ≤ 80; omega, fun i hi => ?_⟩, e10, fun a ha => ?_, ?_⟩
              · show tG (tb_3 i)
                by_cases e : i = z 10 3
                · rw [e]; exact wg_so_2
                · rw [wo_so_2 i e]; exact hC0.2.2 i (by have : i < so_4 10 3 := hi; omega)
              · show tb_3 a = tb a
                exact wo_so_2 a (by omega)
              · show ∀ w, lts w → macc (tM (tb_3 (so 10 3))) 0 w = _
                rw [← hz3]; exact wl_so_2
            refine W.widen (k := 1) (n := 6) (by decide) (by decide) ?_
            rw [hQ]
            exact vx_ret (rt_i C (hm2, mc2, so_4, tb_3) h (hfin) dc_X_keep_102)
          · have hvv : vd = 2 := by
              by_cases e : vd = 1
              · exfalso
                obtain ⟨a, b⟩ := hB e
                have c := a.1
                rcases a.2.2.2.1 with z9 | z9 <;> omega
              · omega
            rw [hQ]
            exact rt_thr (names := ns_ioe) C hst hno hX hl.1 (hm2, mc2, z, tb) h (⟨rfl, ⟨SI_z.sB (mok_ok hM).2.2, by show z 10 3 ≤ 80; omega, fun i hi => hC0.2.2 i (by have : i < z 10 3 := hi; omega)⟩, h3, rfl, Or.inr (hC hvv)⟩) (by decide) (by decide) tw_ioe tk_ioe ti_ioe (text := "too many rests") (by decide) dc_X_keep_60 dc_X_keep_63 dc_X_keep_64 dc_X_keep_66 dc_X_keep_69 (by decide) (Nat.le_of_ble_eq_true rfl) (by decide) (by decide) (by decide) (by decide)
        · refine lv_iload_n C.x C.b dc_X_keep_37 rfl (lv_at hl 1 rfl) ?_
          refine lv_iconst (v := (nI 1)) C.x C.b dc_X_keep_38 (by decide +kernel) ?_
          refine bc_ne (tgt := 56) C (by omega) (by omega) dc_X_keep_39 (by decide) (fun q39 => ?_) (fun q39 => ?_)
          · refine lv_iload_n C.x C.b dc_X_keep_56 rfl (lv_at hl 1 rfl) ?_
            refine bz_eq (tgt := 70) C (by omega) dc_X_keep_57 (by decide) (fun q57 => ?_) (fun q57 => ?_)
            · have hv0 : vd = 0 := by omega
              obtain ⟨KI_z, SD_z, hk1⟩ := hA hv0
              refine lv_aload_n C.x C.b dc_X_keep_70 rfl (lv_at hl 2 rfl) ?_
              refine rg_get C h 0 rfl rfl in_X 1 (by decide) fl_X_18 rfl dc_X_keep_71 ?_
              refine lv_aload_n C.x C.b dc_X_keep_74 rfl (lv_at hl 2 rfl) ?_
              refine rg_get C h 0 rfl rfl in_X 0 (by decide) fl_X_11 rfl dc_X_keep_75 ?_
              refine lv_aload_n C.x C.b dc_X_keep_78 rfl (lv_at hl 2 rfl) ?_
              refine rg_get C h 0 rfl rfl in_X 3 (by decide) fl_X_135 rfl dc_X_keep_79 ?_
              refine rg_ald C h 1 rfl (by omega) (by decide) rfl dc_X_keep_82 ?_
              refine kv_V (As := [.ref (d (20 + 3 * (z 10 3)))]) (rest := []) C h hl.1 (c_S_writeTo l Γ d hm2 mc2 z tl tb wr M (z 10 3) (by omega) (fun t ht => hMx t (by rw [← h3]; exact ht)) SI_z KI_z SD_z hk1 h01 h00) mw_S_writeTo lk_X_151 (q0 := 2) rfl rfl rfl (by decide) (by decide) (Nat.le_of_ble_eq_true rfl) dc_X_keep_83 (fun v u H locs hp h => ?_)
              obtain ⟨⟨so_5, tb_6⟩, rfl⟩ : ∃ zz9, zz9 = u := ⟨_, rfl⟩
              obtain ⟨rfl, SI_so_5, w3_so_5, wo_so_5, wg_so_5, wl_so_5⟩ := hp
              dsimp only at SI_so_5 w3_so_5 wo_so_5 wg_so_5 wl_so_5
              replace h : sT Γ s (xW Γ d hm2 mc2 so_5 tl tb_6 wr) H locs := h
              refine W.eq (g2 := F0 m 86 ls []) rfl ?_
              refine lv_aload_n C.x C.b dc_X_keep_86 rfl (lv_at hl 2 rfl) ?_
              refine lv_dup C.x C.b dc_X_keep_87 rfl ?_
              refine rg_get C h 0 rfl rfl in_X 3 (by decide) fl_X_135 rfl dc_X_keep_88 ?_
              refine lv_iconst (v := (nI 1)) C.x C.b dc_X_keep_91 (by decide +kernel) ?_
              refine lv_iadd C.x C.b dc_X_keep_92 ?_
              refine tp_i (nI_add (so_5 10 3) 1) ?_
              refine rg_put (ty := .int) C h 0 rfl rfl in_X tk_X nm_X 3 (by decide) fl_X_135 rfl (by decide +kernel) rfl rfl (by simp) dc_X_keep_93 (fun H locs h => ?_)
              obtain ⟨so_7, eso_7⟩ : ∃ zz9, zz9 = us so_5 10 (us (so_5 10) 3 ((so_5 10 3) + 1)) := ⟨_, rfl⟩
              have xso_7 : so_7 10 0 = so_5 10 0 ∧ so_7 10 1 = so_5 10 1 ∧ so_7 10 2 = so_5 10 2 ∧ so_7 10 3 = ((so_5 10 3) + 1) := by rw [eso_7, us_s]; exact ⟨us_n _ _ (by decide), us_n _ _ (by decide), us_n _ _ (by decide), us_s _ _ _⟩
              replace h : sT Γ s (xW Γ d hm2 mc2 so_7 tl tb_6 wr) H locs := by rw [eso_7]; exact h
              refine lv_aload_n C.x C.b dc_X_keep_96 rfl (lv_at hl 2 rfl) ?_
              refine rg_get C h 0 rfl rfl in_X 3 (by decide) fl_X_135 rfl dc_X_keep_97 ?_
              refine lv_iconst (v := (nI 1)) C.x C.b dc_X_keep_100 (by decide +kernel) ?_
              refine lv_isub C.x C.b dc_X_keep_101 ?_
              refine tp_i (pk_sub (a := (so_7 10 3)) (b := 1) (by omega)) ?_
              have hok := mok_ok hM
              have e10 : so_7 10 3 = so 10 3 + 1 := by omega
              have hsB : sB so_7 := by
                have a := SI_so_5.sB hok.2.2
                have e0 : so_7 10 0 = so_5 10 0 := xso_7.1
                have k1 : ∀ n, n ≠ 10 → so_7 n = so_5 n := fun n hn => by rw [eso_7, us_n _ _ hn]
                unfold sB
                rw [e0, k1 1 (by decide), k1 0 (by decide)]
                exact a
              have hz3 : z 10 3 = so 10 3 := h3
              have hfin : mkP so tb M (some (.int (nI (so_7 10 3 - 1)))) (hm2, mc2, so_7, tb_6) := by
                refine ⟨by rw [e10, Nat.add_sub_cancel], by omega, ⟨hsB, by show so_7 10 3 ≤ 80; omega, fun i hi => ?_⟩, e10, fun a ha => ?_, ?_⟩
                · show tG (tb_6 i)
                  by_cases e : i = z 10 3
                  · rw [e]; exact wg_so_5
                  · rw [wo_so_5 i e]; exact hC0.2.2 i (by have : i < so_7 10 3 := hi; omega)
                · show tb_6 a = tb a
                  exact wo_so_5 a (by omega)
                · show ∀ w, lts w → macc (tM (tb_6 (so 10 3))) 0 w = _
                  rw [← hz3]; exact wl_so_5
              refine W.widen (k := 1) (n := 6) (by decide) (by decide) ?_
              rw [hQ]
              exact vx_ret (rt_i C (hm2, mc2, so_7, tb_6) h (hfin) dc_X_keep_102)
            · have hvv : vd = 2 := by
                by_cases e : vd = 1
                · exfalso
                  obtain ⟨a, b⟩ := hB e
                  have c := a.1
                  rcases a.2.2.2.1 with z9 | z9 <;> omega
                · omega
              rw [hQ]
              exact rt_thr (names := ns_ioe) C hst hno hX hl.1 (hm2, mc2, z, tb) h (⟨rfl, ⟨SI_z.sB (mok_ok hM).2.2, by show z 10 3 ≤ 80; omega, fun i hi => hC0.2.2 i (by have : i < z 10 3 := hi; omega)⟩, h3, rfl, Or.inr (hC hvv)⟩) (by decide) (by decide) tw_ioe tk_ioe ti_ioe (text := "too many rests") (by decide) dc_X_keep_60 dc_X_keep_63 dc_X_keep_64 dc_X_keep_66 dc_X_keep_69 (by decide) (Nat.le_of_ble_eq_true rfl) (by decide) (by decide) (by decide) (by decide)
          · refine lv_aload_n C.x C.b dc_X_keep_42 rfl (lv_at hl 2 rfl) ?_
            refine rg_get C h 0 rfl rfl in_X 1 (by decide) fl_X_18 rfl dc_X_keep_43 ?_
            refine kv_V (As := []) (rest := []) C h hl.1 (c_S_scan l Γ d hm2 mc2 z tl tb wr M hM SI_z (hB q39).1 h00 h01) mw_S_scan lk_X_145 (q0 := 2) rfl rfl rfl (by decide) (by decide) (Nat.le_of_ble_eq_true rfl) dc_X_keep_46 (fun v u H locs hp h => ?_)
            obtain ⟨⟨vd_8, so_9⟩, rfl⟩ : ∃ zz9, zz9 = u := ⟨_, rfl⟩
            obtain ⟨rfl, r2_so_9, SI_so_9, r3_so_9, r0_so_9, r1_so_9, rA_so_9, rB_so_9, rC_so_9⟩ := hp
            dsimp only at r2_so_9 SI_so_9 r3_so_9 r0_so_9 r1_so_9 rA_so_9 rB_so_9 rC_so_9
            replace h : sT Γ s (xW Γ d hm2 mc2 so_9 tl tb wr) H locs := h
            refine W.eq (g2 := F0 m 49 ls [.int (nI vd_8)]) rfl ?_
            refine lv_istore_n (lv' := [(2, .int (nI vd_8)), (3, .int (nI r)), (0, .ref (d 0))]) C.x C.b dc_X_keep_49 rfl hl (by decide) rfl (fun ls hl => ?_)
            refine lv_iinc (v := nI (r + 1)) (lv' := [(3, .int (nI (r + 1))), (2, .int (nI vd_8)), (0, .ref (d 0))]) C.x C.b dc_X_keep_50 hl (k := 1) rfl (nI_1 r) (by decide) rfl (fun ls hl => ?_)
            refine lv_goto (tgt := 31) C.x C.b dc_X_keep_53 (by decide) ?_
            have hB2 : vd_8 = 1 → KI M so_9 ∧ so_9 10 1 = r + 1 + 1 := fun e => ⟨(rB_so_9 e).1, by have := (rB_so_9 e).2; have := (hB q39).2; omega⟩
            exact ih_31 (r + 1) vd_8 so_9 _ _ _ (by omega) (by first | assumption | omega) (by first | exact SI_so_9 | exact bg.1) (by first | exact r3_so_9.trans h3 | omega) (by first | exact r0_so_9 | omega) (by first | exact r1_so_9 | exact bg.2.2.1) (by first | exact r2_so_9 | omega) (by first | exact rA_so_9 | omega) (by first | exact hB2 | exact hB) (by first | exact rC_so_9 | omega) h (lv_sub hl [0, 1, 2] rfl)
    exact lp_31 _ 0 1 so_1 _ _ _ (Nat.lt_succ_self _) (by first | assumption | omega) (by first | exact SI_so_9 | exact bg.1) (by first | exact r3_so_9.trans h3 | omega) (by first | exact r0_so_9 | omega) (by first | exact r1_so_9 | exact bg.2.2.1) (by first | exact r2_so_9 | omega) (by first | exact rA_so_9 | omega) (by first | exact hB2 | exact hB) (by first | exact rC_so_9 | omega) h (lv_sub hl [0, 1, 2] rfl)
  · replace h := xw_drop h
    rw [hQ]
    exact rt_thr (names := ns_ioe) C hst hno hX hl.1 (hm, mc, so, tb) h (⟨rfl, hC0, rfl, rfl, Or.inl q6⟩) (by decide) (by decide) tw_ioe tk_ioe ti_ioe (text := "too many sets") (by decide) dc_X_keep_9 dc_X_keep_12 dc_X_keep_13 dc_X_keep_15 dc_X_keep_18 (by decide) (Nat.le_of_ble_eq_true rfl) (by decide) (by decide) (by decide) (by decide)

