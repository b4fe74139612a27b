set_option maxHeartbeats 4000000 in
set_option maxRecDepth 100000 in
theorem kv_start {p : Program} {l : Launch} {e : Env} {R : Room} {s : State} {m : MethodId} {args : Array Value} {below : List Frame} {meth : Method} {c : Code} {H : Heap} {locs : List Loc} {cells slots : Nat} {Q : State → Prop} {Γ : gG} {cc : ByteArray} {ret : Option FieldType} {nL pc : Nat} {ls : Array Slot} {rest : List Value} {d : Nat → Nat} {hm : Nat} {mc : va_E} {so : Nat → Nat → Nat} {tl : Nat → Nat → Int64} {tb : Nat → Nat → Nat → Nat} {wr : va_W} {M : mM} {idx : Nat} (C : cX Γ p s m args meth c cc ret rn_S nL) (h : sT Γ s (xW Γ d hm mc so tl tb wr) H locs) (hl : ls.size = nL) (hM : mOK d tb mc M) (hk : Cond.methodLink rn_S idx my_A_start ∈ gw) (hR : 3 ≤ R.frames ∧ 64 ≤ R.locals) (hf : cells ≤ R.cells ∧ slots ≤ R.slots) (hs : (rest.map fun v => v.category).sum ≤ 8) (hdg : decode cc pc = .ok (.invokevirtual idx, 3))
    (kk : ∀ (H1 : Heap) (locs1 : List Loc), sT Γ s (xW Γ d hm mc so tl tb wr) H1 locs1 → W p l e R s m args below meth c H1 locs1 cells slots Q (F0 m (pc + 3) ls (.int (nI M.1) :: rest))) : W p l e R s m args below meth c H locs cells slots Q (F0 m pc ls (.ref hm :: rest)) := by
  rcases hM with ⟨bits, fst, rfl, h1, h2, rfl⟩ | ⟨i, fst, en, rfl, hi, ht, hft, rfl⟩ | ⟨how, i, j, rfl, hw, hi, hj, ht, hu, rfl⟩ | ⟨i, j, rfl, hi, hj, ht, hu, rfl⟩ | ⟨i, rfl, hi, ht, rfl⟩ | ⟨i, rfl, hi, ht, rfl⟩
  · refine kv_A (As := []) (rest := rest) (q0 := 4) C h hl (c_O_start l Γ d hm so tl tb wr bits fst ) ma_O_start hk rfl rfl rfl ⟨Nat.le_trans (by decide) hR.1, Nat.le_trans (by decide) hR.2⟩ hf hs hdg (fun v u H locs hp h => ?_)
    subst hp
    exact kk H locs h
  · refine kv_A (As := []) (rest := rest) (q0 := 4) C h hl (c_R_start l Γ d hm so tl tb wr i fst en hi ) ma_R_start hk rfl rfl rfl ⟨Nat.le_trans (by decide) hR.1, Nat.le_trans (by decide) hR.2⟩ hf hs hdg (fun v u H locs hp h => ?_)
    subst hp
    exact kk H locs h
  · refine kv_A (As := []) (rest := rest) (q0 := 4) C h hl (c_B_start l Γ d hm so tl tb wr how i j hi hj ) ma_B_start hk rfl rfl rfl ⟨Nat.le_trans (by decide) hR.1, Nat.le_trans (by decide) hR.2⟩ hf hs hdg (fun v u H locs hp h => ?_)
    subst hp
    exact kk H locs h
  · refine kv_A (As := []) (rest := rest) (q0 := 4) C h hl (c_H_start l Γ d hm so tl tb wr i j hi hj (Nat.lt_of_lt_of_le ht.2.2.1 (by decide))) ma_H_start hk rfl rfl rfl ⟨Nat.le_trans (by decide) hR.1, Nat.le_trans (by decide) hR.2⟩ hf hs hdg (fun v u H locs hp h => ?_)
    subst hp
    exact kk H locs h
  · refine kv_A (As := []) (rest := rest) (q0 := 4) C h hl (c_N_start l Γ d hm so tl tb wr i hi ) ma_N_start hk rfl rfl rfl ⟨Nat.le_trans (by decide) hR.1, Nat.le_trans (by decide) hR.2⟩ hf hs hdg (fun v u H locs hp h => ?_)
    subst hp
    exact kk H locs h
  · refine kv_A (As := []) (rest := rest) (q0 := 4) C h hl (c_K_start l Γ d hm so tl tb wr i hi ) ma_K_start hk rfl rfl rfl ⟨Nat.le_trans (by decide) hR.1, Nat.le_trans (by decide) hR.2⟩ hf hs hdg (fun v u H locs hp h => ?_)
    subst hp
    exact kk H locs h

set_option maxHeartbeats 4000000 in
set_option maxRecDepth 100000 in
theorem kv_step {p : Program} {l : Launch} {e : Env} {R : Room} {s : State} {m : MethodId} {args : Array Value} {below : List Frame} {meth : Method} {c : Code} {H : Heap} {locs : List Loc} {cells slots : Nat} {Q : State → Prop} {Γ : gG} {cc : ByteArray} {ret : Option FieldType} {nL pc : Nat} {ls : Array Slot} {rest : List Value} {d : Nat → Nat} {hm : Nat} {mc : va_E} {so : Nat → Nat → Nat} {tl : Nat → Nat → Int64} {tb : Nat → Nat → Nat → Nat} {wr : va_W} {M : mM} {idx pl lt : Nat} (C : cX Γ p s m args meth c cc ret rn_S nL) (h : sT Γ s (xW Γ d hm mc so tl tb wr) H locs) (hl : ls.size = nL) (hM : mOK d tb mc M) (hv : M.2.2.2 pl) (hlt : lt < 3) (hk : Cond.methodLink rn_S idx my_A_step ∈ gw) (hR : 3 ≤ R.frames ∧ 69 ≤ R.locals) (hf : cells ≤ R.cells ∧ slots ≤ R.slots) (hs : (rest.map fun v => v.category).sum ≤ 8) (hdg : decode cc pc = .ok (.invokevirtual idx, 3))
    (kk : ∀ (H1 : Heap) (locs1 : List Loc), sT Γ s (xW Γ d hm mc so tl tb wr) H1 locs1 → W p l e R s m args below meth c H1 locs1 cells slots Q (F0 m (pc + 3) ls (.int (nI (M.2.1 pl lt)) :: rest))) : W p l e R s m args below meth c H locs cells slots Q (F0 m pc ls (.int (nI lt) :: .int (nI pl) :: .ref hm :: rest)) := by
  rcases hM with ⟨bits, fst, rfl, h1, h2, rfl⟩ | ⟨i, fst, en, rfl, hi, ht, hft, rfl⟩ | ⟨how, i, j, rfl, hw, hi, hj, ht, hu, rfl⟩ | ⟨i, j, rfl, hi, hj, ht, hu, rfl⟩ | ⟨i, rfl, hi, ht, rfl⟩ | ⟨i, rfl, hi, ht, rfl⟩
  · refine kv_A (As := [.int (nI pl), .int (nI lt)]) (rest := rest) (q0 := 4) C h hl (c_O_step l Γ d hm so tl tb wr bits fst pl lt (by have : pl < 3 := hv; omega) hlt (by omega)) ma_O_step hk rfl rfl rfl ⟨Nat.le_trans (by decide) hR.1, Nat.le_trans (by decide) hR.2⟩ hf hs hdg (fun v u H locs hp h => ?_)
    subst hp
    exact kk H locs h
  · refine kv_A (As := [.int (nI pl), .int (nI lt)]) (rest := rest) (q0 := 4) C h hl (c_R_step l Γ d hm so tl tb wr i fst en hi pl lt (by have : pl < tb i 0 0 := hv; have := ht.2.1; omega) hlt) ma_R_step hk rfl rfl rfl ⟨Nat.le_trans (by decide) hR.1, Nat.le_trans (by decide) hR.2⟩ hf hs hdg (fun v u H locs hp h => ?_)
    subst hp
    exact kk H locs h
  · refine kv_A (As := [.int (nI pl), .int (nI lt)]) (rest := rest) (q0 := 4) C h hl (c_B_step l Γ d hm so tl tb wr how i j hi hj pl lt (by have : pl / 10 < tb i 0 0 ∧ pl % 10 < tb j 0 0 := hv; have := ht.2.1; omega) hlt) ma_B_step hk rfl rfl rfl ⟨Nat.le_trans (by decide) hR.1, Nat.le_trans (by decide) hR.2⟩ hf hs hdg (fun v u H locs hp h => ?_)
    subst hp
    exact kk H locs h
  · refine kv_A (As := [.int (nI pl), .int (nI lt)]) (rest := rest) (q0 := 4) C h hl (c_H_step l Γ d hm so tl tb wr i j hi hj pl lt (by have : pl / 1024 < tb i 0 0 := hv; have := ht.2.1; omega) hlt (Nat.lt_of_lt_of_le ht.2.2.1 (by decide)) (Nat.lt_of_lt_of_le (ht.2.2.2.2 _ lt hv hlt) ht.2.1) hu.2.1 (fun r hr => Nat.lt_of_lt_of_le (hu.2.2.2.2 r lt hr hlt) hu.2.1)) ma_H_step hk rfl rfl rfl ⟨Nat.le_trans (by decide) hR.1, Nat.le_trans (by decide) hR.2⟩ hf hs hdg (fun v u H locs hp h => ?_)
    subst hp
    exact kk H locs h
  · refine kv_A (As := [.int (nI pl), .int (nI lt)]) (rest := rest) (q0 := 4) C h hl (c_N_step l Γ d hm so tl tb wr i hi pl lt (by have : pl ≤ 1024 := hv; omega) hlt ht.2.1 (fun r hr => Nat.lt_of_lt_of_le (ht.2.2.2.2 r lt hr hlt) ht.2.1) (Nat.lt_of_lt_of_le ht.2.2.2.1 (by decide))) ma_N_step hk rfl rfl rfl ⟨Nat.le_trans (by decide) hR.1, Nat.le_trans (by decide) hR.2⟩ hf hs hdg (fun v u H locs hp h => ?_)
    subst hp
    exact kk H locs h
  · refine kv_A (As := [.int (nI pl), .int (nI lt)]) (rest := rest) (q0 := 4) C h hl (c_K_step l Γ d hm so tl tb wr i hi pl lt (by have : pl < 1024 := hv; omega) hlt ht.2.1 (fun r hr => Nat.lt_of_lt_of_le (ht.2.2.2.2 r lt hr hlt) ht.2.1)) ma_K_step hk rfl rfl rfl ⟨Nat.le_trans (by decide) hR.1, Nat.le_trans (by decide) hR.2⟩ hf hs hdg (fun v u H locs hp h => ?_)
    subst hp
    exact kk H locs h

set_option maxHeartbeats 4000000 in
set_option maxRecDepth 100000 in
theorem kv_accepts {p : Program} {l : Launch} {e : Env} {R : Room} {s : State} {m : MethodId} {args : Array Value} {below : List Frame} {meth : Method} {c : Code} {H : Heap} {locs : List Loc} {cells slots : Nat} {Q : State → Prop} {Γ : gG} {cc : ByteArray} {ret : Option FieldType} {nL pc : Nat} {ls : Array Slot} {rest : List Value} {d : Nat → Nat} {hm : Nat} {mc : va_E} {so : Nat → Nat → Nat} {tl : Nat → Nat → Int64} {tb : Nat → Nat → Nat → Nat} {wr : va_W} {M : mM} {idx pl : Nat} (C : cX Γ p s m args meth c cc ret rn_S nL) (h : sT Γ s (xW Γ d hm mc so tl tb wr) H locs) (hl : ls.size = nL) (hM : mOK d tb mc M) (hv : M.2.2.2 pl) (hk : Cond.methodLink rn_S idx my_A_accepts ∈ gw) (hR : 2 ≤ R.frames ∧ 44 ≤ R.locals) (hf : cells ≤ R.cells ∧ slots ≤ R.slots) (hs : (rest.map fun v => v.category).sum ≤ 8) (hdg : decode cc pc = .ok (.invokevirtual idx, 3))
    (kk : ∀ (H1 : Heap) (locs1 : List Loc), sT Γ s (xW Γ d hm mc so tl tb wr) H1 locs1 → W p l e R s m args below meth c H1 locs1 cells slots Q (F0 m (pc + 3) ls (.int (bI (M.2.2.1 pl)) :: rest))) : W p l e R s m args below meth c H locs cells slots Q (F0 m pc ls (.int (nI pl) :: .ref hm :: rest)) := by
  rcases hM with ⟨bits, fst, rfl, h1, h2, rfl⟩ | ⟨i, fst, en, rfl, hi, ht, hft, rfl⟩ | ⟨how, i, j, rfl, hw, hi, hj, ht, hu, rfl⟩ | ⟨i, j, rfl, hi, hj, ht, hu, rfl⟩ | ⟨i, rfl, hi, ht, rfl⟩ | ⟨i, rfl, hi, ht, rfl⟩
  · refine kv_A (As := [.int (nI pl)]) (rest := rest) (q0 := 4) C h hl (c_O_accepts l Γ d hm so tl tb wr bits fst pl (by have : pl < 3 := hv; omega)) ma_O_accepts hk rfl rfl rfl ⟨Nat.le_trans (by decide) hR.1, Nat.le_trans (by decide) hR.2⟩ hf hs hdg (fun v u H locs hp h => ?_)
    subst hp
    exact kk H locs h
  · refine kv_A (As := [.int (nI pl)]) (rest := rest) (q0 := 4) C h hl (c_R_accepts l Γ d hm so tl tb wr i fst en hi pl) ma_R_accepts hk rfl rfl rfl ⟨Nat.le_trans (by decide) hR.1, Nat.le_trans (by decide) hR.2⟩ hf hs hdg (fun v u H locs hp h => ?_)
    subst hp
    exact kk H locs h
  · refine kv_A (As := [.int (nI pl)]) (rest := rest) (q0 := 4) C h hl (c_B_accepts l Γ d hm so tl tb wr how i j hi hj pl (by have : pl / 10 < tb i 0 0 ∧ pl % 10 < tb j 0 0 := hv; have := ht.2.1; omega) hw (Nat.lt_of_lt_of_le ht.2.2.1 (by decide)) (Nat.lt_of_lt_of_le hu.2.2.1 (by decide))) ma_B_accepts hk rfl rfl rfl ⟨Nat.le_trans (by decide) hR.1, Nat.le_trans (by decide) hR.2⟩ hf hs hdg (fun v u H locs hp h => ?_)
    subst hp
    exact kk H locs h
  · refine kv_A (As := [.int (nI pl)]) (rest := rest) (q0 := 4) C h hl (c_H_accepts l Γ d hm so tl tb wr i j hi hj pl (by have : pl / 1024 < tb i 0 0 := hv; have := ht.2.1; omega)) ma_H_accepts hk rfl rfl rfl ⟨Nat.le_trans (by decide) hR.1, Nat.le_trans (by decide) hR.2⟩ hf hs hdg (fun v u H locs hp h => ?_)
    subst hp
    exact kk H locs h
  · refine kv_A (As := [.int (nI pl)]) (rest := rest) (q0 := 4) C h hl (c_N_accepts l Γ d hm so tl tb wr i hi pl (by have : pl ≤ 1024 := hv; omega)) ma_N_accepts hk rfl rfl rfl ⟨Nat.le_trans (by decide) hR.1, Nat.le_trans (by decide) hR.2⟩ hf hs hdg (fun v u H locs hp h => ?_)
    subst hp
    exact kk H locs h
  · refine kv_A (As := [.int (nI pl)]) (rest := rest) (q0 := 4) C h hl (c_K_accepts l Γ d hm so tl tb wr i hi pl (by have : pl < 1024 := hv; omega)) ma_K_accepts hk rfl rfl rfl ⟨Nat.le_trans (by decide) hR.1, Nat.le_trans (by decide) hR.2⟩ hf hs hdg (fun v u H locs hp h => ?_)
    subst hp
    exact kk H locs h

