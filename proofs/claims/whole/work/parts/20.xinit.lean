set_option maxRecDepth 100000 in theorem gw_aI : Cond.arrayClass .int ∈ gw := gw_t 96 rfl rfl
set_option maxRecDepth 100000 in theorem gw_aJ : Cond.arrayClass .long ∈ gw := gw_t 111 rfl rfl
set_option maxRecDepth 100000 in theorem gw_aZ : Cond.arrayClass .boolean ∈ gw := gw_t 699 rfl rfl
section XI
variable {p : Program} {l : Launch} {e : Env} {R : Room} {s : State} {m : MethodId} {args : Array Value} {below : List Frame} {meth : Method} {c : Code} {H : Heap} {locs : List Loc} {cells slots : Nat} {Q : State → Prop}
variable {Γ : gG} {cc : ByteArray} {ret : Option FieldType} {own : String} {nL pc : Nat} {ls : Array Slot} {rest : List Value} {ws : va_W}
/-- a new cell, second in the world -/
theorem sT.ins {x y : Nat × va_E} {wr : va_W} (h : sT Γ s ((x :: wr) ++ [y]) H locs) : sT Γ s (x :: y :: wr) H locs := by
  refine h.sub (List.Sublist.refl _) ?_
  exact List.Perm.cons _ (List.perm_append_singleton y wr).symm
theorem sT.hd {y : Nat × va_E} {wr : va_W} (h : sT Γ s (wr ++ [y]) H locs) : sT Γ s (y :: wr) H locs := h.sub (List.Sublist.refl _) (List.perm_append_singleton y wr).symm
theorem sT.rev {x : Nat × va_E} {wr : va_W} (l0 : va_W) (h : sT Γ s (x :: (l0 ++ wr)) H locs) : sT Γ s (x :: (l0.reverse ++ wr)) H locs := h.sub (List.Sublist.refl _) (List.Perm.cons _ (List.Perm.append_right wr (List.reverse_perm l0)))
theorem sT.perm {ws2 : va_W} (h : sT Γ s ws H locs) (hp : ws2.Perm ws) : sT Γ s ws2 H locs := h.sub (List.Sublist.refl _) hp
theorem rg_new {N ci idx : Nat} {cn : String} {T : u_T} {ty : Nat → FieldType} {fs : List Value} (C : cX Γ p s m args meth c cc ret own nL) (h : sT Γ s ws H locs) (hc : cls[ci]? = some (cn, T, N)) (hin : ∀ w ∈ u_ws cn T N, w ∈ gw) (hty : ∀ k, k < N → parseFieldDescriptor (T k).2.2.1 = some (ty k)) (hcl : Cond.classLink own idx cn ∈ gw) (hinst : Cond.instantiable cn N ∈ gw) (hini : Cond.initialized cn ∈ gw) (hfs : ∀ j, j < N → defaultValue (ty j) = vp_V fs j) (hcells : cells + 1 ≤ R.cells) (hslots : slots + N ≤ R.slots) (hdg : decode cc pc = .ok (.new idx, 3))
    (kk : ∀ (q : Nat) (H1 : Heap), sT Γ s ((q, .inr (ci, fs)) :: ws) H1 locs → W p l e R s m args below meth c H1 locs (cells + 1) (slots + N) Q (F0 m (pc + 3) ls (.ref q :: rest))) : W p l e R s m args below meth c H locs cells slots Q (F0 m pc ls rest) :=
  va_new C.x C.b C.t hin ty hty C.o (C.t _ hcl) (C.t _ hinst) (C.t _ hini) C.k h.1 h.2.1 h.2.2 C.a hc hfs hcells hslots hdg (fun q H1 a1 a2 a3 => kk q H1 (sT.hd ⟨a1, a2, a3⟩))
theorem rg_naI {N : Nat} (C : cX Γ p s m args meth c cc ret own nL) (h : sT Γ s ws H locs) (hN : N < 2 ^ 20) (hcells : cells + 1 ≤ R.cells) (hslots : slots + N ≤ R.slots) (hdg : decode cc pc = .ok (.newarray .int, 2))
    (kk : ∀ (q : Nat) (H1 : Heap), sT Γ s (ws ++ [(q, .inl (Γ.2.1 0, N, .inl (nF (fun _ => 0))))]) H1 locs → W p l e R s m args below meth c H1 locs (cells + 1) (slots + N) Q (F0 m (pc + 2) ls (.ref q :: rest))) : W p l e R s m args below meth c H locs cells slots Q (F0 m pc ls (.int (nI N) :: rest)) := by
  refine va_newa C.x C.b (atype := .int) (C.t _ gw_aI) (ty := .int) rfl C.k h.1 h.2.1 h.2.2 C.a (a0 := (N, .inl (nF (fun _ => 0)))) (fun cA => rfl) (nI_pos (by omega)) (nI_clamp (by omega)) (by show N * 4 ≤ _; omega) hcells hslots hdg (fun q cA H1 k1 a1 a2 a3 => ?_)
  have e : cA = Γ.2.1 0 := Option.some.inj ((k1.2 4 _ rfl).2.symm.trans (C.k.2 0 _ rfl).2)
  subst e
  exact kk q H1 ⟨a1, a2, a3⟩
theorem rg_naZ {N : Nat} (C : cX Γ p s m args meth c cc ret own nL) (h : sT Γ s ws H locs) (hN : N < 2 ^ 20) (hcells : cells + 1 ≤ R.cells) (hslots : slots + N ≤ R.slots) (hdg : decode cc pc = .ok (.newarray .boolean, 2))
    (kk : ∀ (q : Nat) (H1 : Heap), sT Γ s (ws ++ [(q, .inl (Γ.2.1 2, N, .inl (nF (fun _ => 0))))]) H1 locs → W p l e R s m args below meth c H1 locs (cells + 1) (slots + N) Q (F0 m (pc + 2) ls (.ref q :: rest))) : W p l e R s m args below meth c H locs cells slots Q (F0 m pc ls (.int (nI N) :: rest)) := by
  refine va_newa C.x C.b (atype := .boolean) (C.t _ gw_aZ) (ty := .boolean) rfl C.k h.1 h.2.1 h.2.2 C.a (a0 := (N, .inl (nF (fun _ => 0)))) (fun cA => rfl) (nI_pos (by omega)) (nI_clamp (by omega)) (by show N * 1 ≤ _; omega) hcells hslots hdg (fun q cA H1 k1 a1 a2 a3 => ?_)
  have e : cA = Γ.2.1 2 := Option.some.inj ((k1.2 4 _ rfl).2.symm.trans (C.k.2 2 _ rfl).2)
  subst e
  exact kk q H1 ⟨a1, a2, a3⟩
theorem rg_naJ {N : Nat} (C : cX Γ p s m args meth c cc ret own nL) (h : sT Γ s ws H locs) (hN : N < 2 ^ 20) (hcells : cells + 1 ≤ R.cells) (hslots : slots + N ≤ R.slots) (hdg : decode cc pc = .ok (.newarray .long, 2))
    (kk : ∀ (q : Nat) (H1 : Heap), sT Γ s (ws ++ [(q, .inl (Γ.2.1 1, N, .inr (.inl (fun _ => 0))))]) H1 locs → W p l e R s m args below meth c H1 locs (cells + 1) (slots + N) Q (F0 m (pc + 2) ls (.ref q :: rest))) : W p l e R s m args below meth c H locs cells slots Q (F0 m pc ls (.int (nI N) :: rest)) := by
  refine va_newa C.x C.b (atype := .long) (C.t _ gw_aJ) (ty := .long) rfl C.k h.1 h.2.1 h.2.2 C.a (a0 := (N, .inr (.inl (fun _ => 0)))) (fun cA => rfl) (nI_pos (by omega)) (nI_clamp (by omega)) (by show N * 8 ≤ _; omega) hcells hslots hdg (fun q cA H1 k1 a1 a2 a3 => ?_)
  have e : cA = Γ.2.1 1 := Option.some.inj ((k1.2 4 _ rfl).2.symm.trans (C.k.2 1 _ rfl).2)
  subst e
  exact kk q H1 ⟨a1, a2, a3⟩
theorem rg_naT {N idx : Nat} (C : cX Γ p s m args meth c cc ret own nL) (hO : va_AO "RestSets$Table" s) (h : sT Γ s ws H locs) (hN : N < 2 ^ 20) (hk : Cond.classLink own idx "RestSets$Table" ∈ gw) (hcells : cells + 1 ≤ R.cells) (hslots : slots + N ≤ R.slots) (hdg : decode cc pc = .ok (.anewarray idx, 3))
    (kk : ∀ (q : Nat) (H1 : Heap), sT Γ s (ws ++ [(q, .inl (Γ.2.1 3, N, .inr (.inr (.inr (.inr (fun _ => none))))))]) H1 locs → W p l e R s m args below meth c H1 locs (cells + 1) (slots + N) Q (F0 m (pc + 3) ls (.ref q :: rest))) : W p l e R s m args below meth c H locs cells slots Q (F0 m pc ls (.int (nI N) :: rest)) := by
  refine va_newq C.x C.b C.o (C.t _ hk) hO C.k h.1 h.2.1 h.2.2 C.a (nI_pos (by omega)) (nI_clamp (by omega)) (by omega) hcells hslots hdg (fun q cA H1 k1 a1 a2 a3 => ?_)
  obtain ⟨kA, comp, -, -, -, x1⟩ := (k1.2 4 _ rfl).2
  obtain ⟨kB, comp2, -, -, -, x2⟩ := (C.k.2 3 _ rfl).2
  have e : cA = Γ.2.1 3 := Option.some.inj (x1.symm.trans x2)
  subst e
  exact kk q H1 ⟨a1, a2, a3⟩
theorem rg_ast {a v n i qk : Nat} {vs : List Value} {f : Nat → Option Nat} (C : cX Γ p s m args meth c cc ret own nL) (h : sT Γ s ws H locs) (q0 : Nat) (he : ws[q0]? = some (a, .inl (Γ.2.1 3, n, .inr (.inr (.inr (.inr f)))))) (hv : ws[qk]? = some (v, .inr (2, vs))) (hi : i < n) (hn : n < 2 ^ 31) (hdg : decode cc pc = .ok (.aastore, 1))
    (kk : ∀ (H1 : Heap) (locs1 : List Loc), sT Γ s (ws.set q0 (a, .inl (Γ.2.1 3, n, .inr (.inr (.inr (.inr (va_up f i (some v)))))))) H1 locs1 → W p l e R s m args below meth c H1 locs1 cells slots Q (F0 m (pc + 1) ls rest)) : W p l e R s m args below meth c H locs cells slots Q (F0 m pc ls (.ref v :: .int (nI i) :: .ref a :: rest)) := by
  refine va_astq C.x C.b C.k h.1 h.2.1 h.2.2 q0 3 qk 2 he (r := ("RestSets$Table", fd_T, 5)) rfl hv rfl (vp_in_nI hi hn) hdg (fun H1 locs1 a1 a2 a3 => ?_)
  rw [nI_clamp (by omega)] at a1 a2
  exact kk H1 locs1 ⟨a1, a2, a3⟩
end XI

theorem dc_M_init_0 : decode bc_M_init 0 = .ok (.aload_n 0, 1) := by decide +kernel
theorem dc_M_init_1 : decode bc_M_init 1 = .ok (.invokespecial 1, 3) := by decide +kernel
theorem dc_M_init_4 : decode bc_M_init 4 = .ok (.aload_n 0, 1) := by decide +kernel
theorem dc_M_init_5 : decode bc_M_init 5 = .ok (.bipush 80, 2) := by decide +kernel
theorem dc_M_init_7 : decode bc_M_init 7 = .ok (.newarray .int, 2) := by decide +kernel
theorem dc_M_init_9 : decode bc_M_init 9 = .ok (.putfield 9, 3) := by decide +kernel
theorem dc_M_init_12 : decode bc_M_init 12 = .ok (.aload_n 0, 1) := by decide +kernel
theorem dc_M_init_13 : decode bc_M_init 13 = .ok (.bipush 80, 2) := by decide +kernel
theorem dc_M_init_15 : decode bc_M_init 15 = .ok (.newarray .int, 2) := by decide +kernel
theorem dc_M_init_17 : decode bc_M_init 17 = .ok (.putfield 13, 3) := by decide +kernel
theorem dc_M_init_20 : decode bc_M_init 20 = .ok (.aload_n 0, 1) := by decide +kernel
theorem dc_M_init_21 : decode bc_M_init 21 = .ok (.sipush 2400, 3) := by decide +kernel
theorem dc_M_init_24 : decode bc_M_init 24 = .ok (.newarray .int, 2) := by decide +kernel
theorem dc_M_init_26 : decode bc_M_init 26 = .ok (.putfield 16, 3) := by decide +kernel
theorem dc_M_init_29 : decode bc_M_init 29 = .ok (.aload_n 0, 1) := by decide +kernel
theorem dc_M_init_30 : decode bc_M_init 30 = .ok (.sipush 800, 3) := by decide +kernel
theorem dc_M_init_33 : decode bc_M_init 33 = .ok (.newarray .boolean, 2) := by decide +kernel
theorem dc_M_init_35 : decode bc_M_init 35 = .ok (.putfield 19, 3) := by decide +kernel
theorem dc_M_init_38 : decode bc_M_init 38 = .ok (.aload_n 0, 1) := by decide +kernel
theorem dc_M_init_39 : decode bc_M_init 39 = .ok (.sipush 10242, 3) := by decide +kernel
theorem dc_M_init_42 : decode bc_M_init 42 = .ok (.newarray .int, 2) := by decide +kernel
theorem dc_M_init_44 : decode bc_M_init 44 = .ok (.putfield 23, 3) := by decide +kernel
theorem dc_M_init_47 : decode bc_M_init 47 = .ok (.aload_n 0, 1) := by decide +kernel
theorem dc_M_init_48 : decode bc_M_init 48 = .ok (.sipush 10242, 3) := by decide +kernel
theorem dc_M_init_51 : decode bc_M_init 51 = .ok (.newarray .int, 2) := by decide +kernel
theorem dc_M_init_53 : decode bc_M_init 53 = .ok (.putfield 26, 3) := by decide +kernel
theorem dc_M_init_56 : decode bc_M_init 56 = .ok (.aload_n 0, 1) := by decide +kernel
theorem dc_M_init_57 : decode bc_M_init 57 = .ok (.sipush 30726, 3) := by decide +kernel
theorem dc_M_init_60 : decode bc_M_init 60 = .ok (.newarray .int, 2) := by decide +kernel
theorem dc_M_init_62 : decode bc_M_init 62 = .ok (.putfield 29, 3) := by decide +kernel
theorem dc_M_init_65 : decode bc_M_init 65 = .ok (.aload_n 0, 1) := by decide +kernel
theorem dc_M_init_66 : decode bc_M_init 66 = .ok (.sipush 10242, 3) := by decide +kernel
theorem dc_M_init_69 : decode bc_M_init 69 = .ok (.newarray .int, 2) := by decide +kernel
theorem dc_M_init_71 : decode bc_M_init 71 = .ok (.putfield 32, 3) := by decide +kernel
theorem dc_M_init_74 : decode bc_M_init 74 = .ok (.aload_n 0, 1) := by decide +kernel
theorem dc_M_init_75 : decode bc_M_init 75 = .ok (.sipush 10242, 3) := by decide +kernel
theorem dc_M_init_78 : decode bc_M_init 78 = .ok (.newarray .int, 2) := by decide +kernel
theorem dc_M_init_80 : decode bc_M_init 80 = .ok (.putfield 35, 3) := by decide +kernel
theorem dc_M_init_83 : decode bc_M_init 83 = .ok (.aload_n 0, 1) := by decide +kernel
theorem dc_M_init_84 : decode bc_M_init 84 = .ok (.bipush 10, 2) := by decide +kernel
theorem dc_M_init_86 : decode bc_M_init 86 = .ok (.newarray .int, 2) := by decide +kernel
theorem dc_M_init_88 : decode bc_M_init 88 = .ok (.putfield 38, 3) := by decide +kernel
theorem dc_M_init_91 : decode bc_M_init 91 = .ok (.aload_n 0, 1) := by decide +kernel
theorem dc_M_init_92 : decode bc_M_init 92 = .ok (.bipush 10, 2) := by decide +kernel
theorem dc_M_init_94 : decode bc_M_init 94 = .ok (.newarray .boolean, 2) := by decide +kernel
theorem dc_M_init_96 : decode bc_M_init 96 = .ok (.putfield 41, 3) := by decide +kernel
theorem dc_M_init_99 : decode bc_M_init 99 = .ok (.aload_n 0, 1) := by decide +kernel
theorem dc_M_init_100 : decode bc_M_init 100 = .ok (.bipush 10, 2) := by decide +kernel
theorem dc_M_init_102 : decode bc_M_init 102 = .ok (.newarray .int, 2) := by decide +kernel
theorem dc_M_init_104 : decode bc_M_init 104 = .ok (.putfield 44, 3) := by decide +kernel
theorem dc_M_init_107 : decode bc_M_init 107 = .ok (.aload_n 0, 1) := by decide +kernel
theorem dc_M_init_108 : decode bc_M_init 108 = .ok (.bipush 10, 2) := by decide +kernel
theorem dc_M_init_110 : decode bc_M_init 110 = .ok (.newarray .long, 2) := by decide +kernel
theorem dc_M_init_112 : decode bc_M_init 112 = .ok (.putfield 47, 3) := by decide +kernel
theorem dc_M_init_115 : decode bc_M_init 115 = .ok (.aload_n 0, 1) := by decide +kernel
theorem dc_M_init_116 : decode bc_M_init 116 = .ok (.bipush 10, 2) := by decide +kernel
theorem dc_M_init_118 : decode bc_M_init 118 = .ok (.newarray .long, 2) := by decide +kernel
theorem dc_M_init_120 : decode bc_M_init 120 = .ok (.putfield 51, 3) := by decide +kernel
theorem dc_M_init_123 : decode bc_M_init 123 = .ok (.return_, 1) := by decide +kernel
abbrev rm_O_init0 : Room := { frames := 2, cells := 0, slots := 0, locals := 32 }
set_option maxRecDepth 100000 in
set_option maxHeartbeats 4000000 in
theorem c_O_init0 (l : Launch) (Γ : gG) (wr : va_W) (q : Nat) (bits fst : Nat) : cT l Γ my_O_init bc_O_init 3 none rm_O_init0 [.ref q, .int (nI bits), .int (nI fst)] ((q, .inr (4, [.int 0, .int 0])) :: wr) (S := Unit) (fun v _ => v = none) (fun _ => (q, .inr (4, [.int (nI bits), .int (nI fst)])) :: wr) := by
  refine cT.start (by decide) (Nat.le_of_ble_eq_true rfl) (fun p e s m args below meth c ls Q hQ C hmn h hl => ?_)
  replace hl : lv_has ls 3 [(0, .ref q), (1, .int (nI bits)), (2, .int (nI fst))] := hl
  refine lv_aload_n C.x C.b dc_O_init_0 rfl (lv_at hl 0 rfl) ?_
  refine kv_IN (As := []) (rest := []) C h hl.1 (c_A_init l Γ _ q) mw_A_init lk_O_1 rfl (by decide) (by decide) (Nat.le_of_ble_eq_true rfl) dc_O_init_1 (fun v u H locs hp h => ?_)
  obtain rfl := hp
  replace h : sT Γ s ((q, .inr (4, [.int 0, .int 0])) :: wr) _ _ := h
  refine W.eq (g2 := F0 m 4 ls []) rfl ?_
  refine lv_aload_n C.x C.b dc_O_init_4 rfl (lv_at hl 0 rfl) ?_
  refine lv_iload_n C.x C.b dc_O_init_5 rfl (lv_at hl 1 rfl) ?_
  refine rg_putF (ty := .int) C hmn h 0 rfl rfl in_O tk_O nm_O 0 (by decide) fl_O_7 rfl rfl (by decide +kernel) rfl rfl (by simp) dc_O_init_6 (fun H locs h => ?_)
  replace h : sT Γ s ((q, .inr (4, [.int (nI bits), .int 0])) :: wr) _ _ := h
  refine lv_aload_n C.x C.b dc_O_init_9 rfl (lv_at hl 0 rfl) ?_
  refine lv_iload_n C.x C.b dc_O_init_10 rfl (lv_at hl 2 rfl) ?_
  refine rg_putF (ty := .int) C hmn h 0 rfl rfl in_O tk_O nm_O 1 (by decide) fl_O_13 rfl rfl (by decide +kernel) rfl rfl (by simp) dc_O_init_11 (fun H locs h => ?_)
  replace h : sT Γ s ((q, .inr (4, [.int (nI bits), .int (nI fst)])) :: wr) _ _ := h
  rw [hQ]
  exact rt_v C () h (rfl) dc_O_init_14

abbrev rm_T_init : Room := { frames := 1, cells := 2, slots := 40, locals := 12 }
set_option maxRecDepth 100000 in
set_option maxHeartbeats 4000000 in
theorem c_T_init (l : Launch) (Γ : gG) (wr : va_W) (a : Nat) : cT l Γ my_T_init bc_T_init 1 none rm_T_init [.ref a] ((a, .inr (2, [.int 0, .int 0, .int 0, .null, .null])) :: wr) (S := Nat → Nat) (fun v _ => v = none) (fun u => (a, .inr (2, [.int 0, .int 0, .int 0, .ref (u 0), .ref (u 1)])) :: (u 0, .inl (Γ.2.1 0, 30, .inl (nF (fun _ => 0)))) :: (u 1, .inl (Γ.2.1 0, 10, .inl (nF (fun _ => 0)))) :: wr) := by
  refine cT.start (by decide) (Nat.le_of_ble_eq_true rfl) (fun p e s m args below meth c ls Q hQ C hmn h hl => ?_)
  replace hl : lv_has ls 1 [(0, .ref a)] := hl
  refine lv_aload_n C.x C.b dc_T_init_0 rfl (lv_at hl 0 rfl) ?_
  refine W.objInit C.x C.b C.o (C.t _ lk_T_3) (C.t _ gw_oi) (C.t _ gw_oc) rfl (by rw [C.n]; exact hl.1) rfl dc_T_init_1 (by decide) (Nat.le_of_ble_eq_true rfl) ?_
  refine W.eq (g2 := F0 m 4 ls []) rfl ?_
  refine lv_aload_n C.x C.b dc_T_init_4 rfl (lv_at hl 0 rfl) ?_
  refine lv_bipush (v := (nI 30)) C.x C.b dc_T_init_5 (by decide +kernel) ?_
  refine rg_naI (N := 30) C h (by decide) (by decide) (by decide) dc_T_init_7 (fun qa_1 H h => ?_)
  replace h := h.ins
  replace h : sT Γ s ((a, .inr (2, [.int 0, .int 0, .int 0, .null, .null])) :: (qa_1, .inl (Γ.2.1 0, 30, .inl (nF (fun _ => 0)))) :: wr) _ _ := h
  refine rg_putF (ty := .array .int) C hmn h 0 rfl rfl in_T tk_T nm_T 3 (by decide) fl_T_9 rfl rfl (by decide +kernel) rfl rfl (by simp) dc_T_init_9 (fun H locs h => ?_)
  replace h : sT Γ s ((a, .inr (2, [.int 0, .int 0, .int 0, .ref qa_1, .null])) :: (qa_1, .inl (Γ.2.1 0, 30, .inl (nF (fun _ => 0)))) :: wr) _ _ := h
  refine lv_aload_n C.x C.b dc_T_init_12 rfl (lv_at hl 0 rfl) ?_
  refine lv_bipush (v := (nI 10)) C.x C.b dc_T_init_13 (by decide +kernel) ?_
  refine rg_naI (N := 10) C h (by decide) (by decide) (by decide) dc_T_init_15 (fun qa_2 H h => ?_)
  replace h := h.ins
  replace h : sT Γ s ((a, .inr (2, [.int 0, .int 0, .int 0, .ref qa_1, .null])) :: (qa_2, .inl (Γ.2.1 0, 10, .inl (nF (fun _ => 0)))) :: (qa_1, .inl (Γ.2.1 0, 30, .inl (nF (fun _ => 0)))) :: wr) _ _ := h
  refine rg_putF (ty := .array .int) C hmn h 0 rfl rfl in_T tk_T nm_T 4 (by decide) fl_T_15 rfl rfl (by decide +kernel) rfl rfl (by simp) dc_T_init_17 (fun H locs h => ?_)
  replace h : sT Γ s ((a, .inr (2, [.int 0, .int 0, .int 0, .ref qa_1, .ref qa_2])) :: (qa_2, .inl (Γ.2.1 0, 10, .inl (nF (fun _ => 0)))) :: (qa_1, .inl (Γ.2.1 0, 30, .inl (nF (fun _ => 0)))) :: wr) _ _ := h
  replace h := h.rev [(qa_2, .inl (Γ.2.1 0, 10, .inl (nF (fun _ => 0)))), (qa_1, .inl (Γ.2.1 0, 30, .inl (nF (fun _ => 0))))]
  rw [hQ]
  exact rt_v C (fun i => ([qa_1, qa_2][i]?).getD 0) h (rfl) dc_T_init_20

abbrev rm_Y_init : Room := { frames := 1, cells := 2, slots := 20, locals := 12 }
set_option maxRecDepth 100000 in
set_option maxHeartbeats 4000000 in
theorem c_Y_init (l : Launch) (Γ : gG) (wr : va_W) (a : Nat) : cT l Γ my_Y_init bc_Y_init 1 none rm_Y_init [.ref a] ((a, .inr (3, [.null, .null])) :: wr) (S := Nat → Nat) (fun v _ => v = none) (fun u => (a, .inr (3, [.ref (u 0), .ref (u 1)])) :: (u 0, .inl (Γ.2.1 1, 10, .inr (.inl (fun _ => 0)))) :: (u 1, .inl (Γ.2.1 1, 10, .inr (.inl (fun _ => 0)))) :: wr) := by
  refine cT.start (by decide) (Nat.le_of_ble_eq_true rfl) (fun p e s m args below meth c ls Q hQ C hmn h hl => ?_)
  replace hl : lv_has ls 1 [(0, .ref a)] := hl
  refine lv_aload_n C.x C.b dc_Y_init_0 rfl (lv_at hl 0 rfl) ?_
  refine W.objInit C.x C.b C.o (C.t _ lk_Y_3) (C.t _ gw_oi) (C.t _ gw_oc) rfl (by rw [C.n]; exact hl.1) rfl dc_Y_init_1 (by decide) (Nat.le_of_ble_eq_true rfl) ?_
  refine W.eq (g2 := F0 m 4 ls []) rfl ?_
  refine lv_aload_n C.x C.b dc_Y_init_4 rfl (lv_at hl 0 rfl) ?_
  refine lv_bipush (v := (nI 10)) C.x C.b dc_Y_init_5 (by decide +kernel) ?_
  refine rg_naJ (N := 10) C h (by decide) (by decide) (by decide) dc_Y_init_7 (fun qa_1 H h => ?_)
  replace h := h.ins
  replace h : sT Γ s ((a, .inr (3, [.null, .null])) :: (qa_1, .inl (Γ.2.1 1, 10, .inr (.inl (fun _ => 0)))) :: wr) _ _ := h
  refine rg_putF (ty := .array .long) C hmn h 0 rfl rfl in_Y tk_Y nm_Y 0 (by decide) fl_Y_9 rfl rfl (by decide +kernel) rfl rfl (by simp) dc_Y_init_9 (fun H locs h => ?_)
  replace h : sT Γ s ((a, .inr (3, [.ref qa_1, .null])) :: (qa_1, .inl (Γ.2.1 1, 10, .inr (.inl (fun _ => 0)))) :: wr) _ _ := h
  refine lv_aload_n C.x C.b dc_Y_init_12 rfl (lv_at hl 0 rfl) ?_
  refine lv_bipush (v := (nI 10)) C.x C.b dc_Y_init_13 (by decide +kernel) ?_
  refine rg_naJ (N := 10) C h (by decide) (by decide) (by decide) dc_Y_init_15 (fun qa_2 H h => ?_)
  replace h := h.ins
  replace h : sT Γ s ((a, .inr (3, [.ref qa_1, .null])) :: (qa_2, .inl (Γ.2.1 1, 10, .inr (.inl (fun _ => 0)))) :: (qa_1, .inl (Γ.2.1 1, 10, .inr (.inl (fun _ => 0)))) :: wr) _ _ := h
  refine rg_putF (ty := .array .long) C hmn h 0 rfl rfl in_Y tk_Y nm_Y 1 (by decide) fl_Y_15 rfl rfl (by decide +kernel) rfl rfl (by simp) dc_Y_init_17 (fun H locs h => ?_)
  replace h : sT Γ s ((a, .inr (3, [.ref qa_1, .ref qa_2])) :: (qa_2, .inl (Γ.2.1 1, 10, .inr (.inl (fun _ => 0)))) :: (qa_1, .inl (Γ.2.1 1, 10, .inr (.inl (fun _ => 0)))) :: wr) _ _ := h
  replace h := h.rev [(qa_2, .inl (Γ.2.1 1, 10, .inr (.inl (fun _ => 0)))), (qa_1, .inl (Γ.2.1 1, 10, .inr (.inl (fun _ => 0))))]
  rw [hQ]
  exact rt_v C (fun i => ([qa_1, qa_2][i]?).getD 0) h (rfl) dc_Y_init_20

abbrev rm_M_init : Room := { frames := 1, cells := 14, slots := 75104, locals := 12 }
set_option maxRecDepth 100000 in
set_option maxHeartbeats 4000000 in
theorem c_M_init (l : Launch) (Γ : gG) (wr : va_W) (a : Nat) : cT l Γ my_M_init bc_M_init 1 none rm_M_init [.ref a] ((a, .inr (10, [.int 0, .int 0, .null, .null, .null, .null, .int 0, .int 0, .int 0, .int 0, .int 0, .null, .null, .null, .null, .null, .null, .null, .null, .null, .null])) :: wr) (S := Nat → Nat) (fun v _ => v = none) (fun u => (a, .inr (10, [.int 0, .int 0, .ref (u 0), .ref (u 1), .ref (u 2), .ref (u 3), .int 0, .int 0, .int 0, .int 0, .int 0, .ref (u 4), .ref (u 5), .ref (u 6), .ref (u 7), .ref (u 8), .ref (u 9), .ref (u 10), .ref (u 11), .ref (u 12), .ref (u 13)])) :: (u 0, .inl (Γ.2.1 0, 80, .inl (nF (fun _ => 0)))) :: (u 1, .inl (Γ.2.1 0, 80, .inl (nF (fun _ => 0)))) :: (u 2, .inl (Γ.2.1 0, 2400, .inl (nF (fun _ => 0)))) :: (u 3, .inl (Γ.2.1 2, 800, .inl (nF (fun _ => 0)))) :: (u 4, .inl (Γ.2.1 0, 10242, .inl (nF (fun _ => 0)))) :: (u 5, .inl (Γ.2.1 0, 10242, .inl (nF (fun _ => 0)))) :: (u 6, .inl (Γ.2.1 0, 30726, .inl (nF (fun _ => 0)))) :: (u 7, .inl (Γ.2.1 0, 10242, .inl (nF (fun _ => 0)))) :: (u 8, .inl (Γ.2.1 0, 10242, .inl (nF (fun _ => 0)))) :: (u 9, .inl (Γ.2.1 0, 10, .inl (nF (fun _ => 0)))) :: (u 10, .inl (Γ.2.1 2, 10, .inl (nF (fun _ => 0)))) :: (u 11, .inl (Γ.2.1 0, 10, .inl (nF (fun _ => 0)))) :: (u 12, .inl (Γ.2.1 1, 10, .inr (.inl (fun _ => 0)))) :: (u 13, .inl (Γ.2.1 1, 10, .inr (.inl (fun _ => 0)))) :: wr) := by
  refine cT.start (by decide) (Nat.le_of_ble_eq_true rfl) (fun p e s m args below meth c ls Q hQ C hmn h hl => ?_)
  replace hl : lv_has ls 1 [(0, .ref a)] := hl
  refine lv_aload_n C.x C.b dc_M_init_0 rfl (lv_at hl 0 rfl) ?_
  refine W.objInit C.x C.b C.o (C.t _ lk_M_1) (C.t _ gw_oi) (C.t _ gw_oc) rfl (by rw [C.n]; exact hl.1) rfl dc_M_init_1 (by decide) (Nat.le_of_ble_eq_true rfl) ?_
  refine W.eq (g2 := F0 m 4 ls []) rfl ?_
  refine lv_aload_n C.x C.b dc_M_init_4 rfl (lv_at hl 0 rfl) ?_
  refine lv_bipush (v := (nI 80)) C.x C.b dc_M_init_5 (by decide +kernel) ?_
  refine rg_naI (N := 80) C h (by decide) (by decide) (by decide) dc_M_init_7 (fun qa_1 H h => ?_)
  replace h := h.ins
  replace h : sT Γ s ((a, .inr (10, [.int 0, .int 0, .null, .null, .null, .null, .int 0, .int 0, .int 0, .int 0, .int 0, .null, .null, .null, .null, .null, .null, .null, .null, .null, .null])) :: (qa_1, .inl (Γ.2.1 0, 80, .inl (nF (fun _ => 0)))) :: wr) _ _ := h
  refine rg_putF (ty := .array .int) C hmn h 0 rfl rfl in_M tk_M nm_M 2 (by decide) fl_M_9 rfl rfl (by decide +kernel) rfl rfl (by simp) dc_M_init_9 (fun H locs h => ?_)
  replace h : sT Γ s ((a, .inr (10, [.int 0, .int 0, .ref qa_1, .null, .null, .null, .int 0, .int 0, .int 0, .int 0, .int 0, .null, .null, .null, .null, .null, .null, .null, .null, .null, .null])) :: (qa_1, .inl (Γ.2.1 0, 80, .inl (nF (fun _ => 0)))) :: wr) _ _ := h
  refine lv_aload_n C.x C.b dc_M_init_12 rfl (lv_at hl 0 rfl) ?_
  refine lv_bipush (v := (nI 80)) C.x C.b dc_M_init_13 (by decide +kernel) ?_
  refine rg_naI (N := 80) C h (by decide) (by decide) (by decide) dc_M_init_15 (fun qa_2 H h => ?_)
  replace h := h.ins
  replace h : sT Γ s ((a, .inr (10, [.int 0, .int 0, .ref qa_1, .null, .null, .null, .int 0, .int 0, .int 0, .int 0, .int 0, .null, .null, .null, .null, .null, .null, .null, .null, .null, .null])) :: (qa_2, .inl (Γ.2.1 0, 80, .inl (nF (fun _ => 0)))) :: (qa_1, .inl (Γ.2.1 0, 80, .inl (nF (fun _ => 0)))) :: wr) _ _ := h
  refine rg_putF (ty := .array .int) C hmn h 0 rfl rfl in_M tk_M nm_M 3 (by decide) fl_M_13 rfl rfl (by decide +kernel) rfl rfl (by simp) dc_M_init_17 (fun H locs h => ?_)
  replace h : sT Γ s ((a, .inr (10, [.int 0, .int 0, .ref qa_1, .ref qa_2, .null, .null, .int 0, .int 0, .int 0, .int 0, .int 0, .null, .null, .null, .null, .null, .null, .null, .null, .null, .null])) :: (qa_2, .inl (Γ.2.1 0, 80, .inl (nF (fun _ => 0)))) :: (qa_1, .inl (Γ.2.1 0, 80, .inl (nF (fun _ => 0)))) :: wr) _ _ := h
  refine lv_aload_n C.x C.b dc_M_init_20 rfl (lv_at hl 0 rfl) ?_
  refine lv_sipush (v := (nI 2400)) C.x C.b dc_M_init_21 (by decide +kernel) ?_
  refine rg_naI (N := 2400) C h (by decide) (by decide) (by decide) dc_M_init_24 (fun qa_3 H h => ?_)
  replace h := h.ins
  replace h : sT Γ s ((a, .inr (10, [.int 0, .int 0, .ref qa_1, .ref qa_2, .null, .null, .int 0, .int 0, .int 0, .int 0, .int 0, .null, .null, .null, .null, .null, .null, .null, .null, .null, .null])) :: (qa_3, .inl (Γ.2.1 0, 2400, .inl (nF (fun _ => 0)))) :: (qa_2, .inl (Γ.2.1 0, 80, .inl (nF (fun _ => 0)))) :: (qa_1, .inl (Γ.2.1 0, 80, .inl (nF (fun _ => 0)))) :: wr) _ _ := h
  refine rg_putF (ty := .array .int) C hmn h 0 rfl rfl in_M tk_M nm_M 4 (by decide) fl_M_16 rfl rfl (by decide +kernel) rfl rfl (by simp) dc_M_init_26 (fun H locs h => ?_)
  replace h : sT Γ s ((a, .inr (10, [.int 0, .int 0, .ref qa_1, .ref qa_2, .ref qa_3, .null, .int 0, .int 0, .int 0, .int 0, .int 0, .null, .null, .null, .null, .null, .null, .null, .null, .null, .null])) :: (qa_3, .inl (Γ.2.1 0, 2400, .inl (nF (fun _ => 0)))) :: (qa_2, .inl (Γ.2.1 0, 80, .inl (nF (fun _ => 0)))) :: (qa_1, .inl (Γ.2.1 0, 80, .inl (nF (fun _ => 0)))) :: wr) _ _ := h
  refine lv_aload_n C.x C.b dc_M_init_29 rfl (lv_at hl 0 rfl) ?_
  refine lv_sipush (v := (nI 800)) C.x C.b dc_M_init_30 (by decide +kernel) ?_
  refine rg_naZ (N := 800) C h (by decide) (by decide) (by decide) dc_M_init_33 (fun qa_4 H h => ?_)
  replace h := h.ins
  replace h : sT Γ s ((a, .inr (10, [.int 0, .int 0, .ref qa_1, .ref qa_2, .ref qa_3, .null, .int 0, .int 0, .int 0, .int 0, .int 0, .null, .null, .null, .null, .null, .null, .null, .null, .null, .null])) :: (qa_4, .inl (Γ.2.1 2, 800, .inl (nF (fun _ => 0)))) :: (qa_3, .inl (Γ.2.1 0, 2400, .inl (nF (fun _ => 0)))) :: (qa_2, .inl (Γ.2.1 0, 80, .inl (nF (fun _ => 0)))) :: (qa_1, .inl (Γ.2.1 0, 80, .inl (nF (fun _ => 0)))) :: wr) _ _ := h
  refine rg_putF (ty := .array .boolean) C hmn h 0 rfl rfl in_M tk_M nm_M 5 (by decide) fl_M_19 rfl rfl (by decide +kernel) rfl rfl (by simp) dc_M_init_35 (fun H locs h => ?_)
  replace h : sT Γ s ((a, .inr (10, [.int 0, .int 0, .ref qa_1, .ref qa_2, .ref qa_3, .ref qa_4, .int 0, .int 0, .int 0, .int 0, .int 0, .null, .null, .null, .null, .null, .null, .null, .null, .null, .null])) :: (qa_4, .inl (Γ.2.1 2, 800, .inl (nF (fun _ => 0)))) :: (qa_3, .inl (Γ.2.1 0, 2400, .inl (nF (fun _ => 0)))) :: (qa_2, .inl (Γ.2.1 0, 80, .inl (nF (fun _ => 0)))) :: (qa_1, .inl (Γ.2.1 0, 80, .inl (nF (fun _ => 0)))) :: wr) _ _ := h
  refine lv_aload_n C.x C.b dc_M_init_38 rfl (lv_at hl 0 rfl) ?_
  refine lv_sipush (v := (nI 10242)) C.x C.b dc_M_init_39 (by decide +kernel) ?_
  refine rg_naI (N := 10242) C h (by decide) (by decide) (by decide) dc_M_init_42 (fun qa_5 H h => ?_)
  replace h := h.ins
  replace h : sT Γ s ((a, .inr (10, [.int 0, .int 0, .ref qa_1, .ref qa_2, .ref qa_3, .ref qa_4, .int 0, .int 0, .int 0, .int 0, .int 0, .null, .null, .null, .null, .null, .null, .null, .null, .null, .null])) :: (qa_5, .inl (Γ.2.1 0, 10242, .inl (nF (fun _ => 0)))) :: (qa_4, .inl (Γ.2.1 2, 800, .inl (nF (fun _ => 0)))) :: (qa_3, .inl (Γ.2.1 0, 2400, .inl (nF (fun _ => 0)))) :: (qa_2, .inl (Γ.2.1 0, 80, .inl (nF (fun _ => 0)))) :: (qa_1, .inl (Γ.2.1 0, 80, .inl (nF (fun _ => 0)))) :: wr) _ _ := h
  refine rg_putF (ty := .array .int) C hmn h 0 rfl rfl in_M tk_M nm_M 11 (by decide) fl_M_23 rfl rfl (by decide +kernel) rfl rfl (by simp) dc_M_init_44 (fun H locs h => ?_)
  replace h : sT Γ s ((a, .inr (10, [.int 0, .int 0, .ref qa_1, .ref qa_2, .ref qa_3, .ref qa_4, .int 0, .int 0, .int 0, .int 0, .int 0, .ref qa_5, .null, .null, .null, .null, .null, .null, .null, .null, .null])) :: (qa_5, .inl (Γ.2.1 0, 10242, .inl (nF (fun _ => 0)))) :: (qa_4, .inl (Γ.2.1 2, 800, .inl (nF (fun _ => 0)))) :: (qa_3, .inl (Γ.2.1 0, 2400, .inl (nF (fun _ => 0)))) :: (qa_2, .inl (Γ.2.1 0, 80, .inl (nF (fun _ => 0)))) :: (qa_1, .inl (Γ.2.1 0, 80, .inl (nF (fun _ => 0)))) :: wr) _ _ := h
  refine lv_aload_n C.x C.b dc_M_init_47 rfl (lv_at hl 0 rfl) ?_
  refine lv_sipush (v := (nI 10242)) C.x C.b dc_M_init_48 (by decide +kernel) ?_
  refine rg_naI (N := 10242) C h (by decide) (by decide) (by decide) dc_M_init_51 (fun qa_6 H h => ?_)
  replace h := h.ins
  replace h : sT Γ s ((a, .inr (10, [.int 0, .int 0, .ref qa_1, .ref qa_2, .ref qa_3, .ref qa_4, .int 0, .int 0, .int 0, .int 0, .int 0, .ref qa_5, .null, .null, .null, .null, .null, .null, .null, .null, .null])) :: (qa_6, .inl (Γ.2.1 0, 10242, .inl (nF (fun _ => 0)))) :: (qa_5, .inl (Γ.2.1 0, 10242, .inl (nF (fun _ => 0)))) :: (qa_4, .inl (Γ.2.1 2, 800, .inl (nF (fun _ => 0)))) :: (qa_3, .inl (Γ.2.1 0, 2400, .inl (nF (fun _ => 0)))) :: (qa_2, .inl (Γ.2.1 0, 80, .inl (nF (fun _ => 0)))) :: (qa_1, .inl (Γ.2.1 0, 80, .inl (nF (fun _ => 0)))) :: wr) _ _ := h
  refine rg_putF (ty := .array .int) C hmn h 0 rfl rfl in_M tk_M nm_M 12 (by decide) fl_M_26 rfl rfl (by decide +kernel) rfl rfl (by simp) dc_M_init_53 (fun H locs h => ?_)
  replace h : sT Γ s ((a, .inr (10, [.int 0, .int 0, .ref qa_1, .ref qa_2, .ref qa_3, .ref qa_4, .int 0, .int 0, .int 0, .int 0, .int 0, .ref qa_5, .ref qa_6, .null, .null, .null, .null, .null, .null, .null, .null])) :: (qa_6, .inl (Γ.2.1 0, 10242, .inl (nF (fun _ => 0)))) :: (qa_5, .inl (Γ.2.1 0, 10242, .inl (nF (fun _ => 0)))) :: (qa_4, .inl (Γ.2.1 2, 800, .inl (nF (fun _ => 0)))) :: (qa_3, .inl (Γ.2.1 0, 2400, .inl (nF (fun _ => 0)))) :: (qa_2, .inl (Γ.2.1 0, 80, .inl (nF (fun _ => 0)))) :: (qa_1, .inl (Γ.2.1 0, 80, .inl (nF (fun _ => 0)))) :: wr) _ _ := h
  refine lv_aload_n C.x C.b dc_M_init_56 rfl (lv_at hl 0 rfl) ?_
  refine lv_sipush (v := (nI 30726)) C.x C.b dc_M_init_57 (by decide +kernel) ?_
  refine rg_naI (N := 30726) C h (by decide) (by decide) (by decide) dc_M_init_60 (fun qa_7 H h => ?_)
  replace h := h.ins
  replace h : sT Γ s ((a, .inr (10, [.int 0, .int 0, .ref qa_1, .ref qa_2, .ref qa_3, .ref qa_4, .int 0, .int 0, .int 0, .int 0, .int 0, .ref qa_5, .ref qa_6, .null, .null, .null, .null, .null, .null, .null, .null])) :: (qa_7, .inl (Γ.2.1 0, 30726, .inl (nF (fun _ => 0)))) :: (qa_6, .inl (Γ.2.1 0, 10242, .inl (nF (fun _ => 0)))) :: (qa_5, .inl (Γ.2.1 0, 10242, .inl (nF (fun _ => 0)))) :: (qa_4, .inl (Γ.2.1 2, 800, .inl (nF (fun _ => 0)))) :: (qa_3, .inl (Γ.2.1 0, 2400, .inl (nF (fun _ => 0)))) :: (qa_2, .inl (Γ.2.1 0, 80, .inl (nF (fun _ => 0)))) :: (qa_1, .inl (Γ.2.1 0, 80, .inl (nF (fun _ => 0)))) :: wr) _ _ := h
  refine rg_putF (ty := .array .int) C hmn h 0 rfl rfl in_M tk_M nm_M 13 (by decide) fl_M_29 rfl rfl (by decide +kernel) rfl rfl (by simp) dc_M_init_62 (fun H locs h => ?_)
  replace h : sT Γ s ((a, .inr (10, [.int 0, .int 0, .ref qa_1, .ref qa_2, .ref qa_3, .ref qa_4, .int 0, .int 0, .int 0, .int 0, .int 0, .ref qa_5, .ref qa_6, .ref qa_7, .null, .null, .null, .null, .null, .null, .null])) :: (qa_7, .inl (Γ.2.1 0, 30726, .inl (nF (fun _ => 0)))) :: (qa_6, .inl (Γ.2.1 0, 10242, .inl (nF (fun _ => 0)))) :: (qa_5, .inl (Γ.2.1 0, 10242, .inl (nF (fun _ => 0)))) :: (qa_4, .inl (Γ.2.1 2, 800, .inl (nF (fun _ => 0)))) :: (qa_3, .inl (Γ.2.1 0, 2400, .inl (nF (fun _ => 0)))) :: (qa_2, .inl (Γ.2.1 0, 80, .inl (nF (fun _ => 0)))) :: (qa_1, .inl (Γ.2.1 0, 80, .inl (nF (fun _ => 0)))) :: wr) _ _ := h
  refine lv_aload_n C.x C.b dc_M_init_65 rfl (lv_at hl 0 rfl) ?_
  refine lv_sipush (v := (nI 10242)) C.x C.b dc_M_init_66 (by decide +kernel) ?_
  refine rg_naI (N := 10242) C h (by decide) (by decide) (by decide) dc_M_init_69 (fun qa_8 H h => ?_)
  replace h := h.ins
  replace h : sT Γ s ((a, .inr (10, [.int 0, .int 0, .ref qa_1, .ref qa_2, .ref qa_3, .ref qa_4, .int 0, .int 0, .int 0, .int 0, .int 0, .ref qa_5, .ref qa_6, .ref qa_7, .null, .null, .null, .null, .null, .null, .null])) :: (qa_8, .inl (Γ.2.1 0, 10242, .inl (nF (fun _ => 0)))) :: (qa_7, .inl (Γ.2.1 0, 30726, .inl (nF (fun _ => 0)))) :: (qa_6, .inl (Γ.2.1 0, 10242, .inl (nF (fun _ => 0)))) :: (qa_5, .inl (Γ.2.1 0, 10242, .inl (nF (fun _ => 0)))) :: (qa_4, .inl (Γ.2.1 2, 800, .inl (nF (fun _ => 0)))) :: (qa_3, .inl (Γ.2.1 0, 2400, .inl (nF (fun _ => 0)))) :: (qa_2, .inl (Γ.2.1 0, 80, .inl (nF (fun _ => 0)))) :: (qa_1, .inl (Γ.2.1 0, 80, .inl (nF (fun _ => 0)))) :: wr) _ _ := h
  refine rg_putF (ty := .array .int) C hmn h 0 rfl rfl in_M tk_M nm_M 14 (by decide) fl_M_32 rfl rfl (by decide +kernel) rfl rfl (by simp) dc_M_init_71 (fun H locs h => ?_)
  replace h : sT Γ s ((a, .inr (10, [.int 0, .int 0, .ref qa_1, .ref qa_2, .ref qa_3, .ref qa_4, .int 0, .int 0, .int 0, .int 0, .int 0, .ref qa_5, .ref qa_6, .ref qa_7, .ref qa_8, .null, .null, .null, .null, .null, .null])) :: (qa_8, .inl (Γ.2.1 0, 10242, .inl (nF (fun _ => 0)))) :: (qa_7, .inl (Γ.2.1 0, 30726, .inl (nF (fun _ => 0)))) :: (qa_6, .inl (Γ.2.1 0, 10242, .inl (nF (fun _ => 0)))) :: (qa_5, .inl (Γ.2.1 0, 10242, .inl (nF (fun _ => 0)))) :: (qa_4, .inl (Γ.2.1 2, 800, .inl (nF (fun _ => 0)))) :: (qa_3, .inl (Γ.2.1 0, 2400, .inl (nF (fun _ => 0)))) :: (qa_2, .inl (Γ.2.1 0, 80, .inl (nF (fun _ => 0)))) :: (qa_1, .inl (Γ.2.1 0, 80, .inl (nF (fun _ => 0)))) :: wr) _ _ := h
  refine lv_aload_n C.x C.b dc_M_init_74 rfl (lv_at hl 0 rfl) ?_
  refine lv_sipush (v := (nI 10242)) C.x C.b dc_M_init_75 (by decide +kernel) ?_
  refine rg_naI (N := 10242) C h (by decide) (by decide) (by decide) dc_M_init_78 (fun qa_9 H h => ?_)
  replace h := h.ins
  replace h : sT Γ s ((a, .inr (10, [.int 0, .int 0, .ref qa_1, .ref qa_2, .ref qa_3, .ref qa_4, .int 0, .int 0, .int 0, .int 0, .int 0, .ref qa_5, .ref qa_6, .ref qa_7, .ref qa_8, .null, .null, .null, .null, .null, .null])) :: (qa_9, .inl (Γ.2.1 0, 10242, .inl (nF (fun _ => 0)))) :: (qa_8, .inl (Γ.2.1 0, 10242, .inl (nF (fun _ => 0)))) :: (qa_7, .inl (Γ.2.1 0, 30726, .inl (nF (fun _ => 0)))) :: (qa_6, .inl (Γ.2.1 0, 10242, .inl (nF (fun _ => 0)))) :: (qa_5, .inl (Γ.2.1 0, 10242, .inl (nF (fun _ => 0)))) :: (qa_4, .inl (Γ.2.1 2, 800, .inl (nF (fun _ => 0)))) :: (qa_3, .inl (Γ.2.1 0, 2400, .inl (nF (fun _ => 0)))) :: (qa_2, .inl (Γ.2.1 0, 80, .inl (nF (fun _ => 0)))) :: (qa_1, .inl (Γ.2.1 0, 80, .inl (nF (fun _ => 0)))) :: wr) _ _ := h
  refine rg_putF (ty := .array .int) C hmn h 0 rfl rfl in_M tk_M nm_M 15 (by decide) fl_M_35 rfl rfl (by decide +kernel) rfl rfl (by simp) dc_M_init_80 (fun H locs h => ?_)
  replace h : sT Γ s ((a, .inr (10, [.int 0, .int 0, .ref qa_1, .ref qa_2, .ref qa_3, .ref qa_4, .int 0, .int 0, .int 0, .int 0, .int 0, .ref qa_5, .ref qa_6, .ref qa_7, .ref qa_8, .ref qa_9, .null, .null, .null, .null, .null])) :: (qa_9, .inl (Γ.2.1 0, 10242, .inl (nF (fun _ => 0)))) :: (qa_8, .inl (Γ.2.1 0, 10242, .inl (nF (fun _ => 0)))) :: (qa_7, .inl (Γ.2.1 0, 30726, .inl (nF (fun _ => 0)))) :: (qa_6, .inl (Γ.2.1 0, 10242, .inl (nF (fun _ => 0)))) :: (qa_5, .inl (Γ.2.1 0, 10242, .inl (nF (fun _ => 0)))) :: (qa_4, .inl (Γ.2.1 2, 800, .inl (nF (fun _ => 0)))) :: (qa_3, .inl (Γ.2.1 0, 2400, .inl (nF (fun _ => 0)))) :: (qa_2, .inl (Γ.2.1 0, 80, .inl (nF (fun _ => 0)))) :: (qa_1, .inl (Γ.2.1 0, 80, .inl (nF (fun _ => 0)))) :: wr) _ _ := h
  refine lv_aload_n C.x C.b dc_M_init_83 rfl (lv_at hl 0 rfl) ?_
  refine lv_bipush (v := (nI 10)) C.x C.b dc_M_init_84 (by decide +kernel) ?_
  refine rg_naI (N := 10) C h (by decide) (by decide) (by decide) dc_M_init_86 (fun qa_10 H h => ?_)
  replace h := h.ins
  replace h : sT Γ s ((a, .inr (10, [.int 0, .int 0, .ref qa_1, .ref qa_2, .ref qa_3, .ref qa_4, .int 0, .int 0, .int 0, .int 0, .int 0, .ref qa_5, .ref qa_6, .ref qa_7, .ref qa_8, .ref qa_9, .null, .null, .null, .null, .null])) :: (qa_10, .inl (Γ.2.1 0, 10, .inl (nF (fun _ => 0)))) :: (qa_9, .inl (Γ.2.1 0, 10242, .inl (nF (fun _ => 0)))) :: (qa_8, .inl (Γ.2.1 0, 10242, .inl (nF (fun _ => 0)))) :: (qa_7, .inl (Γ.2.1 0, 30726, .inl (nF (fun _ => 0)))) :: (qa_6, .inl (Γ.2.1 0, 10242, .inl (nF (fun _ => 0)))) :: (qa_5, .inl (Γ.2.1 0, 10242, .inl (nF (fun _ => 0)))) :: (qa_4, .inl (Γ.2.1 2, 800, .inl (nF (fun _ => 0)))) :: (qa_3, .inl (Γ.2.1 0, 2400, .inl (nF (fun _ => 0)))) :: (qa_2, .inl (Γ.2.1 0, 80, .inl (nF (fun _ => 0)))) :: (qa_1, .inl (Γ.2.1 0, 80, .inl (nF (fun _ => 0)))) :: wr) _ _ := h
  refine rg_putF (ty := .array .int) C hmn h 0 rfl rfl in_M tk_M nm_M 16 (by decide) fl_M_38 rfl rfl (by decide +kernel) rfl rfl (by simp) dc_M_init_88 (fun H locs h => ?_)
  replace h : sT Γ s ((a, .inr (10, [.int 0, .int 0, .ref qa_1, .ref qa_2, .ref qa_3, .ref qa_4, .int 0, .int 0, .int 0, .int 0, .int 0, .ref qa_5, .ref qa_6, .ref qa_7, .ref qa_8, .ref qa_9, .ref qa_10, .null, .null, .null, .null])) :: (qa_10, .inl (Γ.2.1 0, 10, .inl (nF (fun _ => 0)))) :: (qa_9, .inl (Γ.2.1 0, 10242, .inl (nF (fun _ => 0)))) :: (qa_8, .inl (Γ.2.1 0, 10242, .inl (nF (fun _ => 0)))) :: (qa_7, .inl (Γ.2.1 0, 30726, .inl (nF (fun _ => 0)))) :: (qa_6, .inl (Γ.2.1 0, 10242, .inl (nF (fun _ => 0)))) :: (qa_5, .inl (Γ.2.1 0, 10242, .inl (nF (fun _ => 0)))) :: (qa_4, .inl (Γ.2.1 2, 800, .inl (nF (fun _ => 0)))) :: (qa_3, .inl (Γ.2.1 0, 2400, .inl (nF (fun _ => 0)))) :: (qa_2, .inl (Γ.2.1 0, 80, .inl (nF (fun _ => 0)))) :: (qa_1, .inl (Γ.2.1 0, 80, .inl (nF (fun _ => 0)))) :: wr) _ _ := h
  refine lv_aload_n C.x C.b dc_M_init_91 rfl (lv_at hl 0 rfl) ?_
  refine lv_bipush (v := (nI 10)) C.x C.b dc_M_init_92 (by decide +kernel) ?_
  refine rg_naZ (N := 10) C h (by decide) (by decide) (by decide) dc_M_init_94 (fun qa_11 H h => ?_)
  replace h := h.ins
  replace h : sT Γ s ((a, .inr (10, [.int 0, .int 0, .ref qa_1, .ref qa_2, .ref qa_3, .ref qa_4, .int 0, .int 0, .int 0, .int 0, .int 0, .ref qa_5, .ref qa_6, .ref qa_7, .ref qa_8, .ref qa_9, .ref qa_10, .null, .null, .null, .null])) :: (qa_11, .inl (Γ.2.1 2, 10, .inl (nF (fun _ => 0)))) :: (qa_10, .inl (Γ.2.1 0, 10, .inl (nF (fun _ => 0)))) :: (qa_9, .inl (Γ.2.1 0, 10242, .inl (nF (fun _ => 0)))) :: (qa_8, .inl (Γ.2.1 0, 10242, .inl (nF (fun _ => 0)))) :: (qa_7, .inl (Γ.2.1 0, 30726, .inl (nF (fun _ => 0)))) :: (qa_6, .inl (Γ.2.1 0, 10242, .inl (nF (fun _ => 0)))) :: (qa_5, .inl (Γ.2.1 0, 10242, .inl (nF (fun _ => 0)))) :: (qa_4, .inl (Γ.2.1 2, 800, .inl (nF (fun _ => 0)))) :: (qa_3, .inl (Γ.2.1 0, 2400, .inl (nF (fun _ => 0)))) :: (qa_2, .inl (Γ.2.1 0, 80, .inl (nF (fun _ => 0)))) :: (qa_1, .inl (Γ.2.1 0, 80, .inl (nF (fun _ => 0)))) :: wr) _ _ := h
  refine rg_putF (ty := .array .boolean) C hmn h 0 rfl rfl in_M tk_M nm_M 17 (by decide) fl_M_41 rfl rfl (by decide +kernel) rfl rfl (by simp) dc_M_init_96 (fun H locs h => ?_)
  replace h : sT Γ s ((a, .inr (10, [.int 0, .int 0, .ref qa_1, .ref qa_2, .ref qa_3, .ref qa_4, .int 0, .int 0, .int 0, .int 0, .int 0, .ref qa_5, .ref qa_6, .ref qa_7, .ref qa_8, .ref qa_9, .ref qa_10, .ref qa_11, .null, .null, .null])) :: (qa_11, .inl (Γ.2.1 2, 10, .inl (nF (fun _ => 0)))) :: (qa_10, .inl (Γ.2.1 0, 10, .inl (nF (fun _ => 0)))) :: (qa_9, .inl (Γ.2.1 0, 10242, .inl (nF (fun _ => 0)))) :: (qa_8, .inl (Γ.2.1 0, 10242, .inl (nF (fun _ => 0)))) :: (qa_7, .inl (Γ.2.1 0, 30726, .inl (nF (fun _ => 0)))) :: (qa_6, .inl (Γ.2.1 0, 10242, .inl (nF (fun _ => 0)))) :: (qa_5, .inl (Γ.2.1 0, 10242, .inl (nF (fun _ => 0)))) :: (qa_4, .inl (Γ.2.1 2, 800, .inl (nF (fun _ => 0)))) :: (qa_3, .inl (Γ.2.1 0, 2400, .inl (nF (fun _ => 0)))) :: (qa_2, .inl (Γ.2.1 0, 80, .inl (nF (fun _ => 0)))) :: (qa_1, .inl (Γ.2.1 0, 80, .inl (nF (fun _ => 0)))) :: wr) _ _ := h
  refine lv_aload_n C.x C.b dc_M_init_99 rfl (lv_at hl 0 rfl) ?_
  refine lv_bipush (v := (nI 10)) C.x C.b dc_M_init_100 (by decide +kernel) ?_
  refine rg_naI (N := 10) C h (by decide) (by decide) (by decide) dc_M_init_102 (fun qa_12 H h => ?_)
  replace h := h.ins
  replace h : sT Γ s ((a, .inr (10, [.int 0, .int 0, .ref qa_1, .ref qa_2, .ref qa_3, .ref qa_4, .int 0, .int 0, .int 0, .int 0, .int 0, .ref qa_5, .ref qa_6, .ref qa_7, .ref qa_8, .ref qa_9, .ref qa_10, .ref qa_11, .null, .null, .null])) :: (qa_12, .inl (Γ.2.1 0, 10, .inl (nF (fun _ => 0)))) :: (qa_11, .inl (Γ.2.1 2, 10, .inl (nF (fun _ => 0)))) :: (qa_10, .inl (Γ.2.1 0, 10, .inl (nF (fun _ => 0)))) :: (qa_9, .inl (Γ.2.1 0, 10242, .inl (nF (fun _ => 0)))) :: (qa_8, .inl (Γ.2.1 0, 10242, .inl (nF (fun _ => 0)))) :: (qa_7, .inl (Γ.2.1 0, 30726, .inl (nF (fun _ => 0)))) :: (qa_6, .inl (Γ.2.1 0, 10242, .inl (nF (fun _ => 0)))) :: (qa_5, .inl (Γ.2.1 0, 10242, .inl (nF (fun _ => 0)))) :: (qa_4, .inl (Γ.2.1 2, 800, .inl (nF (fun _ => 0)))) :: (qa_3, .inl (Γ.2.1 0, 2400, .inl (nF (fun _ => 0)))) :: (qa_2, .inl (Γ.2.1 0, 80, .inl (nF (fun _ => 0)))) :: (qa_1, .inl (Γ.2.1 0, 80, .inl (nF (fun _ => 0)))) :: wr) _ _ := h
  refine rg_putF (ty := .array .int) C hmn h 0 rfl rfl in_M tk_M nm_M 18 (by decide) fl_M_44 rfl rfl (by decide +kernel) rfl rfl (by simp) dc_M_init_104 (fun H locs h => ?_)
  replace h : sT Γ s ((a, .inr (10, [.int 0, .int 0, .ref qa_1, .ref qa_2, .ref qa_3, .ref qa_4, .int 0, .int 0, .int 0, .int 0, .int 0, .ref qa_5, .ref qa_6, .ref qa_7, .ref qa_8, .ref qa_9, .ref qa_10, .ref qa_11, .ref qa_12, .null, .null])) :: (qa_12, .inl (Γ.2.1 0, 10, .inl (nF (fun _ => 0)))) :: (qa_11, .inl (Γ.2.1 2, 10, .inl (nF (fun _ => 0)))) :: (qa_10, .inl (Γ.2.1 0, 10, .inl (nF (fun _ => 0)))) :: (qa_9, .inl (Γ.2.1 0, 10242, .inl (nF (fun _ => 0)))) :: (qa_8, .inl (Γ.2.1 0, 10242, .inl (nF (fun _ => 0)))) :: (qa_7, .inl (Γ.2.1 0, 30726, .inl (nF (fun _ => 0)))) :: (qa_6, .inl (Γ.2.1 0, 10242, .inl (nF (fun _ => 0)))) :: (qa_5, .inl (Γ.2.1 0, 10242, .inl (nF (fun _ => 0)))) :: (qa_4, .inl (Γ.2.1 2, 800, .inl (nF (fun _ => 0)))) :: (qa_3, .inl (Γ.2.1 0, 2400, .inl (nF (fun _ => 0)))) :: (qa_2, .inl (Γ.2.1 0, 80, .inl (nF (fun _ => 0)))) :: (qa_1, .inl (Γ.2.1 0, 80, .inl (nF (fun _ => 0)))) :: wr) _ _ := h
  refine lv_aload_n C.x C.b dc_M_init_107 rfl (lv_at hl 0 rfl) ?_
  refine lv_bipush (v := (nI 10)) C.x C.b dc_M_init_108 (by decide +kernel) ?_
  refine rg_naJ (N := 10) C h (by decide) (by decide) (by decide) dc_M_init_110 (fun qa_13 H h => ?_)
  replace h := h.ins
  replace h : sT Γ s ((a, .inr (10, [.int 0, .int 0, .ref qa_1, .ref qa_2, .ref qa_3, .ref qa_4, .int 0, .int 0, .int 0, .int 0, .int 0, .ref qa_5, .ref qa_6, .ref qa_7, .ref qa_8, .ref qa_9, .ref qa_10, .ref qa_11, .ref qa_12, .null, .null])) :: (qa_13, .inl (Γ.2.1 1, 10, .inr (.inl (fun _ => 0)))) :: (qa_12, .inl (Γ.2.1 0, 10, .inl (nF (fun _ => 0)))) :: (qa_11, .inl (Γ.2.1 2, 10, .inl (nF (fun _ => 0)))) :: (qa_10, .inl (Γ.2.1 0, 10, .inl (nF (fun _ => 0)))) :: (qa_9, .inl (Γ.2.1 0, 10242, .inl (nF (fun _ => 0)))) :: (qa_8, .inl (Γ.2.1 0, 10242, .inl (nF (fun _ => 0)))) :: (qa_7, .inl (Γ.2.1 0, 30726, .inl (nF (fun _ => 0)))) :: (qa_6, .inl (Γ.2.1 0, 10242, .inl (nF (fun _ => 0)))) :: (qa_5, .inl (Γ.2.1 0, 10242, .inl (nF (fun _ => 0)))) :: (qa_4, .inl (Γ.2.1 2, 800, .inl (nF (fun _ => 0)))) :: (qa_3, .inl (Γ.2.1 0, 2400, .inl (nF (fun _ => 0)))) :: (qa_2, .inl (Γ.2.1 0, 80, .inl (nF (fun _ => 0)))) :: (qa_1, .inl (Γ.2.1 0, 80, .inl (nF (fun _ => 0)))) :: wr) _ _ := h
  refine rg_putF (ty := .array .long) C hmn h 0 rfl rfl in_M tk_M nm_M 19 (by decide) fl_M_47 rfl rfl (by decide +kernel) rfl rfl (by simp) dc_M_init_112 (fun H locs h => ?_)
  replace h : sT Γ s ((a, .inr (10, [.int 0, .int 0, .ref qa_1, .ref qa_2, .ref qa_3, .ref qa_4, .int 0, .int 0, .int 0, .int 0, .int 0, .ref qa_5, .ref qa_6, .ref qa_7, .ref qa_8, .ref qa_9, .ref qa_10, .ref qa_11, .ref qa_12, .ref qa_13, .null])) :: (qa_13, .inl (Γ.2.1 1, 10, .inr (.inl (fun _ => 0)))) :: (qa_12, .inl (Γ.2.1 0, 10, .inl (nF (fun _ => 0)))) :: (qa_11, .inl (Γ.2.1 2, 10, .inl (nF (fun _ => 0)))) :: (qa_10, .inl (Γ.2.1 0, 10, .inl (nF (fun _ => 0)))) :: (qa_9, .inl (Γ.2.1 0, 10242, .inl (nF (fun _ => 0)))) :: (qa_8, .inl (Γ.2.1 0, 10242, .inl (nF (fun _ => 0)))) :: (qa_7, .inl (Γ.2.1 0, 30726, .inl (nF (fun _ => 0)))) :: (qa_6, .inl (Γ.2.1 0, 10242, .inl (nF (fun _ => 0)))) :: (qa_5, .inl (Γ.2.1 0, 10242, .inl (nF (fun _ => 0)))) :: (qa_4, .inl (Γ.2.1 2, 800, .inl (nF (fun _ => 0)))) :: (qa_3, .inl (Γ.2.1 0, 2400, .inl (nF (fun _ => 0)))) :: (qa_2, .inl (Γ.2.1 0, 80, .inl (nF (fun _ => 0)))) :: (qa_1, .inl (Γ.2.1 0, 80, .inl (nF (fun _ => 0)))) :: wr) _ _ := h
  refine lv_aload_n C.x C.b dc_M_init_115 rfl (lv_at hl 0 rfl) ?_
  refine lv_bipush (v := (nI 10)) C.x C.b dc_M_init_116 (by decide +kernel) ?_
  refine rg_naJ (N := 10) C h (by decide) (by decide) (by decide) dc_M_init_118 (fun qa_14 H h => ?_)
  replace h := h.ins
  replace h : sT Γ s ((a, .inr (10, [.int 0, .int 0, .ref qa_1, .ref qa_2, .ref qa_3, .ref qa_4, .int 0, .int 0, .int 0, .int 0, .int 0, .ref qa_5, .ref qa_6, .ref qa_7, .ref qa_8, .ref qa_9, .ref qa_10, .ref qa_11, .ref qa_12, .ref qa_13, .null])) :: (qa_14, .inl (Γ.2.1 1, 10, .inr (.inl (fun _ => 0)))) :: (qa_13, .inl (Γ.2.1 1, 10, .inr (.inl (fun _ => 0)))) :: (qa_12, .inl (Γ.2.1 0, 10, .inl (nF (fun _ => 0)))) :: (qa_11, .inl (Γ.2.1 2, 10, .inl (nF (fun _ => 0)))) :: (qa_10, .inl (Γ.2.1 0, 10, .inl (nF (fun _ => 0)))) :: (qa_9, .inl (Γ.2.1 0, 10242, .inl (nF (fun _ => 0)))) :: (qa_8, .inl (Γ.2.1 0, 10242, .inl (nF (fun _ => 0)))) :: (qa_7, .inl (Γ.2.1 0, 30726, .inl (nF (fun _ => 0)))) :: (qa_6, .inl (Γ.2.1 0, 10242, .inl (nF (fun _ => 0)))) :: (qa_5, .inl (Γ.2.1 0, 10242, .inl (nF (fun _ => 0)))) :: (qa_4, .inl (Γ.2.1 2, 800, .inl (nF (fun _ => 0)))) :: (qa_3, .inl (Γ.2.1 0, 2400, .inl (nF (fun _ => 0)))) :: (qa_2, .inl (Γ.2.1 0, 80, .inl (nF (fun _ => 0)))) :: (qa_1, .inl (Γ.2.1 0, 80, .inl (nF (fun _ => 0)))) :: wr) _ _ := h
  refine rg_putF (ty := .array .long) C hmn h 0 rfl rfl in_M tk_M nm_M 20 (by decide) fl_M_51 rfl rfl (by decide +kernel) rfl rfl (by simp) dc_M_init_120 (fun H locs h => ?_)
  replace h : sT Γ s ((a, .inr (10, [.int 0, .int 0, .ref qa_1, .ref qa_2, .ref qa_3, .ref qa_4, .int 0, .int 0, .int 0, .int 0, .int 0, .ref qa_5, .ref qa_6, .ref qa_7, .ref qa_8, .ref qa_9, .ref qa_10, .ref qa_11, .ref qa_12, .ref qa_13, .ref qa_14])) :: (qa_14, .inl (Γ.2.1 1, 10, .inr (.inl (fun _ => 0)))) :: (qa_13, .inl (Γ.2.1 1, 10, .inr (.inl (fun _ => 0)))) :: (qa_12, .inl (Γ.2.1 0, 10, .inl (nF (fun _ => 0)))) :: (qa_11, .inl (Γ.2.1 2, 10, .inl (nF (fun _ => 0)))) :: (qa_10, .inl (Γ.2.1 0, 10, .inl (nF (fun _ => 0)))) :: (qa_9, .inl (Γ.2.1 0, 10242, .inl (nF (fun _ => 0)))) :: (qa_8, .inl (Γ.2.1 0, 10242, .inl (nF (fun _ => 0)))) :: (qa_7, .inl (Γ.2.1 0, 30726, .inl (nF (fun _ => 0)))) :: (qa_6, .inl (Γ.2.1 0, 10242, .inl (nF (fun _ => 0)))) :: (qa_5, .inl (Γ.2.1 0, 10242, .inl (nF (fun _ => 0)))) :: (qa_4, .inl (Γ.2.1 2, 800, .inl (nF (fun _ => 0)))) :: (qa_3, .inl (Γ.2.1 0, 2400, .inl (nF (fun _ => 0)))) :: (qa_2, .inl (Γ.2.1 0, 80, .inl (nF (fun _ => 0)))) :: (qa_1, .inl (Γ.2.1 0, 80, .inl (nF (fun _ => 0)))) :: wr) _ _ := h
  replace h := h.rev [(qa_14, .inl (Γ.2.1 1, 10, .inr (.inl (fun _ => 0)))), (qa_13, .inl (Γ.2.1 1, 10, .inr (.inl (fun _ => 0)))), (qa_12, .inl (Γ.2.1 0, 10, .inl (nF (fun _ => 0)))), (qa_11, .inl (Γ.2.1 2, 10, .inl (nF (fun _ => 0)))), (qa_10, .inl (Γ.2.1 0, 10, .inl (nF (fun _ => 0)))), (qa_9, .inl (Γ.2.1 0, 10242, .inl (nF (fun _ => 0)))), (qa_8, .inl (Γ.2.1 0, 10242, .inl (nF (fun _ => 0)))), (qa_7, .inl (Γ.2.1 0, 30726, .inl (nF (fun _ => 0)))), (qa_6, .inl (Γ.2.1 0, 10242, .inl (nF (fun _ => 0)))), (qa_5, .inl (Γ.2.1 0, 10242, .inl (nF (fun _ => 0)))), (qa_4, .inl (Γ.2.1 2, 800, .inl (nF (fun _ => 0)))), (qa_3, .inl (Γ.2.1 0, 2400, .inl (nF (fun _ => 0)))), (qa_2, .inl (Γ.2.1 0, 80, .inl (nF (fun _ => 0)))), (qa_1, .inl (Γ.2.1 0, 80, .inl (nF (fun _ => 0))))]
  rw [hQ]
  exact rt_v C (fun i => ([qa_1, qa_2, qa_3, qa_4, qa_5, qa_6, qa_7, qa_8, qa_9, qa_10, qa_11, qa_12, qa_13, qa_14][i]?).getD 0) h (rfl) dc_M_init_123

abbrev rm_S_init : Room := { frames := 3, cells := 11, slots := 71732, locals := 54 }
set_option maxRecDepth 100000 in
set_option maxHeartbeats 4000000 in
theorem c_S_init (l : Launch) (Γ : gG) (wr : va_W) (a : Nat) : cT l Γ my_S_init bc_S_init 1 none rm_S_init [.ref a] ((a, .inr (1, [.null, .null, .null, .null, .int 0, .null, .null, .null, .null, .int 0, .null, .int 0, .null, .null])) :: wr) (S := Nat → Nat) (fun v _ => v = none) (fun u => (a, .inr (1, [.ref (u 0), .ref (u 1), .ref (u 2), .ref (u 3), .int 0, .ref (u 4), .ref (u 5), .ref (u 6), .ref (u 7), .int 0, .ref (u 8), .int 0, .ref (u 9), .ref (u 10)])) :: (u 0, .inr (4, [.int (nI 0), .int (nI 0)])) :: (u 1, .inl (Γ.2.1 0, 10240, .inl (nF (fun _ => 0)))) :: (u 2, .inl (Γ.2.1 0, 10240, .inl (nF (fun _ => 0)))) :: (u 3, .inl (Γ.2.1 0, 30720, .inl (nF (fun _ => 0)))) :: (u 4, .inl (Γ.2.1 0, 10240, .inl (nF (fun _ => 0)))) :: (u 5, .inl (Γ.2.1 0, 10240, .inl (nF (fun _ => 0)))) :: (u 6, .inl (Γ.2.1 0, 10, .inl (nF (fun _ => 0)))) :: (u 7, .inl (Γ.2.1 0, 10, .inl (nF (fun _ => 0)))) :: (u 8, .inl (Γ.2.1 0, 10, .inl (nF (fun _ => 0)))) :: (u 9, .inl (Γ.2.1 0, 10, .inl (nF (fun _ => 0)))) :: (u 10, .inl (Γ.2.1 0, 10, .inl (nF (fun _ => 0)))) :: wr) := by
  refine cT.start (by decide) (Nat.le_of_ble_eq_true rfl) (fun p e s m args below meth c ls Q hQ C hmn h hl => ?_)
  replace hl : lv_has ls 1 [(0, .ref a)] := hl
  refine lv_aload_n C.x C.b dc_S_init_0 rfl (lv_at hl 0 rfl) ?_
  refine W.objInit C.x C.b C.o (C.t _ lk_S_3) (C.t _ gw_oi) (C.t _ gw_oc) rfl (by rw [C.n]; exact hl.1) rfl dc_S_init_1 (by decide) (Nat.le_of_ble_eq_true rfl) ?_
  refine W.eq (g2 := F0 m 4 ls []) rfl ?_
  refine lv_aload_n C.x C.b dc_S_init_4 rfl (lv_at hl 0 rfl) ?_
  refine rg_new (ci := 4) (ty := ft_O) (fs := [.int 0, .int 0]) C h rfl in_O tk_O nk_S_9 ns_O ni_O (by decide +kernel) (by decide) (by decide) dc_S_init_5 (fun qn_1 H h => ?_)
  replace h : sT Γ s ((qn_1, .inr (4, [.int 0, .int 0])) :: (a, .inr (1, [.null, .null, .null, .null, .int 0, .null, .null, .null, .null, .int 0, .null, .int 0, .null, .null])) :: wr) _ _ := h
  refine lv_dup C.x C.b dc_S_init_8 rfl ?_
  refine lv_iconst (v := (nI 0)) C.x C.b dc_S_init_9 (by decide +kernel) ?_
  refine lv_iconst (v := (nI 0)) C.x C.b dc_S_init_10 (by decide +kernel) ?_
  refine kv_I (As := [.int (nI 0), .int (nI 0)]) (rest := [.ref qn_1, .ref a]) C h hl.1 (c_O_init0 l Γ ((a, .inr (1, [.null, .null, .null, .null, .int 0, .null, .null, .null, .null, .int 0, .null, .int 0, .null, .null])) :: wr) qn_1 0 0) mw_O_init lk_S_11 rfl (by decide) (by decide) (Nat.le_of_ble_eq_true rfl) dc_S_init_11 (fun v u H locs hp h => ?_)
  obtain rfl := hp
  replace h := h.perm (List.Perm.swap _ _ _)
  replace h : sT Γ s ((a, .inr (1, [.null, .null, .null, .null, .int 0, .null, .null, .null, .null, .int 0, .null, .int 0, .null, .null])) :: (qn_1, .inr (4, [.int (nI 0), .int (nI 0)])) :: wr) _ _ := h
  refine W.eq (g2 := F0 m 14 ls [.ref qn_1, .ref a]) rfl ?_
  refine rg_put (ty := .object "RestSets$Machine") C h 0 rfl rfl in_S tk_S nm_S 0 (by decide) fl_S_14 rfl (by decide +kernel) rfl rfl (by simp) dc_S_init_14 (fun H locs h => ?_)
  replace h : sT Γ s ((a, .inr (1, [.ref qn_1, .null, .null, .null, .int 0, .null, .null, .null, .null, .int 0, .null, .int 0, .null, .null])) :: (qn_1, .inr (4, [.int (nI 0), .int (nI 0)])) :: wr) _ _ := h
  refine lv_aload_n C.x C.b dc_S_init_17 rfl (lv_at hl 0 rfl) ?_
  refine lv_sipush (v := (nI 10240)) C.x C.b dc_S_init_18 (by decide +kernel) ?_
  refine rg_naI (N := 10240) C h (by decide) (by decide) (by decide) dc_S_init_21 (fun qa_2 H h => ?_)
  replace h := h.ins
  replace h : sT Γ s ((a, .inr (1, [.ref qn_1, .null, .null, .null, .int 0, .null, .null, .null, .null, .int 0, .null, .int 0, .null, .null])) :: (qa_2, .inl (Γ.2.1 0, 10240, .inl (nF (fun _ => 0)))) :: (qn_1, .inr (4, [.int (nI 0), .int (nI 0)])) :: wr) _ _ := h
  refine rg_putF (ty := .array .int) C hmn h 0 rfl rfl in_S tk_S nm_S 1 (by decide) fl_S_20 rfl rfl (by decide +kernel) rfl rfl (by simp) dc_S_init_23 (fun H locs h => ?_)
  replace h : sT Γ s ((a, .inr (1, [.ref qn_1, .ref qa_2, .null, .null, .int 0, .null, .null, .null, .null, .int 0, .null, .int 0, .null, .null])) :: (qa_2, .inl (Γ.2.1 0, 10240, .inl (nF (fun _ => 0)))) :: (qn_1, .inr (4, [.int (nI 0), .int (nI 0)])) :: wr) _ _ := h
  refine lv_aload_n C.x C.b dc_S_init_26 rfl (lv_at hl 0 rfl) ?_
  refine lv_sipush (v := (nI 10240)) C.x C.b dc_S_init_27 (by decide +kernel) ?_
  refine rg_naI (N := 10240) C h (by decide) (by decide) (by decide) dc_S_init_30 (fun qa_3 H h => ?_)
  replace h := h.ins
  replace h : sT Γ s ((a, .inr (1, [.ref qn_1, .ref qa_2, .null, .null, .int 0, .null, .null, .null, .null, .int 0, .null, .int 0, .null, .null])) :: (qa_3, .inl (Γ.2.1 0, 10240, .inl (nF (fun _ => 0)))) :: (qa_2, .inl (Γ.2.1 0, 10240, .inl (nF (fun _ => 0)))) :: (qn_1, .inr (4, [.int (nI 0), .int (nI 0)])) :: wr) _ _ := h
  refine rg_putF (ty := .array .int) C hmn h 0 rfl rfl in_S tk_S nm_S 2 (by decide) fl_S_24 rfl rfl (by decide +kernel) rfl rfl (by simp) dc_S_init_32 (fun H locs h => ?_)
  replace h : sT Γ s ((a, .inr (1, [.ref qn_1, .ref qa_2, .ref qa_3, .null, .int 0, .null, .null, .null, .null, .int 0, .null, .int 0, .null, .null])) :: (qa_3, .inl (Γ.2.1 0, 10240, .inl (nF (fun _ => 0)))) :: (qa_2, .inl (Γ.2.1 0, 10240, .inl (nF (fun _ => 0)))) :: (qn_1, .inr (4, [.int (nI 0), .int (nI 0)])) :: wr) _ _ := h
  refine lv_aload_n C.x C.b dc_S_init_35 rfl (lv_at hl 0 rfl) ?_
  refine lv_sipush (v := (nI 30720)) C.x C.b dc_S_init_36 (by decide +kernel) ?_
  refine rg_naI (N := 30720) C h (by decide) (by decide) (by decide) dc_S_init_39 (fun qa_4 H h => ?_)
  replace h := h.ins
  replace h : sT Γ s ((a, .inr (1, [.ref qn_1, .ref qa_2, .ref qa_3, .null, .int 0, .null, .null, .null, .null, .int 0, .null, .int 0, .null, .null])) :: (qa_4, .inl (Γ.2.1 0, 30720, .inl (nF (fun _ => 0)))) :: (qa_3, .inl (Γ.2.1 0, 10240, .inl (nF (fun _ => 0)))) :: (qa_2, .inl (Γ.2.1 0, 10240, .inl (nF (fun _ => 0)))) :: (qn_1, .inr (4, [.int (nI 0), .int (nI 0)])) :: wr) _ _ := h
  refine rg_putF (ty := .array .int) C hmn h 0 rfl rfl in_S tk_S nm_S 3 (by decide) fl_S_27 rfl rfl (by decide +kernel) rfl rfl (by simp) dc_S_init_41 (fun H locs h => ?_)
  replace h : sT Γ s ((a, .inr (1, [.ref qn_1, .ref qa_2, .ref qa_3, .ref qa_4, .int 0, .null, .null, .null, .null, .int 0, .null, .int 0, .null, .null])) :: (qa_4, .inl (Γ.2.1 0, 30720, .inl (nF (fun _ => 0)))) :: (qa_3, .inl (Γ.2.1 0, 10240, .inl (nF (fun _ => 0)))) :: (qa_2, .inl (Γ.2.1 0, 10240, .inl (nF (fun _ => 0)))) :: (qn_1, .inr (4, [.int (nI 0), .int (nI 0)])) :: wr) _ _ := h
  refine lv_aload_n C.x C.b dc_S_init_44 rfl (lv_at hl 0 rfl) ?_
  refine lv_sipush (v := (nI 10240)) C.x C.b dc_S_init_45 (by decide +kernel) ?_
  refine rg_naI (N := 10240) C h (by decide) (by decide) (by decide) dc_S_init_48 (fun qa_5 H h => ?_)
  replace h := h.ins
  replace h : sT Γ s ((a, .inr (1, [.ref qn_1, .ref qa_2, .ref qa_3, .ref qa_4, .int 0, .null, .null, .null, .null, .int 0, .null, .int 0, .null, .null])) :: (qa_5, .inl (Γ.2.1 0, 10240, .inl (nF (fun _ => 0)))) :: (qa_4, .inl (Γ.2.1 0, 30720, .inl (nF (fun _ => 0)))) :: (qa_3, .inl (Γ.2.1 0, 10240, .inl (nF (fun _ => 0)))) :: (qa_2, .inl (Γ.2.1 0, 10240, .inl (nF (fun _ => 0)))) :: (qn_1, .inr (4, [.int (nI 0), .int (nI 0)])) :: wr) _ _ := h
  refine rg_putF (ty := .array .int) C hmn h 0 rfl rfl in_S tk_S nm_S 5 (by decide) fl_S_30 rfl rfl (by decide +kernel) rfl rfl (by simp) dc_S_init_50 (fun H locs h => ?_)
  replace h : sT Γ s ((a, .inr (1, [.ref qn_1, .ref qa_2, .ref qa_3, .ref qa_4, .int 0, .ref qa_5, .null, .null, .null, .int 0, .null, .int 0, .null, .null])) :: (qa_5, .inl (Γ.2.1 0, 10240, .inl (nF (fun _ => 0)))) :: (qa_4, .inl (Γ.2.1 0, 30720, .inl (nF (fun _ => 0)))) :: (qa_3, .inl (Γ.2.1 0, 10240, .inl (nF (fun _ => 0)))) :: (qa_2, .inl (Γ.2.1 0, 10240, .inl (nF (fun _ => 0)))) :: (qn_1, .inr (4, [.int (nI 0), .int (nI 0)])) :: wr) _ _ := h
  refine lv_aload_n C.x C.b dc_S_init_53 rfl (lv_at hl 0 rfl) ?_
  refine lv_sipush (v := (nI 10240)) C.x C.b dc_S_init_54 (by decide +kernel) ?_
  refine rg_naI (N := 10240) C h (by decide) (by decide) (by decide) dc_S_init_57 (fun qa_6 H h => ?_)
  replace h := h.ins
  replace h : sT Γ s ((a, .inr (1, [.ref qn_1, .ref qa_2, .ref qa_3, .ref qa_4, .int 0, .ref qa_5, .null, .null, .null, .int 0, .null, .int 0, .null, .null])) :: (qa_6, .inl (Γ.2.1 0, 10240, .inl (nF (fun _ => 0)))) :: (qa_5, .inl (Γ.2.1 0, 10240, .inl (nF (fun _ => 0)))) :: (qa_4, .inl (Γ.2.1 0, 30720, .inl (nF (fun _ => 0)))) :: (qa_3, .inl (Γ.2.1 0, 10240, .inl (nF (fun _ => 0)))) :: (qa_2, .inl (Γ.2.1 0, 10240, .inl (nF (fun _ => 0)))) :: (qn_1, .inr (4, [.int (nI 0), .int (nI 0)])) :: wr) _ _ := h
  refine rg_putF (ty := .array .int) C hmn h 0 rfl rfl in_S tk_S nm_S 6 (by decide) fl_S_33 rfl rfl (by decide +kernel) rfl rfl (by simp) dc_S_init_59 (fun H locs h => ?_)
  replace h : sT Γ s ((a, .inr (1, [.ref qn_1, .ref qa_2, .ref qa_3, .ref qa_4, .int 0, .ref qa_5, .ref qa_6, .null, .null, .int 0, .null, .int 0, .null, .null])) :: (qa_6, .inl (Γ.2.1 0, 10240, .inl (nF (fun _ => 0)))) :: (qa_5, .inl (Γ.2.1 0, 10240, .inl (nF (fun _ => 0)))) :: (qa_4, .inl (Γ.2.1 0, 30720, .inl (nF (fun _ => 0)))) :: (qa_3, .inl (Γ.2.1 0, 10240, .inl (nF (fun _ => 0)))) :: (qa_2, .inl (Γ.2.1 0, 10240, .inl (nF (fun _ => 0)))) :: (qn_1, .inr (4, [.int (nI 0), .int (nI 0)])) :: wr) _ _ := h
  refine lv_aload_n C.x C.b dc_S_init_62 rfl (lv_at hl 0 rfl) ?_
  refine lv_bipush (v := (nI 10)) C.x C.b dc_S_init_63 (by decide +kernel) ?_
  refine rg_naI (N := 10) C h (by decide) (by decide) (by decide) dc_S_init_65 (fun qa_7 H h => ?_)
  replace h := h.ins
  replace h : sT Γ s ((a, .inr (1, [.ref qn_1, .ref qa_2, .ref qa_3, .ref qa_4, .int 0, .ref qa_5, .ref qa_6, .null, .null, .int 0, .null, .int 0, .null, .null])) :: (qa_7, .inl (Γ.2.1 0, 10, .inl (nF (fun _ => 0)))) :: (qa_6, .inl (Γ.2.1 0, 10240, .inl (nF (fun _ => 0)))) :: (qa_5, .inl (Γ.2.1 0, 10240, .inl (nF (fun _ => 0)))) :: (qa_4, .inl (Γ.2.1 0, 30720, .inl (nF (fun _ => 0)))) :: (qa_3, .inl (Γ.2.1 0, 10240, .inl (nF (fun _ => 0)))) :: (qa_2, .inl (Γ.2.1 0, 10240, .inl (nF (fun _ => 0)))) :: (qn_1, .inr (4, [.int (nI 0), .int (nI 0)])) :: wr) _ _ := h
  refine rg_putF (ty := .array .int) C hmn h 0 rfl rfl in_S tk_S nm_S 7 (by decide) fl_S_36 rfl rfl (by decide +kernel) rfl rfl (by simp) dc_S_init_67 (fun H locs h => ?_)
  replace h : sT Γ s ((a, .inr (1, [.ref qn_1, .ref qa_2, .ref qa_3, .ref qa_4, .int 0, .ref qa_5, .ref qa_6, .ref qa_7, .null, .int 0, .null, .int 0, .null, .null])) :: (qa_7, .inl (Γ.2.1 0, 10, .inl (nF (fun _ => 0)))) :: (qa_6, .inl (Γ.2.1 0, 10240, .inl (nF (fun _ => 0)))) :: (qa_5, .inl (Γ.2.1 0, 10240, .inl (nF (fun _ => 0)))) :: (qa_4, .inl (Γ.2.1 0, 30720, .inl (nF (fun _ => 0)))) :: (qa_3, .inl (Γ.2.1 0, 10240, .inl (nF (fun _ => 0)))) :: (qa_2, .inl (Γ.2.1 0, 10240, .inl (nF (fun _ => 0)))) :: (qn_1, .inr (4, [.int (nI 0), .int (nI 0)])) :: wr) _ _ := h
  refine lv_aload_n C.x C.b dc_S_init_70 rfl (lv_at hl 0 rfl) ?_
  refine lv_bipush (v := (nI 10)) C.x C.b dc_S_init_71 (by decide +kernel) ?_
  refine rg_naI (N := 10) C h (by decide) (by decide) (by decide) dc_S_init_73 (fun qa_8 H h => ?_)
  replace h := h.ins
  replace h : sT Γ s ((a, .inr (1, [.ref qn_1, .ref qa_2, .ref qa_3, .ref qa_4, .int 0, .ref qa_5, .ref qa_6, .ref qa_7, .null, .int 0, .null, .int 0, .null, .null])) :: (qa_8, .inl (Γ.2.1 0, 10, .inl (nF (fun _ => 0)))) :: (qa_7, .inl (Γ.2.1 0, 10, .inl (nF (fun _ => 0)))) :: (qa_6, .inl (Γ.2.1 0, 10240, .inl (nF (fun _ => 0)))) :: (qa_5, .inl (Γ.2.1 0, 10240, .inl (nF (fun _ => 0)))) :: (qa_4, .inl (Γ.2.1 0, 30720, .inl (nF (fun _ => 0)))) :: (qa_3, .inl (Γ.2.1 0, 10240, .inl (nF (fun _ => 0)))) :: (qa_2, .inl (Γ.2.1 0, 10240, .inl (nF (fun _ => 0)))) :: (qn_1, .inr (4, [.int (nI 0), .int (nI 0)])) :: wr) _ _ := h
  refine rg_putF (ty := .array .int) C hmn h 0 rfl rfl in_S tk_S nm_S 8 (by decide) fl_S_39 rfl rfl (by decide +kernel) rfl rfl (by simp) dc_S_init_75 (fun H locs h => ?_)
  replace h : sT Γ s ((a, .inr (1, [.ref qn_1, .ref qa_2, .ref qa_3, .ref qa_4, .int 0, .ref qa_5, .ref qa_6, .ref qa_7, .ref qa_8, .int 0, .null, .int 0, .null, .null])) :: (qa_8, .inl (Γ.2.1 0, 10, .inl (nF (fun _ => 0)))) :: (qa_7, .inl (Γ.2.1 0, 10, .inl (nF (fun _ => 0)))) :: (qa_6, .inl (Γ.2.1 0, 10240, .inl (nF (fun _ => 0)))) :: (qa_5, .inl (Γ.2.1 0, 10240, .inl (nF (fun _ => 0)))) :: (qa_4, .inl (Γ.2.1 0, 30720, .inl (nF (fun _ => 0)))) :: (qa_3, .inl (Γ.2.1 0, 10240, .inl (nF (fun _ => 0)))) :: (qa_2, .inl (Γ.2.1 0, 10240, .inl (nF (fun _ => 0)))) :: (qn_1, .inr (4, [.int (nI 0), .int (nI 0)])) :: wr) _ _ := h
  refine lv_aload_n C.x C.b dc_S_init_78 rfl (lv_at hl 0 rfl) ?_
  refine lv_bipush (v := (nI 10)) C.x C.b dc_S_init_79 (by decide +kernel) ?_
  refine rg_naI (N := 10) C h (by decide) (by decide) (by decide) dc_S_init_81 (fun qa_9 H h => ?_)
  replace h := h.ins
  replace h : sT Γ s ((a, .inr (1, [.ref qn_1, .ref qa_2, .ref qa_3, .ref qa_4, .int 0, .ref qa_5, .ref qa_6, .ref qa_7, .ref qa_8, .int 0, .null, .int 0, .null, .null])) :: (qa_9, .inl (Γ.2.1 0, 10, .inl (nF (fun _ => 0)))) :: (qa_8, .inl (Γ.2.1 0, 10, .inl (nF (fun _ => 0)))) :: (qa_7, .inl (Γ.2.1 0, 10, .inl (nF (fun _ => 0)))) :: (qa_6, .inl (Γ.2.1 0, 10240, .inl (nF (fun _ => 0)))) :: (qa_5, .inl (Γ.2.1 0, 10240, .inl (nF (fun _ => 0)))) :: (qa_4, .inl (Γ.2.1 0, 30720, .inl (nF (fun _ => 0)))) :: (qa_3, .inl (Γ.2.1 0, 10240, .inl (nF (fun _ => 0)))) :: (qa_2, .inl (Γ.2.1 0, 10240, .inl (nF (fun _ => 0)))) :: (qn_1, .inr (4, [.int (nI 0), .int (nI 0)])) :: wr) _ _ := h
  refine rg_putF (ty := .array .int) C hmn h 0 rfl rfl in_S tk_S nm_S 10 (by decide) fl_S_42 rfl rfl (by decide +kernel) rfl rfl (by simp) dc_S_init_83 (fun H locs h => ?_)
  replace h : sT Γ s ((a, .inr (1, [.ref qn_1, .ref qa_2, .ref qa_3, .ref qa_4, .int 0, .ref qa_5, .ref qa_6, .ref qa_7, .ref qa_8, .int 0, .ref qa_9, .int 0, .null, .null])) :: (qa_9, .inl (Γ.2.1 0, 10, .inl (nF (fun _ => 0)))) :: (qa_8, .inl (Γ.2.1 0, 10, .inl (nF (fun _ => 0)))) :: (qa_7, .inl (Γ.2.1 0, 10, .inl (nF (fun _ => 0)))) :: (qa_6, .inl (Γ.2.1 0, 10240, .inl (nF (fun _ => 0)))) :: (qa_5, .inl (Γ.2.1 0, 10240, .inl (nF (fun _ => 0)))) :: (qa_4, .inl (Γ.2.1 0, 30720, .inl (nF (fun _ => 0)))) :: (qa_3, .inl (Γ.2.1 0, 10240, .inl (nF (fun _ => 0)))) :: (qa_2, .inl (Γ.2.1 0, 10240, .inl (nF (fun _ => 0)))) :: (qn_1, .inr (4, [.int (nI 0), .int (nI 0)])) :: wr) _ _ := h
  refine lv_aload_n C.x C.b dc_S_init_86 rfl (lv_at hl 0 rfl) ?_
  refine lv_bipush (v := (nI 10)) C.x C.b dc_S_init_87 (by decide +kernel) ?_
  refine rg_naI (N := 10) C h (by decide) (by decide) (by decide) dc_S_init_89 (fun qa_10 H h => ?_)
  replace h := h.ins
  replace h : sT Γ s ((a, .inr (1, [.ref qn_1, .ref qa_2, .ref qa_3, .ref qa_4, .int 0, .ref qa_5, .ref qa_6, .ref qa_7, .ref qa_8, .int 0, .ref qa_9, .int 0, .null, .null])) :: (qa_10, .inl (Γ.2.1 0, 10, .inl (nF (fun _ => 0)))) :: (qa_9, .inl (Γ.2.1 0, 10, .inl (nF (fun _ => 0)))) :: (qa_8, .inl (Γ.2.1 0, 10, .inl (nF (fun _ => 0)))) :: (qa_7, .inl (Γ.2.1 0, 10, .inl (nF (fun _ => 0)))) :: (qa_6, .inl (Γ.2.1 0, 10240, .inl (nF (fun _ => 0)))) :: (qa_5, .inl (Γ.2.1 0, 10240, .inl (nF (fun _ => 0)))) :: (qa_4, .inl (Γ.2.1 0, 30720, .inl (nF (fun _ => 0)))) :: (qa_3, .inl (Γ.2.1 0, 10240, .inl (nF (fun _ => 0)))) :: (qa_2, .inl (Γ.2.1 0, 10240, .inl (nF (fun _ => 0)))) :: (qn_1, .inr (4, [.int (nI 0), .int (nI 0)])) :: wr) _ _ := h
  refine rg_putF (ty := .array .int) C hmn h 0 rfl rfl in_S tk_S nm_S 12 (by decide) fl_S_45 rfl rfl (by decide +kernel) rfl rfl (by simp) dc_S_init_91 (fun H locs h => ?_)
  replace h : sT Γ s ((a, .inr (1, [.ref qn_1, .ref qa_2, .ref qa_3, .ref qa_4, .int 0, .ref qa_5, .ref qa_6, .ref qa_7, .ref qa_8, .int 0, .ref qa_9, .int 0, .ref qa_10, .null])) :: (qa_10, .inl (Γ.2.1 0, 10, .inl (nF (fun _ => 0)))) :: (qa_9, .inl (Γ.2.1 0, 10, .inl (nF (fun _ => 0)))) :: (qa_8, .inl (Γ.2.1 0, 10, .inl (nF (fun _ => 0)))) :: (qa_7, .inl (Γ.2.1 0, 10, .inl (nF (fun _ => 0)))) :: (qa_6, .inl (Γ.2.1 0, 10240, .inl (nF (fun _ => 0)))) :: (qa_5, .inl (Γ.2.1 0, 10240, .inl (nF (fun _ => 0)))) :: (qa_4, .inl (Γ.2.1 0, 30720, .inl (nF (fun _ => 0)))) :: (qa_3, .inl (Γ.2.1 0, 10240, .inl (nF (fun _ => 0)))) :: (qa_2, .inl (Γ.2.1 0, 10240, .inl (nF (fun _ => 0)))) :: (qn_1, .inr (4, [.int (nI 0), .int (nI 0)])) :: wr) _ _ := h
  refine lv_aload_n C.x C.b dc_S_init_94 rfl (lv_at hl 0 rfl) ?_
  refine lv_bipush (v := (nI 10)) C.x C.b dc_S_init_95 (by decide +kernel) ?_
  refine rg_naI (N := 10) C h (by decide) (by decide) (by decide) dc_S_init_97 (fun qa_11 H h => ?_)
  replace h := h.ins
  replace h : sT Γ s ((a, .inr (1, [.ref qn_1, .ref qa_2, .ref qa_3, .ref qa_4, .int 0, .ref qa_5, .ref qa_6, .ref qa_7, .ref qa_8, .int 0, .ref qa_9, .int 0, .ref qa_10, .null])) :: (qa_11, .inl (Γ.2.1 0, 10, .inl (nF (fun _ => 0)))) :: (qa_10, .inl (Γ.2.1 0, 10, .inl (nF (fun _ => 0)))) :: (qa_9, .inl (Γ.2.1 0, 10, .inl (nF (fun _ => 0)))) :: (qa_8, .inl (Γ.2.1 0, 10, .inl (nF (fun _ => 0)))) :: (qa_7, .inl (Γ.2.1 0, 10, .inl (nF (fun _ => 0)))) :: (qa_6, .inl (Γ.2.1 0, 10240, .inl (nF (fun _ => 0)))) :: (qa_5, .inl (Γ.2.1 0, 10240, .inl (nF (fun _ => 0)))) :: (qa_4, .inl (Γ.2.1 0, 30720, .inl (nF (fun _ => 0)))) :: (qa_3, .inl (Γ.2.1 0, 10240, .inl (nF (fun _ => 0)))) :: (qa_2, .inl (Γ.2.1 0, 10240, .inl (nF (fun _ => 0)))) :: (qn_1, .inr (4, [.int (nI 0), .int (nI 0)])) :: wr) _ _ := h
  refine rg_putF (ty := .array .int) C hmn h 0 rfl rfl in_S tk_S nm_S 13 (by decide) fl_S_48 rfl rfl (by decide +kernel) rfl rfl (by simp) dc_S_init_99 (fun H locs h => ?_)
  replace h : sT Γ s ((a, .inr (1, [.ref qn_1, .ref qa_2, .ref qa_3, .ref qa_4, .int 0, .ref qa_5, .ref qa_6, .ref qa_7, .ref qa_8, .int 0, .ref qa_9, .int 0, .ref qa_10, .ref qa_11])) :: (qa_11, .inl (Γ.2.1 0, 10, .inl (nF (fun _ => 0)))) :: (qa_10, .inl (Γ.2.1 0, 10, .inl (nF (fun _ => 0)))) :: (qa_9, .inl (Γ.2.1 0, 10, .inl (nF (fun _ => 0)))) :: (qa_8, .inl (Γ.2.1 0, 10, .inl (nF (fun _ => 0)))) :: (qa_7, .inl (Γ.2.1 0, 10, .inl (nF (fun _ => 0)))) :: (qa_6, .inl (Γ.2.1 0, 10240, .inl (nF (fun _ => 0)))) :: (qa_5, .inl (Γ.2.1 0, 10240, .inl (nF (fun _ => 0)))) :: (qa_4, .inl (Γ.2.1 0, 30720, .inl (nF (fun _ => 0)))) :: (qa_3, .inl (Γ.2.1 0, 10240, .inl (nF (fun _ => 0)))) :: (qa_2, .inl (Γ.2.1 0, 10240, .inl (nF (fun _ => 0)))) :: (qn_1, .inr (4, [.int (nI 0), .int (nI 0)])) :: wr) _ _ := h
  replace h := h.rev [(qa_11, .inl (Γ.2.1 0, 10, .inl (nF (fun _ => 0)))), (qa_10, .inl (Γ.2.1 0, 10, .inl (nF (fun _ => 0)))), (qa_9, .inl (Γ.2.1 0, 10, .inl (nF (fun _ => 0)))), (qa_8, .inl (Γ.2.1 0, 10, .inl (nF (fun _ => 0)))), (qa_7, .inl (Γ.2.1 0, 10, .inl (nF (fun _ => 0)))), (qa_6, .inl (Γ.2.1 0, 10240, .inl (nF (fun _ => 0)))), (qa_5, .inl (Γ.2.1 0, 10240, .inl (nF (fun _ => 0)))), (qa_4, .inl (Γ.2.1 0, 30720, .inl (nF (fun _ => 0)))), (qa_3, .inl (Γ.2.1 0, 10240, .inl (nF (fun _ => 0)))), (qa_2, .inl (Γ.2.1 0, 10240, .inl (nF (fun _ => 0)))), (qn_1, .inr (4, [.int (nI 0), .int (nI 0)]))]
  rw [hQ]
  exact rt_v C (fun i => ([qn_1, qa_2, qa_3, qa_4, qa_5, qa_6, qa_7, qa_8, qa_9, qa_10, qa_11][i]?).getD 0) h (rfl) dc_S_init_102

