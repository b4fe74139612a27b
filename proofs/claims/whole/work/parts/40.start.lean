/-! THE CLAIM OUT OF ONE WALK OF THE LAW'S BODY. Your part is whole_start (and what it stands on); all else here is the same for every law, but numbers. -/
def R_law : String := "RestSetsLaw"
def lw_P (b : Addr) (xs : List Int32) (args : Array Value) (s : State) : Prop := args = #[.ref b] ∧ s.IntsAt b xs ∧ xs.length ≤ 2560 ∧ (Jvm.Cond.and given_1 narrow_1).before args s = true
def lw_Q (_ : Array Value) (s : State) (o : Outcome) (t : State) : Prop := o = .returned (some (.int 1)) ∧ Framed s o t [] 601024 7293034
def lw_Z (below : List Frame) (a : Array Value) (s : State) : State → Prop := fun t => ∃ o, t.status = .running ∧ Ended t below o ∧ lw_Q a s o t
/-- the law's own end, with 1 on the stack, nothing written that was there before, its room as the claim has it -/
theorem lw_ret {p : Program} {l : Launch} {e : Env} {s : State} {m : MethodId} {below : List Frame} {meth : Method} {c : Code} {b : Nat} (hx : p.tables.exec = Jvm.exec) (hb : c.code = code) (hr : meth.sig.returnType = ret) (hlocks : meth.locks = false) {pc : Nat} {H : Heap} {ls : Array Slot} (hdg : decode code pc = .ok (.ireturn, 1)) : W p l e room_1 s m #[Value.ref b] below meth c H [] 601024 7293034 (lw_Z below #[Value.ref b] s) (F0 m pc ls [.int 1]) := by
  intro T hT X
  obtain ⟨fs, hret, hrun, hended, hW, hframe⟩ := X.leave (v := some (.int 1)) (hlocks := hlocks) (fun h => by rw [hr] at h; cases h)
  have hmeth' : T.vm.method? m = some meth := X.method'
  refine ⟨T.setFrames fs, ?_, .returned (some (.int 1)), hrun, hended, rfl, ⟨_, rfl⟩, hW, hframe⟩
  jvm_step X.here [X.here.top, hx, hb, hdg, hmeth', hr, ret, narrow_b1]
  (try refine ⟨rfl, ?_⟩); (try refine ⟨rfl, ?_⟩)
  first | (intro acts; rw [hret _ acts rfl rfl rfl]) | rw [hret _ _ rfl rfl rfl]
  exact Steps.refl _
/-- what holds at the law's entry: the machine, the code, the tables' words (any of lw_tbl by 'hts w (by decide +kernel)'), the script of L ints xs at the cell b, what the Statement gives of the start (any of its parts by flat_of_before) -/
def lw_At (p : Program) (s : State) (m : MethodId) (meth : Method) (c : Code) (b L : Nat) (xs : Nat → Int32) : Prop :=
  p.tables.exec = Jvm.exec ∧ c.code = code ∧ meth.sig.returnType = ret ∧ c.maxLocals = 8 ∧ s.vm.findClass R_law = some m.cls ∧ (∀ w ∈ lw_tbl, w.before #[Value.ref b] s = true) ∧ va_X b L xs s s.heap ∧ b < s.heap.size ∧ meth.locks = false ∧ (Jvm.Cond.and given_1 narrow_1).before #[Value.ref b] s = true
/-! the reference at its start -/
def ri0 : Nat → Nat → Nat := fun c _ => if c = 4 then 1 else if c = 11 then 1 else 0
theorem JS0 : JS so0 tb0 ri0 := ⟨CS0, ⟨by decide, fun p hp => absurd hp (Nat.not_lt_zero p)⟩, rfl, fun p hp => absurd hp (Nat.not_lt_zero p)⟩
section ST
variable {p : Program} {l : Launch} {e : Env} {R : Room} {s : State} {m : MethodId} {args : Array Value} {below : List Frame} {meth : Method} {c : Code} {H : Heap} {locs : List Loc} {cells slots : Nat} {Q : State → Prop}
variable {Γ : gG} {cc : ByteArray} {ret : Option FieldType} {own : String} {nL pc : Nat} {ls : Array Slot} {rest : List Value} {ws : va_W}
theorem kv_IO {S : Type} {post : Option Value → S → Prop} {ws' : S → va_W} {y : MethodName} {b : ByteArray} {nLy idx n a : Nat} {rm : Room} {As : List Value} (C : cX Γ p s m args meth c cc ret own nL) (hO : va_AO "RestSets$Table" s) (h : sT Γ s ws H locs) (hl : ls.size = nL)
    (hM : cTo l Γ y b nLy none rm (.ref a :: As) ws post ws') (hm : mI' y b nLy n) (hk : Cond.methodLink own idx y ∈ gw) (hn : As.length = n) (hR : rm.frames + 1 ≤ R.frames ∧ 8 + (nLy + 11) + rm.locals ≤ R.locals) (hf : cells + rm.cells ≤ R.cells ∧ slots + rm.slots ≤ R.slots) (hs : (rest.map fun v => v.category).sum ≤ 8)
    (hdg : decode cc pc = .ok (.invokespecial idx, 3))
    (kk : ∀ (v : Option Value) (u : S) (H1 : Heap) (locs1 : List Loc), post v u → sT Γ s (ws' u) H1 locs1 → W p l e R s m args below meth c H1 locs1 (cells + rm.cells) (slots + rm.slots) Q (F0 m (pc + 3) ls (v.toList ++ rest))) : W p l e R s m args below meth c H locs cells slots Q (F0 m pc ls (As.reverse ++ .ref a :: rest)) := by
  refine kv_run h (va_runI (As := As) (rest := rest) (Ts := gw) ⟨C.x, C.b, C.n, C.o, C.t⟩ hM (cwI n C.t (gw_cw hm.1) rfl rfl rfl (C.t _ hm.2.2.1) (C.t _ hk) (C.t _ hm.2.1) hm.2.2.2.1 hm.2.2.2.2 hR) ⟨pRo.blind, fun U hU hW => ⟨rfl, (h.pre C (As := .ref a :: As) U hU hW).2, va_AO.moved hW.alike hO⟩⟩ rfl hn hl rfl (lv_room (m := m) (pc := pc) (ls := ls) (rest := []) hs) hdg hf) kk
end ST
theorem rw_0 {Γ : gG} {s : State} {H : Heap} {locs : List Loc} {wr : va_W} {a : Nat} {u : Nat → Nat} (h : sT Γ s ((a, .inr (10, [.int 0, .int 0, .ref (u 0), .ref (u 1), .ref (u 2), .ref (u 3), .int 0, .int 0, .int 0, .int 0, .int 0, .ref (u 4), .ref (u 5), .ref (u 6), .ref (u 7), .ref (u 8), .ref (u 9), .ref (u 10), .ref (u 11), .ref (u 12), .ref (u 13)])) :: (u 0, .inl (Γ.2.1 0, 80, .inl (nF (fun _ => 0)))) :: (u 1, .inl (Γ.2.1 0, 80, .inl (nF (fun _ => 0)))) :: (u 2, .inl (Γ.2.1 0, 2400, .inl (nF (fun _ => 0)))) :: (u 3, .inl (Γ.2.1 2, 800, .inl (nF (fun _ => 0)))) :: (u 4, .inl (Γ.2.1 0, 10242, .inl (nF (fun _ => 0)))) :: (u 5, .inl (Γ.2.1 0, 10242, .inl (nF (fun _ => 0)))) :: (u 6, .inl (Γ.2.1 0, 30726, .inl (nF (fun _ => 0)))) :: (u 7, .inl (Γ.2.1 0, 10242, .inl (nF (fun _ => 0)))) :: (u 8, .inl (Γ.2.1 0, 10242, .inl (nF (fun _ => 0)))) :: (u 9, .inl (Γ.2.1 0, 10, .inl (nF (fun _ => 0)))) :: (u 10, .inl (Γ.2.1 2, 10, .inl (nF (fun _ => 0)))) :: (u 11, .inl (Γ.2.1 0, 10, .inl (nF (fun _ => 0)))) :: (u 12, .inl (Γ.2.1 1, 10, .inr (.inl (fun _ => 0)))) :: (u 13, .inl (Γ.2.1 1, 10, .inr (.inl (fun _ => 0)))) :: wr) H locs) : sT Γ s (rW Γ (fun k => if k = 0 then a else u (k - 1)) ri0 (fun _ _ => 0) wr) H locs := by
  refine h.eq ?_
  have e4 : mF (ri0 4) = nF (fun _ => 0) := mF_1
  have e11 : mF (ri0 11) = nF (fun _ => 0) := mF_1
  unfold rW
  rw [e4, e11]
  rfl
theorem jw_0 {Γ : gG} {s : State} {H : Heap} {locs : List Loc} {d : Nat → Nat} {hm : Nat} {mc : va_E} {so : Nat → Nat → Nat} {tl : Nat → Nat → Int64} {tb : Nat → Nat → Nat → Nat} {r : Nat → Nat} {ri : Nat → Nat → Nat} {rl : Nat → Nat → Int64} {o : Nat} {g : Nat → Int64} (h : sT Γ s (rW Γ r ri rl (xW Γ d hm mc so tl tb []) ++ [(o, oE Γ g)]) H locs) : sT Γ s (jW Γ d hm mc so tl tb r ri rl o g) H locs := by
  refine jr_w (h.eq ?_)
  rw [xl_app (wr := [(o, oE Γ g)])]
  rfl
set_option maxRecDepth 100000 in
/-- the start's tables and constants -/
theorem st_C {p : Program} {s : State} {m : MethodId} {meth : Method} {c : Code} {b L : Nat} {xs : Nat → Int32} (C0 : lw_At p s m meth c b L xs) : ∃ Γ : gG, Γ.2.2 = s.heap.size ∧ cX Γ p s m #[Value.ref b] meth c code ret rn_L 8 ∧ nwX Γ s ∧ ncN s ∧ va_AO "RestSets$Table" s := by
  obtain ⟨hx, hb, hr, hml, hown, hts, hX, hbl, hlocks, hgv⟩ := id C0
  have hgw : ∀ w ∈ gw, w.before #[Value.ref b] s = true := fun w hw => hts w (List.mem_filter.mp hw).1
  have hs := flat_of_before _ hgv
  obtain ⟨c0, i0, K0⟩ := u_known (C := rn_X) (T := fd_X) (N := 4) (n := 4) hgw in_X (hgw _ ns_X)
  obtain ⟨c1, i1, K1⟩ := u_known (C := rn_S) (T := fd_S) (N := 14) (n := 14) hgw in_S (hgw _ ns_S)
  obtain ⟨c2, i2, K2⟩ := u_known (C := rn_T) (T := fd_T) (N := 5) (n := 5) hgw in_T (hgw _ ns_T)
  obtain ⟨c3, i3, K3⟩ := u_known (C := rn_Y) (T := fd_Y) (N := 2) (n := 2) hgw in_Y (hgw _ ns_Y)
  obtain ⟨c4, i4, K4⟩ := u_known (C := rn_O) (T := fd_O) (N := 2) (n := 2) hgw in_O (hgw _ ns_O)
  obtain ⟨c5, i5, K5⟩ := u_known (C := rn_R) (T := fd_R) (N := 3) (n := 3) hgw in_R (hgw _ ns_R)
  obtain ⟨c6, i6, K6⟩ := u_known (C := rn_B) (T := fd_B) (N := 3) (n := 3) hgw in_B (hgw _ ns_B)
  obtain ⟨c7, i7, K7⟩ := u_known (C := rn_H) (T := fd_H) (N := 2) (n := 2) hgw in_H (hgw _ ns_H)
  obtain ⟨c8, i8, K8⟩ := u_known (C := rn_N) (T := fd_N) (N := 1) (n := 1) hgw in_N (hgw _ ns_N)
  obtain ⟨c9, i9, K9⟩ := u_known (C := rn_K) (T := fd_K) (N := 1) (n := 1) hgw in_K (hgw _ ns_K)
  obtain ⟨c10, i10, K10⟩ := u_known (C := rn_M) (T := fd_M) (N := 21) (n := 21) hgw in_M (hgw _ ns_M)
  obtain ⟨dC, dI, hKc⟩ : ∃ (dC : Nat → ClassId) (dI : Nat → Nat → Nat), ∀ (k : Nat) (q : vw_C), cls[k]? = some q → u_Kn s q.1 q.2.1 q.2.2 (dC k) (dI k) := by
    refine ⟨fun k => match k with | 0 => c0 | 1 => c1 | 2 => c2 | 3 => c3 | 4 => c4 | 5 => c5 | 6 => c6 | 7 => c7 | 8 => c8 | 9 => c9 | _ => c10, fun k => match k with | 0 => i0 | 1 => i1 | 2 => i2 | 3 => i3 | 4 => i4 | 5 => i5 | 6 => i6 | 7 => i7 | 8 => i8 | 9 => i9 | _ => i10, ?_⟩
    intro k q hq
    match k, hq with
    | 0, hq => cases hq; exact K0
    | 1, hq => cases hq; exact K1
    | 2, hq => cases hq; exact K2
    | 3, hq => cases hq; exact K3
    | 4, hq => cases hq; exact K4
    | 5, hq => cases hq; exact K5
    | 6, hq => cases hq; exact K6
    | 7, hq => cases hq; exact K7
    | 8, hq => cases hq; exact K8
    | 9, hq => cases hq; exact K9
    | 10, hq => cases hq; exact K10
    | k + 11, hq => simp [cls] at hq
  obtain ⟨a0, k0, p0, f0, g0, h0⟩ := Cond.arrayClass_spec (hgw _ gw_aI)
  obtain ⟨a1, k1, p1, f1, g1, h1⟩ := Cond.arrayClass_spec (hgw _ gw_aJ)
  obtain ⟨a2, k2, p2, f2, g2, h2⟩ := Cond.arrayClass_spec (hgw _ gw_aZ)
  have hO : va_AO "RestSets$Table" s := va_AO.of (hts _ (List.mem_append_right _ (List.mem_of_getElem? (i := 30) rfl)))
  obtain ⟨p3, a3, k3, e3, -, g3, h3, f3⟩ := Cond.arrayOver_spec hO
  refine ⟨((dC, dI), (fun k => match k with | 0 => a0 | 1 => a1 | 2 => a2 | _ => a3), s.heap.size), rfl, ⟨hx, hb, hr, hml, hown, hgw, hlocks, ⟨hKc, ?_⟩, nwH.of hts, Nat.le_refl _⟩, ⟨?_, ?_, ?_⟩, ⟨va_Nc.of (hs _ (by decide +kernel)), va_Nc.of (hs _ (by decide +kernel))⟩, hO⟩
  · intro k q hq
    match k, hq with
    | 0, hq => cases hq; exact ⟨fun n z => ⟨fun k h => (by cases h), k0, g0, p0, h0⟩, f0⟩
    | 1, hq => cases hq; exact ⟨fun n z => ⟨fun k h => (by cases h), k1, g1, p1, h1⟩, f1⟩
    | 2, hq => cases hq; exact ⟨fun n z => ⟨fun k h => (by cases h), k2, g2, p2, h2⟩, f2⟩
    | 3, hq => cases hq; exact ⟨fun n z => ⟨fun k h => (by cases h), k3, g3, p3, h3⟩, k3, p3, g3, h3, e3, f3⟩
    | k + 4, hq => simp at hq
  · exact vx_Zqof (hts _ (List.mem_append_right _ (List.mem_of_getElem? (i := 197) rfl))) (hts _ (List.mem_append_right _ (List.mem_of_getElem? (i := 8) rfl))) (hs _ (by decide +kernel)) (fun a ha => Nat.not_le.mpr ha)
  · exact vx_Zqof (hts _ (List.mem_append_right _ (List.mem_of_getElem? (i := 199) rfl))) (hts _ (List.mem_append_right _ (List.mem_of_getElem? (i := 8) rfl))) (hs _ (by decide +kernel)) (fun a ha => Nat.not_le.mpr ha)
  · have str : ∀ (k : Nat) (tx : String) (i : Nat), tables_1[i]? = some (Cond.stringRef rn_X k tx) → Cond.exactly (.string rn_X k) "java/lang/String" ∈ flatC (Jvm.Cond.and given_1 narrow_1) → ∃ sa, vk_R rn_X k tx sa s := by
      intro k tx i hi he
      obtain ⟨a, -, -, -, ha, -⟩ := Cond.exactly_spec (hs _ he)
      exact ⟨a, vk_R.of (hts _ (List.mem_append_right _ (List.mem_of_getElem? (i := i) hi))) ha⟩
    intro q hq
    simp only [strs, List.mem_cons, List.not_mem_nil, or_false] at hq
    rcases hq with rfl | rfl | rfl | rfl | rfl | rfl | rfl | rfl | rfl
    · exact str 32 _ 211 rfl (by decide +kernel)
    · exact str 142 _ 253 rfl (by decide +kernel)
    · exact str 149 _ 385 rfl (by decide +kernel)
    · exact str 138 _ 418 rfl (by decide +kernel)
    · exact str 55 _ 437 rfl (by decide +kernel)
    · exact str 79 _ 518 rfl (by decide +kernel)
    · exact str 88 _ 534 rfl (by decide +kernel)
    · exact str 124 _ 602 rfl (by decide +kernel)
    · exact str 127 _ 616 rfl (by decide +kernel)
set_option maxHeartbeats 4000000 in
set_option maxRecDepth 100000 in
/-- the law, from its entry -/
theorem whole_start {p : Program} {e : Env} {s : State} {m : MethodId} {below : List Frame} {meth : Method} {c : Code} (l : Launch) (hst : l.stackTraces = false) {b L : Nat} {xs : Nat → Int32} (hL : L ≤ 2560) (C0 : lw_At p s m meth c b L xs) : W p l e room_1 s m #[Value.ref b] below meth c s.heap [] 0 0 (lw_Z below #[Value.ref b] s) (entryFrame m ([Value.ref b] : List Value).toArray 8) := by
  obtain ⟨Γ, hΓ, C, hX, hN, hO⟩ := st_C C0
  obtain ⟨-, -, -, -, -, -, hSc, hbl, -, -⟩ := id C0
  have hbA : ¬ aA Γ b := by
    intro z
    have z2 : Γ.2.2 ≤ b := z
    rw [hΓ] at z2
    exact absurd z2 (Nat.not_le.mpr hbl)
  have hC : lwC l Γ p s m meth c b L xs := ⟨C, hX, hN, ⟨hSc, hbl, hbA⟩, hL, hst⟩
  have h : sT Γ s [] s.heap [] := ⟨fun k q h => by simp at h, ⟨fun i j p q h => by simp at h, fun k q h => by simp at h⟩, va_S.rf⟩
  have hl := lv_entry ([.ref b]) (n := 8) (Nat.le_of_ble_eq_true rfl)
  rw [lg_entry_eq]
  generalize (lg_sl ([.ref b]) ++ List.replicate (8 - (lg_sl ([.ref b])).length) Slot.unset).toArray = ls at hl ⊢
  replace hl : lv_has ls 8 [(0, .ref b)] := hl
  refine rg_new (ci := 0) (ty := ft_X) (fs := [.null, .null, .null, .int 0]) C h rfl in_X tk_X nk_L_8 ns_X ni_X (by decide +kernel) (by decide) (by decide) dc_L_law_0 (fun qx H0 h0 => ?_)
  refine lv_dup C.x C.b dc_L_law_3 rfl ?_
  refine kv_IO (As := []) (rest := [.ref qx]) C hO h0 hl.1 (c_X_init l Γ [] qx) mw_X_init lk_L_73 rfl (by decide) (by decide) (Nat.le_of_ble_eq_true rfl) dc_L_law_4 (fun v d H locs hp h => ?_)
  obtain ⟨rfl, hd⟩ := hp
  subst hd
  replace h : sT Γ s (xW Γ d (d 4) mc0 so0 tl0 tb0 []) _ _ := h
  refine W.eq (g2 := F0 m 7 ls [.ref (d 0)]) rfl ?_
  refine lv_astore_n (lv' := [(1, .ref (d 0)), (0, .ref b)]) C.x C.b dc_L_law_7 rfl hl (by decide) rfl (fun ls hl => ?_)
  refine rg_new (ci := 10) (ty := ft_M) (fs := [.int 0, .int 0, .null, .null, .null, .null, .int 0, .int 0, .int 0, .int 0, .int 0, .null, .null, .null, .null, .null, .null, .null, .null, .null, .null]) C h rfl in_M tk_M nk_L_74 ns_M ni_M (by decide +kernel) (by decide) (by decide) dc_L_law_8 (fun qm H h => ?_)
  refine lv_dup C.x C.b dc_L_law_11 rfl ?_
  refine kv_I (As := []) (rest := [.ref qm]) C h hl.1 (c_M_init l Γ (xW Γ d (d 4) mc0 so0 tl0 tb0 []) qm) mw_M_init lk_L_76 rfl (by decide) (by decide) (Nat.le_of_ble_eq_true rfl) dc_L_law_12 (fun v u H locs hp h => ?_)
  obtain rfl := hp
  replace h := rw_0 h
  obtain ⟨r, er⟩ : ∃ r : Nat → Nat, r = fun k => if k = 0 then qm else u (k - 1) := ⟨_, rfl⟩
  rw [← er] at h
  have er0 : qm = r 0 := by rw [er]; rfl
  rw [er0]
  refine W.eq (g2 := F0 m 15 ls [.ref (r 0)]) rfl ?_
  refine lv_astore_n (lv' := [(2, .ref (r 0)), (1, .ref (d 0)), (0, .ref b)]) C.x C.b dc_L_law_15 rfl hl (by decide) rfl (fun ls hl => ?_)
  refine lv_iconst (v := nI 1) C.x C.b dc_L_law_16 (by decide +kernel) ?_
  refine rg_naJ C h (by decide) (by decide) (by decide) dc_L_law_17 (fun o H h => ?_)
  replace h := jw_0 h
  refine lv_astore_n (lv' := [(3, .ref o), (2, .ref (r 0)), (1, .ref (d 0)), (0, .ref b)]) C.x C.b dc_L_law_19 rfl hl (by decide) rfl (fun ls hl => ?_)
  refine lv_iconst (v := nI (5 * 0)) C.x C.b dc_L_law_20 (by decide +kernel) ?_
  refine lv_istore (lv' := [(4, .int (nI (5 * 0))), (3, .ref o), (2, .ref (r 0)), (1, .ref (d 0)), (0, .ref b)]) C.x C.b dc_L_law_21 hl (by decide) rfl (fun ls hl => ?_)
  refine W.widen (k := 2000 + 20 * 0) (n := 1000000 + 200 * 0) (by decide) (by decide) ?_
  refine law_loop hC (fun H locs ls cells slots hq hc hs => ?_) (L + 1) 0 _ _ _ _ _ _ _ _ _ _ _ (by omega) (by omega) JS0 h (lv_sub hl [4, 3, 2, 1, 0] rfl)
  refine lv_iconst (v := 1) C.x C.b dc_L_law_1255 (by decide +kernel) ?_
  refine va_forget (fun q hq2 => ?_) ?_
  · have := hq q hq2
    rw [← hΓ]
    exact this
  refine W.widen (k := 601024) (n := 7293034) hc hs ?_
  exact lw_ret C.x C.b C.r C.lk dc_L_law_1256
