/-! methods that throw -/
def strs : List (Nat × String) := [(32, "no such letters"), (142, "too many sets"), (149, "too many rests"), (138, "no such set"), (55, "no such way to join"), (79, "no such letter"), (88, "no such length"), (124, "no word"), (127, "no such letter in the word")]
def nwX (Γ : gG) (U : State) : Prop := vx_Zq Bundle.tN "UNASSIGNED_STACK" Bundle.steD (aA Γ) U U.heap ∧ vx_Zq Bundle.tN "SUPPRESSED_SENTINEL" Bundle.listD (aA Γ) U U.heap ∧ ∀ q ∈ strs, ∃ sa, vk_R rn_X q.1 q.2 sa U
theorem nwX.vm {Γ : gG} {s U : State} (e : s.vm = U.vm) (eh : s.heap = U.heap) (h : nwX Γ s) : nwX Γ U := by
  have a : s.vm.Alike U.vm := by rw [e]; exact Vm.Alike.refl _
  refine ⟨by rw [← eh]; exact vx_Zq.moved a h.1, by rw [← eh]; exact vx_Zq.moved a h.2.1, fun q hq => ?_⟩
  obtain ⟨sa, hs⟩ := h.2.2 q hq
  exact ⟨sa, vk_R.same e.symm hs⟩
theorem nwX.warm {Γ : gG} {s U : State} {locs : List Loc} (hS : va_S (aA Γ) s.heap U.heap locs) (hW : s.WarmedH U.vm) (h : nwX Γ s) : nwX Γ U := by
  refine ⟨vx_Zq.moved hW.alike (h.1.kept hS.2.1), vx_Zq.moved hW.alike (h.2.1.kept hS.2.1), fun q hq => ?_⟩
  obtain ⟨sa, hs⟩ := h.2.2 q hq
  exact ⟨sa, vk_R.warm hW hs⟩
def pRx (Γ : gG) (ws : va_W) (U : State) : Prop := pR Γ ws U ∧ nwX Γ U
def xQx (Γ : gG) {SX : Type} (px : String → SX → Prop) (wx : SX → va_W) : String → State → State → Prop := fun E st t => ∃ u : SX, px E u ∧ va_P Γ.1 cls (wx u) t.heap ∧ va_D (aA Γ) (wx u) ∧ va_F (aA Γ) st t
def cTx (l : Launch) (Γ : gG) (y : MethodName) (b : ByteArray) (nL : Nat) (ret : Option FieldType) (rm : Room) (As : List Value) (ws : va_W) {S : Type} (post : Option Value → S → Prop) (ws' : S → va_W) {SX : Type} (px : String → SX → Prop) (wx : SX → va_W) : Prop :=
  vx_Met l y (.code y b nL ret :: gw) rm (va_Pc As (pRx Γ ws)) (qQ Γ post ws') (xQx Γ px wx) rm.cells rm.slots (aA Γ)
theorem nwH.use {s : State} {args : Array Value} (h : nwH s) : ∀ w ∈ nwL, w.before args s = true := by
  intro w hw
  have h1 := (List.mem_filter.mp hw).2
  have h0 := h w hw
  cases w <;> first | exact va_Nw.use rfl h0 | cases h1
/-- the words of a throw, out of the tables -/
def thW (ic : Nat) (E : String) (names : List String) : Prop := (∀ w ∈ (vx_atS rn_X ic E names).filter goodWord, w ∈ gw) ∧ (∀ w ∈ (vx_atS rn_X ic E names).filter (fun w => !goodWord w), w ∈ nwL) ∧ ∀ w ∈ vx_atS rn_X ic E names, vx_ot w = true
section XT
variable {p : Program} {l : Launch} {e : Env} {R : Room} {s : State} {m : MethodId} {args : Array Value} {below : List Frame} {meth : Method} {c : Code} {H : Heap} {locs : List Loc} {cells slots : Nat} {Q : State → Prop}
variable {Γ : gG} {cc : ByteArray} {ret : Option FieldType} {own : String} {nL pc : Nat} {ls : Array Slot} {rest : List Value} {ws : va_W}
theorem cTx.start {y : MethodName} {rm : Room} {As : List Value} {S : Type} {post : Option Value → S → Prop} {ws' : S → va_W} {SX : Type} {px : String → SX → Prop} {wx : SX → va_W} (hy : plainName y.cls = true) (hn : (lg_sl As).length ≤ nL)
    (body : ∀ (p : Program) (e : Env) (s : State) (m : MethodId) (args : Array Value) (below : List Frame) (meth : Method) (c : Code) (ls : Array Slot) (Q : State → Prop), Q = vx_MQ below (qQ Γ post ws') (xQx Γ px wx) args s rm.cells rm.slots (aA Γ) → cX Γ p s m args meth c cc ret y.cls nL → meth.name = y.name → (∀ x ∈ c.exceptionTable.toList, False) → nwX Γ s → sT Γ s ws s.heap [] → lv_has ls nL (lv_args 0 As) →
      W p l e rm s m args below meth c s.heap [] 0 0 Q (F0 m 0 ls [])) : cTx l Γ y cc nL ret rm As ws post ws' px wx := by
  refine vx_ofW (cc := cc) (maxL := nL) (ret := ret) hy rfl ?_
  intro p e s m args below meth c s₁ B hml hno hv
  obtain ⟨rfl, ⟨hP, hD, hK, hN, hz⟩, hX⟩ := hv
  have hts := atoms_spec (ws := Cond.code y cc nL ret :: gw) B.pre
  have hl := lv_entry As (n := nL) hn
  rw [lg_entry_eq]
  exact body p e s m _ below meth c _ _ rfl ⟨B.exec, B.bytes, B.returns, hml, findClass_of_methodNamed B.named, fun w h => hts w (List.mem_cons_of_mem _ h), B.notSynchronized, hK, hN, hz⟩ (name_of_methodNamed B.named B.method).1 hno hX ⟨hP, hD, va_S.rf⟩ hl
theorem rt_a {S : Type} {post : Option Value → S → Prop} {ws' : S → va_W} {v : Nat} {nm : String} (C : cX Γ p s m args meth c cc (some (.object nm)) own nL) (u : S) (h : sT Γ s (ws' u) H locs) (hp : post (some (.ref v)) u) (hdg : decode cc pc = .ok (.areturn, 1)) :
    W p l e R s m args below meth c H locs cells slots (MQ below (qQ Γ post ws') args s cells slots (aA Γ)) (F0 m pc ls [.ref v]) :=
  W.aret C.x C.b C.r (Or.inl ⟨_, rfl⟩) (Or.inr ⟨_, rfl⟩) (fun t ht _ => ⟨⟨_, u, rfl, hp, by rw [ht]; exact h.1, h.2.1⟩, h.2.2.F ht⟩) h.2.2.2.2 hdg C.lk
theorem pRx.blind {As : List Value} : FrameBlind (va_Pc As (pRx Γ ws)) := by
  intro a U g mk q
  obtain ⟨q0, ⟨q1, q2, q3, q4, q5⟩, q6⟩ := q
  exact ⟨q0, ⟨q1, q2, va_K.moved (u := U) (U := U.calling g mk a) (Vm.Alike.refl U.vm) q3, nwH.vm (s := U) (U := U.calling g mk a) rfl q4, q5⟩, nwX.vm (s := U) (U := U.calling g mk a) rfl rfl q6⟩
theorem sT.prex (C : cX Γ p s m args meth c cc ret own nL) (hX : nwX Γ s) (h : sT Γ s ws H locs) {As : List Value} : ∀ U : State, U.heap = H → s.WarmedH U.vm → va_Pc As (pRx Γ ws) As.toArray U := fun U hU hW =>
  ⟨rfl, ⟨by rw [hU]; exact h.1, h.2.1, va_K.moved hW.alike C.k, nwH.warm hW C.w, by rw [hU]; exact Nat.le_trans C.z h.2.2.1⟩, nwX.warm (locs := locs) (by rw [hU]; exact h.2.2) hW hX⟩
theorem kx_run {S : Type} {post : Option Value → S → Prop} {ws' : S → va_W} {SX : Type} {px : String → SX → Prop} {wx : SX → va_W} {mc ms : Nat} {a : Array Value} {st0 : List Value} (h : sT Γ s ws H locs) (hr : vx_Run p l e R s m args below meth c H locs cells slots mc ms (F0 m pc ls st0) rest (qQ Γ post ws' a) (xQx Γ px wx) (aA Γ))
    (kx : ∀ (E : String) (ce : Cell) (q : Addr) (u : SX) (H1 : Heap) (locs1 : List Loc), px E u → sT Γ s (wx u) H1 locs1 → H1[q]? = some ce → ce.vm = .none → s.vm.findClass E = some ce.cls → vx_W p l e R s m args below meth c H1 locs1 (cells + mc) (slots + ms) Q (F0 m pc ls rest) q)
    (kk : ∀ (v : Option Value) (u : S) (H1 : Heap) (locs1 : List Loc), post v u → sT Γ s (ws' u) H1 locs1 → W p l e R s m args below meth c H1 locs1 (cells + mc) (slots + ms) Q (F0 m (pc + 3) ls (v.toList ++ rest))) : W p l e R s m args below meth c H locs cells slots Q (F0 m pc ls st0) := by
  intro T hT X
  have hS := h.2.2
  have key : ∀ (st₀ t T' : State) (L : List Loc), st₀.heap = H → T'.heap = t.heap → (∀ q ∈ L, aA Γ q.base) → va_F (aA Γ) st₀ t → va_S (aA Γ) s.heap T'.heap (locs ++ L) := fun st₀ t T' L h0 e1 hL hF => by
    obtain ⟨hz, hk⟩ := hF
    rw [h0] at hz hk
    exact ⟨Nat.le_trans hS.1 (by rw [e1]; exact hz), fun q h1 h2 => by rw [e1, hk q (Nat.lt_of_lt_of_le h1 hS.1) h2]; exact hS.2.1 q h1 h2, fun q hq => by
      rcases List.mem_append.mp hq with h | h
      · exact hS.2.2 q h
      · exact hL q h⟩
  rcases hr T hT X with ⟨v, st₀, t, T', L, h0, X', hL, e1, e2, ⟨⟨v', u, hv, hp, hb, hd⟩, hF⟩, st⟩ | ⟨q, st₀, t, T', L, E, ce, h0, X', hL, e1, e2, ⟨u, hp, hb, hd, hF⟩, hce, hcv, hcl, st⟩
  · cases hv
    obtain ⟨t2, a1, b1⟩ := kk v u T'.heap (locs ++ L) hp ⟨by rw [e1]; exact hb, hd, key st₀ t T' L h0 e1 hL hF⟩ T' rfl X'
    exact ⟨t2, st t2 a1, b1⟩
  · obtain ⟨t2, a1, b1⟩ := kx E ce q u T'.heap (locs ++ L) hp ⟨by rw [e1]; exact hb, hd, key st₀ t T' L h0 e1 hL hF⟩ (by rw [e1]; exact hce) hcv hcl T' rfl X'
    exact ⟨t2, st.trans a1, b1⟩
theorem kx_V {S : Type} {post : Option Value → S → Prop} {ws' : S → va_W} {SX : Type} {px : String → SX → Prop} {wx : SX → va_W} {y : MethodName} {b : ByteArray} {nLy idx n a q0 ci N : Nat} {rety : Option FieldType} {rm : Room} {cn : String} {T : u_T} {fs As : List Value} (C : cX Γ p s m args meth c cc ret own nL) (hX : nwX Γ s) (h : sT Γ s ws H locs) (hl : ls.size = nL)
    (hM : cTx l Γ y b nLy rety rm (.ref a :: As) ws post ws' px wx) (hm : mW cn y b nLy rety n) (hk : Cond.methodLink own idx y ∈ gw) (he : ws[q0]? = some (a, .inr (ci, fs))) (hc : cls[ci]? = some (cn, T, N)) (hn : As.length = n) (hR : rm.frames + 1 ≤ R.frames ∧ 8 + (nLy + 11) + rm.locals ≤ R.locals) (hf : cells + rm.cells ≤ R.cells ∧ slots + rm.slots ≤ R.slots) (hs : (rest.map fun v => v.category).sum ≤ 8)
    (hdg : decode cc pc = .ok (.invokevirtual idx, 3))
    (kx : ∀ (E : String) (ce : Cell) (q : Addr) (u : SX) (H1 : Heap) (locs1 : List Loc), px E u → sT Γ s (wx u) H1 locs1 → H1[q]? = some ce → ce.vm = .none → s.vm.findClass E = some ce.cls → vx_W p l e R s m args below meth c H1 locs1 (cells + rm.cells) (slots + rm.slots) Q (F0 m pc ls rest) q)
    (kk : ∀ (v : Option Value) (u : S) (H1 : Heap) (locs1 : List Loc), post v u → sT Γ s (ws' u) H1 locs1 → W p l e R s m args below meth c H1 locs1 (cells + rm.cells) (slots + rm.slots) Q (F0 m (pc + 3) ls (v.toList ++ rest))) : W p l e R s m args below meth c H locs cells slots Q (F0 m pc ls (As.reverse ++ .ref a :: rest)) := by
  refine kx_run h (vx_runV (As := As) (rest := rest) (Ts := gw) ⟨C.x, C.b, C.n, C.o, C.t⟩ hM (cwV n C.t (gw_in (fun w hw => ?_)) rfl rfl rfl hm.2.2.2.2 hR) ⟨pRx.blind, va_recv C.k h.1 hc he, h.prex C hX⟩ rfl hn hl rfl (lv_room (m := m) (pc := pc) (ls := ls) (rest := []) hs) hdg hf) kx kk
  simp only [wsV, List.cons_append, List.nil_append, List.mem_cons] at hw
  rcases hw with rfl | rfl | rfl | rfl | rfl | hw
  · exact hk
  · exact hm.2.1
  · exact hm.2.2.1
  · exact hm.2.2.2.1
  · exact hm.1
  · exact hw
/-- thrown on to the caller -/
theorem kx_out {S : Type} {post : Option Value → S → Prop} {ws' : S → va_W} {SX : Type} {px : String → SX → Prop} {wx : SX → va_W} {mc ms : Nat} {E : String} {ce : Cell} {q : Addr} (C : cX Γ p s m args meth c cc ret own nL) (hno : ∀ x ∈ c.exceptionTable.toList, False) (u : SX) (h : sT Γ s (wx u) H locs) (hp : px E u) (hcell : H[q]? = some ce) (hv : ce.vm = .none) (hcl : s.vm.findClass E = some ce.cls) (hc : cells ≤ mc) (hs : slots ≤ ms) :
    vx_W p l e R s m args below meth c H locs cells slots (vx_MQ below (qQ Γ post ws') (xQx Γ px wx) args s mc ms (aA Γ)) (F0 m pc ls rest) q :=
  vx_out (fun x hx => absurd hx (hno x)) C.lk hcell hv hcl (fun t ht _ => ⟨u, hp, by rw [ht]; exact h.1, h.2.1, h.2.2.F ht⟩) h.2.2.2.2 hc hs
/-- throw new E("text") -/
theorem rt_thr {S : Type} {post : Option Value → S → Prop} {ws' : S → va_W} {SX : Type} {px : String → SX → Prop} {wx : SX → va_W} {mc ms ik is ic : Nat} {E text : String} {names : List String} (C : cX Γ p s m args meth c cc ret rn_X nL) (hst : l.stackTraces = false) (hno : ∀ x ∈ c.exceptionTable.toList, False) (hX : nwX Γ s) (hsz : ls.size = nL) (u : SX) (h : sT Γ s (wx u) H locs) (hp : px E u)
    (hE : Bundle.fit E = true) (hN : ∀ n ∈ names, Bundle.fit n = true) (hT : thW ic E names) (hk : Cond.classLink rn_X ik E ∈ gw) (hini : Cond.initialized E ∈ gw) (hstr : (is, text) ∈ strs)
    (d0 : decode cc pc = .ok (.new ik, 3)) (d3 : decode cc (pc + 3) = .ok (.dup, 1)) (d4 : decode cc (pc + 4) = .ok (.ldc is, 2)) (d6 : decode cc (pc + 6) = .ok (.invokespecial ic, 3)) (d9 : decode cc (pc + 9) = .ok (.athrow, 1))
    (hRf : names.length + 3 < R.frames) (hRl : (rest.map fun v => v.category).sum + (13 * (names.length + 1) + 43) ≤ R.locals) (hRc : cells + 1 ≤ R.cells) (hRs : slots + 6 ≤ R.slots) (hc : cells + 1 ≤ mc) (hs : slots + 6 ≤ ms) :
    W p l e R s m args below meth c H locs cells slots (vx_MQ below (qQ Γ post ws') (xQx Γ px wx) args s mc ms (aA Γ)) (F0 m pc ls rest) := by
  obtain ⟨sa, hsa⟩ := hX.2.2 _ hstr
  refine vx_throwS (A := aA Γ) (names := names) C.x C.b hst C.o hE hN (C.t _ hk) (C.t _ hini) hsa (vx_hat (fun w hw => C.t w (hT.1 w hw)) hT.2.1 C.w.use) (fun w hw => ?_) hX.1 hX.2.1 h.2.2 (by rw [C.n]; exact hsz) d0 d3 d4 d6 d9 (fun x hx => absurd hx (hno x)) hRf hRl hRc hRs C.lk (fun t hal hz hh => ⟨u, hp, ?_, h.2.1, ?_⟩) h.2.2.2.2 hc hs
  · rcases List.mem_cons.mp hw with rfl | hw
    · rfl
    · rcases List.mem_cons.mp hw with rfl | hw
      · rfl
      · exact hT.2.2 w hw
  · exact h.1.kept (fun k x hx => hh x.1 ((h.1 k x hx).lt))
  · exact ⟨Nat.le_trans h.2.2.1 hz, fun q h1 h2 => (hh q (Nat.lt_of_lt_of_le h1 h.2.2.1)).trans (h.2.2.2.1 q h1 h2)⟩
end XT
abbrev en_iae : String := "java/lang/IllegalArgumentException"
abbrev ns_iae : List String := ["java/lang/RuntimeException", "java/lang/Exception"]
set_option maxRecDepth 100000 in theorem tw_iae : thW 34 en_iae ns_iae := ⟨by decide +kernel, by decide +kernel, by decide +kernel⟩
set_option maxRecDepth 100000 in theorem tk_iae : Cond.classLink rn_X 30 en_iae ∈ gw := gw_t 170 rfl rfl
set_option maxRecDepth 100000 in theorem ti_iae : Cond.initialized en_iae ∈ gw := gw_t 11 rfl rfl
abbrev en_ioe : String := "java/lang/IndexOutOfBoundsException"
abbrev ns_ioe : List String := ["java/lang/RuntimeException", "java/lang/Exception"]
set_option maxRecDepth 100000 in theorem tw_ioe : thW 144 en_ioe ns_ioe := ⟨by decide +kernel, by decide +kernel, by decide +kernel⟩
set_option maxRecDepth 100000 in theorem tk_ioe : Cond.classLink rn_X 140 en_ioe ∈ gw := gw_t 244 rfl rfl
set_option maxRecDepth 100000 in theorem ti_ioe : Cond.initialized en_ioe ∈ gw := gw_t 12 rfl rfl
abbrev en_nse : String := "java/util/NoSuchElementException"
set_option maxRecDepth 100000 in theorem tk_nse : Cond.classLink rn_X 122 en_nse ∈ gw := gw_t 593 rfl rfl
set_option maxRecDepth 100000 in theorem ti_nse : Cond.initialized en_nse ∈ gw := gw_t 20 rfl rfl
