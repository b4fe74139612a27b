/-! the law's own methods: the class is called, what it throws is caught -/
def ncN (U : State) : Prop := va_Nc en_ioe en_iae U ∧ va_Nc en_nse en_iae U
theorem ncN.moved {u U : State} (hvm : u.vm.Alike U.vm) (h : ncN u) : ncN U := ⟨h.1.moved hvm, h.2.moved hvm⟩
def pRl (Γ : gG) (ws : va_W) (U : State) : Prop := pRx Γ ws U ∧ ncN U
def cL (l : Launch) (Γ : gG) (y : MethodName) (b : ByteArray) (nL : Nat) (hh : List (Nat × Nat × Nat × Nat)) (rm : Room) (As : List Value) (ws : va_W) {S : Type} (post : Option Value → S → Prop) (ws' : S → va_W) : Prop :=
  Met l y (.codeWith y b nL (some .int) hh :: gw) rm (va_Pc As (pRl Γ ws)) (qQ Γ post ws') rm.cells rm.slots (aA Γ)
theorem mt_ofWH {l : Launch} {y : MethodName} {ws ws' : List Cond} {rm : Room} {Pc : Array Value → State → Prop} {Qc : Array Value → State → Outcome → State → Prop} {mc ms : Nat} {free : Addr → Prop} {cc : ByteArray} {maxL : Nat} {ret : Option FieldType} {hh : List (Nat × Nat × Nat × Nat)}
    (hy : plainName y.cls = true) (hw : ws = Cond.codeWith y cc maxL ret hh :: ws')
    (body : ∀ p e s m args below meth c s₁, BodyLoose p l y (headSpec ws rm) cc maxL ret e s m args below meth c s₁ → c.maxLocals = maxL → Pc args s →
      W p l e (headSpec ws rm).room s m args below meth c s.heap [] 0 0 (MQ below Qc args s mc ms free) (entryFrame m args maxL)) : Met l y ws rm Pc Qc mc ms free := by
  refine MetFree.of_bodyS (code := cc) (maxLocals := maxL) (ret := ret) hy ?_ ?_
  · intro args s m h hn
    obtain ⟨m9, meth, c, hn9, h1, h2, h3, h4, -, h5, h6, -⟩ := Cond.codeWith_spec (atoms_spec (ws := ws) h _ (by rw [hw]; exact List.mem_cons_self))
    cases hn.symm.trans hn9
    exact ⟨meth, c, h1, h2, h3, h4, h5, h6⟩
  · intro p e s m args below meth c s₁ B hml hP _
    have hh0 : s₁.heap = s.heap := by rw [B.state]; rfl
    obtain ⟨t, a1, o, b1, b2, b3⟩ := body p e s m args below meth c s₁ B hml hP s₁ hh0 (Stand.of_body B)
    exact ⟨t, o, a1, b1, b2, ⟨b3.1, b3.2⟩⟩
section LL
variable {p : Program} {l : Launch} {e : Env} {R : Room} {s : State} {m : MethodId} {args : Array Value} {below : List Frame} {meth : Method} {c : Code} {H : Heap} {locs : List Loc} {cells slots : Nat} {Q : State → Prop}
variable {Γ : gG} {cc : ByteArray} {ret : Option FieldType} {own : String} {nL pc : Nat} {ls : Array Slot} {rest : List Value} {ws : va_W}
theorem cL.start {y : MethodName} {rm : Room} {hh : List (Nat × Nat × Nat × Nat)} {As : List Value} {S : Type} {post : Option Value → S → Prop} {ws' : S → va_W} (hy : plainName y.cls = true) (hn : (lg_sl As).length ≤ nL)
    (body : ∀ (p : Program) (e : Env) (s : State) (m : MethodId) (args : Array Value) (below : List Frame) (meth : Method) (c : Code) (ls : Array Slot) (Q : State → Prop), Q = MQ below (qQ Γ post ws') args s rm.cells rm.slots (aA Γ) → cX Γ p s m args meth c cc (some .int) y.cls nL → meth.name = y.name → c.exceptionTable.toList = tableOf hh → nwX Γ s → ncN s → sT Γ s ws s.heap [] → lv_has ls nL (lv_args 0 As) →
      W p l e rm s m args below meth c s.heap [] 0 0 Q (F0 m 0 ls [])) : cL l Γ y cc nL hh rm As ws post ws' := by
  refine mt_ofWH (cc := cc) (maxL := nL) (ret := some .int) (hh := hh) hy rfl ?_
  intro p e s m args below meth c s₁ B hml hv
  obtain ⟨rfl, ⟨⟨hP, hD, hK, hN, hz⟩, hX⟩, hC⟩ := hv
  have hts := atoms_spec (ws := Cond.codeWith y cc nL (some .int) hh :: gw) B.pre
  have hT := vx_table (x := y) B (hts _ List.mem_cons_self)
  have hl := lv_entry As (n := nL) hn
  rw [lg_entry_eq]
  exact body p e s m _ below meth c _ _ rfl ⟨B.exec, B.bytes, B.returns, hml, findClass_of_methodNamed B.named, fun w h => hts w (List.mem_cons_of_mem _ h), B.notSynchronized, hK, hN, hz⟩ (name_of_methodNamed B.named B.method).1 hT hX hC ⟨hP, hD, va_S.rf⟩ hl
theorem pRl.blind {As : List Value} : FrameBlind (va_Pc As (pRl Γ ws)) := by
  intro a U g mk q
  obtain ⟨q0, ⟨⟨q1, q2, q3, q4, q5⟩, q6⟩, q7⟩ := q
  exact ⟨q0, ⟨⟨q1, q2, va_K.moved (u := U) (U := U.calling g mk a) (Vm.Alike.refl U.vm) q3, nwH.vm (s := U) (U := U.calling g mk a) rfl q4, q5⟩, nwX.vm (s := U) (U := U.calling g mk a) rfl rfl q6⟩, ncN.moved (u := U) (U := U.calling g mk a) (Vm.Alike.refl U.vm) q7⟩
theorem sT.prel (C : cX Γ p s m args meth c cc ret own nL) (hX : nwX Γ s) (hC : ncN s) (h : sT Γ s ws H locs) {As : List Value} : ∀ U : State, U.heap = H → s.WarmedH U.vm → va_Pc As (pRl Γ ws) As.toArray U := fun U hU hW =>
  ⟨rfl, (h.prex C hX (As := As) U hU hW).2, hC.moved hW.alike⟩
theorem kv_SW {S : Type} {post : Option Value → S → Prop} {ws' : S → va_W} {y : MethodName} {b : ByteArray} {nLy idx n : Nat} {hh : List (Nat × Nat × Nat × Nat)} {rm : Room} {As : List Value} (C : cX Γ p s m args meth c cc ret own nL) (hX : nwX Γ s) (hC : ncN s) (h : sT Γ s ws H locs) (hl : ls.size = nL)
    (hM : cL l Γ y b nLy hh rm As ws post ws') (hcd : Cond.codeWith y b nLy (some .int) hh ∈ gw) (hst : Cond.static y ∈ gw) (hini : Cond.initialized y.cls ∈ gw) (hk : Cond.methodLink own idx y ∈ gw) (hd : y.cls ≠ "java/lang/invoke/MethodHandle" ∧ y.cls ≠ "java/lang/invoke/VarHandle" ∧ (parseMethodDescriptor y.desc).map (fun d => d.parameters.length) = some n) (hn : As.length = n) (hR : rm.frames + 1 ≤ R.frames ∧ 8 + (nLy + 11) + rm.locals ≤ R.locals) (hf : cells + rm.cells ≤ R.cells ∧ slots + rm.slots ≤ R.slots) (hs : (rest.map fun v => v.category).sum ≤ 8)
    (hdg : decode cc pc = .ok (.invokestatic idx, 3))
    (kk : ∀ (v : Option Value) (u : S) (H1 : Heap) (locs1 : List Loc), post v u → sT Γ s (ws' u) H1 locs1 → W p l e R s m args below meth c H1 locs1 (cells + rm.cells) (slots + rm.slots) Q (F0 m (pc + 3) ls (v.toList ++ rest))) : W p l e R s m args below meth c H locs cells slots Q (F0 m pc ls (As.reverse ++ rest)) := by
  refine kv_run h (vx_runSW (As := As) (rest := rest) (Ts := gw) ⟨C.x, C.b, C.n, C.o, C.t⟩ hM (vx_cwSW n C.t (gw_in (fun w hw => ?_)) rfl rfl rfl hd hR) ⟨pRl.blind, h.prel C hX hC⟩ rfl hn hl rfl (lv_room (m := m) (pc := pc) (ls := ls) (rest := []) hs) hdg hf) kk
  simp only [va_wsS, List.cons_append, List.nil_append, List.mem_cons] at hw
  rcases hw with rfl | rfl | rfl | rfl | hw
  all_goals first | exact hk | exact hst | exact hini | exact hcd | exact hw
theorem rg_sld {b L i : Nat} {xs : Nat → Int32} (C : cX Γ p s m args meth c cc ret own nL) (h : sT Γ s ws H locs) (hS : va_X b L xs s s.heap ∧ b < s.heap.size ∧ ¬ aA Γ b) (hi : i < L) (hn : L < 2 ^ 31) (hdg : decode cc pc = .ok (.iaload, 1))
    (kk : W p l e R s m args below meth c H locs cells slots Q (F0 m (pc + 1) ls (.int (xs i) :: rest))) : W p l e R s m args below meth c H locs cells slots Q (F0 m pc ls (.int (nI i) :: .ref b :: rest)) := by
  refine va_sld (A := aA Γ) C.x C.b hS.1 hS.2.1 hS.2.2 h.2.2 (vp_in_nI hi hn) hdg ?_
  rw [nI_clamp (by omega)]
  exact kk
end LL
/-! the law's world -/
abbrev oE (Γ : gG) (g : Nat → Int64) : va_E := .inl (Γ.2.1 1, 1, .inr (.inl g))
section LW
variable {Γ : gG} {d : Nat → Nat} {hm : Nat} {mc : va_E} {so : Nat → Nat → Nat} {tl : Nat → Nat → Int64} {tb : Nat → Nat → Nat → Nat} {wr : va_W} {r : Nat → Nat} {ri : Nat → Nat → Nat} {rl : Nat → Nat → Int64} {o : Nat} {g : Nat → Int64} {s : State} {H : Heap} {locs : List Loc}
theorem xl_app : xW Γ d hm mc so tl tb wr = xW Γ d hm mc so tl tb [] ++ wr := by
  simp only [xW, List.cons_append, List.append_assoc, List.nil_append]
theorem xl_len : (xW Γ d hm mc so tl tb []).length = 257 := by
  simp only [xW, List.length_cons, List.length_append, tT_len, tN_len, tF_len, List.length_nil]
theorem lk_o {e : va_E} : (xW Γ d hm mc so tl tb ((o, e) :: wr))[257]? = some (o, e) := by
  rw [xl_app, List.getElem?_append_right (by rw [xl_len]; exact Nat.le_refl _), xl_len]
  rfl
theorem st_o {e e2 : va_E} : (xW Γ d hm mc so tl tb ((o, e) :: wr)).set 257 (o, e2) = xW Γ d hm mc so tl tb ((o, e2) :: wr) := by
  rw [xl_app, List.set_append_right _ _ (by rw [xl_len]; exact Nat.le_refl _), xl_len, xl_app (wr := (o, e2) :: wr)]
  rfl
abbrev jW (Γ : gG) (d : Nat → Nat) (hm : Nat) (mc : va_E) (so : Nat → Nat → Nat) (tl : Nat → Nat → Int64) (tb : Nat → Nat → Nat → Nat) (r : Nat → Nat) (ri : Nat → Nat → Nat) (rl : Nat → Nat → Int64) (o : Nat) (g : Nat → Int64) : va_W := xW Γ d hm mc so tl tb ((o, oE Γ g) :: rW Γ r ri rl [])
theorem jw_perm : (rW Γ r ri rl (xW Γ d hm mc so tl tb [(o, oE Γ g)])).Perm (jW Γ d hm mc so tl tb r ri rl o g) := by
  have e1 : jW Γ d hm mc so tl tb r ri rl o g = (xW Γ d hm mc so tl tb [(o, oE Γ g)]) ++ rW Γ r ri rl [] := by
    rw [xl_app (wr := [(o, oE Γ g)]), List.append_assoc]
    exact xl_app
  rw [e1]
  exact List.perm_append_comm (l₁ := rW Γ r ri rl []) (l₂ := xW Γ d hm mc so tl tb [(o, oE Γ g)])
theorem jw_r (h : sT Γ s (jW Γ d hm mc so tl tb r ri rl o g) H locs) : sT Γ s (rW Γ r ri rl (xW Γ d hm mc so tl tb [(o, oE Γ g)])) H locs := h.perm jw_perm
theorem jr_w (h : sT Γ s (rW Γ r ri rl (xW Γ d hm mc so tl tb [(o, oE Γ g)])) H locs) : sT Γ s (jW Γ d hm mc so tl tb r ri rl o g) H locs := h.perm jw_perm.symm
end LW
theorem lg_rf (x : Int64) : lg_cmp x x = 0 := by
  unfold lg_cmp
  rw [if_neg (by rw [gt_iff_lt, Int64.lt_iff_toInt_lt]; omega), if_pos rfl]
set_option maxRecDepth 100000 in theorem nk_L_13 : Cond.classLink rn_L 13 en_iae ∈ gw := gw_t 164 rfl rfl
set_option maxRecDepth 100000 in theorem kc_iae : Cond.castable en_iae en_iae ∈ nwL := nw_t 172 rfl rfl
set_option maxRecDepth 100000 in theorem nk_L_15 : Cond.classLink rn_L 15 en_ioe ∈ gw := gw_t 165 rfl rfl
set_option maxRecDepth 100000 in theorem kc_ioe : Cond.castable en_ioe en_ioe ∈ nwL := nw_t 246 rfl rfl
set_option maxRecDepth 100000 in theorem nk_L_65 : Cond.classLink rn_L 65 en_nse ∈ gw := gw_t 588 rfl rfl
set_option maxRecDepth 100000 in theorem kc_nse : Cond.castable en_nse en_nse ∈ nwL := nw_t 595 rfl rfl
set_option maxRecDepth 100000 in theorem in_L : Cond.initialized rn_L ∈ gw := gw_t 0 rfl rfl
set_option maxRecDepth 100000 in theorem gw_l113 : Cond.constantLong rn_L 113 4294967295 ∈ gw := gw_t 838 rfl rfl
