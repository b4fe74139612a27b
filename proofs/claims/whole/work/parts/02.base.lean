def gw : List Cond := lw_tbl.filter goodWord
theorem gw_t {w : Cond} (i : Nat) (h : tables_1[i]? = some w) (g : goodWord w = true) : w ∈ gw := List.mem_filter.mpr ⟨List.mem_append_right _ (List.mem_of_getElem? h), g⟩
theorem gw_s {w : Cond} (i : Nat) (h : (k2_sels lw_privs)[i]? = some w) (g : goodWord w = true) : w ∈ gw := List.mem_filter.mpr ⟨List.mem_append_left _ (List.mem_of_getElem? h), g⟩
theorem gw_good {w : Cond} (h : w ∈ gw) : (w.onTables && w.keeps) = true ∨ ∃ ty, w = .arrayClass ty := good_of_word (List.mem_filter.mp h).2
theorem gw_in {ws : List Cond} (h : ∀ w ∈ ws, w ∈ gw) : GoodIn gw ws := fun w hw => ⟨h w hw, gw_good (h w hw)⟩
def nw_is : Cond → Bool
  | .fieldLinkNest .. => true
  | .methodLinkNest .. => true
  | .declares _ => true
  | .castable .. => true
  | _ => false
def nwL : List Cond := lw_tbl.filter nw_is
theorem nw_t {w : Cond} (i : Nat) (h : tables_1[i]? = some w) (g : nw_is w = true) : w ∈ nwL := List.mem_filter.mpr ⟨List.mem_append_right _ (List.mem_of_getElem? h), g⟩
def nwH (U : State) : Prop := ∀ w ∈ nwL, va_Nw w U
theorem nwH.warm {s U : State} (hW : s.WarmedH U.vm) (h : nwH s) : nwH U := by
  intro w hw
  have h0 := h w hw
  have h1 := (List.mem_filter.mp hw).2
  cases w <;> first | exact va_Nw.warmF hW h0 | exact va_Nw.warmM hW h0 | exact va_Nw.warmD hW h0 | exact va_Nw.warmC hW h0 | cases h1
theorem nwH.of {s : State} {args : Array Value} (h : ∀ w ∈ lw_tbl, w.before args s = true) : nwH s := by
  intro w hw
  have h1 := (List.mem_filter.mp hw).2
  have h0 := h w (List.mem_filter.mp hw).1
  cases w <;> first | exact va_Nw.of rfl h0 | cases h1
theorem nwH.vm {s U : State} (e : s.vm = U.vm) (h : nwH s) : nwH U := by
  intro w hw
  have h1 := (List.mem_filter.mp hw).2
  have h0 := h w hw
  cases w <;> first | exact va_Nw.same rfl e h0 | cases h1
abbrev gG : Type := va_G × (Nat → ClassId) × Nat
def aA (Γ : gG) : Nat → Prop := fun q => Γ.2.2 ≤ q
abbrev tyL (Γ : gG) : List (ClassId × FieldType) := [(Γ.2.1 0, .int), (Γ.2.1 1, .long), (Γ.2.1 2, .boolean), (Γ.2.1 3, .object "RestSets$Table")]
def rn_X : String := "RestSets"
def fd_X : u_T := fun k => match k with
  | 0 => ("RestSets", "tables", "[LRestSets$Table;", true)
  | 1 => ("RestSets", "sorter", "LRestSets$Sorter;", true)
  | 2 => ("RestSets", "tally", "LRestSets$Tally;", true)
  | _ => ("RestSets", "made", "I", false)
def ft_X : Nat → FieldType := fun k => match k with
  | 0 => .array (.object "RestSets$Table")
  | 1 => .object "RestSets$Sorter"
  | 2 => .object "RestSets$Tally"
  | _ => .int
theorem nm_X : ∀ a, a < 4 → ∀ b, b < 4 → a ≠ b → (fd_X a).2.1 ≠ (fd_X b).2.1 := by decide +kernel
theorem tk_X : ∀ k, k < 4 → parseFieldDescriptor (fd_X k).2.2.1 = some (ft_X k) := by decide +kernel
theorem in_X : ∀ w ∈ u_ws rn_X fd_X 4, w ∈ gw := by decide +kernel
def rn_S : String := "RestSets$Sorter"
def fd_S : u_T := fun k => match k with
  | 0 => ("RestSets$Sorter", "machine", "LRestSets$Machine;", false)
  | 1 => ("RestSets$Sorter", "indexOf", "[I", true)
  | 2 => ("RestSets$Sorter", "placeAt", "[I", true)
  | 3 => ("RestSets$Sorter", "next", "[I", true)
  | 4 => ("RestSets$Sorter", "met", "I", false)
  | 5 => ("RestSets$Sorter", "answers", "[I", true)
  | 6 => ("RestSets$Sorter", "asked", "[I", true)
  | 7 => ("RestSets$Sorter", "testLetter", "[I", true)
  | 8 => ("RestSets$Sorter", "testTail", "[I", true)
  | 9 => ("RestSets$Sorter", "tests", "I", false)
  | 10 => ("RestSets$Sorter", "example", "[I", true)
  | 11 => ("RestSets$Sorter", "kinds", "I", false)
  | 12 => ("RestSets$Sorter", "numberOf", "[I", true)
  | _ => ("RestSets$Sorter", "kindAt", "[I", true)
def ft_S : Nat → FieldType := fun k => match k with
  | 0 => .object "RestSets$Machine"
  | 1 => .array .int
  | 2 => .array .int
  | 3 => .array .int
  | 4 => .int
  | 5 => .array .int
  | 6 => .array .int
  | 7 => .array .int
  | 8 => .array .int
  | 9 => .int
  | 10 => .array .int
  | 11 => .int
  | 12 => .array .int
  | _ => .array .int
theorem nm_S : ∀ a, a < 14 → ∀ b, b < 14 → a ≠ b → (fd_S a).2.1 ≠ (fd_S b).2.1 := by decide +kernel
theorem tk_S : ∀ k, k < 14 → parseFieldDescriptor (fd_S k).2.2.1 = some (ft_S k) := by decide +kernel
theorem in_S : ∀ w ∈ u_ws rn_S fd_S 14, w ∈ gw := by decide +kernel
def rn_T : String := "RestSets$Table"
def fd_T : u_T := fun k => match k with
  | 0 => ("RestSets$Table", "restCount", "I", false)
  | 1 => ("RestSets$Table", "ends", "I", false)
  | 2 => ("RestSets$Table", "live", "I", false)
  | 3 => ("RestSets$Table", "next", "[I", true)
  | _ => ("RestSets$Table", "far", "[I", true)
def ft_T : Nat → FieldType := fun k => match k with
  | 0 => .int
  | 1 => .int
  | 2 => .int
  | 3 => .array .int
  | _ => .array .int
theorem nm_T : ∀ a, a < 5 → ∀ b, b < 5 → a ≠ b → (fd_T a).2.1 ≠ (fd_T b).2.1 := by decide +kernel
theorem tk_T : ∀ k, k < 5 → parseFieldDescriptor (fd_T k).2.2.1 = some (ft_T k) := by decide +kernel
theorem in_T : ∀ w ∈ u_ws rn_T fd_T 5, w ∈ gw := by decide +kernel
def rn_Y : String := "RestSets$Tally"
def fd_Y : u_T := fun k => match k with
  | 0 => ("RestSets$Tally", "ways", "[J", true)
  | _ => ("RestSets$Tally", "longer", "[J", true)
def ft_Y : Nat → FieldType := fun k => match k with
  | 0 => .array .long
  | _ => .array .long
theorem nm_Y : ∀ a, a < 2 → ∀ b, b < 2 → a ≠ b → (fd_Y a).2.1 ≠ (fd_Y b).2.1 := by decide +kernel
theorem tk_Y : ∀ k, k < 2 → parseFieldDescriptor (fd_Y k).2.2.1 = some (ft_Y k) := by decide +kernel
theorem in_Y : ∀ w ∈ u_ws rn_Y fd_Y 2, w ∈ gw := by decide +kernel
def rn_O : String := "RestSets$OneLetter"
def fd_O : u_T := fun k => match k with
  | 0 => ("RestSets$OneLetter", "bits", "I", true)
  | _ => ("RestSets$OneLetter", "first", "I", true)
def ft_O : Nat → FieldType := fun k => match k with
  | 0 => .int
  | _ => .int
theorem nm_O : ∀ a, a < 2 → ∀ b, b < 2 → a ≠ b → (fd_O a).2.1 ≠ (fd_O b).2.1 := by decide +kernel
theorem tk_O : ∀ k, k < 2 → parseFieldDescriptor (fd_O k).2.2.1 = some (ft_O k) := by decide +kernel
theorem in_O : ∀ w ∈ u_ws rn_O fd_O 2, w ∈ gw := by decide +kernel
def rn_R : String := "RestSets$Recast"
def fd_R : u_T := fun k => match k with
  | 0 => ("RestSets$Recast", "table", "LRestSets$Table;", true)
  | 1 => ("RestSets$Recast", "first", "I", true)
  | _ => ("RestSets$Recast", "ends", "I", true)
def ft_R : Nat → FieldType := fun k => match k with
  | 0 => .object "RestSets$Table"
  | 1 => .int
  | _ => .int
theorem nm_R : ∀ a, a < 3 → ∀ b, b < 3 → a ≠ b → (fd_R a).2.1 ≠ (fd_R b).2.1 := by decide +kernel
theorem tk_R : ∀ k, k < 3 → parseFieldDescriptor (fd_R k).2.2.1 = some (ft_R k) := by decide +kernel
theorem in_R : ∀ w ∈ u_ws rn_R fd_R 3, w ∈ gw := by decide +kernel
def rn_B : String := "RestSets$Both"
def fd_B : u_T := fun k => match k with
  | 0 => ("RestSets$Both", "how", "I", true)
  | 1 => ("RestSets$Both", "one", "LRestSets$Table;", true)
  | _ => ("RestSets$Both", "other", "LRestSets$Table;", true)
def ft_B : Nat → FieldType := fun k => match k with
  | 0 => .int
  | 1 => .object "RestSets$Table"
  | _ => .object "RestSets$Table"
theorem nm_B : ∀ a, a < 3 → ∀ b, b < 3 → a ≠ b → (fd_B a).2.1 ≠ (fd_B b).2.1 := by decide +kernel
theorem tk_B : ∀ k, k < 3 → parseFieldDescriptor (fd_B k).2.2.1 = some (ft_B k) := by decide +kernel
theorem in_B : ∀ w ∈ u_ws rn_B fd_B 3, w ∈ gw := by decide +kernel
def rn_H : String := "RestSets$Then"
def fd_H : u_T := fun k => match k with
  | 0 => ("RestSets$Then", "one", "LRestSets$Table;", true)
  | _ => ("RestSets$Then", "other", "LRestSets$Table;", true)
def ft_H : Nat → FieldType := fun k => match k with
  | 0 => .object "RestSets$Table"
  | _ => .object "RestSets$Table"
theorem nm_H : ∀ a, a < 2 → ∀ b, b < 2 → a ≠ b → (fd_H a).2.1 ≠ (fd_H b).2.1 := by decide +kernel
theorem tk_H : ∀ k, k < 2 → parseFieldDescriptor (fd_H k).2.2.1 = some (ft_H k) := by decide +kernel
theorem in_H : ∀ w ∈ u_ws rn_H fd_H 2, w ∈ gw := by decide +kernel
def rn_N : String := "RestSets$Many"
def fd_N : u_T := fun k => match k with
  | _ => ("RestSets$Many", "table", "LRestSets$Table;", true)
def ft_N : Nat → FieldType := fun k => match k with
  | _ => .object "RestSets$Table"
theorem nm_N : ∀ a, a < 1 → ∀ b, b < 1 → a ≠ b → (fd_N a).2.1 ≠ (fd_N b).2.1 := by decide +kernel
theorem tk_N : ∀ k, k < 1 → parseFieldDescriptor (fd_N k).2.2.1 = some (ft_N k) := by decide +kernel
theorem in_N : ∀ w ∈ u_ws rn_N fd_N 1, w ∈ gw := by decide +kernel
def rn_K : String := "RestSets$Back"
def fd_K : u_T := fun k => match k with
  | _ => ("RestSets$Back", "table", "LRestSets$Table;", true)
def ft_K : Nat → FieldType := fun k => match k with
  | _ => .object "RestSets$Table"
theorem nm_K : ∀ a, a < 1 → ∀ b, b < 1 → a ≠ b → (fd_K a).2.1 ≠ (fd_K b).2.1 := by decide +kernel
theorem tk_K : ∀ k, k < 1 → parseFieldDescriptor (fd_K k).2.2.1 = some (ft_K k) := by decide +kernel
theorem in_K : ∀ w ∈ u_ws rn_K fd_K 1, w ∈ gw := by decide +kernel
def rn_M : String := "RestSetsModel"
def fd_M : u_T := fun k => match k with
  | 0 => ("RestSetsModel", "thrown", "I", false)
  | 1 => ("RestSetsModel", "sets", "I", false)
  | 2 => ("RestSetsModel", "states", "[I", true)
  | 3 => ("RestSetsModel", "start", "[I", true)
  | 4 => ("RestSetsModel", "next", "[I", true)
  | 5 => ("RestSetsModel", "ends", "[Z", true)
  | 6 => ("RestSetsModel", "how", "I", false)
  | 7 => ("RestSetsModel", "one", "I", false)
  | 8 => ("RestSetsModel", "two", "I", false)
  | 9 => ("RestSetsModel", "with", "I", false)
  | 10 => ("RestSetsModel", "codes", "I", false)
  | 11 => ("RestSetsModel", "number", "[I", true)
  | 12 => ("RestSetsModel", "code", "[I", true)
  | 13 => ("RestSetsModel", "to", "[I", true)
  | 14 => ("RestSetsModel", "group", "[I", true)
  | 15 => ("RestSetsModel", "other", "[I", true)
  | 16 => ("RestSetsModel", "first", "[I", true)
  | 17 => ("RestSetsModel", "live", "[Z", true)
  | 18 => ("RestSetsModel", "far", "[I", true)
  | 19 => ("RestSetsModel", "ways", "[J", true)
  | _ => ("RestSetsModel", "more", "[J", true)
def ft_M : Nat → FieldType := fun k => match k with
  | 0 => .int
  | 1 => .int
  | 2 => .array .int
  | 3 => .array .int
  | 4 => .array .int
  | 5 => .array .boolean
  | 6 => .int
  | 7 => .int
  | 8 => .int
  | 9 => .int
  | 10 => .int
  | 11 => .array .int
  | 12 => .array .int
  | 13 => .array .int
  | 14 => .array .int
  | 15 => .array .int
  | 16 => .array .int
  | 17 => .array .boolean
  | 18 => .array .int
  | 19 => .array .long
  | _ => .array .long
theorem nm_M : ∀ a, a < 21 → ∀ b, b < 21 → a ≠ b → (fd_M a).2.1 ≠ (fd_M b).2.1 := by decide +kernel
theorem tk_M : ∀ k, k < 21 → parseFieldDescriptor (fd_M k).2.2.1 = some (ft_M k) := by decide +kernel
theorem in_M : ∀ w ∈ u_ws rn_M fd_M 21, w ∈ gw := by decide +kernel
def rn_A : String := "RestSets$Machine"
def rn_L : String := "RestSetsLaw"
def rn_J : String := "java/lang/Integer"
abbrev cls : List vw_C := [(rn_X, fd_X, 4), (rn_S, fd_S, 14), (rn_T, fd_T, 5), (rn_Y, fd_Y, 2), (rn_O, fd_O, 2), (rn_R, fd_R, 3), (rn_B, fd_B, 3), (rn_H, fd_H, 2), (rn_N, fd_N, 1), (rn_K, fd_K, 1), (rn_M, fd_M, 21)]
def sT (Γ : gG) (s : State) (ws : va_W) (H : Heap) (locs : List Loc) : Prop := va_P Γ.1 cls ws H ∧ va_D (aA Γ) ws ∧ va_S (aA Γ) s.heap H locs
def cX (Γ : gG) (p : Program) (s : State) (m : MethodId) (args : Array Value) (meth : Method) (c : Code) (cc : ByteArray) (ret : Option FieldType) (own : String) (nL : Nat) : Prop :=
  p.tables.exec = Jvm.exec ∧ c.code = cc ∧ meth.sig.returnType = ret ∧ c.maxLocals = nL ∧ s.vm.findClass own = some m.cls ∧ (∀ w ∈ gw, w.before args s = true) ∧ meth.locks = false ∧ va_K Γ.1 cls (tyL Γ) s ∧ nwH s ∧ Γ.2.2 ≤ s.heap.size
def pR (Γ : gG) (ws : va_W) (U : State) : Prop := va_P Γ.1 cls ws U.heap ∧ va_D (aA Γ) ws ∧ va_K Γ.1 cls (tyL Γ) U ∧ nwH U ∧ Γ.2.2 ≤ U.heap.size
def qQ (Γ : gG) {S : Type} (post : Option Value → S → Prop) (ws' : S → va_W) : Array Value → State → Outcome → State → Prop := fun _ st oc t => (∃ (v : Option Value) (u : S), oc = .returned v ∧ post v u ∧ va_P Γ.1 cls (ws' u) t.heap ∧ va_D (aA Γ) (ws' u)) ∧ va_F (aA Γ) st t
/-- a method's contract over a world -/
def cT (l : Launch) (Γ : gG) (y : MethodName) (b : ByteArray) (nL : Nat) (ret : Option FieldType) (rm : Room) (As : List Value) (ws : va_W) {S : Type} (post : Option Value → S → Prop) (ws' : S → va_W) : Prop :=
  Met l y (.code y b nL ret :: gw) rm (va_Pc As (pR Γ ws)) (qQ Γ post ws') rm.cells rm.slots (aA Γ)
section BA
variable {p : Program} {l : Launch} {e : Env} {R : Room} {s : State} {m : MethodId} {args : Array Value} {below : List Frame} {meth : Method} {c : Code} {H : Heap} {locs : List Loc} {cells slots : Nat} {Q : State → Prop}
variable {Γ : gG} {cc : ByteArray} {ret : Option FieldType} {own : String} {nL pc : Nat} {ls : Array Slot} {rest : List Value} {ws : va_W}
theorem cX.x (C : cX Γ p s m args meth c cc ret own nL) : p.tables.exec = Jvm.exec := C.1
theorem cX.b (C : cX Γ p s m args meth c cc ret own nL) : c.code = cc := C.2.1
theorem cX.r (C : cX Γ p s m args meth c cc ret own nL) : meth.sig.returnType = ret := C.2.2.1
theorem cX.n (C : cX Γ p s m args meth c cc ret own nL) : c.maxLocals = nL := C.2.2.2.1
theorem cX.o (C : cX Γ p s m args meth c cc ret own nL) : s.vm.findClass own = some m.cls := C.2.2.2.2.1
theorem cX.t (C : cX Γ p s m args meth c cc ret own nL) : ∀ w ∈ gw, w.before args s = true := C.2.2.2.2.2.1
theorem cX.lk (C : cX Γ p s m args meth c cc ret own nL) : meth.locks = false := C.2.2.2.2.2.2.1
theorem cX.k (C : cX Γ p s m args meth c cc ret own nL) : va_K Γ.1 cls (tyL Γ) s := C.2.2.2.2.2.2.2.1
theorem cX.w (C : cX Γ p s m args meth c cc ret own nL) : nwH s := C.2.2.2.2.2.2.2.2.1
theorem cX.z (C : cX Γ p s m args meth c cc ret own nL) : Γ.2.2 ≤ s.heap.size := C.2.2.2.2.2.2.2.2.2
theorem cX.a (C : cX Γ p s m args meth c cc ret own nL) : ∀ q, s.heap.size ≤ q → aA Γ q := fun _ h => Nat.le_trans C.z h
theorem cT.start {y : MethodName} {rm : Room} {As : List Value} {S : Type} {post : Option Value → S → Prop} {ws' : S → va_W} (hy : plainName y.cls = true) (hn : (lg_sl As).length ≤ nL)
    (body : ∀ (p : Program) (e : Env) (s : State) (m : MethodId) (args : Array Value) (below : List Frame) (meth : Method) (c : Code) (ls : Array Slot) (Q : State → Prop), Q = MQ below (qQ Γ post ws') args s rm.cells rm.slots (aA Γ) → cX Γ p s m args meth c cc ret y.cls nL → meth.name = y.name → sT Γ s ws s.heap [] → lv_has ls nL (lv_args 0 As) →
      W p l e rm s m args below meth c s.heap [] 0 0 Q (F0 m 0 ls [])) : cT l Γ y cc nL ret rm As ws post ws' := by
  refine Met.ofW (cc := cc) (maxL := nL) (ret := ret) hy rfl ?_
  intro p e s m args below meth c s₁ B hml hv
  obtain ⟨rfl, hP, hD, hK, hN, hz⟩ := hv
  have hts := atoms_spec (ws := Cond.code y cc nL ret :: gw) B.pre
  have hl := lv_entry As (n := nL) hn
  rw [lg_entry_eq]
  exact body p e s m _ below meth c _ _ rfl ⟨B.exec, B.bytes, B.returns, hml, findClass_of_methodNamed B.named, fun w h => hts w (List.mem_cons_of_mem _ h), B.notSynchronized, hK, hN, hz⟩ (name_of_methodNamed B.named B.method).1 ⟨hP, hD, va_S.rf⟩ hl
theorem tp_i {x y : Int32} (h : x = y) (k : W p l e R s m args below meth c H locs cells slots Q (F0 m pc ls (.int y :: rest))) : W p l e R s m args below meth c H locs cells slots Q (F0 m pc ls (.int x :: rest)) := h ▸ k
theorem tp_l {x y : Int64} (h : x = y) (k : W p l e R s m args below meth c H locs cells slots Q (F0 m pc ls (.long y :: rest))) : W p l e R s m args below meth c H locs cells slots Q (F0 m pc ls (.long x :: rest)) := h ▸ k
theorem sT.eq {ws2 : va_W} (h : sT Γ s ws H locs) (q : ws = ws2) : sT Γ s ws2 H locs := q ▸ h
theorem rt_i {S : Type} {post : Option Value → S → Prop} {ws' : S → va_W} {v : Int32} (C : cX Γ p s m args meth c cc (some .int) own nL) (u : S) (h : sT Γ s (ws' u) H locs) (hp : post (some (.int v)) u) (hdg : decode cc pc = .ok (.ireturn, 1)) :
    W p l e R s m args below meth c H locs cells slots (MQ below (qQ Γ post ws') args s cells slots (aA Γ)) (F0 m pc ls [.int v]) :=
  W.iret C.x C.b C.r (fun t ht _ => ⟨⟨_, u, rfl, hp, by rw [ht]; exact h.1, h.2.1⟩, h.2.2.F ht⟩) h.2.2.2.2 hdg C.lk
theorem rt_z {S : Type} {post : Option Value → S → Prop} {ws' : S → va_W} {v : Int32} (C : cX Γ p s m args meth c cc (some .boolean) own nL) (u : S) (h : sT Γ s (ws' u) H locs) (hp : post (some (.int v)) u) (hv : v = 0 ∨ v = 1) (hdg : decode cc pc = .ok (.ireturn, 1)) :
    W p l e R s m args below meth c H locs cells slots (MQ below (qQ Γ post ws') args s cells slots (aA Γ)) (F0 m pc ls [.int v]) :=
  W.zret C.x C.b C.r (by rcases hv with rfl | rfl <;> decide +kernel) (fun t ht _ => ⟨⟨_, u, rfl, hp, by rw [ht]; exact h.1, h.2.1⟩, h.2.2.F ht⟩) h.2.2.2.2 hdg C.lk
theorem rt_l {S : Type} {post : Option Value → S → Prop} {ws' : S → va_W} {v : Int64} (C : cX Γ p s m args meth c cc (some .long) own nL) (u : S) (h : sT Γ s (ws' u) H locs) (hp : post (some (.long v)) u) (hdg : decode cc pc = .ok (.lreturn, 1)) :
    W p l e R s m args below meth c H locs cells slots (MQ below (qQ Γ post ws') args s cells slots (aA Γ)) (F0 m pc ls [.long v]) :=
  W.lret C.x C.b C.r (fun t ht _ => ⟨⟨_, u, rfl, hp, by rw [ht]; exact h.1, h.2.1⟩, h.2.2.F ht⟩) h.2.2.2.2 hdg C.lk
theorem rt_v {S : Type} {post : Option Value → S → Prop} {ws' : S → va_W} (C : cX Γ p s m args meth c cc none own nL) (u : S) (h : sT Γ s (ws' u) H locs) (hp : post none u) (hdg : decode cc pc = .ok (.return_, 1)) :
    W p l e R s m args below meth c H locs cells slots (MQ below (qQ Γ post ws') args s cells slots (aA Γ)) (F0 m pc ls []) :=
  W.vret C.x C.b C.r (fun t ht _ => ⟨⟨_, u, rfl, hp, by rw [ht]; exact h.1, h.2.1⟩, h.2.2.F ht⟩) h.2.2.2.2 hdg C.lk
/-- a method of the class cn, of n arguments, its words -/
def mW (cn : String) (y : MethodName) (b : ByteArray) (nL : Nat) (ret : Option FieldType) (n : Nat) : Prop :=
  Cond.code y b nL ret ∈ gw ∧ Cond.instanceMethod y ∈ gw ∧ Cond.selects cn y y ∈ gw ∧ Cond.initialized cn ∈ gw ∧ (y.cls = cn ∧ y.cls ≠ "java/lang/invoke/MethodHandle" ∧ y.cls ≠ "java/lang/invoke/VarHandle" ∧ (parseMethodDescriptor y.desc).map (fun d => d.parameters.length) = some n)
theorem pR.blind {As : List Value} : FrameBlind (va_Pc As (pR Γ ws)) := by
  intro a U g mk q
  obtain ⟨q0, q1, q2, q3, q4, q5⟩ := q
  exact ⟨q0, q1, q2, va_K.moved (u := U) (U := U.calling g mk a) (Vm.Alike.refl U.vm) q3, nwH.vm (s := U) (U := U.calling g mk a) rfl q4, q5⟩
theorem sT.pre (C : cX Γ p s m args meth c cc ret own nL) (h : sT Γ s ws H locs) {As : List Value} : ∀ U : State, U.heap = H → s.WarmedH U.vm → va_Pc As (pR Γ ws) As.toArray U := fun U hU hW =>
  ⟨rfl, by rw [hU]; exact h.1, h.2.1, va_K.moved hW.alike C.k, nwH.warm hW C.w, by rw [hU]; exact Nat.le_trans C.z h.2.2.1⟩
theorem kv_run {S : Type} {post : Option Value → S → Prop} {ws' : S → va_W} {mc ms : Nat} {a : Array Value} {st0 : List Value} (h : sT Γ s ws H locs) (hr : va_Run p l e R s m args below meth c H locs cells slots mc ms (F0 m pc ls st0) rest (qQ Γ post ws' a) (aA Γ))
    (kk : ∀ (v : Option Value) (u : S) (H1 : Heap) (locs1 : List Loc), post v u → sT Γ s (ws' u) H1 locs1 → W p l e R s m args below meth c H1 locs1 (cells + mc) (slots + ms) Q (F0 m (pc + 3) ls (v.toList ++ rest))) : W p l e R s m args below meth c H locs cells slots Q (F0 m pc ls st0) := by
  intro T hT X
  obtain ⟨v, st₀, t, T', L, h0, X', hL, e1, e2, ⟨⟨v', u, hv, hp, hb, hd⟩, hz, hk⟩, st⟩ := hr T hT X
  cases hv
  rw [h0] at hz hk
  have hS := h.2.2
  obtain ⟨t2, a1, b1⟩ := kk v u T'.heap (locs ++ L) hp ⟨by rw [e1]; exact hb, hd, ⟨Nat.le_trans hS.1 (by rw [e1]; exact hz), fun q h1 h2 => by rw [e1, hk q (Nat.lt_of_lt_of_le h1 hS.1) h2]; exact hS.2.1 q h1 h2, fun q hq => by
      rcases List.mem_append.mp hq with h | h
      · exact hS.2.2 q h
      · exact hL q h⟩⟩ T' rfl X'
  exact ⟨t2, st t2 a1, b1⟩
/-- a call of a method of the receiver's own class -/
theorem kv_V {S : Type} {post : Option Value → S → Prop} {ws' : S → va_W} {y : MethodName} {b : ByteArray} {nLy idx n a q0 ci N : Nat} {rety : Option FieldType} {rm : Room} {cn : String} {T : u_T} {fs As : List Value} (C : cX Γ p s m args meth c cc ret own nL) (h : sT Γ s ws H locs) (hl : ls.size = nL)
    (hM : cT l Γ y b nLy rety rm (.ref a :: As) ws post ws') (hm : mW cn y b nLy rety n) (hk : Cond.methodLink own idx y ∈ gw) (he : ws[q0]? = some (a, .inr (ci, fs))) (hc : cls[ci]? = some (cn, T, N)) (hn : As.length = n) (hR : rm.frames + 1 ≤ R.frames ∧ 8 + (nLy + 11) + rm.locals ≤ R.locals) (hf : cells + rm.cells ≤ R.cells ∧ slots + rm.slots ≤ R.slots) (hs : (rest.map fun v => v.category).sum ≤ 8)
    (hdg : decode cc pc = .ok (.invokevirtual idx, 3))
    (kk : ∀ (v : Option Value) (u : S) (H1 : Heap) (locs1 : List Loc), post v u → sT Γ s (ws' u) H1 locs1 → W p l e R s m args below meth c H1 locs1 (cells + rm.cells) (slots + rm.slots) Q (F0 m (pc + 3) ls (v.toList ++ rest))) : W p l e R s m args below meth c H locs cells slots Q (F0 m pc ls (As.reverse ++ .ref a :: rest)) := by
  refine kv_run h (va_runV (As := As) (rest := rest) (Ts := gw) ⟨C.x, C.b, C.n, C.o, C.t⟩ hM (cwV n C.t (gw_in (fun w hw => ?_)) rfl rfl rfl hm.2.2.2.2 hR) ⟨pR.blind, va_recv C.k h.1 hc he, h.pre C⟩ rfl hn hl rfl (lv_room (m := m) (pc := pc) (ls := ls) (rest := []) hs) hdg hf) kk
  simp only [wsV, List.cons_append, List.nil_append, List.mem_cons] at hw
  rcases hw with rfl | rfl | rfl | rfl | rfl | hw
  · exact hk
  · exact hm.2.1
  · exact hm.2.2.1
  · exact hm.2.2.2.1
  · exact hm.1
  · exact hw
/-- a call of a constructor -/
def mI' (y : MethodName) (b : ByteArray) (nL : Nat) (n : Nat) : Prop :=
  Cond.code y b nL none ∈ gw ∧ Cond.instanceMethod y ∈ gw ∧ Cond.initialized y.cls ∈ gw ∧ y.name = "<init>" ∧ (y.cls ≠ "java/lang/invoke/MethodHandle" ∧ y.cls ≠ "java/lang/invoke/VarHandle" ∧ (parseMethodDescriptor y.desc).map (fun d => d.parameters.length) = some n)
theorem gw_cw {y : MethodName} {b : ByteArray} {nLy : Nat} {rety : Option FieldType} (h : Cond.code y b nLy rety ∈ gw) : GoodIn gw (Cond.code y b nLy rety :: gw) := gw_in (fun w hw => (List.mem_cons.mp hw).elim (fun e => e ▸ h) id)
theorem kv_I {S : Type} {post : Option Value → S → Prop} {ws' : S → va_W} {y : MethodName} {b : ByteArray} {nLy idx n a : Nat} {rm : Room} {As : List Value} (C : cX Γ p s m args meth c cc ret own nL) (h : sT Γ s ws H locs) (hl : ls.size = nL)
    (hM : cT l Γ y b nLy none rm (.ref a :: As) ws post ws') (hm : mI' y b nLy n) (hk : Cond.methodLink own idx y ∈ gw) (hn : As.length = n) (hR : rm.frames + 1 ≤ R.frames ∧ 8 + (nLy + 11) + rm.locals ≤ R.locals) (hf : cells + rm.cells ≤ R.cells ∧ slots + rm.slots ≤ R.slots) (hs : (rest.map fun v => v.category).sum ≤ 8)
    (hdg : decode cc pc = .ok (.invokespecial idx, 3))
    (kk : ∀ (v : Option Value) (u : S) (H1 : Heap) (locs1 : List Loc), post v u → sT Γ s (ws' u) H1 locs1 → W p l e R s m args below meth c H1 locs1 (cells + rm.cells) (slots + rm.slots) Q (F0 m (pc + 3) ls (v.toList ++ rest))) : W p l e R s m args below meth c H locs cells slots Q (F0 m pc ls (As.reverse ++ .ref a :: rest)) := by
  refine kv_run h (va_runI (As := As) (rest := rest) (Ts := gw) ⟨C.x, C.b, C.n, C.o, C.t⟩ hM (cwI n C.t (gw_cw hm.1) rfl rfl rfl (C.t _ hm.2.2.1) (C.t _ hk) (C.t _ hm.2.1) hm.2.2.2.1 hm.2.2.2.2 hR) ⟨pR.blind, h.pre C⟩ rfl hn hl rfl (lv_room (m := m) (pc := pc) (ls := ls) (rest := []) hs) hdg hf) kk
theorem kv_IN {S : Type} {post : Option Value → S → Prop} {ws' : S → va_W} {y : MethodName} {b : ByteArray} {nLy idx n a : Nat} {rm : Room} {host : String} {As : List Value} (C : cX Γ p s m args meth c cc ret own nL) (h : sT Γ s ws H locs) (hl : ls.size = nL)
    (hM : cT l Γ y b nLy none rm (.ref a :: As) ws post ws') (hm : mI' y b nLy n) (hk : Cond.methodLinkNest own idx y host ∈ nwL) (hn : As.length = n) (hR : rm.frames + 1 ≤ R.frames ∧ 8 + (nLy + 11) + rm.locals ≤ R.locals) (hf : cells + rm.cells ≤ R.cells ∧ slots + rm.slots ≤ R.slots) (hs : (rest.map fun v => v.category).sum ≤ 8)
    (hdg : decode cc pc = .ok (.invokespecial idx, 3))
    (kk : ∀ (v : Option Value) (u : S) (H1 : Heap) (locs1 : List Loc), post v u → sT Γ s (ws' u) H1 locs1 → W p l e R s m args below meth c H1 locs1 (cells + rm.cells) (slots + rm.slots) Q (F0 m (pc + 3) ls (v.toList ++ rest))) : W p l e R s m args below meth c H locs cells slots Q (F0 m pc ls (As.reverse ++ .ref a :: rest)) := by
  refine kv_run h (va_runIN (As := As) (rest := rest) (Ts := gw) ⟨C.x, C.b, C.n, C.o, C.t⟩ hM ⟨va_cnB n C.t (gw_cw hm.1) rfl rfl rfl (C.w _ hk) (C.t _ hm.2.2.1) hm.2.2.2.2 hR, hm.2.2.2.1, C.t _ hm.2.1⟩ ⟨pR.blind, h.pre C⟩ rfl hn hl rfl (lv_room (m := m) (pc := pc) (ls := ls) (rest := []) hs) hdg hf) kk
theorem kv_S {S : Type} {post : Option Value → S → Prop} {ws' : S → va_W} {y : MethodName} {b : ByteArray} {nLy idx n : Nat} {rety : Option FieldType} {rm : Room} {As : List Value} (C : cX Γ p s m args meth c cc ret own nL) (h : sT Γ s ws H locs) (hl : ls.size = nL)
    (hM : cT l Γ y b nLy rety rm As ws post ws') (hcd : Cond.code y b nLy rety ∈ gw) (hst : Cond.static y ∈ gw) (hini : Cond.initialized y.cls ∈ gw) (hk : Cond.methodLink own idx y ∈ gw) (hd : y.cls ≠ "java/lang/invoke/MethodHandle" ∧ y.cls ≠ "java/lang/invoke/VarHandle" ∧ (parseMethodDescriptor y.desc).map (fun d => d.parameters.length) = some n) (hn : As.length = n) (hR : rm.frames + 1 ≤ R.frames ∧ 8 + (nLy + 11) + rm.locals ≤ R.locals) (hf : cells + rm.cells ≤ R.cells ∧ slots + rm.slots ≤ R.slots) (hs : (rest.map fun v => v.category).sum ≤ 8)
    (hdg : decode cc pc = .ok (.invokestatic idx, 3))
    (kk : ∀ (v : Option Value) (u : S) (H1 : Heap) (locs1 : List Loc), post v u → sT Γ s (ws' u) H1 locs1 → W p l e R s m args below meth c H1 locs1 (cells + rm.cells) (slots + rm.slots) Q (F0 m (pc + 3) ls (v.toList ++ rest))) : W p l e R s m args below meth c H locs cells slots Q (F0 m pc ls (As.reverse ++ rest)) := by
  refine kv_run h (va_runS (As := As) (rest := rest) (Ts := gw) ⟨C.x, C.b, C.n, C.o, C.t⟩ hM ⟨callB_of n C.t (gw_cw hcd) rfl rfl rfl (C.t _ hini) (C.t _ hk) hd hR, C.t _ hst⟩ ⟨pR.blind, h.pre C⟩ rfl hn hl rfl (lv_room (m := m) (pc := pc) (ls := ls) (rest := []) hs) hdg hf) kk
/-- a call of an abstract method -/
def mA (cn : String) (x y : MethodName) (b : ByteArray) (nL : Nat) (ret : Option FieldType) (n : Nat) : Prop :=
  Cond.code y b nL ret ∈ gw ∧ Cond.instanceMethod y ∈ gw ∧ Cond.selects cn x y ∈ gw ∧ Cond.initialized y.cls ∈ gw ∧ Cond.sameMethod x.cls x.cls x.name x.desc ∈ gw ∧ Cond.declares ⟨x.cls, x.name, x.desc⟩ ∈ nwL ∧ (x.cls ≠ "java/lang/invoke/MethodHandle" ∧ x.cls ≠ "java/lang/invoke/VarHandle" ∧ (parseMethodDescriptor x.desc).map (fun d => d.parameters.length) = some n)
theorem kv_A {S : Type} {post : Option Value → S → Prop} {ws' : S → va_W} {x y : MethodName} {b : ByteArray} {nLy idx n a q0 ci N : Nat} {rety : Option FieldType} {rm : Room} {cn : String} {T : u_T} {fs As : List Value} (C : cX Γ p s m args meth c cc ret own nL) (h : sT Γ s ws H locs) (hl : ls.size = nL)
    (hM : cT l Γ y b nLy rety rm (.ref a :: As) ws post ws') (hm : mA cn x y b nLy rety n) (hk : Cond.methodLink own idx x ∈ gw) (he : ws[q0]? = some (a, .inr (ci, fs))) (hc : cls[ci]? = some (cn, T, N)) (hn : As.length = n) (hR : rm.frames + 1 ≤ R.frames ∧ 8 + (nLy + 11) + rm.locals ≤ R.locals) (hf : cells + rm.cells ≤ R.cells ∧ slots + rm.slots ≤ R.slots) (hs : (rest.map fun v => v.category).sum ≤ 8)
    (hdg : decode cc pc = .ok (.invokevirtual idx, 3))
    (kk : ∀ (v : Option Value) (u : S) (H1 : Heap) (locs1 : List Loc), post v u → sT Γ s (ws' u) H1 locs1 → W p l e R s m args below meth c H1 locs1 (cells + rm.cells) (slots + rm.slots) Q (F0 m (pc + 3) ls (v.toList ++ rest))) : W p l e R s m args below meth c H locs cells slots Q (F0 m pc ls (As.reverse ++ .ref a :: rest)) := by
  refine kv_run h (va_runU (As := As) (rest := rest) (Ts := gw) (owner := x.cls) ⟨C.x, C.b, C.n, C.o, C.t⟩ hM (va_cwA n C.t (gw_in (fun w hw => ?_)) rfl rfl rfl (C.w _ hm.2.2.2.2.2.1) hm.2.2.2.2.2.2 hR) ⟨pR.blind, va_recv C.k h.1 hc he, h.pre C⟩ rfl hn hl rfl (lv_room (m := m) (pc := pc) (ls := ls) (rest := []) hs) hdg hf) kk
  simp only [va_wsU, List.cons_append, List.nil_append, List.mem_cons] at hw
  rcases hw with rfl | rfl | rfl | rfl | rfl | rfl | hw
  · exact hk
  · exact hm.2.2.2.2.1
  · exact hm.2.2.1
  · exact hm.2.1
  · exact hm.2.2.2.1
  · exact hm.1
  · exact hw
end BA
