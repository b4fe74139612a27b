section

def lw_okq (q : MethodName × Nat) : Prop := (q.1.cls ≠ "java/lang/invoke/MethodHandle" ∧ q.1.cls ≠ "java/lang/invoke/VarHandle") ∧ Cond.instantiable q.1.cls q.2 ∈ tables_1 ∧ Cond.privateMethod q.1 ∈ tables_1 ∧ Cond.instanceMethod q.1 ∈ tables_1
theorem lw_p0 : lw_okq (⟨"java/lang/Throwable", "fillInStackTrace", "(I)Ljava/lang/Throwable;"⟩, 6) := ⟨⟨by decide +kernel, by decide +kernel⟩, List.mem_of_getElem? (i := 209) (by decide +kernel), List.mem_of_getElem? (i := 207) (by decide +kernel), List.mem_of_getElem? (i := 208) (by decide +kernel)⟩
theorem lw_p1 : lw_okq (⟨"RestSets", "keep", "(LRestSets$Machine;)I"⟩, 4) := ⟨⟨by decide +kernel, by decide +kernel⟩, List.mem_of_getElem? (i := 22) (by decide +kernel), List.mem_of_getElem? (i := 241) (by decide +kernel), List.mem_of_getElem? (i := 242) (by decide +kernel)⟩
theorem lw_p2 : lw_okq (⟨"RestSets$Then", "withBegun", "(II)I"⟩, 2) := ⟨⟨by decide +kernel, by decide +kernel⟩, List.mem_of_getElem? (i := 288) (by decide +kernel), List.mem_of_getElem? (i := 286) (by decide +kernel), List.mem_of_getElem? (i := 287) (by decide +kernel)⟩
theorem lw_p3 : lw_okq (⟨"RestSets$Sorter", "meet", "(I)I"⟩, 14) := ⟨⟨by decide +kernel, by decide +kernel⟩, List.mem_of_getElem? (i := 32) (by decide +kernel), List.mem_of_getElem? (i := 295) (by decide +kernel), List.mem_of_getElem? (i := 296) (by decide +kernel)⟩
theorem lw_p4 : lw_okq (⟨"RestSets$Sorter", "askTests", "(I)I"⟩, 14) := ⟨⟨by decide +kernel, by decide +kernel⟩, List.mem_of_getElem? (i := 32) (by decide +kernel), List.mem_of_getElem? (i := 303) (by decide +kernel), List.mem_of_getElem? (i := 304) (by decide +kernel)⟩
theorem lw_p5 : lw_okq (⟨"RestSets$Sorter", "follow", "(II)I"⟩, 14) := ⟨⟨by decide +kernel, by decide +kernel⟩, List.mem_of_getElem? (i := 32) (by decide +kernel), List.mem_of_getElem? (i := 307) (by decide +kernel), List.mem_of_getElem? (i := 308) (by decide +kernel)⟩
theorem lw_p6 : lw_okq (⟨"RestSets$Sorter", "kindWith", "(I)I"⟩, 14) := ⟨⟨by decide +kernel, by decide +kernel⟩, List.mem_of_getElem? (i := 32) (by decide +kernel), List.mem_of_getElem? (i := 370) (by decide +kernel), List.mem_of_getElem? (i := 371) (by decide +kernel)⟩
theorem lw_p7 : lw_okq (⟨"RestSets$Sorter", "addKind", "(I)Z"⟩, 14) := ⟨⟨by decide +kernel, by decide +kernel⟩, List.mem_of_getElem? (i := 32) (by decide +kernel), List.mem_of_getElem? (i := 374) (by decide +kernel), List.mem_of_getElem? (i := 375) (by decide +kernel)⟩
theorem lw_p8 : lw_okq (⟨"RestSets$Sorter", "split", "(III)I"⟩, 14) := ⟨⟨by decide +kernel, by decide +kernel⟩, List.mem_of_getElem? (i := 32) (by decide +kernel), List.mem_of_getElem? (i := 382) (by decide +kernel), List.mem_of_getElem? (i := 383) (by decide +kernel)⟩
theorem lw_p9 : lw_okq (⟨"RestSets$Table", "letterToward", "(II)I"⟩, 5) := ⟨⟨by decide +kernel, by decide +kernel⟩, List.mem_of_getElem? (i := 112) (by decide +kernel), List.mem_of_getElem? (i := 396) (by decide +kernel), List.mem_of_getElem? (i := 397) (by decide +kernel)⟩
theorem lw_p10 : lw_okq (⟨"RestSets", "tableOf", "(I)LRestSets$Table;"⟩, 4) := ⟨⟨by decide +kernel, by decide +kernel⟩, List.mem_of_getElem? (i := 22) (by decide +kernel), List.mem_of_getElem? (i := 415) (by decide +kernel), List.mem_of_getElem? (i := 416) (by decide +kernel)⟩
theorem lw_p11 : lw_okq (⟨"RestSetsModel", "make", "(IIII)I"⟩, 21) := ⟨⟨by decide +kernel, by decide +kernel⟩, List.mem_of_getElem? (i := 630) (by decide +kernel), List.mem_of_getElem? (i := 709) (by decide +kernel), List.mem_of_getElem? (i := 710) (by decide +kernel)⟩
theorem lw_p12 : lw_okq (⟨"RestSetsModel", "begin", "()I"⟩, 21) := ⟨⟨by decide +kernel, by decide +kernel⟩, List.mem_of_getElem? (i := 630) (by decide +kernel), List.mem_of_getElem? (i := 713) (by decide +kernel), List.mem_of_getElem? (i := 714) (by decide +kernel)⟩
theorem lw_p13 : lw_okq (⟨"RestSetsModel", "isEnd", "(II)Z"⟩, 21) := ⟨⟨by decide +kernel, by decide +kernel⟩, List.mem_of_getElem? (i := 630) (by decide +kernel), List.mem_of_getElem? (i := 717) (by decide +kernel), List.mem_of_getElem? (i := 718) (by decide +kernel)⟩
theorem lw_p14 : lw_okq (⟨"RestSetsModel", "next", "(III)I"⟩, 21) := ⟨⟨by decide +kernel, by decide +kernel⟩, List.mem_of_getElem? (i := 630) (by decide +kernel), List.mem_of_getElem? (i := 721) (by decide +kernel), List.mem_of_getElem? (i := 722) (by decide +kernel)⟩
theorem lw_p15 : lw_okq (⟨"RestSetsModel", "come", "(I)I"⟩, 21) := ⟨⟨by decide +kernel, by decide +kernel⟩, List.mem_of_getElem? (i := 630) (by decide +kernel), List.mem_of_getElem? (i := 725) (by decide +kernel), List.mem_of_getElem? (i := 726) (by decide +kernel)⟩
def lw_privs_1 : List (MethodName × Nat) := [(⟨"java/lang/Throwable", "fillInStackTrace", "(I)Ljava/lang/Throwable;"⟩, 6), (⟨"RestSets", "keep", "(LRestSets$Machine;)I"⟩, 4), (⟨"RestSets$Then", "withBegun", "(II)I"⟩, 2), (⟨"RestSets$Sorter", "meet", "(I)I"⟩, 14), (⟨"RestSets$Sorter", "askTests", "(I)I"⟩, 14), (⟨"RestSets$Sorter", "follow", "(II)I"⟩, 14), (⟨"RestSets$Sorter", "kindWith", "(I)I"⟩, 14), (⟨"RestSets$Sorter", "addKind", "(I)Z"⟩, 14), (⟨"RestSets$Sorter", "split", "(III)I"⟩, 14), (⟨"RestSets$Table", "letterToward", "(II)I"⟩, 5), (⟨"RestSets", "tableOf", "(I)LRestSets$Table;"⟩, 4), (⟨"RestSetsModel", "make", "(IIII)I"⟩, 21), (⟨"RestSetsModel", "begin", "()I"⟩, 21), (⟨"RestSetsModel", "isEnd", "(II)Z"⟩, 21), (⟨"RestSetsModel", "next", "(III)I"⟩, 21), (⟨"RestSetsModel", "come", "(I)I"⟩, 21)]
theorem lw_r1 : ∀ q ∈ lw_privs_1, lw_okq q := List.forall_mem_cons.mpr ⟨lw_p0, List.forall_mem_cons.mpr ⟨lw_p1, List.forall_mem_cons.mpr ⟨lw_p2, List.forall_mem_cons.mpr ⟨lw_p3, List.forall_mem_cons.mpr ⟨lw_p4, List.forall_mem_cons.mpr ⟨lw_p5, List.forall_mem_cons.mpr ⟨lw_p6, List.forall_mem_cons.mpr ⟨lw_p7, List.forall_mem_cons.mpr ⟨lw_p8, List.forall_mem_cons.mpr ⟨lw_p9, List.forall_mem_cons.mpr ⟨lw_p10, List.forall_mem_cons.mpr ⟨lw_p11, List.forall_mem_cons.mpr ⟨lw_p12, List.forall_mem_cons.mpr ⟨lw_p13, List.forall_mem_cons.mpr ⟨lw_p14, List.forall_mem_cons.mpr ⟨lw_p15, fun _ h => absurd h List.not_mem_nil⟩⟩⟩⟩⟩⟩⟩⟩⟩⟩⟩⟩⟩⟩⟩⟩
theorem lw_p16 : lw_okq (⟨"RestSetsModel", "step", "(II)I"⟩, 21) := ⟨⟨by decide +kernel, by decide +kernel⟩, List.mem_of_getElem? (i := 630) (by decide +kernel), List.mem_of_getElem? (i := 729) (by decide +kernel), List.mem_of_getElem? (i := 730) (by decide +kernel)⟩
theorem lw_p17 : lw_okq (⟨"RestSetsModel", "all", "(III)I"⟩, 21) := ⟨⟨by decide +kernel, by decide +kernel⟩, List.mem_of_getElem? (i := 630) (by decide +kernel), List.mem_of_getElem? (i := 733) (by decide +kernel), List.mem_of_getElem? (i := 734) (by decide +kernel)⟩
theorem lw_p18 : lw_okq (⟨"RestSetsModel", "someEnd", "(II)Z"⟩, 21) := ⟨⟨by decide +kernel, by decide +kernel⟩, List.mem_of_getElem? (i := 630) (by decide +kernel), List.mem_of_getElem? (i := 737) (by decide +kernel), List.mem_of_getElem? (i := 738) (by decide +kernel)⟩
theorem lw_p19 : lw_okq (⟨"RestSetsModel", "apart", "()I"⟩, 21) := ⟨⟨by decide +kernel, by decide +kernel⟩, List.mem_of_getElem? (i := 630) (by decide +kernel), List.mem_of_getElem? (i := 741) (by decide +kernel), List.mem_of_getElem? (i := 742) (by decide +kernel)⟩
theorem lw_p20 : lw_okq (⟨"RestSetsModel", "isGood", "(I)Z"⟩, 21) := ⟨⟨by decide +kernel, by decide +kernel⟩, List.mem_of_getElem? (i := 630) (by decide +kernel), List.mem_of_getElem? (i := 745) (by decide +kernel), List.mem_of_getElem? (i := 746) (by decide +kernel)⟩
theorem lw_p21 : lw_okq (⟨"RestSetsModel", "alike", "(II)Z"⟩, 21) := ⟨⟨by decide +kernel, by decide +kernel⟩, List.mem_of_getElem? (i := 630) (by decide +kernel), List.mem_of_getElem? (i := 749) (by decide +kernel), List.mem_of_getElem? (i := 750) (by decide +kernel)⟩
theorem lw_p22 : lw_okq (⟨"RestSetsModel", "isSet", "(I)Z"⟩, 21) := ⟨⟨by decide +kernel, by decide +kernel⟩, List.mem_of_getElem? (i := 630) (by decide +kernel), List.mem_of_getElem? (i := 761) (by decide +kernel), List.mem_of_getElem? (i := 762) (by decide +kernel)⟩
theorem lw_p23 : lw_okq (⟨"RestSetsModel", "look", "(I)V"⟩, 21) := ⟨⟨by decide +kernel, by decide +kernel⟩, List.mem_of_getElem? (i := 630) (by decide +kernel), List.mem_of_getElem? (i := 789) (by decide +kernel), List.mem_of_getElem? (i := 790) (by decide +kernel)⟩
theorem lw_p24 : lw_okq (⟨"RestSetsModel", "goes", "(IIZ)Z"⟩, 21) := ⟨⟨by decide +kernel, by decide +kernel⟩, List.mem_of_getElem? (i := 630) (by decide +kernel), List.mem_of_getElem? (i := 802) (by decide +kernel), List.mem_of_getElem? (i := 803) (by decide +kernel)⟩
theorem lw_p25 : lw_okq (⟨"RestSetsModel", "count", "(II)J"⟩, 21) := ⟨⟨by decide +kernel, by decide +kernel⟩, List.mem_of_getElem? (i := 630) (by decide +kernel), List.mem_of_getElem? (i := 818) (by decide +kernel), List.mem_of_getElem? (i := 819) (by decide +kernel)⟩
def lw_privs_2 : List (MethodName × Nat) := [(⟨"RestSetsModel", "step", "(II)I"⟩, 21), (⟨"RestSetsModel", "all", "(III)I"⟩, 21), (⟨"RestSetsModel", "someEnd", "(II)Z"⟩, 21), (⟨"RestSetsModel", "apart", "()I"⟩, 21), (⟨"RestSetsModel", "isGood", "(I)Z"⟩, 21), (⟨"RestSetsModel", "alike", "(II)Z"⟩, 21), (⟨"RestSetsModel", "isSet", "(I)Z"⟩, 21), (⟨"RestSetsModel", "look", "(I)V"⟩, 21), (⟨"RestSetsModel", "goes", "(IIZ)Z"⟩, 21), (⟨"RestSetsModel", "count", "(II)J"⟩, 21)]
theorem lw_r2 : ∀ q ∈ lw_privs_2, lw_okq q := List.forall_mem_cons.mpr ⟨lw_p16, List.forall_mem_cons.mpr ⟨lw_p17, List.forall_mem_cons.mpr ⟨lw_p18, List.forall_mem_cons.mpr ⟨lw_p19, List.forall_mem_cons.mpr ⟨lw_p20, List.forall_mem_cons.mpr ⟨lw_p21, List.forall_mem_cons.mpr ⟨lw_p22, List.forall_mem_cons.mpr ⟨lw_p23, List.forall_mem_cons.mpr ⟨lw_p24, List.forall_mem_cons.mpr ⟨lw_p25, fun _ h => absurd h List.not_mem_nil⟩⟩⟩⟩⟩⟩⟩⟩⟩⟩
def lw_privs : List (MethodName × Nat) := lw_privs_1 ++ (lw_privs_2)
def lw_tbl : List Cond := k2_sels lw_privs ++ tables_1
theorem lw_privs_ok : ∀ q ∈ lw_privs, lw_okq q := by
  show ∀ q ∈ lw_privs_1 ++ (lw_privs_2), lw_okq q
  exact List.forall_mem_append.mpr ⟨lw_r1, lw_r2⟩

theorem goodIn_r {big : List Cond} (ws : List Cond) (ps : List Nat) (hp : ws = ps.filterMap (fun i => big[i]?)) (h : ws.all goodWord = true) : GoodIn big ws := by
  intro w hw
  have h1 := List.all_eq_true.mp h w hw
  rw [hp] at hw
  obtain ⟨i, -, hi⟩ := List.mem_filterMap.mp hw
  have hm : w ∈ big := by first | exact List.mem_of_getElem? hi | exact List.getElem?_mem hi
  exact ⟨hm, good_of_word h1⟩
theorem goodIn_app {big a b : List Cond} (ha : GoodIn big a) (hb : GoodIn big b) : GoodIn big (a ++ b) := fun w h => (List.mem_append.mp h).elim (ha w) (hb w)
theorem goodIn_ca {big a b : List Cond} {c : Cond} (ha : GoodIn big (c :: a)) (hb : GoodIn big b) : GoodIn big (c :: (a ++ b)) := fun w h => (List.mem_cons.mp h).elim (fun e => ha w (List.mem_cons.mpr (Or.inl e))) (fun h => (List.mem_append.mp h).elim (fun h => ha w (List.mem_cons.mpr (Or.inr h))) (hb w))
theorem goodIn_sub {big ws : List Cond} (hm : ∀ w ∈ ws, w ∈ big) (h : ws.all goodWord = true) : GoodIn big ws := fun w hw => ⟨hm w hw, good_of_word (List.all_eq_true.mp h w hw)⟩



theorem rx_one {e : Env} {d : Bool} {acts : List Action} {s : State} {f : JFrame} {a : Addr} {Q : Handler → Pre} {E : CtlPost} {x : ExceptionTableEntry} {t : List ExceptionTableEntry} {c : ClassId} {cell : Cell} (hx : covers x f.pc = true) (h0 : x.catchType ≠ 0)
    (hl : s.vm.ClassLinks e.platform f.method.cls x.catchType c) (hcell : s.heap[a]? = some cell) (hobj : ∀ k, cell.vm ≠ .statics k)
    (hk : ∃ k, s.vm.classes[cell.cls]? = some k) (hc : ∃ k, s.vm.classes[c]? = some k) :
    wp (findHandler.go f a (x :: t)) Q E e d acts s ↔
      if s.vm.assignable cell.cls c = true then Q (.found x.handlerPc) d acts (s.setVm (s.vm.noted f.method.cls x.catchType (.cls c)))
      else wp (findHandler.go f a t) Q E e d acts (s.setVm (s.vm.noted f.method.cls x.catchType (.cls c))) := by
  simp only [covers] at hx
  obtain ⟨ha, ht⟩ := (resolveClass_links e.toSetting hl).op (op := VmOp.resolveClass f.method.cls x.catchType) rfl
  have hal : s.vm.Alike (s.vm.noted f.method.cls x.catchType (.cls c)) := (Vm.Alike.refl s.vm).noted _ _ _
  obtain ⟨k1, hk1⟩ := hk
  obtain ⟨k2, hk2⟩ := hc
  obtain ⟨k1', hk1', -⟩ := hal.2.2 _ _ hk1
  obtain ⟨k2', hk2', -⟩ := hal.2.2 _ _ hk2
  have hr : (s.vm.noted f.method.cls x.catchType (.cls c)).assignable cell.cls c = s.vm.assignable cell.cls c := hal.assignable ..
  cases hfit : s.vm.assignable cell.cls c <;> rw [hfit] at hr <;>
    simp [findHandler.go, hx, h0, ha, ht, hcell, hobj, hk1', hk2', hr, VmOp.dirties, VmOp.acts]
def rx_pass (pl : Platform) (s0 : State) (d : ClassId) (pc : Nat) (k : ClassId) (y : ExceptionTableEntry) : Prop :=
  covers y pc = false ∨ (y.catchType ≠ 0 ∧ ∃ c, s0.vm.ClassLinks pl d y.catchType c ∧ s0.vm.assignable k c = false)
theorem rx_go {e : Env} {s0 : State} {f : JFrame} {a : Addr} {cell : Cell} (hobj : ∀ k, cell.vm ≠ .statics k) (hk0 : ∃ k, s0.vm.classes[cell.cls]? = some k)
    (x : ExceptionTableEntry) (suf : List ExceptionTableEntry) (hx : covers x f.pc = true) (h0 : x.catchType ≠ 0) {cx : ClassId} (hlx : s0.vm.ClassLinks e.platform f.method.cls x.catchType cx) (hfit : s0.vm.assignable cell.cls cx = true) :
    ∀ (pre : List ExceptionTableEntry) (S : State), s0.WarmedH S.vm → S.heap[a]? = some cell → (∀ y ∈ pre, rx_pass e.platform s0 f.method.cls f.pc cell.cls y) →
      ∃ vm', s0.WarmedH vm' ∧ ∀ (Q : Handler → Pre) (E : CtlPost) (d : Bool) (acts : List Action), wp (findHandler.go f a (pre ++ x :: suf)) Q E e d acts S ↔ Q (.found x.handlerPc) d acts (S.setVm vm') := by
  obtain ⟨k0, hk0⟩ := hk0
  have note : ∀ (z : ExceptionTableEntry) (cz : ClassId), z.catchType ≠ 0 → covers z f.pc = true → s0.vm.ClassLinks e.platform f.method.cls z.catchType cz → ∀ S : State, s0.WarmedH S.vm → S.heap[a]? = some cell →
      s0.WarmedH (S.vm.noted f.method.cls z.catchType (.cls cz)) ∧ ∀ (t : List ExceptionTableEntry) (Q : Handler → Pre) (E : CtlPost) (d : Bool) (acts : List Action), wp (findHandler.go f a (z :: t)) Q E e d acts S ↔
        if s0.vm.assignable cell.cls cz = true then Q (.found z.handlerPc) d acts (S.setVm (S.vm.noted f.method.cls z.catchType (.cls cz))) else wp (findHandler.go f a t) Q E e d acts (S.setVm (S.vm.noted f.method.cls z.catchType (.cls cz))) := by
    intro z cz hz0 hzc hl S hW hcell
    obtain ⟨k0', hk0', -⟩ := hW.alike.2.2 _ _ hk0
    obtain ⟨dk, _, _, kt, hd, _, _, _, _, hkt, _, hopn⟩ := hl.here
    obtain ⟨kt', hkt', -⟩ := hW.alike.2.2 _ _ hkt
    refine ⟨hW.noted hd hopn (State.rightAt_cls hl), fun t Q E d acts => ?_⟩
    rw [rx_one hzc hz0 (hW.classLinks hl) hcell hobj ⟨k0', hk0'⟩ ⟨kt', hkt'⟩, hW.alike.assignable]
  intro pre
  induction pre with
  | nil =>
    intro S hW hcell _
    obtain ⟨h1, h2⟩ := note x cx h0 hx hlx S hW hcell
    exact ⟨_, h1, fun Q E d acts => by rw [List.nil_append, h2, if_pos hfit]⟩
  | cons y ys ih =>
    intro S hW hcell hp
    have hr : ∀ z ∈ ys, rx_pass e.platform s0 f.method.cls f.pc cell.cls z := fun z hz => hp z (List.mem_cons_of_mem _ hz)
    cases hc : covers y f.pc with
    | false =>
      obtain ⟨vm', h1, h2⟩ := ih S hW hcell hr
      exact ⟨vm', h1, fun Q E d acts => by rw [List.cons_append, W.findHandler_go_skip hc]; exact h2 Q E d acts⟩
    | true =>
      rcases hp y (List.mem_cons_self ..) with h | ⟨hy0, c, hl, hno⟩
      · rw [h] at hc; cases hc
      · obtain ⟨h1, h2⟩ := note y c hy0 hc hl S hW hcell
        obtain ⟨vm', h3, h4⟩ := ih (S.setVm (S.vm.noted f.method.cls y.catchType (.cls c))) h1 hcell hr
        exact ⟨vm', h3, fun Q E d acts => by rw [List.cons_append, h2, if_neg (by rw [hno]; decide)]; exact h4 Q E d acts⟩
theorem rx_step {e : Env} {s : State} {a : Addr} {f : JFrame} {r : List Frame} {pc : Nat} {vm' : Vm}
    (hfind : ∀ (Q : Handler → Pre) (E : CtlPost) (d : Bool) (acts : List Action), wp (findHandler f a) Q E e d acts s ↔ Q (.found pc) d acts (s.setVm vm')) :
    (stepThrowing e s a (.java f :: r)).Is ((s.setVm vm').setFrames (.java { f with pc := pc, stack := [.ref a] } :: r)) [] := by
  simp only [stepThrowing, searchFrame, vmDo]
  generalize hr : Sem.go _ e false [] s = res
  obtain ⟨as, rfl, ha⟩ := Sem.eq_ok_of hr (a := Handler.found pc) (s' := s.setVm vm') (acts' := []) (by simp [hfind])
  exact ⟨rfl, ha⟩
theorem rx_caught {p : Program} {l : Launch} {e : Env} {R : Room} {s : State} {m : MethodId} {args : Array Value} {below : List Frame} {meth : Method} {c : Code} {T : State} {locs : List Loc} {cells slots : Nat}
    (X : Stand p l e R s m args below meth c T locs cells slots) (a : Addr) {g : JFrame} (hg : g.method = m) {cell : Cell} (hcell : T.heap[a]? = some cell) (hobj : cell.vm.isStatics = false) (hk0 : ∃ k, s.vm.classes[cell.cls]? = some k)
    (pre : List ExceptionTableEntry) (x : ExceptionTableEntry) (suf : List ExceptionTableEntry) (hsplit : c.exceptionTable.toList = pre ++ x :: suf)
    (hp : ∀ y ∈ pre, rx_pass e.platform s m.cls g.pc cell.cls y) (hx : covers x g.pc = true) (h0 : x.catchType ≠ 0) {cx : ClassId} (hlx : s.vm.ClassLinks e.platform m.cls x.catchType cx) (hfit : s.vm.assignable cell.cls cx = true) :
    ∃ vm', Stand p l e R s m args below meth c (T.setVm vm') locs cells slots ∧ Steps p.tables e below ((T.setTop g).pushFrame (.throwing a)) ((T.setVm vm').setTop { g with pc := x.handlerPc, stack := [.ref a] }) := by
  subst hg
  obtain ⟨vm', hW, hq⟩ := rx_go (e := e) (f := g) (a := a) (VmData.ne_statics_of hobj) hk0 x suf hx h0 hlx hfit pre ((T.setTop g).pushFrame (.throwing a)) X.warmed hcell hp
  refine ⟨vm', X.noted hW, ?_⟩
  obtain ⟨hgo, hw⟩ := X.here.throwing (g := g) a
  refine Steps.head hgo hw ?_
  rw [stepThread_throwing (frames_entered X.here.top _), (rx_step (s := (T.setTop g).pushFrame (.throwing a)) (pc := x.handlerPc) (vm' := vm') (fun Q E d acts => by
    have h9 := W.findHandler_eq (e := e) (Q := Q) (E := E) (d := d) (acts := acts) (a := a) (f := g) (s := (T.setTop g).pushFrame (.throwing a)) (meth := meth) (code := c) X.method' X.code; rw [h9, hsplit]; exact hq Q E d acts)).1]
  obtain ⟨g0, hg0⟩ := Option.isSome_iff_exists.mp X.here.top
  obtain ⟨r, hr⟩ := State.topJava?_eq_some.mp hg0
  have hr' : (T.setVm vm').frames = .java g0 :: r := hr
  have hv : ∀ (u : State) (F G : List Frame), ((u.setFrames F).setVm vm').setFrames G = (u.setVm vm').setFrames G := fun u F G => by
    have h1 : (u.setFrames F).setVm vm' = (u.setVm vm').setFrames F := rfl
    rw [h1, State.setFrames_setFrames]
  rw [State.setTop_of_frames _ hr', hr, List.tail_cons, State.pushFrame, hv, State.setTop_of_frames _ hr, hv]
  exact Steps.refl _
section VXA


def vx_T (XC : String → State → State → Prop) (st : State) (q : Addr) (t : State) (mc ms : Nat) (free : Addr → Prop) : Prop :=
  ∃ (E : String) (ce : Cell) (L : List Loc), XC E st t ∧ t.heap[q]? = some ce ∧ ce.vm = .none ∧ st.vm.findClass E = some ce.cls ∧ st.WarmedH t.vm ∧ st.sameButNew ({ t with vm := st.vm } : State) L mc ms ∧ ∀ z ∈ L, free z.base
def vx_Q (Qc : Array Value → State → Outcome → State → Prop) (XC : String → State → State → Prop) (mc ms : Nat) (free : Addr → Prop) : Array Value → State → Outcome → State → Prop := fun a st o t =>
  (Qc a st o t ∧ ∃ L, FrameEnd st o t L mc ms ∧ ∀ q ∈ L, free q.base) ∨ ∃ q, o = .threw q ∧ vx_T XC st q t mc ms free

def vx_Met (l : Launch) (y : MethodName) (ws : List Cond) (rm : Room) (Pc : Array Value → State → Prop) (Qc : Array Value → State → Outcome → State → Prop) (XC : String → State → State → Prop) (mc ms : Nat) (free : Addr → Prop) : Prop :=
  MetFree l y (headSpec ws rm) Pc (fun _ _ _ _ _ => True) (vx_Q Qc XC mc ms free)
def vx_Post (XC : String → State → State → Prop) (mc ms : Nat) (free : Addr → Prop) : Pt → Array Value → Addr → Pt → Prop := fun A a q B =>
  ∃ (g : JFrame) (mk : MethodId) (t : State) (L : List Loc) (E : String) (ce : Cell), B.U.heap = t.heap ∧ B.U.vm = t.vm ∧ XC E (A.U.calling g mk a) t ∧ t.heap[q]? = some ce ∧ ce.vm = .none ∧ A.U.vm.findClass E = some ce.cls ∧ B.locs = A.locs ++ L ∧ (∀ z ∈ L, free z.base) ∧ B.cells = A.cells + mc ∧ B.slots = A.slots + ms
def vx_Back (l : Launch) (R : Room) (p : Program) (e : Env) (below : List Frame) (s : State) (sargs : Array Value) (y : MethodName) (len W9 : Nat)
    (Pre : Pt → Array Value → Prop) (Post : Pt → Array Value → Option Value → Pt → Prop) (PostX : Pt → Array Value → Addr → Pt → Prop) : Prop :=
  ∀ (m : MethodId) (meth : Method) (c : Code) (A : Pt) (g : JFrame) (ig : Instr) (mk : MethodId) (a : Array Value),
    Stand p l e R s m sargs below meth c A.U A.locs A.cells A.slots → g.method = m → g.locals.size = c.maxLocals → decode c.code g.pc = .ok (ig, len) →
    2 * g.monitorRoom + (g.stack.map fun v => v.category).sum ≤ W9 → A.U.methodNamed? y = some mk → Pre A a →
    (∃ (v : Option Value) (B : Pt), Stand p l e R s m sargs below meth c B.U B.locs B.cells B.slots ∧ Post A a v B ∧
      Steps p.tables e below (doInvoke e (A.U.setTop g) [] mk a).1 (B.U.setTop { g with pc := g.pc + len, stack := v.toList ++ g.stack })) ∨
    (∃ (q : Addr) (B : Pt), Stand p l e R s m sargs below meth c B.U B.locs B.cells B.slots ∧ PostX A a q B ∧
      Steps p.tables e below (doInvoke e (A.U.setTop g) [] mk a).1 ((B.U.setTop g).pushFrame (.throwing q)))
section Payer
variable {l : Launch} {R : Room} {p : Program} {e : Env} {below : List Frame} {s : State} {sargs : Array Value} {y : MethodName} {len W9 : Nat}
theorem vx_back {ws : List Cond} {rm : Room} {Pc : Array Value → State → Prop} {Qc : Array Value → State → Outcome → State → Prop} {XC : String → State → State → Prop} {mc ms : Nat} {free : Addr → Prop} {bytes : ByteArray} {maxL : Nat} {ret : Option FieldType}
    (hM : vx_Met l y ws rm Pc Qc XC mc ms free) (hblind : FrameBlind Pc) (hrc : rm.cells = mc) (hrs : rm.slots = ms)
    (hframes : rm.frames + 1 ≤ R.frames) (hlocals : W9 + (maxL + 11) + rm.locals ≤ R.locals)
    (hws : ∀ w ∈ ws, ∀ a' U, s.WarmedH U.vm → w.before a' U = true) (hcode : Cond.code y bytes maxL ret ∈ ws) (hinit : ∀ a' U, s.WarmedH U.vm → (Cond.initialized y.cls).before a' U = true) :
    vx_Back l R p e below s sargs y len W9 (PreOf R mc ms Pc) (PostOf Qc mc ms free) (vx_Post XC mc ms free) := by
  intro m meth c A g ig mk a X hg hsize hdg hW hn hp
  have h1 : (headSpec ws rm).pre.before a A.U = true := atoms_intro fun w hw => hws w hw _ _ X.warmed
  have h2 : (Cond.code y bytes maxL ret).before a A.U = true := hws _ hcode _ _ X.warmed
  have h3 : (Cond.initialized y.cls).before a A.U = true := hinit _ _ X.warmed
  have h4 : A.cells + (headSpec ws rm).room.cells ≤ R.cells := by rw [show (headSpec ws rm).room.cells = mc from hrc]; exact hp.1
  have h5 : A.slots + (headSpec ws rm).room.slots ≤ R.slots := by rw [show (headSpec ws rm).room.slots = ms from hrs]; exact hp.2.1
  have hPc : Pc a (A.U.calling g mk a) := hblind _ _ _ _ hp.2.2
  obtain ⟨U, Ls, c0, s0⟩ := A
  dsimp only [Pt.U, Pt.locs, Pt.cells, Pt.slots] at h1 h2 h3 h4 h5 X hn hPc ⊢
  obtain ⟨methY, cY, hmY, hcY, -, hlY, -, -, -, -⟩ := Cond.code_spec hn h2
  obtain ⟨kY, hkY, -⟩ := className_of_methodNamed hn
  have hinitY : kY.init = .initialized := Cond.initialized_spec (findClass_of_methodNamed hn) hkY h3
  have h : At U g.method c below := by rw [hg]; exact X.here
  have hlocals9 : W9 + (maxL + 11) + (headSpec ws rm).room.locals ≤ R.locals := hlocals
  have happ : (headSpec ws rm).appliesLoose y e.platform (U.calling g mk a) = true :=
    Spec.appliesLoose_calling (g := g) h hdg hn hkY hinitY
      (X.room_calling (g := g) (R' := (headSpec ws rm).room) hsize hmY hcY hframes (by rw [hlY]; omega) h4 h5) h1
  obtain ⟨mid, hmid⟩ := h.above
  have hfr : (U.setTop g).frames = (.java g :: mid) ++ below := by rw [State.frames_setTop' g h.top, hmid]; rfl
  obtain ⟨o, s₂, hsteps, -, hend, hq⟩ := Steps.callFree hM p X.admits X.cas X.clock (acts := []) hfr happ hPc trivial
  have hq' : vx_Q Qc XC mc ms free a (U.calling g mk a) o s₂ := hq
  rw [State.frames_setTop' g h.top] at hend
  obtain ⟨g₀, hg0⟩ := Option.isSome_iff_exists.mp h.top
  obtain ⟨r, hr⟩ := State.topJava?_eq_some.mp hg0
  have hr' : (({ U with heap := s₂.heap, slotsUsed := s₂.slotsUsed } : State).setVm s₂.vm).frames = .java g₀ :: r := hr
  rcases hq' with ⟨hqc, L, hfe, hL⟩ | ⟨q, rfl, E, ce, L, hx, hce, hcv, hcl, hW₂, hsm, hL⟩
  · obtain ⟨⟨v, rfl⟩, hW₂, e2, q2, q3, q4, q5, q6⟩ := id hfe
    have e3 : s₂ = ({ (U.calling g mk a).setFrames s₂.frames with heap := s₂.heap, slotsUsed := s₂.slotsUsed } : State).setVm s₂.vm := by
      have : s₂ = ({ s₂ with vm := (U.calling g mk a).vm } : State).setVm s₂.vm := rfl
      rw [e2] at this
      exact this
    obtain ⟨c₂, i₂, len₂, hc₂, hd₂, hf₂⟩ := hend
    have hW' : U.WarmedH s₂.vm := hW₂
    have hcc : c₂ = c := by
      have h1 : s₂.code? g.method = U.code? g.method := by
        rw [State.code?_eq, State.code?_eq, hW'.alike.method?]
      exact Option.some.inj (hc₂.symm.trans (h1.trans h.code))
    subst hcc
    have hlen : len₂ = len := by rw [hdg] at hd₂; cases hd₂; rfl
    subst hlen
    have hs₂ : s₂ = (({ U with heap := s₂.heap, slotsUsed := s₂.slotsUsed } : State).setVm s₂.vm).setTop { g with pc := g.pc + len₂, stack := v.toList ++ g.stack } := by
      refine e3.trans ?_
      rw [hf₂, State.calling_eq h.top, State.setFrames_setFrames, State.setTop_of_frames _ hr', hr]
      rfl
    have hsame : U.sameButNew ({ U with heap := s₂.heap, slotsUsed := s₂.slotsUsed } : State) L mc ms := by
      refine ⟨?_, q2, q3, q4, q5, q6⟩
      obtain ⟨t, ht, -⟩ := State.frames_cons hr
      show ({ U with heap := s₂.heap, slotsUsed := s₂.slotsUsed } : State) = { U.setFrames U.frames with heap := s₂.heap, slotsUsed := s₂.slotsUsed }
      rw [State.setFrames_self ht]
    subst hg
    refine Or.inl ⟨v, ⟨(({ U with heap := s₂.heap, slotsUsed := s₂.slotsUsed } : State).setVm s₂.vm), Ls ++ L, c0 + mc, s0 + ms⟩,
      ⟨X.admits, X.cas, X.clock, X.frames, X.room, X.hears, X.method, X.code, (X.here.setHeapUsed s₂.heap s₂.slotsUsed).setVm hW'.alike, X.tail, State.WarmedH.trans X.warmed hW', X.limits, X.bytes, X.same.trans (hsame.setVm s.vm)⟩,
      ⟨g, mk, s₂, L, rfl, rfl, hqc, rfl, hL, rfl, rfl⟩, ?_⟩
    show Steps p.tables e below _ ((({ U with heap := s₂.heap, slotsUsed := s₂.slotsUsed } : State).setVm s₂.vm).setTop { g with pc := g.pc + len₂, stack := v.toList ++ g.stack })
    rw [← hs₂]
    exact hsteps
  · obtain ⟨e2, q2, q3, q4, q5, q6⟩ := id hsm
    have e3 : s₂ = ({ (U.calling g mk a).setFrames s₂.frames with heap := s₂.heap, slotsUsed := s₂.slotsUsed } : State).setVm s₂.vm := by
      have : s₂ = ({ s₂ with vm := (U.calling g mk a).vm } : State).setVm s₂.vm := rfl
      rw [e2] at this
      exact this
    have hf₂ : s₂.frames = .throwing q :: .java g :: U.frames.tail := hend
    have hW' : U.WarmedH s₂.vm := hW₂
    have hs₂ : s₂ = ((({ U with heap := s₂.heap, slotsUsed := s₂.slotsUsed } : State).setVm s₂.vm).setTop g).pushFrame (.throwing q) := by
      refine e3.trans ?_
      rw [hf₂, State.calling_eq h.top, State.setFrames_setFrames, State.pushFrame, State.frames_setTop _ hr', State.setTop_of_frames _ hr', State.setFrames_setFrames, hr]
      rfl
    have hsame : U.sameButNew ({ U with heap := s₂.heap, slotsUsed := s₂.slotsUsed } : State) L mc ms := by
      refine ⟨?_, q2, q3, q4, q5, q6⟩
      obtain ⟨t, ht, -⟩ := State.frames_cons hr
      show ({ U with heap := s₂.heap, slotsUsed := s₂.slotsUsed } : State) = { U.setFrames U.frames with heap := s₂.heap, slotsUsed := s₂.slotsUsed }
      rw [State.setFrames_self ht]
    subst hg
    refine Or.inr ⟨q, ⟨(({ U with heap := s₂.heap, slotsUsed := s₂.slotsUsed } : State).setVm s₂.vm), Ls ++ L, c0 + mc, s0 + ms⟩,
      ⟨X.admits, X.cas, X.clock, X.frames, X.room, X.hears, X.method, X.code, (X.here.setHeapUsed s₂.heap s₂.slotsUsed).setVm hW'.alike, X.tail, State.WarmedH.trans X.warmed hW', X.limits, X.bytes, X.same.trans (hsame.setVm s.vm)⟩,
      ⟨g, mk, s₂, L, E, ce, rfl, rfl, hx, hce, hcv, hcl, rfl, hL, rfl, rfl⟩, ?_⟩
    show Steps p.tables e below _ (((({ U with heap := s₂.heap, slotsUsed := s₂.slotsUsed } : State).setVm s₂.vm).setTop g).pushFrame (.throwing q))
    rw [← hs₂]
    exact hsteps
end Payer
section Calls
variable {p : Program} {l : Launch} {e : Env} {R : Room} {s : State} {m : MethodId} {args : Array Value} {below : List Frame} {meth : Method} {c : Code} {T : State} {locs : List Loc} {cells slots : Nat}
theorem vx_callV (X : Stand p l e R s m args below meth c T locs cells slots) (hexec : p.tables.exec = Jvm.exec) {own C : String} {index : Nat} {y : MethodName} {bytes : ByteArray} {maxL : Nat} {ret : Option FieldType}
    (hown : s.vm.findClass own = some m.cls) (hlink : (Cond.methodLink own index y).before args s = true) (hinst : (Cond.instanceMethod y).before args s = true) (hsel : (Cond.selects C y y).before args s = true)
    (hcode : (Cond.code y bytes maxL ret).before args s = true) (hy : y.cls ≠ "java/lang/invoke/MethodHandle" ∧ y.cls ≠ "java/lang/invoke/VarHandle")
    {W9 : Nat} {Pre : Pt → Array Value → Prop} {Post : Pt → Array Value → Option Value → Pt → Prop} {PostX : Pt → Array Value → Addr → Pt → Prop} (hK : vx_Back l R p e below s args y 3 W9 Pre Post PostX)
    {b : Addr} {cellB : Cell} (hcell : T.heap[b]? = some cellB) (hobj : cellB.vm.isStatics = false) (hcls : s.vm.findClass C = some cellB.cls)
    {g : JFrame} (hg : g.method = m) (hsize : g.locals.size = c.maxLocals) {argsL rest : List Value} (hlen : ∀ sig, parseMethodDescriptor y.desc = some sig → argsL.length = sig.parameters.length)
    (hstack : g.stack = argsL.reverse ++ .ref b :: rest) (hW : 2 * g.monitorRoom + (rest.map fun v => v.category).sum ≤ W9) (hdg : decode c.code g.pc = .ok (.invokevirtual index, 3))
    (hpre : ∀ vm₁, s.WarmedH vm₁ → Pre ⟨T.setVm vm₁, locs, cells, slots⟩ (Value.ref b :: argsL).toArray) :
    (∃ (v : Option Value) (vm₁ : Vm) (B : Pt), s.WarmedH vm₁ ∧ Stand p l e R s m args below meth c B.U B.locs B.cells B.slots ∧ Post ⟨T.setVm vm₁, locs, cells, slots⟩ (Value.ref b :: argsL).toArray v B ∧
      ∀ target, Steps p.tables e below (B.U.setTop { g with pc := g.pc + 3, stack := v.toList ++ rest }) target → Steps p.tables e below (T.setTop g) target) ∨
    (∃ (q : Addr) (vm₁ : Vm) (B : Pt), s.WarmedH vm₁ ∧ Stand p l e R s m args below meth c B.U B.locs B.cells B.slots ∧ PostX ⟨T.setVm vm₁, locs, cells, slots⟩ (Value.ref b :: argsL).toArray q B ∧
      Steps p.tables e below (T.setTop g) ((B.U.setTop { g with stack := rest }).pushFrame (.throwing q))) := by
  obtain ⟨mk, methM, hnamed, hmethM, hstM, habM⟩ := Cond.instanceMethod_spec hinst
  obtain ⟨methM', cM, hmethM', -, -, -, -, -, -, hsigM⟩ := Cond.code_spec hnamed hcode
  cases hmethM.symm.trans hmethM'
  obtain ⟨c2, r2, m2, q1, q2, q3, q4, kP, hkP, hkPi⟩ := Cond.selects_spec hsel
  cases hcls.symm.trans q1
  cases (State.methodFound?_of_named hnamed hy).symm.trans q2
  cases hnamed.symm.trans q3
  have hselP : selectMethod e.platform s.vm cellB.cls mk = .method mk := by rw [Launch.admits_selectMethod X.admits]; exact q4
  obtain ⟨vm₁, X₁, hstep₁⟩ := X.invokevirtual hexec hown hlink hnamed hmethM hstM hkP hkPi hy (a := b) (cell := cellB) hcell
    (fun z h => by rw [h] at hobj; cases hobj) hselP hmethM habM hkP hkPi (g := g) hg (argsL := argsL) (rest := rest) (hlen _ hsigM) hstack hdg
  rcases hK m meth c ⟨T.setVm vm₁, locs, cells, slots⟩ { g with stack := rest } (.invokevirtual index) mk (Value.ref b :: argsL).toArray X₁ hg hsize hdg hW (X₁.named hnamed) (hpre vm₁ X₁.warmed) with ⟨v, B, X', hpost, hsteps⟩ | ⟨q, B, X', hpost, hsteps⟩
  · exact Or.inl ⟨v, vm₁, B, X₁.warmed, X', hpost, fun target h => hstep₁ _ fun acts => by rw [doInvoke_state]; exact hsteps.trans h⟩
  · exact Or.inr ⟨q, vm₁, B, X₁.warmed, X', hpost, hstep₁ _ fun acts => by rw [doInvoke_state]; exact hsteps⟩
theorem vx_callS (X : Stand p l e R s m args below meth c T locs cells slots) (hexec : p.tables.exec = Jvm.exec) {own : String} {index : Nat} {y : MethodName} {bytes : ByteArray} {maxL : Nat} {ret : Option FieldType}
    (hown : s.vm.findClass own = some m.cls) (hlink : (Cond.methodLink own index y).before args s = true) (hstat : (Cond.static y).before args s = true) (hinit : (Cond.initialized y.cls).before args s = true)
    (hcode : (Cond.code y bytes maxL ret).before args s = true) (hy : y.cls ≠ "java/lang/invoke/MethodHandle" ∧ y.cls ≠ "java/lang/invoke/VarHandle")
    {W9 : Nat} {Pre : Pt → Array Value → Prop} {Post : Pt → Array Value → Option Value → Pt → Prop} {PostX : Pt → Array Value → Addr → Pt → Prop} (hK : vx_Back l R p e below s args y 3 W9 Pre Post PostX)
    {g : JFrame} (hg : g.method = m) (hsize : g.locals.size = c.maxLocals) {argsL rest : List Value} (hlen : ∀ sig, parseMethodDescriptor y.desc = some sig → argsL.length = sig.parameters.length)
    (hstack : g.stack = argsL.reverse ++ rest) (hW : 2 * g.monitorRoom + (rest.map fun v => v.category).sum ≤ W9) (hdg : decode c.code g.pc = .ok (.invokestatic index, 3))
    (hpre : ∀ vm₁, s.WarmedH vm₁ → Pre ⟨T.setVm vm₁, locs, cells, slots⟩ argsL.toArray) :
    (∃ (v : Option Value) (vm₁ : Vm) (B : Pt), s.WarmedH vm₁ ∧ Stand p l e R s m args below meth c B.U B.locs B.cells B.slots ∧ Post ⟨T.setVm vm₁, locs, cells, slots⟩ argsL.toArray v B ∧
      ∀ target, Steps p.tables e below (B.U.setTop { g with pc := g.pc + 3, stack := v.toList ++ rest }) target → Steps p.tables e below (T.setTop g) target) ∨
    (∃ (q : Addr) (vm₁ : Vm) (B : Pt), s.WarmedH vm₁ ∧ Stand p l e R s m args below meth c B.U B.locs B.cells B.slots ∧ PostX ⟨T.setVm vm₁, locs, cells, slots⟩ argsL.toArray q B ∧
      Steps p.tables e below (T.setTop g) ((B.U.setTop { g with stack := rest }).pushFrame (.throwing q))) := by
  obtain ⟨mk, hnamed⟩ := Cond.code_named hcode
  obtain ⟨methM, cM, hmethM, -, -, -, -, -, -, hsigM⟩ := Cond.code_spec hnamed hcode
  have hstatic : methM.isStatic = true := Cond.static_spec hnamed hmethM hstat
  obtain ⟨kP, hkP, -⟩ := className_of_methodNamed hnamed
  have hinitP : kP.init = .initialized := Cond.initialized_spec (findClass_of_methodNamed hnamed) hkP hinit
  obtain ⟨vm₁, X₁, hstep₁⟩ := X.invokestatic hexec hown hlink hnamed hmethM hstatic hkP hinitP hy (g := g) hg (argsL := argsL) (rest := rest) (hlen _ hsigM) hstack hdg
  rcases hK m meth c ⟨T.setVm vm₁, locs, cells, slots⟩ { g with stack := rest } (.invokestatic index) mk argsL.toArray X₁ hg hsize hdg hW (X₁.named hnamed) (hpre vm₁ X₁.warmed) with ⟨v, B, X', hpost, hsteps⟩ | ⟨q, B, X', hpost, hsteps⟩
  · exact Or.inl ⟨v, vm₁, B, X₁.warmed, X', hpost, fun target h => hstep₁ _ fun acts => by rw [doInvoke_state]; exact hsteps.trans h⟩
  · exact Or.inr ⟨q, vm₁, B, X₁.warmed, X', hpost, hstep₁ _ fun acts => by rw [doInvoke_state]; exact hsteps⟩
end Calls
theorem vx_cls {s : State} {T : State} {vm₁ : Vm} {E : String} {k : ClassId} (hW : s.WarmedH vm₁) (h : (T.setVm vm₁).vm.findClass E = some k) : s.vm.findClass E = some k := by
  have h1 : vm₁.findClass E = some k := h
  rw [hW.alike.findClass] at h1
  exact h1

def vx_W (p : Program) (l : Launch) (e : Env) (R : Room) (s : State) (m : MethodId) (args : Array Value) (below : List Frame) (meth : Method) (c : Code) (H : Heap) (locs : List Loc) (cells slots : Nat) (Q : State → Prop) (g : JFrame) (q : Addr) : Prop :=
  ∀ T : State, T.heap = H → Stand p l e R s m args below meth c T locs cells slots → ∃ t, Steps p.tables e below ((T.setTop g).pushFrame (.throwing q)) t ∧ Q t
def vx_Run (p : Program) (l : Launch) (e : Env) (R : Room) (s : State) (m : MethodId) (args : Array Value) (below : List Frame) (meth : Method) (c : Code) (H : Heap) (locs : List Loc) (cells slots mc ms : Nat) (g : JFrame) (rest : List Value) (Qa : State → Outcome → State → Prop) (XC : String → State → State → Prop) (free : Addr → Prop) : Prop :=
  ∀ T : State, T.heap = H → Stand p l e R s m args below meth c T locs cells slots →
    (∃ (v : Option Value) (st₀ t T' : State) (L : List Loc), st₀.heap = H ∧ Stand p l e R s m args below meth c T' (locs ++ L) (cells + mc) (slots + ms) ∧ (∀ q ∈ L, free q.base) ∧ T'.heap = t.heap ∧ T'.vm = t.vm ∧ Qa st₀ (.returned v) t ∧
      Goes p e below T g T' { g with pc := g.pc + 3, stack := v.toList ++ rest }) ∨
    (∃ (q : Addr) (st₀ t T' : State) (L : List Loc) (E : String) (ce : Cell), st₀.heap = H ∧ Stand p l e R s m args below meth c T' (locs ++ L) (cells + mc) (slots + ms) ∧ (∀ z ∈ L, free z.base) ∧ T'.heap = t.heap ∧ T'.vm = t.vm ∧ XC E st₀ t ∧ t.heap[q]? = some ce ∧ ce.vm = .none ∧ s.vm.findClass E = some ce.cls ∧
      Steps p.tables e below (T.setTop g) ((T'.setTop { g with stack := rest }).pushFrame (.throwing q)))
def vx_X {S : Type} (px : S → Prop) (B : String → S → State → Prop) (A : Nat → Prop) : String → State → State → Prop := fun E st t => ∃ u : S, px u ∧ B E u t ∧ va_F A st t
section Runs
variable {p : Program} {l : Launch} {e : Env} {R : Room} {s : State} {m : MethodId} {args : Array Value} {below : List Frame} {meth : Method} {c : Code} {H : Heap} {locs : List Loc} {cells slots : Nat}
variable {y : MethodName} {bytes cc : ByteArray} {maxL nL mc ms n index : Nat} {ret : Option FieldType} {ws : List Cond} {rm : Room} {Pc : Array Value → State → Prop} {Qc : Array Value → State → Outcome → State → Prop} {XC : String → State → State → Prop} {free : Addr → Prop} {Ts : List Cond} {own C : String} {b : Addr} {As rest : List Value} {g : JFrame}
theorem vx_callBack (cb : CallB R s args own index y bytes maxL ret ws rm mc ms n) (hM : vx_Met l y ws rm Pc Qc XC mc ms free) (hbl : FrameBlind Pc) : vx_Back l R p e below s args y 3 8 (PreOf R mc ms Pc) (PostOf Qc mc ms free) (vx_Post XC mc ms free) := by
  obtain ⟨hrc, hrs, hfr, hlo, hws, hcw, -, hini, -⟩ := cb
  exact vx_back (bytes := bytes) (maxL := maxL) (ret := ret) hM hbl hrc hrs hfr hlo hws hcw (fun a' U hW => word_at hW (Or.inl (by first | rfl | simp [Cond.onTables, Cond.keeps, Cond.steady])) hini)
theorem vx_runV (S : CallFix p m c cc nL s args Ts own) (hM : vx_Met l y ws rm Pc Qc XC mc ms free) (cw : CallW R s args own C index y bytes maxL ret ws rm mc ms n) (hp : PreV s H C b Pc As)
    (hg : g.method = m) (hn : As.length = n) (hsize : g.locals.size = nL) (hstack : g.stack = As.reverse ++ .ref b :: rest) (hW : 2 * g.monitorRoom + (rest.map fun v => v.category).sum ≤ 8) (hdg : decode cc g.pc = .ok (.invokevirtual index, 3)) (hf : cells + mc ≤ R.cells ∧ slots + ms ≤ R.slots) :
    vx_Run p l e R s m args below meth c H locs cells slots mc ms g rest (Qc (Value.ref b :: As).toArray) XC free := by
  have hK : vx_Back l R p e below s args y 3 8 (PreOf R mc ms Pc) (PostOf Qc mc ms free) (vx_Post XC mc ms free) := vx_callBack cw.1 hM hp.1
  obtain ⟨⟨-, -, -, -, -, -, hcode, -, hy, hlen, hl⟩, hin, hse⟩ := cw
  obtain ⟨hx, hb, hml, ho, -⟩ := S
  obtain ⟨-, ⟨cellB, hcB, hoB, hclB⟩, hPc⟩ := hp
  intro T hT X
  rcases vx_callV X hx (C := C) (bytes := bytes) (maxL := maxL) (ret := ret) ho hl hin hse hcode hy hK (by rw [hT]; exact hcB) hoB hclB hg (hsize.trans hml.symm) (argsL := As) (rest := rest) (fun sig h => hn.trans (hlen sig h)) hstack hW (by rw [hb]; exact hdg)
    (fun vm₁ hW₁ => ⟨hf.1, hf.2, hPc (T.setVm vm₁) hT hW₁⟩) with ⟨v, vm₁, ⟨U', l2, c2, s2⟩, hW₁, X', ⟨g', mk, t, L, e1, e2, hq, h1, hL, h2, h3⟩, st⟩ | ⟨q, vm₁, ⟨U', l2, c2, s2⟩, hW₁, X', ⟨g', mk, t, L, E, ce, e1, e2, hq, hce, hcv, hcl, h1, hL, h2, h3⟩, st⟩
  · dsimp only [Pt.U, Pt.locs, Pt.cells, Pt.slots] at X' e1 e2 h1 h2 h3 st
    subst h1; subst h2; subst h3
    exact Or.inl ⟨v, (T.setVm vm₁).calling g' mk (Value.ref b :: As).toArray, t, U', L, hT, X', hL, e1, e2, hq, st⟩
  · dsimp only [Pt.U, Pt.locs, Pt.cells, Pt.slots] at X' e1 e2 h1 h2 h3 st hcl
    subst h1; subst h2; subst h3
    exact Or.inr ⟨q, (T.setVm vm₁).calling g' mk (Value.ref b :: As).toArray, t, U', L, E, ce, hT, X', hL, e1, e2, hq, hce, hcv, vx_cls hW₁ hcl, st⟩
theorem vx_runS (S : CallFix p m c cc nL s args Ts own) (hM : vx_Met l y ws rm Pc Qc XC mc ms free) (cw : CallB R s args own index y bytes maxL ret ws rm mc ms n ∧ (Cond.static y).before args s = true) (hp : PreS s H Pc As)
    (hg : g.method = m) (hn : As.length = n) (hsize : g.locals.size = nL) (hstack : g.stack = As.reverse ++ rest) (hW : 2 * g.monitorRoom + (rest.map fun v => v.category).sum ≤ 8) (hdg : decode cc g.pc = .ok (.invokestatic index, 3)) (hf : cells + mc ≤ R.cells ∧ slots + ms ≤ R.slots) :
    vx_Run p l e R s m args below meth c H locs cells slots mc ms g rest (Qc As.toArray) XC free := by
  have hK : vx_Back l R p e below s args y 3 8 (PreOf R mc ms Pc) (PostOf Qc mc ms free) (vx_Post XC mc ms free) := vx_callBack cw.1 hM hp.1
  obtain ⟨⟨-, -, -, -, -, -, hcode, hini, hy, hlen, hl⟩, hstt⟩ := cw
  obtain ⟨hx, hb, hml, ho, -⟩ := S
  intro T hT X
  rcases vx_callS X hx (bytes := bytes) (maxL := maxL) (ret := ret) ho hl hstt hini hcode hy hK hg (hsize.trans hml.symm) (argsL := As) (rest := rest) (fun sig h => hn.trans (hlen sig h)) hstack hW (by rw [hb]; exact hdg)
    (fun vm₁ hW₁ => ⟨hf.1, hf.2, hp.2 (T.setVm vm₁) hT hW₁⟩) with ⟨v, vm₁, ⟨U', l2, c2, s2⟩, hW₁, X', ⟨g', mk, t, L, e1, e2, hq, h1, hL, h2, h3⟩, st⟩ | ⟨q, vm₁, ⟨U', l2, c2, s2⟩, hW₁, X', ⟨g', mk, t, L, E, ce, e1, e2, hq, hce, hcv, hcl, h1, hL, h2, h3⟩, st⟩
  · dsimp only [Pt.U, Pt.locs, Pt.cells, Pt.slots] at X' e1 e2 h1 h2 h3 st
    subst h1; subst h2; subst h3
    exact Or.inl ⟨v, (T.setVm vm₁).calling g' mk As.toArray, t, U', L, hT, X', hL, e1, e2, hq, st⟩
  · dsimp only [Pt.U, Pt.locs, Pt.cells, Pt.slots] at X' e1 e2 h1 h2 h3 st hcl
    subst h1; subst h2; subst h3
    exact Or.inr ⟨q, (T.setVm vm₁).calling g' mk As.toArray, t, U', L, E, ce, hT, X', hL, e1, e2, hq, hce, hcv, vx_cls hW₁ hcl, st⟩
end Runs
section Rows
variable {p : Program} {l : Launch} {e : Env} {R : Room} {s : State} {m : MethodId} {args : Array Value} {below : List Frame} {meth : Method} {c : Code} {H : Heap} {locs : List Loc} {cells slots : Nat} {Q : State → Prop}
variable {mc ms : Nat} {free : Addr → Prop} {A0 A1 : Nat → Prop} {H0 : Heap} {a : Array Value} {pc : Nat} {ls : Array Slot} {st0 rest : List Value}
theorem vx_keep {st₀ t T' : State} {L : List Loc} (h0 : st₀.heap = H) (e1 : T'.heap = t.heap) (hS : va_S A0 H0 H locs) (hA : ∀ q, q < H.size → A1 q → A0 q) (hf : ∀ q, free q → A0 q) (hL : ∀ q ∈ L, free q.base) (hF : va_F A1 st₀ t) :
    H.size ≤ T'.heap.size ∧ (∀ q : Nat, q < H.size → ¬ A1 q → T'.heap[q]? = H[q]?) ∧ va_S A0 H0 T'.heap (locs ++ L) := by
  obtain ⟨hz, hk⟩ := hF
  rw [h0] at hz hk
  exact ⟨by rw [e1]; exact hz, fun q h1 h2 => by rw [e1]; exact hk q h1 h2,
    ⟨Nat.le_trans hS.1 (by rw [e1]; exact hz), fun q h1 h2 => by rw [e1, hk q (Nat.lt_of_lt_of_le h1 hS.1) (fun z => h2 (hA q (Nat.lt_of_lt_of_le h1 hS.1) z))]; exact hS.2.1 q h1 h2, fun q hq => by
      rcases List.mem_append.mp hq with h | h
      · exact hS.2.2 q h
      · exact hf _ (hL q h)⟩⟩
theorem vx_calli {S SX : Type} {post : Int32 → S → Prop} {px : SX → Prop} {B : S → State → Prop} {BX : String → SX → State → Prop} {AX : Nat → Prop} (hr : vx_Run p l e R s m args below meth c H locs cells slots mc ms (F0 m pc ls st0) rest (va_Qi post B A1 a) (vx_X px BX AX) free) (hS : va_S A0 H0 H locs) (hA : ∀ q, q < H.size → A1 q → A0 q) (hf : ∀ q, free q → A0 q) (hAX : ∀ q, q < H.size → AX q → A0 q)
    (kx : ∀ (E : String) (ce : Cell) (q9 : Addr) (u : SX) (t : State) (H1 : Heap) (locs1 : List Loc), t.heap = H1 → s.vm.Alike t.vm → px u → BX E u t → H.size ≤ H1.size → (∀ q : Nat, q < H.size → ¬ AX q → H1[q]? = H[q]?) → va_S A0 H0 H1 locs1 → H1[q9]? = some ce → ce.vm = .none → s.vm.findClass E = some ce.cls → vx_W p l e R s m args below meth c H1 locs1 (cells + mc) (slots + ms) Q (F0 m pc ls rest) q9)
    (kk : ∀ (r : Int32) (u : S) (t : State) (H1 : Heap) (locs1 : List Loc), t.heap = H1 → s.vm.Alike t.vm → post r u → B u t → H.size ≤ H1.size → (∀ q : Nat, q < H.size → ¬ A1 q → H1[q]? = H[q]?) → va_S A0 H0 H1 locs1 → W p l e R s m args below meth c H1 locs1 (cells + mc) (slots + ms) Q (F0 m (pc + 3) ls (.int r :: rest))) : W p l e R s m args below meth c H locs cells slots Q (F0 m pc ls st0) := by
  intro T hT X
  rcases hr T hT X with ⟨v, st₀, t, T', L, h0, X', hL, e1, e2, ⟨⟨r, u, hv, hp, hb⟩, hF⟩, st⟩ | ⟨q, st₀, t, T', L, E, ce, h0, X', hL, e1, e2, ⟨u, hp, hb, hF⟩, hce, hcv, hcl, st⟩
  · cases hv
    obtain ⟨k1, k2, k3⟩ := vx_keep h0 e1 hS hA hf hL hF
    obtain ⟨t2, a1, b1⟩ := kk r u t T'.heap (locs ++ L) e1.symm (by rw [← e2]; exact X'.warmed.alike) hp hb k1 k2 k3 T' rfl X'
    exact ⟨t2, st t2 a1, b1⟩
  · obtain ⟨k1, k2, k3⟩ := vx_keep h0 e1 hS hAX hf hL hF
    obtain ⟨t2, a1, b1⟩ := kx E ce q u t T'.heap (locs ++ L) e1.symm (by rw [← e2]; exact X'.warmed.alike) hp hb k1 k2 k3 (by rw [e1]; exact hce) hcv hcl T' rfl X'
    exact ⟨t2, st.trans a1, b1⟩
theorem vx_calll {S SX : Type} {post : Int64 → S → Prop} {px : SX → Prop} {B : S → State → Prop} {BX : String → SX → State → Prop} {AX : Nat → Prop} (hr : vx_Run p l e R s m args below meth c H locs cells slots mc ms (F0 m pc ls st0) rest (va_Ql post B A1 a) (vx_X px BX AX) free) (hS : va_S A0 H0 H locs) (hA : ∀ q, q < H.size → A1 q → A0 q) (hf : ∀ q, free q → A0 q) (hAX : ∀ q, q < H.size → AX q → A0 q)
    (kx : ∀ (E : String) (ce : Cell) (q9 : Addr) (u : SX) (t : State) (H1 : Heap) (locs1 : List Loc), t.heap = H1 → s.vm.Alike t.vm → px u → BX E u t → H.size ≤ H1.size → (∀ q : Nat, q < H.size → ¬ AX q → H1[q]? = H[q]?) → va_S A0 H0 H1 locs1 → H1[q9]? = some ce → ce.vm = .none → s.vm.findClass E = some ce.cls → vx_W p l e R s m args below meth c H1 locs1 (cells + mc) (slots + ms) Q (F0 m pc ls rest) q9)
    (kk : ∀ (r : Int64) (u : S) (t : State) (H1 : Heap) (locs1 : List Loc), t.heap = H1 → s.vm.Alike t.vm → post r u → B u t → H.size ≤ H1.size → (∀ q : Nat, q < H.size → ¬ A1 q → H1[q]? = H[q]?) → va_S A0 H0 H1 locs1 → W p l e R s m args below meth c H1 locs1 (cells + mc) (slots + ms) Q (F0 m (pc + 3) ls (.long r :: rest))) : W p l e R s m args below meth c H locs cells slots Q (F0 m pc ls st0) := by
  intro T hT X
  rcases hr T hT X with ⟨v, st₀, t, T', L, h0, X', hL, e1, e2, ⟨⟨r, u, hv, hp, hb⟩, hF⟩, st⟩ | ⟨q, st₀, t, T', L, E, ce, h0, X', hL, e1, e2, ⟨u, hp, hb, hF⟩, hce, hcv, hcl, st⟩
  · cases hv
    obtain ⟨k1, k2, k3⟩ := vx_keep h0 e1 hS hA hf hL hF
    obtain ⟨t2, a1, b1⟩ := kk r u t T'.heap (locs ++ L) e1.symm (by rw [← e2]; exact X'.warmed.alike) hp hb k1 k2 k3 T' rfl X'
    exact ⟨t2, st t2 a1, b1⟩
  · obtain ⟨k1, k2, k3⟩ := vx_keep h0 e1 hS hAX hf hL hF
    obtain ⟨t2, a1, b1⟩ := kx E ce q u t T'.heap (locs ++ L) e1.symm (by rw [← e2]; exact X'.warmed.alike) hp hb k1 k2 k3 (by rw [e1]; exact hce) hcv hcl T' rfl X'
    exact ⟨t2, st.trans a1, b1⟩
theorem vx_callf {S SX : Type} {post : UInt32 → S → Prop} {px : SX → Prop} {B : S → State → Prop} {BX : String → SX → State → Prop} {AX : Nat → Prop} (hr : vx_Run p l e R s m args below meth c H locs cells slots mc ms (F0 m pc ls st0) rest (va_Qf post B A1 a) (vx_X px BX AX) free) (hS : va_S A0 H0 H locs) (hA : ∀ q, q < H.size → A1 q → A0 q) (hf : ∀ q, free q → A0 q) (hAX : ∀ q, q < H.size → AX q → A0 q)
    (kx : ∀ (E : String) (ce : Cell) (q9 : Addr) (u : SX) (t : State) (H1 : Heap) (locs1 : List Loc), t.heap = H1 → s.vm.Alike t.vm → px u → BX E u t → H.size ≤ H1.size → (∀ q : Nat, q < H.size → ¬ AX q → H1[q]? = H[q]?) → va_S A0 H0 H1 locs1 → H1[q9]? = some ce → ce.vm = .none → s.vm.findClass E = some ce.cls → vx_W p l e R s m args below meth c H1 locs1 (cells + mc) (slots + ms) Q (F0 m pc ls rest) q9)
    (kk : ∀ (r : UInt32) (u : S) (t : State) (H1 : Heap) (locs1 : List Loc), t.heap = H1 → s.vm.Alike t.vm → post r u → B u t → H.size ≤ H1.size → (∀ q : Nat, q < H.size → ¬ A1 q → H1[q]? = H[q]?) → va_S A0 H0 H1 locs1 → W p l e R s m args below meth c H1 locs1 (cells + mc) (slots + ms) Q (F0 m (pc + 3) ls (.float r :: rest))) : W p l e R s m args below meth c H locs cells slots Q (F0 m pc ls st0) := by
  intro T hT X
  rcases hr T hT X with ⟨v, st₀, t, T', L, h0, X', hL, e1, e2, ⟨⟨r, u, hv, hp, hb⟩, hF⟩, st⟩ | ⟨q, st₀, t, T', L, E, ce, h0, X', hL, e1, e2, ⟨u, hp, hb, hF⟩, hce, hcv, hcl, st⟩
  · cases hv
    obtain ⟨k1, k2, k3⟩ := vx_keep h0 e1 hS hA hf hL hF
    obtain ⟨t2, a1, b1⟩ := kk r u t T'.heap (locs ++ L) e1.symm (by rw [← e2]; exact X'.warmed.alike) hp hb k1 k2 k3 T' rfl X'
    exact ⟨t2, st t2 a1, b1⟩
  · obtain ⟨k1, k2, k3⟩ := vx_keep h0 e1 hS hAX hf hL hF
    obtain ⟨t2, a1, b1⟩ := kx E ce q u t T'.heap (locs ++ L) e1.symm (by rw [← e2]; exact X'.warmed.alike) hp hb k1 k2 k3 (by rw [e1]; exact hce) hcv hcl T' rfl X'
    exact ⟨t2, st.trans a1, b1⟩
theorem vx_calld {S SX : Type} {post : UInt64 → S → Prop} {px : SX → Prop} {B : S → State → Prop} {BX : String → SX → State → Prop} {AX : Nat → Prop} (hr : vx_Run p l e R s m args below meth c H locs cells slots mc ms (F0 m pc ls st0) rest (va_Qd post B A1 a) (vx_X px BX AX) free) (hS : va_S A0 H0 H locs) (hA : ∀ q, q < H.size → A1 q → A0 q) (hf : ∀ q, free q → A0 q) (hAX : ∀ q, q < H.size → AX q → A0 q)
    (kx : ∀ (E : String) (ce : Cell) (q9 : Addr) (u : SX) (t : State) (H1 : Heap) (locs1 : List Loc), t.heap = H1 → s.vm.Alike t.vm → px u → BX E u t → H.size ≤ H1.size → (∀ q : Nat, q < H.size → ¬ AX q → H1[q]? = H[q]?) → va_S A0 H0 H1 locs1 → H1[q9]? = some ce → ce.vm = .none → s.vm.findClass E = some ce.cls → vx_W p l e R s m args below meth c H1 locs1 (cells + mc) (slots + ms) Q (F0 m pc ls rest) q9)
    (kk : ∀ (r : UInt64) (u : S) (t : State) (H1 : Heap) (locs1 : List Loc), t.heap = H1 → s.vm.Alike t.vm → post r u → B u t → H.size ≤ H1.size → (∀ q : Nat, q < H.size → ¬ A1 q → H1[q]? = H[q]?) → va_S A0 H0 H1 locs1 → W p l e R s m args below meth c H1 locs1 (cells + mc) (slots + ms) Q (F0 m (pc + 3) ls (.double r :: rest))) : W p l e R s m args below meth c H locs cells slots Q (F0 m pc ls st0) := by
  intro T hT X
  rcases hr T hT X with ⟨v, st₀, t, T', L, h0, X', hL, e1, e2, ⟨⟨r, u, hv, hp, hb⟩, hF⟩, st⟩ | ⟨q, st₀, t, T', L, E, ce, h0, X', hL, e1, e2, ⟨u, hp, hb, hF⟩, hce, hcv, hcl, st⟩
  · cases hv
    obtain ⟨k1, k2, k3⟩ := vx_keep h0 e1 hS hA hf hL hF
    obtain ⟨t2, a1, b1⟩ := kk r u t T'.heap (locs ++ L) e1.symm (by rw [← e2]; exact X'.warmed.alike) hp hb k1 k2 k3 T' rfl X'
    exact ⟨t2, st t2 a1, b1⟩
  · obtain ⟨k1, k2, k3⟩ := vx_keep h0 e1 hS hAX hf hL hF
    obtain ⟨t2, a1, b1⟩ := kx E ce q u t T'.heap (locs ++ L) e1.symm (by rw [← e2]; exact X'.warmed.alike) hp hb k1 k2 k3 (by rw [e1]; exact hce) hcv hcl T' rfl X'
    exact ⟨t2, st.trans a1, b1⟩
theorem vx_callv {S SX : Type} {post : S → Prop} {px : SX → Prop} {B : S → State → Prop} {BX : String → SX → State → Prop} {AX : Nat → Prop} (hr : vx_Run p l e R s m args below meth c H locs cells slots mc ms (F0 m pc ls st0) rest (va_Qv post B A1 a) (vx_X px BX AX) free) (hS : va_S A0 H0 H locs) (hA : ∀ q, q < H.size → A1 q → A0 q) (hf : ∀ q, free q → A0 q) (hAX : ∀ q, q < H.size → AX q → A0 q)
    (kx : ∀ (E : String) (ce : Cell) (q9 : Addr) (u : SX) (t : State) (H1 : Heap) (locs1 : List Loc), t.heap = H1 → s.vm.Alike t.vm → px u → BX E u t → H.size ≤ H1.size → (∀ q : Nat, q < H.size → ¬ AX q → H1[q]? = H[q]?) → va_S A0 H0 H1 locs1 → H1[q9]? = some ce → ce.vm = .none → s.vm.findClass E = some ce.cls → vx_W p l e R s m args below meth c H1 locs1 (cells + mc) (slots + ms) Q (F0 m pc ls rest) q9)
    (kk : ∀ (u : S) (t : State) (H1 : Heap) (locs1 : List Loc), t.heap = H1 → s.vm.Alike t.vm → post u → B u t → H.size ≤ H1.size → (∀ q : Nat, q < H.size → ¬ A1 q → H1[q]? = H[q]?) → va_S A0 H0 H1 locs1 → W p l e R s m args below meth c H1 locs1 (cells + mc) (slots + ms) Q (F0 m (pc + 3) ls (rest))) : W p l e R s m args below meth c H locs cells slots Q (F0 m pc ls st0) := by
  intro T hT X
  rcases hr T hT X with ⟨v, st₀, t, T', L, h0, X', hL, e1, e2, ⟨⟨u, hv, hp, hb⟩, hF⟩, st⟩ | ⟨q, st₀, t, T', L, E, ce, h0, X', hL, e1, e2, ⟨u, hp, hb, hF⟩, hce, hcv, hcl, st⟩
  · cases hv
    obtain ⟨k1, k2, k3⟩ := vx_keep h0 e1 hS hA hf hL hF
    obtain ⟨t2, a1, b1⟩ := kk u t T'.heap (locs ++ L) e1.symm (by rw [← e2]; exact X'.warmed.alike) hp hb k1 k2 k3 T' rfl X'
    exact ⟨t2, st t2 a1, b1⟩
  · obtain ⟨k1, k2, k3⟩ := vx_keep h0 e1 hS hAX hf hL hF
    obtain ⟨t2, a1, b1⟩ := kx E ce q u t T'.heap (locs ++ L) e1.symm (by rw [← e2]; exact X'.warmed.alike) hp hb k1 k2 k3 (by rw [e1]; exact hce) hcv hcl T' rfl X'
    exact ⟨t2, st.trans a1, b1⟩

theorem vx_catch {own name : String} {E : String} {ce : Cell} {q : Addr} (hown : s.vm.findClass own = some m.cls) (pre : List ExceptionTableEntry) (x : ExceptionTableEntry) (suf : List ExceptionTableEntry) (hsplit : c.exceptionTable.toList = pre ++ x :: suf)
    (hpass : ∀ z ∈ pre, covers z pc = false ∨ (z.catchType ≠ 0 ∧ ∃ nm : String, (Cond.classLink own z.catchType nm).before args s = true ∧ va_Nc E nm s)) (hx : covers x pc = true) (h0 : x.catchType ≠ 0)
    (hlink : (Cond.classLink own x.catchType name).before args s = true) (hcast : (Cond.castable E name).before args s = true) (hcell : H[q]? = some ce) (hv : ce.vm = .none) (hcl : s.vm.findClass E = some ce.cls)
    (kk : W p l e R s m args below meth c H locs cells slots Q (F0 m x.handlerPc ls [.ref q])) : vx_W p l e R s m args below meth c H locs cells slots Q (F0 m pc ls rest) q := by
  intro T hT X
  have hpl : e.platform.magicAccessors = ({} : Platform).magicAccessors := by rw [X.admits.platform]
  obtain ⟨c3, c4, hc3, hc4, hasg⟩ := Cond.castable_spec hcast
  cases Option.some.inj (hc3.symm.trans hcl)
  obtain ⟨c5, hc5, hcl5⟩ := Cond.classLink_spec hown hlink e.platform hpl
  cases Option.some.inj (hc4.symm.trans hc5)
  obtain ⟨vm', X', st⟩ := rx_caught X q (g := F0 m pc ls rest) rfl (by rw [hT]; exact hcell) (by rw [hv]; rfl) (by obtain ⟨k9, h9, -⟩ := Vm.findClass_spec hcl; exact ⟨k9, h9⟩) pre x suf hsplit
    (fun z hz => by
      rcases hpass z hz with h | ⟨hz0, nm, hl1, hn1⟩
      · exact Or.inl h
      · obtain ⟨c6, hc6, hcl6⟩ := Cond.classLink_spec hown hl1 e.platform hpl
        obtain ⟨a8, b8, h1, h2, h3⟩ := hn1
        cases Option.some.inj (h1.symm.trans hcl)
        cases Option.some.inj (h2.symm.trans hc6)
        exact Or.inr ⟨hz0, _, hcl6, h3⟩) hx h0 hcl5 hasg
  obtain ⟨t, a1, b1⟩ := kk (T.setVm vm') hT X'
  exact ⟨t, st.trans a1, b1⟩
end Rows
section Ends
variable {p : Program} {l : Launch} {e : Env} {R : Room} {s : State} {m : MethodId} {args : Array Value} {below : List Frame} {meth : Method} {c : Code} {H : Heap} {locs : List Loc} {cells slots : Nat} {Q : State → Prop}
variable {mc ms : Nat} {free : Addr → Prop} {A0 A1 : Nat → Prop} {H0 : Heap} {a : Array Value} {ls : Array Slot} {st0 rest : List Value}
variable {Qc : Array Value → State → Outcome → State → Prop} {XC : String → State → State → Prop}

def vx_MQ (below : List Frame) (Qc : Array Value → State → Outcome → State → Prop) (XC : String → State → State → Prop) (a : Array Value) (s : State) (mc ms : Nat) (free : Addr → Prop) : State → Prop := fun t =>
  ∃ o, t.status = .running ∧ Ended t below o ∧ vx_Q Qc XC mc ms free a s o t
theorem vx_ret {g : JFrame} {mc ms : Nat} (k : W p l e R s m args below meth c H locs cells slots (MQ below Qc args s mc ms free) g) : W p l e R s m args below meth c H locs cells slots (vx_MQ below Qc XC args s mc ms free) g := by
  intro T hT X
  obtain ⟨t, a1, o, b1, b2, b3, b4⟩ := k T hT X
  exact ⟨t, a1, o, b1, b2, Or.inl ⟨b3, b4⟩⟩

theorem vx_widen {g : JFrame} {q : Addr} {k n : Nat} (h1 : cells ≤ k) (h2 : slots ≤ n) (kk : vx_W p l e R s m args below meth c H locs k n Q g q) : vx_W p l e R s m args below meth c H locs cells slots Q g q := fun T hT X => kk T hT (stand_widen X h1 h2)
theorem vx_out {pc : Nat} {E : String} {ce : Cell} {q : Addr} {mc ms : Nat} (hout : ∀ x ∈ c.exceptionTable.toList, covers x pc = false) (hlocks : meth.locks = false) (hcell : H[q]? = some ce) (hv : ce.vm = .none) (hcl : s.vm.findClass E = some ce.cls)
    (hx : ∀ t : State, t.heap = H → s.vm.Alike t.vm → XC E s t) (hf : ∀ z ∈ locs, free z.base) (hc : cells ≤ mc) (hs : slots ≤ ms) :
    vx_W p l e R s m args below meth c H locs cells slots (vx_MQ below Qc XC args s mc ms free) (F0 m pc ls rest) q := by
  intro T hT X
  obtain ⟨st1, hrun, hend, hW, hsm⟩ := X.leaveThrown q (g := F0 m pc ls rest) rfl rfl rfl hout hlocks
  have hcell9 : (T.setFrames (.throwing q :: below)).heap[q]? = some ce := by
    show T.heap[q]? = some ce
    rw [hT]; exact hcell
  exact ⟨_, st1, .threw q, hrun, hend, Or.inr ⟨q, rfl, E, ce, locs, hx _ hT hW.alike, hcell9, hv, hcl, hW, hsm.mono hc hs, hf⟩⟩
theorem vx_frame {U : State} {k n : Nat} (h : s.sameButNew ({ U with vm := s.vm } : State) locs k n) : s.heap.size ≤ U.heap.size ∧ ∀ q : Nat, q < s.heap.size → (∀ z ∈ locs, z.base ≠ q) → U.heap[q]? = s.heap[q]? := by
  obtain ⟨-, h2, -, -, -, h6⟩ := h
  refine ⟨h2, fun q hq hz => ?_⟩
  obtain ⟨c9, e1, e2, e3, e4⟩ := h6 q _ (Array.getElem?_eq_getElem hq)
  have hs : c9.slots = (s.heap[q]).slots := Array.ext_getElem? fun i => e4 i fun hm => hz _ hm rfl
  have h9 : c9 = s.heap[q] := by
    rw [hs] at e2
    exact e2
  have e5 : U.heap[q]? = some c9 := e1
  rw [e5, h9, Array.getElem?_eq_getElem hq]

def vx_no (w : Cond) : Bool := decide (w ≠ .isRef (.static Bundle.tN "UNASSIGNED_STACK" Bundle.steD)) && decide (w ≠ .isRef (.static Bundle.tN "SUPPRESSED_SENTINEL" Bundle.listD)) && decide (w ≠ .laysStatic Bundle.tN "UNASSIGNED_STACK" Bundle.steD) && decide (w ≠ .laysStatic Bundle.tN "SUPPRESSED_SENTINEL" Bundle.listD)
def vx_at0 (own : String) (ic : Nat) (X : String) (names : List String) : List Cond := (Bundle.ownAtoms0 own ic X names).filter vx_no
def vx_atS (own : String) (ic : Nat) (X : String) (names : List String) : List Cond := (Bundle.ownAtoms own ic X names).filter vx_no

def vx_ot (w : Cond) : Bool := w.onTables || goodWord w
theorem vx_ot_at {args a' : Array Value} {s U : State} {w : Cond} (hW : s.WarmedH U.vm) (hvm : s.vm = U.vm) (hg : vx_ot w = true) (h : w.before args s = true) : w.before a' U = true := by
  simp only [vx_ot, Bool.or_eq_true] at hg
  rcases hg with hg | hg
  · exact va_tabs hg hvm h
  · exact word_at hW (good_of_word hg) h

theorem vx_hat {args : Array Value} {s : State} {L B : List Cond} (h1 : ∀ w ∈ L.filter goodWord, w.before args s = true) (h2 : ∀ w ∈ L.filter (fun w => !goodWord w), w ∈ B) (h3 : ∀ w ∈ B, w.before args s = true) : ∀ w ∈ L, w.before args s = true := by
  intro w hw
  by_cases g : goodWord w = true
  · exact h1 w (List.mem_filter.mpr ⟨hw, g⟩)
  · refine h3 w (h2 w (List.mem_filter.mpr ⟨hw, ?_⟩))
    show (!goodWord w) = true
    cases hgw : goodWord w
    · rfl
    · exact absurd hgw g
theorem vx_c {args : Array Value} {s : State} {w : Cond} {B : List Cond} (h : w.before args s = true) (t : ∀ w ∈ B, w.before args s = true) : ∀ w' ∈ w :: B, w'.before args s = true := fun w' h' => (List.mem_cons.mp h').elim (fun e => by rw [e]; exact h) (t w')
theorem vx_n {args : Array Value} {s : State} : ∀ w ∈ ([] : List Cond), w.before args s = true := fun _ h => nomatch h
theorem vx_own {args : Array Value} {s : State} {L : List Cond} (h1 : ∀ w ∈ L.filter vx_no, w.before args s = true)
    (hU : (Cond.isRef (.static Bundle.tN "UNASSIGNED_STACK" Bundle.steD)).before args s = true) (hN : (Cond.isRef (.static Bundle.tN "SUPPRESSED_SENTINEL" Bundle.listD)).before args s = true)
    (lU : (Cond.laysStatic Bundle.tN "UNASSIGNED_STACK" Bundle.steD).before args s = true) (lN : (Cond.laysStatic Bundle.tN "SUPPRESSED_SENTINEL" Bundle.listD).before args s = true) : ∀ w ∈ L, w.before args s = true := by
  intro w hw
  by_cases e1 : w = .isRef (.static Bundle.tN "UNASSIGNED_STACK" Bundle.steD)
  · rw [e1]; exact hU
  · by_cases e2 : w = .isRef (.static Bundle.tN "SUPPRESSED_SENTINEL" Bundle.listD)
    · rw [e2]; exact hN
    · by_cases e3 : w = .laysStatic Bundle.tN "UNASSIGNED_STACK" Bundle.steD
      · rw [e3]; exact lU
      · by_cases e4 : w = .laysStatic Bundle.tN "SUPPRESSED_SENTINEL" Bundle.listD
        · rw [e4]; exact lN
        · exact h1 w (List.mem_filter.mpr ⟨hw, by unfold vx_no; rw [decide_eq_true e1, decide_eq_true e2, decide_eq_true e3, decide_eq_true e4]; rfl⟩)

def vx_L (C n d : String) (A : Nat → Prop) (U : State) (H : Heap) : Prop := ∃ (c : ClassId) (k : Class) (i : Nat) (f : Field) (a : Nat) (cell : Cell), U.vm.findClass C = some c ∧ U.fieldFound? C n d = some (c, k, i, f) ∧ f.isStatic = true ∧ k.statics = some a ∧ H[a]? = some cell ∧ cell.vm.isStatics = true ∧ cell.cls = c ∧ f.slot < cell.slots.size ∧ k.staticTypes[f.slot]? = some f.type ∧ ¬ A a
theorem vx_L.moved {C n d : String} {A : Nat → Prop} {u U : State} {H : Heap} (hvm : u.vm.Alike U.vm) (h : vx_L C n d A u H) : vx_L C n d A U H := by
  obtain ⟨c, k, i, f, a, cell, h1, h2, h3, h4, h5, h6, h7, h8, h9, h10⟩ := h
  obtain ⟨k', hi', he⟩ := State.fieldFound?_setVm hvm h2
  exact ⟨c, k', i, f, a, cell, by rw [hvm.findClass]; exact h1, hi', h3, by rw [he]; exact h4, h5, h6, h7, h8, by rw [he]; exact h9, h10⟩
theorem vx_L.kept {C n d : String} {A : Nat → Prop} {U : State} {H H1 : Heap} (h : vx_L C n d A U H) (hq : ∀ a : Nat, a < H.size → ¬ A a → H1[a]? = H[a]?) : vx_L C n d A U H1 := by
  obtain ⟨c, k, i, f, a, cell, h1, h2, h3, h4, h5, h6, h7, h8, h9, h10⟩ := h
  exact ⟨c, k, i, f, a, cell, h1, h2, h3, h4, by rw [hq a (Array.getElem?_eq_some_iff.mp h5).1 h10]; exact h5, h6, h7, h8, h9, h10⟩
theorem vx_L.narrow {C n d : String} {A B : Nat → Prop} {U : State} {H : Heap} (h : vx_L C n d A U H) (hAB : ∀ q, B q → A q) : vx_L C n d B U H := by
  obtain ⟨c, k, i, f, a, cell, h1, h2, h3, h4, h5, h6, h7, h8, h9, h10⟩ := h
  exact ⟨c, k, i, f, a, cell, h1, h2, h3, h4, h5, h6, h7, h8, h9, fun z => h10 (hAB _ z)⟩
theorem vx_L.word {C n d : String} {A : Nat → Prop} {s : State} {args : Array Value} (h : vx_L C n d A s s.heap) : (Cond.laysStatic C n d).before args s = true := by
  obtain ⟨c, k, i, f, a, cell, h1, h2, h3, h4, h5, h6, h7, h8, h9, -⟩ := h
  show (Cond.laysStatic C n d).holds args s none s [] = true
  exact Cond.laysStatic_of h1 h2 h3 h4 h5 h6 h7 h8 h9

def vx_Zq (C n d : String) (A : Nat → Prop) (U : State) (H : Heap) : Prop := va_Zq C n d A U H ∧ vx_L C n d A U H
theorem vx_Zq.moved {C n d : String} {A : Nat → Prop} {u U : State} {H : Heap} (hvm : u.vm.Alike U.vm) (h : vx_Zq C n d A u H) : vx_Zq C n d A U H := ⟨va_Zq.moved hvm h.1, vx_L.moved hvm h.2⟩
theorem vx_Zq.kept {C n d : String} {A : Nat → Prop} {U : State} {H H1 : Heap} (h : vx_Zq C n d A U H) (hq : ∀ a : Nat, a < H.size → ¬ A a → H1[a]? = H[a]?) : vx_Zq C n d A U H1 := ⟨va_Zq.kept h.1 hq, vx_L.kept h.2 hq⟩
theorem vx_Zq.narrow {C n d : String} {A B : Nat → Prop} {U : State} {H : Heap} (h : vx_Zq C n d A U H) (hAB : ∀ q, B q → A q) : vx_Zq C n d B U H := ⟨va_Zq.narrow h.1 hAB, vx_L.narrow h.2 hAB⟩
theorem vx_Zqof {args : Array Value} {s : State} {C n d : String} {A : Nat → Prop} (hl : (Cond.laysStatic C n d).before args s = true) (hini : (Cond.initialized C).before args s = true) (h : (Cond.isRef (.static C n d)).before args s = true) (hA : ∀ a : Nat, a < s.heap.size → ¬ A a) : vx_Zq C n d A s s.heap := by
  refine ⟨va_Zqof hl hini h hA, ?_⟩
  obtain ⟨c, k, i, f, a, cell, h1, h2, h3, h4, h5, h6, h7, h8, h9⟩ := Cond.laysStatic_spec hl
  exact ⟨c, k, i, f, a, cell, h1, h2, h3, h4, h5, h6, h7, h8, h9, hA a (Array.getElem?_eq_some_iff.mp h5).1⟩
theorem vx_isRef {C n d : String} {v : Value} {A : Nat → Prop} {s : State} {args : Array Value} (h : va_Z C n d v A s s.heap) (hv : v.isRef = true) : (Cond.isRef (.static C n d)).before args s = true := by
  obtain ⟨cf, kf, fi, f, a, cell, h1, h2, h3, h4, h5, h6, h7, -⟩ := h
  have he : (Term.static C n d).eval args s none [] s = some v := by
    simp [Term.eval, State.fieldNamed?, h1, h2, h4, h5, h6, h7]
  simp only [Cond.before, Cond.holds, Cond.value, he]
  cases v <;> simp_all [Value.isRef]
theorem vx_isRefq {C n d : String} {A : Nat → Prop} {s : State} {args : Array Value} (h : va_Zq C n d A s s.heap) : (Cond.isRef (.static C n d)).before args s = true := by
  rcases h with h | ⟨t, h⟩
  · exact vx_isRef h rfl
  · exact vx_isRef h rfl

theorem vx_rebase {T : State} (X : Stand p l e R s m args below meth c T locs cells slots) {R' : Room} (hf : R'.frames ≤ R.frames) (hl : R'.locals ≤ R.locals) (hc : cells + R'.cells ≤ R.cells) (hs : slots + R'.slots ≤ R.slots) :
    Stand p l e R' ((T.setVm s.vm).setFrames (.invoking m args :: below)) m args below meth c T [] 0 0 := by
  have htop : (T.setVm s.vm).topJava?.isSome := X.here.top
  have hF : ((T.setVm s.vm).setFrames (.invoking m args :: below)).frames = .invoking m args :: below := State.frames_setFrames _ (State.cur_lt_of_top htop)
  obtain ⟨g₀, hg0⟩ := Option.isSome_iff_exists.mp htop
  obtain ⟨r, hr⟩ := State.topJava?_eq_some.mp hg0
  have hl9 : e.platform.stackLimits (T.setVm s.vm).me = e.platform.stackLimits s.me := X.limits
  have hb9 : (T.setVm s.vm).me.stackBytes = s.me.stackBytes := X.bytes
  refine ⟨X.admits, X.cas, X.clock, hF, ?_, X.hears, X.method, X.code, X.here, X.tail, X.warmed, ?_, ?_, ?_⟩
  · have h := X.room
    have hU : ((T.setVm s.vm).setFrames (.invoking m args :: below)).localsInUse = s.localsInUse := by
      rw [State.localsInUse_invoking hF (meth := meth) (c := c) X.method X.code, State.localsInUse_invoking X.frames X.method X.code]
    simp only [State.hasRoom, Bool.and_eq_true, decide_eq_true_eq] at h ⊢
    obtain ⟨⟨⟨⟨h1, h2, h3, h4, h5, h6⟩, h7⟩, h8⟩, h9⟩ := h
    rw [X.frames, List.length_cons] at h2 h3
    have q1 := X.heapSize
    have q2 := X.used
    simp only [hF, hU, List.length_cons, State.stackLimits_setFrames, State.stackBytes_setFrames, hl9, hb9]
    refine ⟨⟨⟨⟨by omega, by omega, by omega, by omega, by omega, h6⟩, ?_⟩, ?_⟩, X.book⟩
    · show T.heap.size + R'.cells ≤ e.platform.maxCells
      omega
    · show T.slotsUsed + R'.slots ≤ e.platform.maxSlots
      omega
  · rw [State.stackLimits_setFrames]; rfl
  · rw [State.stackBytes_setFrames]; rfl
  · refine ⟨?_, Nat.le_refl _, Nat.le_refl _, ?_, ?_, fun a c9 h9 => ⟨c9, h9, rfl, rfl, fun _ _ => rfl⟩⟩
    · obtain ⟨t, ht, -⟩ := State.frames_cons hr
      show T.setVm s.vm = { ((T.setVm s.vm).setFrames (.invoking m args :: below)).setFrames (T.setVm s.vm).frames with heap := T.heap, slotsUsed := T.slotsUsed }
      rw [State.setFrames_setFrames, State.setFrames_self ht]
      rfl
    · show T.slotsUsed = T.slotsUsed + ((T.heap.toList.drop T.heap.size).map (·.slots.size)).sum
      rw [List.drop_eq_nil_of_le (Nat.le_of_eq Array.length_toList)]
      rfl
    · show ((T.heap.toList.drop T.heap.size).map (·.slots.size)).sum ≤ 0
      rw [List.drop_eq_nil_of_le (Nat.le_of_eq Array.length_toList)]
      exact Nat.le_refl _

theorem vx_throw0 {cc : ByteArray} {pc : Nat} (hexec : p.tables.exec = Jvm.exec) (hb : c.code = cc) (hl : l.stackTraces = false) {own cls : String} {names : List String} {ik ic mc ms : Nat} {A : Nat → Prop}
    (hown : s.vm.findClass own = some m.cls) (hcls : Bundle.fit cls = true) (hnames : ∀ n ∈ names, Bundle.fit n = true)
    (hk : (Cond.classLink own ik cls).before args s = true) (hini : (Cond.initialized cls).before args s = true) (hat : ∀ w ∈ vx_at0 own ic cls names, w.before args s = true)
    (hgood : ∀ w ∈ Cond.classLink own ik cls :: Cond.initialized cls :: vx_at0 own ic cls names, vx_ot w = true)
    (hU : vx_Zq Bundle.tN "UNASSIGNED_STACK" Bundle.steD A s s.heap) (hN : vx_Zq Bundle.tN "SUPPRESSED_SENTINEL" Bundle.listD A s s.heap) (hS : va_S A s.heap H locs) (hsize : ls.size = c.maxLocals)
    (d0 : decode cc pc = .ok (.new ik, 3)) (d3 : decode cc (pc + 3) = .ok (.dup, 1)) (d4 : decode cc (pc + 4) = .ok (.invokespecial ic, 3)) (d7 : decode cc (pc + 7) = .ok (.athrow, 1))
    (hout : ∀ x ∈ c.exceptionTable.toList, covers x (pc + 7) = false)
    (hRframes : names.length + 3 < R.frames) (hRlocals : (rest.map fun v => v.category).sum + (13 * (names.length + 1) + 42) ≤ R.locals) (hRcells : cells + 1 ≤ R.cells) (hRslots : slots + 6 ≤ R.slots) (hlocks : meth.locks = false)
    (hx : ∀ t : State, s.vm.Alike t.vm → H.size ≤ t.heap.size → (∀ q : Nat, q < H.size → t.heap[q]? = H[q]?) → XC cls s t)
    (hf : ∀ z ∈ locs, free z.base) (hc : cells + 1 ≤ mc) (hs : slots + 6 ≤ ms) :
    W p l e R s m args below meth c H locs cells slots (vx_MQ below Qc XC args s mc ms free) (F0 m pc ls rest) := by
  intro T hT X
  have htr : e.platform.stackTraces = false := (show e.platform.stackTraces = l.stackTraces by rw [X.admits.platform]).trans hl
  have Y := vx_rebase X (R' := { frames := R.frames, locals := R.locals, cells := 1, slots := 6 }) (Nat.le_refl _) (Nat.le_refl _) hRcells hRslots
  obtain ⟨s', hA⟩ : ∃ z, z = (T.setVm s.vm).setFrames (.invoking m args :: below) := ⟨_, rfl⟩
  rw [← hA] at Y
  have hvm : s'.vm = s.vm := by rw [hA]; rfl
  have hhp : s'.heap = H := by rw [hA]; exact hT
  have hW0 : s.WarmedH s'.vm := by rw [hvm]; exact State.WarmedH.refl s
  have hat' : ∀ w ∈ vx_at0 own ic cls names, w.before args s' = true := fun w hw => vx_ot_at hW0 hvm.symm (hgood w (List.mem_cons_of_mem _ (List.mem_cons_of_mem _ hw))) (hat w hw)
  have hk' : (Cond.classLink own ik cls).before args s' = true := vx_ot_at hW0 hvm.symm (hgood _ List.mem_cons_self) hk
  have hini' : (Cond.initialized cls).before args s' = true := vx_ot_at hW0 hvm.symm (hgood _ (List.mem_cons_of_mem _ List.mem_cons_self)) hini
  have hU' : vx_Zq Bundle.tN "UNASSIGNED_STACK" Bundle.steD A s' s'.heap := by rw [hhp]; exact vx_Zq.moved hW0.alike (hU.kept hS.2.1)
  have hN' : vx_Zq Bundle.tN "SUPPRESSED_SENTINEL" Bundle.listD A s' s'.heap := by rw [hhp]; exact vx_Zq.moved hW0.alike (hN.kept hS.2.1)
  have h : ∀ w ∈ Bundle.ownAtoms0 own ic cls names, w.before args s' = true := vx_own hat' (vx_isRefq hU'.1) (vx_isRefq hN'.1) hU'.2.word hN'.2.word
  have hown' : s'.vm.findClass own = some m.cls := by rw [hvm]; exact hown
  have hins : (Cond.instantiable cls 6).before args s' = true := h _ (by simp [Bundle.ownAtoms0])
  obtain ⟨vm₁, cX, kX, hfX, hkX, -, -, X₁, st1⟩ := Y.newCold hexec (own := own) (C := cls) (index := ik) (n := 6) hown' hk' hins hini'
    (g := F0 m pc ls rest) rfl (by rw [hb]; exact d0) (Nat.le_refl _) (Nat.le_refl _)
  generalize hT1 : (T.setVm vm₁).pushCell { cls := cX, slots := kX.instanceTypes.map defaultValue, vm := .none } = T1 at X₁ st1
  have hcat : (Value.ref T.heap.size).category = 1 := rfl
  have hcellA : T1.heap[T.heap.size]? = some (freshCell cX kX) := by rw [← hT1]; exact State.heap_pushCell_size _ _
  have d3' : decode c.code (pc + 3) = .ok (.dup, 1) := by rw [hb]; exact d3
  obtain ⟨U, hsteps, hrun, hend, hW, hsame, ce, hce, hO⟩ := X₁.ctorThrow0 hexec htr (own := own) (cls := cls) (names := names) (ic := ic) hown' hcls hnames h (fun x hx => nomatch hx) hfX hkX hcellA (by rw [hhp, hT]; exact Nat.le_refl _)
    (g := { method := m, pc := pc + 4, locals := ls, stack := .ref T.heap.size :: .ref T.heap.size :: rest, locked := none }) rfl hsize rfl rfl (rest := rest) rfl
    (by rw [hb]; exact d4) (by rw [hb]; exact d7) hout hRframes (by simp only [List.map_cons, List.sum_cons, hcat]; omega) hlocks
  obtain ⟨f1, f2⟩ := vx_frame hsame
  rw [hhp] at f1 f2
  have hWs : s.WarmedH U.vm := State.WarmedH.trans hW0 hW
  have hcl : s.vm.findClass cls = some ce.cls := by
    have h9 := hO.cls
    rw [hvm] at h9
    exact h9
  have hall : s.sameButNew ({ U with vm := s.vm } : State) locs mc ms := by
    subst hA
    obtain ⟨e1, e2⟩ := hsame
    rw [State.setFrames_setFrames] at e1
    have h2 : (T.setVm s.vm).sameButNew ({ U with vm := s.vm } : State) [] (0 + 1) (0 + 6) := ⟨e1, e2⟩
    have h3 := X.same.trans h2
    rw [List.append_nil] at h3
    exact h3.mono hc hs
  refine ⟨U, ?_, .threw T.heap.size, hrun, hend, Or.inr ⟨T.heap.size, rfl, cls, ce, locs, hx U hWs.alike f1 (fun q hq => f2 q hq (fun z hz => nomatch hz)), hce, hO.vm, hcl, hWs, hall, hf⟩⟩
  refine st1 _ ?_
  show Steps p.tables e below (T1.setTop { method := m, pc := pc + 3, locals := ls, stack := .ref T.heap.size :: rest, locked := none }) _
  jvm_step X₁.here [X₁.here.top, hexec, d3', Value.category]
  exact hsteps

theorem vx_throwS {cc : ByteArray} {pc : Nat} (hexec : p.tables.exec = Jvm.exec) (hb : c.code = cc) (hl : l.stackTraces = false) {own cls text : String} {names : List String} {ik is ic mc ms sa : Nat} {A : Nat → Prop}
    (hown : s.vm.findClass own = some m.cls) (hcls : Bundle.fit cls = true) (hnames : ∀ n ∈ names, Bundle.fit n = true)
    (hk : (Cond.classLink own ik cls).before args s = true) (hini : (Cond.initialized cls).before args s = true) (hstr : vk_R own is text sa s) (hat : ∀ w ∈ vx_atS own ic cls names, w.before args s = true)
    (hgood : ∀ w ∈ Cond.classLink own ik cls :: Cond.initialized cls :: vx_atS own ic cls names, vx_ot w = true)
    (hU : vx_Zq Bundle.tN "UNASSIGNED_STACK" Bundle.steD A s s.heap) (hN : vx_Zq Bundle.tN "SUPPRESSED_SENTINEL" Bundle.listD A s s.heap) (hS : va_S A s.heap H locs) (hsize : ls.size = c.maxLocals)
    (d0 : decode cc pc = .ok (.new ik, 3)) (d3 : decode cc (pc + 3) = .ok (.dup, 1)) (d4 : decode cc (pc + 4) = .ok (.ldc is, 2)) (d6 : decode cc (pc + 6) = .ok (.invokespecial ic, 3)) (d9 : decode cc (pc + 9) = .ok (.athrow, 1))
    (hout : ∀ x ∈ c.exceptionTable.toList, covers x (pc + 9) = false)
    (hRframes : names.length + 3 < R.frames) (hRlocals : (rest.map fun v => v.category).sum + (13 * (names.length + 1) + 43) ≤ R.locals) (hRcells : cells + 1 ≤ R.cells) (hRslots : slots + 6 ≤ R.slots) (hlocks : meth.locks = false)
    (hx : ∀ t : State, s.vm.Alike t.vm → H.size ≤ t.heap.size → (∀ q : Nat, q < H.size → t.heap[q]? = H[q]?) → XC cls s t)
    (hf : ∀ z ∈ locs, free z.base) (hc : cells + 1 ≤ mc) (hs : slots + 6 ≤ ms) :
    W p l e R s m args below meth c H locs cells slots (vx_MQ below Qc XC args s mc ms free) (F0 m pc ls rest) := by
  intro T hT X
  have htr : e.platform.stackTraces = false := (show e.platform.stackTraces = l.stackTraces by rw [X.admits.platform]).trans hl
  have Y := vx_rebase X (R' := { frames := R.frames, locals := R.locals, cells := 1, slots := 6 }) (Nat.le_refl _) (Nat.le_refl _) hRcells hRslots
  obtain ⟨s', hA⟩ : ∃ z, z = (T.setVm s.vm).setFrames (.invoking m args :: below) := ⟨_, rfl⟩
  rw [← hA] at Y
  have hvm : s'.vm = s.vm := by rw [hA]; rfl
  have hhp : s'.heap = H := by rw [hA]; exact hT
  have hW0 : s.WarmedH s'.vm := by rw [hvm]; exact State.WarmedH.refl s
  have hat' : ∀ w ∈ vx_atS own ic cls names, w.before args s' = true := fun w hw => vx_ot_at hW0 hvm.symm (hgood w (List.mem_cons_of_mem _ (List.mem_cons_of_mem _ hw))) (hat w hw)
  have hk' : (Cond.classLink own ik cls).before args s' = true := vx_ot_at hW0 hvm.symm (hgood _ List.mem_cons_self) hk
  have hini' : (Cond.initialized cls).before args s' = true := vx_ot_at hW0 hvm.symm (hgood _ (List.mem_cons_of_mem _ List.mem_cons_self)) hini
  have hU' : vx_Zq Bundle.tN "UNASSIGNED_STACK" Bundle.steD A s' s'.heap := by rw [hhp]; exact vx_Zq.moved hW0.alike (hU.kept hS.2.1)
  have hN' : vx_Zq Bundle.tN "SUPPRESSED_SENTINEL" Bundle.listD A s' s'.heap := by rw [hhp]; exact vx_Zq.moved hW0.alike (hN.kept hS.2.1)
  have h : ∀ w ∈ Bundle.ownAtoms own ic cls names, w.before args s' = true := vx_own hat' (vx_isRefq hU'.1) (vx_isRefq hN'.1) hU'.2.word hN'.2.word
  have hown' : s'.vm.findClass own = some m.cls := by rw [hvm]; exact hown
  have hins : (Cond.instantiable cls 6).before args s' = true := h _ (by simp [Bundle.ownAtoms])
  obtain ⟨vm₁, cX, kX, hfX, hkX, -, -, X₁, st1⟩ := Y.newCold hexec (own := own) (C := cls) (index := ik) (n := 6) hown' hk' hins hini'
    (g := F0 m pc ls rest) rfl (by rw [hb]; exact d0) (Nat.le_refl _) (Nat.le_refl _)
  generalize hT1 : (T.setVm vm₁).pushCell { cls := cX, slots := kX.instanceTypes.map defaultValue, vm := .none } = T1 at X₁ st1
  have hcat : (Value.ref T.heap.size).category = 1 := rfl
  have hcellA : T1.heap[T.heap.size]? = some (freshCell cX kX) := by rw [← hT1]; exact State.heap_pushCell_size _ _
  have d3' : decode c.code (pc + 3) = .ok (.dup, 1) := by rw [hb]; exact d3
  have d4' : decode c.code (pc + 4) = .ok (.ldc is, 2) := by rw [hb]; exact d4
  have hstr' : vk_R own is text sa s' := vk_R.warm hW0 hstr
  obtain ⟨U, hsteps, hrun, hend, hW, hsame, ce, hce, hO⟩ := X₁.ctorThrowS hexec htr (own := own) (cls := cls) (names := names) (ic := ic) hown' hcls hnames h (fun x hx => nomatch hx) hfX hkX hcellA (by rw [hhp, hT]; exact Nat.le_refl _) (msg := .ref sa) rfl
    (g := { method := m, pc := pc + 6, locals := ls, stack := .ref sa :: .ref T.heap.size :: .ref T.heap.size :: rest, locked := none }) rfl hsize rfl rfl (rest := rest) rfl
    (by rw [hb]; exact d6) (by rw [hb]; exact d9) hout hRframes (by simp only [List.map_cons, List.sum_cons, hcat]; omega) hlocks
  obtain ⟨f1, f2⟩ := vx_frame hsame
  rw [hhp] at f1 f2
  have hWs : s.WarmedH U.vm := State.WarmedH.trans hW0 hW
  have hcl : s.vm.findClass cls = some ce.cls := by
    have h9 := hO.cls
    rw [hvm] at h9
    exact h9
  have hall : s.sameButNew ({ U with vm := s.vm } : State) locs mc ms := by
    subst hA
    obtain ⟨e1, e2⟩ := hsame
    rw [State.setFrames_setFrames] at e1
    have h2 : (T.setVm s.vm).sameButNew ({ U with vm := s.vm } : State) [] (0 + 1) (0 + 6) := ⟨e1, e2⟩
    have h3 := X.same.trans h2
    rw [List.append_nil] at h3
    exact h3.mono hc hs
  refine ⟨U, ?_, .threw T.heap.size, hrun, hend, Or.inr ⟨T.heap.size, rfl, cls, ce, locs, hx U hWs.alike f1 (fun q hq => f2 q hq (fun z hz => nomatch hz)), hce, hO.vm, hcl, hWs, hall, hf⟩⟩
  refine st1 _ ?_
  show Steps p.tables e below (T1.setTop { method := m, pc := pc + 3, locals := ls, stack := .ref T.heap.size :: rest, locked := none }) _
  jvm_step X₁.here [X₁.here.top, hexec, d3', Value.category]
  exact X₁.ldcString hexec (own := own) (text := text) (index := is) (a := sa) hown' hstr'.1 hstr'.2
    (g := { method := m, pc := pc + 4, locals := ls, stack := .ref T.heap.size :: .ref T.heap.size :: rest, locked := none }) rfl d4' _ hsteps

theorem vx_throwSW {cc : ByteArray} {pc : Nat} (hexec : p.tables.exec = Jvm.exec) (hb : c.code = cc) (hl : l.stackTraces = false) {own cls text : String} {names : List String} {ik is ic mc ms sa : Nat} {A : Nat → Prop}
    (hown : s.vm.findClass own = some m.cls) (hcls : Bundle.fit cls = true) (hnames : ∀ n ∈ names, Bundle.fit n = true)
    (hk : (Cond.classLink own ik cls).before args s = true) (hini : (Cond.initialized cls).before args s = true) (hstr : vk_R own is text sa s) (hat : ∀ w ∈ vx_atS own ic cls names, w.before args s = true)
    (hgood : ∀ w ∈ Cond.classLink own ik cls :: Cond.initialized cls :: vx_atS own ic cls names, vx_ot w = true)
    (hU : vx_Zq Bundle.tN "UNASSIGNED_STACK" Bundle.steD A s s.heap) (hN : vx_Zq Bundle.tN "SUPPRESSED_SENTINEL" Bundle.listD A s s.heap) (hS : va_S A s.heap H locs) (hsize : ls.size = c.maxLocals)
    (d0 : decode cc pc = .ok (.new ik, 3)) (d3 : decode cc (pc + 3) = .ok (.dup, 1)) (d4 : decode cc (pc + 4) = .ok (.ldc_w is, 3)) (d7 : decode cc (pc + 7) = .ok (.invokespecial ic, 3)) (d10 : decode cc (pc + 10) = .ok (.athrow, 1))
    (hout : ∀ x ∈ c.exceptionTable.toList, covers x (pc + 10) = false)
    (hRframes : names.length + 3 < R.frames) (hRlocals : (rest.map fun v => v.category).sum + (13 * (names.length + 1) + 43) ≤ R.locals) (hRcells : cells + 1 ≤ R.cells) (hRslots : slots + 6 ≤ R.slots) (hlocks : meth.locks = false)
    (hx : ∀ t : State, s.vm.Alike t.vm → H.size ≤ t.heap.size → (∀ q : Nat, q < H.size → t.heap[q]? = H[q]?) → XC cls s t)
    (hf : ∀ z ∈ locs, free z.base) (hc : cells + 1 ≤ mc) (hs : slots + 6 ≤ ms) :
    W p l e R s m args below meth c H locs cells slots (vx_MQ below Qc XC args s mc ms free) (F0 m pc ls rest) := by
  intro T hT X
  have htr : e.platform.stackTraces = false := (show e.platform.stackTraces = l.stackTraces by rw [X.admits.platform]).trans hl
  have Y := vx_rebase X (R' := { frames := R.frames, locals := R.locals, cells := 1, slots := 6 }) (Nat.le_refl _) (Nat.le_refl _) hRcells hRslots
  obtain ⟨s', hA⟩ : ∃ z, z = (T.setVm s.vm).setFrames (.invoking m args :: below) := ⟨_, rfl⟩
  rw [← hA] at Y
  have hvm : s'.vm = s.vm := by rw [hA]; rfl
  have hhp : s'.heap = H := by rw [hA]; exact hT
  have hW0 : s.WarmedH s'.vm := by rw [hvm]; exact State.WarmedH.refl s
  have hat' : ∀ w ∈ vx_atS own ic cls names, w.before args s' = true := fun w hw => vx_ot_at hW0 hvm.symm (hgood w (List.mem_cons_of_mem _ (List.mem_cons_of_mem _ hw))) (hat w hw)
  have hk' : (Cond.classLink own ik cls).before args s' = true := vx_ot_at hW0 hvm.symm (hgood _ List.mem_cons_self) hk
  have hini' : (Cond.initialized cls).before args s' = true := vx_ot_at hW0 hvm.symm (hgood _ (List.mem_cons_of_mem _ List.mem_cons_self)) hini
  have hU' : vx_Zq Bundle.tN "UNASSIGNED_STACK" Bundle.steD A s' s'.heap := by rw [hhp]; exact vx_Zq.moved hW0.alike (hU.kept hS.2.1)
  have hN' : vx_Zq Bundle.tN "SUPPRESSED_SENTINEL" Bundle.listD A s' s'.heap := by rw [hhp]; exact vx_Zq.moved hW0.alike (hN.kept hS.2.1)
  have h : ∀ w ∈ Bundle.ownAtoms own ic cls names, w.before args s' = true := vx_own hat' (vx_isRefq hU'.1) (vx_isRefq hN'.1) hU'.2.word hN'.2.word
  have hown' : s'.vm.findClass own = some m.cls := by rw [hvm]; exact hown
  have hins : (Cond.instantiable cls 6).before args s' = true := h _ (by simp [Bundle.ownAtoms])
  obtain ⟨vm₁, cX, kX, hfX, hkX, -, -, X₁, st1⟩ := Y.newCold hexec (own := own) (C := cls) (index := ik) (n := 6) hown' hk' hins hini'
    (g := F0 m pc ls rest) rfl (by rw [hb]; exact d0) (Nat.le_refl _) (Nat.le_refl _)
  generalize hT1 : (T.setVm vm₁).pushCell { cls := cX, slots := kX.instanceTypes.map defaultValue, vm := .none } = T1 at X₁ st1
  have hcat : (Value.ref T.heap.size).category = 1 := rfl
  have hcellA : T1.heap[T.heap.size]? = some (freshCell cX kX) := by rw [← hT1]; exact State.heap_pushCell_size _ _
  have d3' : decode c.code (pc + 3) = .ok (.dup, 1) := by rw [hb]; exact d3
  have d4' : decode c.code (pc + 4) = .ok (.ldc_w is, 3) := by rw [hb]; exact d4
  have hstr' : vk_R own is text sa s' := vk_R.warm hW0 hstr
  obtain ⟨U, hsteps, hrun, hend, hW, hsame, ce, hce, hO⟩ := X₁.ctorThrowS hexec htr (own := own) (cls := cls) (names := names) (ic := ic) hown' hcls hnames h (fun x hx => nomatch hx) hfX hkX hcellA (by rw [hhp, hT]; exact Nat.le_refl _) (msg := .ref sa) rfl
    (g := { method := m, pc := pc + 7, locals := ls, stack := .ref sa :: .ref T.heap.size :: .ref T.heap.size :: rest, locked := none }) rfl hsize rfl rfl (rest := rest) rfl
    (by rw [hb]; exact d7) (by rw [hb]; exact d10) hout hRframes (by simp only [List.map_cons, List.sum_cons, hcat]; omega) hlocks
  obtain ⟨f1, f2⟩ := vx_frame hsame
  rw [hhp] at f1 f2
  have hWs : s.WarmedH U.vm := State.WarmedH.trans hW0 hW
  have hcl : s.vm.findClass cls = some ce.cls := by
    have h9 := hO.cls
    rw [hvm] at h9
    exact h9
  have hall : s.sameButNew ({ U with vm := s.vm } : State) locs mc ms := by
    subst hA
    obtain ⟨e1, e2⟩ := hsame
    rw [State.setFrames_setFrames] at e1
    have h2 : (T.setVm s.vm).sameButNew ({ U with vm := s.vm } : State) [] (0 + 1) (0 + 6) := ⟨e1, e2⟩
    have h3 := X.same.trans h2
    rw [List.append_nil] at h3
    exact h3.mono hc hs
  refine ⟨U, ?_, .threw T.heap.size, hrun, hend, Or.inr ⟨T.heap.size, rfl, cls, ce, locs, hx U hWs.alike f1 (fun q hq => f2 q hq (fun z hz => nomatch hz)), hce, hO.vm, hcl, hWs, hall, hf⟩⟩
  refine st1 _ ?_
  show Steps p.tables e below (T1.setTop { method := m, pc := pc + 3, locals := ls, stack := .ref T.heap.size :: rest, locked := none }) _
  jvm_step X₁.here [X₁.here.top, hexec, d3', Value.category]
  exact X₁.ldcStringW hexec (own := own) (text := text) (index := is) (a := sa) hown' hstr'.1 hstr'.2
    (g := { method := m, pc := pc + 4, locals := ls, stack := .ref T.heap.size :: .ref T.heap.size :: rest, locked := none }) rfl d4' _ hsteps
end Ends
section Bodies
variable {l : Launch}
theorem vx_ofW {y : MethodName} {ws ws' : List Cond} {rm : Room} {Pc : Array Value → State → Prop} {Qc : Array Value → State → Outcome → State → Prop} {XC : String → State → State → Prop} {mc ms : Nat} {free : Addr → Prop} {cc : ByteArray} {maxL : Nat} {ret : Option FieldType}
    (hy : plainName y.cls = true) (hw : ws = Cond.code y cc maxL ret :: ws')
    (body : ∀ p e s m args below meth c s₁, BodyLoose p l y (headSpec ws rm) cc maxL ret e s m args below meth c s₁ → c.maxLocals = maxL → (∀ x ∈ c.exceptionTable.toList, False) → Pc args s →
      W p l e (headSpec ws rm).room s m args below meth c s.heap [] 0 0 (vx_MQ below Qc XC args s mc ms free) (entryFrame m args maxL)) : vx_Met l y ws rm Pc Qc XC mc ms free := by
  refine MetFree.of_bodyS (code := cc) (maxLocals := maxL) (ret := ret) hy ?_ ?_
  · intro args s m h hn
    obtain ⟨meth, c, h1, h2, h3, h4, h5, h6, -, -⟩ := Cond.code_spec hn (atoms_spec (ws := ws) h _ (by rw [hw]; exact List.mem_cons_self))
    exact ⟨meth, c, h1, h2, h3, h4, h5, h6⟩
  · intro p e s m args below meth c s₁ B hml hP _
    have hh0 : s₁.heap = s.heap := by rw [B.state]; rfl
    have ht : ∀ x ∈ c.exceptionTable.toList, False := by
      obtain ⟨meth9, c9, h1, h2, -, -, -, -, h7, -⟩ := Cond.code_spec B.named (atoms_spec (ws := ws) B.pre _ (by rw [hw]; exact List.mem_cons_self))
      cases Option.some.inj (h1.symm.trans B.method)
      cases Option.some.inj (h2.symm.trans (Stand.of_body B).code)
      intro x hx
      rw [Array.isEmpty_iff.mp h7] at hx
      cases hx
    obtain ⟨t, a1, o, b1, b2, b3⟩ := body p e s m args below meth c s₁ B hml ht hP s₁ hh0 (Stand.of_body B)
    exact ⟨t, o, a1, b1, b2, b3⟩

theorem vx_table {p : Program} {x y : MethodName} {S : Spec} {cc bytes : ByteArray} {maxL maxL' : Nat} {ret ret' : Option FieldType} {e : Env} {s s₁ : State} {m : MethodId} {args : Array Value} {below : List Frame} {meth : Method} {c : Code} {hh : List (Nat × Nat × Nat × Nat)}
    (B : BodyLoose p l y S cc maxL ret e s m args below meth c s₁) (h : (Cond.codeWith y bytes maxL' ret' hh).before args s = true) : c.exceptionTable.toList = tableOf hh := by
  obtain ⟨m9, meth9, c9, hn9, h1, h2, -, -, h6, -⟩ := Cond.codeWith_spec h
  cases Option.some.inj (hn9.symm.trans B.named)
  cases Option.some.inj (h1.symm.trans B.method)
  cases Option.some.inj (h2.symm.trans (Stand.of_body B).code)
  rw [← h6, table_eq]
end Bodies
end VXA


section VXS
variable {p : Program} {l : Launch} {e : Env} {R : Room} {s : State} {m : MethodId} {args : Array Value} {below : List Frame} {meth : Method} {c : Code} {T : State} {H : Heap} {locs : List Loc} {cells slots : Nat}
abbrev vx_CSW (R : Room) (s : State) (args : Array Value) (own : String) (index : Nat) (y : MethodName) (bytes : ByteArray) (maxL : Nat) (ret : Option FieldType) (hh : List (Nat × Nat × Nat × Nat)) (ws : List Cond) (rm : Room) (mc ms n : Nat) : Prop :=
  (rm.cells = mc ∧ rm.slots = ms ∧ rm.frames + 1 ≤ R.frames ∧ 8 + (maxL + 11) + rm.locals ≤ R.locals ∧ (∀ w ∈ ws, ∀ (a' : Array Value) (U : State), s.WarmedH U.vm → w.before a' U = true) ∧ Cond.codeWith y bytes maxL ret hh ∈ ws) ∧
  (Cond.codeWith y bytes maxL ret hh).before args s = true ∧ (Cond.initialized y.cls).before args s = true ∧ (y.cls ≠ "java/lang/invoke/MethodHandle" ∧ y.cls ≠ "java/lang/invoke/VarHandle") ∧
  (∀ sig, parseMethodDescriptor y.desc = some sig → n = sig.parameters.length) ∧ (Cond.methodLink own index y).before args s = true ∧ (Cond.static y).before args s = true
theorem vx_cwSW {own : String} {index maxL mc ms : Nat} {y : MethodName} {bytes : ByteArray} {ret : Option FieldType} {hh : List (Nat × Nat × Nat × Nat)} {Ts ws ws' : List Cond} {rm : Room} (n : Nat) (ht : ∀ w ∈ Ts, w.before args s = true) (hT : GoodIn Ts (va_wsS own index y ws)) (hw : ws = Cond.codeWith y bytes maxL ret hh :: ws') (hrc : rm.cells = mc) (hrs : rm.slots = ms)
    (hd : y.cls ≠ "java/lang/invoke/MethodHandle" ∧ y.cls ≠ "java/lang/invoke/VarHandle" ∧ (parseMethodDescriptor y.desc).map (fun d => d.parameters.length) = some n) (hR : rm.frames + 1 ≤ R.frames ∧ 8 + (maxL + 11) + rm.locals ≤ R.locals) :
    vx_CSW R s args own index y bytes maxL ret hh ws rm mc ms n := by
  have ok : ∀ w ∈ va_wsS own index y ws, w.before args s = true := fun w h => ht w (hT w h).1
  have hG : GoodIn Ts ws := fun w h => hT w (by unfold va_wsS; exact List.mem_append_right _ h)
  have hc : Cond.codeWith y bytes maxL ret hh ∈ ws := by rw [hw]; exact List.mem_cons_self
  refine ⟨⟨hrc, hrs, hR.1, hR.2, pay_in ht hG, hc⟩, ht _ (hG _ hc).1, ok _ (by simp [va_wsS]), ⟨hd.1, hd.2.1⟩, fun sig h => ?_, ok _ (by simp [va_wsS]), ok _ (by simp [va_wsS])⟩
  have h2 := hd.2.2
  rw [h] at h2
  exact (Option.some.inj h2).symm
theorem vx_callSW (X : Stand p l e R s m args below meth c T locs cells slots) (hexec : p.tables.exec = Jvm.exec) {own : String} {index : Nat} {y : MethodName} {bytes : ByteArray} {maxL : Nat} {ret : Option FieldType} {hh : List (Nat × Nat × Nat × Nat)}
    (hown : s.vm.findClass own = some m.cls) (hlink : (Cond.methodLink own index y).before args s = true) (hstat : (Cond.static y).before args s = true) (hinit : (Cond.initialized y.cls).before args s = true)
    (hcode : (Cond.codeWith y bytes maxL ret hh).before args s = true) (hy : y.cls ≠ "java/lang/invoke/MethodHandle" ∧ y.cls ≠ "java/lang/invoke/VarHandle")
    {W9 : Nat} {Pre : Pt → Array Value → Prop} {Post : Pt → Array Value → Option Value → Pt → Prop} (hK : Back l R p e below s args y 3 W9 Pre Post)
    {g : JFrame} (hg : g.method = m) (hsize : g.locals.size = c.maxLocals) {argsL rest : List Value} (hlen : ∀ sig, parseMethodDescriptor y.desc = some sig → argsL.length = sig.parameters.length)
    (hstack : g.stack = argsL.reverse ++ rest) (hW : 2 * g.monitorRoom + (rest.map fun v => v.category).sum ≤ W9) (hdg : decode c.code g.pc = .ok (.invokestatic index, 3))
    (hpre : ∀ vm₁, s.WarmedH vm₁ → Pre ⟨T.setVm vm₁, locs, cells, slots⟩ argsL.toArray) :
    ∃ (v : Option Value) (vm₁ : Vm) (B : Pt), s.WarmedH vm₁ ∧ Stand p l e R s m args below meth c B.U B.locs B.cells B.slots ∧ Post ⟨T.setVm vm₁, locs, cells, slots⟩ argsL.toArray v B ∧
      ∀ target, Steps p.tables e below (B.U.setTop { g with pc := g.pc + 3, stack := v.toList ++ rest }) target → Steps p.tables e below (T.setTop g) target := by
  obtain ⟨mk, methM, cM, hnamed, hmethM, -, -, -, -, -, -, hsigM⟩ := Cond.codeWith_spec hcode
  have hstatic : methM.isStatic = true := Cond.static_spec hnamed hmethM hstat
  obtain ⟨kP, hkP, -⟩ := className_of_methodNamed hnamed
  have hinitP : kP.init = .initialized := Cond.initialized_spec (findClass_of_methodNamed hnamed) hkP hinit
  obtain ⟨vm₁, X₁, hstep₁⟩ := X.invokestatic hexec hown hlink hnamed hmethM hstatic hkP hinitP hy (g := g) hg (argsL := argsL) (rest := rest) (hlen _ hsigM) hstack hdg
  obtain ⟨v, B, X', hpost, hsteps⟩ := hK m meth c ⟨T.setVm vm₁, locs, cells, slots⟩ { g with stack := rest } (.invokestatic index) mk argsL.toArray X₁ hg hsize hdg hW (X₁.named hnamed) (hpre vm₁ X₁.warmed)
  exact ⟨v, vm₁, B, X₁.warmed, X', hpost, fun target h => hstep₁ _ fun acts => by rw [doInvoke_state]; exact hsteps.trans h⟩
theorem vx_runSW {y : MethodName} {bytes cc : ByteArray} {maxL nL mc ms n index : Nat} {ret : Option FieldType} {hh : List (Nat × Nat × Nat × Nat)} {ws : List Cond} {rm : Room} {Pc : Array Value → State → Prop} {Qc : Array Value → State → Outcome → State → Prop} {free : Addr → Prop} {Ts : List Cond} {own : String} {As rest : List Value} {g : JFrame}
    (S : CallFix p m c cc nL s args Ts own) (hM : Met l y ws rm Pc Qc mc ms free) (cw : vx_CSW R s args own index y bytes maxL ret hh ws rm mc ms n) (hp : PreS s H Pc As)
    (hg : g.method = m) (hn : As.length = n) (hsize : g.locals.size = nL) (hstack : g.stack = As.reverse ++ rest) (hW : 2 * g.monitorRoom + (rest.map fun v => v.category).sum ≤ 8) (hdg : decode cc g.pc = .ok (.invokestatic index, 3)) (hf : cells + mc ≤ R.cells ∧ slots + ms ≤ R.slots) :
    va_Run p l e R s m args below meth c H locs cells slots mc ms g rest (Qc As.toArray) (free) := by
  obtain ⟨⟨hrc, hrs, hfr, hlo, hws, hcw⟩, hcode, hini, hy, hlen, hl, hstt⟩ := cw
  have hK : Back l R p e below s args y 3 8 (PreOf R mc ms Pc) (PostOf Qc mc ms free) := va_backW (hh := hh) (bytes := bytes) (maxL := maxL) (ret := ret) hM hp.1 hrc hrs hfr hlo hws hcw (fun a' U hW => word_at hW (Or.inl (by first | rfl | simp [Cond.onTables, Cond.keeps, Cond.steady])) hini)
  obtain ⟨hx, hb, hml, ho, -⟩ := S
  intro T hT X
  obtain ⟨v, vm₁, ⟨U', l2, c2, s2⟩, hW₁, X', ⟨g', mk, t, L, e1, e2, hq, h1, hL, h2, h3⟩, st⟩ := vx_callSW X hx (hh := hh) (bytes := bytes) (maxL := maxL) (ret := ret) ho hl hstt hini hcode hy hK hg (hsize.trans hml.symm) (argsL := As) (rest := rest) (fun sig h => hn.trans (hlen sig h)) hstack hW (by rw [hb]; exact hdg)
    (fun vm₁ hW₁ => ⟨hf.1, hf.2, hp.2 (T.setVm vm₁) hT hW₁⟩)
  dsimp only [Pt.U, Pt.locs, Pt.cells, Pt.slots] at X' e1 e2 h1 h2 h3 st
  subst h1; subst h2; subst h3
  exact ⟨v, (T.setVm vm₁).calling g' mk As.toArray, t, U', L, hT, X', hL, e1, e2, hq, st⟩

theorem vx_lt {D : va_G} {cl : List vw_C} {ws : va_W} {H1 : Heap} (h : va_P D cl ws H1) {k : Nat} {q : Nat × va_E} (hk : ws[k]? = some q) : q.1 < H1.size := (h k q hk).lt
end VXS


section VXH

section
variable {l : Launch} {R : Room} {p : Program} {e : Env} {below : List Frame} {s : State} {sargs : Array Value} {y : MethodName} {len W9 : Nat}
theorem vx_backW {ws : List Cond} {rm : Room} {Pc : Array Value → State → Prop} {Qc : Array Value → State → Outcome → State → Prop} {XC : String → State → State → Prop} {mc ms : Nat} {free : Addr → Prop} {bytes : ByteArray} {maxL : Nat} {ret : Option FieldType} {hh : List (Nat × Nat × Nat × Nat)}
    (hM : vx_Met l y ws rm Pc Qc XC mc ms free) (hblind : FrameBlind Pc) (hrc : rm.cells = mc) (hrs : rm.slots = ms)
    (hframes : rm.frames + 1 ≤ R.frames) (hlocals : W9 + (maxL + 11) + rm.locals ≤ R.locals)
    (hws : ∀ w ∈ ws, ∀ a' U, s.WarmedH U.vm → w.before a' U = true) (hcode : Cond.codeWith y bytes maxL ret hh ∈ ws) (hinit : ∀ a' U, s.WarmedH U.vm → (Cond.initialized y.cls).before a' U = true) :
    vx_Back l R p e below s sargs y len W9 (PreOf R mc ms Pc) (PostOf Qc mc ms free) (vx_Post XC mc ms free) := by
  intro m meth c A g ig mk a X hg hsize hdg hW hn hp
  have h1 : (headSpec ws rm).pre.before a A.U = true := atoms_intro fun w hw => hws w hw _ _ X.warmed
  have h2 : (Cond.codeWith y bytes maxL ret hh).before a A.U = true := hws _ hcode _ _ X.warmed
  have h3 : (Cond.initialized y.cls).before a A.U = true := hinit _ _ X.warmed
  have h4 : A.cells + (headSpec ws rm).room.cells ≤ R.cells := by rw [show (headSpec ws rm).room.cells = mc from hrc]; exact hp.1
  have h5 : A.slots + (headSpec ws rm).room.slots ≤ R.slots := by rw [show (headSpec ws rm).room.slots = ms from hrs]; exact hp.2.1
  have hPc : Pc a (A.U.calling g mk a) := hblind _ _ _ _ hp.2.2
  obtain ⟨U, Ls, c0, s0⟩ := A
  dsimp only [Pt.U, Pt.locs, Pt.cells, Pt.slots] at h1 h2 h3 h4 h5 X hn hPc ⊢
  obtain ⟨m9, methY, cY, hn9, hmY, hcY, -, hlY, -⟩ := Cond.codeWith_spec h2
  cases Option.some.inj (hn9.symm.trans hn)
  obtain ⟨kY, hkY, -⟩ := className_of_methodNamed hn
  have hinitY : kY.init = .initialized := Cond.initialized_spec (findClass_of_methodNamed hn) hkY h3
  have h : At U g.method c below := by rw [hg]; exact X.here
  have hlocals9 : W9 + (maxL + 11) + (headSpec ws rm).room.locals ≤ R.locals := hlocals
  have happ : (headSpec ws rm).appliesLoose y e.platform (U.calling g mk a) = true :=
    Spec.appliesLoose_calling (g := g) h hdg hn hkY hinitY
      (X.room_calling (g := g) (R' := (headSpec ws rm).room) hsize hmY hcY hframes (by rw [hlY]; omega) h4 h5) h1
  obtain ⟨mid, hmid⟩ := h.above
  have hfr : (U.setTop g).frames = (.java g :: mid) ++ below := by rw [State.frames_setTop' g h.top, hmid]; rfl
  obtain ⟨o, s₂, hsteps, -, hend, hq⟩ := Steps.callFree hM p X.admits X.cas X.clock (acts := []) hfr happ hPc trivial
  have hq' : vx_Q Qc XC mc ms free a (U.calling g mk a) o s₂ := hq
  rw [State.frames_setTop' g h.top] at hend
  obtain ⟨g₀, hg0⟩ := Option.isSome_iff_exists.mp h.top
  obtain ⟨r, hr⟩ := State.topJava?_eq_some.mp hg0
  have hr' : (({ U with heap := s₂.heap, slotsUsed := s₂.slotsUsed } : State).setVm s₂.vm).frames = .java g₀ :: r := hr
  rcases hq' with ⟨hqc, L, hfe, hL⟩ | ⟨q, rfl, E, ce, L, hx, hce, hcv, hcl, hW₂, hsm, hL⟩
  · obtain ⟨⟨v, rfl⟩, hW₂, e2, q2, q3, q4, q5, q6⟩ := id hfe
    have e3 : s₂ = ({ (U.calling g mk a).setFrames s₂.frames with heap := s₂.heap, slotsUsed := s₂.slotsUsed } : State).setVm s₂.vm := by
      have : s₂ = ({ s₂ with vm := (U.calling g mk a).vm } : State).setVm s₂.vm := rfl
      rw [e2] at this
      exact this
    obtain ⟨c₂, i₂, len₂, hc₂, hd₂, hf₂⟩ := hend
    have hW' : U.WarmedH s₂.vm := hW₂
    have hcc : c₂ = c := by
      have h1 : s₂.code? g.method = U.code? g.method := by
        rw [State.code?_eq, State.code?_eq, hW'.alike.method?]
      exact Option.some.inj (hc₂.symm.trans (h1.trans h.code))
    subst hcc
    have hlen : len₂ = len := by rw [hdg] at hd₂; cases hd₂; rfl
    subst hlen
    have hs₂ : s₂ = (({ U with heap := s₂.heap, slotsUsed := s₂.slotsUsed } : State).setVm s₂.vm).setTop { g with pc := g.pc + len₂, stack := v.toList ++ g.stack } := by
      refine e3.trans ?_
      rw [hf₂, State.calling_eq h.top, State.setFrames_setFrames, State.setTop_of_frames _ hr', hr]
      rfl
    have hsame : U.sameButNew ({ U with heap := s₂.heap, slotsUsed := s₂.slotsUsed } : State) L mc ms := by
      refine ⟨?_, q2, q3, q4, q5, q6⟩
      obtain ⟨t, ht, -⟩ := State.frames_cons hr
      show ({ U with heap := s₂.heap, slotsUsed := s₂.slotsUsed } : State) = { U.setFrames U.frames with heap := s₂.heap, slotsUsed := s₂.slotsUsed }
      rw [State.setFrames_self ht]
    subst hg
    refine Or.inl ⟨v, ⟨(({ U with heap := s₂.heap, slotsUsed := s₂.slotsUsed } : State).setVm s₂.vm), Ls ++ L, c0 + mc, s0 + ms⟩,
      ⟨X.admits, X.cas, X.clock, X.frames, X.room, X.hears, X.method, X.code, (X.here.setHeapUsed s₂.heap s₂.slotsUsed).setVm hW'.alike, X.tail, State.WarmedH.trans X.warmed hW', X.limits, X.bytes, X.same.trans (hsame.setVm s.vm)⟩,
      ⟨g, mk, s₂, L, rfl, rfl, hqc, rfl, hL, rfl, rfl⟩, ?_⟩
    show Steps p.tables e below _ ((({ U with heap := s₂.heap, slotsUsed := s₂.slotsUsed } : State).setVm s₂.vm).setTop { g with pc := g.pc + len₂, stack := v.toList ++ g.stack })
    rw [← hs₂]
    exact hsteps
  · obtain ⟨e2, q2, q3, q4, q5, q6⟩ := id hsm
    have e3 : s₂ = ({ (U.calling g mk a).setFrames s₂.frames with heap := s₂.heap, slotsUsed := s₂.slotsUsed } : State).setVm s₂.vm := by
      have : s₂ = ({ s₂ with vm := (U.calling g mk a).vm } : State).setVm s₂.vm := rfl
      rw [e2] at this
      exact this
    have hf₂ : s₂.frames = .throwing q :: .java g :: U.frames.tail := hend
    have hW' : U.WarmedH s₂.vm := hW₂
    have hs₂ : s₂ = ((({ U with heap := s₂.heap, slotsUsed := s₂.slotsUsed } : State).setVm s₂.vm).setTop g).pushFrame (.throwing q) := by
      refine e3.trans ?_
      rw [hf₂, State.calling_eq h.top, State.setFrames_setFrames, State.pushFrame, State.frames_setTop _ hr', State.setTop_of_frames _ hr', State.setFrames_setFrames, hr]
      rfl
    have hsame : U.sameButNew ({ U with heap := s₂.heap, slotsUsed := s₂.slotsUsed } : State) L mc ms := by
      refine ⟨?_, q2, q3, q4, q5, q6⟩
      obtain ⟨t, ht, -⟩ := State.frames_cons hr
      show ({ U with heap := s₂.heap, slotsUsed := s₂.slotsUsed } : State) = { U.setFrames U.frames with heap := s₂.heap, slotsUsed := s₂.slotsUsed }
      rw [State.setFrames_self ht]
    subst hg
    refine Or.inr ⟨q, ⟨(({ U with heap := s₂.heap, slotsUsed := s₂.slotsUsed } : State).setVm s₂.vm), Ls ++ L, c0 + mc, s0 + ms⟩,
      ⟨X.admits, X.cas, X.clock, X.frames, X.room, X.hears, X.method, X.code, (X.here.setHeapUsed s₂.heap s₂.slotsUsed).setVm hW'.alike, X.tail, State.WarmedH.trans X.warmed hW', X.limits, X.bytes, X.same.trans (hsame.setVm s.vm)⟩,
      ⟨g, mk, s₂, L, E, ce, rfl, rfl, hx, hce, hcv, hcl, rfl, hL, rfl, rfl⟩, ?_⟩
    show Steps p.tables e below _ (((({ U with heap := s₂.heap, slotsUsed := s₂.slotsUsed } : State).setVm s₂.vm).setTop g).pushFrame (.throwing q))
    rw [← hs₂]
    exact hsteps
end
variable {p : Program} {l : Launch} {e : Env} {R : Room} {s : State} {m : MethodId} {args : Array Value} {below : List Frame} {meth : Method} {c : Code} {T : State} {H : Heap} {locs : List Loc} {cells slots : Nat}
theorem vx_callVX (X : Stand p l e R s m args below meth c T locs cells slots) (hexec : p.tables.exec = Jvm.exec) {own C : String} {index : Nat} {y : MethodName} {bytes : ByteArray} {maxL : Nat} {ret : Option FieldType} {hh : List (Nat × Nat × Nat × Nat)}
    (hown : s.vm.findClass own = some m.cls) (hlink : (Cond.methodLink own index y).before args s = true) (hinst : (Cond.instanceMethod y).before args s = true) (hsel : (Cond.selects C y y).before args s = true)
    (hcode : (Cond.codeWith y bytes maxL ret hh).before args s = true) (hy : y.cls ≠ "java/lang/invoke/MethodHandle" ∧ y.cls ≠ "java/lang/invoke/VarHandle")
    {W9 : Nat} {Pre : Pt → Array Value → Prop} {Post : Pt → Array Value → Option Value → Pt → Prop} {PostX : Pt → Array Value → Addr → Pt → Prop} (hK : vx_Back l R p e below s args y 3 W9 Pre Post PostX)
    {b : Addr} {cellB : Cell} (hcell : T.heap[b]? = some cellB) (hobj : cellB.vm.isStatics = false) (hcls : s.vm.findClass C = some cellB.cls)
    {g : JFrame} (hg : g.method = m) (hsize : g.locals.size = c.maxLocals) {argsL rest : List Value} (hlen : ∀ sig, parseMethodDescriptor y.desc = some sig → argsL.length = sig.parameters.length)
    (hstack : g.stack = argsL.reverse ++ .ref b :: rest) (hW : 2 * g.monitorRoom + (rest.map fun v => v.category).sum ≤ W9) (hdg : decode c.code g.pc = .ok (.invokevirtual index, 3))
    (hpre : ∀ vm₁, s.WarmedH vm₁ → Pre ⟨T.setVm vm₁, locs, cells, slots⟩ (Value.ref b :: argsL).toArray) :
    (∃ (v : Option Value) (vm₁ : Vm) (B : Pt), s.WarmedH vm₁ ∧ Stand p l e R s m args below meth c B.U B.locs B.cells B.slots ∧ Post ⟨T.setVm vm₁, locs, cells, slots⟩ (Value.ref b :: argsL).toArray v B ∧
      ∀ target, Steps p.tables e below (B.U.setTop { g with pc := g.pc + 3, stack := v.toList ++ rest }) target → Steps p.tables e below (T.setTop g) target) ∨
    (∃ (q : Addr) (vm₁ : Vm) (B : Pt), s.WarmedH vm₁ ∧ Stand p l e R s m args below meth c B.U B.locs B.cells B.slots ∧ PostX ⟨T.setVm vm₁, locs, cells, slots⟩ (Value.ref b :: argsL).toArray q B ∧
      Steps p.tables e below (T.setTop g) ((B.U.setTop { g with stack := rest }).pushFrame (.throwing q))) := by
  obtain ⟨mk, methM, hnamed, hmethM, hstM, habM⟩ := Cond.instanceMethod_spec hinst
  obtain ⟨m8, methM', cM, hn8, hmethM', -, -, -, -, -, -, hsigM⟩ := Cond.codeWith_spec hcode
  cases Option.some.inj (hn8.symm.trans hnamed)
  cases hmethM.symm.trans hmethM'
  obtain ⟨c2, r2, m2, q1, q2, q3, q4, kP, hkP, hkPi⟩ := Cond.selects_spec hsel
  cases hcls.symm.trans q1
  cases (State.methodFound?_of_named hnamed hy).symm.trans q2
  cases hnamed.symm.trans q3
  have hselP : selectMethod e.platform s.vm cellB.cls mk = .method mk := by rw [Launch.admits_selectMethod X.admits]; exact q4
  obtain ⟨vm₁, X₁, hstep₁⟩ := X.invokevirtual hexec hown hlink hnamed hmethM hstM hkP hkPi hy (a := b) (cell := cellB) hcell
    (fun z h => by rw [h] at hobj; cases hobj) hselP hmethM habM hkP hkPi (g := g) hg (argsL := argsL) (rest := rest) (hlen _ hsigM) hstack hdg
  rcases hK m meth c ⟨T.setVm vm₁, locs, cells, slots⟩ { g with stack := rest } (.invokevirtual index) mk (Value.ref b :: argsL).toArray X₁ hg hsize hdg hW (X₁.named hnamed) (hpre vm₁ X₁.warmed) with ⟨v, B, X', hpost, hsteps⟩ | ⟨q, B, X', hpost, hsteps⟩
  · exact Or.inl ⟨v, vm₁, B, X₁.warmed, X', hpost, fun target h => hstep₁ _ fun acts => by rw [doInvoke_state]; exact hsteps.trans h⟩
  · exact Or.inr ⟨q, vm₁, B, X₁.warmed, X', hpost, hstep₁ _ fun acts => by rw [doInvoke_state]; exact hsteps⟩
theorem vx_callSX (X : Stand p l e R s m args below meth c T locs cells slots) (hexec : p.tables.exec = Jvm.exec) {own : String} {index : Nat} {y : MethodName} {bytes : ByteArray} {maxL : Nat} {ret : Option FieldType} {hh : List (Nat × Nat × Nat × Nat)}
    (hown : s.vm.findClass own = some m.cls) (hlink : (Cond.methodLink own index y).before args s = true) (hstat : (Cond.static y).before args s = true) (hinit : (Cond.initialized y.cls).before args s = true)
    (hcode : (Cond.codeWith y bytes maxL ret hh).before args s = true) (hy : y.cls ≠ "java/lang/invoke/MethodHandle" ∧ y.cls ≠ "java/lang/invoke/VarHandle")
    {W9 : Nat} {Pre : Pt → Array Value → Prop} {Post : Pt → Array Value → Option Value → Pt → Prop} {PostX : Pt → Array Value → Addr → Pt → Prop} (hK : vx_Back l R p e below s args y 3 W9 Pre Post PostX)
    {g : JFrame} (hg : g.method = m) (hsize : g.locals.size = c.maxLocals) {argsL rest : List Value} (hlen : ∀ sig, parseMethodDescriptor y.desc = some sig → argsL.length = sig.parameters.length)
    (hstack : g.stack = argsL.reverse ++ rest) (hW : 2 * g.monitorRoom + (rest.map fun v => v.category).sum ≤ W9) (hdg : decode c.code g.pc = .ok (.invokestatic index, 3))
    (hpre : ∀ vm₁, s.WarmedH vm₁ → Pre ⟨T.setVm vm₁, locs, cells, slots⟩ argsL.toArray) :
    (∃ (v : Option Value) (vm₁ : Vm) (B : Pt), s.WarmedH vm₁ ∧ Stand p l e R s m args below meth c B.U B.locs B.cells B.slots ∧ Post ⟨T.setVm vm₁, locs, cells, slots⟩ argsL.toArray v B ∧
      ∀ target, Steps p.tables e below (B.U.setTop { g with pc := g.pc + 3, stack := v.toList ++ rest }) target → Steps p.tables e below (T.setTop g) target) ∨
    (∃ (q : Addr) (vm₁ : Vm) (B : Pt), s.WarmedH vm₁ ∧ Stand p l e R s m args below meth c B.U B.locs B.cells B.slots ∧ PostX ⟨T.setVm vm₁, locs, cells, slots⟩ argsL.toArray q B ∧
      Steps p.tables e below (T.setTop g) ((B.U.setTop { g with stack := rest }).pushFrame (.throwing q))) := by
  obtain ⟨mk, methM, cM, hnamed, hmethM, -, -, -, -, -, -, hsigM⟩ := Cond.codeWith_spec hcode
  have hstatic : methM.isStatic = true := Cond.static_spec hnamed hmethM hstat
  obtain ⟨kP, hkP, -⟩ := className_of_methodNamed hnamed
  have hinitP : kP.init = .initialized := Cond.initialized_spec (findClass_of_methodNamed hnamed) hkP hinit
  obtain ⟨vm₁, X₁, hstep₁⟩ := X.invokestatic hexec hown hlink hnamed hmethM hstatic hkP hinitP hy (g := g) hg (argsL := argsL) (rest := rest) (hlen _ hsigM) hstack hdg
  rcases hK m meth c ⟨T.setVm vm₁, locs, cells, slots⟩ { g with stack := rest } (.invokestatic index) mk argsL.toArray X₁ hg hsize hdg hW (X₁.named hnamed) (hpre vm₁ X₁.warmed) with ⟨v, B, X', hpost, hsteps⟩ | ⟨q, B, X', hpost, hsteps⟩
  · exact Or.inl ⟨v, vm₁, B, X₁.warmed, X', hpost, fun target h => hstep₁ _ fun acts => by rw [doInvoke_state]; exact hsteps.trans h⟩
  · exact Or.inr ⟨q, vm₁, B, X₁.warmed, X', hpost, hstep₁ _ fun acts => by rw [doInvoke_state]; exact hsteps⟩
theorem vx_callVW (X : Stand p l e R s m args below meth c T locs cells slots) (hexec : p.tables.exec = Jvm.exec) {own C : String} {index : Nat} {y : MethodName} {bytes : ByteArray} {maxL : Nat} {ret : Option FieldType} {hh : List (Nat × Nat × Nat × Nat)}
    (hown : s.vm.findClass own = some m.cls) (hlink : (Cond.methodLink own index y).before args s = true) (hinst : (Cond.instanceMethod y).before args s = true) (hsel : (Cond.selects C y y).before args s = true)
    (hcode : (Cond.codeWith y bytes maxL ret hh).before args s = true) (hy : y.cls ≠ "java/lang/invoke/MethodHandle" ∧ y.cls ≠ "java/lang/invoke/VarHandle")
    {W9 : Nat} {Pre : Pt → Array Value → Prop} {Post : Pt → Array Value → Option Value → Pt → Prop} (hK : Back l R p e below s args y 3 W9 Pre Post)
    {b : Addr} {cellB : Cell} (hcell : T.heap[b]? = some cellB) (hobj : cellB.vm.isStatics = false) (hcls : s.vm.findClass C = some cellB.cls)
    {g : JFrame} (hg : g.method = m) (hsize : g.locals.size = c.maxLocals) {argsL rest : List Value} (hlen : ∀ sig, parseMethodDescriptor y.desc = some sig → argsL.length = sig.parameters.length)
    (hstack : g.stack = argsL.reverse ++ .ref b :: rest) (hW : 2 * g.monitorRoom + (rest.map fun v => v.category).sum ≤ W9) (hdg : decode c.code g.pc = .ok (.invokevirtual index, 3))
    (hpre : ∀ vm₁, s.WarmedH vm₁ → Pre ⟨T.setVm vm₁, locs, cells, slots⟩ (Value.ref b :: argsL).toArray) :
    ∃ (v : Option Value) (vm₁ : Vm) (B : Pt), s.WarmedH vm₁ ∧ Stand p l e R s m args below meth c B.U B.locs B.cells B.slots ∧ Post ⟨T.setVm vm₁, locs, cells, slots⟩ (Value.ref b :: argsL).toArray v B ∧
      ∀ target, Steps p.tables e below (B.U.setTop { g with pc := g.pc + 3, stack := v.toList ++ rest }) target → Steps p.tables e below (T.setTop g) target := by
  obtain ⟨mk, methM, hnamed, hmethM, hstM, habM⟩ := Cond.instanceMethod_spec hinst
  obtain ⟨m8, methM', cM, hn8, hmethM', -, -, -, -, -, -, hsigM⟩ := Cond.codeWith_spec hcode
  cases Option.some.inj (hn8.symm.trans hnamed)
  cases hmethM.symm.trans hmethM'
  obtain ⟨c2, r2, m2, q1, q2, q3, q4, kP, hkP, hkPi⟩ := Cond.selects_spec hsel
  cases hcls.symm.trans q1
  cases (State.methodFound?_of_named hnamed hy).symm.trans q2
  cases hnamed.symm.trans q3
  have hselP : selectMethod e.platform s.vm cellB.cls mk = .method mk := by rw [Launch.admits_selectMethod X.admits]; exact q4
  obtain ⟨vm₁, X₁, hstep₁⟩ := X.invokevirtual hexec hown hlink hnamed hmethM hstM hkP hkPi hy (a := b) (cell := cellB) hcell
    (fun z h => by rw [h] at hobj; cases hobj) hselP hmethM habM hkP hkPi (g := g) hg (argsL := argsL) (rest := rest) (hlen _ hsigM) hstack hdg
  obtain ⟨v, B, X', hpost, hsteps⟩ := hK m meth c ⟨T.setVm vm₁, locs, cells, slots⟩ { g with stack := rest } (.invokevirtual index) mk (Value.ref b :: argsL).toArray X₁ hg hsize hdg hW (X₁.named hnamed) (hpre vm₁ X₁.warmed)
  exact ⟨v, vm₁, B, X₁.warmed, X', hpost, fun target h => hstep₁ _ fun acts => by rw [doInvoke_state]; exact hsteps.trans h⟩
abbrev vx_CVW (R : Room) (s : State) (args : Array Value) (own C : String) (index : Nat) (y : MethodName) (bytes : ByteArray) (maxL : Nat) (ret : Option FieldType) (hh : List (Nat × Nat × Nat × Nat)) (ws : List Cond) (rm : Room) (mc ms n : Nat) : Prop :=
  (rm.cells = mc ∧ rm.slots = ms ∧ rm.frames + 1 ≤ R.frames ∧ 8 + (maxL + 11) + rm.locals ≤ R.locals ∧ (∀ w ∈ ws, ∀ (a' : Array Value) (U : State), s.WarmedH U.vm → w.before a' U = true) ∧ Cond.codeWith y bytes maxL ret hh ∈ ws) ∧
  (Cond.codeWith y bytes maxL ret hh).before args s = true ∧ (Cond.initialized y.cls).before args s = true ∧ (y.cls ≠ "java/lang/invoke/MethodHandle" ∧ y.cls ≠ "java/lang/invoke/VarHandle") ∧
  (∀ sig, parseMethodDescriptor y.desc = some sig → n = sig.parameters.length) ∧ (Cond.methodLink own index y).before args s = true ∧ (Cond.instanceMethod y).before args s = true ∧ (Cond.selects C y y).before args s = true
theorem vx_cwVW {own C : String} {index maxL mc ms : Nat} {y : MethodName} {bytes : ByteArray} {ret : Option FieldType} {hh : List (Nat × Nat × Nat × Nat)} {Ts ws ws' : List Cond} {rm : Room} (n : Nat) (ht : ∀ w ∈ Ts, w.before args s = true) (hT : GoodIn Ts (wsV own index C y ws)) (hw : ws = Cond.codeWith y bytes maxL ret hh :: ws') (hrc : rm.cells = mc) (hrs : rm.slots = ms)
    (hd : y.cls = C ∧ y.cls ≠ "java/lang/invoke/MethodHandle" ∧ y.cls ≠ "java/lang/invoke/VarHandle" ∧ (parseMethodDescriptor y.desc).map (fun d => d.parameters.length) = some n) (hR : rm.frames + 1 ≤ R.frames ∧ 8 + (maxL + 11) + rm.locals ≤ R.locals) :
    vx_CVW R s args own C index y bytes maxL ret hh ws rm mc ms n := by
  obtain ⟨hC, hd⟩ := hd
  subst hC
  have ok : ∀ w ∈ wsV own index y.cls y ws, w.before args s = true := fun w h => ht w (hT w h).1
  have hG : GoodIn Ts ws := fun w h => hT w (by unfold wsV; exact List.mem_append_right _ h)
  have hc : Cond.codeWith y bytes maxL ret hh ∈ ws := by rw [hw]; exact List.mem_cons_self
  refine ⟨⟨hrc, hrs, hR.1, hR.2, pay_in ht hG, hc⟩, ht _ (hG _ hc).1, ok _ (by simp [wsV]), ⟨hd.1, hd.2.1⟩, fun sig h => ?_, ok _ (by simp [wsV]), ok _ (by simp [wsV]), ok _ (by simp [wsV])⟩
  have h2 := hd.2.2
  rw [h] at h2
  exact (Option.some.inj h2).symm
theorem vx_runVW {y : MethodName} {bytes cc : ByteArray} {maxL nL mc ms n index : Nat} {ret : Option FieldType} {hh : List (Nat × Nat × Nat × Nat)} {ws : List Cond} {rm : Room} {Pc : Array Value → State → Prop} {Qc : Array Value → State → Outcome → State → Prop} {free : Addr → Prop} {Ts : List Cond} {own C : String} {b : Addr} {As rest : List Value} {g : JFrame}
    (S : CallFix p m c cc nL s args Ts own) (hM : Met l y ws rm Pc Qc mc ms free) (cw : vx_CVW R s args own C index y bytes maxL ret hh ws rm mc ms n) (hp : PreV s H C b Pc As)
    (hg : g.method = m) (hn : As.length = n) (hsize : g.locals.size = nL) (hstack : g.stack = As.reverse ++ .ref b :: rest) (hW : 2 * g.monitorRoom + (rest.map fun v => v.category).sum ≤ 8) (hdg : decode cc g.pc = .ok (.invokevirtual index, 3)) (hf : cells + mc ≤ R.cells ∧ slots + ms ≤ R.slots) :
    va_Run p l e R s m args below meth c H locs cells slots mc ms g rest (Qc (Value.ref b :: As).toArray) free := by
  obtain ⟨⟨hrc, hrs, hfr, hlo, hws, hcw⟩, hcode, hini, hy, hlen, hl, hin, hse⟩ := cw
  have hK : Back l R p e below s args y 3 8 (PreOf R mc ms Pc) (PostOf Qc mc ms free) := va_backW (hh := hh) (bytes := bytes) (maxL := maxL) (ret := ret) hM hp.1 hrc hrs hfr hlo hws hcw (fun a' U hW => word_at hW (Or.inl (by first | rfl | simp [Cond.onTables, Cond.keeps, Cond.steady])) hini)
  obtain ⟨hx, hb, hml, ho, -⟩ := S
  obtain ⟨-, ⟨cellB, hcB, hoB, hclB⟩, hPc⟩ := hp
  intro T hT X
  obtain ⟨v, vm₁, ⟨U', l2, c2, s2⟩, hW₁, X', ⟨g', mk, t, L, e1, e2, hq, h1, hL, h2, h3⟩, st⟩ := vx_callVW X hx (C := C) (hh := hh) (bytes := bytes) (maxL := maxL) (ret := ret) ho hl hin hse hcode hy hK (by rw [hT]; exact hcB) hoB hclB hg (hsize.trans hml.symm) (argsL := As) (rest := rest) (fun sig h => hn.trans (hlen sig h)) hstack hW (by rw [hb]; exact hdg)
    (fun vm₁ hW₁ => ⟨hf.1, hf.2, hPc (T.setVm vm₁) hT hW₁⟩)
  dsimp only [Pt.U, Pt.locs, Pt.cells, Pt.slots] at X' e1 e2 h1 h2 h3 st
  subst h1; subst h2; subst h3
  exact ⟨v, (T.setVm vm₁).calling g' mk (Value.ref b :: As).toArray, t, U', L, hT, X', hL, e1, e2, hq, st⟩
section
variable {y : MethodName} {bytes cc : ByteArray} {maxL nL mc ms n index : Nat} {ret : Option FieldType} {ws : List Cond} {rm : Room} {Pc : Array Value → State → Prop} {Qc : Array Value → State → Outcome → State → Prop} {XC : String → State → State → Prop} {free : Addr → Prop} {Ts : List Cond} {own C : String} {b : Addr} {As rest : List Value} {g : JFrame}
theorem vx_runVX {hh : List (Nat × Nat × Nat × Nat)} (S : CallFix p m c cc nL s args Ts own) (hM : vx_Met l y ws rm Pc Qc XC mc ms free) (cw : vx_CVW R s args own C index y bytes maxL ret hh ws rm mc ms n) (hp : PreV s H C b Pc As)
    (hg : g.method = m) (hn : As.length = n) (hsize : g.locals.size = nL) (hstack : g.stack = As.reverse ++ .ref b :: rest) (hW : 2 * g.monitorRoom + (rest.map fun v => v.category).sum ≤ 8) (hdg : decode cc g.pc = .ok (.invokevirtual index, 3)) (hf : cells + mc ≤ R.cells ∧ slots + ms ≤ R.slots) :
    vx_Run p l e R s m args below meth c H locs cells slots mc ms g rest (Qc (Value.ref b :: As).toArray) XC free := by
  obtain ⟨⟨hrc, hrs, hfr, hlo, hws, hcw⟩, hcode, hini, hy, hlen, hl, hin, hse⟩ := cw
  have hK : vx_Back l R p e below s args y 3 8 (PreOf R mc ms Pc) (PostOf Qc mc ms free) (vx_Post XC mc ms free) := vx_backW (hh := hh) (bytes := bytes) (maxL := maxL) (ret := ret) hM hp.1 hrc hrs hfr hlo hws hcw (fun a' U hW => word_at hW (Or.inl (by first | rfl | simp [Cond.onTables, Cond.keeps, Cond.steady])) hini)
  obtain ⟨hx, hb, hml, ho, -⟩ := S
  obtain ⟨-, ⟨cellB, hcB, hoB, hclB⟩, hPc⟩ := hp
  intro T hT X
  rcases vx_callVX X hx (C := C) (hh := hh) (bytes := bytes) (maxL := maxL) (ret := ret) ho hl hin hse hcode hy hK (by rw [hT]; exact hcB) hoB hclB hg (hsize.trans hml.symm) (argsL := As) (rest := rest) (fun sig h => hn.trans (hlen sig h)) hstack hW (by rw [hb]; exact hdg)
    (fun vm₁ hW₁ => ⟨hf.1, hf.2, hPc (T.setVm vm₁) hT hW₁⟩) with ⟨v, vm₁, ⟨U', l2, c2, s2⟩, hW₁, X', ⟨g', mk, t, L, e1, e2, hq, h1, hL, h2, h3⟩, st⟩ | ⟨q, vm₁, ⟨U', l2, c2, s2⟩, hW₁, X', ⟨g', mk, t, L, E, ce, e1, e2, hq, hce, hcv, hcl, h1, hL, h2, h3⟩, st⟩
  · dsimp only [Pt.U, Pt.locs, Pt.cells, Pt.slots] at X' e1 e2 h1 h2 h3 st
    subst h1; subst h2; subst h3
    exact Or.inl ⟨v, (T.setVm vm₁).calling g' mk (Value.ref b :: As).toArray, t, U', L, hT, X', hL, e1, e2, hq, st⟩
  · dsimp only [Pt.U, Pt.locs, Pt.cells, Pt.slots] at X' e1 e2 h1 h2 h3 st hcl
    subst h1; subst h2; subst h3
    exact Or.inr ⟨q, (T.setVm vm₁).calling g' mk (Value.ref b :: As).toArray, t, U', L, E, ce, hT, X', hL, e1, e2, hq, hce, hcv, vx_cls hW₁ hcl, st⟩
theorem vx_runSX {hh : List (Nat × Nat × Nat × Nat)} (S : CallFix p m c cc nL s args Ts own) (hM : vx_Met l y ws rm Pc Qc XC mc ms free) (cw : vx_CSW R s args own index y bytes maxL ret hh ws rm mc ms n) (hp : PreS s H Pc As)
    (hg : g.method = m) (hn : As.length = n) (hsize : g.locals.size = nL) (hstack : g.stack = As.reverse ++ rest) (hW : 2 * g.monitorRoom + (rest.map fun v => v.category).sum ≤ 8) (hdg : decode cc g.pc = .ok (.invokestatic index, 3)) (hf : cells + mc ≤ R.cells ∧ slots + ms ≤ R.slots) :
    vx_Run p l e R s m args below meth c H locs cells slots mc ms g rest (Qc As.toArray) XC free := by
  obtain ⟨⟨hrc, hrs, hfr, hlo, hws, hcw⟩, hcode, hini, hy, hlen, hl, hstt⟩ := cw
  have hK : vx_Back l R p e below s args y 3 8 (PreOf R mc ms Pc) (PostOf Qc mc ms free) (vx_Post XC mc ms free) := vx_backW (hh := hh) (bytes := bytes) (maxL := maxL) (ret := ret) hM hp.1 hrc hrs hfr hlo hws hcw (fun a' U hW => word_at hW (Or.inl (by first | rfl | simp [Cond.onTables, Cond.keeps, Cond.steady])) hini)
  obtain ⟨hx, hb, hml, ho, -⟩ := S
  intro T hT X
  rcases vx_callSX X hx (hh := hh) (bytes := bytes) (maxL := maxL) (ret := ret) ho hl hstt hini hcode hy hK hg (hsize.trans hml.symm) (argsL := As) (rest := rest) (fun sig h => hn.trans (hlen sig h)) hstack hW (by rw [hb]; exact hdg)
    (fun vm₁ hW₁ => ⟨hf.1, hf.2, hp.2 (T.setVm vm₁) hT hW₁⟩) with ⟨v, vm₁, ⟨U', l2, c2, s2⟩, hW₁, X', ⟨g', mk, t, L, e1, e2, hq, h1, hL, h2, h3⟩, st⟩ | ⟨q, vm₁, ⟨U', l2, c2, s2⟩, hW₁, X', ⟨g', mk, t, L, E, ce, e1, e2, hq, hce, hcv, hcl, h1, hL, h2, h3⟩, st⟩
  · dsimp only [Pt.U, Pt.locs, Pt.cells, Pt.slots] at X' e1 e2 h1 h2 h3 st
    subst h1; subst h2; subst h3
    exact Or.inl ⟨v, (T.setVm vm₁).calling g' mk As.toArray, t, U', L, hT, X', hL, e1, e2, hq, st⟩
  · dsimp only [Pt.U, Pt.locs, Pt.cells, Pt.slots] at X' e1 e2 h1 h2 h3 st hcl
    subst h1; subst h2; subst h3
    exact Or.inr ⟨q, (T.setVm vm₁).calling g' mk As.toArray, t, U', L, E, ce, hT, X', hL, e1, e2, hq, hce, hcv, vx_cls hW₁ hcl, st⟩
end
end VXH
theorem vx_ofWH {l : Launch} {y : MethodName} {ws ws' : List Cond} {rm : Room} {Pc : Array Value → State → Prop} {Qc : Array Value → State → Outcome → State → Prop} {XC : String → State → State → Prop} {mc ms : Nat} {free : Addr → Prop} {cc : ByteArray} {maxL : Nat} {ret : Option FieldType} {hh : List (Nat × Nat × Nat × Nat)}
    (hy : plainName y.cls = true) (hw : ws = Cond.codeWith y cc maxL ret hh :: ws')
    (body : ∀ p e s m args below meth c s₁, BodyLoose p l y (headSpec ws rm) cc maxL ret e s m args below meth c s₁ → c.maxLocals = maxL → Pc args s →
      W p l e (headSpec ws rm).room s m args below meth c s.heap [] 0 0 (vx_MQ below Qc XC args s mc ms free) (entryFrame m args maxL)) : vx_Met l y ws rm Pc Qc XC mc ms free := by
  refine MetFree.of_bodyS (code := cc) (maxLocals := maxL) (ret := ret) hy ?_ ?_
  · intro args s m h hn
    obtain ⟨m9, meth, c, hn9, h1, h2, h3, h4, -, h5, h6, -⟩ := Cond.codeWith_spec (atoms_spec (ws := ws) h _ (by rw [hw]; exact List.mem_cons_self))
    cases hn.symm.trans hn9
    exact ⟨meth, c, h1, h2, h3, h4, h5, h6⟩
  · intro p e s m args below meth c s₁ B hml hP _
    have hh0 : s₁.heap = s.heap := by rw [B.state]; rfl
    obtain ⟨t, a1, o, b1, b2, b3⟩ := body p e s m args below meth c s₁ B hml hP s₁ hh0 (Stand.of_body B)
    exact ⟨t, o, a1, b1, b2, b3⟩
end
section
def gw : List Cond := lw_tbl.filter goodWord
theorem gw_t {w : Cond} (i : Nat) (h : tables_1[i]? = some w) (g : goodWord w = true) : w ∈ gw := List.mem_filter.mpr ⟨List.mem_append_right _ (List.mem_of_getElem? h), g⟩
theorem gw_s {w : Cond} (i : Nat) (h : (k2_sels lw_privs)[i]? = some w) (g : goodWord w = true) : w ∈ gw := List.mem_filter.mpr ⟨List.mem_append_left _ (List.mem_of_getElem? h), g⟩
theorem gw_good {w : Cond} (h : w ∈ gw) : (w.onTables && w.keeps) = true ∨ ∃ ty, w = .arrayClass ty := good_of_word (List.mem_filter.mp h).2
theorem gw_in {ws : List Cond} (h : ∀ w ∈ ws, w ∈ gw) : GoodIn gw ws := fun w hw => ⟨h w hw, gw_good (h w hw)⟩
def nw_is : Cond → Bool
  | .fieldLinkNest .. => true
  | .methodLinkNest .. => true
  | .declares _ => true
  | .castable .. => true
  | _ => false
def nwL : List Cond := lw_tbl.filter nw_is
theorem nw_t {w : Cond} (i : Nat) (h : tables_1[i]? = some w) (g : nw_is w = true) : w ∈ nwL := List.mem_filter.mpr ⟨List.mem_append_right _ (List.mem_of_getElem? h), g⟩
def nwH (U : State) : Prop := ∀ w ∈ nwL, va_Nw w U
theorem nwH.warm {s U : State} (hW : s.WarmedH U.vm) (h : nwH s) : nwH U := by
  intro w hw
  have h0 := h w hw
  have h1 := (List.mem_filter.mp hw).2
  cases w <;> first | exact va_Nw.warmF hW h0 | exact va_Nw.warmM hW h0 | exact va_Nw.warmD hW h0 | exact va_Nw.warmC hW h0 | cases h1
theorem nwH.of {s : State} {args : Array Value} (h : ∀ w ∈ lw_tbl, w.before args s = true) : nwH s := by
  intro w hw
  have h1 := (List.mem_filter.mp hw).2
  have h0 := h w (List.mem_filter.mp hw).1
  cases w <;> first | exact va_Nw.of rfl h0 | cases h1
theorem nwH.vm {s U : State} (e : s.vm = U.vm) (h : nwH s) : nwH U := by
  intro w hw
  have h1 := (List.mem_filter.mp hw).2
  have h0 := h w hw
  cases w <;> first | exact va_Nw.same rfl e h0 | cases h1
abbrev gG : Type := va_G × (Nat → ClassId) × Nat
def aA (Γ : gG) : Nat → Prop := fun q => Γ.2.2 ≤ q
abbrev tyL (Γ : gG) : List (ClassId × FieldType) := [(Γ.2.1 0, .int), (Γ.2.1 1, .long), (Γ.2.1 2, .boolean), (Γ.2.1 3, .object "RestSets$Table")]
def rn_X : String := "RestSets"
def fd_X : u_T := fun k => match k with
  | 0 => ("RestSets", "tables", "[LRestSets$Table;", true)
  | 1 => ("RestSets", "sorter", "LRestSets$Sorter;", true)
  | 2 => ("RestSets", "tally", "LRestSets$Tally;", true)
  | _ => ("RestSets", "made", "I", false)
def ft_X : Nat → FieldType := fun k => match k with
  | 0 => .array (.object "RestSets$Table")
  | 1 => .object "RestSets$Sorter"
  | 2 => .object "RestSets$Tally"
  | _ => .int
theorem nm_X : ∀ a, a < 4 → ∀ b, b < 4 → a ≠ b → (fd_X a).2.1 ≠ (fd_X b).2.1 := by decide +kernel
theorem tk_X : ∀ k, k < 4 → parseFieldDescriptor (fd_X k).2.2.1 = some (ft_X k) := by decide +kernel
theorem in_X : ∀ w ∈ u_ws rn_X fd_X 4, w ∈ gw := by decide +kernel
def rn_S : String := "RestSets$Sorter"
def fd_S : u_T := fun k => match k with
  | 0 => ("RestSets$Sorter", "machine", "LRestSets$Machine;", false)
  | 1 => ("RestSets$Sorter", "indexOf", "[I", true)
  | 2 => ("RestSets$Sorter", "placeAt", "[I", true)
  | 3 => ("RestSets$Sorter", "next", "[I", true)
  | 4 => ("RestSets$Sorter", "met", "I", false)
  | 5 => ("RestSets$Sorter", "answers", "[I", true)
  | 6 => ("RestSets$Sorter", "asked", "[I", true)
  | 7 => ("RestSets$Sorter", "testLetter", "[I", true)
  | 8 => ("RestSets$Sorter", "testTail", "[I", true)
  | 9 => ("RestSets$Sorter", "tests", "I", false)
  | 10 => ("RestSets$Sorter", "example", "[I", true)
  | 11 => ("RestSets$Sorter", "kinds", "I", false)
  | 12 => ("RestSets$Sorter", "numberOf", "[I", true)
  | _ => ("RestSets$Sorter", "kindAt", "[I", true)
def ft_S : Nat → FieldType := fun k => match k with
  | 0 => .object "RestSets$Machine"
  | 1 => .array .int
  | 2 => .array .int
  | 3 => .array .int
  | 4 => .int
  | 5 => .array .int
  | 6 => .array .int
  | 7 => .array .int
  | 8 => .array .int
  | 9 => .int
  | 10 => .array .int
  | 11 => .int
  | 12 => .array .int
  | _ => .array .int
theorem nm_S : ∀ a, a < 14 → ∀ b, b < 14 → a ≠ b → (fd_S a).2.1 ≠ (fd_S b).2.1 := by decide +kernel
theorem tk_S : ∀ k, k < 14 → parseFieldDescriptor (fd_S k).2.2.1 = some (ft_S k) := by decide +kernel
theorem in_S : ∀ w ∈ u_ws rn_S fd_S 14, w ∈ gw := by decide +kernel
def rn_T : String := "RestSets$Table"
def fd_T : u_T := fun k => match k with
  | 0 => ("RestSets$Table", "restCount", "I", false)
  | 1 => ("RestSets$Table", "ends", "I", false)
  | 2 => ("RestSets$Table", "live", "I", false)
  | 3 => ("RestSets$Table", "next", "[I", true)
  | _ => ("RestSets$Table", "far", "[I", true)
def ft_T : Nat → FieldType := fun k => match k with
  | 0 => .int
  | 1 => .int
  | 2 => .int
  | 3 => .array .int
  | _ => .array .int
theorem nm_T : ∀ a, a < 5 → ∀ b, b < 5 → a ≠ b → (fd_T a).2.1 ≠ (fd_T b).2.1 := by decide +kernel
theorem tk_T : ∀ k, k < 5 → parseFieldDescriptor (fd_T k).2.2.1 = some (ft_T k) := by decide +kernel
theorem in_T : ∀ w ∈ u_ws rn_T fd_T 5, w ∈ gw := by decide +kernel
def rn_Y : String := "RestSets$Tally"
def fd_Y : u_T := fun k => match k with
  | 0 => ("RestSets$Tally", "ways", "[J", true)
  | _ => ("RestSets$Tally", "longer", "[J", true)
def ft_Y : Nat → FieldType := fun k => match k with
  | 0 => .array .long
  | _ => .array .long
theorem nm_Y : ∀ a, a < 2 → ∀ b, b < 2 → a ≠ b → (fd_Y a).2.1 ≠ (fd_Y b).2.1 := by decide +kernel
theorem tk_Y : ∀ k, k < 2 → parseFieldDescriptor (fd_Y k).2.2.1 = some (ft_Y k) := by decide +kernel
theorem in_Y : ∀ w ∈ u_ws rn_Y fd_Y 2, w ∈ gw := by decide +kernel
def rn_O : String := "RestSets$OneLetter"
def fd_O : u_T := fun k => match k with
  | 0 => ("RestSets$OneLetter", "bits", "I", true)
  | _ => ("RestSets$OneLetter", "first", "I", true)
def ft_O : Nat → FieldType := fun k => match k with
  | 0 => .int
  | _ => .int
theorem nm_O : ∀ a, a < 2 → ∀ b, b < 2 → a ≠ b → (fd_O a).2.1 ≠ (fd_O b).2.1 := by decide +kernel
theorem tk_O : ∀ k, k < 2 → parseFieldDescriptor (fd_O k).2.2.1 = some (ft_O k) := by decide +kernel
theorem in_O : ∀ w ∈ u_ws rn_O fd_O 2, w ∈ gw := by decide +kernel
def rn_R : String := "RestSets$Recast"
def fd_R : u_T := fun k => match k with
  | 0 => ("RestSets$Recast", "table", "LRestSets$Table;", true)
  | 1 => ("RestSets$Recast", "first", "I", true)
  | _ => ("RestSets$Recast", "ends", "I", true)
def ft_R : Nat → FieldType := fun k => match k with
  | 0 => .object "RestSets$Table"
  | 1 => .int
  | _ => .int
theorem nm_R : ∀ a, a < 3 → ∀ b, b < 3 → a ≠ b → (fd_R a).2.1 ≠ (fd_R b).2.1 := by decide +kernel
theorem tk_R : ∀ k, k < 3 → parseFieldDescriptor (fd_R k).2.2.1 = some (ft_R k) := by decide +kernel
theorem in_R : ∀ w ∈ u_ws rn_R fd_R 3, w ∈ gw := by decide +kernel
def rn_B : String := "RestSets$Both"
def fd_B : u_T := fun k => match k with
  | 0 => ("RestSets$Both", "how", "I", true)
  | 1 => ("RestSets$Both", "one", "LRestSets$Table;", true)
  | _ => ("RestSets$Both", "other", "LRestSets$Table;", true)
def ft_B : Nat → FieldType := fun k => match k with
  | 0 => .int
  | 1 => .object "RestSets$Table"
  | _ => .object "RestSets$Table"
theorem nm_B : ∀ a, a < 3 → ∀ b, b < 3 → a ≠ b → (fd_B a).2.1 ≠ (fd_B b).2.1 := by decide +kernel
theorem tk_B : ∀ k, k < 3 → parseFieldDescriptor (fd_B k).2.2.1 = some (ft_B k) := by decide +kernel
theorem in_B : ∀ w ∈ u_ws rn_B fd_B 3, w ∈ gw := by decide +kernel
def rn_H : String := "RestSets$Then"
def fd_H : u_T := fun k => match k with
  | 0 => ("RestSets$Then", "one", "LRestSets$Table;", true)
  | _ => ("RestSets$Then", "other", "LRestSets$Table;", true)
def ft_H : Nat → FieldType := fun k => match k with
  | 0 => .object "RestSets$Table"
  | _ => .object "RestSets$Table"
theorem nm_H : ∀ a, a < 2 → ∀ b, b < 2 → a ≠ b → (fd_H a).2.1 ≠ (fd_H b).2.1 := by decide +kernel
theorem tk_H : ∀ k, k < 2 → parseFieldDescriptor (fd_H k).2.2.1 = some (ft_H k) := by decide +kernel
theorem in_H : ∀ w ∈ u_ws rn_H fd_H 2, w ∈ gw := by decide +kernel
def rn_N : String := "RestSets$Many"
def fd_N : u_T := fun k => match k with
  | _ => ("RestSets$Many", "table", "LRestSets$Table;", true)
def ft_N : Nat → FieldType := fun k => match k with
  | _ => .object "RestSets$Table"
theorem nm_N : ∀ a, a < 1 → ∀ b, b < 1 → a ≠ b → (fd_N a).2.1 ≠ (fd_N b).2.1 := by decide +kernel
theorem tk_N : ∀ k, k < 1 → parseFieldDescriptor (fd_N k).2.2.1 = some (ft_N k) := by decide +kernel
theorem in_N : ∀ w ∈ u_ws rn_N fd_N 1, w ∈ gw := by decide +kernel
def rn_K : String := "RestSets$Back"
def fd_K : u_T := fun k => match k with
  | _ => ("RestSets$Back", "table", "LRestSets$Table;", true)
def ft_K : Nat → FieldType := fun k => match k with
  | _ => .object "RestSets$Table"
theorem nm_K : ∀ a, a < 1 → ∀ b, b < 1 → a ≠ b → (fd_K a).2.1 ≠ (fd_K b).2.1 := by decide +kernel
theorem tk_K : ∀ k, k < 1 → parseFieldDescriptor (fd_K k).2.2.1 = some (ft_K k) := by decide +kernel
theorem in_K : ∀ w ∈ u_ws rn_K fd_K 1, w ∈ gw := by decide +kernel
def rn_M : String := "RestSetsModel"
def fd_M : u_T := fun k => match k with
  | 0 => ("RestSetsModel", "thrown", "I", false)
  | 1 => ("RestSetsModel", "sets", "I", false)
  | 2 => ("RestSetsModel", "states", "[I", true)
  | 3 => ("RestSetsModel", "start", "[I", true)
  | 4 => ("RestSetsModel", "next", "[I", true)
  | 5 => ("RestSetsModel", "ends", "[Z", true)
  | 6 => ("RestSetsModel", "how", "I", false)
  | 7 => ("RestSetsModel", "one", "I", false)
  | 8 => ("RestSetsModel", "two", "I", false)
  | 9 => ("RestSetsModel", "with", "I", false)
  | 10 => ("RestSetsModel", "codes", "I", false)
  | 11 => ("RestSetsModel", "number", "[I", true)
  | 12 => ("RestSetsModel", "code", "[I", true)
  | 13 => ("RestSetsModel", "to", "[I", true)
  | 14 => ("RestSetsModel", "group", "[I", true)
  | 15 => ("RestSetsModel", "other", "[I", true)
  | 16 => ("RestSetsModel", "first", "[I", true)
  | 17 => ("RestSetsModel", "live", "[Z", true)
  | 18 => ("RestSetsModel", "far", "[I", true)
  | 19 => ("RestSetsModel", "ways", "[J", true)
  | _ => ("RestSetsModel", "more", "[J", true)
def ft_M : Nat → FieldType := fun k => match k with
  | 0 => .int
  | 1 => .int
  | 2 => .array .int
  | 3 => .array .int
  | 4 => .array .int
  | 5 => .array .boolean
  | 6 => .int
  | 7 => .int
  | 8 => .int
  | 9 => .int
  | 10 => .int
  | 11 => .array .int
  | 12 => .array .int
  | 13 => .array .int
  | 14 => .array .int
  | 15 => .array .int
  | 16 => .array .int
  | 17 => .array .boolean
  | 18 => .array .int
  | 19 => .array .long
  | _ => .array .long
theorem nm_M : ∀ a, a < 21 → ∀ b, b < 21 → a ≠ b → (fd_M a).2.1 ≠ (fd_M b).2.1 := by decide +kernel
theorem tk_M : ∀ k, k < 21 → parseFieldDescriptor (fd_M k).2.2.1 = some (ft_M k) := by decide +kernel
theorem in_M : ∀ w ∈ u_ws rn_M fd_M 21, w ∈ gw := by decide +kernel
def rn_A : String := "RestSets$Machine"
def rn_L : String := "RestSetsLaw"
def rn_J : String := "java/lang/Integer"
abbrev cls : List vw_C := [(rn_X, fd_X, 4), (rn_S, fd_S, 14), (rn_T, fd_T, 5), (rn_Y, fd_Y, 2), (rn_O, fd_O, 2), (rn_R, fd_R, 3), (rn_B, fd_B, 3), (rn_H, fd_H, 2), (rn_N, fd_N, 1), (rn_K, fd_K, 1), (rn_M, fd_M, 21)]
def sT (Γ : gG) (s : State) (ws : va_W) (H : Heap) (locs : List Loc) : Prop := va_P Γ.1 cls ws H ∧ va_D (aA Γ) ws ∧ va_S (aA Γ) s.heap H locs
def cX (Γ : gG) (p : Program) (s : State) (m : MethodId) (args : Array Value) (meth : Method) (c : Code) (cc : ByteArray) (ret : Option FieldType) (own : String) (nL : Nat) : Prop :=
  p.tables.exec = Jvm.exec ∧ c.code = cc ∧ meth.sig.returnType = ret ∧ c.maxLocals = nL ∧ s.vm.findClass own = some m.cls ∧ (∀ w ∈ gw, w.before args s = true) ∧ meth.locks = false ∧ va_K Γ.1 cls (tyL Γ) s ∧ nwH s ∧ Γ.2.2 ≤ s.heap.size
def pR (Γ : gG) (ws : va_W) (U : State) : Prop := va_P Γ.1 cls ws U.heap ∧ va_D (aA Γ) ws ∧ va_K Γ.1 cls (tyL Γ) U ∧ nwH U ∧ Γ.2.2 ≤ U.heap.size
def qQ (Γ : gG) {S : Type} (post : Option Value → S → Prop) (ws' : S → va_W) : Array Value → State → Outcome → State → Prop := fun _ st oc t => (∃ (v : Option Value) (u : S), oc = .returned v ∧ post v u ∧ va_P Γ.1 cls (ws' u) t.heap ∧ va_D (aA Γ) (ws' u)) ∧ va_F (aA Γ) st t
/-- a method's contract over a world -/
def cT (l : Launch) (Γ : gG) (y : MethodName) (b : ByteArray) (nL : Nat) (ret : Option FieldType) (rm : Room) (As : List Value) (ws : va_W) {S : Type} (post : Option Value → S → Prop) (ws' : S → va_W) : Prop :=
  Met l y (.code y b nL ret :: gw) rm (va_Pc As (pR Γ ws)) (qQ Γ post ws') rm.cells rm.slots (aA Γ)
section BA
variable {p : Program} {l : Launch} {e : Env} {R : Room} {s : State} {m : MethodId} {args : Array Value} {below : List Frame} {meth : Method} {c : Code} {H : Heap} {locs : List Loc} {cells slots : Nat} {Q : State → Prop}
variable {Γ : gG} {cc : ByteArray} {ret : Option FieldType} {own : String} {nL pc : Nat} {ls : Array Slot} {rest : List Value} {ws : va_W}
theorem cX.x (C : cX Γ p s m args meth c cc ret own nL) : p.tables.exec = Jvm.exec := C.1
theorem cX.b (C : cX Γ p s m args meth c cc ret own nL) : c.code = cc := C.2.1
theorem cX.r (C : cX Γ p s m args meth c cc ret own nL) : meth.sig.returnType = ret := C.2.2.1
theorem cX.n (C : cX Γ p s m args meth c cc ret own nL) : c.maxLocals = nL := C.2.2.2.1
theorem cX.o (C : cX Γ p s m args meth c cc ret own nL) : s.vm.findClass own = some m.cls := C.2.2.2.2.1
theorem cX.t (C : cX Γ p s m args meth c cc ret own nL) : ∀ w ∈ gw, w.before args s = true := C.2.2.2.2.2.1
theorem cX.lk (C : cX Γ p s m args meth c cc ret own nL) : meth.locks = false := C.2.2.2.2.2.2.1
theorem cX.k (C : cX Γ p s m args meth c cc ret own nL) : va_K Γ.1 cls (tyL Γ) s := C.2.2.2.2.2.2.2.1
theorem cX.w (C : cX Γ p s m args meth c cc ret own nL) : nwH s := C.2.2.2.2.2.2.2.2.1
theorem cX.z (C : cX Γ p s m args meth c cc ret own nL) : Γ.2.2 ≤ s.heap.size := C.2.2.2.2.2.2.2.2.2
theorem cX.a (C : cX Γ p s m args meth c cc ret own nL) : ∀ q, s.heap.size ≤ q → aA Γ q := fun _ h => Nat.le_trans C.z h
theorem cT.start {y : MethodName} {rm : Room} {As : List Value} {S : Type} {post : Option Value → S → Prop} {ws' : S → va_W} (hy : plainName y.cls = true) (hn : (lg_sl As).length ≤ nL)
    (body : ∀ (p : Program) (e : Env) (s : State) (m : MethodId) (args : Array Value) (below : List Frame) (meth : Method) (c : Code) (ls : Array Slot) (Q : State → Prop), Q = MQ below (qQ Γ post ws') args s rm.cells rm.slots (aA Γ) → cX Γ p s m args meth c cc ret y.cls nL → meth.name = y.name → sT Γ s ws s.heap [] → lv_has ls nL (lv_args 0 As) →
      W p l e rm s m args below meth c s.heap [] 0 0 Q (F0 m 0 ls [])) : cT l Γ y cc nL ret rm As ws post ws' := by
  refine Met.ofW (cc := cc) (maxL := nL) (ret := ret) hy rfl ?_
  intro p e s m args below meth c s₁ B hml hv
  obtain ⟨rfl, hP, hD, hK, hN, hz⟩ := hv
  have hts := atoms_spec (ws := Cond.code y cc nL ret :: gw) B.pre
  have hl := lv_entry As (n := nL) hn
  rw [lg_entry_eq]
  exact body p e s m _ below meth c _ _ rfl ⟨B.exec, B.bytes, B.returns, hml, findClass_of_methodNamed B.named, fun w h => hts w (List.mem_cons_of_mem _ h), B.notSynchronized, hK, hN, hz⟩ (name_of_methodNamed B.named B.method).1 ⟨hP, hD, va_S.rf⟩ hl
theorem tp_i {x y : Int32} (h : x = y) (k : W p l e R s m args below meth c H locs cells slots Q (F0 m pc ls (.int y :: rest))) : W p l e R s m args below meth c H locs cells slots Q (F0 m pc ls (.int x :: rest)) := h ▸ k
theorem tp_l {x y : Int64} (h : x = y) (k : W p l e R s m args below meth c H locs cells slots Q (F0 m pc ls (.long y :: rest))) : W p l e R s m args below meth c H locs cells slots Q (F0 m pc ls (.long x :: rest)) := h ▸ k
theorem sT.eq {ws2 : va_W} (h : sT Γ s ws H locs) (q : ws = ws2) : sT Γ s ws2 H locs := q ▸ h
theorem rt_i {S : Type} {post : Option Value → S → Prop} {ws' : S → va_W} {v : Int32} (C : cX Γ p s m args meth c cc (some .int) own nL) (u : S) (h : sT Γ s (ws' u) H locs) (hp : post (some (.int v)) u) (hdg : decode cc pc = .ok (.ireturn, 1)) :
    W p l e R s m args below meth c H locs cells slots (MQ below (qQ Γ post ws') args s cells slots (aA Γ)) (F0 m pc ls [.int v]) :=
  W.iret C.x C.b C.r (fun t ht _ => ⟨⟨_, u, rfl, hp, by rw [ht]; exact h.1, h.2.1⟩, h.2.2.F ht⟩) h.2.2.2.2 hdg C.lk
theorem rt_z {S : Type} {post : Option Value → S → Prop} {ws' : S → va_W} {v : Int32} (C : cX Γ p s m args meth c cc (some .boolean) own nL) (u : S) (h : sT Γ s (ws' u) H locs) (hp : post (some (.int v)) u) (hv : v = 0 ∨ v = 1) (hdg : decode cc pc = .ok (.ireturn, 1)) :
    W p l e R s m args below meth c H locs cells slots (MQ below (qQ Γ post ws') args s cells slots (aA Γ)) (F0 m pc ls [.int v]) :=
  W.zret C.x C.b C.r (by rcases hv with rfl | rfl <;> decide +kernel) (fun t ht _ => ⟨⟨_, u, rfl, hp, by rw [ht]; exact h.1, h.2.1⟩, h.2.2.F ht⟩) h.2.2.2.2 hdg C.lk
theorem rt_l {S : Type} {post : Option Value → S → Prop} {ws' : S → va_W} {v : Int64} (C : cX Γ p s m args meth c cc (some .long) own nL) (u : S) (h : sT Γ s (ws' u) H locs) (hp : post (some (.long v)) u) (hdg : decode cc pc = .ok (.lreturn, 1)) :
    W p l e R s m args below meth c H locs cells slots (MQ below (qQ Γ post ws') args s cells slots (aA Γ)) (F0 m pc ls [.long v]) :=
  W.lret C.x C.b C.r (fun t ht _ => ⟨⟨_, u, rfl, hp, by rw [ht]; exact h.1, h.2.1⟩, h.2.2.F ht⟩) h.2.2.2.2 hdg C.lk
theorem rt_v {S : Type} {post : Option Value → S → Prop} {ws' : S → va_W} (C : cX Γ p s m args meth c cc none own nL) (u : S) (h : sT Γ s (ws' u) H locs) (hp : post none u) (hdg : decode cc pc = .ok (.return_, 1)) :
    W p l e R s m args below meth c H locs cells slots (MQ below (qQ Γ post ws') args s cells slots (aA Γ)) (F0 m pc ls []) :=
  W.vret C.x C.b C.r (fun t ht _ => ⟨⟨_, u, rfl, hp, by rw [ht]; exact h.1, h.2.1⟩, h.2.2.F ht⟩) h.2.2.2.2 hdg C.lk
/-- a method of the class cn, of n arguments, its words -/
def mW (cn : String) (y : MethodName) (b : ByteArray) (nL : Nat) (ret : Option FieldType) (n : Nat) : Prop :=
  Cond.code y b nL ret ∈ gw ∧ Cond.instanceMethod y ∈ gw ∧ Cond.selects cn y y ∈ gw ∧ Cond.initialized cn ∈ gw ∧ (y.cls = cn ∧ y.cls ≠ "java/lang/invoke/MethodHandle" ∧ y.cls ≠ "java/lang/invoke/VarHandle" ∧ (parseMethodDescriptor y.desc).map (fun d => d.parameters.length) = some n)
theorem pR.blind {As : List Value} : FrameBlind (va_Pc As (pR Γ ws)) := by
  intro a U g mk q
  obtain ⟨q0, q1, q2, q3, q4, q5⟩ := q
  exact ⟨q0, q1, q2, va_K.moved (u := U) (U := U.calling g mk a) (Vm.Alike.refl U.vm) q3, nwH.vm (s := U) (U := U.calling g mk a) rfl q4, q5⟩
theorem sT.pre (C : cX Γ p s m args meth c cc ret own nL) (h : sT Γ s ws H locs) {As : List Value} : ∀ U : State, U.heap = H → s.WarmedH U.vm → va_Pc As (pR Γ ws) As.toArray U := fun U hU hW =>
  ⟨rfl, by rw [hU]; exact h.1, h.2.1, va_K.moved hW.alike C.k, nwH.warm hW C.w, by rw [hU]; exact Nat.le_trans C.z h.2.2.1⟩
theorem kv_run {S : Type} {post : Option Value → S → Prop} {ws' : S → va_W} {mc ms : Nat} {a : Array Value} {st0 : List Value} (h : sT Γ s ws H locs) (hr : va_Run p l e R s m args below meth c H locs cells slots mc ms (F0 m pc ls st0) rest (qQ Γ post ws' a) (aA Γ))
    (kk : ∀ (v : Option Value) (u : S) (H1 : Heap) (locs1 : List Loc), post v u → sT Γ s (ws' u) H1 locs1 → W p l e R s m args below meth c H1 locs1 (cells + mc) (slots + ms) Q (F0 m (pc + 3) ls (v.toList ++ rest))) : W p l e R s m args below meth c H locs cells slots Q (F0 m pc ls st0) := by
  intro T hT X
  obtain ⟨v, st₀, t, T', L, h0, X', hL, e1, e2, ⟨⟨v', u, hv, hp, hb, hd⟩, hz, hk⟩, st⟩ := hr T hT X
  cases hv
  rw [h0] at hz hk
  have hS := h.2.2
  obtain ⟨t2, a1, b1⟩ := kk v u T'.heap (locs ++ L) hp ⟨by rw [e1]; exact hb, hd, ⟨Nat.le_trans hS.1 (by rw [e1]; exact hz), fun q h1 h2 => by rw [e1, hk q (Nat.lt_of_lt_of_le h1 hS.1) h2]; exact hS.2.1 q h1 h2, fun q hq => by
      rcases List.mem_append.mp hq with h | h
      · exact hS.2.2 q h
      · exact hL q h⟩⟩ T' rfl X'
  exact ⟨t2, st t2 a1, b1⟩
/-- a call of a method of the receiver's own class -/
theorem kv_V {S : Type} {post : Option Value → S → Prop} {ws' : S → va_W} {y : MethodName} {b : ByteArray} {nLy idx n a q0 ci N : Nat} {rety : Option FieldType} {rm : Room} {cn : String} {T : u_T} {fs As : List Value} (C : cX Γ p s m args meth c cc ret own nL) (h : sT Γ s ws H locs) (hl : ls.size = nL)
    (hM : cT l Γ y b nLy rety rm (.ref a :: As) ws post ws') (hm : mW cn y b nLy rety n) (hk : Cond.methodLink own idx y ∈ gw) (he : ws[q0]? = some (a, .inr (ci, fs))) (hc : cls[ci]? = some (cn, T, N)) (hn : As.length = n) (hR : rm.frames + 1 ≤ R.frames ∧ 8 + (nLy + 11) + rm.locals ≤ R.locals) (hf : cells + rm.cells ≤ R.cells ∧ slots + rm.slots ≤ R.slots) (hs : (rest.map fun v => v.category).sum ≤ 8)
    (hdg : decode cc pc = .ok (.invokevirtual idx, 3))
    (kk : ∀ (v : Option Value) (u : S) (H1 : Heap) (locs1 : List Loc), post v u → sT Γ s (ws' u) H1 locs1 → W p l e R s m args below meth c H1 locs1 (cells + rm.cells) (slots + rm.slots) Q (F0 m (pc + 3) ls (v.toList ++ rest))) : W p l e R s m args below meth c H locs cells slots Q (F0 m pc ls (As.reverse ++ .ref a :: rest)) := by
  refine kv_run h (va_runV (As := As) (rest := rest) (Ts := gw) ⟨C.x, C.b, C.n, C.o, C.t⟩ hM (cwV n C.t (gw_in (fun w hw => ?_)) rfl rfl rfl hm.2.2.2.2 hR) ⟨pR.blind, va_recv C.k h.1 hc he, h.pre C⟩ rfl hn hl rfl (lv_room (m := m) (pc := pc) (ls := ls) (rest := []) hs) hdg hf) kk
  simp only [wsV, List.cons_append, List.nil_append, List.mem_cons] at hw
  rcases hw with rfl | rfl | rfl | rfl | rfl | hw
  · exact hk
  · exact hm.2.1
  · exact hm.2.2.1
  · exact hm.2.2.2.1
  · exact hm.1
  · exact hw
/-- a call of a constructor -/
def mI' (y : MethodName) (b : ByteArray) (nL : Nat) (n : Nat) : Prop :=
  Cond.code y b nL none ∈ gw ∧ Cond.instanceMethod y ∈ gw ∧ Cond.initialized y.cls ∈ gw ∧ y.name = "<init>" ∧ (y.cls ≠ "java/lang/invoke/MethodHandle" ∧ y.cls ≠ "java/lang/invoke/VarHandle" ∧ (parseMethodDescriptor y.desc).map (fun d => d.parameters.length) = some n)
theorem gw_cw {y : MethodName} {b : ByteArray} {nLy : Nat} {rety : Option FieldType} (h : Cond.code y b nLy rety ∈ gw) : GoodIn gw (Cond.code y b nLy rety :: gw) := gw_in (fun w hw => (List.mem_cons.mp hw).elim (fun e => e ▸ h) id)
theorem kv_I {S : Type} {post : Option Value → S → Prop} {ws' : S → va_W} {y : MethodName} {b : ByteArray} {nLy idx n a : Nat} {rm : Room} {As : List Value} (C : cX Γ p s m args meth c cc ret own nL) (h : sT Γ s ws H locs) (hl : ls.size = nL)
    (hM : cT l Γ y b nLy none rm (.ref a :: As) ws post ws') (hm : mI' y b nLy n) (hk : Cond.methodLink own idx y ∈ gw) (hn : As.length = n) (hR : rm.frames + 1 ≤ R.frames ∧ 8 + (nLy + 11) + rm.locals ≤ R.locals) (hf : cells + rm.cells ≤ R.cells ∧ slots + rm.slots ≤ R.slots) (hs : (rest.map fun v => v.category).sum ≤ 8)
    (hdg : decode cc pc = .ok (.invokespecial idx, 3))
    (kk : ∀ (v : Option Value) (u : S) (H1 : Heap) (locs1 : List Loc), post v u → sT Γ s (ws' u) H1 locs1 → W p l e R s m args below meth c H1 locs1 (cells + rm.cells) (slots + rm.slots) Q (F0 m (pc + 3) ls (v.toList ++ rest))) : W p l e R s m args below meth c H locs cells slots Q (F0 m pc ls (As.reverse ++ .ref a :: rest)) := by
  refine kv_run h (va_runI (As := As) (rest := rest) (Ts := gw) ⟨C.x, C.b, C.n, C.o, C.t⟩ hM (cwI n C.t (gw_cw hm.1) rfl rfl rfl (C.t _ hm.2.2.1) (C.t _ hk) (C.t _ hm.2.1) hm.2.2.2.1 hm.2.2.2.2 hR) ⟨pR.blind, h.pre C⟩ rfl hn hl rfl (lv_room (m := m) (pc := pc) (ls := ls) (rest := []) hs) hdg hf) kk
theorem kv_IN {S : Type} {post : Option Value → S → Prop} {ws' : S → va_W} {y : MethodName} {b : ByteArray} {nLy idx n a : Nat} {rm : Room} {host : String} {As : List Value} (C : cX Γ p s m args meth c cc ret own nL) (h : sT Γ s ws H locs) (hl : ls.size = nL)
    (hM : cT l Γ y b nLy none rm (.ref a :: As) ws post ws') (hm : mI' y b nLy n) (hk : Cond.methodLinkNest own idx y host ∈ nwL) (hn : As.length = n) (hR : rm.frames + 1 ≤ R.frames ∧ 8 + (nLy + 11) + rm.locals ≤ R.locals) (hf : cells + rm.cells ≤ R.cells ∧ slots + rm.slots ≤ R.slots) (hs : (rest.map fun v => v.category).sum ≤ 8)
    (hdg : decode cc pc = .ok (.invokespecial idx, 3))
    (kk : ∀ (v : Option Value) (u : S) (H1 : Heap) (locs1 : List Loc), post v u → sT Γ s (ws' u) H1 locs1 → W p l e R s m args below meth c H1 locs1 (cells + rm.cells) (slots + rm.slots) Q (F0 m (pc + 3) ls (v.toList ++ rest))) : W p l e R s m args below meth c H locs cells slots Q (F0 m pc ls (As.reverse ++ .ref a :: rest)) := by
  refine kv_run h (va_runIN (As := As) (rest := rest) (Ts := gw) ⟨C.x, C.b, C.n, C.o, C.t⟩ hM ⟨va_cnB n C.t (gw_cw hm.1) rfl rfl rfl (C.w _ hk) (C.t _ hm.2.2.1) hm.2.2.2.2 hR, hm.2.2.2.1, C.t _ hm.2.1⟩ ⟨pR.blind, h.pre C⟩ rfl hn hl rfl (lv_room (m := m) (pc := pc) (ls := ls) (rest := []) hs) hdg hf) kk
theorem kv_S {S : Type} {post : Option Value → S → Prop} {ws' : S → va_W} {y : MethodName} {b : ByteArray} {nLy idx n : Nat} {rety : Option FieldType} {rm : Room} {As : List Value} (C : cX Γ p s m args meth c cc ret own nL) (h : sT Γ s ws H locs) (hl : ls.size = nL)
    (hM : cT l Γ y b nLy rety rm As ws post ws') (hcd : Cond.code y b nLy rety ∈ gw) (hst : Cond.static y ∈ gw) (hini : Cond.initialized y.cls ∈ gw) (hk : Cond.methodLink own idx y ∈ gw) (hd : y.cls ≠ "java/lang/invoke/MethodHandle" ∧ y.cls ≠ "java/lang/invoke/VarHandle" ∧ (parseMethodDescriptor y.desc).map (fun d => d.parameters.length) = some n) (hn : As.length = n) (hR : rm.frames + 1 ≤ R.frames ∧ 8 + (nLy + 11) + rm.locals ≤ R.locals) (hf : cells + rm.cells ≤ R.cells ∧ slots + rm.slots ≤ R.slots) (hs : (rest.map fun v => v.category).sum ≤ 8)
    (hdg : decode cc pc = .ok (.invokestatic idx, 3))
    (kk : ∀ (v : Option Value) (u : S) (H1 : Heap) (locs1 : List Loc), post v u → sT Γ s (ws' u) H1 locs1 → W p l e R s m args below meth c H1 locs1 (cells + rm.cells) (slots + rm.slots) Q (F0 m (pc + 3) ls (v.toList ++ rest))) : W p l e R s m args below meth c H locs cells slots Q (F0 m pc ls (As.reverse ++ rest)) := by
  refine kv_run h (va_runS (As := As) (rest := rest) (Ts := gw) ⟨C.x, C.b, C.n, C.o, C.t⟩ hM ⟨callB_of n C.t (gw_cw hcd) rfl rfl rfl (C.t _ hini) (C.t _ hk) hd hR, C.t _ hst⟩ ⟨pR.blind, h.pre C⟩ rfl hn hl rfl (lv_room (m := m) (pc := pc) (ls := ls) (rest := []) hs) hdg hf) kk
/-- a call of an abstract method -/
def mA (cn : String) (x y : MethodName) (b : ByteArray) (nL : Nat) (ret : Option FieldType) (n : Nat) : Prop :=
  Cond.code y b nL ret ∈ gw ∧ Cond.instanceMethod y ∈ gw ∧ Cond.selects cn x y ∈ gw ∧ Cond.initialized y.cls ∈ gw ∧ Cond.sameMethod x.cls x.cls x.name x.desc ∈ gw ∧ Cond.declares ⟨x.cls, x.name, x.desc⟩ ∈ nwL ∧ (x.cls ≠ "java/lang/invoke/MethodHandle" ∧ x.cls ≠ "java/lang/invoke/VarHandle" ∧ (parseMethodDescriptor x.desc).map (fun d => d.parameters.length) = some n)
theorem kv_A {S : Type} {post : Option Value → S → Prop} {ws' : S → va_W} {x y : MethodName} {b : ByteArray} {nLy idx n a q0 ci N : Nat} {rety : Option FieldType} {rm : Room} {cn : String} {T : u_T} {fs As : List Value} (C : cX Γ p s m args meth c cc ret own nL) (h : sT Γ s ws H locs) (hl : ls.size = nL)
    (hM : cT l Γ y b nLy rety rm (.ref a :: As) ws post ws') (hm : mA cn x y b nLy rety n) (hk : Cond.methodLink own idx x ∈ gw) (he : ws[q0]? = some (a, .inr (ci, fs))) (hc : cls[ci]? = some (cn, T, N)) (hn : As.length = n) (hR : rm.frames + 1 ≤ R.frames ∧ 8 + (nLy + 11) + rm.locals ≤ R.locals) (hf : cells + rm.cells ≤ R.cells ∧ slots + rm.slots ≤ R.slots) (hs : (rest.map fun v => v.category).sum ≤ 8)
    (hdg : decode cc pc = .ok (.invokevirtual idx, 3))
    (kk : ∀ (v : Option Value) (u : S) (H1 : Heap) (locs1 : List Loc), post v u → sT Γ s (ws' u) H1 locs1 → W p l e R s m args below meth c H1 locs1 (cells + rm.cells) (slots + rm.slots) Q (F0 m (pc + 3) ls (v.toList ++ rest))) : W p l e R s m args below meth c H locs cells slots Q (F0 m pc ls (As.reverse ++ .ref a :: rest)) := by
  refine kv_run h (va_runU (As := As) (rest := rest) (Ts := gw) (owner := x.cls) ⟨C.x, C.b, C.n, C.o, C.t⟩ hM (va_cwA n C.t (gw_in (fun w hw => ?_)) rfl rfl rfl (C.w _ hm.2.2.2.2.2.1) hm.2.2.2.2.2.2 hR) ⟨pR.blind, va_recv C.k h.1 hc he, h.pre C⟩ rfl hn hl rfl (lv_room (m := m) (pc := pc) (ls := ls) (rest := []) hs) hdg hf) kk
  simp only [va_wsU, List.cons_append, List.nil_append, List.mem_cons] at hw
  rcases hw with rfl | rfl | rfl | rfl | rfl | rfl | hw
  · exact hk
  · exact hm.2.2.2.2.1
  · exact hm.2.2.1
  · exact hm.2.1
  · exact hm.2.2.2.1
  · exact hm.1
  · exact hw
end BA
end
section
/-! numbers -/
def mI (n : Nat) : Int32 := nI n - 1
def bI (b : Bool) : Int32 := if b then 1 else 0
def nF (f : Nat → Nat) : Nat → Int32 := fun j => nI (f j)
def mF (f : Nat → Nat) : Nat → Int32 := fun j => mI (f j)
def us {α : Type} (f : Nat → α) (k : Nat) (v : α) : Nat → α := fun j => if j = k then v else f j
theorem us_s {α : Type} (f : Nat → α) (k : Nat) (v : α) : us f k v k = v := if_pos rfl
theorem us_n {α : Type} (f : Nat → α) {k j : Nat} (v : α) (h : j ≠ k) : us f k v j = f j := if_neg h
theorem nF_upd {f : Nat → Nat} {i v : Nat} (hi : i < 2 ^ 31) : upd (nF f) (nI i).toNatClampNeg (nI v) = nF (us f i v) := by
  funext j
  rw [nI_clamp hi]
  unfold upd nF us
  by_cases h : j = i <;> simp [h]
theorem mF_upd {f : Nat → Nat} {i v : Nat} (hi : i < 2 ^ 31) : upd (mF f) (nI i).toNatClampNeg (mI v) = mF (us f i v) := by
  funext j
  rw [nI_clamp hi]
  unfold upd mF us
  by_cases h : j = i <;> simp [h]
theorem mI_s (n : Nat) : nI n = mI (n + 1) := (nI_pred n).symm
theorem mI_0 : (-1 : Int32) = mI 0 := by decide +kernel
theorem mI_toInt {n : Nat} (h : n < 2 ^ 31) : (mI n).toInt = (n : Int) - 1 := by
  cases n with
  | zero => decide +kernel
  | succ n => rw [← mI_s, nI_toInt (by omega)]; omega
theorem mI_lt0 {n : Nat} (h : n < 2 ^ 31) : mI n < 0 ↔ n = 0 := by
  rw [Int32.lt_iff_toInt_lt, mI_toInt h, Int32.toInt_zero]; omega
theorem mI_eqm {a b : Nat} (ha : a < 2 ^ 31) (hb : b < 2 ^ 31) : mI a = mI b ↔ a = b := by
  rw [← Int32.toInt_inj, mI_toInt ha, mI_toInt hb]; omega
theorem nI_or (a b : Nat) : nI a ||| nI b = nI (a ||| b) := by
  apply Int32.toBitVec_inj.1
  show BitVec.ofNat 32 a ||| BitVec.ofNat 32 b = BitVec.ofNat 32 (a ||| b)
  apply BitVec.eq_of_getLsbD_eq
  intro i hi
  simp [hi]
theorem nI_and (a b : Nat) : nI a &&& nI b = nI (a &&& b) := by
  apply Int32.toBitVec_inj.1
  show BitVec.ofNat 32 a &&& BitVec.ofNat 32 b = BitVec.ofNat 32 (a &&& b)
  apply BitVec.eq_of_getLsbD_eq
  intro i hi
  simp [hi]
theorem nI_xor (a b : Nat) : nI a ^^^ nI b = nI (a ^^^ b) := by
  apply Int32.toBitVec_inj.1
  show BitVec.ofNat 32 a ^^^ BitVec.ofNat 32 b = BitVec.ofNat 32 (a ^^^ b)
  apply BitVec.eq_of_getLsbD_eq
  intro i hi
  simp [hi]
theorem sh_l : ∀ n, n < 32 → ((nI n &&& 31).toBitVec.smod 32).toNat = n := by decide +kernel
theorem nI_shl {a n : Nat} (hn : n < 32) (h : a * 2 ^ n < 2 ^ 32) : nI a <<< (nI n &&& 31) = nI (a * 2 ^ n) := pk_shlN _ n (sh_l n hn) h
theorem pw_le : ∀ n, n < 31 → 2 ^ n < 2 ^ 31 := fun n h => Nat.pow_lt_pow_right (by decide) h
theorem nI_shl1 {n : Nat} (hn : n < 31) : nI 1 <<< (nI n &&& 31) = nI (2 ^ n) := by
  have h := pw_le n hn
  rw [nI_shl (by omega) (by omega), Nat.one_mul]
theorem nI_shr {a n : Nat} (ha : a < 2 ^ 31) (hn : n < 32) : nI a >>> (nI n &&& 31) = nI (a / 2 ^ n) := pk_shrN ha _ n (sh_l n hn)
theorem nI_and1 (a : Nat) : nI a &&& 1 = nI (a % 2) := by
  show nI a &&& nI 1 = _
  rw [nI_and, Nat.and_one_is_mod]
theorem tb_iff (a n : Nat) : a / 2 ^ n % 2 ≠ 0 ↔ a.testBit n = true := by
  rw [Nat.testBit_eq_decide_div_mod_eq, decide_eq_true_eq]; omega
theorem tb_iff0 (a n : Nat) : a / 2 ^ n % 2 = 0 ↔ a.testBit n = false := by
  rw [Nat.testBit_eq_decide_div_mod_eq, decide_eq_false_iff_not]; omega
theorem tb_iff1 (a n : Nat) : a / 2 ^ n % 2 = 1 ↔ a.testBit n = true := by
  rw [Nat.testBit_eq_decide_div_mod_eq, decide_eq_true_eq]
theorem bI_0 (b : Bool) : bI b = 0 ↔ b = false := by cases b <;> decide +kernel
theorem bI_01 (b : Bool) : bI b = 0 ∨ bI b = 1 := by cases b <;> decide +kernel
theorem bI_n (b : Bool) : bI b = nI b.toNat := by cases b <;> decide +kernel
section RW
variable {p : Program} {l : Launch} {e : Env} {R : Room} {s : State} {m : MethodId} {args : Array Value} {below : List Frame} {meth : Method} {c : Code} {H : Heap} {locs : List Loc} {cells slots : Nat} {Q : State → Prop}
variable {Γ : gG} {cc : ByteArray} {ret : Option FieldType} {own : String} {nL pc : Nat} {ls : Array Slot} {rest : List Value} {ws : va_W}
theorem rg_get {a ci N idx : Nat} {cn : String} {T : u_T} {fs : List Value} {v : Value} (C : cX Γ p s m args meth c cc ret own nL) (h : sT Γ s ws H locs) (q0 : Nat) (he : ws[q0]? = some (a, .inr (ci, fs))) (hc : cls[ci]? = some (cn, T, N)) (hin : ∀ w ∈ u_ws cn T N, w ∈ gw) (k : Nat) (hk : k < N) (hlink : Cond.fieldLink own idx (T k).1 (T k).2.1 (T k).2.2.1 ∈ gw) (hv : fs[k]? = some v) (hdg : decode cc pc = .ok (.getfield idx, 3))
    (kk : W p l e R s m args below meth c H locs cells slots Q (F0 m (pc + 3) ls (v :: rest))) : W p l e R s m args below meth c H locs cells slots Q (F0 m pc ls (.ref a :: rest)) :=
  va_get C.x C.b C.t hin C.o C.k h.1 q0 he hc k hk (C.t _ hlink) (fun _ h9 => h9) hv hdg kk
theorem rg_getN {a ci N idx : Nat} {cn host : String} {T : u_T} {fs : List Value} {v : Value} (C : cX Γ p s m args meth c cc ret own nL) (h : sT Γ s ws H locs) (q0 : Nat) (he : ws[q0]? = some (a, .inr (ci, fs))) (hc : cls[ci]? = some (cn, T, N)) (hin : ∀ w ∈ u_ws cn T N, w ∈ gw) (k : Nat) (hk : k < N) (hlink : Cond.fieldLinkNest own idx (T k).1 (T k).2.1 (T k).2.2.1 host ∈ nwL) (hv : fs[k]? = some v) (hdg : decode cc pc = .ok (.getfield idx, 3))
    (kk : W p l e R s m args below meth c H locs cells slots Q (F0 m (pc + 3) ls (v :: rest))) : W p l e R s m args below meth c H locs cells slots Q (F0 m pc ls (.ref a :: rest)) :=
  va_getN C.x C.b C.t hin C.o C.k h.1 q0 he hc k hk (va_Nw.use rfl (C.w _ hlink)) (fun _ h9 => h9) hv hdg kk
theorem rg_put {a ci N idx : Nat} {cn : String} {T : u_T} {ty0 : Nat → FieldType} {fs : List Value} {v : Value} {ty : FieldType} (C : cX Γ p s m args meth c cc ret own nL) (h : sT Γ s ws H locs) (q0 : Nat) (he : ws[q0]? = some (a, .inr (ci, fs))) (hc : cls[ci]? = some (cn, T, N)) (hin : ∀ w ∈ u_ws cn T N, w ∈ gw) (hty : ∀ k, k < N → parseFieldDescriptor (T k).2.2.1 = some (ty0 k)) (hnm : ∀ a, a < N → ∀ b, b < N → a ≠ b → (T a).2.1 ≠ (T b).2.1) (k : Nat) (hk : k < N) (hlink : Cond.fieldLink own idx (T k).1 (T k).2.1 (T k).2.2.1 ∈ gw) (hfin : (T k).2.2.2 = false) (hd : parseFieldDescriptor (T k).2.2.1 = some ty) (hn : narrow ty v = v) (hfit : fits ty v = true) (hl : k < fs.length) (hdg : decode cc pc = .ok (.putfield idx, 3))
    (kk : ∀ (H1 : Heap) (locs1 : List Loc), sT Γ s (ws.set q0 (a, .inr (ci, fs.set k v))) H1 locs1 → W p l e R s m args below meth c H1 locs1 cells slots Q (F0 m (pc + 3) ls rest)) : W p l e R s m args below meth c H locs cells slots Q (F0 m pc ls (v :: .ref a :: rest)) :=
  va_put C.x C.b C.t hin ty0 hty hnm C.o C.k h.1 h.2.1 h.2.2 q0 he hc k hk (C.t _ hlink) (fun _ h9 => h9) hfin hd hn hfit hl hdg (fun H1 locs1 a1 a2 a3 => kk H1 locs1 ⟨a1, a2, a3⟩)
theorem rg_putN {a ci N idx : Nat} {cn host : String} {T : u_T} {ty0 : Nat → FieldType} {fs : List Value} {v : Value} {ty : FieldType} (C : cX Γ p s m args meth c cc ret own nL) (h : sT Γ s ws H locs) (q0 : Nat) (he : ws[q0]? = some (a, .inr (ci, fs))) (hc : cls[ci]? = some (cn, T, N)) (hin : ∀ w ∈ u_ws cn T N, w ∈ gw) (hty : ∀ k, k < N → parseFieldDescriptor (T k).2.2.1 = some (ty0 k)) (hnm : ∀ a, a < N → ∀ b, b < N → a ≠ b → (T a).2.1 ≠ (T b).2.1) (k : Nat) (hk : k < N) (hlink : Cond.fieldLinkNest own idx (T k).1 (T k).2.1 (T k).2.2.1 host ∈ nwL) (hfin : (T k).2.2.2 = false) (hd : parseFieldDescriptor (T k).2.2.1 = some ty) (hn : narrow ty v = v) (hfit : fits ty v = true) (hl : k < fs.length) (hdg : decode cc pc = .ok (.putfield idx, 3))
    (kk : ∀ (H1 : Heap) (locs1 : List Loc), sT Γ s (ws.set q0 (a, .inr (ci, fs.set k v))) H1 locs1 → W p l e R s m args below meth c H1 locs1 cells slots Q (F0 m (pc + 3) ls rest)) : W p l e R s m args below meth c H locs cells slots Q (F0 m pc ls (v :: .ref a :: rest)) :=
  va_putN C.x C.b C.t hin ty0 hty hnm C.o C.k h.1 h.2.1 h.2.2 q0 he hc k hk (va_Nw.use rfl (C.w _ hlink)) (fun _ h9 => h9) hfin hd hn hfit hl hdg (fun H1 locs1 a1 a2 a3 => kk H1 locs1 ⟨a1, a2, a3⟩)
/-- a final field in a constructor -/
theorem rg_putF {a ci N idx : Nat} {cn : String} {T : u_T} {ty0 : Nat → FieldType} {fs : List Value} {v : Value} {ty : FieldType} (C : cX Γ p s m args meth c cc ret own nL) (hmn : meth.name = "<init>") (h : sT Γ s ws H locs) (q0 : Nat) (he : ws[q0]? = some (a, .inr (ci, fs))) (hc : cls[ci]? = some (cn, T, N)) (hin : ∀ w ∈ u_ws cn T N, w ∈ gw) (hty : ∀ k, k < N → parseFieldDescriptor (T k).2.2.1 = some (ty0 k)) (hnm : ∀ a, a < N → ∀ b, b < N → a ≠ b → (T a).2.1 ≠ (T b).2.1) (k : Nat) (hk : k < N) (hlink : Cond.fieldLink own idx (T k).1 (T k).2.1 (T k).2.2.1 ∈ gw) (hfin : (T k).2.2.2 = true) (hdecl : (T k).1 = own) (hd : parseFieldDescriptor (T k).2.2.1 = some ty) (hn : narrow ty v = v) (hfit : fits ty v = true) (hl : k < fs.length) (hdg : decode cc pc = .ok (.putfield idx, 3))
    (kk : ∀ (H1 : Heap) (locs1 : List Loc), sT Γ s (ws.set q0 (a, .inr (ci, fs.set k v))) H1 locs1 → W p l e R s m args below meth c H1 locs1 cells slots Q (F0 m (pc + 3) ls rest)) : W p l e R s m args below meth c H locs cells slots Q (F0 m pc ls (v :: .ref a :: rest)) :=
  va_putF C.x C.b C.t hin ty0 hty hnm C.o C.k h.1 h.2.1 h.2.2 q0 he hc k hk (C.t _ hlink) (fun _ h9 => h9) hfin hmn hdecl hd hn hfit hl hdg (fun H1 locs1 a1 a2 a3 => kk H1 locs1 ⟨a1, a2, a3⟩)
theorem rg_ild {a n i : Nat} {f : Nat → Nat} (C : cX Γ p s m args meth c cc ret own nL) (h : sT Γ s ws H locs) (q0 : Nat) (he : ws[q0]? = some (a, .inl (Γ.2.1 0, n, .inl (nF f)))) (hi : i < n) (hn : n < 2 ^ 31) (hdg : decode cc pc = .ok (.iaload, 1))
    (kk : W p l e R s m args below meth c H locs cells slots Q (F0 m (pc + 1) ls (.int (nI (f i)) :: rest))) : W p l e R s m args below meth c H locs cells slots Q (F0 m pc ls (.int (nI i) :: .ref a :: rest)) := by
  refine va_iald C.x C.b C.k h.1 q0 0 he rfl (vp_in_nI hi hn) hdg ?_
  rw [nI_clamp (by omega)]
  exact kk
theorem rg_mld {a n i : Nat} {f : Nat → Nat} (C : cX Γ p s m args meth c cc ret own nL) (h : sT Γ s ws H locs) (q0 : Nat) (he : ws[q0]? = some (a, .inl (Γ.2.1 0, n, .inl (mF f)))) (hi : i < n) (hn : n < 2 ^ 31) (hdg : decode cc pc = .ok (.iaload, 1))
    (kk : W p l e R s m args below meth c H locs cells slots Q (F0 m (pc + 1) ls (.int (mI (f i)) :: rest))) : W p l e R s m args below meth c H locs cells slots Q (F0 m pc ls (.int (nI i) :: .ref a :: rest)) := by
  refine va_iald C.x C.b C.k h.1 q0 0 he rfl (vp_in_nI hi hn) hdg ?_
  rw [nI_clamp (by omega)]
  exact kk
theorem rg_zld {a n i : Nat} {f : Nat → Nat} (C : cX Γ p s m args meth c cc ret own nL) (h : sT Γ s ws H locs) (q0 : Nat) (he : ws[q0]? = some (a, .inl (Γ.2.1 2, n, .inl (nF f)))) (hi : i < n) (hn : n < 2 ^ 31) (hdg : decode cc pc = .ok (.baload, 1))
    (kk : W p l e R s m args below meth c H locs cells slots Q (F0 m (pc + 1) ls (.int (nI (f i)) :: rest))) : W p l e R s m args below meth c H locs cells slots Q (F0 m pc ls (.int (nI i) :: .ref a :: rest)) := by
  refine va_zald C.x C.b C.k h.1 q0 2 he rfl (vp_in_nI hi hn) hdg ?_
  rw [nI_clamp (by omega)]
  exact kk
theorem rg_lld {a n i : Nat} {f : Nat → Int64} (C : cX Γ p s m args meth c cc ret own nL) (h : sT Γ s ws H locs) (q0 : Nat) (he : ws[q0]? = some (a, .inl (Γ.2.1 1, n, .inr (.inl f)))) (hi : i < n) (hn : n < 2 ^ 31) (hdg : decode cc pc = .ok (.laload, 1))
    (kk : W p l e R s m args below meth c H locs cells slots Q (F0 m (pc + 1) ls (.long (f i) :: rest))) : W p l e R s m args below meth c H locs cells slots Q (F0 m pc ls (.int (nI i) :: .ref a :: rest)) := by
  refine va_lald C.x C.b C.k h.1 q0 1 he rfl (vp_in_nI hi hn) hdg ?_
  rw [nI_clamp (by omega)]
  exact kk
theorem rg_ald {a n i b : Nat} {f : Nat → Option Nat} (C : cX Γ p s m args meth c cc ret own nL) (h : sT Γ s ws H locs) (q0 : Nat) (he : ws[q0]? = some (a, .inl (Γ.2.1 3, n, .inr (.inr (.inr (.inr f)))))) (hi : i < n) (hn : n < 2 ^ 31) (hf : f i = some b) (hdg : decode cc pc = .ok (.aaload, 1))
    (kk : W p l e R s m args below meth c H locs cells slots Q (F0 m (pc + 1) ls (.ref b :: rest))) : W p l e R s m args below meth c H locs cells slots Q (F0 m pc ls (.int (nI i) :: .ref a :: rest)) := by
  refine va_aldq C.x C.b C.k h.1 q0 3 he rfl (vp_in_nI hi hn) hdg ?_
  rw [nI_clamp (by omega), hf]
  exact kk
theorem rg_ist {a n i v : Nat} {f : Nat → Nat} (C : cX Γ p s m args meth c cc ret own nL) (h : sT Γ s ws H locs) (q0 : Nat) (he : ws[q0]? = some (a, .inl (Γ.2.1 0, n, .inl (nF f)))) (hi : i < n) (hn : n < 2 ^ 31) (hdg : decode cc pc = .ok (.iastore, 1))
    (kk : ∀ (H1 : Heap) (locs1 : List Loc), sT Γ s (ws.set q0 (a, .inl (Γ.2.1 0, n, .inl (nF (us f i v))))) H1 locs1 → W p l e R s m args below meth c H1 locs1 cells slots Q (F0 m (pc + 1) ls rest)) : W p l e R s m args below meth c H locs cells slots Q (F0 m pc ls (.int (nI v) :: .int (nI i) :: .ref a :: rest)) := by
  refine va_iast C.x C.b C.k h.1 h.2.1 h.2.2 q0 0 he rfl (vp_in_nI hi hn) hdg (fun H1 locs1 a1 a2 a3 => ?_)
  rw [nF_upd (by omega)] at a1 a2
  exact kk H1 locs1 ⟨a1, a2, a3⟩
theorem rg_mst {a n i v : Nat} {f : Nat → Nat} (C : cX Γ p s m args meth c cc ret own nL) (h : sT Γ s ws H locs) (q0 : Nat) (he : ws[q0]? = some (a, .inl (Γ.2.1 0, n, .inl (mF f)))) (hi : i < n) (hn : n < 2 ^ 31) (hdg : decode cc pc = .ok (.iastore, 1))
    (kk : ∀ (H1 : Heap) (locs1 : List Loc), sT Γ s (ws.set q0 (a, .inl (Γ.2.1 0, n, .inl (mF (us f i v))))) H1 locs1 → W p l e R s m args below meth c H1 locs1 cells slots Q (F0 m (pc + 1) ls rest)) : W p l e R s m args below meth c H locs cells slots Q (F0 m pc ls (.int (mI v) :: .int (nI i) :: .ref a :: rest)) := by
  refine va_iast C.x C.b C.k h.1 h.2.1 h.2.2 q0 0 he rfl (vp_in_nI hi hn) hdg (fun H1 locs1 a1 a2 a3 => ?_)
  rw [mF_upd (by omega)] at a1 a2
  exact kk H1 locs1 ⟨a1, a2, a3⟩
theorem rg_zst {a n i v : Nat} {f : Nat → Nat} (C : cX Γ p s m args meth c cc ret own nL) (h : sT Γ s ws H locs) (q0 : Nat) (he : ws[q0]? = some (a, .inl (Γ.2.1 2, n, .inl (nF f)))) (hi : i < n) (hn : n < 2 ^ 31) (hv : v = 0 ∨ v = 1) (hdg : decode cc pc = .ok (.bastore, 1))
    (kk : ∀ (H1 : Heap) (locs1 : List Loc), sT Γ s (ws.set q0 (a, .inl (Γ.2.1 2, n, .inl (nF (us f i v))))) H1 locs1 → W p l e R s m args below meth c H1 locs1 cells slots Q (F0 m (pc + 1) ls rest)) : W p l e R s m args below meth c H locs cells slots Q (F0 m pc ls (.int (nI v) :: .int (nI i) :: .ref a :: rest)) := by
  refine va_zast C.x C.b C.k h.1 h.2.1 h.2.2 q0 2 he rfl (vp_in_nI hi hn) hdg (fun H1 locs1 a1 a2 a3 => ?_)
  have e : vp_nar .boolean (nI v) = nI v := by rcases hv with rfl | rfl <;> decide +kernel
  rw [e, nF_upd (by omega)] at a1 a2
  exact kk H1 locs1 ⟨a1, a2, a3⟩
theorem rg_lst {a n i : Nat} {v : Int64} {f : Nat → Int64} (C : cX Γ p s m args meth c cc ret own nL) (h : sT Γ s ws H locs) (q0 : Nat) (he : ws[q0]? = some (a, .inl (Γ.2.1 1, n, .inr (.inl f)))) (hi : i < n) (hn : n < 2 ^ 31) (hdg : decode cc pc = .ok (.lastore, 1))
    (kk : ∀ (H1 : Heap) (locs1 : List Loc), sT Γ s (ws.set q0 (a, .inl (Γ.2.1 1, n, .inr (.inl (us f i v))))) H1 locs1 → W p l e R s m args below meth c H1 locs1 cells slots Q (F0 m (pc + 1) ls rest)) : W p l e R s m args below meth c H locs cells slots Q (F0 m pc ls (.long v :: .int (nI i) :: .ref a :: rest)) := by
  refine va_last C.x C.b C.k h.1 h.2.1 h.2.2 q0 1 he rfl (vp_in_nI hi hn) hdg (fun H1 locs1 a1 a2 a3 => ?_)
  rw [nI_clamp (by omega)] at a1 a2
  exact kk H1 locs1 ⟨a1, a2, a3⟩
theorem bc_eq {a b tgt : Nat} {off : Int} (C : cX Γ p s m args meth c cc ret own nL) (ha : a < 2 ^ 31) (hb : b < 2 ^ 31) (hdg : decode cc pc = .ok (.if_icmp .eq off, 3)) (ht : (pc : Int) + off = (tgt : Int)) (k1 : a = b → W p l e R s m args below meth c H locs cells slots Q (F0 m tgt ls rest)) (k2 : ¬ a = b → W p l e R s m args below meth c H locs cells slots Q (F0 m (pc + 3) ls rest)) : W p l e R s m args below meth c H locs cells slots Q (F0 m pc ls (.int (nI b) :: .int (nI a) :: rest)) := by
  refine lv_icmp_eq C.x C.b hdg ht (fun q => k1 ?_) (fun q => k2 ?_)
  · simp only [nI_eq ha hb, nI_ltI ha hb, nI_ltI hb ha, nI_leI ha hb, nI_leI hb ha, ne_eq, Decidable.not_not, Nat.not_lt, Nat.not_le] at q; first | exact q | omega
  · simp only [nI_eq ha hb, nI_ltI ha hb, nI_ltI hb ha, nI_leI ha hb, nI_leI hb ha, ne_eq, Decidable.not_not, Nat.not_lt, Nat.not_le] at q; first | exact q | omega
theorem bc_ne {a b tgt : Nat} {off : Int} (C : cX Γ p s m args meth c cc ret own nL) (ha : a < 2 ^ 31) (hb : b < 2 ^ 31) (hdg : decode cc pc = .ok (.if_icmp .ne off, 3)) (ht : (pc : Int) + off = (tgt : Int)) (k1 : ¬ a = b → W p l e R s m args below meth c H locs cells slots Q (F0 m tgt ls rest)) (k2 : a = b → W p l e R s m args below meth c H locs cells slots Q (F0 m (pc + 3) ls rest)) : W p l e R s m args below meth c H locs cells slots Q (F0 m pc ls (.int (nI b) :: .int (nI a) :: rest)) := by
  refine lv_icmp_ne C.x C.b hdg ht (fun q => k1 ?_) (fun q => k2 ?_)
  · simp only [nI_eq ha hb, nI_ltI ha hb, nI_ltI hb ha, nI_leI ha hb, nI_leI hb ha, ne_eq, Decidable.not_not, Nat.not_lt, Nat.not_le] at q; first | exact q | omega
  · simp only [nI_eq ha hb, nI_ltI ha hb, nI_ltI hb ha, nI_leI ha hb, nI_leI hb ha, ne_eq, Decidable.not_not, Nat.not_lt, Nat.not_le] at q; first | exact q | omega
theorem bc_lt {a b tgt : Nat} {off : Int} (C : cX Γ p s m args meth c cc ret own nL) (ha : a < 2 ^ 31) (hb : b < 2 ^ 31) (hdg : decode cc pc = .ok (.if_icmp .lt off, 3)) (ht : (pc : Int) + off = (tgt : Int)) (k1 : a < b → W p l e R s m args below meth c H locs cells slots Q (F0 m tgt ls rest)) (k2 : b ≤ a → W p l e R s m args below meth c H locs cells slots Q (F0 m (pc + 3) ls rest)) : W p l e R s m args below meth c H locs cells slots Q (F0 m pc ls (.int (nI b) :: .int (nI a) :: rest)) := by
  refine lv_icmp_lt C.x C.b hdg ht (fun q => k1 ?_) (fun q => k2 ?_)
  · simp only [nI_eq ha hb, nI_ltI ha hb, nI_ltI hb ha, nI_leI ha hb, nI_leI hb ha, ne_eq, Decidable.not_not, Nat.not_lt, Nat.not_le] at q; first | exact q | omega
  · simp only [nI_eq ha hb, nI_ltI ha hb, nI_ltI hb ha, nI_leI ha hb, nI_leI hb ha, ne_eq, Decidable.not_not, Nat.not_lt, Nat.not_le] at q; first | exact q | omega
theorem bc_ge {a b tgt : Nat} {off : Int} (C : cX Γ p s m args meth c cc ret own nL) (ha : a < 2 ^ 31) (hb : b < 2 ^ 31) (hdg : decode cc pc = .ok (.if_icmp .ge off, 3)) (ht : (pc : Int) + off = (tgt : Int)) (k1 : b ≤ a → W p l e R s m args below meth c H locs cells slots Q (F0 m tgt ls rest)) (k2 : a < b → W p l e R s m args below meth c H locs cells slots Q (F0 m (pc + 3) ls rest)) : W p l e R s m args below meth c H locs cells slots Q (F0 m pc ls (.int (nI b) :: .int (nI a) :: rest)) := by
  refine lv_icmp_ge C.x C.b hdg ht (fun q => k1 ?_) (fun q => k2 ?_)
  · simp only [nI_eq ha hb, nI_ltI ha hb, nI_ltI hb ha, nI_leI ha hb, nI_leI hb ha, ne_eq, Decidable.not_not, Nat.not_lt, Nat.not_le] at q; first | exact q | omega
  · simp only [nI_eq ha hb, nI_ltI ha hb, nI_ltI hb ha, nI_leI ha hb, nI_leI hb ha, ne_eq, Decidable.not_not, Nat.not_lt, Nat.not_le] at q; first | exact q | omega
theorem bc_gt {a b tgt : Nat} {off : Int} (C : cX Γ p s m args meth c cc ret own nL) (ha : a < 2 ^ 31) (hb : b < 2 ^ 31) (hdg : decode cc pc = .ok (.if_icmp .gt off, 3)) (ht : (pc : Int) + off = (tgt : Int)) (k1 : b < a → W p l e R s m args below meth c H locs cells slots Q (F0 m tgt ls rest)) (k2 : a ≤ b → W p l e R s m args below meth c H locs cells slots Q (F0 m (pc + 3) ls rest)) : W p l e R s m args below meth c H locs cells slots Q (F0 m pc ls (.int (nI b) :: .int (nI a) :: rest)) := by
  refine lv_icmp_gt C.x C.b hdg ht (fun q => k1 ?_) (fun q => k2 ?_)
  · simp only [nI_eq ha hb, nI_ltI ha hb, nI_ltI hb ha, nI_leI ha hb, nI_leI hb ha, ne_eq, Decidable.not_not, Nat.not_lt, Nat.not_le] at q; first | exact q | omega
  · simp only [nI_eq ha hb, nI_ltI ha hb, nI_ltI hb ha, nI_leI ha hb, nI_leI hb ha, ne_eq, Decidable.not_not, Nat.not_lt, Nat.not_le] at q; first | exact q | omega
theorem bc_le {a b tgt : Nat} {off : Int} (C : cX Γ p s m args meth c cc ret own nL) (ha : a < 2 ^ 31) (hb : b < 2 ^ 31) (hdg : decode cc pc = .ok (.if_icmp .le off, 3)) (ht : (pc : Int) + off = (tgt : Int)) (k1 : a ≤ b → W p l e R s m args below meth c H locs cells slots Q (F0 m tgt ls rest)) (k2 : b < a → W p l e R s m args below meth c H locs cells slots Q (F0 m (pc + 3) ls rest)) : W p l e R s m args below meth c H locs cells slots Q (F0 m pc ls (.int (nI b) :: .int (nI a) :: rest)) := by
  refine lv_icmp_le C.x C.b hdg ht (fun q => k1 ?_) (fun q => k2 ?_)
  · simp only [nI_eq ha hb, nI_ltI ha hb, nI_ltI hb ha, nI_leI ha hb, nI_leI hb ha, ne_eq, Decidable.not_not, Nat.not_lt, Nat.not_le] at q; first | exact q | omega
  · simp only [nI_eq ha hb, nI_ltI ha hb, nI_ltI hb ha, nI_leI ha hb, nI_leI hb ha, ne_eq, Decidable.not_not, Nat.not_lt, Nat.not_le] at q; first | exact q | omega
theorem bz_eq {a tgt : Nat} {off : Int} (C : cX Γ p s m args meth c cc ret own nL) (ha : a < 2 ^ 31) (hdg : decode cc pc = .ok (.ifCond .eq off, 3)) (ht : (pc : Int) + off = (tgt : Int)) (k1 : a = 0 → W p l e R s m args below meth c H locs cells slots Q (F0 m tgt ls rest)) (k2 : ¬ a = 0 → W p l e R s m args below meth c H locs cells slots Q (F0 m (pc + 3) ls rest)) : W p l e R s m args below meth c H locs cells slots Q (F0 m pc ls (.int (nI a) :: rest)) := by
  have h0 : (0 : Nat) < 2 ^ 31 := by decide
  refine lv_if_eq C.x C.b hdg ht (fun q => k1 ?_) (fun q => k2 ?_)
  · simp only [← nI_0, nI_eq ha h0, nI_eq h0 ha, nI_ltI ha h0, nI_ltI h0 ha, nI_leI ha h0, nI_leI h0 ha, ne_eq, Decidable.not_not, Nat.not_lt, Nat.not_le] at q; first | trivial | exact q | omega
  · simp only [← nI_0, nI_eq ha h0, nI_eq h0 ha, nI_ltI ha h0, nI_ltI h0 ha, nI_leI ha h0, nI_leI h0 ha, ne_eq, Decidable.not_not, Nat.not_lt, Nat.not_le] at q; first | trivial | exact q | omega
theorem bz_ne {a tgt : Nat} {off : Int} (C : cX Γ p s m args meth c cc ret own nL) (ha : a < 2 ^ 31) (hdg : decode cc pc = .ok (.ifCond .ne off, 3)) (ht : (pc : Int) + off = (tgt : Int)) (k1 : ¬ a = 0 → W p l e R s m args below meth c H locs cells slots Q (F0 m tgt ls rest)) (k2 : a = 0 → W p l e R s m args below meth c H locs cells slots Q (F0 m (pc + 3) ls rest)) : W p l e R s m args below meth c H locs cells slots Q (F0 m pc ls (.int (nI a) :: rest)) := by
  have h0 : (0 : Nat) < 2 ^ 31 := by decide
  refine lv_if_ne C.x C.b hdg ht (fun q => k1 ?_) (fun q => k2 ?_)
  · simp only [← nI_0, nI_eq ha h0, nI_eq h0 ha, nI_ltI ha h0, nI_ltI h0 ha, nI_leI ha h0, nI_leI h0 ha, ne_eq, Decidable.not_not, Nat.not_lt, Nat.not_le] at q; first | trivial | exact q | omega
  · simp only [← nI_0, nI_eq ha h0, nI_eq h0 ha, nI_ltI ha h0, nI_ltI h0 ha, nI_leI ha h0, nI_leI h0 ha, ne_eq, Decidable.not_not, Nat.not_lt, Nat.not_le] at q; first | trivial | exact q | omega
theorem bz_lt {a tgt : Nat} {off : Int} (C : cX Γ p s m args meth c cc ret own nL) (ha : a < 2 ^ 31) (hdg : decode cc pc = .ok (.ifCond .lt off, 3)) (ht : (pc : Int) + off = (tgt : Int)) (k1 : False → W p l e R s m args below meth c H locs cells slots Q (F0 m tgt ls rest)) (k2 : True → W p l e R s m args below meth c H locs cells slots Q (F0 m (pc + 3) ls rest)) : W p l e R s m args below meth c H locs cells slots Q (F0 m pc ls (.int (nI a) :: rest)) := by
  have h0 : (0 : Nat) < 2 ^ 31 := by decide
  refine lv_if_lt C.x C.b hdg ht (fun q => k1 ?_) (fun q => k2 ?_)
  · simp only [← nI_0, nI_eq ha h0, nI_eq h0 ha, nI_ltI ha h0, nI_ltI h0 ha, nI_leI ha h0, nI_leI h0 ha, ne_eq, Decidable.not_not, Nat.not_lt, Nat.not_le] at q; first | trivial | exact q | omega
  · simp only [← nI_0, nI_eq ha h0, nI_eq h0 ha, nI_ltI ha h0, nI_ltI h0 ha, nI_leI ha h0, nI_leI h0 ha, ne_eq, Decidable.not_not, Nat.not_lt, Nat.not_le] at q; first | trivial | exact q | omega
theorem bz_ge {a tgt : Nat} {off : Int} (C : cX Γ p s m args meth c cc ret own nL) (ha : a < 2 ^ 31) (hdg : decode cc pc = .ok (.ifCond .ge off, 3)) (ht : (pc : Int) + off = (tgt : Int)) (k1 : True → W p l e R s m args below meth c H locs cells slots Q (F0 m tgt ls rest)) (k2 : False → W p l e R s m args below meth c H locs cells slots Q (F0 m (pc + 3) ls rest)) : W p l e R s m args below meth c H locs cells slots Q (F0 m pc ls (.int (nI a) :: rest)) := by
  have h0 : (0 : Nat) < 2 ^ 31 := by decide
  refine lv_if_ge C.x C.b hdg ht (fun q => k1 ?_) (fun q => k2 ?_)
  · simp only [← nI_0, nI_eq ha h0, nI_eq h0 ha, nI_ltI ha h0, nI_ltI h0 ha, nI_leI ha h0, nI_leI h0 ha, ne_eq, Decidable.not_not, Nat.not_lt, Nat.not_le] at q; first | trivial | exact q | omega
  · simp only [← nI_0, nI_eq ha h0, nI_eq h0 ha, nI_ltI ha h0, nI_ltI h0 ha, nI_leI ha h0, nI_leI h0 ha, ne_eq, Decidable.not_not, Nat.not_lt, Nat.not_le] at q; first | trivial | exact q | omega
theorem bz_gt {a tgt : Nat} {off : Int} (C : cX Γ p s m args meth c cc ret own nL) (ha : a < 2 ^ 31) (hdg : decode cc pc = .ok (.ifCond .gt off, 3)) (ht : (pc : Int) + off = (tgt : Int)) (k1 : ¬ a = 0 → W p l e R s m args below meth c H locs cells slots Q (F0 m tgt ls rest)) (k2 : a = 0 → W p l e R s m args below meth c H locs cells slots Q (F0 m (pc + 3) ls rest)) : W p l e R s m args below meth c H locs cells slots Q (F0 m pc ls (.int (nI a) :: rest)) := by
  have h0 : (0 : Nat) < 2 ^ 31 := by decide
  refine lv_if_gt C.x C.b hdg ht (fun q => k1 ?_) (fun q => k2 ?_)
  · simp only [← nI_0, nI_eq ha h0, nI_eq h0 ha, nI_ltI ha h0, nI_ltI h0 ha, nI_leI ha h0, nI_leI h0 ha, ne_eq, Decidable.not_not, Nat.not_lt, Nat.not_le] at q; first | trivial | exact q | omega
  · simp only [← nI_0, nI_eq ha h0, nI_eq h0 ha, nI_ltI ha h0, nI_ltI h0 ha, nI_leI ha h0, nI_leI h0 ha, ne_eq, Decidable.not_not, Nat.not_lt, Nat.not_le] at q; first | trivial | exact q | omega
theorem bz_le {a tgt : Nat} {off : Int} (C : cX Γ p s m args meth c cc ret own nL) (ha : a < 2 ^ 31) (hdg : decode cc pc = .ok (.ifCond .le off, 3)) (ht : (pc : Int) + off = (tgt : Int)) (k1 : a = 0 → W p l e R s m args below meth c H locs cells slots Q (F0 m tgt ls rest)) (k2 : ¬ a = 0 → W p l e R s m args below meth c H locs cells slots Q (F0 m (pc + 3) ls rest)) : W p l e R s m args below meth c H locs cells slots Q (F0 m pc ls (.int (nI a) :: rest)) := by
  have h0 : (0 : Nat) < 2 ^ 31 := by decide
  refine lv_if_le C.x C.b hdg ht (fun q => k1 ?_) (fun q => k2 ?_)
  · simp only [← nI_0, nI_eq ha h0, nI_eq h0 ha, nI_ltI ha h0, nI_ltI h0 ha, nI_leI ha h0, nI_leI h0 ha, ne_eq, Decidable.not_not, Nat.not_lt, Nat.not_le] at q; first | trivial | exact q | omega
  · simp only [← nI_0, nI_eq ha h0, nI_eq h0 ha, nI_ltI ha h0, nI_ltI h0 ha, nI_leI ha h0, nI_leI h0 ha, ne_eq, Decidable.not_not, Nat.not_lt, Nat.not_le] at q; first | trivial | exact q | omega
theorem bb_eq {b : Bool} {tgt : Nat} {off : Int} (C : cX Γ p s m args meth c cc ret own nL) (hdg : decode cc pc = .ok (.ifCond .eq off, 3)) (ht : (pc : Int) + off = (tgt : Int)) (k1 : b = false → W p l e R s m args below meth c H locs cells slots Q (F0 m tgt ls rest)) (k2 : b = true → W p l e R s m args below meth c H locs cells slots Q (F0 m (pc + 3) ls rest)) : W p l e R s m args below meth c H locs cells slots Q (F0 m pc ls (.int (bI b) :: rest)) := by
  refine lv_if_eq C.x C.b hdg ht (fun q => k1 ?_) (fun q => k2 ?_)
  · cases b <;> first | rfl | (exact absurd q (by decide +kernel)) | (exact absurd (by decide +kernel) q)
  · cases b <;> first | rfl | (exact absurd q (by decide +kernel)) | (exact absurd (by decide +kernel) q)
theorem bb_ne {b : Bool} {tgt : Nat} {off : Int} (C : cX Γ p s m args meth c cc ret own nL) (hdg : decode cc pc = .ok (.ifCond .ne off, 3)) (ht : (pc : Int) + off = (tgt : Int)) (k1 : b = true → W p l e R s m args below meth c H locs cells slots Q (F0 m tgt ls rest)) (k2 : b = false → W p l e R s m args below meth c H locs cells slots Q (F0 m (pc + 3) ls rest)) : W p l e R s m args below meth c H locs cells slots Q (F0 m pc ls (.int (bI b) :: rest)) := by
  refine lv_if_ne C.x C.b hdg ht (fun q => k1 ?_) (fun q => k2 ?_)
  · cases b <;> first | rfl | (exact absurd q (by decide +kernel)) | (exact absurd (by decide +kernel) q)
  · cases b <;> first | rfl | (exact absurd q (by decide +kernel)) | (exact absurd (by decide +kernel) q)
theorem bm_lt {a tgt : Nat} {off : Int} (C : cX Γ p s m args meth c cc ret own nL) (ha : a < 2 ^ 31) (hdg : decode cc pc = .ok (.ifCond .lt off, 3)) (ht : (pc : Int) + off = (tgt : Int)) (k1 : a = 0 → W p l e R s m args below meth c H locs cells slots Q (F0 m tgt ls rest)) (k2 : ¬ a = 0 → W p l e R s m args below meth c H locs cells slots Q (F0 m (pc + 3) ls rest)) : W p l e R s m args below meth c H locs cells slots Q (F0 m pc ls (.int (mI a) :: rest)) := by
  refine lv_if_lt C.x C.b hdg ht (fun q => k1 ?_) (fun q => k2 ?_)
  · simp only [Int32.lt_iff_toInt_lt, Int32.le_iff_toInt_le, mI_toInt ha, Int32.toInt_zero] at q; omega
  · simp only [Int32.lt_iff_toInt_lt, Int32.le_iff_toInt_le, mI_toInt ha, Int32.toInt_zero] at q; omega
theorem bm_ge {a tgt : Nat} {off : Int} (C : cX Γ p s m args meth c cc ret own nL) (ha : a < 2 ^ 31) (hdg : decode cc pc = .ok (.ifCond .ge off, 3)) (ht : (pc : Int) + off = (tgt : Int)) (k1 : ¬ a = 0 → W p l e R s m args below meth c H locs cells slots Q (F0 m tgt ls rest)) (k2 : a = 0 → W p l e R s m args below meth c H locs cells slots Q (F0 m (pc + 3) ls rest)) : W p l e R s m args below meth c H locs cells slots Q (F0 m pc ls (.int (mI a) :: rest)) := by
  refine lv_if_ge C.x C.b hdg ht (fun q => k1 ?_) (fun q => k2 ?_)
  · simp only [Int32.lt_iff_toInt_lt, Int32.le_iff_toInt_le, mI_toInt ha, Int32.toInt_zero] at q; omega
  · simp only [Int32.lt_iff_toInt_lt, Int32.le_iff_toInt_le, mI_toInt ha, Int32.toInt_zero] at q; omega
theorem bn_eq {a b tgt : Nat} {off : Int} (C : cX Γ p s m args meth c cc ret own nL) (ha : a < 2 ^ 31) (hb : b < 2 ^ 31) (hdg : decode cc pc = .ok (.if_icmp .eq off, 3)) (ht : (pc : Int) + off = (tgt : Int)) (k1 : a = b → W p l e R s m args below meth c H locs cells slots Q (F0 m tgt ls rest)) (k2 : ¬ a = b → W p l e R s m args below meth c H locs cells slots Q (F0 m (pc + 3) ls rest)) : W p l e R s m args below meth c H locs cells slots Q (F0 m pc ls (.int (mI b) :: .int (mI a) :: rest)) := by
  refine lv_icmp_eq C.x C.b hdg ht (fun q => k1 ?_) (fun q => k2 ?_)
  · simp only [mI_eqm ha hb, ne_eq, Decidable.not_not] at q; first | exact q | omega
  · simp only [mI_eqm ha hb, ne_eq, Decidable.not_not] at q; first | exact q | omega
theorem bn_ne {a b tgt : Nat} {off : Int} (C : cX Γ p s m args meth c cc ret own nL) (ha : a < 2 ^ 31) (hb : b < 2 ^ 31) (hdg : decode cc pc = .ok (.if_icmp .ne off, 3)) (ht : (pc : Int) + off = (tgt : Int)) (k1 : ¬ a = b → W p l e R s m args below meth c H locs cells slots Q (F0 m tgt ls rest)) (k2 : a = b → W p l e R s m args below meth c H locs cells slots Q (F0 m (pc + 3) ls rest)) : W p l e R s m args below meth c H locs cells slots Q (F0 m pc ls (.int (mI b) :: .int (mI a) :: rest)) := by
  refine lv_icmp_ne C.x C.b hdg ht (fun q => k1 ?_) (fun q => k2 ?_)
  · simp only [mI_eqm ha hb, ne_eq, Decidable.not_not] at q; first | exact q | omega
  · simp only [mI_eqm ha hb, ne_eq, Decidable.not_not] at q; first | exact q | omega
end RW
end
section
/-! the class's cells: x, tables, sorter, tally, machine, ten arrays of the sorter, two of the tally; then the tables -/
def tT (d : Nat → Nat) (tb : Nat → Nat → Nat → Nat) : va_W := (List.range 80).map (fun i => (d (20 + 3 * i), .inr (2, [.int (nI (tb i 0 0)), .int (nI (tb i 0 1)), .int (nI (tb i 0 2)), .ref (d (21 + 3 * i)), .ref (d (22 + 3 * i))])))
def tN (Γ : gG) (d : Nat → Nat) (tb : Nat → Nat → Nat → Nat) : va_W := (List.range 80).map (fun i => (d (21 + 3 * i), .inl (Γ.2.1 0, 30, .inl (nF (tb i 1)))))
def tF (Γ : gG) (d : Nat → Nat) (tb : Nat → Nat → Nat → Nat) : va_W := (List.range 80).map (fun i => (d (22 + 3 * i), .inl (Γ.2.1 0, 10, .inl (mF (tb i 2)))))
abbrev xW (Γ : gG) (d : Nat → Nat) (hm : Nat) (mc : va_E) (so : Nat → Nat → Nat) (tl : Nat → Nat → Int64) (tb : Nat → Nat → Nat → Nat) (wr : va_W) : va_W :=
  (d 0, .inr (0, [.ref (d 1), .ref (d 2), .ref (d 3), .int (nI (so 10 3))])) ::
  (d 1, .inl (Γ.2.1 3, 80, .inr (.inr (.inr (.inr (fun i => some (d (20 + 3 * i)))))))) ::
  (d 2, .inr (1, [.ref hm, .ref (d 5), .ref (d 6), .ref (d 7), .int (nI (so 10 0)), .ref (d 8), .ref (d 9), .ref (d 10), .ref (d 11), .int (nI (so 10 1)), .ref (d 12), .int (nI (so 10 2)), .ref (d 13), .ref (d 14)])) ::
  (d 3, .inr (3, [.ref (d 15), .ref (d 16)])) ::
  (hm, mc) ::
  (d 5, .inl (Γ.2.1 0, 10240, .inl (nF (so 0)))) ::
  (d 6, .inl (Γ.2.1 0, 10240, .inl (nF (so 1)))) ::
  (d 7, .inl (Γ.2.1 0, 30720, .inl (nF (so 2)))) ::
  (d 8, .inl (Γ.2.1 0, 10240, .inl (nF (so 3)))) ::
  (d 9, .inl (Γ.2.1 0, 10240, .inl (nF (so 4)))) ::
  (d 10, .inl (Γ.2.1 0, 10, .inl (nF (so 5)))) ::
  (d 11, .inl (Γ.2.1 0, 10, .inl (nF (so 6)))) ::
  (d 12, .inl (Γ.2.1 0, 10, .inl (nF (so 7)))) ::
  (d 13, .inl (Γ.2.1 0, 10, .inl (nF (so 8)))) ::
  (d 14, .inl (Γ.2.1 0, 10, .inl (nF (so 9)))) ::
  (d 15, .inl (Γ.2.1 1, 10, .inr (.inl (tl 0)))) ::
  (d 16, .inl (Γ.2.1 1, 10, .inr (.inl (tl 1)))) ::
  (tT d tb ++ (tN Γ d tb ++ (tF Γ d tb ++ wr)))
section XW
variable {Γ : gG} {d : Nat → Nat} {hm : Nat} {mc : va_E} {so : Nat → Nat → Nat} {tl : Nat → Nat → Int64} {tb : Nat → Nat → Nat → Nat} {wr : va_W}
theorem tT_len : (tT d tb).length = 80 := by simp [tT]
theorem tN_len : (tN Γ d tb).length = 80 := by simp [tN]
theorem tF_len : (tF Γ d tb).length = 80 := by simp [tF]
theorem lk_T {i : Nat} (hi : i < 80) : (xW Γ d hm mc so tl tb wr)[17 + i]? = some (d (20 + 3 * i), .inr (2, [.int (nI (tb i 0 0)), .int (nI (tb i 0 1)), .int (nI (tb i 0 2)), .ref (d (21 + 3 * i)), .ref (d (22 + 3 * i))])) := by
  rw [show 17 + i = i + 1 + 1 + 1 + 1 + 1 + 1 + 1 + 1 + 1 + 1 + 1 + 1 + 1 + 1 + 1 + 1 + 1 by omega]
  simp only [List.getElem?_cons_succ]
  rw [List.getElem?_append_left (by rw [tT_len]; exact hi)]
  simp [tT, hi]
theorem lk_N {i : Nat} (hi : i < 80) : (xW Γ d hm mc so tl tb wr)[97 + i]? = some (d (21 + 3 * i), .inl (Γ.2.1 0, 30, .inl (nF (tb i 1)))) := by
  rw [show 97 + i = (80 + i) + 1 + 1 + 1 + 1 + 1 + 1 + 1 + 1 + 1 + 1 + 1 + 1 + 1 + 1 + 1 + 1 + 1 by omega]
  simp only [List.getElem?_cons_succ]
  rw [List.getElem?_append_right (by rw [tT_len]; omega), tT_len, show 80 + i - 80 = i by omega, List.getElem?_append_left (by rw [tN_len]; exact hi)]
  simp [tN, hi]
theorem lk_F {i : Nat} (hi : i < 80) : (xW Γ d hm mc so tl tb wr)[177 + i]? = some (d (22 + 3 * i), .inl (Γ.2.1 0, 10, .inl (mF (tb i 2)))) := by
  rw [show 177 + i = (160 + i) + 1 + 1 + 1 + 1 + 1 + 1 + 1 + 1 + 1 + 1 + 1 + 1 + 1 + 1 + 1 + 1 + 1 by omega]
  simp only [List.getElem?_cons_succ]
  rw [List.getElem?_append_right (by rw [tT_len]; omega), tT_len, List.getElem?_append_right (by rw [tN_len]; omega), tN_len, show 160 + i - 80 - 80 = i by omega, List.getElem?_append_left (by rw [tF_len]; exact hi)]
  simp [tF, hi]
theorem tT_set {i : Nat} (hi : i < 80) (k v : Nat) (e : va_E) (he : e = .inr (2, [.int (nI (us (tb i 0) k v 0)), .int (nI (us (tb i 0) k v 1)), .int (nI (us (tb i 0) k v 2)), .ref (d (21 + 3 * i)), .ref (d (22 + 3 * i))])) : (tT d tb).set i (d (20 + 3 * i), e) = tT d (us tb i (us (tb i) 0 (us (tb i 0) k v))) := by
  subst he
  apply List.ext_getElem?
  intro j
  rw [List.getElem?_set]
  by_cases h : i = j
  · subst h
    simp [tT, hi, us]
  · simp only [if_neg h, tT, List.getElem?_map, List.getElem?_range]
    by_cases hj : j < 80
    · simp [hj, us, Ne.symm h]
    · simp [hj]
theorem tN_us {i k : Nat} (hk : k ≠ 1) (f : Nat → Nat) : tN Γ d (us tb i (us (tb i) k f)) = tN Γ d tb := by
  unfold tN
  apply List.map_congr_left
  intro j _
  by_cases h : j = i
  · subst h
    simp [us, hk, Ne.symm hk]
  · simp [us, h]
theorem tF_us {i k : Nat} (hk : k ≠ 2) (f : Nat → Nat) : tF Γ d (us tb i (us (tb i) k f)) = tF Γ d tb := by
  unfold tF
  apply List.map_congr_left
  intro j _
  by_cases h : j = i
  · subst h
    simp [us, hk, Ne.symm hk]
  · simp [us, h]
theorem tT_us {i k : Nat} (hk : k ≠ 0) (f : Nat → Nat) : tT d (us tb i (us (tb i) k f)) = tT d tb := by
  unfold tT
  apply List.map_congr_left
  intro j _
  by_cases h : j = i
  · subst h
    simp [us, hk, Ne.symm hk]
  · simp [us, h]
theorem tN_set {i : Nat} (hi : i < 80) (f : Nat → Nat) : (tN Γ d tb).set i (d (21 + 3 * i), .inl (Γ.2.1 0, 30, .inl (nF f))) = tN Γ d (us tb i (us (tb i) 1 f)) := by
  apply List.ext_getElem?
  intro j
  rw [List.getElem?_set]
  by_cases h : i = j
  · subst h
    simp [tN, hi, us]
  · simp only [if_neg h, tN, List.getElem?_map, List.getElem?_range]
    by_cases hj : j < 80
    · simp [hj, us, Ne.symm h]
    · simp [hj]
theorem tF_set {i : Nat} (hi : i < 80) (f : Nat → Nat) : (tF Γ d tb).set i (d (22 + 3 * i), .inl (Γ.2.1 0, 10, .inl (mF f))) = tF Γ d (us tb i (us (tb i) 2 f)) := by
  apply List.ext_getElem?
  intro j
  rw [List.getElem?_set]
  by_cases h : i = j
  · subst h
    simp [tF, hi, us]
  · simp only [if_neg h, tF, List.getElem?_map, List.getElem?_range]
    by_cases hj : j < 80
    · simp [hj, us, Ne.symm h]
    · simp [hj]
theorem st_T {i : Nat} (hi : i < 80) (k v : Nat) (e : va_E) (he : e = .inr (2, [.int (nI (us (tb i 0) k v 0)), .int (nI (us (tb i 0) k v 1)), .int (nI (us (tb i 0) k v 2)), .ref (d (21 + 3 * i)), .ref (d (22 + 3 * i))])) : (xW Γ d hm mc so tl tb wr).set (17 + i) (d (20 + 3 * i), e) = xW Γ d hm mc so tl (us tb i (us (tb i) 0 (us (tb i 0) k v))) wr := by
  rw [show 17 + i = i + 1 + 1 + 1 + 1 + 1 + 1 + 1 + 1 + 1 + 1 + 1 + 1 + 1 + 1 + 1 + 1 + 1 by omega]
  simp only [List.set_cons_succ]
  rw [List.set_append_left _ _ (by rw [tT_len]; exact hi), tT_set hi k v e he]
  simp only [xW, tN_us (Γ := Γ) (d := d) (tb := tb) (i := i) (show 0 ≠ 1 by decide), tF_us (Γ := Γ) (d := d) (tb := tb) (i := i) (show 0 ≠ 2 by decide)]
theorem st_N {i : Nat} (hi : i < 80) (f : Nat → Nat) : (xW Γ d hm mc so tl tb wr).set (97 + i) (d (21 + 3 * i), .inl (Γ.2.1 0, 30, .inl (nF f))) = xW Γ d hm mc so tl (us tb i (us (tb i) 1 f)) wr := by
  rw [show 97 + i = (80 + i) + 1 + 1 + 1 + 1 + 1 + 1 + 1 + 1 + 1 + 1 + 1 + 1 + 1 + 1 + 1 + 1 + 1 by omega]
  simp only [List.set_cons_succ]
  rw [List.set_append_right _ _ (by rw [tT_len]; omega), tT_len, show 80 + i - 80 = i by omega, List.set_append_left _ _ (by rw [tN_len]; exact hi), tN_set hi f]
  simp only [xW, tT_us (d := d) (tb := tb) (i := i) (show 1 ≠ 0 by decide), tF_us (Γ := Γ) (d := d) (tb := tb) (i := i) (show 1 ≠ 2 by decide)]
theorem st_F {i : Nat} (hi : i < 80) (f : Nat → Nat) : (xW Γ d hm mc so tl tb wr).set (177 + i) (d (22 + 3 * i), .inl (Γ.2.1 0, 10, .inl (mF f))) = xW Γ d hm mc so tl (us tb i (us (tb i) 2 f)) wr := by
  rw [show 177 + i = (160 + i) + 1 + 1 + 1 + 1 + 1 + 1 + 1 + 1 + 1 + 1 + 1 + 1 + 1 + 1 + 1 + 1 + 1 by omega]
  simp only [List.set_cons_succ]
  rw [List.set_append_right _ _ (by rw [tT_len]; omega), tT_len, List.set_append_right _ _ (by rw [tN_len]; omega), tN_len, show 160 + i - 80 - 80 = i by omega, List.set_append_left _ _ (by rw [tF_len]; exact hi), tF_set hi f]
  simp only [xW, tT_us (d := d) (tb := tb) (i := i) (show 2 ≠ 0 by decide), tN_us (Γ := Γ) (d := d) (tb := tb) (i := i) (show 2 ≠ 1 by decide)]
end XW
theorem vd_iff {A : Nat → Prop} {ws : va_W} : va_D A ws ↔ (ws.map (·.1)).Nodup ∧ ∀ q ∈ ws, A q.1 := by
  constructor
  · intro h
    refine ⟨List.pairwise_iff_getElem.mpr (fun i j hi hj hij e => ?_), fun q hq => ?_⟩
    · rw [List.length_map] at hi hj
      rw [List.getElem_map, List.getElem_map] at e
      have := h.1 i j _ _ (List.getElem?_eq_getElem hi) (List.getElem?_eq_getElem hj) e
      omega
    · obtain ⟨k, hk⟩ := List.getElem?_of_mem hq
      exact h.2 k q hk
  · intro h
    refine ⟨fun i j p q hp hq e => ?_, fun k q hk => h.2 q (List.mem_of_getElem? hk)⟩
    have n := List.pairwise_iff_getElem.mp h.1
    obtain ⟨li, ei⟩ := List.getElem?_eq_some_iff.mp hp
    obtain ⟨lj, ej⟩ := List.getElem?_eq_some_iff.mp hq
    rcases Nat.lt_trichotomy i j with a | a | a
    · exact absurd (by rw [List.getElem_map, List.getElem_map, ei, ej]; exact e) (n i j (by rw [List.length_map]; exact li) (by rw [List.length_map]; exact lj) a)
    · exact a
    · exact absurd (by rw [List.getElem_map, List.getElem_map, ei, ej]; exact e.symm) (n j i (by rw [List.length_map]; exact lj) (by rw [List.length_map]; exact li) a)
theorem vp_iff {D : va_G} {cl : List vw_C} {ws : va_W} {H : Heap} : va_P D cl ws H ↔ ∀ q ∈ ws, va_at D cl q H := ⟨fun h q hq => by obtain ⟨k, hk⟩ := List.getElem?_of_mem hq; exact h k q hk, fun h k q hk => h q (List.mem_of_getElem? hk)⟩
/-- a world's cells in another order, some left out -/
theorem sT.sub {Γ : gG} {s : State} {ws ws2 ws3 : va_W} {H : Heap} {locs : List Loc} (h : sT Γ s ws H locs) (hs : ws3.Sublist ws) (hp : ws2.Perm ws3) : sT Γ s ws2 H locs := by
  refine ⟨vp_iff.mpr (fun q hq => vp_iff.mp h.1 q (hs.subset (hp.subset hq))), vd_iff.mpr ⟨?_, fun q hq => (vd_iff.mp h.2.1).2 q (hs.subset (hp.subset hq))⟩, h.2.2⟩
  exact (hp.map (·.1)).nodup_iff.mpr ((vd_iff.mp h.2.1).1.sublist (hs.map (·.1)))
/-- the sorter has another machine -/
theorem xw_mach {Γ : gG} {s : State} {d : Nat → Nat} {hm hm2 : Nat} {mc mc2 : va_E} {so : Nat → Nat → Nat} {tl : Nat → Nat → Int64} {tb : Nat → Nat → Nat → Nat} {wr : va_W} {H : Heap} {locs : List Loc}
    (h : sT Γ s ((xW Γ d hm mc so tl tb ((hm2, mc2) :: wr)).set 2 (d 2, .inr (1, [.ref hm2, .ref (d 5), .ref (d 6), .ref (d 7), .int (nI (so 10 0)), .ref (d 8), .ref (d 9), .ref (d 10), .ref (d 11), .int (nI (so 10 1)), .ref (d 12), .int (nI (so 10 2)), .ref (d 13), .ref (d 14)]))) H locs) : sT Γ s (xW Γ d hm2 mc2 so tl tb wr) H locs := by
  refine h.sub (ws3 := ((xW Γ d hm mc so tl tb ((hm2, mc2) :: wr)).set 2 (d 2, .inr (1, [.ref hm2, .ref (d 5), .ref (d 6), .ref (d 7), .int (nI (so 10 0)), .ref (d 8), .ref (d 9), .ref (d 10), .ref (d 11), .int (nI (so 10 1)), .ref (d 12), .int (nI (so 10 2)), .ref (d 13), .ref (d 14)]))).eraseIdx 4) (List.eraseIdx_sublist _ _) ?_
  simp only [xW, List.set_cons_succ, List.set_cons_zero, List.eraseIdx_cons_succ, List.eraseIdx_cons_zero]
  refine List.Perm.cons _ (List.Perm.cons _ (List.Perm.cons _ (List.Perm.cons _ ?_)))
  have e : ∀ (a b c x : va_W) (y : Nat × va_E) (z : va_W), x ++ (a ++ (b ++ (c ++ y :: z))) = (x ++ (a ++ (b ++ c))) ++ y :: z := by intros; simp
  have e2 : ∀ (a b c x z : va_W), x ++ (a ++ (b ++ (c ++ z))) = (x ++ (a ++ (b ++ c))) ++ z := by intros; simp
  have k := (List.perm_middle (a := (hm2, mc2)) (l₁ := [(d 5, .inl (Γ.2.1 0, 10240, .inl (nF (so 0)))), (d 6, .inl (Γ.2.1 0, 10240, .inl (nF (so 1)))), (d 7, .inl (Γ.2.1 0, 30720, .inl (nF (so 2)))), (d 8, .inl (Γ.2.1 0, 10240, .inl (nF (so 3)))), (d 9, .inl (Γ.2.1 0, 10240, .inl (nF (so 4)))), (d 10, .inl (Γ.2.1 0, 10, .inl (nF (so 5)))), (d 11, .inl (Γ.2.1 0, 10, .inl (nF (so 6)))), (d 12, .inl (Γ.2.1 0, 10, .inl (nF (so 7)))), (d 13, .inl (Γ.2.1 0, 10, .inl (nF (so 8)))), (d 14, .inl (Γ.2.1 0, 10, .inl (nF (so 9)))), (d 15, .inl (Γ.2.1 1, 10, .inr (.inl (tl 0)))), (d 16, .inl (Γ.2.1 1, 10, .inr (.inl (tl 1))))] ++ (tT d tb ++ (tN Γ d tb ++ tF Γ d tb))) (l₂ := wr)).symm
  rw [← e, ← e2] at k
  exact k
/-! the reference's cells -/
abbrev rW (Γ : gG) (r : Nat → Nat) (ri : Nat → Nat → Nat) (rl : Nat → Nat → Int64) (wr : va_W) : va_W :=
  (r 0, .inr (10, [.int (nI (ri 20 0)), .int (nI (ri 20 1)), .ref (r 1), .ref (r 2), .ref (r 3), .ref (r 4), .int (nI (ri 20 2)), .int (nI (ri 20 3)), .int (nI (ri 20 4)), .int (nI (ri 20 5)), .int (nI (ri 20 6)), .ref (r 5), .ref (r 6), .ref (r 7), .ref (r 8), .ref (r 9), .ref (r 10), .ref (r 11), .ref (r 12), .ref (r 13), .ref (r 14)])) ::
  (r 1, .inl (Γ.2.1 0, 80, .inl (nF (ri 0)))) ::
  (r 2, .inl (Γ.2.1 0, 80, .inl (nF (ri 1)))) ::
  (r 3, .inl (Γ.2.1 0, 2400, .inl (nF (ri 2)))) ::
  (r 4, .inl (Γ.2.1 2, 800, .inl (nF (ri 3)))) ::
  (r 5, .inl (Γ.2.1 0, 10242, .inl (mF (ri 4)))) ::
  (r 6, .inl (Γ.2.1 0, 10242, .inl (nF (ri 5)))) ::
  (r 7, .inl (Γ.2.1 0, 30726, .inl (nF (ri 6)))) ::
  (r 8, .inl (Γ.2.1 0, 10242, .inl (nF (ri 7)))) ::
  (r 9, .inl (Γ.2.1 0, 10242, .inl (nF (ri 8)))) ::
  (r 10, .inl (Γ.2.1 0, 10, .inl (nF (ri 9)))) ::
  (r 11, .inl (Γ.2.1 2, 10, .inl (nF (ri 10)))) ::
  (r 12, .inl (Γ.2.1 0, 10, .inl (mF (ri 11)))) ::
  (r 13, .inl (Γ.2.1 1, 10, .inr (.inl (rl 0)))) ::
  (r 14, .inl (Γ.2.1 1, 10, .inr (.inl (rl 1)))) :: wr
end
section
abbrev bc_X_init : ByteArray := prog_1_method_1_code
def my_X_init : MethodName := ⟨rn_X, "<init>", "()V"⟩
abbrev bc_X_letters : ByteArray := prog_1_method_2_code
def my_X_letters : MethodName := ⟨rn_X, "letters", "(I)I"⟩
abbrev bc_X_empty : ByteArray := prog_1_method_3_code
def my_X_empty : MethodName := ⟨rn_X, "empty", "()I"⟩
abbrev bc_X_then : ByteArray := prog_1_method_4_code
def my_X_then : MethodName := ⟨rn_X, "then", "(II)I"⟩
abbrev bc_X_both : ByteArray := prog_1_method_5_code
def my_X_both : MethodName := ⟨rn_X, "both", "(III)I"⟩
abbrev bc_X_many : ByteArray := prog_1_method_6_code
def my_X_many : MethodName := ⟨rn_X, "many", "(I)I"⟩
abbrev bc_X_contrary : ByteArray := prog_1_method_7_code
def my_X_contrary : MethodName := ⟨rn_X, "contrary", "(I)I"⟩
abbrev bc_X_back : ByteArray := prog_1_method_8_code
def my_X_back : MethodName := ⟨rn_X, "back", "(I)I"⟩
abbrev bc_X_rest : ByteArray := prog_1_method_9_code
def my_X_rest : MethodName := ⟨rn_X, "rest", "(II)I"⟩
abbrev bc_X_beginnings : ByteArray := prog_1_method_10_code
def my_X_beginnings : MethodName := ⟨rn_X, "beginnings", "(I)I"⟩
abbrev bc_X_has : ByteArray := prog_1_method_11_code
def my_X_has : MethodName := ⟨rn_X, "has", "(IIJ)Z"⟩
abbrev bc_X_same : ByteArray := prog_1_method_12_code
def my_X_same : MethodName := ⟨rn_X, "same", "(II)Z"⟩
abbrev bc_X_inside : ByteArray := prog_1_method_13_code
def my_X_inside : MethodName := ⟨rn_X, "inside", "(II)Z"⟩
abbrev bc_X_rests : ByteArray := prog_1_method_14_code
def my_X_rests : MethodName := ⟨rn_X, "rests", "(I)I"⟩
abbrev bc_X_words : ByteArray := prog_1_method_15_code
def my_X_words : MethodName := ⟨rn_X, "words", "(II)J"⟩
abbrev bc_X_shortest : ByteArray := prog_1_method_16_code
def my_X_shortest : MethodName := ⟨rn_X, "shortest", "(I)I"⟩
abbrev bc_X_letter : ByteArray := prog_1_method_17_code
def my_X_letter : MethodName := ⟨rn_X, "letter", "(II)I"⟩
abbrev bc_X_size : ByteArray := prog_1_method_18_code
def my_X_size : MethodName := ⟨rn_X, "size", "(I)I"⟩
abbrev bc_X_count : ByteArray := prog_1_method_19_code
def my_X_count : MethodName := ⟨rn_X, "count", "()I"⟩
abbrev bc_X_tableOf : ByteArray := prog_1_method_20_code
def my_X_tableOf : MethodName := ⟨rn_X, "tableOf", "(I)LRestSets$Table;"⟩
abbrev bc_X_keep : ByteArray := prog_1_method_21_code
def my_X_keep : MethodName := ⟨rn_X, "keep", "(LRestSets$Machine;)I"⟩
abbrev bc_M_init : ByteArray := prog_13_method_1_code
def my_M_init : MethodName := ⟨rn_M, "<init>", "()V"⟩
abbrev bc_M_thrown : ByteArray := prog_13_method_2_code
def my_M_thrown : MethodName := ⟨rn_M, "thrown", "()I"⟩
abbrev bc_M_isSet : ByteArray := prog_13_method_3_code
def my_M_isSet : MethodName := ⟨rn_M, "isSet", "(I)Z"⟩
abbrev bc_M_next : ByteArray := prog_13_method_4_code
def my_M_next : MethodName := ⟨rn_M, "next", "(III)I"⟩
abbrev bc_M_isEnd : ByteArray := prog_13_method_5_code
def my_M_isEnd : MethodName := ⟨rn_M, "isEnd", "(II)Z"⟩
abbrev bc_M_all : ByteArray := prog_13_method_6_code
def my_M_all : MethodName := ⟨rn_M, "all", "(III)I"⟩
abbrev bc_M_someEnd : ByteArray := prog_13_method_7_code
def my_M_someEnd : MethodName := ⟨rn_M, "someEnd", "(II)Z"⟩
abbrev bc_M_begin : ByteArray := prog_13_method_8_code
def my_M_begin : MethodName := ⟨rn_M, "begin", "()I"⟩
abbrev bc_M_step : ByteArray := prog_13_method_9_code
def my_M_step : MethodName := ⟨rn_M, "step", "(II)I"⟩
abbrev bc_M_isGood : ByteArray := prog_13_method_10_code
def my_M_isGood : MethodName := ⟨rn_M, "isGood", "(I)Z"⟩
abbrev bc_M_come : ByteArray := prog_13_method_11_code
def my_M_come : MethodName := ⟨rn_M, "come", "(I)I"⟩
abbrev bc_M_apart : ByteArray := prog_13_method_12_code
def my_M_apart : MethodName := ⟨rn_M, "apart", "()I"⟩
abbrev bc_M_alike : ByteArray := prog_13_method_13_code
def my_M_alike : MethodName := ⟨rn_M, "alike", "(II)Z"⟩
abbrev bc_M_make : ByteArray := prog_13_method_14_code
def my_M_make : MethodName := ⟨rn_M, "make", "(IIII)I"⟩
abbrev bc_M_letters : ByteArray := prog_13_method_15_code
def my_M_letters : MethodName := ⟨rn_M, "letters", "(I)I"⟩
abbrev bc_M_empty : ByteArray := prog_13_method_16_code
def my_M_empty : MethodName := ⟨rn_M, "empty", "()I"⟩
abbrev bc_M_then : ByteArray := prog_13_method_17_code
def my_M_then : MethodName := ⟨rn_M, "then", "(II)I"⟩
abbrev bc_M_both : ByteArray := prog_13_method_18_code
def my_M_both : MethodName := ⟨rn_M, "both", "(III)I"⟩
abbrev bc_M_many : ByteArray := prog_13_method_19_code
def my_M_many : MethodName := ⟨rn_M, "many", "(I)I"⟩
abbrev bc_M_contrary : ByteArray := prog_13_method_20_code
def my_M_contrary : MethodName := ⟨rn_M, "contrary", "(I)I"⟩
abbrev bc_M_back : ByteArray := prog_13_method_21_code
def my_M_back : MethodName := ⟨rn_M, "back", "(I)I"⟩
abbrev bc_M_rest : ByteArray := prog_13_method_22_code
def my_M_rest : MethodName := ⟨rn_M, "rest", "(II)I"⟩
abbrev bc_M_look : ByteArray := prog_13_method_23_code
def my_M_look : MethodName := ⟨rn_M, "look", "(I)V"⟩
abbrev bc_M_beginnings : ByteArray := prog_13_method_24_code
def my_M_beginnings : MethodName := ⟨rn_M, "beginnings", "(I)I"⟩
abbrev bc_M_has : ByteArray := prog_13_method_25_code
def my_M_has : MethodName := ⟨rn_M, "has", "(IIJ)Z"⟩
abbrev bc_M_goes : ByteArray := prog_13_method_26_code
def my_M_goes : MethodName := ⟨rn_M, "goes", "(IIZ)Z"⟩
abbrev bc_M_same : ByteArray := prog_13_method_27_code
def my_M_same : MethodName := ⟨rn_M, "same", "(II)Z"⟩
abbrev bc_M_inside : ByteArray := prog_13_method_28_code
def my_M_inside : MethodName := ⟨rn_M, "inside", "(II)Z"⟩
abbrev bc_M_rests : ByteArray := prog_13_method_29_code
def my_M_rests : MethodName := ⟨rn_M, "rests", "(I)I"⟩
abbrev bc_M_countJ : ByteArray := prog_13_method_30_code
def my_M_countJ : MethodName := ⟨rn_M, "count", "(II)J"⟩
abbrev bc_M_words : ByteArray := prog_13_method_31_code
def my_M_words : MethodName := ⟨rn_M, "words", "(II)J"⟩
abbrev bc_M_shortest : ByteArray := prog_13_method_32_code
def my_M_shortest : MethodName := ⟨rn_M, "shortest", "(I)I"⟩
abbrev bc_M_letter : ByteArray := prog_13_method_33_code
def my_M_letter : MethodName := ⟨rn_M, "letter", "(II)I"⟩
abbrev bc_M_size : ByteArray := prog_13_method_34_code
def my_M_size : MethodName := ⟨rn_M, "size", "(I)I"⟩
abbrev bc_M_count : ByteArray := prog_13_method_35_code
def my_M_count : MethodName := ⟨rn_M, "count", "()I"⟩
abbrev bc_K_init : ByteArray := prog_2_method_1_code
def my_K_init : MethodName := ⟨rn_K, "<init>", "(LRestSets$Table;)V"⟩
abbrev bc_K_start : ByteArray := prog_2_method_2_code
def my_K_start : MethodName := ⟨rn_K, "start", "()I"⟩
abbrev bc_K_step : ByteArray := prog_2_method_3_code
def my_K_step : MethodName := ⟨rn_K, "step", "(II)I"⟩
abbrev bc_K_accepts : ByteArray := prog_2_method_4_code
def my_K_accepts : MethodName := ⟨rn_K, "accepts", "(I)Z"⟩
abbrev bc_B_init : ByteArray := prog_3_method_1_code
def my_B_init : MethodName := ⟨rn_B, "<init>", "(ILRestSets$Table;LRestSets$Table;)V"⟩
abbrev bc_B_start : ByteArray := prog_3_method_2_code
def my_B_start : MethodName := ⟨rn_B, "start", "()I"⟩
abbrev bc_B_step : ByteArray := prog_3_method_3_code
def my_B_step : MethodName := ⟨rn_B, "step", "(II)I"⟩
abbrev bc_B_accepts : ByteArray := prog_3_method_4_code
def my_B_accepts : MethodName := ⟨rn_B, "accepts", "(I)Z"⟩
abbrev bc_A_init : ByteArray := prog_4_method_1_code
def my_A_init : MethodName := ⟨rn_A, "<init>", "()V"⟩
abbrev bc_N_init : ByteArray := prog_5_method_1_code
def my_N_init : MethodName := ⟨rn_N, "<init>", "(LRestSets$Table;)V"⟩
abbrev bc_N_start : ByteArray := prog_5_method_2_code
def my_N_start : MethodName := ⟨rn_N, "start", "()I"⟩
abbrev bc_N_step : ByteArray := prog_5_method_3_code
def my_N_step : MethodName := ⟨rn_N, "step", "(II)I"⟩
abbrev bc_N_accepts : ByteArray := prog_5_method_4_code
def my_N_accepts : MethodName := ⟨rn_N, "accepts", "(I)Z"⟩
abbrev bc_O_init : ByteArray := prog_6_method_1_code
def my_O_init : MethodName := ⟨rn_O, "<init>", "(II)V"⟩
abbrev bc_O_start : ByteArray := prog_6_method_2_code
def my_O_start : MethodName := ⟨rn_O, "start", "()I"⟩
abbrev bc_O_step : ByteArray := prog_6_method_3_code
def my_O_step : MethodName := ⟨rn_O, "step", "(II)I"⟩
abbrev bc_O_accepts : ByteArray := prog_6_method_4_code
def my_O_accepts : MethodName := ⟨rn_O, "accepts", "(I)Z"⟩
abbrev bc_R_init : ByteArray := prog_7_method_1_code
def my_R_init : MethodName := ⟨rn_R, "<init>", "(LRestSets$Table;II)V"⟩
abbrev bc_R_start : ByteArray := prog_7_method_2_code
def my_R_start : MethodName := ⟨rn_R, "start", "()I"⟩
abbrev bc_R_step : ByteArray := prog_7_method_3_code
def my_R_step : MethodName := ⟨rn_R, "step", "(II)I"⟩
abbrev bc_R_accepts : ByteArray := prog_7_method_4_code
def my_R_accepts : MethodName := ⟨rn_R, "accepts", "(I)Z"⟩
abbrev bc_S_init : ByteArray := prog_8_method_1_code
def my_S_init : MethodName := ⟨rn_S, "<init>", "()V"⟩
abbrev bc_S_begin : ByteArray := prog_8_method_2_code
def my_S_begin : MethodName := ⟨rn_S, "begin", "(LRestSets$Machine;)V"⟩
abbrev bc_S_meetsAnEnd : ByteArray := prog_8_method_3_code
def my_S_meetsAnEnd : MethodName := ⟨rn_S, "meetsAnEnd", "()Z"⟩
abbrev bc_S_scan : ByteArray := prog_8_method_4_code
def my_S_scan : MethodName := ⟨rn_S, "scan", "()I"⟩
abbrev bc_S_writeTo : ByteArray := prog_8_method_5_code
def my_S_writeTo : MethodName := ⟨rn_S, "writeTo", "(LRestSets$Table;)V"⟩
abbrev bc_S_split : ByteArray := prog_8_method_6_code
def my_S_split : MethodName := ⟨rn_S, "split", "(III)I"⟩
abbrev bc_S_addKind : ByteArray := prog_8_method_7_code
def my_S_addKind : MethodName := ⟨rn_S, "addKind", "(I)Z"⟩
abbrev bc_S_kindWith : ByteArray := prog_8_method_8_code
def my_S_kindWith : MethodName := ⟨rn_S, "kindWith", "(I)I"⟩
abbrev bc_S_askTests : ByteArray := prog_8_method_9_code
def my_S_askTests : MethodName := ⟨rn_S, "askTests", "(I)I"⟩
abbrev bc_S_follow : ByteArray := prog_8_method_10_code
def my_S_follow : MethodName := ⟨rn_S, "follow", "(II)I"⟩
abbrev bc_S_meet : ByteArray := prog_8_method_11_code
def my_S_meet : MethodName := ⟨rn_S, "meet", "(I)I"⟩
abbrev bc_T_init : ByteArray := prog_9_method_1_code
def my_T_init : MethodName := ⟨rn_T, "<init>", "()V"⟩
abbrev bc_T_after : ByteArray := prog_9_method_2_code
def my_T_after : MethodName := ⟨rn_T, "after", "(II)I"⟩
abbrev bc_T_endsAt : ByteArray := prog_9_method_3_code
def my_T_endsAt : MethodName := ⟨rn_T, "endsAt", "(I)Z"⟩
abbrev bc_T_afterAll : ByteArray := prog_9_method_4_code
def my_T_afterAll : MethodName := ⟨rn_T, "afterAll", "(II)I"⟩
abbrev bc_T_beforeAll : ByteArray := prog_9_method_5_code
def my_T_beforeAll : MethodName := ⟨rn_T, "beforeAll", "(II)I"⟩
abbrev bc_T_matches : ByteArray := prog_9_method_6_code
def my_T_matches : MethodName := ⟨rn_T, "matches", "(LRestSets$Table;)Z"⟩
abbrev bc_T_measure : ByteArray := prog_9_method_7_code
def my_T_measure : MethodName := ⟨rn_T, "measure", "()V"⟩
abbrev bc_T_nearer : ByteArray := prog_9_method_8_code
def my_T_nearer : MethodName := ⟨rn_T, "nearer", "(I)I"⟩
abbrev bc_T_letterToward : ByteArray := prog_9_method_9_code
def my_T_letterToward : MethodName := ⟨rn_T, "letterToward", "(II)I"⟩
abbrev bc_Y_init : ByteArray := prog_10_method_1_code
def my_Y_init : MethodName := ⟨rn_Y, "<init>", "()V"⟩
abbrev bc_Y_begin : ByteArray := prog_10_method_2_code
def my_Y_begin : MethodName := ⟨rn_Y, "begin", "(LRestSets$Table;)V"⟩
abbrev bc_Y_lengthen : ByteArray := prog_10_method_3_code
def my_Y_lengthen : MethodName := ⟨rn_Y, "lengthen", "(LRestSets$Table;)V"⟩
abbrev bc_H_init : ByteArray := prog_11_method_1_code
def my_H_init : MethodName := ⟨rn_H, "<init>", "(LRestSets$Table;LRestSets$Table;)V"⟩
abbrev bc_H_start : ByteArray := prog_11_method_2_code
def my_H_start : MethodName := ⟨rn_H, "start", "()I"⟩
abbrev bc_H_step : ByteArray := prog_11_method_3_code
def my_H_step : MethodName := ⟨rn_H, "step", "(II)I"⟩
abbrev bc_H_accepts : ByteArray := prog_11_method_4_code
def my_H_accepts : MethodName := ⟨rn_H, "accepts", "(I)Z"⟩
abbrev bc_H_withBegun : ByteArray := prog_11_method_5_code
def my_H_withBegun : MethodName := ⟨rn_H, "withBegun", "(II)I"⟩
abbrev bc_L_letters : ByteArray := method_3_code
def my_L_letters : MethodName := ⟨rn_L, "letters", "(LRestSets;I[J)I"⟩
abbrev bc_L_empty : ByteArray := method_4_code
def my_L_empty : MethodName := ⟨rn_L, "empty", "(LRestSets;[J)I"⟩
abbrev bc_L_then : ByteArray := method_5_code
def my_L_then : MethodName := ⟨rn_L, "then", "(LRestSets;II[J)I"⟩
abbrev bc_L_both : ByteArray := method_6_code
def my_L_both : MethodName := ⟨rn_L, "both", "(LRestSets;III[J)I"⟩
abbrev bc_L_many : ByteArray := method_7_code
def my_L_many : MethodName := ⟨rn_L, "many", "(LRestSets;I[J)I"⟩
abbrev bc_L_contrary : ByteArray := method_8_code
def my_L_contrary : MethodName := ⟨rn_L, "contrary", "(LRestSets;I[J)I"⟩
abbrev bc_L_back : ByteArray := method_9_code
def my_L_back : MethodName := ⟨rn_L, "back", "(LRestSets;I[J)I"⟩
abbrev bc_L_rest : ByteArray := method_10_code
def my_L_rest : MethodName := ⟨rn_L, "rest", "(LRestSets;II[J)I"⟩
abbrev bc_L_beginnings : ByteArray := method_11_code
def my_L_beginnings : MethodName := ⟨rn_L, "beginnings", "(LRestSets;I[J)I"⟩
abbrev bc_L_has : ByteArray := method_12_code
def my_L_has : MethodName := ⟨rn_L, "has", "(LRestSets;IIJ[J)I"⟩
abbrev bc_L_same : ByteArray := method_13_code
def my_L_same : MethodName := ⟨rn_L, "same", "(LRestSets;II[J)I"⟩
abbrev bc_L_inside : ByteArray := method_14_code
def my_L_inside : MethodName := ⟨rn_L, "inside", "(LRestSets;II[J)I"⟩
abbrev bc_L_rests : ByteArray := method_15_code
def my_L_rests : MethodName := ⟨rn_L, "rests", "(LRestSets;I[J)I"⟩
abbrev bc_L_words : ByteArray := method_16_code
def my_L_words : MethodName := ⟨rn_L, "words", "(LRestSets;II[J)I"⟩
abbrev bc_L_shortest : ByteArray := method_17_code
def my_L_shortest : MethodName := ⟨rn_L, "shortest", "(LRestSets;I[J)I"⟩
abbrev bc_L_letter : ByteArray := method_18_code
def my_L_letter : MethodName := ⟨rn_L, "letter", "(LRestSets;II[J)I"⟩
abbrev bc_L_size : ByteArray := method_19_code
def my_L_size : MethodName := ⟨rn_L, "size", "(LRestSets;I[J)I"⟩
abbrev bc_L_law : ByteArray := code
def my_L_law : MethodName := ⟨rn_L, "law", "([I)Z"⟩
def my_A_start : MethodName := ⟨rn_A, "start", "()I"⟩
def my_A_step : MethodName := ⟨rn_A, "step", "(II)I"⟩
def my_A_accepts : MethodName := ⟨rn_A, "accepts", "(I)Z"⟩
abbrev bc_J_ntz : ByteArray := prog_17_method_48_code
def my_J_ntz : MethodName := ⟨rn_J, "numberOfTrailingZeros", "(I)I"⟩
set_option maxRecDepth 100000 in theorem mc_X_init : Cond.code my_X_init bc_X_init 2 none ∈ gw := gw_t 25 rfl rfl
set_option maxRecDepth 100000 in theorem mi_X_init : Cond.instanceMethod my_X_init ∈ gw := gw_t 24 rfl rfl
set_option maxRecDepth 100000 in theorem mw_X_init : mI' my_X_init bc_X_init 2 0 := ⟨mc_X_init, mi_X_init, gw_t 1 rfl rfl, rfl, by decide +kernel⟩
set_option maxRecDepth 100000 in theorem mc_X_letters : Cond.code my_X_letters bc_X_letters 2 (some .int) ∈ gw := gw_t 169 rfl rfl
set_option maxRecDepth 100000 in theorem mi_X_letters : Cond.instanceMethod my_X_letters ∈ gw := gw_t 167 rfl rfl
set_option maxRecDepth 100000 in theorem mw_X_letters : mW rn_X my_X_letters bc_X_letters 2 (some .int) 1 := ⟨mc_X_letters, mi_X_letters, gw_t 168 rfl rfl, gw_t 1 rfl rfl, by decide +kernel⟩
set_option maxRecDepth 100000 in theorem mc_X_empty : Cond.code my_X_empty bc_X_empty 1 (some .int) ∈ gw := gw_t 405 rfl rfl
set_option maxRecDepth 100000 in theorem mi_X_empty : Cond.instanceMethod my_X_empty ∈ gw := gw_t 403 rfl rfl
set_option maxRecDepth 100000 in theorem mw_X_empty : mW rn_X my_X_empty bc_X_empty 1 (some .int) 0 := ⟨mc_X_empty, mi_X_empty, gw_t 404 rfl rfl, gw_t 1 rfl rfl, by decide +kernel⟩
set_option maxRecDepth 100000 in theorem mc_X_then : Cond.code my_X_then bc_X_then 3 (some .int) ∈ gw := gw_t 412 rfl rfl
set_option maxRecDepth 100000 in theorem mi_X_then : Cond.instanceMethod my_X_then ∈ gw := gw_t 410 rfl rfl
set_option maxRecDepth 100000 in theorem mw_X_then : mW rn_X my_X_then bc_X_then 3 (some .int) 2 := ⟨mc_X_then, mi_X_then, gw_t 411 rfl rfl, gw_t 1 rfl rfl, by decide +kernel⟩
set_option maxRecDepth 100000 in theorem mc_X_both : Cond.code my_X_both bc_X_both 4 (some .int) ∈ gw := gw_t 436 rfl rfl
set_option maxRecDepth 100000 in theorem mi_X_both : Cond.instanceMethod my_X_both ∈ gw := gw_t 434 rfl rfl
set_option maxRecDepth 100000 in theorem mw_X_both : mW rn_X my_X_both bc_X_both 4 (some .int) 3 := ⟨mc_X_both, mi_X_both, gw_t 435 rfl rfl, gw_t 1 rfl rfl, by decide +kernel⟩
set_option maxRecDepth 100000 in theorem mc_X_many : Cond.code my_X_many bc_X_many 2 (some .int) ∈ gw := gw_t 460 rfl rfl
set_option maxRecDepth 100000 in theorem mi_X_many : Cond.instanceMethod my_X_many ∈ gw := gw_t 458 rfl rfl
set_option maxRecDepth 100000 in theorem mw_X_many : mW rn_X my_X_many bc_X_many 2 (some .int) 1 := ⟨mc_X_many, mi_X_many, gw_t 459 rfl rfl, gw_t 1 rfl rfl, by decide +kernel⟩
set_option maxRecDepth 100000 in theorem mc_X_contrary : Cond.code my_X_contrary bc_X_contrary 3 (some .int) ∈ gw := gw_t 477 rfl rfl
set_option maxRecDepth 100000 in theorem mi_X_contrary : Cond.instanceMethod my_X_contrary ∈ gw := gw_t 475 rfl rfl
set_option maxRecDepth 100000 in theorem mw_X_contrary : mW rn_X my_X_contrary bc_X_contrary 3 (some .int) 1 := ⟨mc_X_contrary, mi_X_contrary, gw_t 476 rfl rfl, gw_t 1 rfl rfl, by decide +kernel⟩
set_option maxRecDepth 100000 in theorem mc_X_back : Cond.code my_X_back bc_X_back 2 (some .int) ∈ gw := gw_t 500 rfl rfl
set_option maxRecDepth 100000 in theorem mi_X_back : Cond.instanceMethod my_X_back ∈ gw := gw_t 498 rfl rfl
set_option maxRecDepth 100000 in theorem mw_X_back : mW rn_X my_X_back bc_X_back 2 (some .int) 1 := ⟨mc_X_back, mi_X_back, gw_t 499 rfl rfl, gw_t 1 rfl rfl, by decide +kernel⟩
set_option maxRecDepth 100000 in theorem mc_X_rest : Cond.code my_X_rest bc_X_rest 4 (some .int) ∈ gw := gw_t 517 rfl rfl
set_option maxRecDepth 100000 in theorem mi_X_rest : Cond.instanceMethod my_X_rest ∈ gw := gw_t 515 rfl rfl
set_option maxRecDepth 100000 in theorem mw_X_rest : mW rn_X my_X_rest bc_X_rest 4 (some .int) 2 := ⟨mc_X_rest, mi_X_rest, gw_t 516 rfl rfl, gw_t 1 rfl rfl, by decide +kernel⟩
set_option maxRecDepth 100000 in theorem mc_X_beginnings : Cond.code my_X_beginnings bc_X_beginnings 3 (some .int) ∈ gw := gw_t 526 rfl rfl
set_option maxRecDepth 100000 in theorem mi_X_beginnings : Cond.instanceMethod my_X_beginnings ∈ gw := gw_t 524 rfl rfl
set_option maxRecDepth 100000 in theorem mw_X_beginnings : mW rn_X my_X_beginnings bc_X_beginnings 3 (some .int) 1 := ⟨mc_X_beginnings, mi_X_beginnings, gw_t 525 rfl rfl, gw_t 1 rfl rfl, by decide +kernel⟩
set_option maxRecDepth 100000 in theorem mc_X_has : Cond.code my_X_has bc_X_has 9 (some .boolean) ∈ gw := gw_t 533 rfl rfl
set_option maxRecDepth 100000 in theorem mi_X_has : Cond.instanceMethod my_X_has ∈ gw := gw_t 531 rfl rfl
set_option maxRecDepth 100000 in theorem mw_X_has : mW rn_X my_X_has bc_X_has 9 (some .boolean) 3 := ⟨mc_X_has, mi_X_has, gw_t 532 rfl rfl, gw_t 1 rfl rfl, by decide +kernel⟩
set_option maxRecDepth 100000 in theorem mc_X_same : Cond.code my_X_same bc_X_same 3 (some .boolean) ∈ gw := gw_t 542 rfl rfl
set_option maxRecDepth 100000 in theorem mi_X_same : Cond.instanceMethod my_X_same ∈ gw := gw_t 540 rfl rfl
set_option maxRecDepth 100000 in theorem mw_X_same : mW rn_X my_X_same bc_X_same 3 (some .boolean) 2 := ⟨mc_X_same, mi_X_same, gw_t 541 rfl rfl, gw_t 1 rfl rfl, by decide +kernel⟩
set_option maxRecDepth 100000 in theorem mc_X_inside : Cond.code my_X_inside bc_X_inside 3 (some .boolean) ∈ gw := gw_t 553 rfl rfl
set_option maxRecDepth 100000 in theorem mi_X_inside : Cond.instanceMethod my_X_inside ∈ gw := gw_t 551 rfl rfl
set_option maxRecDepth 100000 in theorem mw_X_inside : mW rn_X my_X_inside bc_X_inside 3 (some .boolean) 2 := ⟨mc_X_inside, mi_X_inside, gw_t 552 rfl rfl, gw_t 1 rfl rfl, by decide +kernel⟩
set_option maxRecDepth 100000 in theorem mc_X_rests : Cond.code my_X_rests bc_X_rests 2 (some .int) ∈ gw := gw_t 564 rfl rfl
set_option maxRecDepth 100000 in theorem mi_X_rests : Cond.instanceMethod my_X_rests ∈ gw := gw_t 562 rfl rfl
set_option maxRecDepth 100000 in theorem mw_X_rests : mW rn_X my_X_rests bc_X_rests 2 (some .int) 1 := ⟨mc_X_rests, mi_X_rests, gw_t 563 rfl rfl, gw_t 1 rfl rfl, by decide +kernel⟩
set_option maxRecDepth 100000 in theorem mc_X_words : Cond.code my_X_words bc_X_words 5 (some .long) ∈ gw := gw_t 571 rfl rfl
set_option maxRecDepth 100000 in theorem mi_X_words : Cond.instanceMethod my_X_words ∈ gw := gw_t 569 rfl rfl
set_option maxRecDepth 100000 in theorem mw_X_words : mW rn_X my_X_words bc_X_words 5 (some .long) 2 := ⟨mc_X_words, mi_X_words, gw_t 570 rfl rfl, gw_t 1 rfl rfl, by decide +kernel⟩
set_option maxRecDepth 100000 in theorem mc_X_shortest : Cond.code my_X_shortest bc_X_shortest 3 (some .int) ∈ gw := gw_t 592 rfl rfl
set_option maxRecDepth 100000 in theorem mi_X_shortest : Cond.instanceMethod my_X_shortest ∈ gw := gw_t 590 rfl rfl
set_option maxRecDepth 100000 in theorem mw_X_shortest : mW rn_X my_X_shortest bc_X_shortest 3 (some .int) 1 := ⟨mc_X_shortest, mi_X_shortest, gw_t 591 rfl rfl, gw_t 1 rfl rfl, by decide +kernel⟩
set_option maxRecDepth 100000 in theorem mc_X_letter : Cond.code my_X_letter bc_X_letter 6 (some .int) ∈ gw := gw_t 615 rfl rfl
set_option maxRecDepth 100000 in theorem mi_X_letter : Cond.instanceMethod my_X_letter ∈ gw := gw_t 613 rfl rfl
set_option maxRecDepth 100000 in theorem mw_X_letter : mW rn_X my_X_letter bc_X_letter 6 (some .int) 2 := ⟨mc_X_letter, mi_X_letter, gw_t 614 rfl rfl, gw_t 1 rfl rfl, by decide +kernel⟩
set_option maxRecDepth 100000 in theorem mc_X_size : Cond.code my_X_size bc_X_size 6 (some .int) ∈ gw := gw_t 627 rfl rfl
set_option maxRecDepth 100000 in theorem mi_X_size : Cond.instanceMethod my_X_size ∈ gw := gw_t 625 rfl rfl
set_option maxRecDepth 100000 in theorem mw_X_size : mW rn_X my_X_size bc_X_size 6 (some .int) 1 := ⟨mc_X_size, mi_X_size, gw_t 626 rfl rfl, gw_t 1 rfl rfl, by decide +kernel⟩
set_option maxRecDepth 100000 in theorem mc_X_count : Cond.code my_X_count bc_X_count 1 (some .int) ∈ gw := gw_t 160 rfl rfl
set_option maxRecDepth 100000 in theorem mi_X_count : Cond.instanceMethod my_X_count ∈ gw := gw_t 158 rfl rfl
set_option maxRecDepth 100000 in theorem mw_X_count : mW rn_X my_X_count bc_X_count 1 (some .int) 0 := ⟨mc_X_count, mi_X_count, gw_t 159 rfl rfl, gw_t 1 rfl rfl, by decide +kernel⟩
set_option maxRecDepth 100000 in theorem mc_X_tableOf : Cond.code my_X_tableOf bc_X_tableOf 2 (some (.object "RestSets$Table")) ∈ gw := gw_t 417 rfl rfl
set_option maxRecDepth 100000 in theorem mi_X_tableOf : Cond.instanceMethod my_X_tableOf ∈ gw := gw_t 416 rfl rfl
set_option maxRecDepth 100000 in theorem mw_X_tableOf : mW rn_X my_X_tableOf bc_X_tableOf 2 (some (.object "RestSets$Table")) 1 := ⟨mc_X_tableOf, mi_X_tableOf, gw_s 10 rfl rfl, gw_t 1 rfl rfl, by decide +kernel⟩
set_option maxRecDepth 100000 in theorem mc_X_keep : Cond.code my_X_keep bc_X_keep 4 (some .int) ∈ gw := gw_t 243 rfl rfl
set_option maxRecDepth 100000 in theorem mi_X_keep : Cond.instanceMethod my_X_keep ∈ gw := gw_t 242 rfl rfl
set_option maxRecDepth 100000 in theorem mw_X_keep : mW rn_X my_X_keep bc_X_keep 4 (some .int) 1 := ⟨mc_X_keep, mi_X_keep, gw_s 1 rfl rfl, gw_t 1 rfl rfl, by decide +kernel⟩
set_option maxRecDepth 100000 in theorem mc_M_init : Cond.code my_M_init bc_M_init 1 none ∈ gw := gw_t 633 rfl rfl
set_option maxRecDepth 100000 in theorem mi_M_init : Cond.instanceMethod my_M_init ∈ gw := gw_t 632 rfl rfl
set_option maxRecDepth 100000 in theorem mw_M_init : mI' my_M_init bc_M_init 1 0 := ⟨mc_M_init, mi_M_init, gw_t 7 rfl rfl, rfl, by decide +kernel⟩
set_option maxRecDepth 100000 in theorem mc_M_thrown : Cond.code my_M_thrown bc_M_thrown 1 (some .int) ∈ gw := gw_t 703 rfl rfl
set_option maxRecDepth 100000 in theorem mi_M_thrown : Cond.instanceMethod my_M_thrown ∈ gw := gw_t 701 rfl rfl
set_option maxRecDepth 100000 in theorem mw_M_thrown : mW rn_M my_M_thrown bc_M_thrown 1 (some .int) 0 := ⟨mc_M_thrown, mi_M_thrown, gw_t 702 rfl rfl, gw_t 7 rfl rfl, by decide +kernel⟩
set_option maxRecDepth 100000 in theorem mc_M_isSet : Cond.code my_M_isSet bc_M_isSet 2 (some .boolean) ∈ gw := gw_t 763 rfl rfl
set_option maxRecDepth 100000 in theorem mi_M_isSet : Cond.instanceMethod my_M_isSet ∈ gw := gw_t 762 rfl rfl
set_option maxRecDepth 100000 in theorem mw_M_isSet : mW rn_M my_M_isSet bc_M_isSet 2 (some .boolean) 1 := ⟨mc_M_isSet, mi_M_isSet, gw_s 22 rfl rfl, gw_t 7 rfl rfl, by decide +kernel⟩
set_option maxRecDepth 100000 in theorem mc_M_next : Cond.code my_M_next bc_M_next 4 (some .int) ∈ gw := gw_t 723 rfl rfl
set_option maxRecDepth 100000 in theorem mi_M_next : Cond.instanceMethod my_M_next ∈ gw := gw_t 722 rfl rfl
set_option maxRecDepth 100000 in theorem mw_M_next : mW rn_M my_M_next bc_M_next 4 (some .int) 3 := ⟨mc_M_next, mi_M_next, gw_s 14 rfl rfl, gw_t 7 rfl rfl, by decide +kernel⟩
set_option maxRecDepth 100000 in theorem mc_M_isEnd : Cond.code my_M_isEnd bc_M_isEnd 3 (some .boolean) ∈ gw := gw_t 719 rfl rfl
set_option maxRecDepth 100000 in theorem mi_M_isEnd : Cond.instanceMethod my_M_isEnd ∈ gw := gw_t 718 rfl rfl
set_option maxRecDepth 100000 in theorem mw_M_isEnd : mW rn_M my_M_isEnd bc_M_isEnd 3 (some .boolean) 2 := ⟨mc_M_isEnd, mi_M_isEnd, gw_s 13 rfl rfl, gw_t 7 rfl rfl, by decide +kernel⟩
set_option maxRecDepth 100000 in theorem mc_M_all : Cond.code my_M_all bc_M_all 6 (some .int) ∈ gw := gw_t 735 rfl rfl
set_option maxRecDepth 100000 in theorem mi_M_all : Cond.instanceMethod my_M_all ∈ gw := gw_t 734 rfl rfl
set_option maxRecDepth 100000 in theorem mw_M_all : mW rn_M my_M_all bc_M_all 6 (some .int) 3 := ⟨mc_M_all, mi_M_all, gw_s 17 rfl rfl, gw_t 7 rfl rfl, by decide +kernel⟩
set_option maxRecDepth 100000 in theorem mc_M_someEnd : Cond.code my_M_someEnd bc_M_someEnd 4 (some .boolean) ∈ gw := gw_t 739 rfl rfl
set_option maxRecDepth 100000 in theorem mi_M_someEnd : Cond.instanceMethod my_M_someEnd ∈ gw := gw_t 738 rfl rfl
set_option maxRecDepth 100000 in theorem mw_M_someEnd : mW rn_M my_M_someEnd bc_M_someEnd 4 (some .boolean) 2 := ⟨mc_M_someEnd, mi_M_someEnd, gw_s 18 rfl rfl, gw_t 7 rfl rfl, by decide +kernel⟩
set_option maxRecDepth 100000 in theorem mc_M_begin : Cond.code my_M_begin bc_M_begin 3 (some .int) ∈ gw := gw_t 715 rfl rfl
set_option maxRecDepth 100000 in theorem mi_M_begin : Cond.instanceMethod my_M_begin ∈ gw := gw_t 714 rfl rfl
set_option maxRecDepth 100000 in theorem mw_M_begin : mW rn_M my_M_begin bc_M_begin 3 (some .int) 0 := ⟨mc_M_begin, mi_M_begin, gw_s 12 rfl rfl, gw_t 7 rfl rfl, by decide +kernel⟩
set_option maxRecDepth 100000 in theorem mc_M_step : Cond.code my_M_step bc_M_step 6 (some .int) ∈ gw := gw_t 731 rfl rfl
set_option maxRecDepth 100000 in theorem mi_M_step : Cond.instanceMethod my_M_step ∈ gw := gw_t 730 rfl rfl
set_option maxRecDepth 100000 in theorem mw_M_step : mW rn_M my_M_step bc_M_step 6 (some .int) 2 := ⟨mc_M_step, mi_M_step, gw_s 16 rfl rfl, gw_t 7 rfl rfl, by decide +kernel⟩
set_option maxRecDepth 100000 in theorem mc_M_isGood : Cond.code my_M_isGood bc_M_isGood 4 (some .boolean) ∈ gw := gw_t 747 rfl rfl
set_option maxRecDepth 100000 in theorem mi_M_isGood : Cond.instanceMethod my_M_isGood ∈ gw := gw_t 746 rfl rfl
set_option maxRecDepth 100000 in theorem mw_M_isGood : mW rn_M my_M_isGood bc_M_isGood 4 (some .boolean) 1 := ⟨mc_M_isGood, mi_M_isGood, gw_s 20 rfl rfl, gw_t 7 rfl rfl, by decide +kernel⟩
set_option maxRecDepth 100000 in theorem mc_M_come : Cond.code my_M_come bc_M_come 2 (some .int) ∈ gw := gw_t 727 rfl rfl
set_option maxRecDepth 100000 in theorem mi_M_come : Cond.instanceMethod my_M_come ∈ gw := gw_t 726 rfl rfl
set_option maxRecDepth 100000 in theorem mw_M_come : mW rn_M my_M_come bc_M_come 2 (some .int) 1 := ⟨mc_M_come, mi_M_come, gw_s 15 rfl rfl, gw_t 7 rfl rfl, by decide +kernel⟩
set_option maxRecDepth 100000 in theorem mc_M_apart : Cond.code my_M_apart bc_M_apart 5 (some .int) ∈ gw := gw_t 743 rfl rfl
set_option maxRecDepth 100000 in theorem mi_M_apart : Cond.instanceMethod my_M_apart ∈ gw := gw_t 742 rfl rfl
set_option maxRecDepth 100000 in theorem mw_M_apart : mW rn_M my_M_apart bc_M_apart 5 (some .int) 0 := ⟨mc_M_apart, mi_M_apart, gw_s 19 rfl rfl, gw_t 7 rfl rfl, by decide +kernel⟩
set_option maxRecDepth 100000 in theorem mc_M_alike : Cond.code my_M_alike bc_M_alike 3 (some .boolean) ∈ gw := gw_t 751 rfl rfl
set_option maxRecDepth 100000 in theorem mi_M_alike : Cond.instanceMethod my_M_alike ∈ gw := gw_t 750 rfl rfl
set_option maxRecDepth 100000 in theorem mw_M_alike : mW rn_M my_M_alike bc_M_alike 3 (some .boolean) 2 := ⟨mc_M_alike, mi_M_alike, gw_s 21 rfl rfl, gw_t 7 rfl rfl, by decide +kernel⟩
set_option maxRecDepth 100000 in theorem mc_M_make : Cond.code my_M_make bc_M_make 9 (some .int) ∈ gw := gw_t 711 rfl rfl
set_option maxRecDepth 100000 in theorem mi_M_make : Cond.instanceMethod my_M_make ∈ gw := gw_t 710 rfl rfl
set_option maxRecDepth 100000 in theorem mw_M_make : mW rn_M my_M_make bc_M_make 9 (some .int) 4 := ⟨mc_M_make, mi_M_make, gw_s 11 rfl rfl, gw_t 7 rfl rfl, by decide +kernel⟩
set_option maxRecDepth 100000 in theorem mc_M_letters : Cond.code my_M_letters bc_M_letters 2 (some .int) ∈ gw := gw_t 707 rfl rfl
set_option maxRecDepth 100000 in theorem mi_M_letters : Cond.instanceMethod my_M_letters ∈ gw := gw_t 705 rfl rfl
set_option maxRecDepth 100000 in theorem mw_M_letters : mW rn_M my_M_letters bc_M_letters 2 (some .int) 1 := ⟨mc_M_letters, mi_M_letters, gw_t 706 rfl rfl, gw_t 7 rfl rfl, by decide +kernel⟩
set_option maxRecDepth 100000 in theorem mc_M_empty : Cond.code my_M_empty bc_M_empty 2 (some .int) ∈ gw := gw_t 755 rfl rfl
set_option maxRecDepth 100000 in theorem mi_M_empty : Cond.instanceMethod my_M_empty ∈ gw := gw_t 753 rfl rfl
set_option maxRecDepth 100000 in theorem mw_M_empty : mW rn_M my_M_empty bc_M_empty 2 (some .int) 0 := ⟨mc_M_empty, mi_M_empty, gw_t 754 rfl rfl, gw_t 7 rfl rfl, by decide +kernel⟩
set_option maxRecDepth 100000 in theorem mc_M_then : Cond.code my_M_then bc_M_then 3 (some .int) ∈ gw := gw_t 759 rfl rfl
set_option maxRecDepth 100000 in theorem mi_M_then : Cond.instanceMethod my_M_then ∈ gw := gw_t 757 rfl rfl
set_option maxRecDepth 100000 in theorem mw_M_then : mW rn_M my_M_then bc_M_then 3 (some .int) 2 := ⟨mc_M_then, mi_M_then, gw_t 758 rfl rfl, gw_t 7 rfl rfl, by decide +kernel⟩
set_option maxRecDepth 100000 in theorem mc_M_both : Cond.code my_M_both bc_M_both 4 (some .int) ∈ gw := gw_t 767 rfl rfl
set_option maxRecDepth 100000 in theorem mi_M_both : Cond.instanceMethod my_M_both ∈ gw := gw_t 765 rfl rfl
set_option maxRecDepth 100000 in theorem mw_M_both : mW rn_M my_M_both bc_M_both 4 (some .int) 3 := ⟨mc_M_both, mi_M_both, gw_t 766 rfl rfl, gw_t 7 rfl rfl, by decide +kernel⟩
set_option maxRecDepth 100000 in theorem mc_M_many : Cond.code my_M_many bc_M_many 2 (some .int) ∈ gw := gw_t 771 rfl rfl
set_option maxRecDepth 100000 in theorem mi_M_many : Cond.instanceMethod my_M_many ∈ gw := gw_t 769 rfl rfl
set_option maxRecDepth 100000 in theorem mw_M_many : mW rn_M my_M_many bc_M_many 2 (some .int) 1 := ⟨mc_M_many, mi_M_many, gw_t 770 rfl rfl, gw_t 7 rfl rfl, by decide +kernel⟩
set_option maxRecDepth 100000 in theorem mc_M_contrary : Cond.code my_M_contrary bc_M_contrary 2 (some .int) ∈ gw := gw_t 775 rfl rfl
set_option maxRecDepth 100000 in theorem mi_M_contrary : Cond.instanceMethod my_M_contrary ∈ gw := gw_t 773 rfl rfl
set_option maxRecDepth 100000 in theorem mw_M_contrary : mW rn_M my_M_contrary bc_M_contrary 2 (some .int) 1 := ⟨mc_M_contrary, mi_M_contrary, gw_t 774 rfl rfl, gw_t 7 rfl rfl, by decide +kernel⟩
set_option maxRecDepth 100000 in theorem mc_M_back : Cond.code my_M_back bc_M_back 2 (some .int) ∈ gw := gw_t 779 rfl rfl
set_option maxRecDepth 100000 in theorem mi_M_back : Cond.instanceMethod my_M_back ∈ gw := gw_t 777 rfl rfl
set_option maxRecDepth 100000 in theorem mw_M_back : mW rn_M my_M_back bc_M_back 2 (some .int) 1 := ⟨mc_M_back, mi_M_back, gw_t 778 rfl rfl, gw_t 7 rfl rfl, by decide +kernel⟩
set_option maxRecDepth 100000 in theorem mc_M_rest : Cond.code my_M_rest bc_M_rest 3 (some .int) ∈ gw := gw_t 783 rfl rfl
set_option maxRecDepth 100000 in theorem mi_M_rest : Cond.instanceMethod my_M_rest ∈ gw := gw_t 781 rfl rfl
set_option maxRecDepth 100000 in theorem mw_M_rest : mW rn_M my_M_rest bc_M_rest 3 (some .int) 2 := ⟨mc_M_rest, mi_M_rest, gw_t 782 rfl rfl, gw_t 7 rfl rfl, by decide +kernel⟩
set_option maxRecDepth 100000 in theorem mc_M_look : Cond.code my_M_look bc_M_look 5 none ∈ gw := gw_t 791 rfl rfl
set_option maxRecDepth 100000 in theorem mi_M_look : Cond.instanceMethod my_M_look ∈ gw := gw_t 790 rfl rfl
set_option maxRecDepth 100000 in theorem mw_M_look : mW rn_M my_M_look bc_M_look 5 none 1 := ⟨mc_M_look, mi_M_look, gw_s 23 rfl rfl, gw_t 7 rfl rfl, by decide +kernel⟩
set_option maxRecDepth 100000 in theorem mc_M_beginnings : Cond.code my_M_beginnings bc_M_beginnings 3 (some .int) ∈ gw := gw_t 787 rfl rfl
set_option maxRecDepth 100000 in theorem mi_M_beginnings : Cond.instanceMethod my_M_beginnings ∈ gw := gw_t 785 rfl rfl
set_option maxRecDepth 100000 in theorem mw_M_beginnings : mW rn_M my_M_beginnings bc_M_beginnings 3 (some .int) 1 := ⟨mc_M_beginnings, mi_M_beginnings, gw_t 786 rfl rfl, gw_t 7 rfl rfl, by decide +kernel⟩
set_option maxRecDepth 100000 in theorem mc_M_has : Cond.code my_M_has bc_M_has 8 (some .boolean) ∈ gw := gw_t 795 rfl rfl
set_option maxRecDepth 100000 in theorem mi_M_has : Cond.instanceMethod my_M_has ∈ gw := gw_t 793 rfl rfl
set_option maxRecDepth 100000 in theorem mw_M_has : mW rn_M my_M_has bc_M_has 8 (some .boolean) 3 := ⟨mc_M_has, mi_M_has, gw_t 794 rfl rfl, gw_t 7 rfl rfl, by decide +kernel⟩
set_option maxRecDepth 100000 in theorem mc_M_goes : Cond.code my_M_goes bc_M_goes 9 (some .boolean) ∈ gw := gw_t 804 rfl rfl
set_option maxRecDepth 100000 in theorem mi_M_goes : Cond.instanceMethod my_M_goes ∈ gw := gw_t 803 rfl rfl
set_option maxRecDepth 100000 in theorem mw_M_goes : mW rn_M my_M_goes bc_M_goes 9 (some .boolean) 3 := ⟨mc_M_goes, mi_M_goes, gw_s 24 rfl rfl, gw_t 7 rfl rfl, by decide +kernel⟩
set_option maxRecDepth 100000 in theorem mc_M_same : Cond.code my_M_same bc_M_same 3 (some .boolean) ∈ gw := gw_t 800 rfl rfl
set_option maxRecDepth 100000 in theorem mi_M_same : Cond.instanceMethod my_M_same ∈ gw := gw_t 798 rfl rfl
set_option maxRecDepth 100000 in theorem mw_M_same : mW rn_M my_M_same bc_M_same 3 (some .boolean) 2 := ⟨mc_M_same, mi_M_same, gw_t 799 rfl rfl, gw_t 7 rfl rfl, by decide +kernel⟩
set_option maxRecDepth 100000 in theorem mc_M_inside : Cond.code my_M_inside bc_M_inside 3 (some .boolean) ∈ gw := gw_t 808 rfl rfl
set_option maxRecDepth 100000 in theorem mi_M_inside : Cond.instanceMethod my_M_inside ∈ gw := gw_t 806 rfl rfl
set_option maxRecDepth 100000 in theorem mw_M_inside : mW rn_M my_M_inside bc_M_inside 3 (some .boolean) 2 := ⟨mc_M_inside, mi_M_inside, gw_t 807 rfl rfl, gw_t 7 rfl rfl, by decide +kernel⟩
set_option maxRecDepth 100000 in theorem mc_M_rests : Cond.code my_M_rests bc_M_rests 2 (some .int) ∈ gw := gw_t 812 rfl rfl
set_option maxRecDepth 100000 in theorem mi_M_rests : Cond.instanceMethod my_M_rests ∈ gw := gw_t 810 rfl rfl
set_option maxRecDepth 100000 in theorem mw_M_rests : mW rn_M my_M_rests bc_M_rests 2 (some .int) 1 := ⟨mc_M_rests, mi_M_rests, gw_t 811 rfl rfl, gw_t 7 rfl rfl, by decide +kernel⟩
set_option maxRecDepth 100000 in theorem mc_M_countJ : Cond.code my_M_countJ bc_M_countJ 5 (some .long) ∈ gw := gw_t 820 rfl rfl
set_option maxRecDepth 100000 in theorem mi_M_countJ : Cond.instanceMethod my_M_countJ ∈ gw := gw_t 819 rfl rfl
set_option maxRecDepth 100000 in theorem mw_M_countJ : mW rn_M my_M_countJ bc_M_countJ 5 (some .long) 2 := ⟨mc_M_countJ, mi_M_countJ, gw_s 25 rfl rfl, gw_t 7 rfl rfl, by decide +kernel⟩
set_option maxRecDepth 100000 in theorem mc_M_words : Cond.code my_M_words bc_M_words 3 (some .long) ∈ gw := gw_t 816 rfl rfl
set_option maxRecDepth 100000 in theorem mi_M_words : Cond.instanceMethod my_M_words ∈ gw := gw_t 814 rfl rfl
set_option maxRecDepth 100000 in theorem mw_M_words : mW rn_M my_M_words bc_M_words 3 (some .long) 2 := ⟨mc_M_words, mi_M_words, gw_t 815 rfl rfl, gw_t 7 rfl rfl, by decide +kernel⟩
set_option maxRecDepth 100000 in theorem mc_M_shortest : Cond.code my_M_shortest bc_M_shortest 2 (some .int) ∈ gw := gw_t 824 rfl rfl
set_option maxRecDepth 100000 in theorem mi_M_shortest : Cond.instanceMethod my_M_shortest ∈ gw := gw_t 822 rfl rfl
set_option maxRecDepth 100000 in theorem mw_M_shortest : mW rn_M my_M_shortest bc_M_shortest 2 (some .int) 1 := ⟨mc_M_shortest, mi_M_shortest, gw_t 823 rfl rfl, gw_t 7 rfl rfl, by decide +kernel⟩
set_option maxRecDepth 100000 in theorem mc_M_letter : Cond.code my_M_letter bc_M_letter 6 (some .int) ∈ gw := gw_t 828 rfl rfl
set_option maxRecDepth 100000 in theorem mi_M_letter : Cond.instanceMethod my_M_letter ∈ gw := gw_t 826 rfl rfl
set_option maxRecDepth 100000 in theorem mw_M_letter : mW rn_M my_M_letter bc_M_letter 6 (some .int) 2 := ⟨mc_M_letter, mi_M_letter, gw_t 827 rfl rfl, gw_t 7 rfl rfl, by decide +kernel⟩
set_option maxRecDepth 100000 in theorem mc_M_size : Cond.code my_M_size bc_M_size 7 (some .int) ∈ gw := gw_t 832 rfl rfl
set_option maxRecDepth 100000 in theorem mi_M_size : Cond.instanceMethod my_M_size ∈ gw := gw_t 830 rfl rfl
set_option maxRecDepth 100000 in theorem mw_M_size : mW rn_M my_M_size bc_M_size 7 (some .int) 1 := ⟨mc_M_size, mi_M_size, gw_t 831 rfl rfl, gw_t 7 rfl rfl, by decide +kernel⟩
set_option maxRecDepth 100000 in theorem mc_M_count : Cond.code my_M_count bc_M_count 1 (some .int) ∈ gw := gw_t 837 rfl rfl
set_option maxRecDepth 100000 in theorem mi_M_count : Cond.instanceMethod my_M_count ∈ gw := gw_t 835 rfl rfl
set_option maxRecDepth 100000 in theorem mw_M_count : mW rn_M my_M_count bc_M_count 1 (some .int) 0 := ⟨mc_M_count, mi_M_count, gw_t 836 rfl rfl, gw_t 7 rfl rfl, by decide +kernel⟩
set_option maxRecDepth 100000 in theorem mc_K_init : Cond.code my_K_init bc_K_init 2 none ∈ gw := gw_t 505 rfl rfl
set_option maxRecDepth 100000 in theorem mi_K_init : Cond.instanceMethod my_K_init ∈ gw := gw_t 504 rfl rfl
set_option maxRecDepth 100000 in theorem mw_K_init : mI' my_K_init bc_K_init 2 1 := ⟨mc_K_init, mi_K_init, gw_t 18 rfl rfl, rfl, by decide +kernel⟩
set_option maxRecDepth 100000 in theorem mc_K_start : Cond.code my_K_start bc_K_start 1 (some .int) ∈ gw := gw_t 269 rfl rfl
set_option maxRecDepth 100000 in theorem mi_K_start : Cond.instanceMethod my_K_start ∈ gw := gw_t 268 rfl rfl
set_option maxRecDepth 100000 in theorem ma_K_start : mA rn_K my_A_start my_K_start bc_K_start 1 (some .int) 0 := ⟨mc_K_start, mi_K_start, gw_t 267 rfl rfl, gw_t 18 rfl rfl, gw_t 266 rfl rfl, nw_t 265 rfl rfl, by decide +kernel⟩
set_option maxRecDepth 100000 in theorem mc_K_step : Cond.code my_K_step bc_K_step 3 (some .int) ∈ gw := gw_t 315 rfl rfl
set_option maxRecDepth 100000 in theorem mi_K_step : Cond.instanceMethod my_K_step ∈ gw := gw_t 314 rfl rfl
set_option maxRecDepth 100000 in theorem ma_K_step : mA rn_K my_A_step my_K_step bc_K_step 3 (some .int) 2 := ⟨mc_K_step, mi_K_step, gw_t 313 rfl rfl, gw_t 18 rfl rfl, gw_t 312 rfl rfl, nw_t 311 rfl rfl, by decide +kernel⟩
set_option maxRecDepth 100000 in theorem mc_K_accepts : Cond.code my_K_accepts bc_K_accepts 2 (some .boolean) ∈ gw := gw_t 352 rfl rfl
set_option maxRecDepth 100000 in theorem mi_K_accepts : Cond.instanceMethod my_K_accepts ∈ gw := gw_t 351 rfl rfl
set_option maxRecDepth 100000 in theorem ma_K_accepts : mA rn_K my_A_accepts my_K_accepts bc_K_accepts 2 (some .boolean) 1 := ⟨mc_K_accepts, mi_K_accepts, gw_t 350 rfl rfl, gw_t 18 rfl rfl, gw_t 349 rfl rfl, nw_t 348 rfl rfl, by decide +kernel⟩
set_option maxRecDepth 100000 in theorem mc_B_init : Cond.code my_B_init bc_B_init 4 none ∈ gw := gw_t 442 rfl rfl
set_option maxRecDepth 100000 in theorem mi_B_init : Cond.instanceMethod my_B_init ∈ gw := gw_t 441 rfl rfl
set_option maxRecDepth 100000 in theorem mw_B_init : mI' my_B_init bc_B_init 4 3 := ⟨mc_B_init, mi_B_init, gw_t 15 rfl rfl, rfl, by decide +kernel⟩
set_option maxRecDepth 100000 in theorem mc_B_start : Cond.code my_B_start bc_B_start 1 (some .int) ∈ gw := gw_t 272 rfl rfl
set_option maxRecDepth 100000 in theorem mi_B_start : Cond.instanceMethod my_B_start ∈ gw := gw_t 271 rfl rfl
set_option maxRecDepth 100000 in theorem ma_B_start : mA rn_B my_A_start my_B_start bc_B_start 1 (some .int) 0 := ⟨mc_B_start, mi_B_start, gw_t 270 rfl rfl, gw_t 15 rfl rfl, gw_t 266 rfl rfl, nw_t 265 rfl rfl, by decide +kernel⟩
set_option maxRecDepth 100000 in theorem mc_B_step : Cond.code my_B_step bc_B_step 4 (some .int) ∈ gw := gw_t 326 rfl rfl
set_option maxRecDepth 100000 in theorem mi_B_step : Cond.instanceMethod my_B_step ∈ gw := gw_t 325 rfl rfl
set_option maxRecDepth 100000 in theorem ma_B_step : mA rn_B my_A_step my_B_step bc_B_step 4 (some .int) 2 := ⟨mc_B_step, mi_B_step, gw_t 324 rfl rfl, gw_t 15 rfl rfl, gw_t 312 rfl rfl, nw_t 311 rfl rfl, by decide +kernel⟩
set_option maxRecDepth 100000 in theorem mc_B_accepts : Cond.code my_B_accepts bc_B_accepts 4 (some .boolean) ∈ gw := gw_t 355 rfl rfl
set_option maxRecDepth 100000 in theorem mi_B_accepts : Cond.instanceMethod my_B_accepts ∈ gw := gw_t 354 rfl rfl
set_option maxRecDepth 100000 in theorem ma_B_accepts : mA rn_B my_A_accepts my_B_accepts bc_B_accepts 4 (some .boolean) 1 := ⟨mc_B_accepts, mi_B_accepts, gw_t 353 rfl rfl, gw_t 15 rfl rfl, gw_t 349 rfl rfl, nw_t 348 rfl rfl, by decide +kernel⟩
set_option maxRecDepth 100000 in theorem mc_A_init : Cond.code my_A_init bc_A_init 1 none ∈ gw := gw_t 44 rfl rfl
set_option maxRecDepth 100000 in theorem mi_A_init : Cond.instanceMethod my_A_init ∈ gw := gw_t 43 rfl rfl
set_option maxRecDepth 100000 in theorem mw_A_init : mI' my_A_init bc_A_init 1 0 := ⟨mc_A_init, mi_A_init, gw_t 3 rfl rfl, rfl, by decide +kernel⟩
set_option maxRecDepth 100000 in theorem mc_N_init : Cond.code my_N_init bc_N_init 2 none ∈ gw := gw_t 465 rfl rfl
set_option maxRecDepth 100000 in theorem mi_N_init : Cond.instanceMethod my_N_init ∈ gw := gw_t 464 rfl rfl
set_option maxRecDepth 100000 in theorem mw_N_init : mI' my_N_init bc_N_init 2 1 := ⟨mc_N_init, mi_N_init, gw_t 16 rfl rfl, rfl, by decide +kernel⟩
set_option maxRecDepth 100000 in theorem mc_N_start : Cond.code my_N_start bc_N_start 1 (some .int) ∈ gw := gw_t 275 rfl rfl
set_option maxRecDepth 100000 in theorem mi_N_start : Cond.instanceMethod my_N_start ∈ gw := gw_t 274 rfl rfl
set_option maxRecDepth 100000 in theorem ma_N_start : mA rn_N my_A_start my_N_start bc_N_start 1 (some .int) 0 := ⟨mc_N_start, mi_N_start, gw_t 273 rfl rfl, gw_t 16 rfl rfl, gw_t 266 rfl rfl, nw_t 265 rfl rfl, by decide +kernel⟩
set_option maxRecDepth 100000 in theorem mc_N_step : Cond.code my_N_step bc_N_step 4 (some .int) ∈ gw := gw_t 330 rfl rfl
set_option maxRecDepth 100000 in theorem mi_N_step : Cond.instanceMethod my_N_step ∈ gw := gw_t 329 rfl rfl
set_option maxRecDepth 100000 in theorem ma_N_step : mA rn_N my_A_step my_N_step bc_N_step 4 (some .int) 2 := ⟨mc_N_step, mi_N_step, gw_t 328 rfl rfl, gw_t 16 rfl rfl, gw_t 312 rfl rfl, nw_t 311 rfl rfl, by decide +kernel⟩
set_option maxRecDepth 100000 in theorem mc_N_accepts : Cond.code my_N_accepts bc_N_accepts 2 (some .boolean) ∈ gw := gw_t 359 rfl rfl
set_option maxRecDepth 100000 in theorem mi_N_accepts : Cond.instanceMethod my_N_accepts ∈ gw := gw_t 358 rfl rfl
set_option maxRecDepth 100000 in theorem ma_N_accepts : mA rn_N my_A_accepts my_N_accepts bc_N_accepts 2 (some .boolean) 1 := ⟨mc_N_accepts, mi_N_accepts, gw_t 357 rfl rfl, gw_t 16 rfl rfl, gw_t 349 rfl rfl, nw_t 348 rfl rfl, by decide +kernel⟩
set_option maxRecDepth 100000 in theorem mc_O_init : Cond.code my_O_init bc_O_init 3 none ∈ gw := gw_t 41 rfl rfl
set_option maxRecDepth 100000 in theorem mi_O_init : Cond.instanceMethod my_O_init ∈ gw := gw_t 40 rfl rfl
set_option maxRecDepth 100000 in theorem mw_O_init : mI' my_O_init bc_O_init 3 2 := ⟨mc_O_init, mi_O_init, gw_t 4 rfl rfl, rfl, by decide +kernel⟩
set_option maxRecDepth 100000 in theorem mc_O_start : Cond.code my_O_start bc_O_start 1 (some .int) ∈ gw := gw_t 278 rfl rfl
set_option maxRecDepth 100000 in theorem mi_O_start : Cond.instanceMethod my_O_start ∈ gw := gw_t 277 rfl rfl
set_option maxRecDepth 100000 in theorem ma_O_start : mA rn_O my_A_start my_O_start bc_O_start 1 (some .int) 0 := ⟨mc_O_start, mi_O_start, gw_t 276 rfl rfl, gw_t 4 rfl rfl, gw_t 266 rfl rfl, nw_t 265 rfl rfl, by decide +kernel⟩
set_option maxRecDepth 100000 in theorem mc_O_step : Cond.code my_O_step bc_O_step 3 (some .int) ∈ gw := gw_t 337 rfl rfl
set_option maxRecDepth 100000 in theorem mi_O_step : Cond.instanceMethod my_O_step ∈ gw := gw_t 336 rfl rfl
set_option maxRecDepth 100000 in theorem ma_O_step : mA rn_O my_A_step my_O_step bc_O_step 3 (some .int) 2 := ⟨mc_O_step, mi_O_step, gw_t 335 rfl rfl, gw_t 4 rfl rfl, gw_t 312 rfl rfl, nw_t 311 rfl rfl, by decide +kernel⟩
set_option maxRecDepth 100000 in theorem mc_O_accepts : Cond.code my_O_accepts bc_O_accepts 2 (some .boolean) ∈ gw := gw_t 362 rfl rfl
set_option maxRecDepth 100000 in theorem mi_O_accepts : Cond.instanceMethod my_O_accepts ∈ gw := gw_t 361 rfl rfl
set_option maxRecDepth 100000 in theorem ma_O_accepts : mA rn_O my_A_accepts my_O_accepts bc_O_accepts 2 (some .boolean) 1 := ⟨mc_O_accepts, mi_O_accepts, gw_t 360 rfl rfl, gw_t 4 rfl rfl, gw_t 349 rfl rfl, nw_t 348 rfl rfl, by decide +kernel⟩
set_option maxRecDepth 100000 in theorem mc_R_init : Cond.code my_R_init bc_R_init 4 none ∈ gw := gw_t 482 rfl rfl
set_option maxRecDepth 100000 in theorem mi_R_init : Cond.instanceMethod my_R_init ∈ gw := gw_t 481 rfl rfl
set_option maxRecDepth 100000 in theorem mw_R_init : mI' my_R_init bc_R_init 4 3 := ⟨mc_R_init, mi_R_init, gw_t 17 rfl rfl, rfl, by decide +kernel⟩
set_option maxRecDepth 100000 in theorem mc_R_start : Cond.code my_R_start bc_R_start 1 (some .int) ∈ gw := gw_t 281 rfl rfl
set_option maxRecDepth 100000 in theorem mi_R_start : Cond.instanceMethod my_R_start ∈ gw := gw_t 280 rfl rfl
set_option maxRecDepth 100000 in theorem ma_R_start : mA rn_R my_A_start my_R_start bc_R_start 1 (some .int) 0 := ⟨mc_R_start, mi_R_start, gw_t 279 rfl rfl, gw_t 17 rfl rfl, gw_t 266 rfl rfl, nw_t 265 rfl rfl, by decide +kernel⟩
set_option maxRecDepth 100000 in theorem mc_R_step : Cond.code my_R_step bc_R_step 3 (some .int) ∈ gw := gw_t 340 rfl rfl
set_option maxRecDepth 100000 in theorem mi_R_step : Cond.instanceMethod my_R_step ∈ gw := gw_t 339 rfl rfl
set_option maxRecDepth 100000 in theorem ma_R_step : mA rn_R my_A_step my_R_step bc_R_step 3 (some .int) 2 := ⟨mc_R_step, mi_R_step, gw_t 338 rfl rfl, gw_t 17 rfl rfl, gw_t 312 rfl rfl, nw_t 311 rfl rfl, by decide +kernel⟩
set_option maxRecDepth 100000 in theorem mc_R_accepts : Cond.code my_R_accepts bc_R_accepts 2 (some .boolean) ∈ gw := gw_t 365 rfl rfl
set_option maxRecDepth 100000 in theorem mi_R_accepts : Cond.instanceMethod my_R_accepts ∈ gw := gw_t 364 rfl rfl
set_option maxRecDepth 100000 in theorem ma_R_accepts : mA rn_R my_A_accepts my_R_accepts bc_R_accepts 2 (some .boolean) 1 := ⟨mc_R_accepts, mi_R_accepts, gw_t 363 rfl rfl, gw_t 17 rfl rfl, gw_t 349 rfl rfl, nw_t 348 rfl rfl, by decide +kernel⟩
set_option maxRecDepth 100000 in theorem mc_S_init : Cond.code my_S_init bc_S_init 1 none ∈ gw := gw_t 35 rfl rfl
set_option maxRecDepth 100000 in theorem mi_S_init : Cond.instanceMethod my_S_init ∈ gw := gw_t 34 rfl rfl
set_option maxRecDepth 100000 in theorem mw_S_init : mI' my_S_init bc_S_init 1 0 := ⟨mc_S_init, mi_S_init, gw_t 2 rfl rfl, rfl, by decide +kernel⟩
set_option maxRecDepth 100000 in theorem mc_S_begin : Cond.code my_S_begin bc_S_begin 3 none ∈ gw := gw_t 263 rfl rfl
set_option maxRecDepth 100000 in theorem mi_S_begin : Cond.instanceMethod my_S_begin ∈ gw := gw_t 261 rfl rfl
set_option maxRecDepth 100000 in theorem mw_S_begin : mW rn_S my_S_begin bc_S_begin 3 none 1 := ⟨mc_S_begin, mi_S_begin, gw_t 262 rfl rfl, gw_t 2 rfl rfl, by decide +kernel⟩
set_option maxRecDepth 100000 in theorem mc_S_meetsAnEnd : Cond.code my_S_meetsAnEnd bc_S_meetsAnEnd 3 (some .boolean) ∈ gw := gw_t 557 rfl rfl
set_option maxRecDepth 100000 in theorem mi_S_meetsAnEnd : Cond.instanceMethod my_S_meetsAnEnd ∈ gw := gw_t 555 rfl rfl
set_option maxRecDepth 100000 in theorem mw_S_meetsAnEnd : mW rn_S my_S_meetsAnEnd bc_S_meetsAnEnd 3 (some .boolean) 0 := ⟨mc_S_meetsAnEnd, mi_S_meetsAnEnd, gw_t 556 rfl rfl, gw_t 2 rfl rfl, by decide +kernel⟩
set_option maxRecDepth 100000 in theorem mc_S_scan : Cond.code my_S_scan bc_S_scan 6 (some .int) ∈ gw := gw_t 301 rfl rfl
set_option maxRecDepth 100000 in theorem mi_S_scan : Cond.instanceMethod my_S_scan ∈ gw := gw_t 299 rfl rfl
set_option maxRecDepth 100000 in theorem mw_S_scan : mW rn_S my_S_scan bc_S_scan 6 (some .int) 0 := ⟨mc_S_scan, mi_S_scan, gw_t 300 rfl rfl, gw_t 2 rfl rfl, by decide +kernel⟩
set_option maxRecDepth 100000 in theorem mc_S_writeTo : Cond.code my_S_writeTo bc_S_writeTo 8 none ∈ gw := gw_t 389 rfl rfl
set_option maxRecDepth 100000 in theorem mi_S_writeTo : Cond.instanceMethod my_S_writeTo ∈ gw := gw_t 387 rfl rfl
set_option maxRecDepth 100000 in theorem mw_S_writeTo : mW rn_S my_S_writeTo bc_S_writeTo 8 none 1 := ⟨mc_S_writeTo, mi_S_writeTo, gw_t 388 rfl rfl, gw_t 2 rfl rfl, by decide +kernel⟩
set_option maxRecDepth 100000 in theorem mc_S_split : Cond.code my_S_split bc_S_split 4 (some .int) ∈ gw := gw_t 384 rfl rfl
set_option maxRecDepth 100000 in theorem mi_S_split : Cond.instanceMethod my_S_split ∈ gw := gw_t 383 rfl rfl
set_option maxRecDepth 100000 in theorem mw_S_split : mW rn_S my_S_split bc_S_split 4 (some .int) 3 := ⟨mc_S_split, mi_S_split, gw_s 8 rfl rfl, gw_t 2 rfl rfl, by decide +kernel⟩
set_option maxRecDepth 100000 in theorem mc_S_addKind : Cond.code my_S_addKind bc_S_addKind 2 (some .boolean) ∈ gw := gw_t 376 rfl rfl
set_option maxRecDepth 100000 in theorem mi_S_addKind : Cond.instanceMethod my_S_addKind ∈ gw := gw_t 375 rfl rfl
set_option maxRecDepth 100000 in theorem mw_S_addKind : mW rn_S my_S_addKind bc_S_addKind 2 (some .boolean) 1 := ⟨mc_S_addKind, mi_S_addKind, gw_s 7 rfl rfl, gw_t 2 rfl rfl, by decide +kernel⟩
set_option maxRecDepth 100000 in theorem mc_S_kindWith : Cond.code my_S_kindWith bc_S_kindWith 3 (some .int) ∈ gw := gw_t 372 rfl rfl
set_option maxRecDepth 100000 in theorem mi_S_kindWith : Cond.instanceMethod my_S_kindWith ∈ gw := gw_t 371 rfl rfl
set_option maxRecDepth 100000 in theorem mw_S_kindWith : mW rn_S my_S_kindWith bc_S_kindWith 3 (some .int) 1 := ⟨mc_S_kindWith, mi_S_kindWith, gw_s 6 rfl rfl, gw_t 2 rfl rfl, by decide +kernel⟩
set_option maxRecDepth 100000 in theorem mc_S_askTests : Cond.code my_S_askTests bc_S_askTests 6 (some .int) ∈ gw := gw_t 305 rfl rfl
set_option maxRecDepth 100000 in theorem mi_S_askTests : Cond.instanceMethod my_S_askTests ∈ gw := gw_t 304 rfl rfl
set_option maxRecDepth 100000 in theorem mw_S_askTests : mW rn_S my_S_askTests bc_S_askTests 6 (some .int) 1 := ⟨mc_S_askTests, mi_S_askTests, gw_s 4 rfl rfl, gw_t 2 rfl rfl, by decide +kernel⟩
set_option maxRecDepth 100000 in theorem mc_S_follow : Cond.code my_S_follow bc_S_follow 4 (some .int) ∈ gw := gw_t 309 rfl rfl
set_option maxRecDepth 100000 in theorem mi_S_follow : Cond.instanceMethod my_S_follow ∈ gw := gw_t 308 rfl rfl
set_option maxRecDepth 100000 in theorem mw_S_follow : mW rn_S my_S_follow bc_S_follow 4 (some .int) 2 := ⟨mc_S_follow, mi_S_follow, gw_s 5 rfl rfl, gw_t 2 rfl rfl, by decide +kernel⟩
set_option maxRecDepth 100000 in theorem mc_S_meet : Cond.code my_S_meet bc_S_meet 3 (some .int) ∈ gw := gw_t 297 rfl rfl
set_option maxRecDepth 100000 in theorem mi_S_meet : Cond.instanceMethod my_S_meet ∈ gw := gw_t 296 rfl rfl
set_option maxRecDepth 100000 in theorem mw_S_meet : mW rn_S my_S_meet bc_S_meet 3 (some .int) 1 := ⟨mc_S_meet, mi_S_meet, gw_s 3 rfl rfl, gw_t 2 rfl rfl, by decide +kernel⟩
set_option maxRecDepth 100000 in theorem mc_T_init : Cond.code my_T_init bc_T_init 1 none ∈ gw := gw_t 115 rfl rfl
set_option maxRecDepth 100000 in theorem mi_T_init : Cond.instanceMethod my_T_init ∈ gw := gw_t 114 rfl rfl
set_option maxRecDepth 100000 in theorem mw_T_init : mI' my_T_init bc_T_init 1 0 := ⟨mc_T_init, mi_T_init, gw_t 6 rfl rfl, rfl, by decide +kernel⟩
set_option maxRecDepth 100000 in theorem mc_T_after : Cond.code my_T_after bc_T_after 3 (some .int) ∈ gw := gw_t 323 rfl rfl
set_option maxRecDepth 100000 in theorem mi_T_after : Cond.instanceMethod my_T_after ∈ gw := gw_t 321 rfl rfl
set_option maxRecDepth 100000 in theorem mw_T_after : mW rn_T my_T_after bc_T_after 3 (some .int) 2 := ⟨mc_T_after, mi_T_after, gw_t 322 rfl rfl, gw_t 6 rfl rfl, by decide +kernel⟩
set_option maxRecDepth 100000 in theorem mc_T_endsAt : Cond.code my_T_endsAt bc_T_endsAt 2 (some .boolean) ∈ gw := gw_t 293 rfl rfl
set_option maxRecDepth 100000 in theorem mi_T_endsAt : Cond.instanceMethod my_T_endsAt ∈ gw := gw_t 291 rfl rfl
set_option maxRecDepth 100000 in theorem mw_T_endsAt : mW rn_T my_T_endsAt bc_T_endsAt 2 (some .boolean) 1 := ⟨mc_T_endsAt, mi_T_endsAt, gw_t 292 rfl rfl, gw_t 6 rfl rfl, by decide +kernel⟩
set_option maxRecDepth 100000 in theorem mc_T_afterAll : Cond.code my_T_afterAll bc_T_afterAll 5 (some .int) ∈ gw := gw_t 334 rfl rfl
set_option maxRecDepth 100000 in theorem mi_T_afterAll : Cond.instanceMethod my_T_afterAll ∈ gw := gw_t 332 rfl rfl
set_option maxRecDepth 100000 in theorem mw_T_afterAll : mW rn_T my_T_afterAll bc_T_afterAll 5 (some .int) 2 := ⟨mc_T_afterAll, mi_T_afterAll, gw_t 333 rfl rfl, gw_t 6 rfl rfl, by decide +kernel⟩
set_option maxRecDepth 100000 in theorem mc_T_beforeAll : Cond.code my_T_beforeAll bc_T_beforeAll 5 (some .int) ∈ gw := gw_t 319 rfl rfl
set_option maxRecDepth 100000 in theorem mi_T_beforeAll : Cond.instanceMethod my_T_beforeAll ∈ gw := gw_t 317 rfl rfl
set_option maxRecDepth 100000 in theorem mw_T_beforeAll : mW rn_T my_T_beforeAll bc_T_beforeAll 5 (some .int) 2 := ⟨mc_T_beforeAll, mi_T_beforeAll, gw_t 318 rfl rfl, gw_t 6 rfl rfl, by decide +kernel⟩
set_option maxRecDepth 100000 in theorem mc_T_matches : Cond.code my_T_matches bc_T_matches 3 (some .boolean) ∈ gw := gw_t 546 rfl rfl
set_option maxRecDepth 100000 in theorem mi_T_matches : Cond.instanceMethod my_T_matches ∈ gw := gw_t 544 rfl rfl
set_option maxRecDepth 100000 in theorem mw_T_matches : mW rn_T my_T_matches bc_T_matches 3 (some .boolean) 1 := ⟨mc_T_matches, mi_T_matches, gw_t 545 rfl rfl, gw_t 6 rfl rfl, by decide +kernel⟩
set_option maxRecDepth 100000 in theorem mc_T_measure : Cond.code my_T_measure bc_T_measure 3 none ∈ gw := gw_t 393 rfl rfl
set_option maxRecDepth 100000 in theorem mi_T_measure : Cond.instanceMethod my_T_measure ∈ gw := gw_t 391 rfl rfl
set_option maxRecDepth 100000 in theorem mw_T_measure : mW rn_T my_T_measure bc_T_measure 3 none 0 := ⟨mc_T_measure, mi_T_measure, gw_t 392 rfl rfl, gw_t 6 rfl rfl, by decide +kernel⟩
set_option maxRecDepth 100000 in theorem mc_T_nearer : Cond.code my_T_nearer bc_T_nearer 2 (some .int) ∈ gw := gw_t 620 rfl rfl
set_option maxRecDepth 100000 in theorem mi_T_nearer : Cond.instanceMethod my_T_nearer ∈ gw := gw_t 618 rfl rfl
set_option maxRecDepth 100000 in theorem mw_T_nearer : mW rn_T my_T_nearer bc_T_nearer 2 (some .int) 1 := ⟨mc_T_nearer, mi_T_nearer, gw_t 619 rfl rfl, gw_t 6 rfl rfl, by decide +kernel⟩
set_option maxRecDepth 100000 in theorem mc_T_letterToward : Cond.code my_T_letterToward bc_T_letterToward 4 (some .int) ∈ gw := gw_t 398 rfl rfl
set_option maxRecDepth 100000 in theorem mi_T_letterToward : Cond.instanceMethod my_T_letterToward ∈ gw := gw_t 397 rfl rfl
set_option maxRecDepth 100000 in theorem mw_T_letterToward : mW rn_T my_T_letterToward bc_T_letterToward 4 (some .int) 2 := ⟨mc_T_letterToward, mi_T_letterToward, gw_s 9 rfl rfl, gw_t 6 rfl rfl, by decide +kernel⟩
set_option maxRecDepth 100000 in theorem mc_Y_init : Cond.code my_Y_init bc_Y_init 1 none ∈ gw := gw_t 101 rfl rfl
set_option maxRecDepth 100000 in theorem mi_Y_init : Cond.instanceMethod my_Y_init ∈ gw := gw_t 100 rfl rfl
set_option maxRecDepth 100000 in theorem mw_Y_init : mI' my_Y_init bc_Y_init 1 0 := ⟨mc_Y_init, mi_Y_init, gw_t 5 rfl rfl, rfl, by decide +kernel⟩
set_option maxRecDepth 100000 in theorem mc_Y_begin : Cond.code my_Y_begin bc_Y_begin 3 none ∈ gw := gw_t 575 rfl rfl
set_option maxRecDepth 100000 in theorem mi_Y_begin : Cond.instanceMethod my_Y_begin ∈ gw := gw_t 573 rfl rfl
set_option maxRecDepth 100000 in theorem mw_Y_begin : mW rn_Y my_Y_begin bc_Y_begin 3 none 1 := ⟨mc_Y_begin, mi_Y_begin, gw_t 574 rfl rfl, gw_t 5 rfl rfl, by decide +kernel⟩
set_option maxRecDepth 100000 in theorem mc_Y_lengthen : Cond.code my_Y_lengthen bc_Y_lengthen 4 none ∈ gw := gw_t 580 rfl rfl
set_option maxRecDepth 100000 in theorem mi_Y_lengthen : Cond.instanceMethod my_Y_lengthen ∈ gw := gw_t 578 rfl rfl
set_option maxRecDepth 100000 in theorem mw_Y_lengthen : mW rn_Y my_Y_lengthen bc_Y_lengthen 4 none 1 := ⟨mc_Y_lengthen, mi_Y_lengthen, gw_t 579 rfl rfl, gw_t 5 rfl rfl, by decide +kernel⟩
set_option maxRecDepth 100000 in theorem mc_H_init : Cond.code my_H_init bc_H_init 3 none ∈ gw := gw_t 421 rfl rfl
set_option maxRecDepth 100000 in theorem mi_H_init : Cond.instanceMethod my_H_init ∈ gw := gw_t 420 rfl rfl
set_option maxRecDepth 100000 in theorem mw_H_init : mI' my_H_init bc_H_init 3 2 := ⟨mc_H_init, mi_H_init, gw_t 14 rfl rfl, rfl, by decide +kernel⟩
set_option maxRecDepth 100000 in theorem mc_H_start : Cond.code my_H_start bc_H_start 1 (some .int) ∈ gw := gw_t 284 rfl rfl
set_option maxRecDepth 100000 in theorem mi_H_start : Cond.instanceMethod my_H_start ∈ gw := gw_t 283 rfl rfl
set_option maxRecDepth 100000 in theorem ma_H_start : mA rn_H my_A_start my_H_start bc_H_start 1 (some .int) 0 := ⟨mc_H_start, mi_H_start, gw_t 282 rfl rfl, gw_t 14 rfl rfl, gw_t 266 rfl rfl, nw_t 265 rfl rfl, by decide +kernel⟩
set_option maxRecDepth 100000 in theorem mc_H_step : Cond.code my_H_step bc_H_step 4 (some .int) ∈ gw := gw_t 344 rfl rfl
set_option maxRecDepth 100000 in theorem mi_H_step : Cond.instanceMethod my_H_step ∈ gw := gw_t 343 rfl rfl
set_option maxRecDepth 100000 in theorem ma_H_step : mA rn_H my_A_step my_H_step bc_H_step 4 (some .int) 2 := ⟨mc_H_step, mi_H_step, gw_t 342 rfl rfl, gw_t 14 rfl rfl, gw_t 312 rfl rfl, nw_t 311 rfl rfl, by decide +kernel⟩
set_option maxRecDepth 100000 in theorem mc_H_accepts : Cond.code my_H_accepts bc_H_accepts 2 (some .boolean) ∈ gw := gw_t 368 rfl rfl
set_option maxRecDepth 100000 in theorem mi_H_accepts : Cond.instanceMethod my_H_accepts ∈ gw := gw_t 367 rfl rfl
set_option maxRecDepth 100000 in theorem ma_H_accepts : mA rn_H my_A_accepts my_H_accepts bc_H_accepts 2 (some .boolean) 1 := ⟨mc_H_accepts, mi_H_accepts, gw_t 366 rfl rfl, gw_t 14 rfl rfl, gw_t 349 rfl rfl, nw_t 348 rfl rfl, by decide +kernel⟩
set_option maxRecDepth 100000 in theorem mc_H_withBegun : Cond.code my_H_withBegun bc_H_withBegun 4 (some .int) ∈ gw := gw_t 289 rfl rfl
set_option maxRecDepth 100000 in theorem mi_H_withBegun : Cond.instanceMethod my_H_withBegun ∈ gw := gw_t 287 rfl rfl
set_option maxRecDepth 100000 in theorem mw_H_withBegun : mW rn_H my_H_withBegun bc_H_withBegun 4 (some .int) 2 := ⟨mc_H_withBegun, mi_H_withBegun, gw_s 2 rfl rfl, gw_t 14 rfl rfl, by decide +kernel⟩
set_option maxRecDepth 100000 in theorem mc_L_letters : Cond.codeWith my_L_letters bc_L_letters 4 (some .int) [(0, 9, 12, 13), (0, 9, 15, 15)] ∈ gw := gw_t 163 rfl rfl
set_option maxRecDepth 100000 in theorem ms_L_letters : Cond.static my_L_letters ∈ gw := gw_t 162 rfl rfl
set_option maxRecDepth 100000 in theorem mc_L_empty : Cond.codeWith my_L_empty bc_L_empty 3 (some .int) [(0, 8, 11, 15)] ∈ gw := gw_t 401 rfl rfl
set_option maxRecDepth 100000 in theorem ms_L_empty : Cond.static my_L_empty ∈ gw := gw_t 400 rfl rfl
set_option maxRecDepth 100000 in theorem mc_L_then : Cond.codeWith my_L_then bc_L_then 5 (some .int) [(0, 10, 13, 13), (0, 10, 17, 15)] ∈ gw := gw_t 408 rfl rfl
set_option maxRecDepth 100000 in theorem ms_L_then : Cond.static my_L_then ∈ gw := gw_t 407 rfl rfl
set_option maxRecDepth 100000 in theorem mc_L_both : Cond.codeWith my_L_both bc_L_both 6 (some .int) [(0, 12, 15, 13), (0, 12, 19, 15)] ∈ gw := gw_t 432 rfl rfl
set_option maxRecDepth 100000 in theorem ms_L_both : Cond.static my_L_both ∈ gw := gw_t 431 rfl rfl
set_option maxRecDepth 100000 in theorem mc_L_many : Cond.codeWith my_L_many bc_L_many 4 (some .int) [(0, 9, 12, 13), (0, 9, 15, 15)] ∈ gw := gw_t 456 rfl rfl
set_option maxRecDepth 100000 in theorem ms_L_many : Cond.static my_L_many ∈ gw := gw_t 455 rfl rfl
set_option maxRecDepth 100000 in theorem mc_L_contrary : Cond.codeWith my_L_contrary bc_L_contrary 4 (some .int) [(0, 9, 12, 13), (0, 9, 15, 15)] ∈ gw := gw_t 473 rfl rfl
set_option maxRecDepth 100000 in theorem ms_L_contrary : Cond.static my_L_contrary ∈ gw := gw_t 472 rfl rfl
set_option maxRecDepth 100000 in theorem mc_L_back : Cond.codeWith my_L_back bc_L_back 4 (some .int) [(0, 9, 12, 13), (0, 9, 15, 15)] ∈ gw := gw_t 496 rfl rfl
set_option maxRecDepth 100000 in theorem ms_L_back : Cond.static my_L_back ∈ gw := gw_t 495 rfl rfl
set_option maxRecDepth 100000 in theorem mc_L_rest : Cond.codeWith my_L_rest bc_L_rest 5 (some .int) [(0, 10, 13, 13), (0, 10, 17, 15)] ∈ gw := gw_t 513 rfl rfl
set_option maxRecDepth 100000 in theorem ms_L_rest : Cond.static my_L_rest ∈ gw := gw_t 512 rfl rfl
set_option maxRecDepth 100000 in theorem mc_L_beginnings : Cond.codeWith my_L_beginnings bc_L_beginnings 4 (some .int) [(0, 9, 12, 13), (0, 9, 15, 15)] ∈ gw := gw_t 522 rfl rfl
set_option maxRecDepth 100000 in theorem ms_L_beginnings : Cond.static my_L_beginnings ∈ gw := gw_t 521 rfl rfl
set_option maxRecDepth 100000 in theorem mc_L_has : Cond.codeWith my_L_has bc_L_has 7 (some .int) [(0, 19, 22, 13)] ∈ gw := gw_t 529 rfl rfl
set_option maxRecDepth 100000 in theorem ms_L_has : Cond.static my_L_has ∈ gw := gw_t 528 rfl rfl
set_option maxRecDepth 100000 in theorem mc_L_same : Cond.codeWith my_L_same bc_L_same 5 (some .int) [(0, 17, 20, 13)] ∈ gw := gw_t 538 rfl rfl
set_option maxRecDepth 100000 in theorem ms_L_same : Cond.static my_L_same ∈ gw := gw_t 537 rfl rfl
set_option maxRecDepth 100000 in theorem mc_L_inside : Cond.codeWith my_L_inside bc_L_inside 5 (some .int) [(0, 17, 20, 13)] ∈ gw := gw_t 549 rfl rfl
set_option maxRecDepth 100000 in theorem ms_L_inside : Cond.static my_L_inside ∈ gw := gw_t 548 rfl rfl
set_option maxRecDepth 100000 in theorem mc_L_rests : Cond.codeWith my_L_rests bc_L_rests 4 (some .int) [(0, 9, 12, 13)] ∈ gw := gw_t 560 rfl rfl
set_option maxRecDepth 100000 in theorem ms_L_rests : Cond.static my_L_rests ∈ gw := gw_t 559 rfl rfl
set_option maxRecDepth 100000 in theorem mc_L_words : Cond.codeWith my_L_words bc_L_words 5 (some .int) [(0, 9, 12, 13)] ∈ gw := gw_t 567 rfl rfl
set_option maxRecDepth 100000 in theorem ms_L_words : Cond.static my_L_words ∈ gw := gw_t 566 rfl rfl
set_option maxRecDepth 100000 in theorem mc_L_shortest : Cond.codeWith my_L_shortest bc_L_shortest 4 (some .int) [(0, 9, 12, 13), (0, 9, 15, 65)] ∈ gw := gw_t 587 rfl rfl
set_option maxRecDepth 100000 in theorem ms_L_shortest : Cond.static my_L_shortest ∈ gw := gw_t 586 rfl rfl
set_option maxRecDepth 100000 in theorem mc_L_letter : Cond.codeWith my_L_letter bc_L_letter 5 (some .int) [(0, 10, 13, 13), (0, 10, 17, 65)] ∈ gw := gw_t 611 rfl rfl
set_option maxRecDepth 100000 in theorem ms_L_letter : Cond.static my_L_letter ∈ gw := gw_t 610 rfl rfl
set_option maxRecDepth 100000 in theorem mc_L_size : Cond.codeWith my_L_size bc_L_size 4 (some .int) [(0, 9, 12, 13)] ∈ gw := gw_t 623 rfl rfl
set_option maxRecDepth 100000 in theorem ms_L_size : Cond.static my_L_size ∈ gw := gw_t 622 rfl rfl
set_option maxRecDepth 100000 in theorem mc_J_ntz : Cond.code my_J_ntz bc_J_ntz 2 (some .int) ∈ gw := gw_t 379 rfl rfl
set_option maxRecDepth 100000 in theorem ms_J_ntz : Cond.static my_J_ntz ∈ gw := gw_t 378 rfl rfl
set_option maxRecDepth 100000 in theorem mn_J_ntz : Cond.initialized my_J_ntz.cls ∈ gw := gw_t 13 rfl rfl
set_option maxRecDepth 100000 in theorem lk_X_3 : Cond.methodLink rn_X 3 objectInit ∈ gw := gw_t 26 rfl rfl
set_option maxRecDepth 100000 in theorem fl_X_11 : Cond.fieldLink rn_X 11 (fd_X 0).1 (fd_X 0).2.1 (fd_X 0).2.2.1 ∈ gw := gw_t 144 rfl rfl
set_option maxRecDepth 100000 in theorem lk_X_17 : Cond.methodLinkNest rn_X 17 my_S_init "RestSets" ∈ nwL := nw_t 33 rfl rfl
set_option maxRecDepth 100000 in theorem fl_X_18 : Cond.fieldLink rn_X 18 (fd_X 1).1 (fd_X 1).2.1 (fd_X 1).2.2.1 ∈ gw := gw_t 145 rfl rfl
set_option maxRecDepth 100000 in theorem lk_X_24 : Cond.methodLinkNest rn_X 24 my_Y_init "RestSets" ∈ nwL := nw_t 99 rfl rfl
set_option maxRecDepth 100000 in theorem fl_X_25 : Cond.fieldLink rn_X 25 (fd_X 2).1 (fd_X 2).2.1 (fd_X 2).2.2.1 ∈ gw := gw_t 146 rfl rfl
set_option maxRecDepth 100000 in theorem lk_X_29 : Cond.methodLinkNest rn_X 29 my_T_init "RestSets" ∈ nwL := nw_t 113 rfl rfl
set_option maxRecDepth 100000 in theorem lk_X_34 : Cond.methodLink rn_X 34 ⟨"java/lang/IllegalArgumentException", "<init>", "(Ljava/lang/String;)V"⟩ ∈ gw := gw_t 212 rfl rfl
set_option maxRecDepth 100000 in theorem lk_X_39 : Cond.methodLink rn_X 39 my_O_init ∈ gw := gw_t 239 rfl rfl
set_option maxRecDepth 100000 in theorem lk_X_42 : Cond.methodLink rn_X 42 my_X_keep ∈ gw := gw_t 240 rfl rfl
set_option maxRecDepth 100000 in theorem lk_X_48 : Cond.methodLink rn_X 48 my_X_tableOf ∈ gw := gw_t 414 rfl rfl
set_option maxRecDepth 100000 in theorem lk_X_52 : Cond.methodLink rn_X 52 my_H_init ∈ gw := gw_t 419 rfl rfl
set_option maxRecDepth 100000 in theorem lk_X_59 : Cond.methodLink rn_X 59 my_B_init ∈ gw := gw_t 440 rfl rfl
set_option maxRecDepth 100000 in theorem lk_X_64 : Cond.methodLink rn_X 64 my_N_init ∈ gw := gw_t 463 rfl rfl
set_option maxRecDepth 100000 in theorem fl_X_69 : Cond.fieldLinkNest rn_X 69 (fd_T 1).1 (fd_T 1).2.1 (fd_T 1).2.2.1 "RestSets" ∈ nwL := nw_t 126 rfl rfl
set_option maxRecDepth 100000 in theorem lk_X_73 : Cond.methodLink rn_X 73 my_R_init ∈ gw := gw_t 480 rfl rfl
set_option maxRecDepth 100000 in theorem lk_X_78 : Cond.methodLink rn_X 78 my_K_init ∈ gw := gw_t 503 rfl rfl
set_option maxRecDepth 100000 in theorem lk_X_81 : Cond.methodLink rn_X 81 my_T_after ∈ gw := gw_t 519 rfl rfl
set_option maxRecDepth 100000 in theorem fl_X_85 : Cond.fieldLinkNest rn_X 85 (fd_T 2).1 (fd_T 2).2.1 (fd_T 2).2.2.1 "RestSets" ∈ nwL := nw_t 128 rfl rfl
set_option maxRecDepth 100000 in theorem lk_X_90 : Cond.methodLink rn_X 90 my_T_endsAt ∈ gw := gw_t 535 rfl rfl
set_option maxRecDepth 100000 in theorem lk_X_94 : Cond.methodLink rn_X 94 my_T_matches ∈ gw := gw_t 543 rfl rfl
set_option maxRecDepth 100000 in theorem lk_X_98 : Cond.methodLink rn_X 98 my_S_begin ∈ gw := gw_t 260 rfl rfl
set_option maxRecDepth 100000 in theorem lk_X_102 : Cond.methodLink rn_X 102 my_S_meetsAnEnd ∈ gw := gw_t 554 rfl rfl
set_option maxRecDepth 100000 in theorem fl_X_106 : Cond.fieldLinkNest rn_X 106 (fd_T 0).1 (fd_T 0).2.1 (fd_T 0).2.2.1 "RestSets" ∈ nwL := nw_t 120 rfl rfl
set_option maxRecDepth 100000 in theorem lk_X_109 : Cond.methodLink rn_X 109 my_Y_begin ∈ gw := gw_t 572 rfl rfl
set_option maxRecDepth 100000 in theorem lk_X_111 : Cond.methodLink rn_X 111 my_Y_lengthen ∈ gw := gw_t 577 rfl rfl
set_option maxRecDepth 100000 in theorem fl_X_114 : Cond.fieldLinkNest rn_X 114 (fd_Y 0).1 (fd_Y 0).2.1 (fd_Y 0).2.2.1 "RestSets" ∈ nwL := nw_t 104 rfl rfl
set_option maxRecDepth 100000 in theorem fl_X_118 : Cond.fieldLinkNest rn_X 118 (fd_T 4).1 (fd_T 4).2.1 (fd_T 4).2.2.1 "RestSets" ∈ nwL := nw_t 132 rfl rfl
set_option maxRecDepth 100000 in theorem lk_X_126 : Cond.methodLink rn_X 126 ⟨"java/util/NoSuchElementException", "<init>", "(Ljava/lang/String;)V"⟩ ∈ gw := gw_t 603 rfl rfl
set_option maxRecDepth 100000 in theorem lk_X_129 : Cond.methodLink rn_X 129 my_T_nearer ∈ gw := gw_t 617 rfl rfl
set_option maxRecDepth 100000 in theorem fl_X_135 : Cond.fieldLink rn_X 135 (fd_X 3).1 (fd_X 3).2.1 (fd_X 3).2.2.1 ∈ gw := gw_t 147 rfl rfl
set_option maxRecDepth 100000 in theorem lk_X_144 : Cond.methodLink rn_X 144 ⟨"java/lang/IndexOutOfBoundsException", "<init>", "(Ljava/lang/String;)V"⟩ ∈ gw := gw_t 254 rfl rfl
set_option maxRecDepth 100000 in theorem lk_X_145 : Cond.methodLink rn_X 145 my_S_scan ∈ gw := gw_t 298 rfl rfl
set_option maxRecDepth 100000 in theorem lk_X_151 : Cond.methodLink rn_X 151 my_S_writeTo ∈ gw := gw_t 386 rfl rfl
set_option maxRecDepth 100000 in theorem lk_M_1 : Cond.methodLink rn_M 1 objectInit ∈ gw := gw_t 634 rfl rfl
set_option maxRecDepth 100000 in theorem fl_M_9 : Cond.fieldLink rn_M 9 (fd_M 2).1 (fd_M 2).2.1 (fd_M 2).2.2.1 ∈ gw := gw_t 637 rfl rfl
set_option maxRecDepth 100000 in theorem fl_M_13 : Cond.fieldLink rn_M 13 (fd_M 3).1 (fd_M 3).2.1 (fd_M 3).2.2.1 ∈ gw := gw_t 638 rfl rfl
set_option maxRecDepth 100000 in theorem fl_M_16 : Cond.fieldLink rn_M 16 (fd_M 4).1 (fd_M 4).2.1 (fd_M 4).2.2.1 ∈ gw := gw_t 639 rfl rfl
set_option maxRecDepth 100000 in theorem fl_M_19 : Cond.fieldLink rn_M 19 (fd_M 5).1 (fd_M 5).2.1 (fd_M 5).2.2.1 ∈ gw := gw_t 640 rfl rfl
set_option maxRecDepth 100000 in theorem fl_M_23 : Cond.fieldLink rn_M 23 (fd_M 11).1 (fd_M 11).2.1 (fd_M 11).2.2.1 ∈ gw := gw_t 646 rfl rfl
set_option maxRecDepth 100000 in theorem fl_M_26 : Cond.fieldLink rn_M 26 (fd_M 12).1 (fd_M 12).2.1 (fd_M 12).2.2.1 ∈ gw := gw_t 647 rfl rfl
set_option maxRecDepth 100000 in theorem fl_M_29 : Cond.fieldLink rn_M 29 (fd_M 13).1 (fd_M 13).2.1 (fd_M 13).2.2.1 ∈ gw := gw_t 648 rfl rfl
set_option maxRecDepth 100000 in theorem fl_M_32 : Cond.fieldLink rn_M 32 (fd_M 14).1 (fd_M 14).2.1 (fd_M 14).2.2.1 ∈ gw := gw_t 649 rfl rfl
set_option maxRecDepth 100000 in theorem fl_M_35 : Cond.fieldLink rn_M 35 (fd_M 15).1 (fd_M 15).2.1 (fd_M 15).2.2.1 ∈ gw := gw_t 650 rfl rfl
set_option maxRecDepth 100000 in theorem fl_M_38 : Cond.fieldLink rn_M 38 (fd_M 16).1 (fd_M 16).2.1 (fd_M 16).2.2.1 ∈ gw := gw_t 651 rfl rfl
set_option maxRecDepth 100000 in theorem fl_M_41 : Cond.fieldLink rn_M 41 (fd_M 17).1 (fd_M 17).2.1 (fd_M 17).2.2.1 ∈ gw := gw_t 652 rfl rfl
set_option maxRecDepth 100000 in theorem fl_M_44 : Cond.fieldLink rn_M 44 (fd_M 18).1 (fd_M 18).2.1 (fd_M 18).2.2.1 ∈ gw := gw_t 653 rfl rfl
set_option maxRecDepth 100000 in theorem fl_M_47 : Cond.fieldLink rn_M 47 (fd_M 19).1 (fd_M 19).2.1 (fd_M 19).2.2.1 ∈ gw := gw_t 654 rfl rfl
set_option maxRecDepth 100000 in theorem fl_M_51 : Cond.fieldLink rn_M 51 (fd_M 20).1 (fd_M 20).2.1 (fd_M 20).2.2.1 ∈ gw := gw_t 655 rfl rfl
set_option maxRecDepth 100000 in theorem fl_M_54 : Cond.fieldLink rn_M 54 (fd_M 0).1 (fd_M 0).2.1 (fd_M 0).2.2.1 ∈ gw := gw_t 635 rfl rfl
set_option maxRecDepth 100000 in theorem fl_M_58 : Cond.fieldLink rn_M 58 (fd_M 1).1 (fd_M 1).2.1 (fd_M 1).2.2.1 ∈ gw := gw_t 636 rfl rfl
set_option maxRecDepth 100000 in theorem lk_M_61 : Cond.methodLink rn_M 61 my_M_next ∈ gw := gw_t 720 rfl rfl
set_option maxRecDepth 100000 in theorem lk_M_64 : Cond.methodLink rn_M 64 my_M_isEnd ∈ gw := gw_t 716 rfl rfl
set_option maxRecDepth 100000 in theorem fl_M_68 : Cond.fieldLink rn_M 68 (fd_M 6).1 (fd_M 6).2.1 (fd_M 6).2.2.1 ∈ gw := gw_t 641 rfl rfl
set_option maxRecDepth 100000 in theorem fl_M_71 : Cond.fieldLink rn_M 71 (fd_M 7).1 (fd_M 7).2.1 (fd_M 7).2.2.1 ∈ gw := gw_t 642 rfl rfl
set_option maxRecDepth 100000 in theorem fl_M_74 : Cond.fieldLink rn_M 74 (fd_M 8).1 (fd_M 8).2.1 (fd_M 8).2.2.1 ∈ gw := gw_t 643 rfl rfl
set_option maxRecDepth 100000 in theorem fl_M_77 : Cond.fieldLink rn_M 77 (fd_M 9).1 (fd_M 9).2.1 (fd_M 9).2.2.1 ∈ gw := gw_t 644 rfl rfl
set_option maxRecDepth 100000 in theorem lk_M_80 : Cond.methodLink rn_M 80 my_M_all ∈ gw := gw_t 732 rfl rfl
set_option maxRecDepth 100000 in theorem lk_M_83 : Cond.methodLink rn_M 83 my_M_someEnd ∈ gw := gw_t 736 rfl rfl
set_option maxRecDepth 100000 in theorem fl_M_86 : Cond.fieldLink rn_M 86 (fd_M 10).1 (fd_M 10).2.1 (fd_M 10).2.2.1 ∈ gw := gw_t 645 rfl rfl
set_option maxRecDepth 100000 in theorem lk_M_89 : Cond.methodLink rn_M 89 my_M_isGood ∈ gw := gw_t 744 rfl rfl
set_option maxRecDepth 100000 in theorem lk_M_93 : Cond.methodLink rn_M 93 my_M_alike ∈ gw := gw_t 748 rfl rfl
set_option maxRecDepth 100000 in theorem lk_M_96 : Cond.methodLink rn_M 96 my_M_begin ∈ gw := gw_t 712 rfl rfl
set_option maxRecDepth 100000 in theorem lk_M_100 : Cond.methodLink rn_M 100 my_M_come ∈ gw := gw_t 724 rfl rfl
set_option maxRecDepth 100000 in theorem lk_M_104 : Cond.methodLink rn_M 104 my_M_step ∈ gw := gw_t 728 rfl rfl
set_option maxRecDepth 100000 in theorem lk_M_108 : Cond.methodLink rn_M 108 my_M_apart ∈ gw := gw_t 740 rfl rfl
set_option maxRecDepth 100000 in theorem lk_M_111 : Cond.methodLink rn_M 111 my_M_make ∈ gw := gw_t 708 rfl rfl
set_option maxRecDepth 100000 in theorem lk_M_115 : Cond.methodLink rn_M 115 my_M_isSet ∈ gw := gw_t 760 rfl rfl
set_option maxRecDepth 100000 in theorem lk_M_118 : Cond.methodLink rn_M 118 my_M_look ∈ gw := gw_t 788 rfl rfl
set_option maxRecDepth 100000 in theorem lk_M_124 : Cond.methodLink rn_M 124 my_M_goes ∈ gw := gw_t 801 rfl rfl
set_option maxRecDepth 100000 in theorem lk_M_128 : Cond.methodLink rn_M 128 my_M_countJ ∈ gw := gw_t 817 rfl rfl
set_option maxRecDepth 100000 in theorem lk_K_1 : Cond.methodLinkNest rn_K 1 my_A_init "RestSets" ∈ nwL := nw_t 506 rfl rfl
set_option maxRecDepth 100000 in theorem fl_K_7 : Cond.fieldLink rn_K 7 (fd_K 0).1 (fd_K 0).2.1 (fd_K 0).2.2.1 ∈ gw := gw_t 507 rfl rfl
set_option maxRecDepth 100000 in theorem fl_K_13 : Cond.fieldLinkNest rn_K 13 (fd_T 1).1 (fd_T 1).2.1 (fd_T 1).2.2.1 "RestSets" ∈ nwL := nw_t 121 rfl rfl
set_option maxRecDepth 100000 in theorem lk_K_19 : Cond.methodLink rn_K 19 my_T_beforeAll ∈ gw := gw_t 316 rfl rfl
set_option maxRecDepth 100000 in theorem lk_B_3 : Cond.methodLinkNest rn_B 3 my_A_init "RestSets" ∈ nwL := nw_t 443 rfl rfl
set_option maxRecDepth 100000 in theorem fl_B_9 : Cond.fieldLink rn_B 9 (fd_B 0).1 (fd_B 0).2.1 (fd_B 0).2.2.1 ∈ gw := gw_t 444 rfl rfl
set_option maxRecDepth 100000 in theorem fl_B_15 : Cond.fieldLink rn_B 15 (fd_B 1).1 (fd_B 1).2.1 (fd_B 1).2.2.1 ∈ gw := gw_t 445 rfl rfl
set_option maxRecDepth 100000 in theorem fl_B_19 : Cond.fieldLink rn_B 19 (fd_B 2).1 (fd_B 2).2.1 (fd_B 2).2.2.1 ∈ gw := gw_t 446 rfl rfl
set_option maxRecDepth 100000 in theorem lk_B_22 : Cond.methodLink rn_B 22 my_T_after ∈ gw := gw_t 327 rfl rfl
set_option maxRecDepth 100000 in theorem lk_B_28 : Cond.methodLink rn_B 28 my_T_endsAt ∈ gw := gw_t 356 rfl rfl
set_option maxRecDepth 100000 in theorem lk_A_1 : Cond.methodLink rn_A 1 objectInit ∈ gw := gw_t 45 rfl rfl
set_option maxRecDepth 100000 in theorem lk_N_3 : Cond.methodLinkNest rn_N 3 my_A_init "RestSets" ∈ nwL := nw_t 466 rfl rfl
set_option maxRecDepth 100000 in theorem fl_N_9 : Cond.fieldLink rn_N 9 (fd_N 0).1 (fd_N 0).2.1 (fd_N 0).2.2.1 ∈ gw := gw_t 467 rfl rfl
set_option maxRecDepth 100000 in theorem lk_N_15 : Cond.methodLink rn_N 15 my_T_afterAll ∈ gw := gw_t 331 rfl rfl
set_option maxRecDepth 100000 in theorem fl_N_21 : Cond.fieldLinkNest rn_N 21 (fd_T 1).1 (fd_T 1).2.1 (fd_T 1).2.2.1 "RestSets" ∈ nwL := nw_t 123 rfl rfl
set_option maxRecDepth 100000 in theorem lk_O_1 : Cond.methodLinkNest rn_O 1 my_A_init "RestSets" ∈ nwL := nw_t 42 rfl rfl
set_option maxRecDepth 100000 in theorem fl_O_7 : Cond.fieldLink rn_O 7 (fd_O 0).1 (fd_O 0).2.1 (fd_O 0).2.2.1 ∈ gw := gw_t 46 rfl rfl
set_option maxRecDepth 100000 in theorem fl_O_13 : Cond.fieldLink rn_O 13 (fd_O 1).1 (fd_O 1).2.1 (fd_O 1).2.2.1 ∈ gw := gw_t 47 rfl rfl
set_option maxRecDepth 100000 in theorem lk_R_1 : Cond.methodLinkNest rn_R 1 my_A_init "RestSets" ∈ nwL := nw_t 483 rfl rfl
set_option maxRecDepth 100000 in theorem fl_R_7 : Cond.fieldLink rn_R 7 (fd_R 0).1 (fd_R 0).2.1 (fd_R 0).2.2.1 ∈ gw := gw_t 484 rfl rfl
set_option maxRecDepth 100000 in theorem fl_R_13 : Cond.fieldLink rn_R 13 (fd_R 1).1 (fd_R 1).2.1 (fd_R 1).2.2.1 ∈ gw := gw_t 485 rfl rfl
set_option maxRecDepth 100000 in theorem fl_R_17 : Cond.fieldLink rn_R 17 (fd_R 2).1 (fd_R 2).2.1 (fd_R 2).2.2.1 ∈ gw := gw_t 486 rfl rfl
set_option maxRecDepth 100000 in theorem lk_R_20 : Cond.methodLink rn_R 20 my_T_after ∈ gw := gw_t 341 rfl rfl
set_option maxRecDepth 100000 in theorem lk_S_3 : Cond.methodLink rn_S 3 objectInit ∈ gw := gw_t 36 rfl rfl
set_option maxRecDepth 100000 in theorem lk_S_11 : Cond.methodLink rn_S 11 my_O_init ∈ gw := gw_t 39 rfl rfl
set_option maxRecDepth 100000 in theorem fl_S_14 : Cond.fieldLink rn_S 14 (fd_S 0).1 (fd_S 0).2.1 (fd_S 0).2.2.1 ∈ gw := gw_t 53 rfl rfl
set_option maxRecDepth 100000 in theorem fl_S_20 : Cond.fieldLink rn_S 20 (fd_S 1).1 (fd_S 1).2.1 (fd_S 1).2.2.1 ∈ gw := gw_t 54 rfl rfl
set_option maxRecDepth 100000 in theorem fl_S_24 : Cond.fieldLink rn_S 24 (fd_S 2).1 (fd_S 2).2.1 (fd_S 2).2.2.1 ∈ gw := gw_t 55 rfl rfl
set_option maxRecDepth 100000 in theorem fl_S_27 : Cond.fieldLink rn_S 27 (fd_S 3).1 (fd_S 3).2.1 (fd_S 3).2.2.1 ∈ gw := gw_t 56 rfl rfl
set_option maxRecDepth 100000 in theorem fl_S_30 : Cond.fieldLink rn_S 30 (fd_S 5).1 (fd_S 5).2.1 (fd_S 5).2.2.1 ∈ gw := gw_t 58 rfl rfl
set_option maxRecDepth 100000 in theorem fl_S_33 : Cond.fieldLink rn_S 33 (fd_S 6).1 (fd_S 6).2.1 (fd_S 6).2.2.1 ∈ gw := gw_t 59 rfl rfl
set_option maxRecDepth 100000 in theorem fl_S_36 : Cond.fieldLink rn_S 36 (fd_S 7).1 (fd_S 7).2.1 (fd_S 7).2.2.1 ∈ gw := gw_t 60 rfl rfl
set_option maxRecDepth 100000 in theorem fl_S_39 : Cond.fieldLink rn_S 39 (fd_S 8).1 (fd_S 8).2.1 (fd_S 8).2.2.1 ∈ gw := gw_t 61 rfl rfl
set_option maxRecDepth 100000 in theorem fl_S_42 : Cond.fieldLink rn_S 42 (fd_S 10).1 (fd_S 10).2.1 (fd_S 10).2.2.1 ∈ gw := gw_t 63 rfl rfl
set_option maxRecDepth 100000 in theorem fl_S_45 : Cond.fieldLink rn_S 45 (fd_S 12).1 (fd_S 12).2.1 (fd_S 12).2.2.1 ∈ gw := gw_t 65 rfl rfl
set_option maxRecDepth 100000 in theorem fl_S_48 : Cond.fieldLink rn_S 48 (fd_S 13).1 (fd_S 13).2.1 (fd_S 13).2.2.1 ∈ gw := gw_t 66 rfl rfl
set_option maxRecDepth 100000 in theorem fl_S_51 : Cond.fieldLink rn_S 51 (fd_S 4).1 (fd_S 4).2.1 (fd_S 4).2.2.1 ∈ gw := gw_t 57 rfl rfl
set_option maxRecDepth 100000 in theorem fl_S_55 : Cond.fieldLink rn_S 55 (fd_S 9).1 (fd_S 9).2.1 (fd_S 9).2.2.1 ∈ gw := gw_t 62 rfl rfl
set_option maxRecDepth 100000 in theorem fl_S_58 : Cond.fieldLink rn_S 58 (fd_S 11).1 (fd_S 11).2.1 (fd_S 11).2.2.1 ∈ gw := gw_t 64 rfl rfl
set_option maxRecDepth 100000 in theorem lk_S_61 : Cond.methodLink rn_S 61 my_A_start ∈ gw := gw_t 264 rfl rfl
set_option maxRecDepth 100000 in theorem lk_S_67 : Cond.methodLink rn_S 67 my_S_meet ∈ gw := gw_t 294 rfl rfl
set_option maxRecDepth 100000 in theorem lk_S_71 : Cond.methodLink rn_S 71 my_A_accepts ∈ gw := gw_t 347 rfl rfl
set_option maxRecDepth 100000 in theorem lk_S_75 : Cond.methodLink rn_S 75 my_S_follow ∈ gw := gw_t 306 rfl rfl
set_option maxRecDepth 100000 in theorem lk_S_79 : Cond.methodLink rn_S 79 my_S_askTests ∈ gw := gw_t 302 rfl rfl
set_option maxRecDepth 100000 in theorem lk_S_82 : Cond.methodLink rn_S 82 my_S_kindWith ∈ gw := gw_t 369 rfl rfl
set_option maxRecDepth 100000 in theorem lk_S_85 : Cond.methodLink rn_S 85 my_S_addKind ∈ gw := gw_t 373 rfl rfl
set_option maxRecDepth 100000 in theorem lk_S_88 : Cond.methodLink rn_S 88 my_J_ntz ∈ gw := gw_t 377 rfl rfl
set_option maxRecDepth 100000 in theorem lk_S_93 : Cond.methodLink rn_S 93 my_S_split ∈ gw := gw_t 381 rfl rfl
set_option maxRecDepth 100000 in theorem fl_S_97 : Cond.fieldLinkNest rn_S 97 (fd_T 3).1 (fd_T 3).2.1 (fd_T 3).2.2.1 "RestSets" ∈ nwL := nw_t 130 rfl rfl
set_option maxRecDepth 100000 in theorem fl_S_100 : Cond.fieldLinkNest rn_S 100 (fd_T 0).1 (fd_T 0).2.1 (fd_T 0).2.2.1 "RestSets" ∈ nwL := nw_t 119 rfl rfl
set_option maxRecDepth 100000 in theorem fl_S_103 : Cond.fieldLinkNest rn_S 103 (fd_T 1).1 (fd_T 1).2.1 (fd_T 1).2.2.1 "RestSets" ∈ nwL := nw_t 125 rfl rfl
set_option maxRecDepth 100000 in theorem lk_S_106 : Cond.methodLink rn_S 106 my_T_measure ∈ gw := gw_t 390 rfl rfl
set_option maxRecDepth 100000 in theorem lk_S_109 : Cond.methodLink rn_S 109 my_A_step ∈ gw := gw_t 310 rfl rfl
set_option maxRecDepth 100000 in theorem lk_T_3 : Cond.methodLink rn_T 3 objectInit ∈ gw := gw_t 116 rfl rfl
set_option maxRecDepth 100000 in theorem fl_T_9 : Cond.fieldLink rn_T 9 (fd_T 3).1 (fd_T 3).2.1 (fd_T 3).2.2.1 ∈ gw := gw_t 129 rfl rfl
set_option maxRecDepth 100000 in theorem fl_T_15 : Cond.fieldLink rn_T 15 (fd_T 4).1 (fd_T 4).2.1 (fd_T 4).2.2.1 ∈ gw := gw_t 131 rfl rfl
set_option maxRecDepth 100000 in theorem fl_T_18 : Cond.fieldLink rn_T 18 (fd_T 1).1 (fd_T 1).2.1 (fd_T 1).2.2.1 ∈ gw := gw_t 122 rfl rfl
set_option maxRecDepth 100000 in theorem fl_T_22 : Cond.fieldLink rn_T 22 (fd_T 0).1 (fd_T 0).2.1 (fd_T 0).2.2.1 ∈ gw := gw_t 118 rfl rfl
set_option maxRecDepth 100000 in theorem lk_T_25 : Cond.methodLink rn_T 25 my_T_after ∈ gw := gw_t 320 rfl rfl
set_option maxRecDepth 100000 in theorem fl_T_29 : Cond.fieldLink rn_T 29 (fd_T 2).1 (fd_T 2).2.1 (fd_T 2).2.2.1 ∈ gw := gw_t 127 rfl rfl
set_option maxRecDepth 100000 in theorem lk_T_32 : Cond.methodLink rn_T 32 my_T_endsAt ∈ gw := gw_t 394 rfl rfl
set_option maxRecDepth 100000 in theorem lk_T_36 : Cond.methodLink rn_T 36 my_T_letterToward ∈ gw := gw_t 395 rfl rfl
set_option maxRecDepth 100000 in theorem lk_Y_3 : Cond.methodLink rn_Y 3 objectInit ∈ gw := gw_t 102 rfl rfl
set_option maxRecDepth 100000 in theorem fl_Y_9 : Cond.fieldLink rn_Y 9 (fd_Y 0).1 (fd_Y 0).2.1 (fd_Y 0).2.2.1 ∈ gw := gw_t 103 rfl rfl
set_option maxRecDepth 100000 in theorem fl_Y_15 : Cond.fieldLink rn_Y 15 (fd_Y 1).1 (fd_Y 1).2.1 (fd_Y 1).2.2.1 ∈ gw := gw_t 105 rfl rfl
set_option maxRecDepth 100000 in theorem fl_Y_18 : Cond.fieldLinkNest rn_Y 18 (fd_T 0).1 (fd_T 0).2.1 (fd_T 0).2.2.1 "RestSets" ∈ nwL := nw_t 117 rfl rfl
set_option maxRecDepth 100000 in theorem lk_Y_24 : Cond.methodLink rn_Y 24 my_T_endsAt ∈ gw := gw_t 576 rfl rfl
set_option maxRecDepth 100000 in theorem lk_Y_28 : Cond.methodLink rn_Y 28 my_T_after ∈ gw := gw_t 581 rfl rfl
set_option maxRecDepth 100000 in theorem lk_Y_32 : Cond.methodLink rn_Y 32 ⟨"java/lang/System", "arraycopy", "(Ljava/lang/Object;ILjava/lang/Object;II)V"⟩ ∈ gw := gw_t 582 rfl rfl
set_option maxRecDepth 100000 in theorem lk_H_3 : Cond.methodLinkNest rn_H 3 my_A_init "RestSets" ∈ nwL := nw_t 422 rfl rfl
set_option maxRecDepth 100000 in theorem fl_H_9 : Cond.fieldLink rn_H 9 (fd_H 0).1 (fd_H 0).2.1 (fd_H 0).2.2.1 ∈ gw := gw_t 423 rfl rfl
set_option maxRecDepth 100000 in theorem fl_H_15 : Cond.fieldLink rn_H 15 (fd_H 1).1 (fd_H 1).2.1 (fd_H 1).2.2.1 ∈ gw := gw_t 424 rfl rfl
set_option maxRecDepth 100000 in theorem lk_H_18 : Cond.methodLink rn_H 18 my_H_withBegun ∈ gw := gw_t 285 rfl rfl
set_option maxRecDepth 100000 in theorem lk_H_22 : Cond.methodLink rn_H 22 my_T_after ∈ gw := gw_t 345 rfl rfl
set_option maxRecDepth 100000 in theorem lk_H_27 : Cond.methodLink rn_H 27 my_T_afterAll ∈ gw := gw_t 346 rfl rfl
set_option maxRecDepth 100000 in theorem fl_H_30 : Cond.fieldLinkNest rn_H 30 (fd_T 1).1 (fd_T 1).2.1 (fd_T 1).2.2.1 "RestSets" ∈ nwL := nw_t 124 rfl rfl
set_option maxRecDepth 100000 in theorem lk_H_34 : Cond.methodLink rn_H 34 my_T_endsAt ∈ gw := gw_t 290 rfl rfl
set_option maxRecDepth 100000 in theorem lk_L_7 : Cond.methodLink rn_L 7 my_X_letters ∈ gw := gw_t 166 rfl rfl
set_option maxRecDepth 100000 in theorem lk_L_17 : Cond.methodLink rn_L 17 my_X_empty ∈ gw := gw_t 402 rfl rfl
set_option maxRecDepth 100000 in theorem lk_L_21 : Cond.methodLink rn_L 21 my_X_then ∈ gw := gw_t 409 rfl rfl
set_option maxRecDepth 100000 in theorem lk_L_25 : Cond.methodLink rn_L 25 my_X_both ∈ gw := gw_t 433 rfl rfl
set_option maxRecDepth 100000 in theorem lk_L_29 : Cond.methodLink rn_L 29 my_X_many ∈ gw := gw_t 457 rfl rfl
set_option maxRecDepth 100000 in theorem lk_L_32 : Cond.methodLink rn_L 32 my_X_contrary ∈ gw := gw_t 474 rfl rfl
set_option maxRecDepth 100000 in theorem lk_L_35 : Cond.methodLink rn_L 35 my_X_back ∈ gw := gw_t 497 rfl rfl
set_option maxRecDepth 100000 in theorem lk_L_38 : Cond.methodLink rn_L 38 my_X_rest ∈ gw := gw_t 514 rfl rfl
set_option maxRecDepth 100000 in theorem lk_L_41 : Cond.methodLink rn_L 41 my_X_beginnings ∈ gw := gw_t 523 rfl rfl
set_option maxRecDepth 100000 in theorem lk_L_44 : Cond.methodLink rn_L 44 my_X_has ∈ gw := gw_t 530 rfl rfl
set_option maxRecDepth 100000 in theorem lk_L_48 : Cond.methodLink rn_L 48 my_X_same ∈ gw := gw_t 539 rfl rfl
set_option maxRecDepth 100000 in theorem lk_L_52 : Cond.methodLink rn_L 52 my_X_inside ∈ gw := gw_t 550 rfl rfl
set_option maxRecDepth 100000 in theorem lk_L_55 : Cond.methodLink rn_L 55 my_X_rests ∈ gw := gw_t 561 rfl rfl
set_option maxRecDepth 100000 in theorem lk_L_58 : Cond.methodLink rn_L 58 my_X_words ∈ gw := gw_t 568 rfl rfl
set_option maxRecDepth 100000 in theorem lk_L_62 : Cond.methodLink rn_L 62 my_X_shortest ∈ gw := gw_t 589 rfl rfl
set_option maxRecDepth 100000 in theorem lk_L_67 : Cond.methodLink rn_L 67 my_X_letter ∈ gw := gw_t 612 rfl rfl
set_option maxRecDepth 100000 in theorem lk_L_70 : Cond.methodLink rn_L 70 my_X_size ∈ gw := gw_t 624 rfl rfl
set_option maxRecDepth 100000 in theorem lk_L_73 : Cond.methodLink rn_L 73 my_X_init ∈ gw := gw_t 23 rfl rfl
set_option maxRecDepth 100000 in theorem lk_L_76 : Cond.methodLink rn_L 76 my_M_init ∈ gw := gw_t 631 rfl rfl
set_option maxRecDepth 100000 in theorem lk_L_77 : Cond.methodLink rn_L 77 my_L_letters ∈ gw := gw_t 161 rfl rfl
set_option maxRecDepth 100000 in theorem lk_L_82 : Cond.methodLink rn_L 82 my_M_letters ∈ gw := gw_t 704 rfl rfl
set_option maxRecDepth 100000 in theorem lk_L_83 : Cond.methodLink rn_L 83 my_M_thrown ∈ gw := gw_t 700 rfl rfl
set_option maxRecDepth 100000 in theorem lk_L_86 : Cond.methodLink rn_L 86 my_L_empty ∈ gw := gw_t 399 rfl rfl
set_option maxRecDepth 100000 in theorem lk_L_89 : Cond.methodLink rn_L 89 my_M_empty ∈ gw := gw_t 752 rfl rfl
set_option maxRecDepth 100000 in theorem lk_L_90 : Cond.methodLink rn_L 90 my_L_then ∈ gw := gw_t 406 rfl rfl
set_option maxRecDepth 100000 in theorem lk_L_93 : Cond.methodLink rn_L 93 my_M_then ∈ gw := gw_t 756 rfl rfl
set_option maxRecDepth 100000 in theorem lk_L_94 : Cond.methodLink rn_L 94 my_L_both ∈ gw := gw_t 430 rfl rfl
set_option maxRecDepth 100000 in theorem lk_L_97 : Cond.methodLink rn_L 97 my_M_both ∈ gw := gw_t 764 rfl rfl
set_option maxRecDepth 100000 in theorem lk_L_98 : Cond.methodLink rn_L 98 my_L_many ∈ gw := gw_t 454 rfl rfl
set_option maxRecDepth 100000 in theorem lk_L_100 : Cond.methodLink rn_L 100 my_M_many ∈ gw := gw_t 768 rfl rfl
set_option maxRecDepth 100000 in theorem lk_L_101 : Cond.methodLink rn_L 101 my_L_contrary ∈ gw := gw_t 471 rfl rfl
set_option maxRecDepth 100000 in theorem lk_L_103 : Cond.methodLink rn_L 103 my_M_contrary ∈ gw := gw_t 772 rfl rfl
set_option maxRecDepth 100000 in theorem lk_L_104 : Cond.methodLink rn_L 104 my_L_back ∈ gw := gw_t 494 rfl rfl
set_option maxRecDepth 100000 in theorem lk_L_106 : Cond.methodLink rn_L 106 my_M_back ∈ gw := gw_t 776 rfl rfl
set_option maxRecDepth 100000 in theorem lk_L_107 : Cond.methodLink rn_L 107 my_L_rest ∈ gw := gw_t 511 rfl rfl
set_option maxRecDepth 100000 in theorem lk_L_109 : Cond.methodLink rn_L 109 my_M_rest ∈ gw := gw_t 780 rfl rfl
set_option maxRecDepth 100000 in theorem lk_L_110 : Cond.methodLink rn_L 110 my_L_beginnings ∈ gw := gw_t 520 rfl rfl
set_option maxRecDepth 100000 in theorem lk_L_112 : Cond.methodLink rn_L 112 my_M_beginnings ∈ gw := gw_t 784 rfl rfl
set_option maxRecDepth 100000 in theorem lk_L_115 : Cond.methodLink rn_L 115 my_L_has ∈ gw := gw_t 527 rfl rfl
set_option maxRecDepth 100000 in theorem lk_L_118 : Cond.methodLink rn_L 118 my_M_has ∈ gw := gw_t 792 rfl rfl
set_option maxRecDepth 100000 in theorem lk_L_119 : Cond.methodLink rn_L 119 my_L_same ∈ gw := gw_t 536 rfl rfl
set_option maxRecDepth 100000 in theorem lk_L_121 : Cond.methodLink rn_L 121 my_M_same ∈ gw := gw_t 797 rfl rfl
set_option maxRecDepth 100000 in theorem lk_L_122 : Cond.methodLink rn_L 122 my_L_inside ∈ gw := gw_t 547 rfl rfl
set_option maxRecDepth 100000 in theorem lk_L_124 : Cond.methodLink rn_L 124 my_M_inside ∈ gw := gw_t 805 rfl rfl
set_option maxRecDepth 100000 in theorem lk_L_125 : Cond.methodLink rn_L 125 my_L_rests ∈ gw := gw_t 558 rfl rfl
set_option maxRecDepth 100000 in theorem lk_L_127 : Cond.methodLink rn_L 127 my_M_rests ∈ gw := gw_t 809 rfl rfl
set_option maxRecDepth 100000 in theorem lk_L_128 : Cond.methodLink rn_L 128 my_L_words ∈ gw := gw_t 565 rfl rfl
set_option maxRecDepth 100000 in theorem lk_L_130 : Cond.methodLink rn_L 130 my_M_words ∈ gw := gw_t 813 rfl rfl
set_option maxRecDepth 100000 in theorem lk_L_131 : Cond.methodLink rn_L 131 my_L_shortest ∈ gw := gw_t 585 rfl rfl
set_option maxRecDepth 100000 in theorem lk_L_133 : Cond.methodLink rn_L 133 my_M_shortest ∈ gw := gw_t 821 rfl rfl
set_option maxRecDepth 100000 in theorem lk_L_134 : Cond.methodLink rn_L 134 my_L_letter ∈ gw := gw_t 609 rfl rfl
set_option maxRecDepth 100000 in theorem lk_L_136 : Cond.methodLink rn_L 136 my_M_letter ∈ gw := gw_t 825 rfl rfl
set_option maxRecDepth 100000 in theorem lk_L_137 : Cond.methodLink rn_L 137 my_L_size ∈ gw := gw_t 621 rfl rfl
set_option maxRecDepth 100000 in theorem lk_L_139 : Cond.methodLink rn_L 139 my_M_size ∈ gw := gw_t 829 rfl rfl
set_option maxRecDepth 100000 in theorem lk_L_140 : Cond.methodLink rn_L 140 my_X_count ∈ gw := gw_t 157 rfl rfl
set_option maxRecDepth 100000 in theorem lk_L_143 : Cond.methodLink rn_L 143 my_M_count ∈ gw := gw_t 834 rfl rfl
set_option maxRecDepth 100000 in theorem gw_oi : Cond.instanceMethod objectInit ∈ gw := gw_t 27 rfl rfl
set_option maxRecDepth 100000 in theorem gw_oc : Cond.code objectInit ⟨#[0xb1]⟩ 1 none ∈ gw := gw_t 28 rfl rfl
end
section
theorem dc_X_init_0 : decode bc_X_init 0 = .ok (.aload_n 0, 1) := by decide +kernel
theorem dc_X_init_1 : decode bc_X_init 1 = .ok (.invokespecial 3, 3) := by decide +kernel
theorem dc_X_init_4 : decode bc_X_init 4 = .ok (.aload_n 0, 1) := by decide +kernel
theorem dc_X_init_5 : decode bc_X_init 5 = .ok (.bipush 80, 2) := by decide +kernel
theorem dc_X_init_7 : decode bc_X_init 7 = .ok (.anewarray 9, 3) := by decide +kernel
theorem dc_X_init_10 : decode bc_X_init 10 = .ok (.putfield 11, 3) := by decide +kernel
theorem dc_X_init_13 : decode bc_X_init 13 = .ok (.aload_n 0, 1) := by decide +kernel
theorem dc_X_init_14 : decode bc_X_init 14 = .ok (.new 15, 3) := by decide +kernel
theorem dc_X_init_17 : decode bc_X_init 17 = .ok (.dup, 1) := by decide +kernel
theorem dc_X_init_18 : decode bc_X_init 18 = .ok (.invokespecial 17, 3) := by decide +kernel
theorem dc_X_init_21 : decode bc_X_init 21 = .ok (.putfield 18, 3) := by decide +kernel
theorem dc_X_init_24 : decode bc_X_init 24 = .ok (.aload_n 0, 1) := by decide +kernel
theorem dc_X_init_25 : decode bc_X_init 25 = .ok (.new 22, 3) := by decide +kernel
theorem dc_X_init_28 : decode bc_X_init 28 = .ok (.dup, 1) := by decide +kernel
theorem dc_X_init_29 : decode bc_X_init 29 = .ok (.invokespecial 24, 3) := by decide +kernel
theorem dc_X_init_32 : decode bc_X_init 32 = .ok (.putfield 25, 3) := by decide +kernel
theorem dc_X_init_35 : decode bc_X_init 35 = .ok (.iconst 0, 1) := by decide +kernel
theorem dc_X_init_36 : decode bc_X_init 36 = .ok (.istore_n 1, 1) := by decide +kernel
theorem dc_X_init_37 : decode bc_X_init 37 = .ok (.iload_n 1, 1) := by decide +kernel
theorem dc_X_init_38 : decode bc_X_init 38 = .ok (.bipush 80, 2) := by decide +kernel
theorem dc_X_init_40 : decode bc_X_init 40 = .ok (.if_icmp .ge 22, 3) := by decide +kernel
theorem dc_X_init_43 : decode bc_X_init 43 = .ok (.aload_n 0, 1) := by decide +kernel
theorem dc_X_init_44 : decode bc_X_init 44 = .ok (.getfield 11, 3) := by decide +kernel
theorem dc_X_init_47 : decode bc_X_init 47 = .ok (.iload_n 1, 1) := by decide +kernel
theorem dc_X_init_48 : decode bc_X_init 48 = .ok (.new 9, 3) := by decide +kernel
theorem dc_X_init_51 : decode bc_X_init 51 = .ok (.dup, 1) := by decide +kernel
theorem dc_X_init_52 : decode bc_X_init 52 = .ok (.invokespecial 29, 3) := by decide +kernel
theorem dc_X_init_55 : decode bc_X_init 55 = .ok (.aastore, 1) := by decide +kernel
theorem dc_X_init_56 : decode bc_X_init 56 = .ok (.iinc 1 1, 3) := by decide +kernel
theorem dc_X_init_59 : decode bc_X_init 59 = .ok (.goto (-22), 3) := by decide +kernel
theorem dc_X_init_62 : decode bc_X_init 62 = .ok (.return_, 1) := by decide +kernel
theorem dc_X_letters_0 : decode bc_X_letters 0 = .ok (.iload_n 1, 1) := by decide +kernel
theorem dc_X_letters_1 : decode bc_X_letters 1 = .ok (.ifCond .lt 9, 3) := by decide +kernel
theorem dc_X_letters_4 : decode bc_X_letters 4 = .ok (.iload_n 1, 1) := by decide +kernel
theorem dc_X_letters_5 : decode bc_X_letters 5 = .ok (.bipush 8, 2) := by decide +kernel
theorem dc_X_letters_7 : decode bc_X_letters 7 = .ok (.if_icmp .lt 13, 3) := by decide +kernel
theorem dc_X_letters_10 : decode bc_X_letters 10 = .ok (.new 30, 3) := by decide +kernel
theorem dc_X_letters_13 : decode bc_X_letters 13 = .ok (.dup, 1) := by decide +kernel
theorem dc_X_letters_14 : decode bc_X_letters 14 = .ok (.ldc 32, 2) := by decide +kernel
theorem dc_X_letters_16 : decode bc_X_letters 16 = .ok (.invokespecial 34, 3) := by decide +kernel
theorem dc_X_letters_19 : decode bc_X_letters 19 = .ok (.athrow, 1) := by decide +kernel
theorem dc_X_letters_20 : decode bc_X_letters 20 = .ok (.aload_n 0, 1) := by decide +kernel
theorem dc_X_letters_21 : decode bc_X_letters 21 = .ok (.new 37, 3) := by decide +kernel
theorem dc_X_letters_24 : decode bc_X_letters 24 = .ok (.dup, 1) := by decide +kernel
theorem dc_X_letters_25 : decode bc_X_letters 25 = .ok (.iload_n 1, 1) := by decide +kernel
theorem dc_X_letters_26 : decode bc_X_letters 26 = .ok (.iconst 0, 1) := by decide +kernel
theorem dc_X_letters_27 : decode bc_X_letters 27 = .ok (.invokespecial 39, 3) := by decide +kernel
theorem dc_X_letters_30 : decode bc_X_letters 30 = .ok (.invokevirtual 42, 3) := by decide +kernel
theorem dc_X_letters_33 : decode bc_X_letters 33 = .ok (.ireturn, 1) := by decide +kernel
theorem dc_X_empty_0 : decode bc_X_empty 0 = .ok (.aload_n 0, 1) := by decide +kernel
theorem dc_X_empty_1 : decode bc_X_empty 1 = .ok (.new 37, 3) := by decide +kernel
theorem dc_X_empty_4 : decode bc_X_empty 4 = .ok (.dup, 1) := by decide +kernel
theorem dc_X_empty_5 : decode bc_X_empty 5 = .ok (.iconst 0, 1) := by decide +kernel
theorem dc_X_empty_6 : decode bc_X_empty 6 = .ok (.iconst 1, 1) := by decide +kernel
theorem dc_X_empty_7 : decode bc_X_empty 7 = .ok (.invokespecial 39, 3) := by decide +kernel
theorem dc_X_empty_10 : decode bc_X_empty 10 = .ok (.invokevirtual 42, 3) := by decide +kernel
theorem dc_X_empty_13 : decode bc_X_empty 13 = .ok (.ireturn, 1) := by decide +kernel
theorem dc_X_then_0 : decode bc_X_then 0 = .ok (.aload_n 0, 1) := by decide +kernel
theorem dc_X_then_1 : decode bc_X_then 1 = .ok (.new 46, 3) := by decide +kernel
theorem dc_X_then_4 : decode bc_X_then 4 = .ok (.dup, 1) := by decide +kernel
theorem dc_X_then_5 : decode bc_X_then 5 = .ok (.aload_n 0, 1) := by decide +kernel
theorem dc_X_then_6 : decode bc_X_then 6 = .ok (.iload_n 1, 1) := by decide +kernel
theorem dc_X_then_7 : decode bc_X_then 7 = .ok (.invokevirtual 48, 3) := by decide +kernel
theorem dc_X_then_10 : decode bc_X_then 10 = .ok (.aload_n 0, 1) := by decide +kernel
theorem dc_X_then_11 : decode bc_X_then 11 = .ok (.iload_n 2, 1) := by decide +kernel
theorem dc_X_then_12 : decode bc_X_then 12 = .ok (.invokevirtual 48, 3) := by decide +kernel
theorem dc_X_then_15 : decode bc_X_then 15 = .ok (.invokespecial 52, 3) := by decide +kernel
theorem dc_X_then_18 : decode bc_X_then 18 = .ok (.invokevirtual 42, 3) := by decide +kernel
theorem dc_X_then_21 : decode bc_X_then 21 = .ok (.ireturn, 1) := by decide +kernel
theorem dc_X_both_0 : decode bc_X_both 0 = .ok (.iload_n 1, 1) := by decide +kernel
theorem dc_X_both_1 : decode bc_X_both 1 = .ok (.ifCond .lt 8, 3) := by decide +kernel
theorem dc_X_both_4 : decode bc_X_both 4 = .ok (.iload_n 1, 1) := by decide +kernel
theorem dc_X_both_5 : decode bc_X_both 5 = .ok (.iconst 3, 1) := by decide +kernel
theorem dc_X_both_6 : decode bc_X_both 6 = .ok (.if_icmp .le 13, 3) := by decide +kernel
theorem dc_X_both_9 : decode bc_X_both 9 = .ok (.new 30, 3) := by decide +kernel
theorem dc_X_both_12 : decode bc_X_both 12 = .ok (.dup, 1) := by decide +kernel
theorem dc_X_both_13 : decode bc_X_both 13 = .ok (.ldc 55, 2) := by decide +kernel
theorem dc_X_both_15 : decode bc_X_both 15 = .ok (.invokespecial 34, 3) := by decide +kernel
theorem dc_X_both_18 : decode bc_X_both 18 = .ok (.athrow, 1) := by decide +kernel
theorem dc_X_both_19 : decode bc_X_both 19 = .ok (.aload_n 0, 1) := by decide +kernel
theorem dc_X_both_20 : decode bc_X_both 20 = .ok (.new 57, 3) := by decide +kernel
theorem dc_X_both_23 : decode bc_X_both 23 = .ok (.dup, 1) := by decide +kernel
theorem dc_X_both_24 : decode bc_X_both 24 = .ok (.iload_n 1, 1) := by decide +kernel
theorem dc_X_both_25 : decode bc_X_both 25 = .ok (.aload_n 0, 1) := by decide +kernel
theorem dc_X_both_26 : decode bc_X_both 26 = .ok (.iload_n 2, 1) := by decide +kernel
theorem dc_X_both_27 : decode bc_X_both 27 = .ok (.invokevirtual 48, 3) := by decide +kernel
theorem dc_X_both_30 : decode bc_X_both 30 = .ok (.aload_n 0, 1) := by decide +kernel
theorem dc_X_both_31 : decode bc_X_both 31 = .ok (.iload_n 3, 1) := by decide +kernel
theorem dc_X_both_32 : decode bc_X_both 32 = .ok (.invokevirtual 48, 3) := by decide +kernel
theorem dc_X_both_35 : decode bc_X_both 35 = .ok (.invokespecial 59, 3) := by decide +kernel
theorem dc_X_both_38 : decode bc_X_both 38 = .ok (.invokevirtual 42, 3) := by decide +kernel
theorem dc_X_both_41 : decode bc_X_both 41 = .ok (.ireturn, 1) := by decide +kernel
theorem dc_X_many_0 : decode bc_X_many 0 = .ok (.aload_n 0, 1) := by decide +kernel
theorem dc_X_many_1 : decode bc_X_many 1 = .ok (.new 62, 3) := by decide +kernel
theorem dc_X_many_4 : decode bc_X_many 4 = .ok (.dup, 1) := by decide +kernel
theorem dc_X_many_5 : decode bc_X_many 5 = .ok (.aload_n 0, 1) := by decide +kernel
theorem dc_X_many_6 : decode bc_X_many 6 = .ok (.iload_n 1, 1) := by decide +kernel
theorem dc_X_many_7 : decode bc_X_many 7 = .ok (.invokevirtual 48, 3) := by decide +kernel
theorem dc_X_many_10 : decode bc_X_many 10 = .ok (.invokespecial 64, 3) := by decide +kernel
theorem dc_X_many_13 : decode bc_X_many 13 = .ok (.invokevirtual 42, 3) := by decide +kernel
theorem dc_X_many_16 : decode bc_X_many 16 = .ok (.ireturn, 1) := by decide +kernel
theorem dc_X_contrary_0 : decode bc_X_contrary 0 = .ok (.aload_n 0, 1) := by decide +kernel
theorem dc_X_contrary_1 : decode bc_X_contrary 1 = .ok (.iload_n 1, 1) := by decide +kernel
theorem dc_X_contrary_2 : decode bc_X_contrary 2 = .ok (.invokevirtual 48, 3) := by decide +kernel
theorem dc_X_contrary_5 : decode bc_X_contrary 5 = .ok (.astore_n 2, 1) := by decide +kernel
theorem dc_X_contrary_6 : decode bc_X_contrary 6 = .ok (.aload_n 0, 1) := by decide +kernel
theorem dc_X_contrary_7 : decode bc_X_contrary 7 = .ok (.new 67, 3) := by decide +kernel
theorem dc_X_contrary_10 : decode bc_X_contrary 10 = .ok (.dup, 1) := by decide +kernel
theorem dc_X_contrary_11 : decode bc_X_contrary 11 = .ok (.aload_n 2, 1) := by decide +kernel
theorem dc_X_contrary_12 : decode bc_X_contrary 12 = .ok (.iconst 0, 1) := by decide +kernel
theorem dc_X_contrary_13 : decode bc_X_contrary 13 = .ok (.aload_n 2, 1) := by decide +kernel
theorem dc_X_contrary_14 : decode bc_X_contrary 14 = .ok (.getfield 69, 3) := by decide +kernel
theorem dc_X_contrary_17 : decode bc_X_contrary 17 = .ok (.iconst (-1), 1) := by decide +kernel
theorem dc_X_contrary_18 : decode bc_X_contrary 18 = .ok (.ixor, 1) := by decide +kernel
theorem dc_X_contrary_19 : decode bc_X_contrary 19 = .ok (.invokespecial 73, 3) := by decide +kernel
theorem dc_X_contrary_22 : decode bc_X_contrary 22 = .ok (.invokevirtual 42, 3) := by decide +kernel
theorem dc_X_contrary_25 : decode bc_X_contrary 25 = .ok (.ireturn, 1) := by decide +kernel
theorem dc_X_back_0 : decode bc_X_back 0 = .ok (.aload_n 0, 1) := by decide +kernel
theorem dc_X_back_1 : decode bc_X_back 1 = .ok (.new 76, 3) := by decide +kernel
theorem dc_X_back_4 : decode bc_X_back 4 = .ok (.dup, 1) := by decide +kernel
theorem dc_X_back_5 : decode bc_X_back 5 = .ok (.aload_n 0, 1) := by decide +kernel
theorem dc_X_back_6 : decode bc_X_back 6 = .ok (.iload_n 1, 1) := by decide +kernel
theorem dc_X_back_7 : decode bc_X_back 7 = .ok (.invokevirtual 48, 3) := by decide +kernel
theorem dc_X_back_10 : decode bc_X_back 10 = .ok (.invokespecial 78, 3) := by decide +kernel
theorem dc_X_back_13 : decode bc_X_back 13 = .ok (.invokevirtual 42, 3) := by decide +kernel
theorem dc_X_back_16 : decode bc_X_back 16 = .ok (.ireturn, 1) := by decide +kernel
theorem dc_X_rest_0 : decode bc_X_rest 0 = .ok (.aload_n 0, 1) := by decide +kernel
theorem dc_X_rest_1 : decode bc_X_rest 1 = .ok (.iload_n 1, 1) := by decide +kernel
theorem dc_X_rest_2 : decode bc_X_rest 2 = .ok (.invokevirtual 48, 3) := by decide +kernel
theorem dc_X_rest_5 : decode bc_X_rest 5 = .ok (.astore_n 3, 1) := by decide +kernel
theorem dc_X_rest_6 : decode bc_X_rest 6 = .ok (.iload_n 2, 1) := by decide +kernel
theorem dc_X_rest_7 : decode bc_X_rest 7 = .ok (.ifCond .lt 8, 3) := by decide +kernel
theorem dc_X_rest_10 : decode bc_X_rest 10 = .ok (.iload_n 2, 1) := by decide +kernel
theorem dc_X_rest_11 : decode bc_X_rest 11 = .ok (.iconst 3, 1) := by decide +kernel
theorem dc_X_rest_12 : decode bc_X_rest 12 = .ok (.if_icmp .lt 13, 3) := by decide +kernel
theorem dc_X_rest_15 : decode bc_X_rest 15 = .ok (.new 30, 3) := by decide +kernel
theorem dc_X_rest_18 : decode bc_X_rest 18 = .ok (.dup, 1) := by decide +kernel
theorem dc_X_rest_19 : decode bc_X_rest 19 = .ok (.ldc 79, 2) := by decide +kernel
theorem dc_X_rest_21 : decode bc_X_rest 21 = .ok (.invokespecial 34, 3) := by decide +kernel
theorem dc_X_rest_24 : decode bc_X_rest 24 = .ok (.athrow, 1) := by decide +kernel
theorem dc_X_rest_25 : decode bc_X_rest 25 = .ok (.aload_n 0, 1) := by decide +kernel
theorem dc_X_rest_26 : decode bc_X_rest 26 = .ok (.new 67, 3) := by decide +kernel
theorem dc_X_rest_29 : decode bc_X_rest 29 = .ok (.dup, 1) := by decide +kernel
theorem dc_X_rest_30 : decode bc_X_rest 30 = .ok (.aload_n 3, 1) := by decide +kernel
theorem dc_X_rest_31 : decode bc_X_rest 31 = .ok (.aload_n 3, 1) := by decide +kernel
theorem dc_X_rest_32 : decode bc_X_rest 32 = .ok (.iconst 0, 1) := by decide +kernel
theorem dc_X_rest_33 : decode bc_X_rest 33 = .ok (.iload_n 2, 1) := by decide +kernel
theorem dc_X_rest_34 : decode bc_X_rest 34 = .ok (.invokevirtual 81, 3) := by decide +kernel
theorem dc_X_rest_37 : decode bc_X_rest 37 = .ok (.aload_n 3, 1) := by decide +kernel
theorem dc_X_rest_38 : decode bc_X_rest 38 = .ok (.getfield 69, 3) := by decide +kernel
theorem dc_X_rest_41 : decode bc_X_rest 41 = .ok (.invokespecial 73, 3) := by decide +kernel
theorem dc_X_rest_44 : decode bc_X_rest 44 = .ok (.invokevirtual 42, 3) := by decide +kernel
theorem dc_X_rest_47 : decode bc_X_rest 47 = .ok (.ireturn, 1) := by decide +kernel
theorem dc_X_beginnings_0 : decode bc_X_beginnings 0 = .ok (.aload_n 0, 1) := by decide +kernel
theorem dc_X_beginnings_1 : decode bc_X_beginnings 1 = .ok (.iload_n 1, 1) := by decide +kernel
theorem dc_X_beginnings_2 : decode bc_X_beginnings 2 = .ok (.invokevirtual 48, 3) := by decide +kernel
theorem dc_X_beginnings_5 : decode bc_X_beginnings 5 = .ok (.astore_n 2, 1) := by decide +kernel
theorem dc_X_beginnings_6 : decode bc_X_beginnings 6 = .ok (.aload_n 0, 1) := by decide +kernel
theorem dc_X_beginnings_7 : decode bc_X_beginnings 7 = .ok (.new 67, 3) := by decide +kernel
theorem dc_X_beginnings_10 : decode bc_X_beginnings 10 = .ok (.dup, 1) := by decide +kernel
theorem dc_X_beginnings_11 : decode bc_X_beginnings 11 = .ok (.aload_n 2, 1) := by decide +kernel
theorem dc_X_beginnings_12 : decode bc_X_beginnings 12 = .ok (.iconst 0, 1) := by decide +kernel
theorem dc_X_beginnings_13 : decode bc_X_beginnings 13 = .ok (.aload_n 2, 1) := by decide +kernel
theorem dc_X_beginnings_14 : decode bc_X_beginnings 14 = .ok (.getfield 85, 3) := by decide +kernel
theorem dc_X_beginnings_17 : decode bc_X_beginnings 17 = .ok (.invokespecial 73, 3) := by decide +kernel
theorem dc_X_beginnings_20 : decode bc_X_beginnings 20 = .ok (.invokevirtual 42, 3) := by decide +kernel
theorem dc_X_beginnings_23 : decode bc_X_beginnings 23 = .ok (.ireturn, 1) := by decide +kernel
theorem dc_X_has_0 : decode bc_X_has 0 = .ok (.aload_n 0, 1) := by decide +kernel
theorem dc_X_has_1 : decode bc_X_has 1 = .ok (.iload_n 1, 1) := by decide +kernel
theorem dc_X_has_2 : decode bc_X_has 2 = .ok (.invokevirtual 48, 3) := by decide +kernel
theorem dc_X_has_5 : decode bc_X_has 5 = .ok (.astore 5, 2) := by decide +kernel
theorem dc_X_has_7 : decode bc_X_has 7 = .ok (.iload_n 2, 1) := by decide +kernel
theorem dc_X_has_8 : decode bc_X_has 8 = .ok (.ifCond .lt 9, 3) := by decide +kernel
theorem dc_X_has_11 : decode bc_X_has 11 = .ok (.iload_n 2, 1) := by decide +kernel
theorem dc_X_has_12 : decode bc_X_has 12 = .ok (.bipush 30, 2) := by decide +kernel
theorem dc_X_has_14 : decode bc_X_has 14 = .ok (.if_icmp .le 13, 3) := by decide +kernel
theorem dc_X_has_17 : decode bc_X_has 17 = .ok (.new 30, 3) := by decide +kernel
theorem dc_X_has_20 : decode bc_X_has 20 = .ok (.dup, 1) := by decide +kernel
theorem dc_X_has_21 : decode bc_X_has 21 = .ok (.ldc 88, 2) := by decide +kernel
theorem dc_X_has_23 : decode bc_X_has 23 = .ok (.invokespecial 34, 3) := by decide +kernel
theorem dc_X_has_26 : decode bc_X_has 26 = .ok (.athrow, 1) := by decide +kernel
theorem dc_X_has_27 : decode bc_X_has 27 = .ok (.iconst 0, 1) := by decide +kernel
theorem dc_X_has_28 : decode bc_X_has 28 = .ok (.istore 6, 2) := by decide +kernel
theorem dc_X_has_30 : decode bc_X_has 30 = .ok (.iconst 0, 1) := by decide +kernel
theorem dc_X_has_31 : decode bc_X_has 31 = .ok (.istore 7, 2) := by decide +kernel
theorem dc_X_has_33 : decode bc_X_has 33 = .ok (.iload 7, 2) := by decide +kernel
theorem dc_X_has_35 : decode bc_X_has 35 = .ok (.iload_n 2, 1) := by decide +kernel
theorem dc_X_has_36 : decode bc_X_has 36 = .ok (.if_icmp .ge 47, 3) := by decide +kernel
theorem dc_X_has_39 : decode bc_X_has 39 = .ok (.lload_n 3, 1) := by decide +kernel
theorem dc_X_has_40 : decode bc_X_has 40 = .ok (.iconst 2, 1) := by decide +kernel
theorem dc_X_has_41 : decode bc_X_has 41 = .ok (.iload 7, 2) := by decide +kernel
theorem dc_X_has_43 : decode bc_X_has 43 = .ok (.imul, 1) := by decide +kernel
theorem dc_X_has_44 : decode bc_X_has 44 = .ok (.lushr, 1) := by decide +kernel
theorem dc_X_has_45 : decode bc_X_has 45 = .ok (.l2i, 1) := by decide +kernel
theorem dc_X_has_46 : decode bc_X_has 46 = .ok (.iconst 3, 1) := by decide +kernel
theorem dc_X_has_47 : decode bc_X_has 47 = .ok (.iand, 1) := by decide +kernel
theorem dc_X_has_48 : decode bc_X_has 48 = .ok (.istore 8, 2) := by decide +kernel
theorem dc_X_has_50 : decode bc_X_has 50 = .ok (.iload 8, 2) := by decide +kernel
theorem dc_X_has_52 : decode bc_X_has 52 = .ok (.iconst 3, 1) := by decide +kernel
theorem dc_X_has_53 : decode bc_X_has 53 = .ok (.if_icmp .lt 13, 3) := by decide +kernel
theorem dc_X_has_56 : decode bc_X_has 56 = .ok (.new 30, 3) := by decide +kernel
theorem dc_X_has_59 : decode bc_X_has 59 = .ok (.dup, 1) := by decide +kernel
theorem dc_X_has_60 : decode bc_X_has 60 = .ok (.ldc 79, 2) := by decide +kernel
theorem dc_X_has_62 : decode bc_X_has 62 = .ok (.invokespecial 34, 3) := by decide +kernel
theorem dc_X_has_65 : decode bc_X_has 65 = .ok (.athrow, 1) := by decide +kernel
theorem dc_X_has_66 : decode bc_X_has 66 = .ok (.aload 5, 2) := by decide +kernel
theorem dc_X_has_68 : decode bc_X_has 68 = .ok (.iload 6, 2) := by decide +kernel
theorem dc_X_has_70 : decode bc_X_has 70 = .ok (.iload 8, 2) := by decide +kernel
theorem dc_X_has_72 : decode bc_X_has 72 = .ok (.invokevirtual 81, 3) := by decide +kernel
theorem dc_X_has_75 : decode bc_X_has 75 = .ok (.istore 6, 2) := by decide +kernel
theorem dc_X_has_77 : decode bc_X_has 77 = .ok (.iinc 7 1, 3) := by decide +kernel
theorem dc_X_has_80 : decode bc_X_has 80 = .ok (.goto (-47), 3) := by decide +kernel
theorem dc_X_has_83 : decode bc_X_has 83 = .ok (.aload 5, 2) := by decide +kernel
theorem dc_X_has_85 : decode bc_X_has 85 = .ok (.iload 6, 2) := by decide +kernel
theorem dc_X_has_87 : decode bc_X_has 87 = .ok (.invokevirtual 90, 3) := by decide +kernel
theorem dc_X_has_90 : decode bc_X_has 90 = .ok (.ireturn, 1) := by decide +kernel
theorem dc_X_same_0 : decode bc_X_same 0 = .ok (.aload_n 0, 1) := by decide +kernel
theorem dc_X_same_1 : decode bc_X_same 1 = .ok (.iload_n 1, 1) := by decide +kernel
theorem dc_X_same_2 : decode bc_X_same 2 = .ok (.invokevirtual 48, 3) := by decide +kernel
theorem dc_X_same_5 : decode bc_X_same 5 = .ok (.aload_n 0, 1) := by decide +kernel
theorem dc_X_same_6 : decode bc_X_same 6 = .ok (.iload_n 2, 1) := by decide +kernel
theorem dc_X_same_7 : decode bc_X_same 7 = .ok (.invokevirtual 48, 3) := by decide +kernel
theorem dc_X_same_10 : decode bc_X_same 10 = .ok (.invokevirtual 94, 3) := by decide +kernel
theorem dc_X_same_13 : decode bc_X_same 13 = .ok (.ireturn, 1) := by decide +kernel
theorem dc_X_inside_0 : decode bc_X_inside 0 = .ok (.aload_n 0, 1) := by decide +kernel
theorem dc_X_inside_1 : decode bc_X_inside 1 = .ok (.getfield 18, 3) := by decide +kernel
theorem dc_X_inside_4 : decode bc_X_inside 4 = .ok (.new 57, 3) := by decide +kernel
theorem dc_X_inside_7 : decode bc_X_inside 7 = .ok (.dup, 1) := by decide +kernel
theorem dc_X_inside_8 : decode bc_X_inside 8 = .ok (.iconst 2, 1) := by decide +kernel
theorem dc_X_inside_9 : decode bc_X_inside 9 = .ok (.aload_n 0, 1) := by decide +kernel
theorem dc_X_inside_10 : decode bc_X_inside 10 = .ok (.iload_n 1, 1) := by decide +kernel
theorem dc_X_inside_11 : decode bc_X_inside 11 = .ok (.invokevirtual 48, 3) := by decide +kernel
theorem dc_X_inside_14 : decode bc_X_inside 14 = .ok (.aload_n 0, 1) := by decide +kernel
theorem dc_X_inside_15 : decode bc_X_inside 15 = .ok (.iload_n 2, 1) := by decide +kernel
theorem dc_X_inside_16 : decode bc_X_inside 16 = .ok (.invokevirtual 48, 3) := by decide +kernel
theorem dc_X_inside_19 : decode bc_X_inside 19 = .ok (.invokespecial 59, 3) := by decide +kernel
theorem dc_X_inside_22 : decode bc_X_inside 22 = .ok (.invokevirtual 98, 3) := by decide +kernel
theorem dc_X_inside_25 : decode bc_X_inside 25 = .ok (.aload_n 0, 1) := by decide +kernel
theorem dc_X_inside_26 : decode bc_X_inside 26 = .ok (.getfield 18, 3) := by decide +kernel
theorem dc_X_inside_29 : decode bc_X_inside 29 = .ok (.invokevirtual 102, 3) := by decide +kernel
theorem dc_X_inside_32 : decode bc_X_inside 32 = .ok (.ifCond .ne 7, 3) := by decide +kernel
theorem dc_X_inside_35 : decode bc_X_inside 35 = .ok (.iconst 1, 1) := by decide +kernel
theorem dc_X_inside_36 : decode bc_X_inside 36 = .ok (.goto 4, 3) := by decide +kernel
theorem dc_X_inside_39 : decode bc_X_inside 39 = .ok (.iconst 0, 1) := by decide +kernel
theorem dc_X_inside_40 : decode bc_X_inside 40 = .ok (.ireturn, 1) := by decide +kernel
theorem dc_X_rests_0 : decode bc_X_rests 0 = .ok (.aload_n 0, 1) := by decide +kernel
theorem dc_X_rests_1 : decode bc_X_rests 1 = .ok (.iload_n 1, 1) := by decide +kernel
theorem dc_X_rests_2 : decode bc_X_rests 2 = .ok (.invokevirtual 48, 3) := by decide +kernel
theorem dc_X_rests_5 : decode bc_X_rests 5 = .ok (.getfield 106, 3) := by decide +kernel
theorem dc_X_rests_8 : decode bc_X_rests 8 = .ok (.ireturn, 1) := by decide +kernel
theorem dc_X_words_0 : decode bc_X_words 0 = .ok (.aload_n 0, 1) := by decide +kernel
theorem dc_X_words_1 : decode bc_X_words 1 = .ok (.iload_n 1, 1) := by decide +kernel
theorem dc_X_words_2 : decode bc_X_words 2 = .ok (.invokevirtual 48, 3) := by decide +kernel
theorem dc_X_words_5 : decode bc_X_words 5 = .ok (.astore_n 3, 1) := by decide +kernel
theorem dc_X_words_6 : decode bc_X_words 6 = .ok (.iload_n 2, 1) := by decide +kernel
theorem dc_X_words_7 : decode bc_X_words 7 = .ok (.ifCond .lt 9, 3) := by decide +kernel
theorem dc_X_words_10 : decode bc_X_words 10 = .ok (.iload_n 2, 1) := by decide +kernel
theorem dc_X_words_11 : decode bc_X_words 11 = .ok (.bipush 39, 2) := by decide +kernel
theorem dc_X_words_13 : decode bc_X_words 13 = .ok (.if_icmp .le 13, 3) := by decide +kernel
theorem dc_X_words_16 : decode bc_X_words 16 = .ok (.new 30, 3) := by decide +kernel
theorem dc_X_words_19 : decode bc_X_words 19 = .ok (.dup, 1) := by decide +kernel
theorem dc_X_words_20 : decode bc_X_words 20 = .ok (.ldc 88, 2) := by decide +kernel
theorem dc_X_words_22 : decode bc_X_words 22 = .ok (.invokespecial 34, 3) := by decide +kernel
theorem dc_X_words_25 : decode bc_X_words 25 = .ok (.athrow, 1) := by decide +kernel
theorem dc_X_words_26 : decode bc_X_words 26 = .ok (.aload_n 0, 1) := by decide +kernel
theorem dc_X_words_27 : decode bc_X_words 27 = .ok (.getfield 25, 3) := by decide +kernel
theorem dc_X_words_30 : decode bc_X_words 30 = .ok (.aload_n 3, 1) := by decide +kernel
theorem dc_X_words_31 : decode bc_X_words 31 = .ok (.invokevirtual 109, 3) := by decide +kernel
theorem dc_X_words_34 : decode bc_X_words 34 = .ok (.iconst 0, 1) := by decide +kernel
theorem dc_X_words_35 : decode bc_X_words 35 = .ok (.istore 4, 2) := by decide +kernel
theorem dc_X_words_37 : decode bc_X_words 37 = .ok (.iload 4, 2) := by decide +kernel
theorem dc_X_words_39 : decode bc_X_words 39 = .ok (.iload_n 2, 1) := by decide +kernel
theorem dc_X_words_40 : decode bc_X_words 40 = .ok (.if_icmp .ge 17, 3) := by decide +kernel
theorem dc_X_words_43 : decode bc_X_words 43 = .ok (.aload_n 0, 1) := by decide +kernel
theorem dc_X_words_44 : decode bc_X_words 44 = .ok (.getfield 25, 3) := by decide +kernel
theorem dc_X_words_47 : decode bc_X_words 47 = .ok (.aload_n 3, 1) := by decide +kernel
theorem dc_X_words_48 : decode bc_X_words 48 = .ok (.invokevirtual 111, 3) := by decide +kernel
theorem dc_X_words_51 : decode bc_X_words 51 = .ok (.iinc 4 1, 3) := by decide +kernel
theorem dc_X_words_54 : decode bc_X_words 54 = .ok (.goto (-17), 3) := by decide +kernel
theorem dc_X_words_57 : decode bc_X_words 57 = .ok (.aload_n 0, 1) := by decide +kernel
theorem dc_X_words_58 : decode bc_X_words 58 = .ok (.getfield 25, 3) := by decide +kernel
theorem dc_X_words_61 : decode bc_X_words 61 = .ok (.getfield 114, 3) := by decide +kernel
theorem dc_X_words_64 : decode bc_X_words 64 = .ok (.iconst 0, 1) := by decide +kernel
theorem dc_X_words_65 : decode bc_X_words 65 = .ok (.laload, 1) := by decide +kernel
theorem dc_X_words_66 : decode bc_X_words 66 = .ok (.lreturn, 1) := by decide +kernel
theorem dc_X_shortest_0 : decode bc_X_shortest 0 = .ok (.aload_n 0, 1) := by decide +kernel
theorem dc_X_shortest_1 : decode bc_X_shortest 1 = .ok (.iload_n 1, 1) := by decide +kernel
theorem dc_X_shortest_2 : decode bc_X_shortest 2 = .ok (.invokevirtual 48, 3) := by decide +kernel
theorem dc_X_shortest_5 : decode bc_X_shortest 5 = .ok (.astore_n 2, 1) := by decide +kernel
theorem dc_X_shortest_6 : decode bc_X_shortest 6 = .ok (.aload_n 2, 1) := by decide +kernel
theorem dc_X_shortest_7 : decode bc_X_shortest 7 = .ok (.getfield 118, 3) := by decide +kernel
theorem dc_X_shortest_10 : decode bc_X_shortest 10 = .ok (.iconst 0, 1) := by decide +kernel
theorem dc_X_shortest_11 : decode bc_X_shortest 11 = .ok (.iaload, 1) := by decide +kernel
theorem dc_X_shortest_12 : decode bc_X_shortest 12 = .ok (.iconst (-1), 1) := by decide +kernel
theorem dc_X_shortest_13 : decode bc_X_shortest 13 = .ok (.if_icmp .ne 13, 3) := by decide +kernel
theorem dc_X_shortest_16 : decode bc_X_shortest 16 = .ok (.new 122, 3) := by decide +kernel
theorem dc_X_shortest_19 : decode bc_X_shortest 19 = .ok (.dup, 1) := by decide +kernel
theorem dc_X_shortest_20 : decode bc_X_shortest 20 = .ok (.ldc 124, 2) := by decide +kernel
theorem dc_X_shortest_22 : decode bc_X_shortest 22 = .ok (.invokespecial 126, 3) := by decide +kernel
theorem dc_X_shortest_25 : decode bc_X_shortest 25 = .ok (.athrow, 1) := by decide +kernel
theorem dc_X_shortest_26 : decode bc_X_shortest 26 = .ok (.aload_n 2, 1) := by decide +kernel
theorem dc_X_shortest_27 : decode bc_X_shortest 27 = .ok (.getfield 118, 3) := by decide +kernel
theorem dc_X_shortest_30 : decode bc_X_shortest 30 = .ok (.iconst 0, 1) := by decide +kernel
theorem dc_X_shortest_31 : decode bc_X_shortest 31 = .ok (.iaload, 1) := by decide +kernel
theorem dc_X_shortest_32 : decode bc_X_shortest 32 = .ok (.ireturn, 1) := by decide +kernel
theorem dc_X_letter_0 : decode bc_X_letter 0 = .ok (.aload_n 0, 1) := by decide +kernel
theorem dc_X_letter_1 : decode bc_X_letter 1 = .ok (.iload_n 1, 1) := by decide +kernel
theorem dc_X_letter_2 : decode bc_X_letter 2 = .ok (.invokevirtual 48, 3) := by decide +kernel
theorem dc_X_letter_5 : decode bc_X_letter 5 = .ok (.astore_n 3, 1) := by decide +kernel
theorem dc_X_letter_6 : decode bc_X_letter 6 = .ok (.iload_n 2, 1) := by decide +kernel
theorem dc_X_letter_7 : decode bc_X_letter 7 = .ok (.ifCond .lt 13, 3) := by decide +kernel
theorem dc_X_letter_10 : decode bc_X_letter 10 = .ok (.iload_n 2, 1) := by decide +kernel
theorem dc_X_letter_11 : decode bc_X_letter 11 = .ok (.aload_n 3, 1) := by decide +kernel
theorem dc_X_letter_12 : decode bc_X_letter 12 = .ok (.getfield 118, 3) := by decide +kernel
theorem dc_X_letter_15 : decode bc_X_letter 15 = .ok (.iconst 0, 1) := by decide +kernel
theorem dc_X_letter_16 : decode bc_X_letter 16 = .ok (.iaload, 1) := by decide +kernel
theorem dc_X_letter_17 : decode bc_X_letter 17 = .ok (.if_icmp .lt 13, 3) := by decide +kernel
theorem dc_X_letter_20 : decode bc_X_letter 20 = .ok (.new 122, 3) := by decide +kernel
theorem dc_X_letter_23 : decode bc_X_letter 23 = .ok (.dup, 1) := by decide +kernel
theorem dc_X_letter_24 : decode bc_X_letter 24 = .ok (.ldc 127, 2) := by decide +kernel
theorem dc_X_letter_26 : decode bc_X_letter 26 = .ok (.invokespecial 126, 3) := by decide +kernel
theorem dc_X_letter_29 : decode bc_X_letter 29 = .ok (.athrow, 1) := by decide +kernel
theorem dc_X_letter_30 : decode bc_X_letter 30 = .ok (.iconst 0, 1) := by decide +kernel
theorem dc_X_letter_31 : decode bc_X_letter 31 = .ok (.istore 4, 2) := by decide +kernel
theorem dc_X_letter_33 : decode bc_X_letter 33 = .ok (.iconst 0, 1) := by decide +kernel
theorem dc_X_letter_34 : decode bc_X_letter 34 = .ok (.istore 5, 2) := by decide +kernel
theorem dc_X_letter_36 : decode bc_X_letter 36 = .ok (.iload 5, 2) := by decide +kernel
theorem dc_X_letter_38 : decode bc_X_letter 38 = .ok (.iload_n 2, 1) := by decide +kernel
theorem dc_X_letter_39 : decode bc_X_letter 39 = .ok (.if_icmp .ge 23, 3) := by decide +kernel
theorem dc_X_letter_42 : decode bc_X_letter 42 = .ok (.aload_n 3, 1) := by decide +kernel
theorem dc_X_letter_43 : decode bc_X_letter 43 = .ok (.iload 4, 2) := by decide +kernel
theorem dc_X_letter_45 : decode bc_X_letter 45 = .ok (.aload_n 3, 1) := by decide +kernel
theorem dc_X_letter_46 : decode bc_X_letter 46 = .ok (.iload 4, 2) := by decide +kernel
theorem dc_X_letter_48 : decode bc_X_letter 48 = .ok (.invokevirtual 129, 3) := by decide +kernel
theorem dc_X_letter_51 : decode bc_X_letter 51 = .ok (.invokevirtual 81, 3) := by decide +kernel
theorem dc_X_letter_54 : decode bc_X_letter 54 = .ok (.istore 4, 2) := by decide +kernel
theorem dc_X_letter_56 : decode bc_X_letter 56 = .ok (.iinc 5 1, 3) := by decide +kernel
theorem dc_X_letter_59 : decode bc_X_letter 59 = .ok (.goto (-23), 3) := by decide +kernel
theorem dc_X_letter_62 : decode bc_X_letter 62 = .ok (.aload_n 3, 1) := by decide +kernel
theorem dc_X_letter_63 : decode bc_X_letter 63 = .ok (.iload 4, 2) := by decide +kernel
theorem dc_X_letter_65 : decode bc_X_letter 65 = .ok (.invokevirtual 129, 3) := by decide +kernel
theorem dc_X_letter_68 : decode bc_X_letter 68 = .ok (.ireturn, 1) := by decide +kernel
theorem dc_X_size_0 : decode bc_X_size 0 = .ok (.aload_n 0, 1) := by decide +kernel
theorem dc_X_size_1 : decode bc_X_size 1 = .ok (.iload_n 1, 1) := by decide +kernel
theorem dc_X_size_2 : decode bc_X_size 2 = .ok (.invokevirtual 48, 3) := by decide +kernel
theorem dc_X_size_5 : decode bc_X_size 5 = .ok (.astore_n 2, 1) := by decide +kernel
theorem dc_X_size_6 : decode bc_X_size 6 = .ok (.lconst 0, 1) := by decide +kernel
theorem dc_X_size_7 : decode bc_X_size 7 = .ok (.lstore_n 3, 1) := by decide +kernel
theorem dc_X_size_8 : decode bc_X_size 8 = .ok (.aload_n 0, 1) := by decide +kernel
theorem dc_X_size_9 : decode bc_X_size 9 = .ok (.getfield 25, 3) := by decide +kernel
theorem dc_X_size_12 : decode bc_X_size 12 = .ok (.aload_n 2, 1) := by decide +kernel
theorem dc_X_size_13 : decode bc_X_size 13 = .ok (.invokevirtual 109, 3) := by decide +kernel
theorem dc_X_size_16 : decode bc_X_size 16 = .ok (.iconst 0, 1) := by decide +kernel
theorem dc_X_size_17 : decode bc_X_size 17 = .ok (.istore 5, 2) := by decide +kernel
theorem dc_X_size_19 : decode bc_X_size 19 = .ok (.iload 5, 2) := by decide +kernel
theorem dc_X_size_21 : decode bc_X_size 21 = .ok (.iconst 2, 1) := by decide +kernel
theorem dc_X_size_22 : decode bc_X_size 22 = .ok (.aload_n 2, 1) := by decide +kernel
theorem dc_X_size_23 : decode bc_X_size 23 = .ok (.getfield 106, 3) := by decide +kernel
theorem dc_X_size_26 : decode bc_X_size 26 = .ok (.imul, 1) := by decide +kernel
theorem dc_X_size_27 : decode bc_X_size 27 = .ok (.if_icmp .ge 54, 3) := by decide +kernel
theorem dc_X_size_30 : decode bc_X_size 30 = .ok (.iload 5, 2) := by decide +kernel
theorem dc_X_size_32 : decode bc_X_size 32 = .ok (.aload_n 2, 1) := by decide +kernel
theorem dc_X_size_33 : decode bc_X_size 33 = .ok (.getfield 106, 3) := by decide +kernel
theorem dc_X_size_36 : decode bc_X_size 36 = .ok (.if_icmp .lt 19, 3) := by decide +kernel
theorem dc_X_size_39 : decode bc_X_size 39 = .ok (.aload_n 0, 1) := by decide +kernel
theorem dc_X_size_40 : decode bc_X_size 40 = .ok (.getfield 25, 3) := by decide +kernel
theorem dc_X_size_43 : decode bc_X_size 43 = .ok (.getfield 114, 3) := by decide +kernel
theorem dc_X_size_46 : decode bc_X_size 46 = .ok (.iconst 0, 1) := by decide +kernel
theorem dc_X_size_47 : decode bc_X_size 47 = .ok (.laload, 1) := by decide +kernel
theorem dc_X_size_48 : decode bc_X_size 48 = .ok (.lconst 0, 1) := by decide +kernel
theorem dc_X_size_49 : decode bc_X_size 49 = .ok (.lcmp, 1) := by decide +kernel
theorem dc_X_size_50 : decode bc_X_size 50 = .ok (.ifCond .le 5, 3) := by decide +kernel
theorem dc_X_size_53 : decode bc_X_size 53 = .ok (.iconst (-1), 1) := by decide +kernel
theorem dc_X_size_54 : decode bc_X_size 54 = .ok (.ireturn, 1) := by decide +kernel
theorem dc_X_size_55 : decode bc_X_size 55 = .ok (.lload_n 3, 1) := by decide +kernel
theorem dc_X_size_56 : decode bc_X_size 56 = .ok (.aload_n 0, 1) := by decide +kernel
theorem dc_X_size_57 : decode bc_X_size 57 = .ok (.getfield 25, 3) := by decide +kernel
theorem dc_X_size_60 : decode bc_X_size 60 = .ok (.getfield 114, 3) := by decide +kernel
theorem dc_X_size_63 : decode bc_X_size 63 = .ok (.iconst 0, 1) := by decide +kernel
theorem dc_X_size_64 : decode bc_X_size 64 = .ok (.laload, 1) := by decide +kernel
theorem dc_X_size_65 : decode bc_X_size 65 = .ok (.ladd, 1) := by decide +kernel
theorem dc_X_size_66 : decode bc_X_size 66 = .ok (.lstore_n 3, 1) := by decide +kernel
theorem dc_X_size_67 : decode bc_X_size 67 = .ok (.aload_n 0, 1) := by decide +kernel
theorem dc_X_size_68 : decode bc_X_size 68 = .ok (.getfield 25, 3) := by decide +kernel
theorem dc_X_size_71 : decode bc_X_size 71 = .ok (.aload_n 2, 1) := by decide +kernel
theorem dc_X_size_72 : decode bc_X_size 72 = .ok (.invokevirtual 111, 3) := by decide +kernel
theorem dc_X_size_75 : decode bc_X_size 75 = .ok (.iinc 5 1, 3) := by decide +kernel
theorem dc_X_size_78 : decode bc_X_size 78 = .ok (.goto (-59), 3) := by decide +kernel
theorem dc_X_size_81 : decode bc_X_size 81 = .ok (.lload_n 3, 1) := by decide +kernel
theorem dc_X_size_82 : decode bc_X_size 82 = .ok (.ldc2_w 133, 3) := by decide +kernel
theorem dc_X_size_85 : decode bc_X_size 85 = .ok (.lcmp, 1) := by decide +kernel
theorem dc_X_size_86 : decode bc_X_size 86 = .ok (.ifCond .le 8, 3) := by decide +kernel
theorem dc_X_size_89 : decode bc_X_size 89 = .ok (.bipush (-2), 2) := by decide +kernel
theorem dc_X_size_91 : decode bc_X_size 91 = .ok (.goto 5, 3) := by decide +kernel
theorem dc_X_size_94 : decode bc_X_size 94 = .ok (.lload_n 3, 1) := by decide +kernel
theorem dc_X_size_95 : decode bc_X_size 95 = .ok (.l2i, 1) := by decide +kernel
theorem dc_X_size_96 : decode bc_X_size 96 = .ok (.ireturn, 1) := by decide +kernel
theorem dc_X_count_0 : decode bc_X_count 0 = .ok (.aload_n 0, 1) := by decide +kernel
theorem dc_X_count_1 : decode bc_X_count 1 = .ok (.getfield 135, 3) := by decide +kernel
theorem dc_X_count_4 : decode bc_X_count 4 = .ok (.ireturn, 1) := by decide +kernel
theorem dc_X_tableOf_0 : decode bc_X_tableOf 0 = .ok (.iload_n 1, 1) := by decide +kernel
theorem dc_X_tableOf_1 : decode bc_X_tableOf 1 = .ok (.ifCond .lt 11, 3) := by decide +kernel
theorem dc_X_tableOf_4 : decode bc_X_tableOf 4 = .ok (.iload_n 1, 1) := by decide +kernel
theorem dc_X_tableOf_5 : decode bc_X_tableOf 5 = .ok (.aload_n 0, 1) := by decide +kernel
theorem dc_X_tableOf_6 : decode bc_X_tableOf 6 = .ok (.getfield 135, 3) := by decide +kernel
theorem dc_X_tableOf_9 : decode bc_X_tableOf 9 = .ok (.if_icmp .lt 13, 3) := by decide +kernel
theorem dc_X_tableOf_12 : decode bc_X_tableOf 12 = .ok (.new 30, 3) := by decide +kernel
theorem dc_X_tableOf_15 : decode bc_X_tableOf 15 = .ok (.dup, 1) := by decide +kernel
theorem dc_X_tableOf_16 : decode bc_X_tableOf 16 = .ok (.ldc 138, 2) := by decide +kernel
theorem dc_X_tableOf_18 : decode bc_X_tableOf 18 = .ok (.invokespecial 34, 3) := by decide +kernel
theorem dc_X_tableOf_21 : decode bc_X_tableOf 21 = .ok (.athrow, 1) := by decide +kernel
theorem dc_X_tableOf_22 : decode bc_X_tableOf 22 = .ok (.aload_n 0, 1) := by decide +kernel
theorem dc_X_tableOf_23 : decode bc_X_tableOf 23 = .ok (.getfield 11, 3) := by decide +kernel
theorem dc_X_tableOf_26 : decode bc_X_tableOf 26 = .ok (.iload_n 1, 1) := by decide +kernel
theorem dc_X_tableOf_27 : decode bc_X_tableOf 27 = .ok (.aaload, 1) := by decide +kernel
theorem dc_X_tableOf_28 : decode bc_X_tableOf 28 = .ok (.areturn, 1) := by decide +kernel
theorem dc_X_keep_0 : decode bc_X_keep 0 = .ok (.aload_n 0, 1) := by decide +kernel
theorem dc_X_keep_1 : decode bc_X_keep 1 = .ok (.getfield 135, 3) := by decide +kernel
theorem dc_X_keep_4 : decode bc_X_keep 4 = .ok (.bipush 80, 2) := by decide +kernel
theorem dc_X_keep_6 : decode bc_X_keep 6 = .ok (.if_icmp .lt 13, 3) := by decide +kernel
theorem dc_X_keep_9 : decode bc_X_keep 9 = .ok (.new 140, 3) := by decide +kernel
theorem dc_X_keep_12 : decode bc_X_keep 12 = .ok (.dup, 1) := by decide +kernel
theorem dc_X_keep_13 : decode bc_X_keep 13 = .ok (.ldc 142, 2) := by decide +kernel
theorem dc_X_keep_15 : decode bc_X_keep 15 = .ok (.invokespecial 144, 3) := by decide +kernel
theorem dc_X_keep_18 : decode bc_X_keep 18 = .ok (.athrow, 1) := by decide +kernel
theorem dc_X_keep_19 : decode bc_X_keep 19 = .ok (.aload_n 0, 1) := by decide +kernel
theorem dc_X_keep_20 : decode bc_X_keep 20 = .ok (.getfield 18, 3) := by decide +kernel
theorem dc_X_keep_23 : decode bc_X_keep 23 = .ok (.aload_n 1, 1) := by decide +kernel
theorem dc_X_keep_24 : decode bc_X_keep 24 = .ok (.invokevirtual 98, 3) := by decide +kernel
theorem dc_X_keep_27 : decode bc_X_keep 27 = .ok (.iconst 1, 1) := by decide +kernel
theorem dc_X_keep_28 : decode bc_X_keep 28 = .ok (.istore_n 2, 1) := by decide +kernel
theorem dc_X_keep_29 : decode bc_X_keep 29 = .ok (.iconst 0, 1) := by decide +kernel
theorem dc_X_keep_30 : decode bc_X_keep 30 = .ok (.istore_n 3, 1) := by decide +kernel
theorem dc_X_keep_31 : decode bc_X_keep 31 = .ok (.iload_n 3, 1) := by decide +kernel
theorem dc_X_keep_32 : decode bc_X_keep 32 = .ok (.bipush 10, 2) := by decide +kernel
theorem dc_X_keep_34 : decode bc_X_keep 34 = .ok (.if_icmp .ge 22, 3) := by decide +kernel
theorem dc_X_keep_37 : decode bc_X_keep 37 = .ok (.iload_n 2, 1) := by decide +kernel
theorem dc_X_keep_38 : decode bc_X_keep 38 = .ok (.iconst 1, 1) := by decide +kernel
theorem dc_X_keep_39 : decode bc_X_keep 39 = .ok (.if_icmp .ne 17, 3) := by decide +kernel
theorem dc_X_keep_42 : decode bc_X_keep 42 = .ok (.aload_n 0, 1) := by decide +kernel
theorem dc_X_keep_43 : decode bc_X_keep 43 = .ok (.getfield 18, 3) := by decide +kernel
theorem dc_X_keep_46 : decode bc_X_keep 46 = .ok (.invokevirtual 145, 3) := by decide +kernel
theorem dc_X_keep_49 : decode bc_X_keep 49 = .ok (.istore_n 2, 1) := by decide +kernel
theorem dc_X_keep_50 : decode bc_X_keep 50 = .ok (.iinc 3 1, 3) := by decide +kernel
theorem dc_X_keep_53 : decode bc_X_keep 53 = .ok (.goto (-22), 3) := by decide +kernel
theorem dc_X_keep_56 : decode bc_X_keep 56 = .ok (.iload_n 2, 1) := by decide +kernel
theorem dc_X_keep_57 : decode bc_X_keep 57 = .ok (.ifCond .eq 13, 3) := by decide +kernel
theorem dc_X_keep_60 : decode bc_X_keep 60 = .ok (.new 140, 3) := by decide +kernel
theorem dc_X_keep_63 : decode bc_X_keep 63 = .ok (.dup, 1) := by decide +kernel
theorem dc_X_keep_64 : decode bc_X_keep 64 = .ok (.ldc 149, 2) := by decide +kernel
theorem dc_X_keep_66 : decode bc_X_keep 66 = .ok (.invokespecial 144, 3) := by decide +kernel
theorem dc_X_keep_69 : decode bc_X_keep 69 = .ok (.athrow, 1) := by decide +kernel
theorem dc_X_keep_70 : decode bc_X_keep 70 = .ok (.aload_n 0, 1) := by decide +kernel
theorem dc_X_keep_71 : decode bc_X_keep 71 = .ok (.getfield 18, 3) := by decide +kernel
theorem dc_X_keep_74 : decode bc_X_keep 74 = .ok (.aload_n 0, 1) := by decide +kernel
theorem dc_X_keep_75 : decode bc_X_keep 75 = .ok (.getfield 11, 3) := by decide +kernel
theorem dc_X_keep_78 : decode bc_X_keep 78 = .ok (.aload_n 0, 1) := by decide +kernel
theorem dc_X_keep_79 : decode bc_X_keep 79 = .ok (.getfield 135, 3) := by decide +kernel
theorem dc_X_keep_82 : decode bc_X_keep 82 = .ok (.aaload, 1) := by decide +kernel
theorem dc_X_keep_83 : decode bc_X_keep 83 = .ok (.invokevirtual 151, 3) := by decide +kernel
theorem dc_X_keep_86 : decode bc_X_keep 86 = .ok (.aload_n 0, 1) := by decide +kernel
theorem dc_X_keep_87 : decode bc_X_keep 87 = .ok (.dup, 1) := by decide +kernel
theorem dc_X_keep_88 : decode bc_X_keep 88 = .ok (.getfield 135, 3) := by decide +kernel
theorem dc_X_keep_91 : decode bc_X_keep 91 = .ok (.iconst 1, 1) := by decide +kernel
theorem dc_X_keep_92 : decode bc_X_keep 92 = .ok (.iadd, 1) := by decide +kernel
theorem dc_X_keep_93 : decode bc_X_keep 93 = .ok (.putfield 135, 3) := by decide +kernel
theorem dc_X_keep_96 : decode bc_X_keep 96 = .ok (.aload_n 0, 1) := by decide +kernel
theorem dc_X_keep_97 : decode bc_X_keep 97 = .ok (.getfield 135, 3) := by decide +kernel
theorem dc_X_keep_100 : decode bc_X_keep 100 = .ok (.iconst 1, 1) := by decide +kernel
theorem dc_X_keep_101 : decode bc_X_keep 101 = .ok (.isub, 1) := by decide +kernel
theorem dc_X_keep_102 : decode bc_X_keep 102 = .ok (.ireturn, 1) := by decide +kernel
theorem dc_K_init_0 : decode bc_K_init 0 = .ok (.aload_n 0, 1) := by decide +kernel
theorem dc_K_init_1 : decode bc_K_init 1 = .ok (.invokespecial 1, 3) := by decide +kernel
theorem dc_K_init_4 : decode bc_K_init 4 = .ok (.aload_n 0, 1) := by decide +kernel
theorem dc_K_init_5 : decode bc_K_init 5 = .ok (.aload_n 1, 1) := by decide +kernel
theorem dc_K_init_6 : decode bc_K_init 6 = .ok (.putfield 7, 3) := by decide +kernel
theorem dc_K_init_9 : decode bc_K_init 9 = .ok (.return_, 1) := by decide +kernel
theorem dc_K_start_0 : decode bc_K_start 0 = .ok (.aload_n 0, 1) := by decide +kernel
theorem dc_K_start_1 : decode bc_K_start 1 = .ok (.getfield 7, 3) := by decide +kernel
theorem dc_K_start_4 : decode bc_K_start 4 = .ok (.getfield 13, 3) := by decide +kernel
theorem dc_K_start_7 : decode bc_K_start 7 = .ok (.ireturn, 1) := by decide +kernel
theorem dc_K_step_0 : decode bc_K_step 0 = .ok (.aload_n 0, 1) := by decide +kernel
theorem dc_K_step_1 : decode bc_K_step 1 = .ok (.getfield 7, 3) := by decide +kernel
theorem dc_K_step_4 : decode bc_K_step 4 = .ok (.iload_n 1, 1) := by decide +kernel
theorem dc_K_step_5 : decode bc_K_step 5 = .ok (.iload_n 2, 1) := by decide +kernel
theorem dc_K_step_6 : decode bc_K_step 6 = .ok (.invokevirtual 19, 3) := by decide +kernel
theorem dc_K_step_9 : decode bc_K_step 9 = .ok (.ireturn, 1) := by decide +kernel
theorem dc_K_accepts_0 : decode bc_K_accepts 0 = .ok (.iload_n 1, 1) := by decide +kernel
theorem dc_K_accepts_1 : decode bc_K_accepts 1 = .ok (.iconst 1, 1) := by decide +kernel
theorem dc_K_accepts_2 : decode bc_K_accepts 2 = .ok (.iand, 1) := by decide +kernel
theorem dc_K_accepts_3 : decode bc_K_accepts 3 = .ok (.ifCond .eq 7, 3) := by decide +kernel
theorem dc_K_accepts_6 : decode bc_K_accepts 6 = .ok (.iconst 1, 1) := by decide +kernel
theorem dc_K_accepts_7 : decode bc_K_accepts 7 = .ok (.goto 4, 3) := by decide +kernel
theorem dc_K_accepts_10 : decode bc_K_accepts 10 = .ok (.iconst 0, 1) := by decide +kernel
theorem dc_K_accepts_11 : decode bc_K_accepts 11 = .ok (.ireturn, 1) := by decide +kernel
theorem dc_B_init_0 : decode bc_B_init 0 = .ok (.aload_n 0, 1) := by decide +kernel
theorem dc_B_init_1 : decode bc_B_init 1 = .ok (.invokespecial 3, 3) := by decide +kernel
theorem dc_B_init_4 : decode bc_B_init 4 = .ok (.aload_n 0, 1) := by decide +kernel
theorem dc_B_init_5 : decode bc_B_init 5 = .ok (.iload_n 1, 1) := by decide +kernel
theorem dc_B_init_6 : decode bc_B_init 6 = .ok (.putfield 9, 3) := by decide +kernel
theorem dc_B_init_9 : decode bc_B_init 9 = .ok (.aload_n 0, 1) := by decide +kernel
theorem dc_B_init_10 : decode bc_B_init 10 = .ok (.aload_n 2, 1) := by decide +kernel
theorem dc_B_init_11 : decode bc_B_init 11 = .ok (.putfield 15, 3) := by decide +kernel
theorem dc_B_init_14 : decode bc_B_init 14 = .ok (.aload_n 0, 1) := by decide +kernel
theorem dc_B_init_15 : decode bc_B_init 15 = .ok (.aload_n 3, 1) := by decide +kernel
theorem dc_B_init_16 : decode bc_B_init 16 = .ok (.putfield 19, 3) := by decide +kernel
theorem dc_B_init_19 : decode bc_B_init 19 = .ok (.return_, 1) := by decide +kernel
theorem dc_B_start_0 : decode bc_B_start 0 = .ok (.iconst 0, 1) := by decide +kernel
theorem dc_B_start_1 : decode bc_B_start 1 = .ok (.ireturn, 1) := by decide +kernel
theorem dc_B_step_0 : decode bc_B_step 0 = .ok (.aload_n 0, 1) := by decide +kernel
theorem dc_B_step_1 : decode bc_B_step 1 = .ok (.getfield 15, 3) := by decide +kernel
theorem dc_B_step_4 : decode bc_B_step 4 = .ok (.iload_n 1, 1) := by decide +kernel
theorem dc_B_step_5 : decode bc_B_step 5 = .ok (.bipush 10, 2) := by decide +kernel
theorem dc_B_step_7 : decode bc_B_step 7 = .ok (.idiv, 1) := by decide +kernel
theorem dc_B_step_8 : decode bc_B_step 8 = .ok (.iload_n 2, 1) := by decide +kernel
theorem dc_B_step_9 : decode bc_B_step 9 = .ok (.invokevirtual 22, 3) := by decide +kernel
theorem dc_B_step_12 : decode bc_B_step 12 = .ok (.istore_n 3, 1) := by decide +kernel
theorem dc_B_step_13 : decode bc_B_step 13 = .ok (.iload_n 3, 1) := by decide +kernel
theorem dc_B_step_14 : decode bc_B_step 14 = .ok (.bipush 10, 2) := by decide +kernel
theorem dc_B_step_16 : decode bc_B_step 16 = .ok (.imul, 1) := by decide +kernel
theorem dc_B_step_17 : decode bc_B_step 17 = .ok (.aload_n 0, 1) := by decide +kernel
theorem dc_B_step_18 : decode bc_B_step 18 = .ok (.getfield 19, 3) := by decide +kernel
theorem dc_B_step_21 : decode bc_B_step 21 = .ok (.iload_n 1, 1) := by decide +kernel
theorem dc_B_step_22 : decode bc_B_step 22 = .ok (.bipush 10, 2) := by decide +kernel
theorem dc_B_step_24 : decode bc_B_step 24 = .ok (.irem, 1) := by decide +kernel
theorem dc_B_step_25 : decode bc_B_step 25 = .ok (.iload_n 2, 1) := by decide +kernel
theorem dc_B_step_26 : decode bc_B_step 26 = .ok (.invokevirtual 22, 3) := by decide +kernel
theorem dc_B_step_29 : decode bc_B_step 29 = .ok (.iadd, 1) := by decide +kernel
theorem dc_B_step_30 : decode bc_B_step 30 = .ok (.ireturn, 1) := by decide +kernel
theorem dc_B_accepts_0 : decode bc_B_accepts 0 = .ok (.aload_n 0, 1) := by decide +kernel
theorem dc_B_accepts_1 : decode bc_B_accepts 1 = .ok (.getfield 15, 3) := by decide +kernel
theorem dc_B_accepts_4 : decode bc_B_accepts 4 = .ok (.iload_n 1, 1) := by decide +kernel
theorem dc_B_accepts_5 : decode bc_B_accepts 5 = .ok (.bipush 10, 2) := by decide +kernel
theorem dc_B_accepts_7 : decode bc_B_accepts 7 = .ok (.idiv, 1) := by decide +kernel
theorem dc_B_accepts_8 : decode bc_B_accepts 8 = .ok (.invokevirtual 28, 3) := by decide +kernel
theorem dc_B_accepts_11 : decode bc_B_accepts 11 = .ok (.istore_n 2, 1) := by decide +kernel
theorem dc_B_accepts_12 : decode bc_B_accepts 12 = .ok (.aload_n 0, 1) := by decide +kernel
theorem dc_B_accepts_13 : decode bc_B_accepts 13 = .ok (.getfield 19, 3) := by decide +kernel
theorem dc_B_accepts_16 : decode bc_B_accepts 16 = .ok (.iload_n 1, 1) := by decide +kernel
theorem dc_B_accepts_17 : decode bc_B_accepts 17 = .ok (.bipush 10, 2) := by decide +kernel
theorem dc_B_accepts_19 : decode bc_B_accepts 19 = .ok (.irem, 1) := by decide +kernel
theorem dc_B_accepts_20 : decode bc_B_accepts 20 = .ok (.invokevirtual 28, 3) := by decide +kernel
theorem dc_B_accepts_23 : decode bc_B_accepts 23 = .ok (.istore_n 3, 1) := by decide +kernel
theorem dc_B_accepts_24 : decode bc_B_accepts 24 = .ok (.aload_n 0, 1) := by decide +kernel
theorem dc_B_accepts_25 : decode bc_B_accepts 25 = .ok (.getfield 9, 3) := by decide +kernel
theorem dc_B_accepts_28 : decode bc_B_accepts 28 = .ok (.tableswitch 70 0 2 #[28, 42, 56], 28) := by decide +kernel
theorem dc_B_accepts_56 : decode bc_B_accepts 56 = .ok (.iload_n 2, 1) := by decide +kernel
theorem dc_B_accepts_57 : decode bc_B_accepts 57 = .ok (.ifCond .ne 7, 3) := by decide +kernel
theorem dc_B_accepts_60 : decode bc_B_accepts 60 = .ok (.iload_n 3, 1) := by decide +kernel
theorem dc_B_accepts_61 : decode bc_B_accepts 61 = .ok (.ifCond .eq 7, 3) := by decide +kernel
theorem dc_B_accepts_64 : decode bc_B_accepts 64 = .ok (.iconst 1, 1) := by decide +kernel
theorem dc_B_accepts_65 : decode bc_B_accepts 65 = .ok (.goto 4, 3) := by decide +kernel
theorem dc_B_accepts_68 : decode bc_B_accepts 68 = .ok (.iconst 0, 1) := by decide +kernel
theorem dc_B_accepts_69 : decode bc_B_accepts 69 = .ok (.ireturn, 1) := by decide +kernel
theorem dc_B_accepts_70 : decode bc_B_accepts 70 = .ok (.iload_n 2, 1) := by decide +kernel
theorem dc_B_accepts_71 : decode bc_B_accepts 71 = .ok (.ifCond .eq 11, 3) := by decide +kernel
theorem dc_B_accepts_74 : decode bc_B_accepts 74 = .ok (.iload_n 3, 1) := by decide +kernel
theorem dc_B_accepts_75 : decode bc_B_accepts 75 = .ok (.ifCond .eq 7, 3) := by decide +kernel
theorem dc_B_accepts_78 : decode bc_B_accepts 78 = .ok (.iconst 1, 1) := by decide +kernel
theorem dc_B_accepts_79 : decode bc_B_accepts 79 = .ok (.goto 4, 3) := by decide +kernel
theorem dc_B_accepts_82 : decode bc_B_accepts 82 = .ok (.iconst 0, 1) := by decide +kernel
theorem dc_B_accepts_83 : decode bc_B_accepts 83 = .ok (.ireturn, 1) := by decide +kernel
theorem dc_B_accepts_84 : decode bc_B_accepts 84 = .ok (.iload_n 2, 1) := by decide +kernel
theorem dc_B_accepts_85 : decode bc_B_accepts 85 = .ok (.ifCond .eq 11, 3) := by decide +kernel
theorem dc_B_accepts_88 : decode bc_B_accepts 88 = .ok (.iload_n 3, 1) := by decide +kernel
theorem dc_B_accepts_89 : decode bc_B_accepts 89 = .ok (.ifCond .ne 7, 3) := by decide +kernel
theorem dc_B_accepts_92 : decode bc_B_accepts 92 = .ok (.iconst 1, 1) := by decide +kernel
theorem dc_B_accepts_93 : decode bc_B_accepts 93 = .ok (.goto 4, 3) := by decide +kernel
theorem dc_B_accepts_96 : decode bc_B_accepts 96 = .ok (.iconst 0, 1) := by decide +kernel
theorem dc_B_accepts_97 : decode bc_B_accepts 97 = .ok (.ireturn, 1) := by decide +kernel
theorem dc_B_accepts_98 : decode bc_B_accepts 98 = .ok (.iload_n 2, 1) := by decide +kernel
theorem dc_B_accepts_99 : decode bc_B_accepts 99 = .ok (.iload_n 3, 1) := by decide +kernel
theorem dc_B_accepts_100 : decode bc_B_accepts 100 = .ok (.if_icmp .eq 7, 3) := by decide +kernel
theorem dc_B_accepts_103 : decode bc_B_accepts 103 = .ok (.iconst 1, 1) := by decide +kernel
theorem dc_B_accepts_104 : decode bc_B_accepts 104 = .ok (.goto 4, 3) := by decide +kernel
theorem dc_B_accepts_107 : decode bc_B_accepts 107 = .ok (.iconst 0, 1) := by decide +kernel
theorem dc_B_accepts_108 : decode bc_B_accepts 108 = .ok (.ireturn, 1) := by decide +kernel
theorem dc_A_init_0 : decode bc_A_init 0 = .ok (.aload_n 0, 1) := by decide +kernel
theorem dc_A_init_1 : decode bc_A_init 1 = .ok (.invokespecial 1, 3) := by decide +kernel
theorem dc_A_init_4 : decode bc_A_init 4 = .ok (.return_, 1) := by decide +kernel
theorem dc_N_init_0 : decode bc_N_init 0 = .ok (.aload_n 0, 1) := by decide +kernel
theorem dc_N_init_1 : decode bc_N_init 1 = .ok (.invokespecial 3, 3) := by decide +kernel
theorem dc_N_init_4 : decode bc_N_init 4 = .ok (.aload_n 0, 1) := by decide +kernel
theorem dc_N_init_5 : decode bc_N_init 5 = .ok (.aload_n 1, 1) := by decide +kernel
theorem dc_N_init_6 : decode bc_N_init 6 = .ok (.putfield 9, 3) := by decide +kernel
theorem dc_N_init_9 : decode bc_N_init 9 = .ok (.return_, 1) := by decide +kernel
theorem dc_N_start_0 : decode bc_N_start 0 = .ok (.sipush 1024, 3) := by decide +kernel
theorem dc_N_start_3 : decode bc_N_start 3 = .ok (.ireturn, 1) := by decide +kernel
theorem dc_N_step_0 : decode bc_N_step 0 = .ok (.aload_n 0, 1) := by decide +kernel
theorem dc_N_step_1 : decode bc_N_step 1 = .ok (.getfield 9, 3) := by decide +kernel
theorem dc_N_step_4 : decode bc_N_step 4 = .ok (.iload_n 1, 1) := by decide +kernel
theorem dc_N_step_5 : decode bc_N_step 5 = .ok (.sipush 1024, 3) := by decide +kernel
theorem dc_N_step_8 : decode bc_N_step 8 = .ok (.if_icmp .ne 7, 3) := by decide +kernel
theorem dc_N_step_11 : decode bc_N_step 11 = .ok (.iconst 1, 1) := by decide +kernel
theorem dc_N_step_12 : decode bc_N_step 12 = .ok (.goto 4, 3) := by decide +kernel
theorem dc_N_step_15 : decode bc_N_step 15 = .ok (.iload_n 1, 1) := by decide +kernel
theorem dc_N_step_16 : decode bc_N_step 16 = .ok (.iload_n 2, 1) := by decide +kernel
theorem dc_N_step_17 : decode bc_N_step 17 = .ok (.invokevirtual 15, 3) := by decide +kernel
theorem dc_N_step_20 : decode bc_N_step 20 = .ok (.istore_n 3, 1) := by decide +kernel
theorem dc_N_step_21 : decode bc_N_step 21 = .ok (.iload_n 3, 1) := by decide +kernel
theorem dc_N_step_22 : decode bc_N_step 22 = .ok (.aload_n 0, 1) := by decide +kernel
theorem dc_N_step_23 : decode bc_N_step 23 = .ok (.getfield 9, 3) := by decide +kernel
theorem dc_N_step_26 : decode bc_N_step 26 = .ok (.getfield 21, 3) := by decide +kernel
theorem dc_N_step_29 : decode bc_N_step 29 = .ok (.iand, 1) := by decide +kernel
theorem dc_N_step_30 : decode bc_N_step 30 = .ok (.ifCond .eq 9, 3) := by decide +kernel
theorem dc_N_step_33 : decode bc_N_step 33 = .ok (.iload_n 3, 1) := by decide +kernel
theorem dc_N_step_34 : decode bc_N_step 34 = .ok (.iconst 1, 1) := by decide +kernel
theorem dc_N_step_35 : decode bc_N_step 35 = .ok (.ior, 1) := by decide +kernel
theorem dc_N_step_36 : decode bc_N_step 36 = .ok (.goto 4, 3) := by decide +kernel
theorem dc_N_step_39 : decode bc_N_step 39 = .ok (.iload_n 3, 1) := by decide +kernel
theorem dc_N_step_40 : decode bc_N_step 40 = .ok (.ireturn, 1) := by decide +kernel
theorem dc_N_accepts_0 : decode bc_N_accepts 0 = .ok (.iload_n 1, 1) := by decide +kernel
theorem dc_N_accepts_1 : decode bc_N_accepts 1 = .ok (.sipush 1024, 3) := by decide +kernel
theorem dc_N_accepts_4 : decode bc_N_accepts 4 = .ok (.if_icmp .eq 15, 3) := by decide +kernel
theorem dc_N_accepts_7 : decode bc_N_accepts 7 = .ok (.iload_n 1, 1) := by decide +kernel
theorem dc_N_accepts_8 : decode bc_N_accepts 8 = .ok (.aload_n 0, 1) := by decide +kernel
theorem dc_N_accepts_9 : decode bc_N_accepts 9 = .ok (.getfield 9, 3) := by decide +kernel
theorem dc_N_accepts_12 : decode bc_N_accepts 12 = .ok (.getfield 21, 3) := by decide +kernel
theorem dc_N_accepts_15 : decode bc_N_accepts 15 = .ok (.iand, 1) := by decide +kernel
theorem dc_N_accepts_16 : decode bc_N_accepts 16 = .ok (.ifCond .eq 7, 3) := by decide +kernel
theorem dc_N_accepts_19 : decode bc_N_accepts 19 = .ok (.iconst 1, 1) := by decide +kernel
theorem dc_N_accepts_20 : decode bc_N_accepts 20 = .ok (.goto 4, 3) := by decide +kernel
theorem dc_N_accepts_23 : decode bc_N_accepts 23 = .ok (.iconst 0, 1) := by decide +kernel
theorem dc_N_accepts_24 : decode bc_N_accepts 24 = .ok (.ireturn, 1) := by decide +kernel
theorem dc_O_init_0 : decode bc_O_init 0 = .ok (.aload_n 0, 1) := by decide +kernel
theorem dc_O_init_1 : decode bc_O_init 1 = .ok (.invokespecial 1, 3) := by decide +kernel
theorem dc_O_init_4 : decode bc_O_init 4 = .ok (.aload_n 0, 1) := by decide +kernel
theorem dc_O_init_5 : decode bc_O_init 5 = .ok (.iload_n 1, 1) := by decide +kernel
theorem dc_O_init_6 : decode bc_O_init 6 = .ok (.putfield 7, 3) := by decide +kernel
theorem dc_O_init_9 : decode bc_O_init 9 = .ok (.aload_n 0, 1) := by decide +kernel
theorem dc_O_init_10 : decode bc_O_init 10 = .ok (.iload_n 2, 1) := by decide +kernel
theorem dc_O_init_11 : decode bc_O_init 11 = .ok (.putfield 13, 3) := by decide +kernel
theorem dc_O_init_14 : decode bc_O_init 14 = .ok (.return_, 1) := by decide +kernel
theorem dc_O_start_0 : decode bc_O_start 0 = .ok (.aload_n 0, 1) := by decide +kernel
theorem dc_O_start_1 : decode bc_O_start 1 = .ok (.getfield 13, 3) := by decide +kernel
theorem dc_O_start_4 : decode bc_O_start 4 = .ok (.ireturn, 1) := by decide +kernel
theorem dc_O_step_0 : decode bc_O_step 0 = .ok (.iload_n 1, 1) := by decide +kernel
theorem dc_O_step_1 : decode bc_O_step 1 = .ok (.ifCond .ne 18, 3) := by decide +kernel
theorem dc_O_step_4 : decode bc_O_step 4 = .ok (.aload_n 0, 1) := by decide +kernel
theorem dc_O_step_5 : decode bc_O_step 5 = .ok (.getfield 7, 3) := by decide +kernel
theorem dc_O_step_8 : decode bc_O_step 8 = .ok (.iload_n 2, 1) := by decide +kernel
theorem dc_O_step_9 : decode bc_O_step 9 = .ok (.ishr, 1) := by decide +kernel
theorem dc_O_step_10 : decode bc_O_step 10 = .ok (.iconst 1, 1) := by decide +kernel
theorem dc_O_step_11 : decode bc_O_step 11 = .ok (.iand, 1) := by decide +kernel
theorem dc_O_step_12 : decode bc_O_step 12 = .ok (.ifCond .eq 7, 3) := by decide +kernel
theorem dc_O_step_15 : decode bc_O_step 15 = .ok (.iconst 1, 1) := by decide +kernel
theorem dc_O_step_16 : decode bc_O_step 16 = .ok (.goto 4, 3) := by decide +kernel
theorem dc_O_step_19 : decode bc_O_step 19 = .ok (.iconst 2, 1) := by decide +kernel
theorem dc_O_step_20 : decode bc_O_step 20 = .ok (.ireturn, 1) := by decide +kernel
theorem dc_O_accepts_0 : decode bc_O_accepts 0 = .ok (.iload_n 1, 1) := by decide +kernel
theorem dc_O_accepts_1 : decode bc_O_accepts 1 = .ok (.iconst 1, 1) := by decide +kernel
theorem dc_O_accepts_2 : decode bc_O_accepts 2 = .ok (.if_icmp .ne 7, 3) := by decide +kernel
theorem dc_O_accepts_5 : decode bc_O_accepts 5 = .ok (.iconst 1, 1) := by decide +kernel
theorem dc_O_accepts_6 : decode bc_O_accepts 6 = .ok (.goto 4, 3) := by decide +kernel
theorem dc_O_accepts_9 : decode bc_O_accepts 9 = .ok (.iconst 0, 1) := by decide +kernel
theorem dc_O_accepts_10 : decode bc_O_accepts 10 = .ok (.ireturn, 1) := by decide +kernel
theorem dc_R_init_0 : decode bc_R_init 0 = .ok (.aload_n 0, 1) := by decide +kernel
theorem dc_R_init_1 : decode bc_R_init 1 = .ok (.invokespecial 1, 3) := by decide +kernel
theorem dc_R_init_4 : decode bc_R_init 4 = .ok (.aload_n 0, 1) := by decide +kernel
theorem dc_R_init_5 : decode bc_R_init 5 = .ok (.aload_n 1, 1) := by decide +kernel
theorem dc_R_init_6 : decode bc_R_init 6 = .ok (.putfield 7, 3) := by decide +kernel
theorem dc_R_init_9 : decode bc_R_init 9 = .ok (.aload_n 0, 1) := by decide +kernel
theorem dc_R_init_10 : decode bc_R_init 10 = .ok (.iload_n 2, 1) := by decide +kernel
theorem dc_R_init_11 : decode bc_R_init 11 = .ok (.putfield 13, 3) := by decide +kernel
theorem dc_R_init_14 : decode bc_R_init 14 = .ok (.aload_n 0, 1) := by decide +kernel
theorem dc_R_init_15 : decode bc_R_init 15 = .ok (.iload_n 3, 1) := by decide +kernel
theorem dc_R_init_16 : decode bc_R_init 16 = .ok (.putfield 17, 3) := by decide +kernel
theorem dc_R_init_19 : decode bc_R_init 19 = .ok (.return_, 1) := by decide +kernel
theorem dc_R_start_0 : decode bc_R_start 0 = .ok (.aload_n 0, 1) := by decide +kernel
theorem dc_R_start_1 : decode bc_R_start 1 = .ok (.getfield 13, 3) := by decide +kernel
theorem dc_R_start_4 : decode bc_R_start 4 = .ok (.ireturn, 1) := by decide +kernel
theorem dc_R_step_0 : decode bc_R_step 0 = .ok (.aload_n 0, 1) := by decide +kernel
theorem dc_R_step_1 : decode bc_R_step 1 = .ok (.getfield 7, 3) := by decide +kernel
theorem dc_R_step_4 : decode bc_R_step 4 = .ok (.iload_n 1, 1) := by decide +kernel
theorem dc_R_step_5 : decode bc_R_step 5 = .ok (.iload_n 2, 1) := by decide +kernel
theorem dc_R_step_6 : decode bc_R_step 6 = .ok (.invokevirtual 20, 3) := by decide +kernel
theorem dc_R_step_9 : decode bc_R_step 9 = .ok (.ireturn, 1) := by decide +kernel
theorem dc_R_accepts_0 : decode bc_R_accepts 0 = .ok (.aload_n 0, 1) := by decide +kernel
theorem dc_R_accepts_1 : decode bc_R_accepts 1 = .ok (.getfield 17, 3) := by decide +kernel
theorem dc_R_accepts_4 : decode bc_R_accepts 4 = .ok (.iload_n 1, 1) := by decide +kernel
theorem dc_R_accepts_5 : decode bc_R_accepts 5 = .ok (.ishr, 1) := by decide +kernel
theorem dc_R_accepts_6 : decode bc_R_accepts 6 = .ok (.iconst 1, 1) := by decide +kernel
theorem dc_R_accepts_7 : decode bc_R_accepts 7 = .ok (.iand, 1) := by decide +kernel
theorem dc_R_accepts_8 : decode bc_R_accepts 8 = .ok (.ifCond .eq 7, 3) := by decide +kernel
theorem dc_R_accepts_11 : decode bc_R_accepts 11 = .ok (.iconst 1, 1) := by decide +kernel
theorem dc_R_accepts_12 : decode bc_R_accepts 12 = .ok (.goto 4, 3) := by decide +kernel
theorem dc_R_accepts_15 : decode bc_R_accepts 15 = .ok (.iconst 0, 1) := by decide +kernel
theorem dc_R_accepts_16 : decode bc_R_accepts 16 = .ok (.ireturn, 1) := by decide +kernel
theorem dc_S_init_0 : decode bc_S_init 0 = .ok (.aload_n 0, 1) := by decide +kernel
theorem dc_S_init_1 : decode bc_S_init 1 = .ok (.invokespecial 3, 3) := by decide +kernel
theorem dc_S_init_4 : decode bc_S_init 4 = .ok (.aload_n 0, 1) := by decide +kernel
theorem dc_S_init_5 : decode bc_S_init 5 = .ok (.new 9, 3) := by decide +kernel
theorem dc_S_init_8 : decode bc_S_init 8 = .ok (.dup, 1) := by decide +kernel
theorem dc_S_init_9 : decode bc_S_init 9 = .ok (.iconst 0, 1) := by decide +kernel
theorem dc_S_init_10 : decode bc_S_init 10 = .ok (.iconst 0, 1) := by decide +kernel
theorem dc_S_init_11 : decode bc_S_init 11 = .ok (.invokespecial 11, 3) := by decide +kernel
theorem dc_S_init_14 : decode bc_S_init 14 = .ok (.putfield 14, 3) := by decide +kernel
theorem dc_S_init_17 : decode bc_S_init 17 = .ok (.aload_n 0, 1) := by decide +kernel
theorem dc_S_init_18 : decode bc_S_init 18 = .ok (.sipush 10240, 3) := by decide +kernel
theorem dc_S_init_21 : decode bc_S_init 21 = .ok (.newarray .int, 2) := by decide +kernel
theorem dc_S_init_23 : decode bc_S_init 23 = .ok (.putfield 20, 3) := by decide +kernel
theorem dc_S_init_26 : decode bc_S_init 26 = .ok (.aload_n 0, 1) := by decide +kernel
theorem dc_S_init_27 : decode bc_S_init 27 = .ok (.sipush 10240, 3) := by decide +kernel
theorem dc_S_init_30 : decode bc_S_init 30 = .ok (.newarray .int, 2) := by decide +kernel
theorem dc_S_init_32 : decode bc_S_init 32 = .ok (.putfield 24, 3) := by decide +kernel
theorem dc_S_init_35 : decode bc_S_init 35 = .ok (.aload_n 0, 1) := by decide +kernel
theorem dc_S_init_36 : decode bc_S_init 36 = .ok (.sipush 30720, 3) := by decide +kernel
theorem dc_S_init_39 : decode bc_S_init 39 = .ok (.newarray .int, 2) := by decide +kernel
theorem dc_S_init_41 : decode bc_S_init 41 = .ok (.putfield 27, 3) := by decide +kernel
theorem dc_S_init_44 : decode bc_S_init 44 = .ok (.aload_n 0, 1) := by decide +kernel
theorem dc_S_init_45 : decode bc_S_init 45 = .ok (.sipush 10240, 3) := by decide +kernel
theorem dc_S_init_48 : decode bc_S_init 48 = .ok (.newarray .int, 2) := by decide +kernel
theorem dc_S_init_50 : decode bc_S_init 50 = .ok (.putfield 30, 3) := by decide +kernel
theorem dc_S_init_53 : decode bc_S_init 53 = .ok (.aload_n 0, 1) := by decide +kernel
theorem dc_S_init_54 : decode bc_S_init 54 = .ok (.sipush 10240, 3) := by decide +kernel
theorem dc_S_init_57 : decode bc_S_init 57 = .ok (.newarray .int, 2) := by decide +kernel
theorem dc_S_init_59 : decode bc_S_init 59 = .ok (.putfield 33, 3) := by decide +kernel
theorem dc_S_init_62 : decode bc_S_init 62 = .ok (.aload_n 0, 1) := by decide +kernel
theorem dc_S_init_63 : decode bc_S_init 63 = .ok (.bipush 10, 2) := by decide +kernel
theorem dc_S_init_65 : decode bc_S_init 65 = .ok (.newarray .int, 2) := by decide +kernel
theorem dc_S_init_67 : decode bc_S_init 67 = .ok (.putfield 36, 3) := by decide +kernel
theorem dc_S_init_70 : decode bc_S_init 70 = .ok (.aload_n 0, 1) := by decide +kernel
theorem dc_S_init_71 : decode bc_S_init 71 = .ok (.bipush 10, 2) := by decide +kernel
theorem dc_S_init_73 : decode bc_S_init 73 = .ok (.newarray .int, 2) := by decide +kernel
theorem dc_S_init_75 : decode bc_S_init 75 = .ok (.putfield 39, 3) := by decide +kernel
theorem dc_S_init_78 : decode bc_S_init 78 = .ok (.aload_n 0, 1) := by decide +kernel
theorem dc_S_init_79 : decode bc_S_init 79 = .ok (.bipush 10, 2) := by decide +kernel
theorem dc_S_init_81 : decode bc_S_init 81 = .ok (.newarray .int, 2) := by decide +kernel
theorem dc_S_init_83 : decode bc_S_init 83 = .ok (.putfield 42, 3) := by decide +kernel
theorem dc_S_init_86 : decode bc_S_init 86 = .ok (.aload_n 0, 1) := by decide +kernel
theorem dc_S_init_87 : decode bc_S_init 87 = .ok (.bipush 10, 2) := by decide +kernel
theorem dc_S_init_89 : decode bc_S_init 89 = .ok (.newarray .int, 2) := by decide +kernel
theorem dc_S_init_91 : decode bc_S_init 91 = .ok (.putfield 45, 3) := by decide +kernel
theorem dc_S_init_94 : decode bc_S_init 94 = .ok (.aload_n 0, 1) := by decide +kernel
theorem dc_S_init_95 : decode bc_S_init 95 = .ok (.bipush 10, 2) := by decide +kernel
theorem dc_S_init_97 : decode bc_S_init 97 = .ok (.newarray .int, 2) := by decide +kernel
theorem dc_S_init_99 : decode bc_S_init 99 = .ok (.putfield 48, 3) := by decide +kernel
theorem dc_S_init_102 : decode bc_S_init 102 = .ok (.return_, 1) := by decide +kernel
theorem dc_S_begin_0 : decode bc_S_begin 0 = .ok (.iconst 0, 1) := by decide +kernel
theorem dc_S_begin_1 : decode bc_S_begin 1 = .ok (.istore_n 2, 1) := by decide +kernel
theorem dc_S_begin_2 : decode bc_S_begin 2 = .ok (.iload_n 2, 1) := by decide +kernel
theorem dc_S_begin_3 : decode bc_S_begin 3 = .ok (.aload_n 0, 1) := by decide +kernel
theorem dc_S_begin_4 : decode bc_S_begin 4 = .ok (.getfield 51, 3) := by decide +kernel
theorem dc_S_begin_7 : decode bc_S_begin 7 = .ok (.if_icmp .ge 21, 3) := by decide +kernel
theorem dc_S_begin_10 : decode bc_S_begin 10 = .ok (.aload_n 0, 1) := by decide +kernel
theorem dc_S_begin_11 : decode bc_S_begin 11 = .ok (.getfield 20, 3) := by decide +kernel
theorem dc_S_begin_14 : decode bc_S_begin 14 = .ok (.aload_n 0, 1) := by decide +kernel
theorem dc_S_begin_15 : decode bc_S_begin 15 = .ok (.getfield 24, 3) := by decide +kernel
theorem dc_S_begin_18 : decode bc_S_begin 18 = .ok (.iload_n 2, 1) := by decide +kernel
theorem dc_S_begin_19 : decode bc_S_begin 19 = .ok (.iaload, 1) := by decide +kernel
theorem dc_S_begin_20 : decode bc_S_begin 20 = .ok (.iconst 0, 1) := by decide +kernel
theorem dc_S_begin_21 : decode bc_S_begin 21 = .ok (.iastore, 1) := by decide +kernel
theorem dc_S_begin_22 : decode bc_S_begin 22 = .ok (.iinc 2 1, 3) := by decide +kernel
theorem dc_S_begin_25 : decode bc_S_begin 25 = .ok (.goto (-23), 3) := by decide +kernel
theorem dc_S_begin_28 : decode bc_S_begin 28 = .ok (.aload_n 0, 1) := by decide +kernel
theorem dc_S_begin_29 : decode bc_S_begin 29 = .ok (.aload_n 1, 1) := by decide +kernel
theorem dc_S_begin_30 : decode bc_S_begin 30 = .ok (.putfield 14, 3) := by decide +kernel
theorem dc_S_begin_33 : decode bc_S_begin 33 = .ok (.aload_n 0, 1) := by decide +kernel
theorem dc_S_begin_34 : decode bc_S_begin 34 = .ok (.iconst 0, 1) := by decide +kernel
theorem dc_S_begin_35 : decode bc_S_begin 35 = .ok (.putfield 51, 3) := by decide +kernel
theorem dc_S_begin_38 : decode bc_S_begin 38 = .ok (.aload_n 0, 1) := by decide +kernel
theorem dc_S_begin_39 : decode bc_S_begin 39 = .ok (.iconst 1, 1) := by decide +kernel
theorem dc_S_begin_40 : decode bc_S_begin 40 = .ok (.putfield 55, 3) := by decide +kernel
theorem dc_S_begin_43 : decode bc_S_begin 43 = .ok (.aload_n 0, 1) := by decide +kernel
theorem dc_S_begin_44 : decode bc_S_begin 44 = .ok (.iconst 0, 1) := by decide +kernel
theorem dc_S_begin_45 : decode bc_S_begin 45 = .ok (.putfield 58, 3) := by decide +kernel
theorem dc_S_begin_48 : decode bc_S_begin 48 = .ok (.aload_n 0, 1) := by decide +kernel
theorem dc_S_begin_49 : decode bc_S_begin 49 = .ok (.aload_n 0, 1) := by decide +kernel
theorem dc_S_begin_50 : decode bc_S_begin 50 = .ok (.getfield 14, 3) := by decide +kernel
theorem dc_S_begin_53 : decode bc_S_begin 53 = .ok (.invokevirtual 61, 3) := by decide +kernel
theorem dc_S_begin_56 : decode bc_S_begin 56 = .ok (.invokevirtual 67, 3) := by decide +kernel
theorem dc_S_begin_59 : decode bc_S_begin 59 = .ok (.pop, 1) := by decide +kernel
theorem dc_S_begin_60 : decode bc_S_begin 60 = .ok (.return_, 1) := by decide +kernel
theorem dc_S_meetsAnEnd_0 : decode bc_S_meetsAnEnd 0 = .ok (.iconst 0, 1) := by decide +kernel
theorem dc_S_meetsAnEnd_1 : decode bc_S_meetsAnEnd 1 = .ok (.istore_n 1, 1) := by decide +kernel
theorem dc_S_meetsAnEnd_2 : decode bc_S_meetsAnEnd 2 = .ok (.iload_n 1, 1) := by decide +kernel
theorem dc_S_meetsAnEnd_3 : decode bc_S_meetsAnEnd 3 = .ok (.aload_n 0, 1) := by decide +kernel
theorem dc_S_meetsAnEnd_4 : decode bc_S_meetsAnEnd 4 = .ok (.getfield 51, 3) := by decide +kernel
theorem dc_S_meetsAnEnd_7 : decode bc_S_meetsAnEnd 7 = .ok (.if_icmp .ge 54, 3) := by decide +kernel
theorem dc_S_meetsAnEnd_10 : decode bc_S_meetsAnEnd 10 = .ok (.iload_n 1, 1) := by decide +kernel
theorem dc_S_meetsAnEnd_11 : decode bc_S_meetsAnEnd 11 = .ok (.sipush 10240, 3) := by decide +kernel
theorem dc_S_meetsAnEnd_14 : decode bc_S_meetsAnEnd 14 = .ok (.if_icmp .ge 47, 3) := by decide +kernel
theorem dc_S_meetsAnEnd_17 : decode bc_S_meetsAnEnd 17 = .ok (.aload_n 0, 1) := by decide +kernel
theorem dc_S_meetsAnEnd_18 : decode bc_S_meetsAnEnd 18 = .ok (.getfield 14, 3) := by decide +kernel
theorem dc_S_meetsAnEnd_21 : decode bc_S_meetsAnEnd 21 = .ok (.aload_n 0, 1) := by decide +kernel
theorem dc_S_meetsAnEnd_22 : decode bc_S_meetsAnEnd 22 = .ok (.getfield 24, 3) := by decide +kernel
theorem dc_S_meetsAnEnd_25 : decode bc_S_meetsAnEnd 25 = .ok (.iload_n 1, 1) := by decide +kernel
theorem dc_S_meetsAnEnd_26 : decode bc_S_meetsAnEnd 26 = .ok (.iaload, 1) := by decide +kernel
theorem dc_S_meetsAnEnd_27 : decode bc_S_meetsAnEnd 27 = .ok (.invokevirtual 71, 3) := by decide +kernel
theorem dc_S_meetsAnEnd_30 : decode bc_S_meetsAnEnd 30 = .ok (.ifCond .eq 5, 3) := by decide +kernel
theorem dc_S_meetsAnEnd_33 : decode bc_S_meetsAnEnd 33 = .ok (.iconst 1, 1) := by decide +kernel
theorem dc_S_meetsAnEnd_34 : decode bc_S_meetsAnEnd 34 = .ok (.ireturn, 1) := by decide +kernel
theorem dc_S_meetsAnEnd_35 : decode bc_S_meetsAnEnd 35 = .ok (.iconst 0, 1) := by decide +kernel
theorem dc_S_meetsAnEnd_36 : decode bc_S_meetsAnEnd 36 = .ok (.istore_n 2, 1) := by decide +kernel
theorem dc_S_meetsAnEnd_37 : decode bc_S_meetsAnEnd 37 = .ok (.iload_n 2, 1) := by decide +kernel
theorem dc_S_meetsAnEnd_38 : decode bc_S_meetsAnEnd 38 = .ok (.iconst 3, 1) := by decide +kernel
theorem dc_S_meetsAnEnd_39 : decode bc_S_meetsAnEnd 39 = .ok (.if_icmp .ge 16, 3) := by decide +kernel
theorem dc_S_meetsAnEnd_42 : decode bc_S_meetsAnEnd 42 = .ok (.aload_n 0, 1) := by decide +kernel
theorem dc_S_meetsAnEnd_43 : decode bc_S_meetsAnEnd 43 = .ok (.iload_n 1, 1) := by decide +kernel
theorem dc_S_meetsAnEnd_44 : decode bc_S_meetsAnEnd 44 = .ok (.iload_n 2, 1) := by decide +kernel
theorem dc_S_meetsAnEnd_45 : decode bc_S_meetsAnEnd 45 = .ok (.invokevirtual 75, 3) := by decide +kernel
theorem dc_S_meetsAnEnd_48 : decode bc_S_meetsAnEnd 48 = .ok (.pop, 1) := by decide +kernel
theorem dc_S_meetsAnEnd_49 : decode bc_S_meetsAnEnd 49 = .ok (.iinc 2 1, 3) := by decide +kernel
theorem dc_S_meetsAnEnd_52 : decode bc_S_meetsAnEnd 52 = .ok (.goto (-15), 3) := by decide +kernel
theorem dc_S_meetsAnEnd_55 : decode bc_S_meetsAnEnd 55 = .ok (.iinc 1 1, 3) := by decide +kernel
theorem dc_S_meetsAnEnd_58 : decode bc_S_meetsAnEnd 58 = .ok (.goto (-56), 3) := by decide +kernel
theorem dc_S_meetsAnEnd_61 : decode bc_S_meetsAnEnd 61 = .ok (.iconst 0, 1) := by decide +kernel
theorem dc_S_meetsAnEnd_62 : decode bc_S_meetsAnEnd 62 = .ok (.ireturn, 1) := by decide +kernel
theorem dc_S_scan_0 : decode bc_S_scan 0 = .ok (.iconst 0, 1) := by decide +kernel
theorem dc_S_scan_1 : decode bc_S_scan 1 = .ok (.istore_n 1, 1) := by decide +kernel
theorem dc_S_scan_2 : decode bc_S_scan 2 = .ok (.iload_n 1, 1) := by decide +kernel
theorem dc_S_scan_3 : decode bc_S_scan 3 = .ok (.aload_n 0, 1) := by decide +kernel
theorem dc_S_scan_4 : decode bc_S_scan 4 = .ok (.getfield 58, 3) := by decide +kernel
theorem dc_S_scan_7 : decode bc_S_scan 7 = .ok (.if_icmp .ge 20, 3) := by decide +kernel
theorem dc_S_scan_10 : decode bc_S_scan 10 = .ok (.aload_n 0, 1) := by decide +kernel
theorem dc_S_scan_11 : decode bc_S_scan 11 = .ok (.aload_n 0, 1) := by decide +kernel
theorem dc_S_scan_12 : decode bc_S_scan 12 = .ok (.getfield 42, 3) := by decide +kernel
theorem dc_S_scan_15 : decode bc_S_scan 15 = .ok (.iload_n 1, 1) := by decide +kernel
theorem dc_S_scan_16 : decode bc_S_scan 16 = .ok (.iaload, 1) := by decide +kernel
theorem dc_S_scan_17 : decode bc_S_scan 17 = .ok (.invokevirtual 79, 3) := by decide +kernel
theorem dc_S_scan_20 : decode bc_S_scan 20 = .ok (.pop, 1) := by decide +kernel
theorem dc_S_scan_21 : decode bc_S_scan 21 = .ok (.iinc 1 1, 3) := by decide +kernel
theorem dc_S_scan_24 : decode bc_S_scan 24 = .ok (.goto (-22), 3) := by decide +kernel
theorem dc_S_scan_27 : decode bc_S_scan 27 = .ok (.iconst 0, 1) := by decide +kernel
theorem dc_S_scan_28 : decode bc_S_scan 28 = .ok (.istore_n 1, 1) := by decide +kernel
theorem dc_S_scan_29 : decode bc_S_scan 29 = .ok (.iload_n 1, 1) := by decide +kernel
theorem dc_S_scan_30 : decode bc_S_scan 30 = .ok (.aload_n 0, 1) := by decide +kernel
theorem dc_S_scan_31 : decode bc_S_scan 31 = .ok (.getfield 51, 3) := by decide +kernel
theorem dc_S_scan_34 : decode bc_S_scan 34 = .ok (.if_icmp .ge 108, 3) := by decide +kernel
theorem dc_S_scan_37 : decode bc_S_scan 37 = .ok (.iload_n 1, 1) := by decide +kernel
theorem dc_S_scan_38 : decode bc_S_scan 38 = .ok (.sipush 10240, 3) := by decide +kernel
theorem dc_S_scan_41 : decode bc_S_scan 41 = .ok (.if_icmp .ge 101, 3) := by decide +kernel
theorem dc_S_scan_44 : decode bc_S_scan 44 = .ok (.aload_n 0, 1) := by decide +kernel
theorem dc_S_scan_45 : decode bc_S_scan 45 = .ok (.aload_n 0, 1) := by decide +kernel
theorem dc_S_scan_46 : decode bc_S_scan 46 = .ok (.iload_n 1, 1) := by decide +kernel
theorem dc_S_scan_47 : decode bc_S_scan 47 = .ok (.invokevirtual 79, 3) := by decide +kernel
theorem dc_S_scan_50 : decode bc_S_scan 50 = .ok (.invokevirtual 82, 3) := by decide +kernel
theorem dc_S_scan_53 : decode bc_S_scan 53 = .ok (.istore_n 2, 1) := by decide +kernel
theorem dc_S_scan_54 : decode bc_S_scan 54 = .ok (.iload_n 2, 1) := by decide +kernel
theorem dc_S_scan_55 : decode bc_S_scan 55 = .ok (.aload_n 0, 1) := by decide +kernel
theorem dc_S_scan_56 : decode bc_S_scan 56 = .ok (.getfield 58, 3) := by decide +kernel
theorem dc_S_scan_59 : decode bc_S_scan 59 = .ok (.if_icmp .ne 13, 3) := by decide +kernel
theorem dc_S_scan_62 : decode bc_S_scan 62 = .ok (.aload_n 0, 1) := by decide +kernel
theorem dc_S_scan_63 : decode bc_S_scan 63 = .ok (.iload_n 1, 1) := by decide +kernel
theorem dc_S_scan_64 : decode bc_S_scan 64 = .ok (.invokevirtual 85, 3) := by decide +kernel
theorem dc_S_scan_67 : decode bc_S_scan 67 = .ok (.ifCond .ne 5, 3) := by decide +kernel
theorem dc_S_scan_70 : decode bc_S_scan 70 = .ok (.iconst 2, 1) := by decide +kernel
theorem dc_S_scan_71 : decode bc_S_scan 71 = .ok (.ireturn, 1) := by decide +kernel
theorem dc_S_scan_72 : decode bc_S_scan 72 = .ok (.iconst 0, 1) := by decide +kernel
theorem dc_S_scan_73 : decode bc_S_scan 73 = .ok (.istore_n 3, 1) := by decide +kernel
theorem dc_S_scan_74 : decode bc_S_scan 74 = .ok (.iload_n 3, 1) := by decide +kernel
theorem dc_S_scan_75 : decode bc_S_scan 75 = .ok (.iconst 3, 1) := by decide +kernel
theorem dc_S_scan_76 : decode bc_S_scan 76 = .ok (.if_icmp .ge 60, 3) := by decide +kernel
theorem dc_S_scan_79 : decode bc_S_scan 79 = .ok (.aload_n 0, 1) := by decide +kernel
theorem dc_S_scan_80 : decode bc_S_scan 80 = .ok (.aload_n 0, 1) := by decide +kernel
theorem dc_S_scan_81 : decode bc_S_scan 81 = .ok (.iload_n 1, 1) := by decide +kernel
theorem dc_S_scan_82 : decode bc_S_scan 82 = .ok (.iload_n 3, 1) := by decide +kernel
theorem dc_S_scan_83 : decode bc_S_scan 83 = .ok (.invokevirtual 75, 3) := by decide +kernel
theorem dc_S_scan_86 : decode bc_S_scan 86 = .ok (.invokevirtual 79, 3) := by decide +kernel
theorem dc_S_scan_89 : decode bc_S_scan 89 = .ok (.istore 4, 2) := by decide +kernel
theorem dc_S_scan_91 : decode bc_S_scan 91 = .ok (.aload_n 0, 1) := by decide +kernel
theorem dc_S_scan_92 : decode bc_S_scan 92 = .ok (.aload_n 0, 1) := by decide +kernel
theorem dc_S_scan_93 : decode bc_S_scan 93 = .ok (.aload_n 0, 1) := by decide +kernel
theorem dc_S_scan_94 : decode bc_S_scan 94 = .ok (.getfield 42, 3) := by decide +kernel
theorem dc_S_scan_97 : decode bc_S_scan 97 = .ok (.iload_n 2, 1) := by decide +kernel
theorem dc_S_scan_98 : decode bc_S_scan 98 = .ok (.iaload, 1) := by decide +kernel
theorem dc_S_scan_99 : decode bc_S_scan 99 = .ok (.iload_n 3, 1) := by decide +kernel
theorem dc_S_scan_100 : decode bc_S_scan 100 = .ok (.invokevirtual 75, 3) := by decide +kernel
theorem dc_S_scan_103 : decode bc_S_scan 103 = .ok (.invokevirtual 79, 3) := by decide +kernel
theorem dc_S_scan_106 : decode bc_S_scan 106 = .ok (.istore 5, 2) := by decide +kernel
theorem dc_S_scan_108 : decode bc_S_scan 108 = .ok (.iload 4, 2) := by decide +kernel
theorem dc_S_scan_110 : decode bc_S_scan 110 = .ok (.iload 5, 2) := by decide +kernel
theorem dc_S_scan_112 : decode bc_S_scan 112 = .ok (.if_icmp .eq 18, 3) := by decide +kernel
theorem dc_S_scan_115 : decode bc_S_scan 115 = .ok (.aload_n 0, 1) := by decide +kernel
theorem dc_S_scan_116 : decode bc_S_scan 116 = .ok (.iload_n 1, 1) := by decide +kernel
theorem dc_S_scan_117 : decode bc_S_scan 117 = .ok (.iload_n 3, 1) := by decide +kernel
theorem dc_S_scan_118 : decode bc_S_scan 118 = .ok (.iload 4, 2) := by decide +kernel
theorem dc_S_scan_120 : decode bc_S_scan 120 = .ok (.iload 5, 2) := by decide +kernel
theorem dc_S_scan_122 : decode bc_S_scan 122 = .ok (.ixor, 1) := by decide +kernel
theorem dc_S_scan_123 : decode bc_S_scan 123 = .ok (.invokestatic 88, 3) := by decide +kernel
theorem dc_S_scan_126 : decode bc_S_scan 126 = .ok (.invokevirtual 93, 3) := by decide +kernel
theorem dc_S_scan_129 : decode bc_S_scan 129 = .ok (.ireturn, 1) := by decide +kernel
theorem dc_S_scan_130 : decode bc_S_scan 130 = .ok (.iinc 3 1, 3) := by decide +kernel
theorem dc_S_scan_133 : decode bc_S_scan 133 = .ok (.goto (-59), 3) := by decide +kernel
theorem dc_S_scan_136 : decode bc_S_scan 136 = .ok (.iinc 1 1, 3) := by decide +kernel
theorem dc_S_scan_139 : decode bc_S_scan 139 = .ok (.goto (-110), 3) := by decide +kernel
theorem dc_S_scan_142 : decode bc_S_scan 142 = .ok (.iconst 0, 1) := by decide +kernel
theorem dc_S_scan_143 : decode bc_S_scan 143 = .ok (.ireturn, 1) := by decide +kernel
theorem dc_S_writeTo_0 : decode bc_S_writeTo 0 = .ok (.iconst 0, 1) := by decide +kernel
theorem dc_S_writeTo_1 : decode bc_S_writeTo 1 = .ok (.istore_n 2, 1) := by decide +kernel
theorem dc_S_writeTo_2 : decode bc_S_writeTo 2 = .ok (.iload_n 2, 1) := by decide +kernel
theorem dc_S_writeTo_3 : decode bc_S_writeTo 3 = .ok (.aload_n 0, 1) := by decide +kernel
theorem dc_S_writeTo_4 : decode bc_S_writeTo 4 = .ok (.getfield 58, 3) := by decide +kernel
theorem dc_S_writeTo_7 : decode bc_S_writeTo 7 = .ok (.if_icmp .ge 19, 3) := by decide +kernel
theorem dc_S_writeTo_10 : decode bc_S_writeTo 10 = .ok (.aload_n 0, 1) := by decide +kernel
theorem dc_S_writeTo_11 : decode bc_S_writeTo 11 = .ok (.getfield 45, 3) := by decide +kernel
theorem dc_S_writeTo_14 : decode bc_S_writeTo 14 = .ok (.iload_n 2, 1) := by decide +kernel
theorem dc_S_writeTo_15 : decode bc_S_writeTo 15 = .ok (.aload_n 0, 1) := by decide +kernel
theorem dc_S_writeTo_16 : decode bc_S_writeTo 16 = .ok (.getfield 58, 3) := by decide +kernel
theorem dc_S_writeTo_19 : decode bc_S_writeTo 19 = .ok (.iastore, 1) := by decide +kernel
theorem dc_S_writeTo_20 : decode bc_S_writeTo 20 = .ok (.iinc 2 1, 3) := by decide +kernel
theorem dc_S_writeTo_23 : decode bc_S_writeTo 23 = .ok (.goto (-21), 3) := by decide +kernel
theorem dc_S_writeTo_26 : decode bc_S_writeTo 26 = .ok (.iconst 1, 1) := by decide +kernel
theorem dc_S_writeTo_27 : decode bc_S_writeTo 27 = .ok (.istore_n 2, 1) := by decide +kernel
theorem dc_S_writeTo_28 : decode bc_S_writeTo 28 = .ok (.iconst 0, 1) := by decide +kernel
theorem dc_S_writeTo_29 : decode bc_S_writeTo 29 = .ok (.istore_n 3, 1) := by decide +kernel
theorem dc_S_writeTo_30 : decode bc_S_writeTo 30 = .ok (.aload_n 0, 1) := by decide +kernel
theorem dc_S_writeTo_31 : decode bc_S_writeTo 31 = .ok (.getfield 45, 3) := by decide +kernel
theorem dc_S_writeTo_34 : decode bc_S_writeTo 34 = .ok (.iconst 0, 1) := by decide +kernel
theorem dc_S_writeTo_35 : decode bc_S_writeTo 35 = .ok (.iconst 0, 1) := by decide +kernel
theorem dc_S_writeTo_36 : decode bc_S_writeTo 36 = .ok (.iastore, 1) := by decide +kernel
theorem dc_S_writeTo_37 : decode bc_S_writeTo 37 = .ok (.aload_n 0, 1) := by decide +kernel
theorem dc_S_writeTo_38 : decode bc_S_writeTo 38 = .ok (.getfield 48, 3) := by decide +kernel
theorem dc_S_writeTo_41 : decode bc_S_writeTo 41 = .ok (.iconst 0, 1) := by decide +kernel
theorem dc_S_writeTo_42 : decode bc_S_writeTo 42 = .ok (.iconst 0, 1) := by decide +kernel
theorem dc_S_writeTo_43 : decode bc_S_writeTo 43 = .ok (.iastore, 1) := by decide +kernel
theorem dc_S_writeTo_44 : decode bc_S_writeTo 44 = .ok (.iconst 0, 1) := by decide +kernel
theorem dc_S_writeTo_45 : decode bc_S_writeTo 45 = .ok (.istore 4, 2) := by decide +kernel
theorem dc_S_writeTo_47 : decode bc_S_writeTo 47 = .ok (.iload 4, 2) := by decide +kernel
theorem dc_S_writeTo_49 : decode bc_S_writeTo 49 = .ok (.iload_n 2, 1) := by decide +kernel
theorem dc_S_writeTo_50 : decode bc_S_writeTo 50 = .ok (.if_icmp .ge 133, 3) := by decide +kernel
theorem dc_S_writeTo_53 : decode bc_S_writeTo 53 = .ok (.iload 4, 2) := by decide +kernel
theorem dc_S_writeTo_55 : decode bc_S_writeTo 55 = .ok (.aload_n 0, 1) := by decide +kernel
theorem dc_S_writeTo_56 : decode bc_S_writeTo 56 = .ok (.getfield 58, 3) := by decide +kernel
theorem dc_S_writeTo_59 : decode bc_S_writeTo 59 = .ok (.if_icmp .ge 124, 3) := by decide +kernel
theorem dc_S_writeTo_62 : decode bc_S_writeTo 62 = .ok (.aload_n 0, 1) := by decide +kernel
theorem dc_S_writeTo_63 : decode bc_S_writeTo 63 = .ok (.getfield 42, 3) := by decide +kernel
theorem dc_S_writeTo_66 : decode bc_S_writeTo 66 = .ok (.aload_n 0, 1) := by decide +kernel
theorem dc_S_writeTo_67 : decode bc_S_writeTo 67 = .ok (.getfield 48, 3) := by decide +kernel
theorem dc_S_writeTo_70 : decode bc_S_writeTo 70 = .ok (.iload 4, 2) := by decide +kernel
theorem dc_S_writeTo_72 : decode bc_S_writeTo 72 = .ok (.iaload, 1) := by decide +kernel
theorem dc_S_writeTo_73 : decode bc_S_writeTo 73 = .ok (.iaload, 1) := by decide +kernel
theorem dc_S_writeTo_74 : decode bc_S_writeTo 74 = .ok (.istore 5, 2) := by decide +kernel
theorem dc_S_writeTo_76 : decode bc_S_writeTo 76 = .ok (.iload_n 3, 1) := by decide +kernel
theorem dc_S_writeTo_77 : decode bc_S_writeTo 77 = .ok (.aload_n 0, 1) := by decide +kernel
theorem dc_S_writeTo_78 : decode bc_S_writeTo 78 = .ok (.getfield 30, 3) := by decide +kernel
theorem dc_S_writeTo_81 : decode bc_S_writeTo 81 = .ok (.iload 5, 2) := by decide +kernel
theorem dc_S_writeTo_83 : decode bc_S_writeTo 83 = .ok (.iaload, 1) := by decide +kernel
theorem dc_S_writeTo_84 : decode bc_S_writeTo 84 = .ok (.iconst 1, 1) := by decide +kernel
theorem dc_S_writeTo_85 : decode bc_S_writeTo 85 = .ok (.iand, 1) := by decide +kernel
theorem dc_S_writeTo_86 : decode bc_S_writeTo 86 = .ok (.iload 4, 2) := by decide +kernel
theorem dc_S_writeTo_88 : decode bc_S_writeTo 88 = .ok (.ishl, 1) := by decide +kernel
theorem dc_S_writeTo_89 : decode bc_S_writeTo 89 = .ok (.ior, 1) := by decide +kernel
theorem dc_S_writeTo_90 : decode bc_S_writeTo 90 = .ok (.istore_n 3, 1) := by decide +kernel
theorem dc_S_writeTo_91 : decode bc_S_writeTo 91 = .ok (.iconst 0, 1) := by decide +kernel
theorem dc_S_writeTo_92 : decode bc_S_writeTo 92 = .ok (.istore 6, 2) := by decide +kernel
theorem dc_S_writeTo_94 : decode bc_S_writeTo 94 = .ok (.iload 6, 2) := by decide +kernel
theorem dc_S_writeTo_96 : decode bc_S_writeTo 96 = .ok (.iconst 3, 1) := by decide +kernel
theorem dc_S_writeTo_97 : decode bc_S_writeTo 97 = .ok (.if_icmp .ge 80, 3) := by decide +kernel
theorem dc_S_writeTo_100 : decode bc_S_writeTo 100 = .ok (.aload_n 0, 1) := by decide +kernel
theorem dc_S_writeTo_101 : decode bc_S_writeTo 101 = .ok (.aload_n 0, 1) := by decide +kernel
theorem dc_S_writeTo_102 : decode bc_S_writeTo 102 = .ok (.getfield 30, 3) := by decide +kernel
theorem dc_S_writeTo_105 : decode bc_S_writeTo 105 = .ok (.aload_n 0, 1) := by decide +kernel
theorem dc_S_writeTo_106 : decode bc_S_writeTo 106 = .ok (.iload 5, 2) := by decide +kernel
theorem dc_S_writeTo_108 : decode bc_S_writeTo 108 = .ok (.iload 6, 2) := by decide +kernel
theorem dc_S_writeTo_110 : decode bc_S_writeTo 110 = .ok (.invokevirtual 75, 3) := by decide +kernel
theorem dc_S_writeTo_113 : decode bc_S_writeTo 113 = .ok (.iaload, 1) := by decide +kernel
theorem dc_S_writeTo_114 : decode bc_S_writeTo 114 = .ok (.invokevirtual 82, 3) := by decide +kernel
theorem dc_S_writeTo_117 : decode bc_S_writeTo 117 = .ok (.istore 7, 2) := by decide +kernel
theorem dc_S_writeTo_119 : decode bc_S_writeTo 119 = .ok (.aload_n 0, 1) := by decide +kernel
theorem dc_S_writeTo_120 : decode bc_S_writeTo 120 = .ok (.getfield 45, 3) := by decide +kernel
theorem dc_S_writeTo_123 : decode bc_S_writeTo 123 = .ok (.iload 7, 2) := by decide +kernel
theorem dc_S_writeTo_125 : decode bc_S_writeTo 125 = .ok (.iaload, 1) := by decide +kernel
theorem dc_S_writeTo_126 : decode bc_S_writeTo 126 = .ok (.aload_n 0, 1) := by decide +kernel
theorem dc_S_writeTo_127 : decode bc_S_writeTo 127 = .ok (.getfield 58, 3) := by decide +kernel
theorem dc_S_writeTo_130 : decode bc_S_writeTo 130 = .ok (.if_icmp .ne 22, 3) := by decide +kernel
theorem dc_S_writeTo_133 : decode bc_S_writeTo 133 = .ok (.aload_n 0, 1) := by decide +kernel
theorem dc_S_writeTo_134 : decode bc_S_writeTo 134 = .ok (.getfield 45, 3) := by decide +kernel
theorem dc_S_writeTo_137 : decode bc_S_writeTo 137 = .ok (.iload 7, 2) := by decide +kernel
theorem dc_S_writeTo_139 : decode bc_S_writeTo 139 = .ok (.iload_n 2, 1) := by decide +kernel
theorem dc_S_writeTo_140 : decode bc_S_writeTo 140 = .ok (.iastore, 1) := by decide +kernel
theorem dc_S_writeTo_141 : decode bc_S_writeTo 141 = .ok (.aload_n 0, 1) := by decide +kernel
theorem dc_S_writeTo_142 : decode bc_S_writeTo 142 = .ok (.getfield 48, 3) := by decide +kernel
theorem dc_S_writeTo_145 : decode bc_S_writeTo 145 = .ok (.iload_n 2, 1) := by decide +kernel
theorem dc_S_writeTo_146 : decode bc_S_writeTo 146 = .ok (.iload 7, 2) := by decide +kernel
theorem dc_S_writeTo_148 : decode bc_S_writeTo 148 = .ok (.iastore, 1) := by decide +kernel
theorem dc_S_writeTo_149 : decode bc_S_writeTo 149 = .ok (.iinc 2 1, 3) := by decide +kernel
theorem dc_S_writeTo_152 : decode bc_S_writeTo 152 = .ok (.aload_n 1, 1) := by decide +kernel
theorem dc_S_writeTo_153 : decode bc_S_writeTo 153 = .ok (.getfield 97, 3) := by decide +kernel
theorem dc_S_writeTo_156 : decode bc_S_writeTo 156 = .ok (.iload 4, 2) := by decide +kernel
theorem dc_S_writeTo_158 : decode bc_S_writeTo 158 = .ok (.iconst 3, 1) := by decide +kernel
theorem dc_S_writeTo_159 : decode bc_S_writeTo 159 = .ok (.imul, 1) := by decide +kernel
theorem dc_S_writeTo_160 : decode bc_S_writeTo 160 = .ok (.iload 6, 2) := by decide +kernel
theorem dc_S_writeTo_162 : decode bc_S_writeTo 162 = .ok (.iadd, 1) := by decide +kernel
theorem dc_S_writeTo_163 : decode bc_S_writeTo 163 = .ok (.aload_n 0, 1) := by decide +kernel
theorem dc_S_writeTo_164 : decode bc_S_writeTo 164 = .ok (.getfield 45, 3) := by decide +kernel
theorem dc_S_writeTo_167 : decode bc_S_writeTo 167 = .ok (.iload 7, 2) := by decide +kernel
theorem dc_S_writeTo_169 : decode bc_S_writeTo 169 = .ok (.iaload, 1) := by decide +kernel
theorem dc_S_writeTo_170 : decode bc_S_writeTo 170 = .ok (.iastore, 1) := by decide +kernel
theorem dc_S_writeTo_171 : decode bc_S_writeTo 171 = .ok (.iinc 6 1, 3) := by decide +kernel
theorem dc_S_writeTo_174 : decode bc_S_writeTo 174 = .ok (.goto (-80), 3) := by decide +kernel
theorem dc_S_writeTo_177 : decode bc_S_writeTo 177 = .ok (.iinc 4 1, 3) := by decide +kernel
theorem dc_S_writeTo_180 : decode bc_S_writeTo 180 = .ok (.goto (-133), 3) := by decide +kernel
theorem dc_S_writeTo_183 : decode bc_S_writeTo 183 = .ok (.aload_n 1, 1) := by decide +kernel
theorem dc_S_writeTo_184 : decode bc_S_writeTo 184 = .ok (.aload_n 0, 1) := by decide +kernel
theorem dc_S_writeTo_185 : decode bc_S_writeTo 185 = .ok (.getfield 58, 3) := by decide +kernel
theorem dc_S_writeTo_188 : decode bc_S_writeTo 188 = .ok (.putfield 100, 3) := by decide +kernel
theorem dc_S_writeTo_191 : decode bc_S_writeTo 191 = .ok (.aload_n 1, 1) := by decide +kernel
theorem dc_S_writeTo_192 : decode bc_S_writeTo 192 = .ok (.iload_n 3, 1) := by decide +kernel
theorem dc_S_writeTo_193 : decode bc_S_writeTo 193 = .ok (.putfield 103, 3) := by decide +kernel
theorem dc_S_writeTo_196 : decode bc_S_writeTo 196 = .ok (.aload_n 1, 1) := by decide +kernel
theorem dc_S_writeTo_197 : decode bc_S_writeTo 197 = .ok (.invokevirtual 106, 3) := by decide +kernel
theorem dc_S_writeTo_200 : decode bc_S_writeTo 200 = .ok (.return_, 1) := by decide +kernel
theorem dc_S_split_0 : decode bc_S_split 0 = .ok (.aload_n 0, 1) := by decide +kernel
theorem dc_S_split_1 : decode bc_S_split 1 = .ok (.iload_n 1, 1) := by decide +kernel
theorem dc_S_split_2 : decode bc_S_split 2 = .ok (.invokevirtual 85, 3) := by decide +kernel
theorem dc_S_split_5 : decode bc_S_split 5 = .ok (.ifCond .ne 5, 3) := by decide +kernel
theorem dc_S_split_8 : decode bc_S_split 8 = .ok (.iconst 2, 1) := by decide +kernel
theorem dc_S_split_9 : decode bc_S_split 9 = .ok (.ireturn, 1) := by decide +kernel
theorem dc_S_split_10 : decode bc_S_split 10 = .ok (.aload_n 0, 1) := by decide +kernel
theorem dc_S_split_11 : decode bc_S_split 11 = .ok (.getfield 36, 3) := by decide +kernel
theorem dc_S_split_14 : decode bc_S_split 14 = .ok (.aload_n 0, 1) := by decide +kernel
theorem dc_S_split_15 : decode bc_S_split 15 = .ok (.getfield 55, 3) := by decide +kernel
theorem dc_S_split_18 : decode bc_S_split 18 = .ok (.iload_n 2, 1) := by decide +kernel
theorem dc_S_split_19 : decode bc_S_split 19 = .ok (.iastore, 1) := by decide +kernel
theorem dc_S_split_20 : decode bc_S_split 20 = .ok (.aload_n 0, 1) := by decide +kernel
theorem dc_S_split_21 : decode bc_S_split 21 = .ok (.getfield 39, 3) := by decide +kernel
theorem dc_S_split_24 : decode bc_S_split 24 = .ok (.aload_n 0, 1) := by decide +kernel
theorem dc_S_split_25 : decode bc_S_split 25 = .ok (.getfield 55, 3) := by decide +kernel
theorem dc_S_split_28 : decode bc_S_split 28 = .ok (.iload_n 3, 1) := by decide +kernel
theorem dc_S_split_29 : decode bc_S_split 29 = .ok (.iastore, 1) := by decide +kernel
theorem dc_S_split_30 : decode bc_S_split 30 = .ok (.aload_n 0, 1) := by decide +kernel
theorem dc_S_split_31 : decode bc_S_split 31 = .ok (.dup, 1) := by decide +kernel
theorem dc_S_split_32 : decode bc_S_split 32 = .ok (.getfield 55, 3) := by decide +kernel
theorem dc_S_split_35 : decode bc_S_split 35 = .ok (.iconst 1, 1) := by decide +kernel
theorem dc_S_split_36 : decode bc_S_split 36 = .ok (.iadd, 1) := by decide +kernel
theorem dc_S_split_37 : decode bc_S_split 37 = .ok (.putfield 55, 3) := by decide +kernel
theorem dc_S_split_40 : decode bc_S_split 40 = .ok (.iconst 1, 1) := by decide +kernel
theorem dc_S_split_41 : decode bc_S_split 41 = .ok (.ireturn, 1) := by decide +kernel
theorem dc_S_addKind_0 : decode bc_S_addKind 0 = .ok (.aload_n 0, 1) := by decide +kernel
theorem dc_S_addKind_1 : decode bc_S_addKind 1 = .ok (.getfield 58, 3) := by decide +kernel
theorem dc_S_addKind_4 : decode bc_S_addKind 4 = .ok (.bipush 10, 2) := by decide +kernel
theorem dc_S_addKind_6 : decode bc_S_addKind 6 = .ok (.if_icmp .lt 5, 3) := by decide +kernel
theorem dc_S_addKind_9 : decode bc_S_addKind 9 = .ok (.iconst 0, 1) := by decide +kernel
theorem dc_S_addKind_10 : decode bc_S_addKind 10 = .ok (.ireturn, 1) := by decide +kernel
theorem dc_S_addKind_11 : decode bc_S_addKind 11 = .ok (.aload_n 0, 1) := by decide +kernel
theorem dc_S_addKind_12 : decode bc_S_addKind 12 = .ok (.getfield 42, 3) := by decide +kernel
theorem dc_S_addKind_15 : decode bc_S_addKind 15 = .ok (.aload_n 0, 1) := by decide +kernel
theorem dc_S_addKind_16 : decode bc_S_addKind 16 = .ok (.getfield 58, 3) := by decide +kernel
theorem dc_S_addKind_19 : decode bc_S_addKind 19 = .ok (.iload_n 1, 1) := by decide +kernel
theorem dc_S_addKind_20 : decode bc_S_addKind 20 = .ok (.iastore, 1) := by decide +kernel
theorem dc_S_addKind_21 : decode bc_S_addKind 21 = .ok (.aload_n 0, 1) := by decide +kernel
theorem dc_S_addKind_22 : decode bc_S_addKind 22 = .ok (.dup, 1) := by decide +kernel
theorem dc_S_addKind_23 : decode bc_S_addKind 23 = .ok (.getfield 58, 3) := by decide +kernel
theorem dc_S_addKind_26 : decode bc_S_addKind 26 = .ok (.iconst 1, 1) := by decide +kernel
theorem dc_S_addKind_27 : decode bc_S_addKind 27 = .ok (.iadd, 1) := by decide +kernel
theorem dc_S_addKind_28 : decode bc_S_addKind 28 = .ok (.putfield 58, 3) := by decide +kernel
theorem dc_S_addKind_31 : decode bc_S_addKind 31 = .ok (.iconst 1, 1) := by decide +kernel
theorem dc_S_addKind_32 : decode bc_S_addKind 32 = .ok (.ireturn, 1) := by decide +kernel
theorem dc_S_kindWith_0 : decode bc_S_kindWith 0 = .ok (.iconst 0, 1) := by decide +kernel
theorem dc_S_kindWith_1 : decode bc_S_kindWith 1 = .ok (.istore_n 2, 1) := by decide +kernel
theorem dc_S_kindWith_2 : decode bc_S_kindWith 2 = .ok (.iload_n 2, 1) := by decide +kernel
theorem dc_S_kindWith_3 : decode bc_S_kindWith 3 = .ok (.aload_n 0, 1) := by decide +kernel
theorem dc_S_kindWith_4 : decode bc_S_kindWith 4 = .ok (.getfield 58, 3) := by decide +kernel
theorem dc_S_kindWith_7 : decode bc_S_kindWith 7 = .ok (.if_icmp .ge 24, 3) := by decide +kernel
theorem dc_S_kindWith_10 : decode bc_S_kindWith 10 = .ok (.aload_n 0, 1) := by decide +kernel
theorem dc_S_kindWith_11 : decode bc_S_kindWith 11 = .ok (.getfield 30, 3) := by decide +kernel
theorem dc_S_kindWith_14 : decode bc_S_kindWith 14 = .ok (.aload_n 0, 1) := by decide +kernel
theorem dc_S_kindWith_15 : decode bc_S_kindWith 15 = .ok (.getfield 42, 3) := by decide +kernel
theorem dc_S_kindWith_18 : decode bc_S_kindWith 18 = .ok (.iload_n 2, 1) := by decide +kernel
theorem dc_S_kindWith_19 : decode bc_S_kindWith 19 = .ok (.iaload, 1) := by decide +kernel
theorem dc_S_kindWith_20 : decode bc_S_kindWith 20 = .ok (.iaload, 1) := by decide +kernel
theorem dc_S_kindWith_21 : decode bc_S_kindWith 21 = .ok (.iload_n 1, 1) := by decide +kernel
theorem dc_S_kindWith_22 : decode bc_S_kindWith 22 = .ok (.if_icmp .eq 9, 3) := by decide +kernel
theorem dc_S_kindWith_25 : decode bc_S_kindWith 25 = .ok (.iinc 2 1, 3) := by decide +kernel
theorem dc_S_kindWith_28 : decode bc_S_kindWith 28 = .ok (.goto (-26), 3) := by decide +kernel
theorem dc_S_kindWith_31 : decode bc_S_kindWith 31 = .ok (.iload_n 2, 1) := by decide +kernel
theorem dc_S_kindWith_32 : decode bc_S_kindWith 32 = .ok (.ireturn, 1) := by decide +kernel
theorem dc_S_askTests_0 : decode bc_S_askTests 0 = .ok (.aload_n 0, 1) := by decide +kernel
theorem dc_S_askTests_1 : decode bc_S_askTests 1 = .ok (.getfield 33, 3) := by decide +kernel
theorem dc_S_askTests_4 : decode bc_S_askTests 4 = .ok (.iload_n 1, 1) := by decide +kernel
theorem dc_S_askTests_5 : decode bc_S_askTests 5 = .ok (.iaload, 1) := by decide +kernel
theorem dc_S_askTests_6 : decode bc_S_askTests 6 = .ok (.istore_n 2, 1) := by decide +kernel
theorem dc_S_askTests_7 : decode bc_S_askTests 7 = .ok (.iload_n 2, 1) := by decide +kernel
theorem dc_S_askTests_8 : decode bc_S_askTests 8 = .ok (.aload_n 0, 1) := by decide +kernel
theorem dc_S_askTests_9 : decode bc_S_askTests 9 = .ok (.getfield 55, 3) := by decide +kernel
theorem dc_S_askTests_12 : decode bc_S_askTests 12 = .ok (.if_icmp .ge 84, 3) := by decide +kernel
theorem dc_S_askTests_15 : decode bc_S_askTests 15 = .ok (.iload_n 1, 1) := by decide +kernel
theorem dc_S_askTests_16 : decode bc_S_askTests 16 = .ok (.istore_n 3, 1) := by decide +kernel
theorem dc_S_askTests_17 : decode bc_S_askTests 17 = .ok (.iload_n 2, 1) := by decide +kernel
theorem dc_S_askTests_18 : decode bc_S_askTests 18 = .ok (.istore 4, 2) := by decide +kernel
theorem dc_S_askTests_20 : decode bc_S_askTests 20 = .ok (.iconst 0, 1) := by decide +kernel
theorem dc_S_askTests_21 : decode bc_S_askTests 21 = .ok (.istore 5, 2) := by decide +kernel
theorem dc_S_askTests_23 : decode bc_S_askTests 23 = .ok (.iload 5, 2) := by decide +kernel
theorem dc_S_askTests_25 : decode bc_S_askTests 25 = .ok (.iload_n 2, 1) := by decide +kernel
theorem dc_S_askTests_26 : decode bc_S_askTests 26 = .ok (.if_icmp .ge 36, 3) := by decide +kernel
theorem dc_S_askTests_29 : decode bc_S_askTests 29 = .ok (.iload 4, 2) := by decide +kernel
theorem dc_S_askTests_31 : decode bc_S_askTests 31 = .ok (.ifCond .le 31, 3) := by decide +kernel
theorem dc_S_askTests_34 : decode bc_S_askTests 34 = .ok (.aload_n 0, 1) := by decide +kernel
theorem dc_S_askTests_35 : decode bc_S_askTests 35 = .ok (.iload_n 3, 1) := by decide +kernel
theorem dc_S_askTests_36 : decode bc_S_askTests 36 = .ok (.aload_n 0, 1) := by decide +kernel
theorem dc_S_askTests_37 : decode bc_S_askTests 37 = .ok (.getfield 36, 3) := by decide +kernel
theorem dc_S_askTests_40 : decode bc_S_askTests 40 = .ok (.iload 4, 2) := by decide +kernel
theorem dc_S_askTests_42 : decode bc_S_askTests 42 = .ok (.iaload, 1) := by decide +kernel
theorem dc_S_askTests_43 : decode bc_S_askTests 43 = .ok (.invokevirtual 75, 3) := by decide +kernel
theorem dc_S_askTests_46 : decode bc_S_askTests 46 = .ok (.istore_n 3, 1) := by decide +kernel
theorem dc_S_askTests_47 : decode bc_S_askTests 47 = .ok (.aload_n 0, 1) := by decide +kernel
theorem dc_S_askTests_48 : decode bc_S_askTests 48 = .ok (.getfield 39, 3) := by decide +kernel
theorem dc_S_askTests_51 : decode bc_S_askTests 51 = .ok (.iload 4, 2) := by decide +kernel
theorem dc_S_askTests_53 : decode bc_S_askTests 53 = .ok (.iaload, 1) := by decide +kernel
theorem dc_S_askTests_54 : decode bc_S_askTests 54 = .ok (.istore 4, 2) := by decide +kernel
theorem dc_S_askTests_56 : decode bc_S_askTests 56 = .ok (.iinc 5 1, 3) := by decide +kernel
theorem dc_S_askTests_59 : decode bc_S_askTests 59 = .ok (.goto (-36), 3) := by decide +kernel
theorem dc_S_askTests_62 : decode bc_S_askTests 62 = .ok (.aload_n 0, 1) := by decide +kernel
theorem dc_S_askTests_63 : decode bc_S_askTests 63 = .ok (.getfield 14, 3) := by decide +kernel
theorem dc_S_askTests_66 : decode bc_S_askTests 66 = .ok (.aload_n 0, 1) := by decide +kernel
theorem dc_S_askTests_67 : decode bc_S_askTests 67 = .ok (.getfield 24, 3) := by decide +kernel
theorem dc_S_askTests_70 : decode bc_S_askTests 70 = .ok (.iload_n 3, 1) := by decide +kernel
theorem dc_S_askTests_71 : decode bc_S_askTests 71 = .ok (.iaload, 1) := by decide +kernel
theorem dc_S_askTests_72 : decode bc_S_askTests 72 = .ok (.invokevirtual 71, 3) := by decide +kernel
theorem dc_S_askTests_75 : decode bc_S_askTests 75 = .ok (.ifCond .eq 15, 3) := by decide +kernel
theorem dc_S_askTests_78 : decode bc_S_askTests 78 = .ok (.aload_n 0, 1) := by decide +kernel
theorem dc_S_askTests_79 : decode bc_S_askTests 79 = .ok (.getfield 30, 3) := by decide +kernel
theorem dc_S_askTests_82 : decode bc_S_askTests 82 = .ok (.iload_n 1, 1) := by decide +kernel
theorem dc_S_askTests_83 : decode bc_S_askTests 83 = .ok (.dup2, 1) := by decide +kernel
theorem dc_S_askTests_84 : decode bc_S_askTests 84 = .ok (.iaload, 1) := by decide +kernel
theorem dc_S_askTests_85 : decode bc_S_askTests 85 = .ok (.iconst 1, 1) := by decide +kernel
theorem dc_S_askTests_86 : decode bc_S_askTests 86 = .ok (.iload_n 2, 1) := by decide +kernel
theorem dc_S_askTests_87 : decode bc_S_askTests 87 = .ok (.ishl, 1) := by decide +kernel
theorem dc_S_askTests_88 : decode bc_S_askTests 88 = .ok (.ior, 1) := by decide +kernel
theorem dc_S_askTests_89 : decode bc_S_askTests 89 = .ok (.iastore, 1) := by decide +kernel
theorem dc_S_askTests_90 : decode bc_S_askTests 90 = .ok (.iinc 2 1, 3) := by decide +kernel
theorem dc_S_askTests_93 : decode bc_S_askTests 93 = .ok (.goto (-86), 3) := by decide +kernel
theorem dc_S_askTests_96 : decode bc_S_askTests 96 = .ok (.aload_n 0, 1) := by decide +kernel
theorem dc_S_askTests_97 : decode bc_S_askTests 97 = .ok (.getfield 33, 3) := by decide +kernel
theorem dc_S_askTests_100 : decode bc_S_askTests 100 = .ok (.iload_n 1, 1) := by decide +kernel
theorem dc_S_askTests_101 : decode bc_S_askTests 101 = .ok (.aload_n 0, 1) := by decide +kernel
theorem dc_S_askTests_102 : decode bc_S_askTests 102 = .ok (.getfield 55, 3) := by decide +kernel
theorem dc_S_askTests_105 : decode bc_S_askTests 105 = .ok (.iastore, 1) := by decide +kernel
theorem dc_S_askTests_106 : decode bc_S_askTests 106 = .ok (.aload_n 0, 1) := by decide +kernel
theorem dc_S_askTests_107 : decode bc_S_askTests 107 = .ok (.getfield 30, 3) := by decide +kernel
theorem dc_S_askTests_110 : decode bc_S_askTests 110 = .ok (.iload_n 1, 1) := by decide +kernel
theorem dc_S_askTests_111 : decode bc_S_askTests 111 = .ok (.iaload, 1) := by decide +kernel
theorem dc_S_askTests_112 : decode bc_S_askTests 112 = .ok (.ireturn, 1) := by decide +kernel
theorem dc_S_follow_0 : decode bc_S_follow 0 = .ok (.iload_n 1, 1) := by decide +kernel
theorem dc_S_follow_1 : decode bc_S_follow 1 = .ok (.iconst 3, 1) := by decide +kernel
theorem dc_S_follow_2 : decode bc_S_follow 2 = .ok (.imul, 1) := by decide +kernel
theorem dc_S_follow_3 : decode bc_S_follow 3 = .ok (.iload_n 2, 1) := by decide +kernel
theorem dc_S_follow_4 : decode bc_S_follow 4 = .ok (.iadd, 1) := by decide +kernel
theorem dc_S_follow_5 : decode bc_S_follow 5 = .ok (.istore_n 3, 1) := by decide +kernel
theorem dc_S_follow_6 : decode bc_S_follow 6 = .ok (.aload_n 0, 1) := by decide +kernel
theorem dc_S_follow_7 : decode bc_S_follow 7 = .ok (.getfield 27, 3) := by decide +kernel
theorem dc_S_follow_10 : decode bc_S_follow 10 = .ok (.iload_n 3, 1) := by decide +kernel
theorem dc_S_follow_11 : decode bc_S_follow 11 = .ok (.iaload, 1) := by decide +kernel
theorem dc_S_follow_12 : decode bc_S_follow 12 = .ok (.ifCond .ne 29, 3) := by decide +kernel
theorem dc_S_follow_15 : decode bc_S_follow 15 = .ok (.aload_n 0, 1) := by decide +kernel
theorem dc_S_follow_16 : decode bc_S_follow 16 = .ok (.getfield 27, 3) := by decide +kernel
theorem dc_S_follow_19 : decode bc_S_follow 19 = .ok (.iload_n 3, 1) := by decide +kernel
theorem dc_S_follow_20 : decode bc_S_follow 20 = .ok (.iconst 1, 1) := by decide +kernel
theorem dc_S_follow_21 : decode bc_S_follow 21 = .ok (.aload_n 0, 1) := by decide +kernel
theorem dc_S_follow_22 : decode bc_S_follow 22 = .ok (.aload_n 0, 1) := by decide +kernel
theorem dc_S_follow_23 : decode bc_S_follow 23 = .ok (.getfield 14, 3) := by decide +kernel
theorem dc_S_follow_26 : decode bc_S_follow 26 = .ok (.aload_n 0, 1) := by decide +kernel
theorem dc_S_follow_27 : decode bc_S_follow 27 = .ok (.getfield 24, 3) := by decide +kernel
theorem dc_S_follow_30 : decode bc_S_follow 30 = .ok (.iload_n 1, 1) := by decide +kernel
theorem dc_S_follow_31 : decode bc_S_follow 31 = .ok (.iaload, 1) := by decide +kernel
theorem dc_S_follow_32 : decode bc_S_follow 32 = .ok (.iload_n 2, 1) := by decide +kernel
theorem dc_S_follow_33 : decode bc_S_follow 33 = .ok (.invokevirtual 109, 3) := by decide +kernel
theorem dc_S_follow_36 : decode bc_S_follow 36 = .ok (.invokevirtual 67, 3) := by decide +kernel
theorem dc_S_follow_39 : decode bc_S_follow 39 = .ok (.iadd, 1) := by decide +kernel
theorem dc_S_follow_40 : decode bc_S_follow 40 = .ok (.iastore, 1) := by decide +kernel
theorem dc_S_follow_41 : decode bc_S_follow 41 = .ok (.aload_n 0, 1) := by decide +kernel
theorem dc_S_follow_42 : decode bc_S_follow 42 = .ok (.getfield 27, 3) := by decide +kernel
theorem dc_S_follow_45 : decode bc_S_follow 45 = .ok (.iload_n 3, 1) := by decide +kernel
theorem dc_S_follow_46 : decode bc_S_follow 46 = .ok (.iaload, 1) := by decide +kernel
theorem dc_S_follow_47 : decode bc_S_follow 47 = .ok (.iconst 1, 1) := by decide +kernel
theorem dc_S_follow_48 : decode bc_S_follow 48 = .ok (.isub, 1) := by decide +kernel
theorem dc_S_follow_49 : decode bc_S_follow 49 = .ok (.ireturn, 1) := by decide +kernel
theorem dc_S_meet_0 : decode bc_S_meet 0 = .ok (.aload_n 0, 1) := by decide +kernel
theorem dc_S_meet_1 : decode bc_S_meet 1 = .ok (.getfield 20, 3) := by decide +kernel
theorem dc_S_meet_4 : decode bc_S_meet 4 = .ok (.iload_n 1, 1) := by decide +kernel
theorem dc_S_meet_5 : decode bc_S_meet 5 = .ok (.iaload, 1) := by decide +kernel
theorem dc_S_meet_6 : decode bc_S_meet 6 = .ok (.ifCond .ne 80, 3) := by decide +kernel
theorem dc_S_meet_9 : decode bc_S_meet 9 = .ok (.aload_n 0, 1) := by decide +kernel
theorem dc_S_meet_10 : decode bc_S_meet 10 = .ok (.getfield 24, 3) := by decide +kernel
theorem dc_S_meet_13 : decode bc_S_meet 13 = .ok (.aload_n 0, 1) := by decide +kernel
theorem dc_S_meet_14 : decode bc_S_meet 14 = .ok (.getfield 51, 3) := by decide +kernel
theorem dc_S_meet_17 : decode bc_S_meet 17 = .ok (.iload_n 1, 1) := by decide +kernel
theorem dc_S_meet_18 : decode bc_S_meet 18 = .ok (.iastore, 1) := by decide +kernel
theorem dc_S_meet_19 : decode bc_S_meet 19 = .ok (.aload_n 0, 1) := by decide +kernel
theorem dc_S_meet_20 : decode bc_S_meet 20 = .ok (.getfield 30, 3) := by decide +kernel
theorem dc_S_meet_23 : decode bc_S_meet 23 = .ok (.aload_n 0, 1) := by decide +kernel
theorem dc_S_meet_24 : decode bc_S_meet 24 = .ok (.getfield 51, 3) := by decide +kernel
theorem dc_S_meet_27 : decode bc_S_meet 27 = .ok (.iconst 0, 1) := by decide +kernel
theorem dc_S_meet_28 : decode bc_S_meet 28 = .ok (.iastore, 1) := by decide +kernel
theorem dc_S_meet_29 : decode bc_S_meet 29 = .ok (.aload_n 0, 1) := by decide +kernel
theorem dc_S_meet_30 : decode bc_S_meet 30 = .ok (.getfield 33, 3) := by decide +kernel
theorem dc_S_meet_33 : decode bc_S_meet 33 = .ok (.aload_n 0, 1) := by decide +kernel
theorem dc_S_meet_34 : decode bc_S_meet 34 = .ok (.getfield 51, 3) := by decide +kernel
theorem dc_S_meet_37 : decode bc_S_meet 37 = .ok (.iconst 0, 1) := by decide +kernel
theorem dc_S_meet_38 : decode bc_S_meet 38 = .ok (.iastore, 1) := by decide +kernel
theorem dc_S_meet_39 : decode bc_S_meet 39 = .ok (.iconst 0, 1) := by decide +kernel
theorem dc_S_meet_40 : decode bc_S_meet 40 = .ok (.istore_n 2, 1) := by decide +kernel
theorem dc_S_meet_41 : decode bc_S_meet 41 = .ok (.iload_n 2, 1) := by decide +kernel
theorem dc_S_meet_42 : decode bc_S_meet 42 = .ok (.iconst 3, 1) := by decide +kernel
theorem dc_S_meet_43 : decode bc_S_meet 43 = .ok (.if_icmp .ge 23, 3) := by decide +kernel
theorem dc_S_meet_46 : decode bc_S_meet 46 = .ok (.aload_n 0, 1) := by decide +kernel
theorem dc_S_meet_47 : decode bc_S_meet 47 = .ok (.getfield 27, 3) := by decide +kernel
theorem dc_S_meet_50 : decode bc_S_meet 50 = .ok (.aload_n 0, 1) := by decide +kernel
theorem dc_S_meet_51 : decode bc_S_meet 51 = .ok (.getfield 51, 3) := by decide +kernel
theorem dc_S_meet_54 : decode bc_S_meet 54 = .ok (.iconst 3, 1) := by decide +kernel
theorem dc_S_meet_55 : decode bc_S_meet 55 = .ok (.imul, 1) := by decide +kernel
theorem dc_S_meet_56 : decode bc_S_meet 56 = .ok (.iload_n 2, 1) := by decide +kernel
theorem dc_S_meet_57 : decode bc_S_meet 57 = .ok (.iadd, 1) := by decide +kernel
theorem dc_S_meet_58 : decode bc_S_meet 58 = .ok (.iconst 0, 1) := by decide +kernel
theorem dc_S_meet_59 : decode bc_S_meet 59 = .ok (.iastore, 1) := by decide +kernel
theorem dc_S_meet_60 : decode bc_S_meet 60 = .ok (.iinc 2 1, 3) := by decide +kernel
theorem dc_S_meet_63 : decode bc_S_meet 63 = .ok (.goto (-22), 3) := by decide +kernel
theorem dc_S_meet_66 : decode bc_S_meet 66 = .ok (.aload_n 0, 1) := by decide +kernel
theorem dc_S_meet_67 : decode bc_S_meet 67 = .ok (.dup, 1) := by decide +kernel
theorem dc_S_meet_68 : decode bc_S_meet 68 = .ok (.getfield 51, 3) := by decide +kernel
theorem dc_S_meet_71 : decode bc_S_meet 71 = .ok (.iconst 1, 1) := by decide +kernel
theorem dc_S_meet_72 : decode bc_S_meet 72 = .ok (.iadd, 1) := by decide +kernel
theorem dc_S_meet_73 : decode bc_S_meet 73 = .ok (.putfield 51, 3) := by decide +kernel
theorem dc_S_meet_76 : decode bc_S_meet 76 = .ok (.aload_n 0, 1) := by decide +kernel
theorem dc_S_meet_77 : decode bc_S_meet 77 = .ok (.getfield 20, 3) := by decide +kernel
theorem dc_S_meet_80 : decode bc_S_meet 80 = .ok (.iload_n 1, 1) := by decide +kernel
theorem dc_S_meet_81 : decode bc_S_meet 81 = .ok (.aload_n 0, 1) := by decide +kernel
theorem dc_S_meet_82 : decode bc_S_meet 82 = .ok (.getfield 51, 3) := by decide +kernel
theorem dc_S_meet_85 : decode bc_S_meet 85 = .ok (.iastore, 1) := by decide +kernel
theorem dc_S_meet_86 : decode bc_S_meet 86 = .ok (.aload_n 0, 1) := by decide +kernel
theorem dc_S_meet_87 : decode bc_S_meet 87 = .ok (.getfield 20, 3) := by decide +kernel
theorem dc_S_meet_90 : decode bc_S_meet 90 = .ok (.iload_n 1, 1) := by decide +kernel
theorem dc_S_meet_91 : decode bc_S_meet 91 = .ok (.iaload, 1) := by decide +kernel
theorem dc_S_meet_92 : decode bc_S_meet 92 = .ok (.iconst 1, 1) := by decide +kernel
theorem dc_S_meet_93 : decode bc_S_meet 93 = .ok (.isub, 1) := by decide +kernel
theorem dc_S_meet_94 : decode bc_S_meet 94 = .ok (.ireturn, 1) := by decide +kernel
theorem dc_T_init_0 : decode bc_T_init 0 = .ok (.aload_n 0, 1) := by decide +kernel
theorem dc_T_init_1 : decode bc_T_init 1 = .ok (.invokespecial 3, 3) := by decide +kernel
theorem dc_T_init_4 : decode bc_T_init 4 = .ok (.aload_n 0, 1) := by decide +kernel
theorem dc_T_init_5 : decode bc_T_init 5 = .ok (.bipush 30, 2) := by decide +kernel
theorem dc_T_init_7 : decode bc_T_init 7 = .ok (.newarray .int, 2) := by decide +kernel
theorem dc_T_init_9 : decode bc_T_init 9 = .ok (.putfield 9, 3) := by decide +kernel
theorem dc_T_init_12 : decode bc_T_init 12 = .ok (.aload_n 0, 1) := by decide +kernel
theorem dc_T_init_13 : decode bc_T_init 13 = .ok (.bipush 10, 2) := by decide +kernel
theorem dc_T_init_15 : decode bc_T_init 15 = .ok (.newarray .int, 2) := by decide +kernel
theorem dc_T_init_17 : decode bc_T_init 17 = .ok (.putfield 15, 3) := by decide +kernel
theorem dc_T_init_20 : decode bc_T_init 20 = .ok (.return_, 1) := by decide +kernel
theorem dc_T_after_0 : decode bc_T_after 0 = .ok (.aload_n 0, 1) := by decide +kernel
theorem dc_T_after_1 : decode bc_T_after 1 = .ok (.getfield 9, 3) := by decide +kernel
theorem dc_T_after_4 : decode bc_T_after 4 = .ok (.iload_n 1, 1) := by decide +kernel
theorem dc_T_after_5 : decode bc_T_after 5 = .ok (.iconst 3, 1) := by decide +kernel
theorem dc_T_after_6 : decode bc_T_after 6 = .ok (.imul, 1) := by decide +kernel
theorem dc_T_after_7 : decode bc_T_after 7 = .ok (.iload_n 2, 1) := by decide +kernel
theorem dc_T_after_8 : decode bc_T_after 8 = .ok (.iadd, 1) := by decide +kernel
theorem dc_T_after_9 : decode bc_T_after 9 = .ok (.iaload, 1) := by decide +kernel
theorem dc_T_after_10 : decode bc_T_after 10 = .ok (.ireturn, 1) := by decide +kernel
theorem dc_T_endsAt_0 : decode bc_T_endsAt 0 = .ok (.aload_n 0, 1) := by decide +kernel
theorem dc_T_endsAt_1 : decode bc_T_endsAt 1 = .ok (.getfield 18, 3) := by decide +kernel
theorem dc_T_endsAt_4 : decode bc_T_endsAt 4 = .ok (.iload_n 1, 1) := by decide +kernel
theorem dc_T_endsAt_5 : decode bc_T_endsAt 5 = .ok (.ishr, 1) := by decide +kernel
theorem dc_T_endsAt_6 : decode bc_T_endsAt 6 = .ok (.iconst 1, 1) := by decide +kernel
theorem dc_T_endsAt_7 : decode bc_T_endsAt 7 = .ok (.iand, 1) := by decide +kernel
theorem dc_T_endsAt_8 : decode bc_T_endsAt 8 = .ok (.ifCond .eq 7, 3) := by decide +kernel
theorem dc_T_endsAt_11 : decode bc_T_endsAt 11 = .ok (.iconst 1, 1) := by decide +kernel
theorem dc_T_endsAt_12 : decode bc_T_endsAt 12 = .ok (.goto 4, 3) := by decide +kernel
theorem dc_T_endsAt_15 : decode bc_T_endsAt 15 = .ok (.iconst 0, 1) := by decide +kernel
theorem dc_T_endsAt_16 : decode bc_T_endsAt 16 = .ok (.ireturn, 1) := by decide +kernel
theorem dc_T_afterAll_0 : decode bc_T_afterAll 0 = .ok (.iconst 0, 1) := by decide +kernel
theorem dc_T_afterAll_1 : decode bc_T_afterAll 1 = .ok (.istore_n 3, 1) := by decide +kernel
theorem dc_T_afterAll_2 : decode bc_T_afterAll 2 = .ok (.iconst 0, 1) := by decide +kernel
theorem dc_T_afterAll_3 : decode bc_T_afterAll 3 = .ok (.istore 4, 2) := by decide +kernel
theorem dc_T_afterAll_5 : decode bc_T_afterAll 5 = .ok (.iload 4, 2) := by decide +kernel
theorem dc_T_afterAll_7 : decode bc_T_afterAll 7 = .ok (.aload_n 0, 1) := by decide +kernel
theorem dc_T_afterAll_8 : decode bc_T_afterAll 8 = .ok (.getfield 22, 3) := by decide +kernel
theorem dc_T_afterAll_11 : decode bc_T_afterAll 11 = .ok (.if_icmp .ge 30, 3) := by decide +kernel
theorem dc_T_afterAll_14 : decode bc_T_afterAll 14 = .ok (.iload_n 1, 1) := by decide +kernel
theorem dc_T_afterAll_15 : decode bc_T_afterAll 15 = .ok (.iload 4, 2) := by decide +kernel
theorem dc_T_afterAll_17 : decode bc_T_afterAll 17 = .ok (.ishr, 1) := by decide +kernel
theorem dc_T_afterAll_18 : decode bc_T_afterAll 18 = .ok (.iconst 1, 1) := by decide +kernel
theorem dc_T_afterAll_19 : decode bc_T_afterAll 19 = .ok (.iand, 1) := by decide +kernel
theorem dc_T_afterAll_20 : decode bc_T_afterAll 20 = .ok (.ifCond .eq 15, 3) := by decide +kernel
theorem dc_T_afterAll_23 : decode bc_T_afterAll 23 = .ok (.iload_n 3, 1) := by decide +kernel
theorem dc_T_afterAll_24 : decode bc_T_afterAll 24 = .ok (.iconst 1, 1) := by decide +kernel
theorem dc_T_afterAll_25 : decode bc_T_afterAll 25 = .ok (.aload_n 0, 1) := by decide +kernel
theorem dc_T_afterAll_26 : decode bc_T_afterAll 26 = .ok (.iload 4, 2) := by decide +kernel
theorem dc_T_afterAll_28 : decode bc_T_afterAll 28 = .ok (.iload_n 2, 1) := by decide +kernel
theorem dc_T_afterAll_29 : decode bc_T_afterAll 29 = .ok (.invokevirtual 25, 3) := by decide +kernel
theorem dc_T_afterAll_32 : decode bc_T_afterAll 32 = .ok (.ishl, 1) := by decide +kernel
theorem dc_T_afterAll_33 : decode bc_T_afterAll 33 = .ok (.ior, 1) := by decide +kernel
theorem dc_T_afterAll_34 : decode bc_T_afterAll 34 = .ok (.istore_n 3, 1) := by decide +kernel
theorem dc_T_afterAll_35 : decode bc_T_afterAll 35 = .ok (.iinc 4 1, 3) := by decide +kernel
theorem dc_T_afterAll_38 : decode bc_T_afterAll 38 = .ok (.goto (-33), 3) := by decide +kernel
theorem dc_T_afterAll_41 : decode bc_T_afterAll 41 = .ok (.iload_n 3, 1) := by decide +kernel
theorem dc_T_afterAll_42 : decode bc_T_afterAll 42 = .ok (.aload_n 0, 1) := by decide +kernel
theorem dc_T_afterAll_43 : decode bc_T_afterAll 43 = .ok (.getfield 29, 3) := by decide +kernel
theorem dc_T_afterAll_46 : decode bc_T_afterAll 46 = .ok (.iand, 1) := by decide +kernel
theorem dc_T_afterAll_47 : decode bc_T_afterAll 47 = .ok (.ireturn, 1) := by decide +kernel
theorem dc_T_beforeAll_0 : decode bc_T_beforeAll 0 = .ok (.iconst 0, 1) := by decide +kernel
theorem dc_T_beforeAll_1 : decode bc_T_beforeAll 1 = .ok (.istore_n 3, 1) := by decide +kernel
theorem dc_T_beforeAll_2 : decode bc_T_beforeAll 2 = .ok (.iconst 0, 1) := by decide +kernel
theorem dc_T_beforeAll_3 : decode bc_T_beforeAll 3 = .ok (.istore 4, 2) := by decide +kernel
theorem dc_T_beforeAll_5 : decode bc_T_beforeAll 5 = .ok (.iload 4, 2) := by decide +kernel
theorem dc_T_beforeAll_7 : decode bc_T_beforeAll 7 = .ok (.aload_n 0, 1) := by decide +kernel
theorem dc_T_beforeAll_8 : decode bc_T_beforeAll 8 = .ok (.getfield 22, 3) := by decide +kernel
theorem dc_T_beforeAll_11 : decode bc_T_beforeAll 11 = .ok (.if_icmp .ge 30, 3) := by decide +kernel
theorem dc_T_beforeAll_14 : decode bc_T_beforeAll 14 = .ok (.iload_n 1, 1) := by decide +kernel
theorem dc_T_beforeAll_15 : decode bc_T_beforeAll 15 = .ok (.aload_n 0, 1) := by decide +kernel
theorem dc_T_beforeAll_16 : decode bc_T_beforeAll 16 = .ok (.iload 4, 2) := by decide +kernel
theorem dc_T_beforeAll_18 : decode bc_T_beforeAll 18 = .ok (.iload_n 2, 1) := by decide +kernel
theorem dc_T_beforeAll_19 : decode bc_T_beforeAll 19 = .ok (.invokevirtual 25, 3) := by decide +kernel
theorem dc_T_beforeAll_22 : decode bc_T_beforeAll 22 = .ok (.ishr, 1) := by decide +kernel
theorem dc_T_beforeAll_23 : decode bc_T_beforeAll 23 = .ok (.iconst 1, 1) := by decide +kernel
theorem dc_T_beforeAll_24 : decode bc_T_beforeAll 24 = .ok (.iand, 1) := by decide +kernel
theorem dc_T_beforeAll_25 : decode bc_T_beforeAll 25 = .ok (.ifCond .eq 10, 3) := by decide +kernel
theorem dc_T_beforeAll_28 : decode bc_T_beforeAll 28 = .ok (.iload_n 3, 1) := by decide +kernel
theorem dc_T_beforeAll_29 : decode bc_T_beforeAll 29 = .ok (.iconst 1, 1) := by decide +kernel
theorem dc_T_beforeAll_30 : decode bc_T_beforeAll 30 = .ok (.iload 4, 2) := by decide +kernel
theorem dc_T_beforeAll_32 : decode bc_T_beforeAll 32 = .ok (.ishl, 1) := by decide +kernel
theorem dc_T_beforeAll_33 : decode bc_T_beforeAll 33 = .ok (.ior, 1) := by decide +kernel
theorem dc_T_beforeAll_34 : decode bc_T_beforeAll 34 = .ok (.istore_n 3, 1) := by decide +kernel
theorem dc_T_beforeAll_35 : decode bc_T_beforeAll 35 = .ok (.iinc 4 1, 3) := by decide +kernel
theorem dc_T_beforeAll_38 : decode bc_T_beforeAll 38 = .ok (.goto (-33), 3) := by decide +kernel
theorem dc_T_beforeAll_41 : decode bc_T_beforeAll 41 = .ok (.iload_n 3, 1) := by decide +kernel
theorem dc_T_beforeAll_42 : decode bc_T_beforeAll 42 = .ok (.ireturn, 1) := by decide +kernel
theorem dc_T_matches_0 : decode bc_T_matches 0 = .ok (.aload_n 0, 1) := by decide +kernel
theorem dc_T_matches_1 : decode bc_T_matches 1 = .ok (.getfield 22, 3) := by decide +kernel
theorem dc_T_matches_4 : decode bc_T_matches 4 = .ok (.aload_n 1, 1) := by decide +kernel
theorem dc_T_matches_5 : decode bc_T_matches 5 = .ok (.getfield 22, 3) := by decide +kernel
theorem dc_T_matches_8 : decode bc_T_matches 8 = .ok (.if_icmp .ne 14, 3) := by decide +kernel
theorem dc_T_matches_11 : decode bc_T_matches 11 = .ok (.aload_n 0, 1) := by decide +kernel
theorem dc_T_matches_12 : decode bc_T_matches 12 = .ok (.getfield 18, 3) := by decide +kernel
theorem dc_T_matches_15 : decode bc_T_matches 15 = .ok (.aload_n 1, 1) := by decide +kernel
theorem dc_T_matches_16 : decode bc_T_matches 16 = .ok (.getfield 18, 3) := by decide +kernel
theorem dc_T_matches_19 : decode bc_T_matches 19 = .ok (.if_icmp .eq 5, 3) := by decide +kernel
theorem dc_T_matches_22 : decode bc_T_matches 22 = .ok (.iconst 0, 1) := by decide +kernel
theorem dc_T_matches_23 : decode bc_T_matches 23 = .ok (.ireturn, 1) := by decide +kernel
theorem dc_T_matches_24 : decode bc_T_matches 24 = .ok (.iconst 0, 1) := by decide +kernel
theorem dc_T_matches_25 : decode bc_T_matches 25 = .ok (.istore_n 2, 1) := by decide +kernel
theorem dc_T_matches_26 : decode bc_T_matches 26 = .ok (.iload_n 2, 1) := by decide +kernel
theorem dc_T_matches_27 : decode bc_T_matches 27 = .ok (.aload_n 0, 1) := by decide +kernel
theorem dc_T_matches_28 : decode bc_T_matches 28 = .ok (.getfield 22, 3) := by decide +kernel
theorem dc_T_matches_31 : decode bc_T_matches 31 = .ok (.iconst 3, 1) := by decide +kernel
theorem dc_T_matches_32 : decode bc_T_matches 32 = .ok (.imul, 1) := by decide +kernel
theorem dc_T_matches_33 : decode bc_T_matches 33 = .ok (.if_icmp .ge 26, 3) := by decide +kernel
theorem dc_T_matches_36 : decode bc_T_matches 36 = .ok (.aload_n 0, 1) := by decide +kernel
theorem dc_T_matches_37 : decode bc_T_matches 37 = .ok (.getfield 9, 3) := by decide +kernel
theorem dc_T_matches_40 : decode bc_T_matches 40 = .ok (.iload_n 2, 1) := by decide +kernel
theorem dc_T_matches_41 : decode bc_T_matches 41 = .ok (.iaload, 1) := by decide +kernel
theorem dc_T_matches_42 : decode bc_T_matches 42 = .ok (.aload_n 1, 1) := by decide +kernel
theorem dc_T_matches_43 : decode bc_T_matches 43 = .ok (.getfield 9, 3) := by decide +kernel
theorem dc_T_matches_46 : decode bc_T_matches 46 = .ok (.iload_n 2, 1) := by decide +kernel
theorem dc_T_matches_47 : decode bc_T_matches 47 = .ok (.iaload, 1) := by decide +kernel
theorem dc_T_matches_48 : decode bc_T_matches 48 = .ok (.if_icmp .eq 5, 3) := by decide +kernel
theorem dc_T_matches_51 : decode bc_T_matches 51 = .ok (.iconst 0, 1) := by decide +kernel
theorem dc_T_matches_52 : decode bc_T_matches 52 = .ok (.ireturn, 1) := by decide +kernel
theorem dc_T_matches_53 : decode bc_T_matches 53 = .ok (.iinc 2 1, 3) := by decide +kernel
theorem dc_T_matches_56 : decode bc_T_matches 56 = .ok (.goto (-30), 3) := by decide +kernel
theorem dc_T_matches_59 : decode bc_T_matches 59 = .ok (.iconst 1, 1) := by decide +kernel
theorem dc_T_matches_60 : decode bc_T_matches 60 = .ok (.ireturn, 1) := by decide +kernel
theorem dc_T_measure_0 : decode bc_T_measure 0 = .ok (.aload_n 0, 1) := by decide +kernel
theorem dc_T_measure_1 : decode bc_T_measure 1 = .ok (.aload_n 0, 1) := by decide +kernel
theorem dc_T_measure_2 : decode bc_T_measure 2 = .ok (.getfield 18, 3) := by decide +kernel
theorem dc_T_measure_5 : decode bc_T_measure 5 = .ok (.putfield 29, 3) := by decide +kernel
theorem dc_T_measure_8 : decode bc_T_measure 8 = .ok (.iconst 0, 1) := by decide +kernel
theorem dc_T_measure_9 : decode bc_T_measure 9 = .ok (.istore_n 1, 1) := by decide +kernel
theorem dc_T_measure_10 : decode bc_T_measure 10 = .ok (.iload_n 1, 1) := by decide +kernel
theorem dc_T_measure_11 : decode bc_T_measure 11 = .ok (.aload_n 0, 1) := by decide +kernel
theorem dc_T_measure_12 : decode bc_T_measure 12 = .ok (.getfield 22, 3) := by decide +kernel
theorem dc_T_measure_15 : decode bc_T_measure 15 = .ok (.if_icmp .ge 28, 3) := by decide +kernel
theorem dc_T_measure_18 : decode bc_T_measure 18 = .ok (.aload_n 0, 1) := by decide +kernel
theorem dc_T_measure_19 : decode bc_T_measure 19 = .ok (.getfield 15, 3) := by decide +kernel
theorem dc_T_measure_22 : decode bc_T_measure 22 = .ok (.iload_n 1, 1) := by decide +kernel
theorem dc_T_measure_23 : decode bc_T_measure 23 = .ok (.aload_n 0, 1) := by decide +kernel
theorem dc_T_measure_24 : decode bc_T_measure 24 = .ok (.iload_n 1, 1) := by decide +kernel
theorem dc_T_measure_25 : decode bc_T_measure 25 = .ok (.invokevirtual 32, 3) := by decide +kernel
theorem dc_T_measure_28 : decode bc_T_measure 28 = .ok (.ifCond .eq 7, 3) := by decide +kernel
theorem dc_T_measure_31 : decode bc_T_measure 31 = .ok (.iconst 0, 1) := by decide +kernel
theorem dc_T_measure_32 : decode bc_T_measure 32 = .ok (.goto 4, 3) := by decide +kernel
theorem dc_T_measure_35 : decode bc_T_measure 35 = .ok (.iconst (-1), 1) := by decide +kernel
theorem dc_T_measure_36 : decode bc_T_measure 36 = .ok (.iastore, 1) := by decide +kernel
theorem dc_T_measure_37 : decode bc_T_measure 37 = .ok (.iinc 1 1, 3) := by decide +kernel
theorem dc_T_measure_40 : decode bc_T_measure 40 = .ok (.goto (-30), 3) := by decide +kernel
theorem dc_T_measure_43 : decode bc_T_measure 43 = .ok (.iconst 1, 1) := by decide +kernel
theorem dc_T_measure_44 : decode bc_T_measure 44 = .ok (.istore_n 1, 1) := by decide +kernel
theorem dc_T_measure_45 : decode bc_T_measure 45 = .ok (.iload_n 1, 1) := by decide +kernel
theorem dc_T_measure_46 : decode bc_T_measure 46 = .ok (.aload_n 0, 1) := by decide +kernel
theorem dc_T_measure_47 : decode bc_T_measure 47 = .ok (.getfield 22, 3) := by decide +kernel
theorem dc_T_measure_50 : decode bc_T_measure 50 = .ok (.if_icmp .ge 66, 3) := by decide +kernel
theorem dc_T_measure_53 : decode bc_T_measure 53 = .ok (.iconst 0, 1) := by decide +kernel
theorem dc_T_measure_54 : decode bc_T_measure 54 = .ok (.istore_n 2, 1) := by decide +kernel
theorem dc_T_measure_55 : decode bc_T_measure 55 = .ok (.iload_n 2, 1) := by decide +kernel
theorem dc_T_measure_56 : decode bc_T_measure 56 = .ok (.aload_n 0, 1) := by decide +kernel
theorem dc_T_measure_57 : decode bc_T_measure 57 = .ok (.getfield 22, 3) := by decide +kernel
theorem dc_T_measure_60 : decode bc_T_measure 60 = .ok (.if_icmp .ge 50, 3) := by decide +kernel
theorem dc_T_measure_63 : decode bc_T_measure 63 = .ok (.aload_n 0, 1) := by decide +kernel
theorem dc_T_measure_64 : decode bc_T_measure 64 = .ok (.getfield 15, 3) := by decide +kernel
theorem dc_T_measure_67 : decode bc_T_measure 67 = .ok (.iload_n 2, 1) := by decide +kernel
theorem dc_T_measure_68 : decode bc_T_measure 68 = .ok (.iaload, 1) := by decide +kernel
theorem dc_T_measure_69 : decode bc_T_measure 69 = .ok (.iconst (-1), 1) := by decide +kernel
theorem dc_T_measure_70 : decode bc_T_measure 70 = .ok (.if_icmp .ne 34, 3) := by decide +kernel
theorem dc_T_measure_73 : decode bc_T_measure 73 = .ok (.aload_n 0, 1) := by decide +kernel
theorem dc_T_measure_74 : decode bc_T_measure 74 = .ok (.iload_n 2, 1) := by decide +kernel
theorem dc_T_measure_75 : decode bc_T_measure 75 = .ok (.iload_n 1, 1) := by decide +kernel
theorem dc_T_measure_76 : decode bc_T_measure 76 = .ok (.iconst 1, 1) := by decide +kernel
theorem dc_T_measure_77 : decode bc_T_measure 77 = .ok (.isub, 1) := by decide +kernel
theorem dc_T_measure_78 : decode bc_T_measure 78 = .ok (.invokevirtual 36, 3) := by decide +kernel
theorem dc_T_measure_81 : decode bc_T_measure 81 = .ok (.iconst 3, 1) := by decide +kernel
theorem dc_T_measure_82 : decode bc_T_measure 82 = .ok (.if_icmp .ge 22, 3) := by decide +kernel
theorem dc_T_measure_85 : decode bc_T_measure 85 = .ok (.aload_n 0, 1) := by decide +kernel
theorem dc_T_measure_86 : decode bc_T_measure 86 = .ok (.getfield 15, 3) := by decide +kernel
theorem dc_T_measure_89 : decode bc_T_measure 89 = .ok (.iload_n 2, 1) := by decide +kernel
theorem dc_T_measure_90 : decode bc_T_measure 90 = .ok (.iload_n 1, 1) := by decide +kernel
theorem dc_T_measure_91 : decode bc_T_measure 91 = .ok (.iastore, 1) := by decide +kernel
theorem dc_T_measure_92 : decode bc_T_measure 92 = .ok (.aload_n 0, 1) := by decide +kernel
theorem dc_T_measure_93 : decode bc_T_measure 93 = .ok (.dup, 1) := by decide +kernel
theorem dc_T_measure_94 : decode bc_T_measure 94 = .ok (.getfield 29, 3) := by decide +kernel
theorem dc_T_measure_97 : decode bc_T_measure 97 = .ok (.iconst 1, 1) := by decide +kernel
theorem dc_T_measure_98 : decode bc_T_measure 98 = .ok (.iload_n 2, 1) := by decide +kernel
theorem dc_T_measure_99 : decode bc_T_measure 99 = .ok (.ishl, 1) := by decide +kernel
theorem dc_T_measure_100 : decode bc_T_measure 100 = .ok (.ior, 1) := by decide +kernel
theorem dc_T_measure_101 : decode bc_T_measure 101 = .ok (.putfield 29, 3) := by decide +kernel
theorem dc_T_measure_104 : decode bc_T_measure 104 = .ok (.iinc 2 1, 3) := by decide +kernel
theorem dc_T_measure_107 : decode bc_T_measure 107 = .ok (.goto (-52), 3) := by decide +kernel
theorem dc_T_measure_110 : decode bc_T_measure 110 = .ok (.iinc 1 1, 3) := by decide +kernel
theorem dc_T_measure_113 : decode bc_T_measure 113 = .ok (.goto (-68), 3) := by decide +kernel
theorem dc_T_measure_116 : decode bc_T_measure 116 = .ok (.return_, 1) := by decide +kernel
theorem dc_T_nearer_0 : decode bc_T_nearer 0 = .ok (.aload_n 0, 1) := by decide +kernel
theorem dc_T_nearer_1 : decode bc_T_nearer 1 = .ok (.iload_n 1, 1) := by decide +kernel
theorem dc_T_nearer_2 : decode bc_T_nearer 2 = .ok (.aload_n 0, 1) := by decide +kernel
theorem dc_T_nearer_3 : decode bc_T_nearer 3 = .ok (.getfield 15, 3) := by decide +kernel
theorem dc_T_nearer_6 : decode bc_T_nearer 6 = .ok (.iload_n 1, 1) := by decide +kernel
theorem dc_T_nearer_7 : decode bc_T_nearer 7 = .ok (.iaload, 1) := by decide +kernel
theorem dc_T_nearer_8 : decode bc_T_nearer 8 = .ok (.iconst 1, 1) := by decide +kernel
theorem dc_T_nearer_9 : decode bc_T_nearer 9 = .ok (.isub, 1) := by decide +kernel
theorem dc_T_nearer_10 : decode bc_T_nearer 10 = .ok (.invokevirtual 36, 3) := by decide +kernel
theorem dc_T_nearer_13 : decode bc_T_nearer 13 = .ok (.ireturn, 1) := by decide +kernel
theorem dc_T_letterToward_0 : decode bc_T_letterToward 0 = .ok (.iconst 0, 1) := by decide +kernel
theorem dc_T_letterToward_1 : decode bc_T_letterToward 1 = .ok (.istore_n 3, 1) := by decide +kernel
theorem dc_T_letterToward_2 : decode bc_T_letterToward 2 = .ok (.iload_n 3, 1) := by decide +kernel
theorem dc_T_letterToward_3 : decode bc_T_letterToward 3 = .ok (.iconst 3, 1) := by decide +kernel
theorem dc_T_letterToward_4 : decode bc_T_letterToward 4 = .ok (.if_icmp .ge 26, 3) := by decide +kernel
theorem dc_T_letterToward_7 : decode bc_T_letterToward 7 = .ok (.aload_n 0, 1) := by decide +kernel
theorem dc_T_letterToward_8 : decode bc_T_letterToward 8 = .ok (.getfield 15, 3) := by decide +kernel
theorem dc_T_letterToward_11 : decode bc_T_letterToward 11 = .ok (.aload_n 0, 1) := by decide +kernel
theorem dc_T_letterToward_12 : decode bc_T_letterToward 12 = .ok (.iload_n 1, 1) := by decide +kernel
theorem dc_T_letterToward_13 : decode bc_T_letterToward 13 = .ok (.iload_n 3, 1) := by decide +kernel
theorem dc_T_letterToward_14 : decode bc_T_letterToward 14 = .ok (.invokevirtual 25, 3) := by decide +kernel
theorem dc_T_letterToward_17 : decode bc_T_letterToward 17 = .ok (.iaload, 1) := by decide +kernel
theorem dc_T_letterToward_18 : decode bc_T_letterToward 18 = .ok (.iload_n 2, 1) := by decide +kernel
theorem dc_T_letterToward_19 : decode bc_T_letterToward 19 = .ok (.if_icmp .ne 5, 3) := by decide +kernel
theorem dc_T_letterToward_22 : decode bc_T_letterToward 22 = .ok (.iload_n 3, 1) := by decide +kernel
theorem dc_T_letterToward_23 : decode bc_T_letterToward 23 = .ok (.ireturn, 1) := by decide +kernel
theorem dc_T_letterToward_24 : decode bc_T_letterToward 24 = .ok (.iinc 3 1, 3) := by decide +kernel
theorem dc_T_letterToward_27 : decode bc_T_letterToward 27 = .ok (.goto (-25), 3) := by decide +kernel
theorem dc_T_letterToward_30 : decode bc_T_letterToward 30 = .ok (.iconst 3, 1) := by decide +kernel
theorem dc_T_letterToward_31 : decode bc_T_letterToward 31 = .ok (.ireturn, 1) := by decide +kernel
theorem dc_Y_init_0 : decode bc_Y_init 0 = .ok (.aload_n 0, 1) := by decide +kernel
theorem dc_Y_init_1 : decode bc_Y_init 1 = .ok (.invokespecial 3, 3) := by decide +kernel
theorem dc_Y_init_4 : decode bc_Y_init 4 = .ok (.aload_n 0, 1) := by decide +kernel
theorem dc_Y_init_5 : decode bc_Y_init 5 = .ok (.bipush 10, 2) := by decide +kernel
theorem dc_Y_init_7 : decode bc_Y_init 7 = .ok (.newarray .long, 2) := by decide +kernel
theorem dc_Y_init_9 : decode bc_Y_init 9 = .ok (.putfield 9, 3) := by decide +kernel
theorem dc_Y_init_12 : decode bc_Y_init 12 = .ok (.aload_n 0, 1) := by decide +kernel
theorem dc_Y_init_13 : decode bc_Y_init 13 = .ok (.bipush 10, 2) := by decide +kernel
theorem dc_Y_init_15 : decode bc_Y_init 15 = .ok (.newarray .long, 2) := by decide +kernel
theorem dc_Y_init_17 : decode bc_Y_init 17 = .ok (.putfield 15, 3) := by decide +kernel
theorem dc_Y_init_20 : decode bc_Y_init 20 = .ok (.return_, 1) := by decide +kernel
theorem dc_Y_begin_0 : decode bc_Y_begin 0 = .ok (.iconst 0, 1) := by decide +kernel
theorem dc_Y_begin_1 : decode bc_Y_begin 1 = .ok (.istore_n 2, 1) := by decide +kernel
theorem dc_Y_begin_2 : decode bc_Y_begin 2 = .ok (.iload_n 2, 1) := by decide +kernel
theorem dc_Y_begin_3 : decode bc_Y_begin 3 = .ok (.aload_n 1, 1) := by decide +kernel
theorem dc_Y_begin_4 : decode bc_Y_begin 4 = .ok (.getfield 18, 3) := by decide +kernel
theorem dc_Y_begin_7 : decode bc_Y_begin 7 = .ok (.if_icmp .ge 28, 3) := by decide +kernel
theorem dc_Y_begin_10 : decode bc_Y_begin 10 = .ok (.aload_n 0, 1) := by decide +kernel
theorem dc_Y_begin_11 : decode bc_Y_begin 11 = .ok (.getfield 9, 3) := by decide +kernel
theorem dc_Y_begin_14 : decode bc_Y_begin 14 = .ok (.iload_n 2, 1) := by decide +kernel
theorem dc_Y_begin_15 : decode bc_Y_begin 15 = .ok (.aload_n 1, 1) := by decide +kernel
theorem dc_Y_begin_16 : decode bc_Y_begin 16 = .ok (.iload_n 2, 1) := by decide +kernel
theorem dc_Y_begin_17 : decode bc_Y_begin 17 = .ok (.invokevirtual 24, 3) := by decide +kernel
theorem dc_Y_begin_20 : decode bc_Y_begin 20 = .ok (.ifCond .eq 7, 3) := by decide +kernel
theorem dc_Y_begin_23 : decode bc_Y_begin 23 = .ok (.lconst 1, 1) := by decide +kernel
theorem dc_Y_begin_24 : decode bc_Y_begin 24 = .ok (.goto 4, 3) := by decide +kernel
theorem dc_Y_begin_27 : decode bc_Y_begin 27 = .ok (.lconst 0, 1) := by decide +kernel
theorem dc_Y_begin_28 : decode bc_Y_begin 28 = .ok (.lastore, 1) := by decide +kernel
theorem dc_Y_begin_29 : decode bc_Y_begin 29 = .ok (.iinc 2 1, 3) := by decide +kernel
theorem dc_Y_begin_32 : decode bc_Y_begin 32 = .ok (.goto (-30), 3) := by decide +kernel
theorem dc_Y_begin_35 : decode bc_Y_begin 35 = .ok (.return_, 1) := by decide +kernel
theorem dc_Y_lengthen_0 : decode bc_Y_lengthen 0 = .ok (.iconst 0, 1) := by decide +kernel
theorem dc_Y_lengthen_1 : decode bc_Y_lengthen 1 = .ok (.istore_n 2, 1) := by decide +kernel
theorem dc_Y_lengthen_2 : decode bc_Y_lengthen 2 = .ok (.iload_n 2, 1) := by decide +kernel
theorem dc_Y_lengthen_3 : decode bc_Y_lengthen 3 = .ok (.aload_n 1, 1) := by decide +kernel
theorem dc_Y_lengthen_4 : decode bc_Y_lengthen 4 = .ok (.getfield 18, 3) := by decide +kernel
theorem dc_Y_lengthen_7 : decode bc_Y_lengthen 7 = .ok (.if_icmp .ge 49, 3) := by decide +kernel
theorem dc_Y_lengthen_10 : decode bc_Y_lengthen 10 = .ok (.aload_n 0, 1) := by decide +kernel
theorem dc_Y_lengthen_11 : decode bc_Y_lengthen 11 = .ok (.getfield 15, 3) := by decide +kernel
theorem dc_Y_lengthen_14 : decode bc_Y_lengthen 14 = .ok (.iload_n 2, 1) := by decide +kernel
theorem dc_Y_lengthen_15 : decode bc_Y_lengthen 15 = .ok (.lconst 0, 1) := by decide +kernel
theorem dc_Y_lengthen_16 : decode bc_Y_lengthen 16 = .ok (.lastore, 1) := by decide +kernel
theorem dc_Y_lengthen_17 : decode bc_Y_lengthen 17 = .ok (.iconst 0, 1) := by decide +kernel
theorem dc_Y_lengthen_18 : decode bc_Y_lengthen 18 = .ok (.istore_n 3, 1) := by decide +kernel
theorem dc_Y_lengthen_19 : decode bc_Y_lengthen 19 = .ok (.iload_n 3, 1) := by decide +kernel
theorem dc_Y_lengthen_20 : decode bc_Y_lengthen 20 = .ok (.iconst 3, 1) := by decide +kernel
theorem dc_Y_lengthen_21 : decode bc_Y_lengthen 21 = .ok (.if_icmp .ge 29, 3) := by decide +kernel
theorem dc_Y_lengthen_24 : decode bc_Y_lengthen 24 = .ok (.aload_n 0, 1) := by decide +kernel
theorem dc_Y_lengthen_25 : decode bc_Y_lengthen 25 = .ok (.getfield 15, 3) := by decide +kernel
theorem dc_Y_lengthen_28 : decode bc_Y_lengthen 28 = .ok (.iload_n 2, 1) := by decide +kernel
theorem dc_Y_lengthen_29 : decode bc_Y_lengthen 29 = .ok (.dup2, 1) := by decide +kernel
theorem dc_Y_lengthen_30 : decode bc_Y_lengthen 30 = .ok (.laload, 1) := by decide +kernel
theorem dc_Y_lengthen_31 : decode bc_Y_lengthen 31 = .ok (.aload_n 0, 1) := by decide +kernel
theorem dc_Y_lengthen_32 : decode bc_Y_lengthen 32 = .ok (.getfield 9, 3) := by decide +kernel
theorem dc_Y_lengthen_35 : decode bc_Y_lengthen 35 = .ok (.aload_n 1, 1) := by decide +kernel
theorem dc_Y_lengthen_36 : decode bc_Y_lengthen 36 = .ok (.iload_n 2, 1) := by decide +kernel
theorem dc_Y_lengthen_37 : decode bc_Y_lengthen 37 = .ok (.iload_n 3, 1) := by decide +kernel
theorem dc_Y_lengthen_38 : decode bc_Y_lengthen 38 = .ok (.invokevirtual 28, 3) := by decide +kernel
theorem dc_Y_lengthen_41 : decode bc_Y_lengthen 41 = .ok (.laload, 1) := by decide +kernel
theorem dc_Y_lengthen_42 : decode bc_Y_lengthen 42 = .ok (.ladd, 1) := by decide +kernel
theorem dc_Y_lengthen_43 : decode bc_Y_lengthen 43 = .ok (.lastore, 1) := by decide +kernel
theorem dc_Y_lengthen_44 : decode bc_Y_lengthen 44 = .ok (.iinc 3 1, 3) := by decide +kernel
theorem dc_Y_lengthen_47 : decode bc_Y_lengthen 47 = .ok (.goto (-28), 3) := by decide +kernel
theorem dc_Y_lengthen_50 : decode bc_Y_lengthen 50 = .ok (.iinc 2 1, 3) := by decide +kernel
theorem dc_Y_lengthen_53 : decode bc_Y_lengthen 53 = .ok (.goto (-51), 3) := by decide +kernel
theorem dc_Y_lengthen_56 : decode bc_Y_lengthen 56 = .ok (.aload_n 0, 1) := by decide +kernel
theorem dc_Y_lengthen_57 : decode bc_Y_lengthen 57 = .ok (.getfield 15, 3) := by decide +kernel
theorem dc_Y_lengthen_60 : decode bc_Y_lengthen 60 = .ok (.iconst 0, 1) := by decide +kernel
theorem dc_Y_lengthen_61 : decode bc_Y_lengthen 61 = .ok (.aload_n 0, 1) := by decide +kernel
theorem dc_Y_lengthen_62 : decode bc_Y_lengthen 62 = .ok (.getfield 9, 3) := by decide +kernel
theorem dc_Y_lengthen_65 : decode bc_Y_lengthen 65 = .ok (.iconst 0, 1) := by decide +kernel
theorem dc_Y_lengthen_66 : decode bc_Y_lengthen 66 = .ok (.aload_n 1, 1) := by decide +kernel
theorem dc_Y_lengthen_67 : decode bc_Y_lengthen 67 = .ok (.getfield 18, 3) := by decide +kernel
theorem dc_Y_lengthen_70 : decode bc_Y_lengthen 70 = .ok (.invokestatic 32, 3) := by decide +kernel
theorem dc_Y_lengthen_73 : decode bc_Y_lengthen 73 = .ok (.return_, 1) := by decide +kernel
theorem dc_H_init_0 : decode bc_H_init 0 = .ok (.aload_n 0, 1) := by decide +kernel
theorem dc_H_init_1 : decode bc_H_init 1 = .ok (.invokespecial 3, 3) := by decide +kernel
theorem dc_H_init_4 : decode bc_H_init 4 = .ok (.aload_n 0, 1) := by decide +kernel
theorem dc_H_init_5 : decode bc_H_init 5 = .ok (.aload_n 1, 1) := by decide +kernel
theorem dc_H_init_6 : decode bc_H_init 6 = .ok (.putfield 9, 3) := by decide +kernel
theorem dc_H_init_9 : decode bc_H_init 9 = .ok (.aload_n 0, 1) := by decide +kernel
theorem dc_H_init_10 : decode bc_H_init 10 = .ok (.aload_n 2, 1) := by decide +kernel
theorem dc_H_init_11 : decode bc_H_init 11 = .ok (.putfield 15, 3) := by decide +kernel
theorem dc_H_init_14 : decode bc_H_init 14 = .ok (.return_, 1) := by decide +kernel
theorem dc_H_start_0 : decode bc_H_start 0 = .ok (.aload_n 0, 1) := by decide +kernel
theorem dc_H_start_1 : decode bc_H_start 1 = .ok (.iconst 0, 1) := by decide +kernel
theorem dc_H_start_2 : decode bc_H_start 2 = .ok (.iconst 0, 1) := by decide +kernel
theorem dc_H_start_3 : decode bc_H_start 3 = .ok (.invokevirtual 18, 3) := by decide +kernel
theorem dc_H_start_6 : decode bc_H_start 6 = .ok (.ireturn, 1) := by decide +kernel
theorem dc_H_step_0 : decode bc_H_step 0 = .ok (.aload_n 0, 1) := by decide +kernel
theorem dc_H_step_1 : decode bc_H_step 1 = .ok (.getfield 9, 3) := by decide +kernel
theorem dc_H_step_4 : decode bc_H_step 4 = .ok (.iload_n 1, 1) := by decide +kernel
theorem dc_H_step_5 : decode bc_H_step 5 = .ok (.sipush 1024, 3) := by decide +kernel
theorem dc_H_step_8 : decode bc_H_step 8 = .ok (.idiv, 1) := by decide +kernel
theorem dc_H_step_9 : decode bc_H_step 9 = .ok (.iload_n 2, 1) := by decide +kernel
theorem dc_H_step_10 : decode bc_H_step 10 = .ok (.invokevirtual 22, 3) := by decide +kernel
theorem dc_H_step_13 : decode bc_H_step 13 = .ok (.istore_n 3, 1) := by decide +kernel
theorem dc_H_step_14 : decode bc_H_step 14 = .ok (.aload_n 0, 1) := by decide +kernel
theorem dc_H_step_15 : decode bc_H_step 15 = .ok (.iload_n 3, 1) := by decide +kernel
theorem dc_H_step_16 : decode bc_H_step 16 = .ok (.aload_n 0, 1) := by decide +kernel
theorem dc_H_step_17 : decode bc_H_step 17 = .ok (.getfield 15, 3) := by decide +kernel
theorem dc_H_step_20 : decode bc_H_step 20 = .ok (.iload_n 1, 1) := by decide +kernel
theorem dc_H_step_21 : decode bc_H_step 21 = .ok (.sipush 1024, 3) := by decide +kernel
theorem dc_H_step_24 : decode bc_H_step 24 = .ok (.irem, 1) := by decide +kernel
theorem dc_H_step_25 : decode bc_H_step 25 = .ok (.iload_n 2, 1) := by decide +kernel
theorem dc_H_step_26 : decode bc_H_step 26 = .ok (.invokevirtual 27, 3) := by decide +kernel
theorem dc_H_step_29 : decode bc_H_step 29 = .ok (.invokevirtual 18, 3) := by decide +kernel
theorem dc_H_step_32 : decode bc_H_step 32 = .ok (.ireturn, 1) := by decide +kernel
theorem dc_H_accepts_0 : decode bc_H_accepts 0 = .ok (.iload_n 1, 1) := by decide +kernel
theorem dc_H_accepts_1 : decode bc_H_accepts 1 = .ok (.sipush 1024, 3) := by decide +kernel
theorem dc_H_accepts_4 : decode bc_H_accepts 4 = .ok (.irem, 1) := by decide +kernel
theorem dc_H_accepts_5 : decode bc_H_accepts 5 = .ok (.aload_n 0, 1) := by decide +kernel
theorem dc_H_accepts_6 : decode bc_H_accepts 6 = .ok (.getfield 15, 3) := by decide +kernel
theorem dc_H_accepts_9 : decode bc_H_accepts 9 = .ok (.getfield 30, 3) := by decide +kernel
theorem dc_H_accepts_12 : decode bc_H_accepts 12 = .ok (.iand, 1) := by decide +kernel
theorem dc_H_accepts_13 : decode bc_H_accepts 13 = .ok (.ifCond .eq 7, 3) := by decide +kernel
theorem dc_H_accepts_16 : decode bc_H_accepts 16 = .ok (.iconst 1, 1) := by decide +kernel
theorem dc_H_accepts_17 : decode bc_H_accepts 17 = .ok (.goto 4, 3) := by decide +kernel
theorem dc_H_accepts_20 : decode bc_H_accepts 20 = .ok (.iconst 0, 1) := by decide +kernel
theorem dc_H_accepts_21 : decode bc_H_accepts 21 = .ok (.ireturn, 1) := by decide +kernel
theorem dc_H_withBegun_0 : decode bc_H_withBegun 0 = .ok (.aload_n 0, 1) := by decide +kernel
theorem dc_H_withBegun_1 : decode bc_H_withBegun 1 = .ok (.getfield 9, 3) := by decide +kernel
theorem dc_H_withBegun_4 : decode bc_H_withBegun 4 = .ok (.iload_n 1, 1) := by decide +kernel
theorem dc_H_withBegun_5 : decode bc_H_withBegun 5 = .ok (.invokevirtual 34, 3) := by decide +kernel
theorem dc_H_withBegun_8 : decode bc_H_withBegun 8 = .ok (.ifCond .eq 7, 3) := by decide +kernel
theorem dc_H_withBegun_11 : decode bc_H_withBegun 11 = .ok (.iconst 1, 1) := by decide +kernel
theorem dc_H_withBegun_12 : decode bc_H_withBegun 12 = .ok (.goto 4, 3) := by decide +kernel
theorem dc_H_withBegun_15 : decode bc_H_withBegun 15 = .ok (.iconst 0, 1) := by decide +kernel
theorem dc_H_withBegun_16 : decode bc_H_withBegun 16 = .ok (.istore_n 3, 1) := by decide +kernel
theorem dc_H_withBegun_17 : decode bc_H_withBegun 17 = .ok (.iload_n 1, 1) := by decide +kernel
theorem dc_H_withBegun_18 : decode bc_H_withBegun 18 = .ok (.sipush 1024, 3) := by decide +kernel
theorem dc_H_withBegun_21 : decode bc_H_withBegun 21 = .ok (.imul, 1) := by decide +kernel
theorem dc_H_withBegun_22 : decode bc_H_withBegun 22 = .ok (.iload_n 2, 1) := by decide +kernel
theorem dc_H_withBegun_23 : decode bc_H_withBegun 23 = .ok (.iload_n 3, 1) := by decide +kernel
theorem dc_H_withBegun_24 : decode bc_H_withBegun 24 = .ok (.ior, 1) := by decide +kernel
theorem dc_H_withBegun_25 : decode bc_H_withBegun 25 = .ok (.iadd, 1) := by decide +kernel
theorem dc_H_withBegun_26 : decode bc_H_withBegun 26 = .ok (.ireturn, 1) := by decide +kernel
theorem dc_J_ntz_0 : decode bc_J_ntz 0 = .ok (.iload_n 0, 1) := by decide +kernel
theorem dc_J_ntz_1 : decode bc_J_ntz 1 = .ok (.iconst (-1), 1) := by decide +kernel
theorem dc_J_ntz_2 : decode bc_J_ntz 2 = .ok (.ixor, 1) := by decide +kernel
theorem dc_J_ntz_3 : decode bc_J_ntz 3 = .ok (.iload_n 0, 1) := by decide +kernel
theorem dc_J_ntz_4 : decode bc_J_ntz 4 = .ok (.iconst 1, 1) := by decide +kernel
theorem dc_J_ntz_5 : decode bc_J_ntz 5 = .ok (.isub, 1) := by decide +kernel
theorem dc_J_ntz_6 : decode bc_J_ntz 6 = .ok (.iand, 1) := by decide +kernel
theorem dc_J_ntz_7 : decode bc_J_ntz 7 = .ok (.istore_n 0, 1) := by decide +kernel
theorem dc_J_ntz_8 : decode bc_J_ntz 8 = .ok (.iload_n 0, 1) := by decide +kernel
theorem dc_J_ntz_9 : decode bc_J_ntz 9 = .ok (.ifCond .gt 8, 3) := by decide +kernel
theorem dc_J_ntz_12 : decode bc_J_ntz 12 = .ok (.iload_n 0, 1) := by decide +kernel
theorem dc_J_ntz_13 : decode bc_J_ntz 13 = .ok (.bipush 32, 2) := by decide +kernel
theorem dc_J_ntz_15 : decode bc_J_ntz 15 = .ok (.iand, 1) := by decide +kernel
theorem dc_J_ntz_16 : decode bc_J_ntz 16 = .ok (.ireturn, 1) := by decide +kernel
theorem dc_J_ntz_17 : decode bc_J_ntz 17 = .ok (.iconst 1, 1) := by decide +kernel
theorem dc_J_ntz_18 : decode bc_J_ntz 18 = .ok (.istore_n 1, 1) := by decide +kernel
theorem dc_J_ntz_19 : decode bc_J_ntz 19 = .ok (.iload_n 0, 1) := by decide +kernel
theorem dc_J_ntz_20 : decode bc_J_ntz 20 = .ok (.ldc_w 264, 3) := by decide +kernel
theorem dc_J_ntz_23 : decode bc_J_ntz 23 = .ok (.if_icmp .le 11, 3) := by decide +kernel
theorem dc_J_ntz_26 : decode bc_J_ntz 26 = .ok (.iinc 1 16, 3) := by decide +kernel
theorem dc_J_ntz_29 : decode bc_J_ntz 29 = .ok (.iload_n 0, 1) := by decide +kernel
theorem dc_J_ntz_30 : decode bc_J_ntz 30 = .ok (.bipush 16, 2) := by decide +kernel
theorem dc_J_ntz_32 : decode bc_J_ntz 32 = .ok (.iushr, 1) := by decide +kernel
theorem dc_J_ntz_33 : decode bc_J_ntz 33 = .ok (.istore_n 0, 1) := by decide +kernel
theorem dc_J_ntz_34 : decode bc_J_ntz 34 = .ok (.iload_n 0, 1) := by decide +kernel
theorem dc_J_ntz_35 : decode bc_J_ntz 35 = .ok (.sipush 256, 3) := by decide +kernel
theorem dc_J_ntz_38 : decode bc_J_ntz 38 = .ok (.if_icmp .le 11, 3) := by decide +kernel
theorem dc_J_ntz_41 : decode bc_J_ntz 41 = .ok (.iinc 1 8, 3) := by decide +kernel
theorem dc_J_ntz_44 : decode bc_J_ntz 44 = .ok (.iload_n 0, 1) := by decide +kernel
theorem dc_J_ntz_45 : decode bc_J_ntz 45 = .ok (.bipush 8, 2) := by decide +kernel
theorem dc_J_ntz_47 : decode bc_J_ntz 47 = .ok (.iushr, 1) := by decide +kernel
theorem dc_J_ntz_48 : decode bc_J_ntz 48 = .ok (.istore_n 0, 1) := by decide +kernel
theorem dc_J_ntz_49 : decode bc_J_ntz 49 = .ok (.iload_n 0, 1) := by decide +kernel
theorem dc_J_ntz_50 : decode bc_J_ntz 50 = .ok (.bipush 16, 2) := by decide +kernel
theorem dc_J_ntz_52 : decode bc_J_ntz 52 = .ok (.if_icmp .le 10, 3) := by decide +kernel
theorem dc_J_ntz_55 : decode bc_J_ntz 55 = .ok (.iinc 1 4, 3) := by decide +kernel
theorem dc_J_ntz_58 : decode bc_J_ntz 58 = .ok (.iload_n 0, 1) := by decide +kernel
theorem dc_J_ntz_59 : decode bc_J_ntz 59 = .ok (.iconst 4, 1) := by decide +kernel
theorem dc_J_ntz_60 : decode bc_J_ntz 60 = .ok (.iushr, 1) := by decide +kernel
theorem dc_J_ntz_61 : decode bc_J_ntz 61 = .ok (.istore_n 0, 1) := by decide +kernel
theorem dc_J_ntz_62 : decode bc_J_ntz 62 = .ok (.iload_n 0, 1) := by decide +kernel
theorem dc_J_ntz_63 : decode bc_J_ntz 63 = .ok (.iconst 4, 1) := by decide +kernel
theorem dc_J_ntz_64 : decode bc_J_ntz 64 = .ok (.if_icmp .le 10, 3) := by decide +kernel
theorem dc_J_ntz_67 : decode bc_J_ntz 67 = .ok (.iinc 1 2, 3) := by decide +kernel
theorem dc_J_ntz_70 : decode bc_J_ntz 70 = .ok (.iload_n 0, 1) := by decide +kernel
theorem dc_J_ntz_71 : decode bc_J_ntz 71 = .ok (.iconst 2, 1) := by decide +kernel
theorem dc_J_ntz_72 : decode bc_J_ntz 72 = .ok (.iushr, 1) := by decide +kernel
theorem dc_J_ntz_73 : decode bc_J_ntz 73 = .ok (.istore_n 0, 1) := by decide +kernel
theorem dc_J_ntz_74 : decode bc_J_ntz 74 = .ok (.iload_n 1, 1) := by decide +kernel
theorem dc_J_ntz_75 : decode bc_J_ntz 75 = .ok (.iload_n 0, 1) := by decide +kernel
theorem dc_J_ntz_76 : decode bc_J_ntz 76 = .ok (.iconst 1, 1) := by decide +kernel
theorem dc_J_ntz_77 : decode bc_J_ntz 77 = .ok (.iushr, 1) := by decide +kernel
theorem dc_J_ntz_78 : decode bc_J_ntz 78 = .ok (.iadd, 1) := by decide +kernel
theorem dc_J_ntz_79 : decode bc_J_ntz 79 = .ok (.ireturn, 1) := by decide +kernel
end
section

theorem rb_t {b : Bool} (h : b = true) : some (Value.int (nI 1)) = some (.int (bI b)) := by subst h; decide +kernel
theorem rb_f {b : Bool} (h : b = false) : some (Value.int (nI 0)) = some (.int (bI b)) := by subst h; decide +kernel
/-- the rests that the rests S of n come to -/
def aAll (S : Nat) (nx : Nat → Nat) : Nat → Nat
  | 0 => 0
  | k + 1 => if S.testBit k then aAll S nx k ||| 2 ^ nx k else aAll S nx k
/-- the rests of n that come into S -/
def bAll (S : Nat) (nx : Nat → Nat) : Nat → Nat
  | 0 => 0
  | k + 1 => if S.testBit (nx k) then bAll S nx k ||| 2 ^ k else bAll S nx k
theorem aAll_s {S : Nat} {nx : Nat → Nat} {k : Nat} (h : S.testBit k = true) : aAll S nx (k + 1) = aAll S nx k ||| 2 ^ nx k := by rw [aAll, if_pos h]
theorem aAll_n {S : Nat} {nx : Nat → Nat} {k : Nat} (h : S.testBit k = false) : aAll S nx (k + 1) = aAll S nx k := by rw [aAll, if_neg (by rw [h]; decide)]
theorem bAll_s {S : Nat} {nx : Nat → Nat} {k : Nat} (h : S.testBit (nx k) = true) : bAll S nx (k + 1) = bAll S nx k ||| 2 ^ k := by rw [bAll, if_pos h]
theorem bAll_n {S : Nat} {nx : Nat → Nat} {k : Nat} (h : S.testBit (nx k) = false) : bAll S nx (k + 1) = bAll S nx k := by rw [bAll, if_neg (by rw [h]; decide)]

abbrev rm_T_after : Room := { frames := 0, cells := 0, slots := 0, locals := 0 }
set_option maxRecDepth 100000 in
set_option maxHeartbeats 4000000 in
theorem c_T_after (l : Launch) (Γ : gG) (d : Nat → Nat) (hm : Nat) (mc : va_E) (so : Nat → Nat → Nat) (tl : Nat → Nat → Int64) (tb : Nat → Nat → Nat → Nat) (wr : va_W) (i r lt : Nat) (hi : i < 80) (hr : r < 10) (hlt : lt < 3) : cT l Γ my_T_after bc_T_after 3 (some .int) rm_T_after [.ref (d (20 + 3 * i)), .int (nI r), .int (nI lt)] (xW Γ d hm mc so tl tb wr) (S := Unit) (fun v _ => v = some (.int (nI (tb i 1 (r * 3 + lt))))) (fun _ => xW Γ d hm mc so tl tb wr) := by
  refine cT.start (by decide) (Nat.le_of_ble_eq_true rfl) (fun p e s m args below meth c ls Q hQ C hmn h hl => ?_)
  replace hl : lv_has ls 3 [(0, .ref (d (20 + 3 * i))), (1, .int (nI r)), (2, .int (nI lt))] := hl
  refine lv_aload_n C.x C.b dc_T_after_0 rfl (lv_at hl 0 rfl) ?_
  refine rg_get C h (17 + i) (lk_T (hi)) rfl in_T 3 (by decide) fl_T_9 rfl dc_T_after_1 ?_
  refine lv_iload_n C.x C.b dc_T_after_4 rfl (lv_at hl 1 rfl) ?_
  refine lv_iconst (v := (nI 3)) C.x C.b dc_T_after_5 (by decide +kernel) ?_
  refine lv_imul C.x C.b dc_T_after_6 ?_
  refine tp_i (pk_mul r 3) ?_
  refine lv_iload_n C.x C.b dc_T_after_7 rfl (lv_at hl 2 rfl) ?_
  refine lv_iadd C.x C.b dc_T_after_8 ?_
  refine tp_i (nI_add (r * 3) lt) ?_
  refine rg_ild C h (97 + i) (lk_N (hi)) (by omega) (by decide) dc_T_after_9 ?_
  rw [hQ]
  exact rt_i C () h (rfl) dc_T_after_10

abbrev rm_T_endsAt : Room := { frames := 0, cells := 0, slots := 0, locals := 0 }
set_option maxRecDepth 100000 in
set_option maxHeartbeats 4000000 in
theorem c_T_endsAt (l : Launch) (Γ : gG) (d : Nat → Nat) (hm : Nat) (mc : va_E) (so : Nat → Nat → Nat) (tl : Nat → Nat → Int64) (tb : Nat → Nat → Nat → Nat) (wr : va_W) (i r : Nat) (hi : i < 80) (hr : r < 31) (he : tb i 0 1 < 2 ^ 31) : cT l Γ my_T_endsAt bc_T_endsAt 2 (some .boolean) rm_T_endsAt [.ref (d (20 + 3 * i)), .int (nI r)] (xW Γ d hm mc so tl tb wr) (S := Unit) (fun v _ => v = some (.int (bI ((tb i 0 1).testBit r)))) (fun _ => xW Γ d hm mc so tl tb wr) := by
  refine cT.start (by decide) (Nat.le_of_ble_eq_true rfl) (fun p e s m args below meth c ls Q hQ C hmn h hl => ?_)
  replace hl : lv_has ls 2 [(0, .ref (d (20 + 3 * i))), (1, .int (nI r))] := hl
  refine lv_aload_n C.x C.b dc_T_endsAt_0 rfl (lv_at hl 0 rfl) ?_
  refine rg_get C h (17 + i) (lk_T (hi)) rfl in_T 1 (by decide) fl_T_18 rfl dc_T_endsAt_1 ?_
  refine lv_iload_n C.x C.b dc_T_endsAt_4 rfl (lv_at hl 1 rfl) ?_
  refine lv_ishr C.x C.b dc_T_endsAt_5 ?_
  refine tp_i (nI_shr (a := (tb i 0 1)) (n := r) (by omega) (by omega)) ?_
  refine lv_iconst (v := (nI 1)) C.x C.b dc_T_endsAt_6 (by decide +kernel) ?_
  refine lv_iand C.x C.b dc_T_endsAt_7 ?_
  refine tp_i (nI_and1 ((tb i 0 1) / 2 ^ r)) ?_
  refine bz_eq (tgt := 15) C (by omega) dc_T_endsAt_8 (by decide) (fun q8 => ?_) (fun q8 => ?_)
  · refine lv_iconst (v := (nI 0)) C.x C.b dc_T_endsAt_15 (by decide +kernel) ?_
    rw [hQ]
    exact rt_z C () h (rb_f ((tb_iff0 _ _).mp q8)) (by decide +kernel) dc_T_endsAt_16
  · refine lv_iconst (v := (nI 1)) C.x C.b dc_T_endsAt_11 (by decide +kernel) ?_
    refine lv_goto (tgt := 16) C.x C.b dc_T_endsAt_12 (by decide) ?_
    rw [hQ]
    exact rt_z C () h (rb_t ((tb_iff _ _).mp q8)) (by decide +kernel) dc_T_endsAt_16

abbrev rm_T_afterAll : Room := { frames := 1, cells := 0, slots := 0, locals := 22 }
set_option maxRecDepth 100000 in
set_option maxHeartbeats 4000000 in
theorem c_T_afterAll (l : Launch) (Γ : gG) (d : Nat → Nat) (hm : Nat) (mc : va_E) (so : Nat → Nat → Nat) (tl : Nat → Nat → Int64) (tb : Nat → Nat → Nat → Nat) (wr : va_W) (i S lt : Nat) (hi : i < 80) (hS : S < 2 ^ 31) (hlt : lt < 3) (hrc : tb i 0 0 ≤ 10) (hnx : ∀ r, r < tb i 0 0 → tb i 1 (r * 3 + lt) < 10) : cT l Γ my_T_afterAll bc_T_afterAll 5 (some .int) rm_T_afterAll [.ref (d (20 + 3 * i)), .int (nI S), .int (nI lt)] (xW Γ d hm mc so tl tb wr) (S := Unit) (fun v _ => v = some (.int (nI (aAll S (fun r => tb i 1 (r * 3 + lt)) (tb i 0 0) &&& tb i 0 2)))) (fun _ => xW Γ d hm mc so tl tb wr) := by
  refine cT.start (by decide) (Nat.le_of_ble_eq_true rfl) (fun p e s m args below meth c ls Q hQ C hmn h hl => ?_)
  replace hl : lv_has ls 5 [(0, .ref (d (20 + 3 * i))), (1, .int (nI S)), (2, .int (nI lt))] := hl
  refine lv_iconst (v := (nI 0)) C.x C.b dc_T_afterAll_0 (by decide +kernel) ?_
  refine lv_istore_n (lv' := [(3, .int (nI 0)), (0, .ref (d (20 + 3 * i))), (1, .int (nI S)), (2, .int (nI lt))]) C.x C.b dc_T_afterAll_1 rfl hl (by decide) rfl (fun ls hl => ?_)
  refine lv_iconst (v := (nI 0)) C.x C.b dc_T_afterAll_2 (by decide +kernel) ?_
  refine lv_istore (lv' := [(4, .int (nI 0)), (3, .int (nI 0)), (0, .ref (d (20 + 3 * i))), (1, .int (nI S)), (2, .int (nI lt))]) C.x C.b dc_T_afterAll_3 hl (by decide) rfl (fun ls hl => ?_)
  have lp_5 : ∀ (n_5 : Nat) (k : Nat) (H : Heap) (locs : List Loc) (ls : Array Slot), tb i 0 0 - k < n_5 → (k ≤ tb i 0 0) → sT Γ s (xW Γ d hm mc so tl tb wr) H locs → lv_has ls 5 [(4, .int (nI k)), (3, .int (nI (aAll S (fun r => tb i 1 (r * 3 + lt)) k))), (0, .ref (d (20 + 3 * i))), (1, .int (nI S)), (2, .int (nI lt))] → W p l e rm_T_afterAll s m args below meth c H locs 0 0 Q (F0 m 5 ls []) := by
    intro n_5
    induction n_5 with
    | zero => intro k H locs ls hms; exact absurd hms (Nat.not_lt_zero _)
    | succ n_5 ih_5 =>
      intro k H locs ls hms hk h hl
      refine lv_iload C.x C.b dc_T_afterAll_5 (lv_at hl 0 rfl) ?_
      refine lv_aload_n C.x C.b dc_T_afterAll_7 rfl (lv_at hl 2 rfl) ?_
      refine rg_get C h (17 + i) (lk_T (hi)) rfl in_T 0 (by decide) fl_T_22 rfl dc_T_afterAll_8 ?_
      refine bc_ge (tgt := 41) C (by omega) (by omega) dc_T_afterAll_11 (by decide) (fun q11 => ?_) (fun q11 => ?_)
      · refine lv_iload_n C.x C.b dc_T_afterAll_41 rfl (lv_at hl 1 rfl) ?_
        refine lv_aload_n C.x C.b dc_T_afterAll_42 rfl (lv_at hl 2 rfl) ?_
        refine rg_get C h (17 + i) (lk_T (hi)) rfl in_T 2 (by decide) fl_T_29 rfl dc_T_afterAll_43 ?_
        refine lv_iand C.x C.b dc_T_afterAll_46 ?_
        refine tp_i (nI_and (aAll S (fun r => tb i 1 (r * 3 + lt)) k) (tb i 0 2)) ?_
        rw [hQ]
        exact rt_i C () h (by rw [show k = tb i 0 0 by omega]) dc_T_afterAll_47
      · refine lv_iload_n C.x C.b dc_T_afterAll_14 rfl (lv_at hl 3 rfl) ?_
        refine lv_iload C.x C.b dc_T_afterAll_15 (lv_at hl 0 rfl) ?_
        refine lv_ishr C.x C.b dc_T_afterAll_17 ?_
        refine tp_i (nI_shr (a := S) (n := k) (by omega) (by omega)) ?_
        refine lv_iconst (v := (nI 1)) C.x C.b dc_T_afterAll_18 (by decide +kernel) ?_
        refine lv_iand C.x C.b dc_T_afterAll_19 ?_
        refine tp_i (nI_and1 (S / 2 ^ k)) ?_
        refine bz_eq (tgt := 35) C (by omega) dc_T_afterAll_20 (by decide) (fun q20 => ?_) (fun q20 => ?_)
        · refine lv_iinc (v := nI (k + 1)) (lv' := [(4, .int (nI (k + 1))), (3, .int (nI (aAll S (fun r => tb i 1 (r * 3 + lt)) k))), (0, .ref (d (20 + 3 * i))), (1, .int (nI S)), (2, .int (nI lt))]) C.x C.b dc_T_afterAll_35 hl (k := 0) rfl (nI_1 k) (by decide) rfl (fun ls hl => ?_)
          refine lv_goto (tgt := 5) C.x C.b dc_T_afterAll_38 (by decide) ?_
          rw [show aAll S (fun r => tb i 1 (r * 3 + lt)) k = aAll S (fun r => tb i 1 (r * 3 + lt)) (k + 1) from (aAll_n ((tb_iff0 _ _).mp q20)).symm] at hl
          exact ih_5 (k + 1) _ _ _ (by omega) (by first | assumption | omega) h (lv_sub hl [0, 1, 2, 3, 4] rfl)
        · refine lv_iload_n C.x C.b dc_T_afterAll_23 rfl (lv_at hl 1 rfl) ?_
          refine lv_iconst (v := (nI 1)) C.x C.b dc_T_afterAll_24 (by decide +kernel) ?_
          refine lv_aload_n C.x C.b dc_T_afterAll_25 rfl (lv_at hl 2 rfl) ?_
          refine lv_iload C.x C.b dc_T_afterAll_26 (lv_at hl 0 rfl) ?_
          refine lv_iload_n C.x C.b dc_T_afterAll_28 rfl (lv_at hl 4 rfl) ?_
          refine kv_V (As := [.int (nI k), .int (nI lt)]) (rest := [.int (nI 1), .int (nI (aAll S (fun r => tb i 1 (r * 3 + lt)) k))]) C h hl.1 (c_T_after l Γ d hm mc so tl tb wr i k lt (hi) (by omega) (by omega)) mw_T_after lk_T_25 (q0 := (17 + i)) (lk_T (hi)) rfl rfl (by decide) (by decide) (Nat.le_of_ble_eq_true rfl) dc_T_afterAll_29 (fun v u H locs hp h => ?_)
          obtain rfl := hp
          replace h : sT Γ s (xW Γ d hm mc so tl tb wr) H locs := h
          refine W.eq (g2 := F0 m 32 ls [.int (nI (tb i 1 (k * 3 + lt))), .int (nI 1), .int (nI (aAll S (fun r => tb i 1 (r * 3 + lt)) k))]) rfl ?_
          refine lv_ishl C.x C.b dc_T_afterAll_32 ?_
          refine tp_i (nI_shl1 (n := (tb i 1 (k * 3 + lt))) (Nat.lt_of_lt_of_le (hnx _ (by omega)) (by decide))) ?_
          refine lv_ior C.x C.b dc_T_afterAll_33 ?_
          refine tp_i (nI_or (aAll S (fun r => tb i 1 (r * 3 + lt)) k) (2 ^ (tb i 1 (k * 3 + lt)))) ?_
          refine lv_istore_n (lv' := [(3, .int (nI ((aAll S (fun r => tb i 1 (r * 3 + lt)) k) ||| (2 ^ (tb i 1 (k * 3 + lt)))))), (4, .int (nI k)), (0, .ref (d (20 + 3 * i))), (1, .int (nI S)), (2, .int (nI lt))]) C.x C.b dc_T_afterAll_34 rfl hl (by decide) rfl (fun ls hl => ?_)
          refine lv_iinc (v := nI (k + 1)) (lv' := [(4, .int (nI (k + 1))), (3, .int (nI ((aAll S (fun r => tb i 1 (r * 3 + lt)) k) ||| (2 ^ (tb i 1 (k * 3 + lt)))))), (0, .ref (d (20 + 3 * i))), (1, .int (nI S)), (2, .int (nI lt))]) C.x C.b dc_T_afterAll_35 hl (k := 1) rfl (nI_1 k) (by decide) rfl (fun ls hl => ?_)
          refine lv_goto (tgt := 5) C.x C.b dc_T_afterAll_38 (by decide) ?_
          rw [show aAll S (fun r => tb i 1 (r * 3 + lt)) k ||| 2 ^ tb i 1 (k * 3 + lt) = aAll S (fun r => tb i 1 (r * 3 + lt)) (k + 1) from (aAll_s (nx := (fun r => tb i 1 (r * 3 + lt))) ((tb_iff _ _).mp q20)).symm] at hl
          exact ih_5 (k + 1) _ _ _ (by omega) (by first | assumption | omega) h (lv_sub hl [0, 1, 2, 3, 4] rfl)
  exact lp_5 _ 0 _ _ _ (Nat.lt_succ_self _) (by first | assumption | omega) h (lv_sub hl [0, 1, 2, 3, 4] rfl)

abbrev rm_T_beforeAll : Room := { frames := 1, cells := 0, slots := 0, locals := 22 }
set_option maxRecDepth 100000 in
set_option maxHeartbeats 4000000 in
theorem c_T_beforeAll (l : Launch) (Γ : gG) (d : Nat → Nat) (hm : Nat) (mc : va_E) (so : Nat → Nat → Nat) (tl : Nat → Nat → Int64) (tb : Nat → Nat → Nat → Nat) (wr : va_W) (i S lt : Nat) (hi : i < 80) (hS : S < 2 ^ 31) (hlt : lt < 3) (hrc : tb i 0 0 ≤ 10) (hnx : ∀ r, r < tb i 0 0 → tb i 1 (r * 3 + lt) < 10) : cT l Γ my_T_beforeAll bc_T_beforeAll 5 (some .int) rm_T_beforeAll [.ref (d (20 + 3 * i)), .int (nI S), .int (nI lt)] (xW Γ d hm mc so tl tb wr) (S := Unit) (fun v _ => v = some (.int (nI (bAll S (fun r => tb i 1 (r * 3 + lt)) (tb i 0 0))))) (fun _ => xW Γ d hm mc so tl tb wr) := by
  refine cT.start (by decide) (Nat.le_of_ble_eq_true rfl) (fun p e s m args below meth c ls Q hQ C hmn h hl => ?_)
  replace hl : lv_has ls 5 [(0, .ref (d (20 + 3 * i))), (1, .int (nI S)), (2, .int (nI lt))] := hl
  refine lv_iconst (v := (nI 0)) C.x C.b dc_T_beforeAll_0 (by decide +kernel) ?_
  refine lv_istore_n (lv' := [(3, .int (nI 0)), (0, .ref (d (20 + 3 * i))), (1, .int (nI S)), (2, .int (nI lt))]) C.x C.b dc_T_beforeAll_1 rfl hl (by decide) rfl (fun ls hl => ?_)
  refine lv_iconst (v := (nI 0)) C.x C.b dc_T_beforeAll_2 (by decide +kernel) ?_
  refine lv_istore (lv' := [(4, .int (nI 0)), (3, .int (nI 0)), (0, .ref (d (20 + 3 * i))), (1, .int (nI S)), (2, .int (nI lt))]) C.x C.b dc_T_beforeAll_3 hl (by decide) rfl (fun ls hl => ?_)
  have lp_5 : ∀ (n_5 : Nat) (k : Nat) (H : Heap) (locs : List Loc) (ls : Array Slot), tb i 0 0 - k < n_5 → (k ≤ tb i 0 0) → sT Γ s (xW Γ d hm mc so tl tb wr) H locs → lv_has ls 5 [(4, .int (nI k)), (3, .int (nI (bAll S (fun r => tb i 1 (r * 3 + lt)) k))), (0, .ref (d (20 + 3 * i))), (1, .int (nI S)), (2, .int (nI lt))] → W p l e rm_T_beforeAll s m args below meth c H locs 0 0 Q (F0 m 5 ls []) := by
    intro n_5
    induction n_5 with
    | zero => intro k H locs ls hms; exact absurd hms (Nat.not_lt_zero _)
    | succ n_5 ih_5 =>
      intro k H locs ls hms hk h hl
      refine lv_iload C.x C.b dc_T_beforeAll_5 (lv_at hl 0 rfl) ?_
      refine lv_aload_n C.x C.b dc_T_beforeAll_7 rfl (lv_at hl 2 rfl) ?_
      refine rg_get C h (17 + i) (lk_T (hi)) rfl in_T 0 (by decide) fl_T_22 rfl dc_T_beforeAll_8 ?_
      refine bc_ge (tgt := 41) C (by omega) (by omega) dc_T_beforeAll_11 (by decide) (fun q11 => ?_) (fun q11 => ?_)
      · refine lv_iload_n C.x C.b dc_T_beforeAll_41 rfl (lv_at hl 1 rfl) ?_
        rw [hQ]
        exact rt_i C () h (by rw [show k = tb i 0 0 by omega]) dc_T_beforeAll_42
      · refine lv_iload_n C.x C.b dc_T_beforeAll_14 rfl (lv_at hl 3 rfl) ?_
        refine lv_aload_n C.x C.b dc_T_beforeAll_15 rfl (lv_at hl 2 rfl) ?_
        refine lv_iload C.x C.b dc_T_beforeAll_16 (lv_at hl 0 rfl) ?_
        refine lv_iload_n C.x C.b dc_T_beforeAll_18 rfl (lv_at hl 4 rfl) ?_
        refine kv_V (As := [.int (nI k), .int (nI lt)]) (rest := [.int (nI S)]) C h hl.1 (c_T_after l Γ d hm mc so tl tb wr i k lt (hi) (by omega) (by omega)) mw_T_after lk_T_25 (q0 := (17 + i)) (lk_T (hi)) rfl rfl (by decide) (by decide) (Nat.le_of_ble_eq_true rfl) dc_T_beforeAll_19 (fun v u H locs hp h => ?_)
        obtain rfl := hp
        replace h : sT Γ s (xW Γ d hm mc so tl tb wr) H locs := h
        refine W.eq (g2 := F0 m 22 ls [.int (nI (tb i 1 (k * 3 + lt))), .int (nI S)]) rfl ?_
        refine lv_ishr C.x C.b dc_T_beforeAll_22 ?_
        refine tp_i (nI_shr (a := S) (n := (tb i 1 (k * 3 + lt))) (by omega) (Nat.lt_of_lt_of_le (hnx _ (by omega)) (by decide))) ?_
        refine lv_iconst (v := (nI 1)) C.x C.b dc_T_beforeAll_23 (by decide +kernel) ?_
        refine lv_iand C.x C.b dc_T_beforeAll_24 ?_
        refine tp_i (nI_and1 (S / 2 ^ (tb i 1 (k * 3 + lt)))) ?_
        refine bz_eq (tgt := 35) C (by omega) dc_T_beforeAll_25 (by decide) (fun q25 => ?_) (fun q25 => ?_)
        · refine lv_iinc (v := nI (k + 1)) (lv' := [(4, .int (nI (k + 1))), (3, .int (nI (bAll S (fun r => tb i 1 (r * 3 + lt)) k))), (0, .ref (d (20 + 3 * i))), (1, .int (nI S)), (2, .int (nI lt))]) C.x C.b dc_T_beforeAll_35 hl (k := 0) rfl (nI_1 k) (by decide) rfl (fun ls hl => ?_)
          refine lv_goto (tgt := 5) C.x C.b dc_T_beforeAll_38 (by decide) ?_
          rw [show bAll S (fun r => tb i 1 (r * 3 + lt)) k = bAll S (fun r => tb i 1 (r * 3 + lt)) (k + 1) from (bAll_n (nx := (fun r => tb i 1 (r * 3 + lt))) ((tb_iff0 _ _).mp q25)).symm] at hl
          exact ih_5 (k + 1) _ _ _ (by omega) (by first | assumption | omega) h (lv_sub hl [0, 1, 2, 3, 4] rfl)
        · refine lv_iload_n C.x C.b dc_T_beforeAll_28 rfl (lv_at hl 1 rfl) ?_
          refine lv_iconst (v := (nI 1)) C.x C.b dc_T_beforeAll_29 (by decide +kernel) ?_
          refine lv_iload C.x C.b dc_T_beforeAll_30 (lv_at hl 0 rfl) ?_
          refine lv_ishl C.x C.b dc_T_beforeAll_32 ?_
          refine tp_i (nI_shl1 (n := k) (by omega)) ?_
          refine lv_ior C.x C.b dc_T_beforeAll_33 ?_
          refine tp_i (nI_or (bAll S (fun r => tb i 1 (r * 3 + lt)) k) (2 ^ k)) ?_
          refine lv_istore_n (lv' := [(3, .int (nI ((bAll S (fun r => tb i 1 (r * 3 + lt)) k) ||| (2 ^ k)))), (4, .int (nI k)), (0, .ref (d (20 + 3 * i))), (1, .int (nI S)), (2, .int (nI lt))]) C.x C.b dc_T_beforeAll_34 rfl hl (by decide) rfl (fun ls hl => ?_)
          refine lv_iinc (v := nI (k + 1)) (lv' := [(4, .int (nI (k + 1))), (3, .int (nI ((bAll S (fun r => tb i 1 (r * 3 + lt)) k) ||| (2 ^ k)))), (0, .ref (d (20 + 3 * i))), (1, .int (nI S)), (2, .int (nI lt))]) C.x C.b dc_T_beforeAll_35 hl (k := 1) rfl (nI_1 k) (by decide) rfl (fun ls hl => ?_)
          refine lv_goto (tgt := 5) C.x C.b dc_T_beforeAll_38 (by decide) ?_
          rw [show bAll S (fun r => tb i 1 (r * 3 + lt)) k ||| 2 ^ k = bAll S (fun r => tb i 1 (r * 3 + lt)) (k + 1) from (bAll_s (nx := (fun r => tb i 1 (r * 3 + lt))) ((tb_iff _ _).mp q25)).symm] at hl
          exact ih_5 (k + 1) _ _ _ (by omega) (by first | assumption | omega) h (lv_sub hl [0, 1, 2, 3, 4] rfl)
  exact lp_5 _ 0 _ _ _ (Nat.lt_succ_self _) (by first | assumption | omega) h (lv_sub hl [0, 1, 2, 3, 4] rfl)


/-- is there a word of k letters from rest r? -/
def dlv (e : Nat) (nx : Nat → Nat) : Nat → Nat → Bool
  | 0, r => e.testBit r
  | k + 1, r => dlv e nx k (nx (r * 3)) || (dlv e nx k (nx (r * 3 + 1)) || dlv e nx k (nx (r * 3 + 2)))
theorem dlv_s {e : Nat} {nx : Nat → Nat} {k r : Nat} : dlv e nx (k + 1) r = true ↔ ∃ l, l < 3 ∧ dlv e nx k (nx (r * 3 + l)) = true := by
  simp only [dlv, Bool.or_eq_true]
  constructor
  · rintro (h | h | h)
    · exact ⟨0, by decide, h⟩
    · exact ⟨1, by decide, h⟩
    · exact ⟨2, by decide, h⟩
  · rintro ⟨l, hl, h⟩
    have : l = 0 ∨ l = 1 ∨ l = 2 := by omega
    rcases this with rfl | rfl | rfl
    · exact Or.inl h
    · exact Or.inr (Or.inl h)
    · exact Or.inr (Or.inr h)
/-- the code c (0: none, k + 1: k) is the length of r's shortest word, as far as words of fewer than b letters go -/
def fOK (e : Nat) (nx : Nat → Nat) (b r c : Nat) : Prop := (c = 0 → ∀ k, k < b → dlv e nx k r = false) ∧ ∀ k, c = k + 1 → dlv e nx k r = true ∧ ∀ j, j < k → dlv e nx j r = false
def mK (tb tb' : Nat → Nat → Nat → Nat) (i : Nat) : Prop := (∀ a, a ≠ i → tb' a = tb a) ∧ tb' i 0 0 = tb i 0 0 ∧ tb' i 0 1 = tb i 0 1 ∧ tb' i 1 = tb i 1
theorem mK.rf {tb : Nat → Nat → Nat → Nat} {i : Nat} : mK tb tb i := ⟨fun _ _ => rfl, rfl, rfl, rfl⟩
theorem mK.far {tb tb' : Nat → Nat → Nat → Nat} {i : Nat} (h : mK tb tb' i) (f : Nat → Nat) : mK tb (us tb' i (us (tb' i) 2 f)) i := by
  obtain ⟨h1, h2, h3, h4⟩ := h
  refine ⟨fun a ha => by rw [us_n _ _ ha]; exact h1 a ha, ?_, ?_, ?_⟩
  · rw [us_s, us_n _ _ (by decide)]; exact h2
  · rw [us_s, us_n _ _ (by decide)]; exact h3
  · rw [us_s, us_n _ _ (by decide)]; exact h4
theorem mK.live {tb tb' : Nat → Nat → Nat → Nat} {i : Nat} (h : mK tb tb' i) (v : Nat) : mK tb (us tb' i (us (tb' i) 0 (us (tb' i 0) 2 v))) i := by
  obtain ⟨h1, h2, h3, h4⟩ := h
  refine ⟨fun a ha => by rw [us_n _ _ ha]; exact h1 a ha, ?_, ?_, ?_⟩
  · rw [us_s, us_s, us_n _ _ (by decide)]; exact h2
  · rw [us_s, us_s, us_n _ _ (by decide)]; exact h3
  · rw [us_s, us_n _ _ (by decide)]; exact h4
def mL1 (tb tb' : Nat → Nat → Nat → Nat) (i k : Nat) : Prop := mK tb tb' i ∧ tb' i 0 2 = tb i 0 1 ∧ ∀ r, r < k → tb' i 2 r = if (tb i 0 1).testBit r then 1 else 0
theorem mL1.st {tb tb' : Nat → Nat → Nat → Nat} {i k v : Nat} (h : mL1 tb tb' i k) (hv : v = if (tb i 0 1).testBit k then 1 else 0) : mL1 tb (us tb' i (us (tb' i) 2 (us (tb' i 2) k v))) i (k + 1) := by
  refine ⟨h.1.far _, ?_, fun r hr => ?_⟩
  · rw [us_s, us_n _ _ (by decide)]; exact h.2.1
  · rw [us_s, us_s]
    by_cases hk : r = k
    · subst hk; rw [us_s]; exact hv
    · rw [us_n _ _ hk]; exact h.2.2 r (by omega)
def mL2 (tb tb' : Nat → Nat → Nat → Nat) (i L r0 : Nat) : Prop := mK tb tb' i ∧ tb' i 0 2 < 1024 ∧ ∀ r, r < tb i 0 0 → fOK (tb i 0 1) (tb i 1) (if r < r0 then L + 1 else L) r (tb' i 2 r) ∧ tb' i 2 r ≤ L + 1 ∧ (tb' i 0 2).testBit r = decide (tb' i 2 r ≠ 0)
theorem mL2.of {tb tb' : Nat → Nat → Nat → Nat} {i : Nat} (h : mL1 tb tb' i (tb i 0 0)) (he : tb i 0 1 < 1024) : mL2 tb tb' i 1 0 := by
  refine ⟨h.1, by rw [h.2.1]; exact he, fun r hr => ?_⟩
  rw [h.2.2 r hr, h.2.1]
  cases hb : (tb i 0 1).testBit r
  · refine ⟨⟨fun _ k hk => ?_, fun k hk => ?_⟩, by simp, by simp⟩
    · simp at hk; subst hk; exact hb
    · simp at hk
  · refine ⟨⟨fun hk => ?_, fun k hk => ?_⟩, by simp, by simp⟩
    · simp at hk
    · simp at hk; subst hk; exact ⟨hb, fun j hj => absurd hj (Nat.not_lt_zero _)⟩
theorem mL2.up {tb tb' : Nat → Nat → Nat → Nat} {i L r0 : Nat} (h : mL2 tb tb' i L r0) (hr : tb i 0 0 ≤ r0) : mL2 tb tb' i (L + 1) 0 := by
  refine ⟨h.1, h.2.1, fun r q => ?_⟩
  obtain ⟨a, b, c⟩ := h.2.2 r q
  rw [if_pos (by omega)] at a
  rw [if_neg (Nat.not_lt_zero _)]
  exact ⟨a, by omega, c⟩
/-- nothing new at r0: it has a code, or no letter leads to a rest with a word of L - 1 letters -/
theorem mL2.no {tb tb' : Nat → Nat → Nat → Nat} {i L r0 : Nat} (hL : 1 ≤ L) (hr0 : r0 < tb i 0 0) (hnx : ∀ r l, r < tb i 0 0 → l < 3 → tb i 1 (r * 3 + l) < tb i 0 0) (h : mL2 tb tb' i L r0) (hn : tb' i 2 r0 ≠ 0 ∨ ∀ l, l < 3 → tb' i 2 (tb i 1 (r0 * 3 + l)) ≠ L) : mL2 tb tb' i L (r0 + 1) := by
  refine ⟨h.1, h.2.1, fun r q => ?_⟩
  obtain ⟨a, b, c⟩ := h.2.2 r q
  refine ⟨?_, b, c⟩
  by_cases hr : r = r0
  · subst hr
    rw [if_neg (Nat.lt_irrefl _)] at a
    rw [if_pos (Nat.lt_succ_self _)]
    refine ⟨fun h0 k hk => ?_, a.2⟩
    by_cases hk2 : k < L
    · exact a.1 h0 k hk2
    · have e : k = L := by omega
      subst e
      cases hd : dlv (tb i 0 1) (tb i 1) k r with
      | false => rfl
      | true =>
        exfalso
        obtain ⟨j, rfl⟩ : ∃ j, k = j + 1 := ⟨k - 1, by omega⟩
        obtain ⟨l, hl, hd2⟩ := dlv_s.mp hd
        have hn2 := hn.resolve_left (fun z => z h0) l hl
        have hx := hnx r l q hl
        obtain ⟨a2, -, -⟩ := h.2.2 _ hx
        have hb : j < (if tb i 1 (r * 3 + l) < r then j + 1 + 1 else j + 1) := by split <;> omega
        cases hc : tb' i 2 (tb i 1 (r * 3 + l)) with
        | zero => rw [a2.1 hc j hb] at hd2; cases hd2
        | succ z =>
          obtain ⟨z1, z2⟩ := a2.2 z hc
          have hz : z ≠ j := fun e => hn2 (by rw [hc, e])
          by_cases hz2 : z < j
          · have := a.1 h0 (z + 1) (by omega)
            rw [dlv_s.mpr ⟨l, hl, z1⟩] at this
            cases this
          · have := z2 j (by omega)
            rw [this] at hd2
            cases hd2
  · by_cases hr2 : r < r0
    · rw [if_pos hr2] at a; rw [if_pos (by omega)]; exact a
    · rw [if_neg hr2] at a; rw [if_neg (by omega)]; exact a
theorem mL2.yes {tb tb' : Nat → Nat → Nat → Nat} {i L r0 l : Nat} (hL : 1 ≤ L) (hr0 : r0 < tb i 0 0) (h10 : tb i 0 0 ≤ 10) (hnx : ∀ r l, r < tb i 0 0 → l < 3 → tb i 1 (r * 3 + l) < tb i 0 0) (h : mL2 tb tb' i L r0) (h0 : tb' i 2 r0 = 0) (hl : l < 3) (hc : tb' i 2 (tb i 1 (r0 * 3 + l)) = L) {t1 t2 : Nat → Nat → Nat → Nat} (e1 : t1 = us tb' i (us (tb' i) 2 (us (tb' i 2) r0 (L + 1)))) (e2 : t2 = us t1 i (us (t1 i) 0 (us (t1 i 0) 2 (t1 i 0 2 ||| 2 ^ r0)))) : mL2 tb t2 i L (r0 + 1) := by
  have k1 : mK tb t1 i := by rw [e1]; exact h.1.far _
  have l1 : t1 i 0 2 = tb' i 0 2 := by rw [e1, us_s, us_n _ _ (by decide)]
  have f1 : t2 i 2 = us (tb' i 2) r0 (L + 1) := by rw [e2, us_s, us_n _ _ (by decide), e1, us_s, us_s]
  have l2 : t2 i 0 2 = tb' i 0 2 ||| 2 ^ r0 := by rw [e2, us_s, us_s, us_s, l1]
  refine ⟨by rw [e2]; exact k1.live _, ?_, fun r q => ?_⟩
  · rw [l2]
    exact Nat.or_lt_two_pow (n := 10) h.2.1 (Nat.pow_lt_pow_right (by decide) (by omega))
  obtain ⟨a, b, c⟩ := h.2.2 r q
  rw [f1, l2, Nat.testBit_or, Nat.testBit_two_pow, c]
  by_cases hr : r = r0
  · subst hr
    rw [us_s]
    refine ⟨⟨fun z => by omega, fun k hk => ?_⟩, by omega, by simp⟩
    have e : k = L := by omega
    subst e
    rw [if_neg (Nat.lt_irrefl _)] at a
    obtain ⟨j, rfl⟩ : ∃ j, k = j + 1 := ⟨k - 1, by omega⟩
    exact ⟨dlv_s.mpr ⟨l, hl, ((h.2.2 _ (hnx r l q hl)).1.2 j hc).1⟩, a.1 h0⟩
  · rw [us_n _ _ hr]
    refine ⟨?_, b, by simp [Ne.symm hr]⟩
    by_cases hr2 : r < r0
    · rw [if_pos hr2] at a; rw [if_pos (by omega)]; exact a
    · rw [if_neg hr2] at a; rw [if_neg (by omega)]; exact a

abbrev rm_T_matches : Room := { frames := 0, cells := 0, slots := 0, locals := 0 }
set_option maxRecDepth 100000 in
set_option maxHeartbeats 4000000 in
theorem c_T_matches (l : Launch) (Γ : gG) (d : Nat → Nat) (hm : Nat) (mc : va_E) (so : Nat → Nat → Nat) (tl : Nat → Nat → Int64) (tb : Nat → Nat → Nat → Nat) (wr : va_W) (i j : Nat) (hi : i < 80) (hj : j < 80) (hrc : tb i 0 0 ≤ 10) (hrj : tb j 0 0 ≤ 10) (hei : tb i 0 1 < 2 ^ 31) (hej : tb j 0 1 < 2 ^ 31) (hni : ∀ k, k < tb i 0 0 * 3 → tb i 1 k < 10) (hnj : ∀ k, k < tb j 0 0 * 3 → tb j 1 k < 10) : cT l Γ my_T_matches bc_T_matches 3 (some .boolean) rm_T_matches [.ref (d (20 + 3 * i)), .ref (d (20 + 3 * j))] (xW Γ d hm mc so tl tb wr) (S := Bool) (fun v b => v = some (.int (bI b)) ∧ (b = true ↔ (tb i 0 0 = tb j 0 0 ∧ tb i 0 1 = tb j 0 1 ∧ ∀ k, k < tb i 0 0 * 3 → tb i 1 k = tb j 1 k))) (fun _ => xW Γ d hm mc so tl tb wr) := by
  refine cT.start (by decide) (Nat.le_of_ble_eq_true rfl) (fun p e s m args below meth c ls Q hQ C hmn h hl => ?_)
  replace hl : lv_has ls 3 [(0, .ref (d (20 + 3 * i))), (1, .ref (d (20 + 3 * j)))] := hl
  refine lv_aload_n C.x C.b dc_T_matches_0 rfl (lv_at hl 0 rfl) ?_
  refine rg_get C h (17 + i) (lk_T (hi)) rfl in_T 0 (by decide) fl_T_22 rfl dc_T_matches_1 ?_
  refine lv_aload_n C.x C.b dc_T_matches_4 rfl (lv_at hl 1 rfl) ?_
  refine rg_get C h (17 + j) (lk_T (hj)) rfl in_T 0 (by decide) fl_T_22 rfl dc_T_matches_5 ?_
  refine bc_ne (tgt := 22) C (by omega) (by omega) dc_T_matches_8 (by decide) (fun q8 => ?_) (fun q8 => ?_)
  · refine lv_iconst (v := (nI 0)) C.x C.b dc_T_matches_22 (by decide +kernel) ?_
    rw [hQ]
    exact rt_z C false h (⟨by decide +kernel, fun z => (by cases z), fun z => absurd z.1 q8⟩) (by decide +kernel) dc_T_matches_23
  · refine lv_aload_n C.x C.b dc_T_matches_11 rfl (lv_at hl 0 rfl) ?_
    refine rg_get C h (17 + i) (lk_T (hi)) rfl in_T 1 (by decide) fl_T_18 rfl dc_T_matches_12 ?_
    refine lv_aload_n C.x C.b dc_T_matches_15 rfl (lv_at hl 1 rfl) ?_
    refine rg_get C h (17 + j) (lk_T (hj)) rfl in_T 1 (by decide) fl_T_18 rfl dc_T_matches_16 ?_
    refine bc_eq (tgt := 24) C (by omega) (by omega) dc_T_matches_19 (by decide) (fun q19 => ?_) (fun q19 => ?_)
    · refine lv_iconst (v := (nI 0)) C.x C.b dc_T_matches_24 (by decide +kernel) ?_
      refine lv_istore_n (lv' := [(2, .int (nI 0)), (0, .ref (d (20 + 3 * i))), (1, .ref (d (20 + 3 * j)))]) C.x C.b dc_T_matches_25 rfl hl (by decide) rfl (fun ls hl => ?_)
      have hA : ∀ z, z < 0 → tb i 1 z = tb j 1 z := fun _ q => absurd q (Nat.not_lt_zero _)
      have lp_26 : ∀ (n_26 : Nat) (k : Nat) (H : Heap) (locs : List Loc) (ls : Array Slot), tb i 0 0 * 3 - k < n_26 → (k ≤ tb i 0 0 * 3) → (∀ z, z < k → tb i 1 z = tb j 1 z) → sT Γ s (xW Γ d hm mc so tl tb wr) H locs → lv_has ls 3 [(2, .int (nI k)), (0, .ref (d (20 + 3 * i))), (1, .ref (d (20 + 3 * j)))] → W p l e rm_T_matches s m args below meth c H locs 0 0 Q (F0 m 26 ls []) := by
        intro n_26
        induction n_26 with
        | zero => intro k H locs ls hms; exact absurd hms (Nat.not_lt_zero _)
        | succ n_26 ih_26 =>
          intro k H locs ls hms hk hA h hl
          refine lv_iload_n C.x C.b dc_T_matches_26 rfl (lv_at hl 0 rfl) ?_
          refine lv_aload_n C.x C.b dc_T_matches_27 rfl (lv_at hl 1 rfl) ?_
          refine rg_get C h (17 + i) (lk_T (hi)) rfl in_T 0 (by decide) fl_T_22 rfl dc_T_matches_28 ?_
          refine lv_iconst (v := (nI 3)) C.x C.b dc_T_matches_31 (by decide +kernel) ?_
          refine lv_imul C.x C.b dc_T_matches_32 ?_
          refine tp_i (pk_mul (tb i 0 0) 3) ?_
          refine bc_ge (tgt := 59) C (by omega) (by omega) dc_T_matches_33 (by decide) (fun q33 => ?_) (fun q33 => ?_)
          · refine lv_iconst (v := (nI 1)) C.x C.b dc_T_matches_59 (by decide +kernel) ?_
            rw [hQ]
            exact rt_z C true h (⟨by decide +kernel, fun _ => ⟨q8, q19, fun z hz => hA z (by omega)⟩, fun _ => rfl⟩) (by decide +kernel) dc_T_matches_60
          · refine lv_aload_n C.x C.b dc_T_matches_36 rfl (lv_at hl 1 rfl) ?_
            refine rg_get C h (17 + i) (lk_T (hi)) rfl in_T 3 (by decide) fl_T_9 rfl dc_T_matches_37 ?_
            refine lv_iload_n C.x C.b dc_T_matches_40 rfl (lv_at hl 0 rfl) ?_
            refine rg_ild C h (97 + i) (lk_N (hi)) (by omega) (by decide) dc_T_matches_41 ?_
            refine lv_aload_n C.x C.b dc_T_matches_42 rfl (lv_at hl 2 rfl) ?_
            refine rg_get C h (17 + j) (lk_T (hj)) rfl in_T 3 (by decide) fl_T_9 rfl dc_T_matches_43 ?_
            refine lv_iload_n C.x C.b dc_T_matches_46 rfl (lv_at hl 0 rfl) ?_
            refine rg_ild C h (97 + j) (lk_N (hj)) (by omega) (by decide) dc_T_matches_47 ?_
            refine bc_eq (tgt := 53) C (Nat.lt_of_lt_of_le (hni k (by omega)) (by decide)) (Nat.lt_of_lt_of_le (hnj k (by rw [← q8]; omega)) (by decide)) dc_T_matches_48 (by decide) (fun q48 => ?_) (fun q48 => ?_)
            · refine lv_iinc (v := nI (k + 1)) (lv' := [(2, .int (nI (k + 1))), (0, .ref (d (20 + 3 * i))), (1, .ref (d (20 + 3 * j)))]) C.x C.b dc_T_matches_53 hl (k := 0) rfl (nI_1 k) (by decide) rfl (fun ls hl => ?_)
              refine lv_goto (tgt := 26) C.x C.b dc_T_matches_56 (by decide) ?_
              have hA : ∀ z, z < k + 1 → tb i 1 z = tb j 1 z := fun z q => by
                by_cases e : z = k
                · rw [e]; exact q48
                · exact hA z (by omega)
              exact ih_26 (k + 1) _ _ _ (by omega) (by first | assumption | omega) (by first | assumption | omega) h (lv_sub hl [0, 1, 2] rfl)
            · refine lv_iconst (v := (nI 0)) C.x C.b dc_T_matches_51 (by decide +kernel) ?_
              rw [hQ]
              exact rt_z C false h (⟨by decide +kernel, fun z => (by cases z), fun z => absurd (z.2.2 k (by omega)) q48⟩) (by decide +kernel) dc_T_matches_52
      exact lp_26 _ 0 _ _ _ (Nat.lt_succ_self _) (by first | assumption | omega) (by first | assumption | omega) h (lv_sub hl [0, 1, 2] rfl)
    · refine lv_iconst (v := (nI 0)) C.x C.b dc_T_matches_22 (by decide +kernel) ?_
      rw [hQ]
      exact rt_z C false h (⟨by decide +kernel, fun z => (by cases z), fun z => absurd z.2.1 q19⟩) (by decide +kernel) dc_T_matches_23

abbrev rm_T_letterToward : Room := { frames := 1, cells := 0, slots := 0, locals := 22 }
set_option maxRecDepth 100000 in
set_option maxHeartbeats 4000000 in
theorem c_T_letterToward (l : Launch) (Γ : gG) (d : Nat → Nat) (hm : Nat) (mc : va_E) (so : Nat → Nat → Nat) (tl : Nat → Nat → Int64) (tb : Nat → Nat → Nat → Nat) (wr : va_W) (i r dd : Nat) (hi : i < 80) (hr : r < 10) (hdd : dd + 1 < 2 ^ 31) (hnx : ∀ l, l < 3 → tb i 1 (r * 3 + l) < 10) (hfr : ∀ l, l < 3 → tb i 2 (tb i 1 (r * 3 + l)) < 2 ^ 31) : cT l Γ my_T_letterToward bc_T_letterToward 4 (some .int) rm_T_letterToward [.ref (d (20 + 3 * i)), .int (nI r), .int (nI dd)] (xW Γ d hm mc so tl tb wr) (S := Nat) (fun v q => v = some (.int (nI q)) ∧ q ≤ 3 ∧ (∀ l, l < q → tb i 2 (tb i 1 (r * 3 + l)) ≠ dd + 1) ∧ (q < 3 → tb i 2 (tb i 1 (r * 3 + q)) = dd + 1)) (fun _ => xW Γ d hm mc so tl tb wr) := by
  refine cT.start (by decide) (Nat.le_of_ble_eq_true rfl) (fun p e s m args below meth c ls Q hQ C hmn h hl => ?_)
  replace hl : lv_has ls 4 [(0, .ref (d (20 + 3 * i))), (1, .int (nI r)), (2, .int (nI dd))] := hl
  refine lv_iconst (v := (nI 0)) C.x C.b dc_T_letterToward_0 (by decide +kernel) ?_
  refine lv_istore_n (lv' := [(3, .int (nI 0)), (0, .ref (d (20 + 3 * i))), (1, .int (nI r)), (2, .int (nI dd))]) C.x C.b dc_T_letterToward_1 rfl hl (by decide) rfl (fun ls hl => ?_)
  have hA : ∀ l, l < 0 → tb i 2 (tb i 1 (r * 3 + l)) ≠ dd + 1 := fun _ q => absurd q (Nat.not_lt_zero _)
  have lp_2 : ∀ (n_2 : Nat) (k : Nat) (H : Heap) (locs : List Loc) (ls : Array Slot), 3 - k < n_2 → (k ≤ 3) → (∀ l, l < k → tb i 2 (tb i 1 (r * 3 + l)) ≠ dd + 1) → sT Γ s (xW Γ d hm mc so tl tb wr) H locs → lv_has ls 4 [(3, .int (nI k)), (0, .ref (d (20 + 3 * i))), (1, .int (nI r)), (2, .int (nI dd))] → W p l e rm_T_letterToward s m args below meth c H locs 0 0 Q (F0 m 2 ls []) := by
    intro n_2
    induction n_2 with
    | zero => intro k H locs ls hms; exact absurd hms (Nat.not_lt_zero _)
    | succ n_2 ih_2 =>
      intro k H locs ls hms hk hA h hl
      refine lv_iload_n C.x C.b dc_T_letterToward_2 rfl (lv_at hl 0 rfl) ?_
      refine lv_iconst (v := (nI 3)) C.x C.b dc_T_letterToward_3 (by decide +kernel) ?_
      refine bc_ge (tgt := 30) C (by omega) (by omega) dc_T_letterToward_4 (by decide) (fun q4 => ?_) (fun q4 => ?_)
      · refine lv_iconst (v := (nI 3)) C.x C.b dc_T_letterToward_30 (by decide +kernel) ?_
        rw [hQ]
        exact rt_i C 3 h (⟨rfl, by omega, fun l hl => hA l (by omega), fun z => absurd z (by decide)⟩) dc_T_letterToward_31
      · refine lv_aload_n C.x C.b dc_T_letterToward_7 rfl (lv_at hl 1 rfl) ?_
        refine rg_get C h (17 + i) (lk_T (hi)) rfl in_T 4 (by decide) fl_T_15 rfl dc_T_letterToward_8 ?_
        refine lv_aload_n C.x C.b dc_T_letterToward_11 rfl (lv_at hl 1 rfl) ?_
        refine lv_iload_n C.x C.b dc_T_letterToward_12 rfl (lv_at hl 2 rfl) ?_
        refine lv_iload_n C.x C.b dc_T_letterToward_13 rfl (lv_at hl 0 rfl) ?_
        refine kv_V (As := [.int (nI r), .int (nI k)]) (rest := [.ref (d (22 + 3 * i))]) C h hl.1 (c_T_after l Γ d hm mc so tl tb wr i r k (hi) (by omega) (by omega)) mw_T_after lk_T_25 (q0 := (17 + i)) (lk_T (hi)) rfl rfl (by decide) (by decide) (Nat.le_of_ble_eq_true rfl) dc_T_letterToward_14 (fun v u H locs hp h => ?_)
        obtain rfl := hp
        replace h : sT Γ s (xW Γ d hm mc so tl tb wr) H locs := h
        refine W.eq (g2 := F0 m 17 ls [.int (nI (tb i 1 (r * 3 + k))), .ref (d (22 + 3 * i))]) rfl ?_
        refine rg_mld C h (177 + i) (lk_F (hi)) (hnx k (by omega)) (by decide) dc_T_letterToward_17 ?_
        refine lv_iload_n C.x C.b dc_T_letterToward_18 rfl (lv_at hl 3 rfl) ?_
        refine tp_i (mI_s dd) ?_
        refine bn_ne (tgt := 24) C (hfr k (by omega)) (by omega) dc_T_letterToward_19 (by decide) (fun q19 => ?_) (fun q19 => ?_)
        · refine lv_iinc (v := nI (k + 1)) (lv' := [(3, .int (nI (k + 1))), (0, .ref (d (20 + 3 * i))), (1, .int (nI r)), (2, .int (nI dd))]) C.x C.b dc_T_letterToward_24 hl (k := 0) rfl (nI_1 k) (by decide) rfl (fun ls hl => ?_)
          refine lv_goto (tgt := 2) C.x C.b dc_T_letterToward_27 (by decide) ?_
          have hA : ∀ l, l < k + 1 → tb i 2 (tb i 1 (r * 3 + l)) ≠ dd + 1 := fun l q => by
            by_cases e : l = k
            · rw [e]; exact q19
            · exact hA l (by omega)
          exact ih_2 (k + 1) _ _ _ (by omega) (by first | assumption | omega) (by first | assumption | omega) h (lv_sub hl [0, 1, 2, 3] rfl)
        · refine lv_iload_n C.x C.b dc_T_letterToward_22 rfl (lv_at hl 0 rfl) ?_
          rw [hQ]
          exact rt_i C k h (⟨rfl, by omega, hA, fun _ => q19⟩) dc_T_letterToward_23
  exact lp_2 _ 0 _ _ _ (Nat.lt_succ_self _) (by first | assumption | omega) (by first | assumption | omega) h (lv_sub hl [0, 1, 2, 3] rfl)

abbrev rm_T_measure : Room := { frames := 2, cells := 0, slots := 0, locals := 45 }
set_option maxRecDepth 100000 in
set_option maxHeartbeats 4000000 in
theorem c_T_measure (l : Launch) (Γ : gG) (d : Nat → Nat) (hm : Nat) (mc : va_E) (so : Nat → Nat → Nat) (tl : Nat → Nat → Int64) (tb : Nat → Nat → Nat → Nat) (wr : va_W) (i : Nat) (hi : i < 80) (h1 : 1 ≤ tb i 0 0) (h10 : tb i 0 0 ≤ 10) (he : tb i 0 1 < 1024) (hnx : ∀ r l, r < tb i 0 0 → l < 3 → tb i 1 (r * 3 + l) < tb i 0 0) : cT l Γ my_T_measure bc_T_measure 3 none rm_T_measure [.ref (d (20 + 3 * i))] (xW Γ d hm mc so tl tb wr) (S := Nat → Nat → Nat → Nat) (fun v t => v = none ∧ mL2 tb t i (tb i 0 0) 0) (fun t => xW Γ d hm mc so tl t wr) := by
  refine cT.start (by decide) (Nat.le_of_ble_eq_true rfl) (fun p e s m args below meth c ls Q hQ C hmn h hl => ?_)
  replace hl : lv_has ls 3 [(0, .ref (d (20 + 3 * i)))] := hl
  refine lv_aload_n C.x C.b dc_T_measure_0 rfl (lv_at hl 0 rfl) ?_
  refine lv_aload_n C.x C.b dc_T_measure_1 rfl (lv_at hl 0 rfl) ?_
  refine rg_get C h (17 + i) (lk_T (hi)) rfl in_T 1 (by decide) fl_T_18 rfl dc_T_measure_2 ?_
  refine rg_put (ty := .int) C h (17 + i) (lk_T (hi)) rfl in_T tk_T nm_T 2 (by decide) fl_T_29 rfl (by decide +kernel) rfl rfl (by simp) dc_T_measure_5 (fun H locs h => ?_)
  replace h := h.eq (st_T (hi) 2 (tb i 0 1) _ rfl)
  obtain ⟨tb_1, etb_1⟩ : ∃ zz9, zz9 = us tb i (us (tb i) 0 (us (tb i 0) 2 (tb i 0 1))) := ⟨_, rfl⟩
  replace h : sT Γ s (xW Γ d hm mc so tl tb_1 wr) H locs := by rw [etb_1]; exact h
  refine lv_iconst (v := (nI 0)) C.x C.b dc_T_measure_8 (by decide +kernel) ?_
  refine lv_istore_n (lv' := [(1, .int (nI 0)), (0, .ref (d (20 + 3 * i)))]) C.x C.b dc_T_measure_9 rfl hl (by decide) rfl (fun ls hl => ?_)
  have hM : mL1 tb tb_1 i 0 := by rw [etb_1]; exact ⟨mK.rf.live _, by rw [us_s, us_s, us_s], fun _ q => absurd q (Nat.not_lt_zero _)⟩
  have lp_10 : ∀ (n_10 : Nat) (k : Nat) (t : Nat → Nat → Nat → Nat) (H : Heap) (locs : List Loc) (ls : Array Slot), tb i 0 0 - k < n_10 → (k ≤ tb i 0 0) → (mL1 tb t i k) → sT Γ s (xW Γ d hm mc so tl t wr) H locs → lv_has ls 3 [(1, .int (nI k)), (0, .ref (d (20 + 3 * i)))] → W p l e rm_T_measure s m args below meth c H locs 0 0 Q (F0 m 10 ls []) := by
    intro n_10
    induction n_10 with
    | zero => intro k t H locs ls hms; exact absurd hms (Nat.not_lt_zero _)
    | succ n_10 ih_10 =>
      intro k t H locs ls hms hk hM h hl
      obtain ⟨hMa, hMb, hMc, hMd⟩ := id hM.1
      refine lv_iload_n C.x C.b dc_T_measure_10 rfl (lv_at hl 0 rfl) ?_
      refine lv_aload_n C.x C.b dc_T_measure_11 rfl (lv_at hl 1 rfl) ?_
      refine rg_get C h (17 + i) (lk_T (hi)) rfl in_T 0 (by decide) fl_T_22 rfl dc_T_measure_12 ?_
      refine bc_ge (tgt := 43) C (by omega) (by omega) dc_T_measure_15 (by decide) (fun q15 => ?_) (fun q15 => ?_)
      · refine lv_iconst (v := (nI 1)) C.x C.b dc_T_measure_43 (by decide +kernel) ?_
        refine lv_istore_n (lv' := [(1, .int (nI 1)), (0, .ref (d (20 + 3 * i)))]) C.x C.b dc_T_measure_44 rfl hl (by decide) rfl (fun ls hl => ?_)
        have hM := mL2.of (by rw [← show k = tb i 0 0 by omega]; exact hM) he
        have lp_45 : ∀ (n_45 : Nat) (L : Nat) (t : Nat → Nat → Nat → Nat) (H : Heap) (locs : List Loc) (ls : Array Slot), tb i 0 0 - L < n_45 → (1 ≤ L) → (L ≤ tb i 0 0) → (mL2 tb t i L 0) → sT Γ s (xW Γ d hm mc so tl t wr) H locs → lv_has ls 3 [(1, .int (nI L)), (0, .ref (d (20 + 3 * i)))] → W p l e rm_T_measure s m args below meth c H locs 0 0 Q (F0 m 45 ls []) := by
          intro n_45
          induction n_45 with
          | zero => intro L t H locs ls hms; exact absurd hms (Nat.not_lt_zero _)
          | succ n_45 ih_45 =>
            intro L t H locs ls hms hL hL2 hM h hl
            obtain ⟨hMa, hMb, hMc, hMd⟩ := id hM.1
            refine lv_iload_n C.x C.b dc_T_measure_45 rfl (lv_at hl 0 rfl) ?_
            refine lv_aload_n C.x C.b dc_T_measure_46 rfl (lv_at hl 1 rfl) ?_
            refine rg_get C h (17 + i) (lk_T (hi)) rfl in_T 0 (by decide) fl_T_22 rfl dc_T_measure_47 ?_
            refine bc_ge (tgt := 116) C (by omega) (by omega) dc_T_measure_50 (by decide) (fun q50 => ?_) (fun q50 => ?_)
            · rw [hQ]
              exact rt_v C _ h (⟨rfl, by rw [show L = tb i 0 0 by omega] at hM; exact hM⟩) dc_T_measure_116
            · refine lv_iconst (v := (nI 0)) C.x C.b dc_T_measure_53 (by decide +kernel) ?_
              refine lv_istore_n (lv' := [(2, .int (nI 0)), (1, .int (nI L)), (0, .ref (d (20 + 3 * i)))]) C.x C.b dc_T_measure_54 rfl hl (by decide) rfl (fun ls hl => ?_)
              have lp_55 : ∀ (n_55 : Nat) (r : Nat) (t : Nat → Nat → Nat → Nat) (H : Heap) (locs : List Loc) (ls : Array Slot), tb i 0 0 - r < n_55 → (r ≤ tb i 0 0) → (mL2 tb t i L r) → sT Γ s (xW Γ d hm mc so tl t wr) H locs → lv_has ls 3 [(2, .int (nI r)), (1, .int (nI L)), (0, .ref (d (20 + 3 * i)))] → W p l e rm_T_measure s m args below meth c H locs 0 0 Q (F0 m 55 ls []) := by
                intro n_55
                induction n_55 with
                | zero => intro r t H locs ls hms; exact absurd hms (Nat.not_lt_zero _)
                | succ n_55 ih_55 =>
                  intro r t H locs ls hms hr hM h hl
                  obtain ⟨hMa, hMb, hMc, hMd⟩ := id hM.1
                  refine lv_iload_n C.x C.b dc_T_measure_55 rfl (lv_at hl 0 rfl) ?_
                  refine lv_aload_n C.x C.b dc_T_measure_56 rfl (lv_at hl 2 rfl) ?_
                  refine rg_get C h (17 + i) (lk_T (hi)) rfl in_T 0 (by decide) fl_T_22 rfl dc_T_measure_57 ?_
                  refine bc_ge (tgt := 110) C (by omega) (by omega) dc_T_measure_60 (by decide) (fun q60 => ?_) (fun q60 => ?_)
                  · refine lv_iinc (v := nI (L + 1)) (lv' := [(1, .int (nI (L + 1))), (2, .int (nI r)), (0, .ref (d (20 + 3 * i)))]) C.x C.b dc_T_measure_110 hl (k := 1) rfl (nI_1 L) (by decide) rfl (fun ls hl => ?_)
                    refine lv_goto (tgt := 45) C.x C.b dc_T_measure_113 (by decide) ?_
                    have hM := hM.up (by omega)
                    exact ih_45 (L + 1) t _ _ _ (by omega) (by first | assumption | omega) (by first | assumption | omega) (by first | assumption | omega) h (lv_sub hl [0, 2] rfl)
                  · refine lv_aload_n C.x C.b dc_T_measure_63 rfl (lv_at hl 2 rfl) ?_
                    refine rg_get C h (17 + i) (lk_T (hi)) rfl in_T 4 (by decide) fl_T_15 rfl dc_T_measure_64 ?_
                    refine lv_iload_n C.x C.b dc_T_measure_67 rfl (lv_at hl 0 rfl) ?_
                    refine rg_mld C h (177 + i) (lk_F (hi)) (by omega) (by decide) dc_T_measure_68 ?_
                    refine lv_iconst (v := (mI 0)) C.x C.b dc_T_measure_69 (by decide +kernel) ?_
                    refine bn_ne (tgt := 104) C (by have := (hM.2.2 r (by omega)).2.1; omega) (by decide) dc_T_measure_70 (by decide) (fun q70 => ?_) (fun q70 => ?_)
                    · refine lv_iinc (v := nI (r + 1)) (lv' := [(2, .int (nI (r + 1))), (1, .int (nI L)), (0, .ref (d (20 + 3 * i)))]) C.x C.b dc_T_measure_104 hl (k := 0) rfl (nI_1 r) (by decide) rfl (fun ls hl => ?_)
                      refine lv_goto (tgt := 55) C.x C.b dc_T_measure_107 (by decide) ?_
                      have hM := hM.no hL (by omega) hnx (Or.inl q70)
                      exact ih_55 (r + 1) t _ _ _ (by omega) (by first | assumption | omega) (by first | assumption | omega) h (lv_sub hl [0, 1, 2] rfl)
                    · refine lv_aload_n C.x C.b dc_T_measure_73 rfl (lv_at hl 2 rfl) ?_
                      refine lv_iload_n C.x C.b dc_T_measure_74 rfl (lv_at hl 0 rfl) ?_
                      refine lv_iload_n C.x C.b dc_T_measure_75 rfl (lv_at hl 1 rfl) ?_
                      refine lv_iconst (v := (nI 1)) C.x C.b dc_T_measure_76 (by decide +kernel) ?_
                      refine lv_isub C.x C.b dc_T_measure_77 ?_
                      refine tp_i (pk_sub (a := L) (b := 1) (by omega)) ?_
                      refine kv_V (As := [.int (nI r), .int (nI (L - 1))]) (rest := []) C h hl.1 (c_T_letterToward l Γ d hm mc so tl t wr i r (L - 1) (hi) (by omega) (by omega) (fun l hl => by rw [hMd]; exact Nat.lt_of_lt_of_le (hnx r l (by omega) hl) h10) (fun l hl => by rw [hMd]; have := (hM.2.2 _ (hnx r l (by omega) hl)).2.1; omega)) mw_T_letterToward lk_T_36 (q0 := (17 + i)) (lk_T (hi)) rfl rfl (by decide) (by decide) (Nat.le_of_ble_eq_true rfl) dc_T_measure_78 (fun v u H locs hp h => ?_)
                      obtain ⟨rfl, lt_2_3, lt_2_n, lt_2_y⟩ := hp
                      obtain ⟨lt_2, rfl⟩ : ∃ zz9, zz9 = u := ⟨_, rfl⟩
                      replace h : sT Γ s (xW Γ d hm mc so tl t wr) H locs := h
                      refine W.eq (g2 := F0 m 81 ls [.int (nI lt_2)]) rfl ?_
                      refine lv_iconst (v := (nI 3)) C.x C.b dc_T_measure_81 (by decide +kernel) ?_
                      refine bc_ge (tgt := 104) C (by omega) (by omega) dc_T_measure_82 (by decide) (fun q82 => ?_) (fun q82 => ?_)
                      · refine lv_iinc (v := nI (r + 1)) (lv' := [(2, .int (nI (r + 1))), (1, .int (nI L)), (0, .ref (d (20 + 3 * i)))]) C.x C.b dc_T_measure_104 hl (k := 0) rfl (nI_1 r) (by decide) rfl (fun ls hl => ?_)
                        refine lv_goto (tgt := 55) C.x C.b dc_T_measure_107 (by decide) ?_
                        have hM := hM.no hL (by omega) hnx (Or.inr (fun l hl => by have z := lt_2_n l (by omega); rw [hMd] at z; omega))
                        exact ih_55 (r + 1) t _ _ _ (by omega) (by first | assumption | omega) (by first | assumption | omega) h (lv_sub hl [0, 1, 2] rfl)
                      · refine lv_aload_n C.x C.b dc_T_measure_85 rfl (lv_at hl 2 rfl) ?_
                        refine rg_get C h (17 + i) (lk_T (hi)) rfl in_T 4 (by decide) fl_T_15 rfl dc_T_measure_86 ?_
                        refine lv_iload_n C.x C.b dc_T_measure_89 rfl (lv_at hl 0 rfl) ?_
                        refine lv_iload_n C.x C.b dc_T_measure_90 rfl (lv_at hl 1 rfl) ?_
                        refine tp_i (mI_s L) ?_
                        refine rg_mst C h (177 + i) (lk_F (hi)) (by omega) (by decide) dc_T_measure_91 (fun H locs h => ?_)
                        replace h := h.eq (st_F (hi) _)
                        obtain ⟨tb_3, etb_3⟩ : ∃ zz9, zz9 = us t i (us (t i) 2 (us (t i 2) r (L + 1))) := ⟨_, rfl⟩
                        replace h : sT Γ s (xW Γ d hm mc so tl tb_3 wr) H locs := by rw [etb_3]; exact h
                        refine lv_aload_n C.x C.b dc_T_measure_92 rfl (lv_at hl 2 rfl) ?_
                        refine lv_dup C.x C.b dc_T_measure_93 rfl ?_
                        refine rg_get C h (17 + i) (lk_T (hi)) rfl in_T 2 (by decide) fl_T_29 rfl dc_T_measure_94 ?_
                        refine lv_iconst (v := (nI 1)) C.x C.b dc_T_measure_97 (by decide +kernel) ?_
                        refine lv_iload_n C.x C.b dc_T_measure_98 rfl (lv_at hl 0 rfl) ?_
                        refine lv_ishl C.x C.b dc_T_measure_99 ?_
                        refine tp_i (nI_shl1 (n := r) (by omega)) ?_
                        refine lv_ior C.x C.b dc_T_measure_100 ?_
                        refine tp_i (nI_or (tb_3 i 0 2) (2 ^ r)) ?_
                        refine rg_put (ty := .int) C h (17 + i) (lk_T (hi)) rfl in_T tk_T nm_T 2 (by decide) fl_T_29 rfl (by decide +kernel) rfl rfl (by simp) dc_T_measure_101 (fun H locs h => ?_)
                        replace h := h.eq (st_T (hi) 2 ((tb_3 i 0 2) ||| (2 ^ r)) _ rfl)
                        obtain ⟨tb_4, etb_4⟩ : ∃ zz9, zz9 = us tb_3 i (us (tb_3 i) 0 (us (tb_3 i 0) 2 ((tb_3 i 0 2) ||| (2 ^ r)))) := ⟨_, rfl⟩
                        replace h : sT Γ s (xW Γ d hm mc so tl tb_4 wr) H locs := by rw [etb_4]; exact h
                        refine lv_iinc (v := nI (r + 1)) (lv' := [(2, .int (nI (r + 1))), (1, .int (nI L)), (0, .ref (d (20 + 3 * i)))]) C.x C.b dc_T_measure_104 hl (k := 0) rfl (nI_1 r) (by decide) rfl (fun ls hl => ?_)
                        refine lv_goto (tgt := 55) C.x C.b dc_T_measure_107 (by decide) ?_
                        have hM := hM.yes hL (by omega) h10 hnx q70 (by omega) (by have z := lt_2_y (by omega); rw [hMd] at z; omega) etb_3 etb_4
                        exact ih_55 (r + 1) tb_4 _ _ _ (by omega) (by first | assumption | omega) (by first | assumption | omega) h (lv_sub hl [0, 1, 2] rfl)
              exact lp_55 _ 0 t _ _ _ (Nat.lt_succ_self _) (by first | assumption | omega) (by first | assumption | omega) h (lv_sub hl [0, 1, 2] rfl)
        exact lp_45 _ 1 t _ _ _ (Nat.lt_succ_self _) (by first | assumption | omega) (by first | assumption | omega) (by first | assumption | omega) h (lv_sub hl [0, 1] rfl)
      · refine lv_aload_n C.x C.b dc_T_measure_18 rfl (lv_at hl 1 rfl) ?_
        refine rg_get C h (17 + i) (lk_T (hi)) rfl in_T 4 (by decide) fl_T_15 rfl dc_T_measure_19 ?_
        refine lv_iload_n C.x C.b dc_T_measure_22 rfl (lv_at hl 0 rfl) ?_
        refine lv_aload_n C.x C.b dc_T_measure_23 rfl (lv_at hl 1 rfl) ?_
        refine lv_iload_n C.x C.b dc_T_measure_24 rfl (lv_at hl 0 rfl) ?_
        refine kv_V (As := [.int (nI k)]) (rest := [.int (nI k), .ref (d (22 + 3 * i))]) C h hl.1 (c_T_endsAt l Γ d hm mc so tl t wr i k (hi) (by omega) (by rw [hMc]; omega)) mw_T_endsAt lk_T_32 (q0 := (17 + i)) (lk_T (hi)) rfl rfl (by decide) (by decide) (Nat.le_of_ble_eq_true rfl) dc_T_measure_25 (fun v u H locs hp h => ?_)
        obtain rfl := hp
        replace h : sT Γ s (xW Γ d hm mc so tl t wr) H locs := h
        refine W.eq (g2 := F0 m 28 ls [.int (bI ((t i 0 1).testBit k)), .int (nI k), .ref (d (22 + 3 * i))]) rfl ?_
        rw [hMc]
        refine bb_eq (tgt := 35) C dc_T_measure_28 (by decide) (fun q28 => ?_) (fun q28 => ?_)
        · refine lv_iconst (v := (mI 0)) C.x C.b dc_T_measure_35 (by decide +kernel) ?_
          refine rg_mst C h (177 + i) (lk_F (hi)) (by omega) (by decide) dc_T_measure_36 (fun H locs h => ?_)
          replace h := h.eq (st_F (hi) _)
          obtain ⟨tb_5, etb_5⟩ : ∃ zz9, zz9 = us t i (us (t i) 2 (us (t i 2) k 0)) := ⟨_, rfl⟩
          replace h : sT Γ s (xW Γ d hm mc so tl tb_5 wr) H locs := by rw [etb_5]; exact h
          refine lv_iinc (v := nI (k + 1)) (lv' := [(1, .int (nI (k + 1))), (0, .ref (d (20 + 3 * i)))]) C.x C.b dc_T_measure_37 hl (k := 0) rfl (nI_1 k) (by decide) rfl (fun ls hl => ?_)
          refine lv_goto (tgt := 10) C.x C.b dc_T_measure_40 (by decide) ?_
          have hM : mL1 tb tb_5 i (k + 1) := by rw [etb_5]; exact hM.st (by rw [q28]; rfl)
          exact ih_10 (k + 1) tb_5 _ _ _ (by omega) (by first | assumption | omega) (by first | assumption | omega) h (lv_sub hl [0, 1] rfl)
        · refine lv_iconst (v := (nI 0)) C.x C.b dc_T_measure_31 (by decide +kernel) ?_
          refine lv_goto (tgt := 36) C.x C.b dc_T_measure_32 (by decide) ?_
          refine tp_i (mI_s 0) ?_
          refine rg_mst C h (177 + i) (lk_F (hi)) (by omega) (by decide) dc_T_measure_36 (fun H locs h => ?_)
          replace h := h.eq (st_F (hi) _)
          obtain ⟨tb_6, etb_6⟩ : ∃ zz9, zz9 = us t i (us (t i) 2 (us (t i 2) k (0 + 1))) := ⟨_, rfl⟩
          replace h : sT Γ s (xW Γ d hm mc so tl tb_6 wr) H locs := by rw [etb_6]; exact h
          refine lv_iinc (v := nI (k + 1)) (lv' := [(1, .int (nI (k + 1))), (0, .ref (d (20 + 3 * i)))]) C.x C.b dc_T_measure_37 hl (k := 0) rfl (nI_1 k) (by decide) rfl (fun ls hl => ?_)
          refine lv_goto (tgt := 10) C.x C.b dc_T_measure_40 (by decide) ?_
          have hM : mL1 tb tb_6 i (k + 1) := by rw [etb_6]; exact hM.st (by rw [q28]; rfl)
          exact ih_10 (k + 1) tb_6 _ _ _ (by omega) (by first | assumption | omega) (by first | assumption | omega) h (lv_sub hl [0, 1] rfl)
  exact lp_10 _ 0 tb_1 _ _ _ (Nat.lt_succ_self _) (by first | assumption | omega) (by first | assumption | omega) h (lv_sub hl [0, 1] rfl)

abbrev rm_T_nearer : Room := { frames := 2, cells := 0, slots := 0, locals := 45 }
set_option maxRecDepth 100000 in
set_option maxHeartbeats 4000000 in
theorem c_T_nearer (l : Launch) (Γ : gG) (d : Nat → Nat) (hm : Nat) (mc : va_E) (so : Nat → Nat → Nat) (tl : Nat → Nat → Int64) (tb : Nat → Nat → Nat → Nat) (wr : va_W) (i r k : Nat) (hi : i < 80) (hr : r < 10) (hk : tb i 2 r = k + 2) (hk2 : k + 2 < 2 ^ 31) (hnx : ∀ l, l < 3 → tb i 1 (r * 3 + l) < 10) (hfr : ∀ l, l < 3 → tb i 2 (tb i 1 (r * 3 + l)) < 2 ^ 31) : cT l Γ my_T_nearer bc_T_nearer 2 (some .int) rm_T_nearer [.ref (d (20 + 3 * i)), .int (nI r)] (xW Γ d hm mc so tl tb wr) (S := Nat) (fun v q => v = some (.int (nI q)) ∧ q ≤ 3 ∧ (∀ l, l < q → tb i 2 (tb i 1 (r * 3 + l)) ≠ k + 1) ∧ (q < 3 → tb i 2 (tb i 1 (r * 3 + q)) = k + 1)) (fun _ => xW Γ d hm mc so tl tb wr) := by
  refine cT.start (by decide) (Nat.le_of_ble_eq_true rfl) (fun p e s m args below meth c ls Q hQ C hmn h hl => ?_)
  replace hl : lv_has ls 2 [(0, .ref (d (20 + 3 * i))), (1, .int (nI r))] := hl
  refine lv_aload_n C.x C.b dc_T_nearer_0 rfl (lv_at hl 0 rfl) ?_
  refine lv_iload_n C.x C.b dc_T_nearer_1 rfl (lv_at hl 1 rfl) ?_
  refine lv_aload_n C.x C.b dc_T_nearer_2 rfl (lv_at hl 0 rfl) ?_
  refine rg_get C h (17 + i) (lk_T (hi)) rfl in_T 4 (by decide) fl_T_15 rfl dc_T_nearer_3 ?_
  refine lv_iload_n C.x C.b dc_T_nearer_6 rfl (lv_at hl 1 rfl) ?_
  refine rg_mld C h (177 + i) (lk_F (hi)) (by omega) (by decide) dc_T_nearer_7 ?_
  refine lv_iconst (v := (nI 1)) C.x C.b dc_T_nearer_8 (by decide +kernel) ?_
  refine lv_isub C.x C.b dc_T_nearer_9 ?_
  refine tp_i (y := (nI k)) (by rw [hk, ← mI_s (k + 1)]; try exact nI_pred k) ?_
  refine kv_V (As := [.int (nI r), .int (nI k)]) (rest := []) C h hl.1 (c_T_letterToward l Γ d hm mc so tl tb wr i r k (hi) (by omega) (by omega) hnx hfr) mw_T_letterToward lk_T_36 (q0 := (17 + i)) (lk_T (hi)) rfl rfl (by decide) (by decide) (Nat.le_of_ble_eq_true rfl) dc_T_nearer_10 (fun v u H locs hp h => ?_)
  obtain ⟨rfl, lt_1_3, lt_1_n, lt_1_y⟩ := hp
  obtain ⟨lt_1, rfl⟩ : ∃ zz9, zz9 = u := ⟨_, rfl⟩
  replace h : sT Γ s (xW Γ d hm mc so tl tb wr) H locs := h
  refine W.eq (g2 := F0 m 13 ls [.int (nI lt_1)]) rfl ?_
  rw [hQ]
  exact rt_i C lt_1 h (⟨rfl, lt_1_3, lt_1_n, lt_1_y⟩) dc_T_nearer_13
end
section

def mmO (bits pl lt : Nat) : Nat := if pl = 0 ∧ bits.testBit lt = true then 1 else 2
def mmR (t : Nat → Nat → Nat) (pl lt : Nat) : Nat := t 1 (pl * 3 + lt)
def maR (en : Int32) (pl : Nat) : Bool := decide (¬ (en >>> (nI pl &&& 31)) &&& (nI 1) = 0)
def mmB (t u : Nat → Nat → Nat) (pl lt : Nat) : Nat := t 1 (pl / 10 * 3 + lt) * 10 + u 1 (pl % 10 * 3 + lt)
def maB (how : Nat) (t u : Nat → Nat → Nat) (pl : Nat) : Bool :=
  if how = 0 then (t 0 1).testBit (pl / 10) || (u 0 1).testBit (pl % 10)
  else if how = 1 then (t 0 1).testBit (pl / 10) && (u 0 1).testBit (pl % 10)
  else if how = 2 then (t 0 1).testBit (pl / 10) && !(u 0 1).testBit (pl % 10)
  else (t 0 1).testBit (pl / 10) != (u 0 1).testBit (pl % 10)
def mwB (t : Nat → Nat → Nat) (a S : Nat) : Nat := a * 1024 + (S ||| ((t 0 1).testBit a).toNat)
def mmH (t u : Nat → Nat → Nat) (pl lt : Nat) : Nat := mwB t (t 1 (pl / 1024 * 3 + lt)) (aAll (pl % 1024) (fun r => u 1 (r * 3 + lt)) (u 0 0) &&& u 0 2)
def maH (u : Nat → Nat → Nat) (pl : Nat) : Bool := decide (¬ pl % 1024 &&& u 0 1 = 0)
def mnS (t : Nat → Nat → Nat) (pl lt : Nat) : Nat := aAll (if pl = 1024 then 1 else pl) (fun r => t 1 (r * 3 + lt)) (t 0 0) &&& t 0 2
def mmN (t : Nat → Nat → Nat) (pl lt : Nat) : Nat := if mnS t pl lt &&& t 0 1 = 0 then mnS t pl lt else mnS t pl lt ||| 1
def maN (t : Nat → Nat → Nat) (pl : Nat) : Bool := decide (pl = 1024 ∨ ¬ pl &&& t 0 1 = 0)
def mmK (t : Nat → Nat → Nat) (pl lt : Nat) : Nat := bAll pl (fun r => t 1 (r * 3 + lt)) (t 0 0)
def maK (pl : Nat) : Bool := decide (¬ pl % 2 = 0)
theorem pl_lt {a n : Nat} (h : a < 2 ^ n) (hn : n ≤ 10) : a < 2 ^ 31 := Nat.lt_of_lt_of_le h (Nat.pow_le_pow_right (by decide) (by omega))

abbrev rm_O_start : Room := { frames := 0, cells := 0, slots := 0, locals := 0 }
set_option maxRecDepth 100000 in
set_option maxHeartbeats 4000000 in
theorem c_O_start (l : Launch) (Γ : gG) (d : Nat → Nat) (hm : Nat) (so : Nat → Nat → Nat) (tl : Nat → Nat → Int64) (tb : Nat → Nat → Nat → Nat) (wr : va_W) (bits fst : Nat) : cT l Γ my_O_start bc_O_start 1 (some .int) rm_O_start [.ref hm] (xW Γ d hm (.inr (4, [.int (nI bits), .int (nI fst)])) so tl tb wr) (S := Unit) (fun v _ => v = some (.int (nI (fst)))) (fun _ => xW Γ d hm (.inr (4, [.int (nI bits), .int (nI fst)])) so tl tb wr) := by
  refine cT.start (by decide) (Nat.le_of_ble_eq_true rfl) (fun p e s m args below meth c ls Q hQ C hmn h hl => ?_)
  replace hl : lv_has ls 1 [(0, .ref hm)] := hl
  refine lv_aload_n C.x C.b dc_O_start_0 rfl (lv_at hl 0 rfl) ?_
  refine rg_get C h 4 rfl rfl in_O 1 (by decide) fl_O_13 rfl dc_O_start_1 ?_
  rw [hQ]
  exact rt_i C () h (rfl) dc_O_start_4

abbrev rm_R_start : Room := { frames := 0, cells := 0, slots := 0, locals := 0 }
set_option maxRecDepth 100000 in
set_option maxHeartbeats 4000000 in
theorem c_R_start (l : Launch) (Γ : gG) (d : Nat → Nat) (hm : Nat) (so : Nat → Nat → Nat) (tl : Nat → Nat → Int64) (tb : Nat → Nat → Nat → Nat) (wr : va_W) (i fst : Nat) (en : Int32) (hi : i < 80) : cT l Γ my_R_start bc_R_start 1 (some .int) rm_R_start [.ref hm] (xW Γ d hm (.inr (5, [.ref (d (20 + 3 * i)), .int (nI fst), .int en])) so tl tb wr) (S := Unit) (fun v _ => v = some (.int (nI (fst)))) (fun _ => xW Γ d hm (.inr (5, [.ref (d (20 + 3 * i)), .int (nI fst), .int en])) so tl tb wr) := by
  refine cT.start (by decide) (Nat.le_of_ble_eq_true rfl) (fun p e s m args below meth c ls Q hQ C hmn h hl => ?_)
  replace hl : lv_has ls 1 [(0, .ref hm)] := hl
  refine lv_aload_n C.x C.b dc_R_start_0 rfl (lv_at hl 0 rfl) ?_
  refine rg_get C h 4 rfl rfl in_R 1 (by decide) fl_R_13 rfl dc_R_start_1 ?_
  rw [hQ]
  exact rt_i C () h (rfl) dc_R_start_4

abbrev rm_B_start : Room := { frames := 0, cells := 0, slots := 0, locals := 0 }
set_option maxRecDepth 100000 in
set_option maxHeartbeats 4000000 in
theorem c_B_start (l : Launch) (Γ : gG) (d : Nat → Nat) (hm : Nat) (so : Nat → Nat → Nat) (tl : Nat → Nat → Int64) (tb : Nat → Nat → Nat → Nat) (wr : va_W) (how i j : Nat) (hi : i < 80) (hj : j < 80) : cT l Γ my_B_start bc_B_start 1 (some .int) rm_B_start [.ref hm] (xW Γ d hm (.inr (6, [.int (nI how), .ref (d (20 + 3 * i)), .ref (d (20 + 3 * j))])) so tl tb wr) (S := Unit) (fun v _ => v = some (.int (nI (0)))) (fun _ => xW Γ d hm (.inr (6, [.int (nI how), .ref (d (20 + 3 * i)), .ref (d (20 + 3 * j))])) so tl tb wr) := by
  refine cT.start (by decide) (Nat.le_of_ble_eq_true rfl) (fun p e s m args below meth c ls Q hQ C hmn h hl => ?_)
  replace hl : lv_has ls 1 [(0, .ref hm)] := hl
  refine lv_iconst (v := (nI 0)) C.x C.b dc_B_start_0 (by decide +kernel) ?_
  rw [hQ]
  exact rt_i C () h (rfl) dc_B_start_1

abbrev rm_N_start : Room := { frames := 0, cells := 0, slots := 0, locals := 0 }
set_option maxRecDepth 100000 in
set_option maxHeartbeats 4000000 in
theorem c_N_start (l : Launch) (Γ : gG) (d : Nat → Nat) (hm : Nat) (so : Nat → Nat → Nat) (tl : Nat → Nat → Int64) (tb : Nat → Nat → Nat → Nat) (wr : va_W) (i : Nat) (hi : i < 80) : cT l Γ my_N_start bc_N_start 1 (some .int) rm_N_start [.ref hm] (xW Γ d hm (.inr (8, [.ref (d (20 + 3 * i))])) so tl tb wr) (S := Unit) (fun v _ => v = some (.int (nI (1024)))) (fun _ => xW Γ d hm (.inr (8, [.ref (d (20 + 3 * i))])) so tl tb wr) := by
  refine cT.start (by decide) (Nat.le_of_ble_eq_true rfl) (fun p e s m args below meth c ls Q hQ C hmn h hl => ?_)
  replace hl : lv_has ls 1 [(0, .ref hm)] := hl
  refine lv_sipush (v := (nI 1024)) C.x C.b dc_N_start_0 (by decide +kernel) ?_
  rw [hQ]
  exact rt_i C () h (rfl) dc_N_start_3

abbrev rm_K_start : Room := { frames := 0, cells := 0, slots := 0, locals := 0 }
set_option maxRecDepth 100000 in
set_option maxHeartbeats 4000000 in
theorem c_K_start (l : Launch) (Γ : gG) (d : Nat → Nat) (hm : Nat) (so : Nat → Nat → Nat) (tl : Nat → Nat → Int64) (tb : Nat → Nat → Nat → Nat) (wr : va_W) (i : Nat) (hi : i < 80) : cT l Γ my_K_start bc_K_start 1 (some .int) rm_K_start [.ref hm] (xW Γ d hm (.inr (9, [.ref (d (20 + 3 * i))])) so tl tb wr) (S := Unit) (fun v _ => v = some (.int (nI (tb i 0 1)))) (fun _ => xW Γ d hm (.inr (9, [.ref (d (20 + 3 * i))])) so tl tb wr) := by
  refine cT.start (by decide) (Nat.le_of_ble_eq_true rfl) (fun p e s m args below meth c ls Q hQ C hmn h hl => ?_)
  replace hl : lv_has ls 1 [(0, .ref hm)] := hl
  refine lv_aload_n C.x C.b dc_K_start_0 rfl (lv_at hl 0 rfl) ?_
  refine rg_get C h 4 rfl rfl in_K 0 (by decide) fl_K_7 rfl dc_K_start_1 ?_
  refine rg_getN C h (17 + i) (lk_T (hi)) rfl in_T 1 (by decide) fl_K_13 rfl dc_K_start_4 ?_
  rw [hQ]
  exact rt_i C () h (rfl) dc_K_start_7

abbrev rm_O_step : Room := { frames := 0, cells := 0, slots := 0, locals := 0 }
set_option maxRecDepth 100000 in
set_option maxHeartbeats 4000000 in
theorem c_O_step (l : Launch) (Γ : gG) (d : Nat → Nat) (hm : Nat) (so : Nat → Nat → Nat) (tl : Nat → Nat → Int64) (tb : Nat → Nat → Nat → Nat) (wr : va_W) (bits fst : Nat) (pl lt : Nat) (hp : pl < 2 ^ 31) (hlt : lt < 3) (hbt : bits < 2 ^ 31) : cT l Γ my_O_step bc_O_step 3 (some .int) rm_O_step [.ref hm, .int (nI pl), .int (nI lt)] (xW Γ d hm (.inr (4, [.int (nI bits), .int (nI fst)])) so tl tb wr) (S := Unit) (fun v _ => v = some (.int (nI (mmO bits pl lt)))) (fun _ => xW Γ d hm (.inr (4, [.int (nI bits), .int (nI fst)])) so tl tb wr) := by
  refine cT.start (by decide) (Nat.le_of_ble_eq_true rfl) (fun p e s m args below meth c ls Q hQ C hmn h hl => ?_)
  replace hl : lv_has ls 3 [(0, .ref hm), (1, .int (nI pl)), (2, .int (nI lt))] := hl
  refine lv_iload_n C.x C.b dc_O_step_0 rfl (lv_at hl 1 rfl) ?_
  refine bz_ne (tgt := 19) C (by omega) dc_O_step_1 (by decide) (fun q1 => ?_) (fun q1 => ?_)
  · refine lv_iconst (v := (nI 2)) C.x C.b dc_O_step_19 (by decide +kernel) ?_
    rw [hQ]
    exact rt_i C () h (by rw [mmO, if_neg (fun z => q1 z.1)]) dc_O_step_20
  · refine lv_aload_n C.x C.b dc_O_step_4 rfl (lv_at hl 0 rfl) ?_
    refine rg_get C h 4 rfl rfl in_O 0 (by decide) fl_O_7 rfl dc_O_step_5 ?_
    refine lv_iload_n C.x C.b dc_O_step_8 rfl (lv_at hl 2 rfl) ?_
    refine lv_ishr C.x C.b dc_O_step_9 ?_
    refine tp_i (nI_shr (a := bits) (n := lt) (by omega) (by omega)) ?_
    refine lv_iconst (v := (nI 1)) C.x C.b dc_O_step_10 (by decide +kernel) ?_
    refine lv_iand C.x C.b dc_O_step_11 ?_
    refine tp_i (nI_and1 (bits / 2 ^ lt)) ?_
    refine bz_eq (tgt := 19) C (by omega) dc_O_step_12 (by decide) (fun q12 => ?_) (fun q12 => ?_)
    · refine lv_iconst (v := (nI 2)) C.x C.b dc_O_step_19 (by decide +kernel) ?_
      rw [hQ]
      exact rt_i C () h (by rw [mmO, if_neg (fun z => by rw [(tb_iff0 _ _).mp q12] at z; cases z.2)]) dc_O_step_20
    · refine lv_iconst (v := (nI 1)) C.x C.b dc_O_step_15 (by decide +kernel) ?_
      refine lv_goto (tgt := 20) C.x C.b dc_O_step_16 (by decide) ?_
      rw [hQ]
      exact rt_i C () h (by rw [mmO, if_pos ⟨q1, (tb_iff _ _).mp q12⟩]) dc_O_step_20

abbrev rm_O_accepts : Room := { frames := 0, cells := 0, slots := 0, locals := 0 }
set_option maxRecDepth 100000 in
set_option maxHeartbeats 4000000 in
theorem c_O_accepts (l : Launch) (Γ : gG) (d : Nat → Nat) (hm : Nat) (so : Nat → Nat → Nat) (tl : Nat → Nat → Int64) (tb : Nat → Nat → Nat → Nat) (wr : va_W) (bits fst : Nat) (pl : Nat) (hp : pl < 2 ^ 31) : cT l Γ my_O_accepts bc_O_accepts 2 (some .boolean) rm_O_accepts [.ref hm, .int (nI pl)] (xW Γ d hm (.inr (4, [.int (nI bits), .int (nI fst)])) so tl tb wr) (S := Unit) (fun v _ => v = some (.int (bI (decide (pl = 1))))) (fun _ => xW Γ d hm (.inr (4, [.int (nI bits), .int (nI fst)])) so tl tb wr) := by
  refine cT.start (by decide) (Nat.le_of_ble_eq_true rfl) (fun p e s m args below meth c ls Q hQ C hmn h hl => ?_)
  replace hl : lv_has ls 2 [(0, .ref hm), (1, .int (nI pl))] := hl
  refine lv_iload_n C.x C.b dc_O_accepts_0 rfl (lv_at hl 1 rfl) ?_
  refine lv_iconst (v := (nI 1)) C.x C.b dc_O_accepts_1 (by decide +kernel) ?_
  refine bc_ne (tgt := 9) C (by omega) (by omega) dc_O_accepts_2 (by decide) (fun q2 => ?_) (fun q2 => ?_)
  · refine lv_iconst (v := (nI 0)) C.x C.b dc_O_accepts_9 (by decide +kernel) ?_
    rw [hQ]
    exact rt_z C () h (rb_f (decide_eq_false q2)) (by decide +kernel) dc_O_accepts_10
  · refine lv_iconst (v := (nI 1)) C.x C.b dc_O_accepts_5 (by decide +kernel) ?_
    refine lv_goto (tgt := 10) C.x C.b dc_O_accepts_6 (by decide) ?_
    rw [hQ]
    exact rt_z C () h (rb_t (decide_eq_true q2)) (by decide +kernel) dc_O_accepts_10

abbrev rm_R_step : Room := { frames := 1, cells := 0, slots := 0, locals := 22 }
set_option maxRecDepth 100000 in
set_option maxHeartbeats 4000000 in
theorem c_R_step (l : Launch) (Γ : gG) (d : Nat → Nat) (hm : Nat) (so : Nat → Nat → Nat) (tl : Nat → Nat → Int64) (tb : Nat → Nat → Nat → Nat) (wr : va_W) (i fst : Nat) (en : Int32) (hi : i < 80) (pl lt : Nat) (hp : pl < 10) (hlt : lt < 3) : cT l Γ my_R_step bc_R_step 3 (some .int) rm_R_step [.ref hm, .int (nI pl), .int (nI lt)] (xW Γ d hm (.inr (5, [.ref (d (20 + 3 * i)), .int (nI fst), .int en])) so tl tb wr) (S := Unit) (fun v _ => v = some (.int (nI (mmR (tb i) pl lt)))) (fun _ => xW Γ d hm (.inr (5, [.ref (d (20 + 3 * i)), .int (nI fst), .int en])) so tl tb wr) := by
  refine cT.start (by decide) (Nat.le_of_ble_eq_true rfl) (fun p e s m args below meth c ls Q hQ C hmn h hl => ?_)
  replace hl : lv_has ls 3 [(0, .ref hm), (1, .int (nI pl)), (2, .int (nI lt))] := hl
  refine lv_aload_n C.x C.b dc_R_step_0 rfl (lv_at hl 0 rfl) ?_
  refine rg_get C h 4 rfl rfl in_R 0 (by decide) fl_R_7 rfl dc_R_step_1 ?_
  refine lv_iload_n C.x C.b dc_R_step_4 rfl (lv_at hl 1 rfl) ?_
  refine lv_iload_n C.x C.b dc_R_step_5 rfl (lv_at hl 2 rfl) ?_
  refine kv_V (As := [.int (nI pl), .int (nI lt)]) (rest := []) C h hl.1 (c_T_after l Γ d hm (.inr (5, [.ref (d (20 + 3 * i)), .int (nI fst), .int en])) so tl tb wr i pl lt (hi) (by omega) (by omega)) mw_T_after lk_R_20 (q0 := (17 + i)) (lk_T (hi)) rfl rfl (by decide) (by decide) (Nat.le_of_ble_eq_true rfl) dc_R_step_6 (fun v u H locs hp h => ?_)
  obtain rfl := hp
  replace h : sT Γ s (xW Γ d hm (.inr (5, [.ref (d (20 + 3 * i)), .int (nI fst), .int en])) so tl tb wr) H locs := h
  refine W.eq (g2 := F0 m 9 ls [.int (nI (tb i 1 (pl * 3 + lt)))]) rfl ?_
  rw [hQ]
  exact rt_i C () h (rfl) dc_R_step_9

abbrev rm_R_accepts : Room := { frames := 0, cells := 0, slots := 0, locals := 0 }
set_option maxRecDepth 100000 in
set_option maxHeartbeats 4000000 in
theorem c_R_accepts (l : Launch) (Γ : gG) (d : Nat → Nat) (hm : Nat) (so : Nat → Nat → Nat) (tl : Nat → Nat → Int64) (tb : Nat → Nat → Nat → Nat) (wr : va_W) (i fst : Nat) (en : Int32) (hi : i < 80) (pl : Nat) : cT l Γ my_R_accepts bc_R_accepts 2 (some .boolean) rm_R_accepts [.ref hm, .int (nI pl)] (xW Γ d hm (.inr (5, [.ref (d (20 + 3 * i)), .int (nI fst), .int en])) so tl tb wr) (S := Unit) (fun v _ => v = some (.int (bI (maR en pl)))) (fun _ => xW Γ d hm (.inr (5, [.ref (d (20 + 3 * i)), .int (nI fst), .int en])) so tl tb wr) := by
  refine cT.start (by decide) (Nat.le_of_ble_eq_true rfl) (fun p e s m args below meth c ls Q hQ C hmn h hl => ?_)
  replace hl : lv_has ls 2 [(0, .ref hm), (1, .int (nI pl))] := hl
  refine lv_aload_n C.x C.b dc_R_accepts_0 rfl (lv_at hl 0 rfl) ?_
  refine rg_get C h 4 rfl rfl in_R 2 (by decide) fl_R_17 rfl dc_R_accepts_1 ?_
  refine lv_iload_n C.x C.b dc_R_accepts_4 rfl (lv_at hl 1 rfl) ?_
  refine lv_ishr C.x C.b dc_R_accepts_5 ?_
  refine lv_iconst (v := (nI 1)) C.x C.b dc_R_accepts_6 (by decide +kernel) ?_
  refine lv_iand C.x C.b dc_R_accepts_7 ?_
  refine lv_if_eq (tgt := 15) C.x C.b dc_R_accepts_8 (by decide) (fun q8 => ?_) (fun q8 => ?_)
  · refine lv_iconst (v := (nI 0)) C.x C.b dc_R_accepts_15 (by decide +kernel) ?_
    rw [hQ]
    exact rt_z C () h (rb_f (decide_eq_false (fun z => z q8))) (by decide +kernel) dc_R_accepts_16
  · refine lv_iconst (v := (nI 1)) C.x C.b dc_R_accepts_11 (by decide +kernel) ?_
    refine lv_goto (tgt := 16) C.x C.b dc_R_accepts_12 (by decide) ?_
    rw [hQ]
    exact rt_z C () h (rb_t (decide_eq_true q8)) (by decide +kernel) dc_R_accepts_16

abbrev rm_B_step : Room := { frames := 1, cells := 0, slots := 0, locals := 22 }
set_option maxRecDepth 100000 in
set_option maxHeartbeats 4000000 in
theorem c_B_step (l : Launch) (Γ : gG) (d : Nat → Nat) (hm : Nat) (so : Nat → Nat → Nat) (tl : Nat → Nat → Int64) (tb : Nat → Nat → Nat → Nat) (wr : va_W) (how i j : Nat) (hi : i < 80) (hj : j < 80) (pl lt : Nat) (hp : pl < 100) (hlt : lt < 3) : cT l Γ my_B_step bc_B_step 4 (some .int) rm_B_step [.ref hm, .int (nI pl), .int (nI lt)] (xW Γ d hm (.inr (6, [.int (nI how), .ref (d (20 + 3 * i)), .ref (d (20 + 3 * j))])) so tl tb wr) (S := Unit) (fun v _ => v = some (.int (nI (mmB (tb i) (tb j) pl lt)))) (fun _ => xW Γ d hm (.inr (6, [.int (nI how), .ref (d (20 + 3 * i)), .ref (d (20 + 3 * j))])) so tl tb wr) := by
  refine cT.start (by decide) (Nat.le_of_ble_eq_true rfl) (fun p e s m args below meth c ls Q hQ C hmn h hl => ?_)
  replace hl : lv_has ls 4 [(0, .ref hm), (1, .int (nI pl)), (2, .int (nI lt))] := hl
  refine lv_aload_n C.x C.b dc_B_step_0 rfl (lv_at hl 0 rfl) ?_
  refine rg_get C h 4 rfl rfl in_B 1 (by decide) fl_B_15 rfl dc_B_step_1 ?_
  refine lv_iload_n C.x C.b dc_B_step_4 rfl (lv_at hl 1 rfl) ?_
  refine lv_bipush (v := (nI 10)) C.x C.b dc_B_step_5 (by decide +kernel) ?_
  refine lv_idiv C.x C.b dc_B_step_7 (by decide +kernel) ?_
  refine tp_i (pk_div (a := pl) (d := 10) (by omega) (by decide) (by decide)) ?_
  refine lv_iload_n C.x C.b dc_B_step_8 rfl (lv_at hl 2 rfl) ?_
  refine kv_V (As := [.int (nI (pl / 10)), .int (nI lt)]) (rest := []) C h hl.1 (c_T_after l Γ d hm (.inr (6, [.int (nI how), .ref (d (20 + 3 * i)), .ref (d (20 + 3 * j))])) so tl tb wr i (pl / 10) lt (hi) (by omega) (by omega)) mw_T_after lk_B_22 (q0 := (17 + i)) (lk_T (hi)) rfl rfl (by decide) (by decide) (Nat.le_of_ble_eq_true rfl) dc_B_step_9 (fun v u H locs hp h => ?_)
  obtain rfl := hp
  replace h : sT Γ s (xW Γ d hm (.inr (6, [.int (nI how), .ref (d (20 + 3 * i)), .ref (d (20 + 3 * j))])) so tl tb wr) H locs := h
  refine W.eq (g2 := F0 m 12 ls [.int (nI (tb i 1 ((pl / 10) * 3 + lt)))]) rfl ?_
  refine lv_istore_n (lv' := [(3, .int (nI (tb i 1 ((pl / 10) * 3 + lt)))), (0, .ref hm), (1, .int (nI pl)), (2, .int (nI lt))]) C.x C.b dc_B_step_12 rfl hl (by decide) rfl (fun ls hl => ?_)
  refine lv_iload_n C.x C.b dc_B_step_13 rfl (lv_at hl 0 rfl) ?_
  refine lv_bipush (v := (nI 10)) C.x C.b dc_B_step_14 (by decide +kernel) ?_
  refine lv_imul C.x C.b dc_B_step_16 ?_
  refine tp_i (pk_mul (tb i 1 ((pl / 10) * 3 + lt)) 10) ?_
  refine lv_aload_n C.x C.b dc_B_step_17 rfl (lv_at hl 1 rfl) ?_
  refine rg_get C h 4 rfl rfl in_B 2 (by decide) fl_B_19 rfl dc_B_step_18 ?_
  refine lv_iload_n C.x C.b dc_B_step_21 rfl (lv_at hl 2 rfl) ?_
  refine lv_bipush (v := (nI 10)) C.x C.b dc_B_step_22 (by decide +kernel) ?_
  refine lv_irem C.x C.b dc_B_step_24 (by decide +kernel) ?_
  refine tp_i (pk_rem (a := pl) (d := 10) (by omega) (by decide) (by decide)) ?_
  refine lv_iload_n C.x C.b dc_B_step_25 rfl (lv_at hl 3 rfl) ?_
  refine kv_V (As := [.int (nI (pl % 10)), .int (nI lt)]) (rest := [.int (nI ((tb i 1 ((pl / 10) * 3 + lt)) * 10))]) C h hl.1 (c_T_after l Γ d hm (.inr (6, [.int (nI how), .ref (d (20 + 3 * i)), .ref (d (20 + 3 * j))])) so tl tb wr j (pl % 10) lt (hj) (by omega) (by omega)) mw_T_after lk_B_22 (q0 := (17 + j)) (lk_T (hj)) rfl rfl (by decide) (by decide) (Nat.le_of_ble_eq_true rfl) dc_B_step_26 (fun v u H locs hp h => ?_)
  obtain rfl := hp
  replace h : sT Γ s (xW Γ d hm (.inr (6, [.int (nI how), .ref (d (20 + 3 * i)), .ref (d (20 + 3 * j))])) so tl tb wr) H locs := h
  refine W.eq (g2 := F0 m 29 ls [.int (nI (tb j 1 ((pl % 10) * 3 + lt))), .int (nI ((tb i 1 ((pl / 10) * 3 + lt)) * 10))]) rfl ?_
  refine lv_iadd C.x C.b dc_B_step_29 ?_
  refine tp_i (nI_add ((tb i 1 ((pl / 10) * 3 + lt)) * 10) (tb j 1 ((pl % 10) * 3 + lt))) ?_
  rw [hQ]
  exact rt_i C () h (rfl) dc_B_step_30

abbrev rm_B_accepts : Room := { frames := 1, cells := 0, slots := 0, locals := 21 }
set_option maxRecDepth 100000 in
set_option maxHeartbeats 4000000 in
theorem c_B_accepts (l : Launch) (Γ : gG) (d : Nat → Nat) (hm : Nat) (so : Nat → Nat → Nat) (tl : Nat → Nat → Int64) (tb : Nat → Nat → Nat → Nat) (wr : va_W) (how i j : Nat) (hi : i < 80) (hj : j < 80) (pl : Nat) (hp : pl < 100) (hw : how < 4) (hei : tb i 0 1 < 2 ^ 31) (hej : tb j 0 1 < 2 ^ 31) : cT l Γ my_B_accepts bc_B_accepts 4 (some .boolean) rm_B_accepts [.ref hm, .int (nI pl)] (xW Γ d hm (.inr (6, [.int (nI how), .ref (d (20 + 3 * i)), .ref (d (20 + 3 * j))])) so tl tb wr) (S := Unit) (fun v _ => v = some (.int (bI (maB how (tb i) (tb j) pl)))) (fun _ => xW Γ d hm (.inr (6, [.int (nI how), .ref (d (20 + 3 * i)), .ref (d (20 + 3 * j))])) so tl tb wr) := by
  refine cT.start (by decide) (Nat.le_of_ble_eq_true rfl) (fun p e s m args below meth c ls Q hQ C hmn h hl => ?_)
  replace hl : lv_has ls 4 [(0, .ref hm), (1, .int (nI pl))] := hl
  refine lv_aload_n C.x C.b dc_B_accepts_0 rfl (lv_at hl 0 rfl) ?_
  refine rg_get C h 4 rfl rfl in_B 1 (by decide) fl_B_15 rfl dc_B_accepts_1 ?_
  refine lv_iload_n C.x C.b dc_B_accepts_4 rfl (lv_at hl 1 rfl) ?_
  refine lv_bipush (v := (nI 10)) C.x C.b dc_B_accepts_5 (by decide +kernel) ?_
  refine lv_idiv C.x C.b dc_B_accepts_7 (by decide +kernel) ?_
  refine tp_i (pk_div (a := pl) (d := 10) (by omega) (by decide) (by decide)) ?_
  refine kv_V (As := [.int (nI (pl / 10))]) (rest := []) C h hl.1 (c_T_endsAt l Γ d hm (.inr (6, [.int (nI how), .ref (d (20 + 3 * i)), .ref (d (20 + 3 * j))])) so tl tb wr i (pl / 10) (hi) (by omega) (by omega)) mw_T_endsAt lk_B_28 (q0 := (17 + i)) (lk_T (hi)) rfl rfl (by decide) (by decide) (Nat.le_of_ble_eq_true rfl) dc_B_accepts_8 (fun v u H locs hp h => ?_)
  obtain rfl := hp
  replace h : sT Γ s (xW Γ d hm (.inr (6, [.int (nI how), .ref (d (20 + 3 * i)), .ref (d (20 + 3 * j))])) so tl tb wr) H locs := h
  refine W.eq (g2 := F0 m 11 ls [.int (bI ((tb i 0 1).testBit (pl / 10)))]) rfl ?_
  refine lv_istore_n (lv' := [(2, .int (bI ((tb i 0 1).testBit (pl / 10)))), (0, .ref hm), (1, .int (nI pl))]) C.x C.b dc_B_accepts_11 rfl hl (by decide) rfl (fun ls hl => ?_)
  refine lv_aload_n C.x C.b dc_B_accepts_12 rfl (lv_at hl 1 rfl) ?_
  refine rg_get C h 4 rfl rfl in_B 2 (by decide) fl_B_19 rfl dc_B_accepts_13 ?_
  refine lv_iload_n C.x C.b dc_B_accepts_16 rfl (lv_at hl 2 rfl) ?_
  refine lv_bipush (v := (nI 10)) C.x C.b dc_B_accepts_17 (by decide +kernel) ?_
  refine lv_irem C.x C.b dc_B_accepts_19 (by decide +kernel) ?_
  refine tp_i (pk_rem (a := pl) (d := 10) (by omega) (by decide) (by decide)) ?_
  refine kv_V (As := [.int (nI (pl % 10))]) (rest := []) C h hl.1 (c_T_endsAt l Γ d hm (.inr (6, [.int (nI how), .ref (d (20 + 3 * i)), .ref (d (20 + 3 * j))])) so tl tb wr j (pl % 10) (hj) (by omega) (by omega)) mw_T_endsAt lk_B_28 (q0 := (17 + j)) (lk_T (hj)) rfl rfl (by decide) (by decide) (Nat.le_of_ble_eq_true rfl) dc_B_accepts_20 (fun v u H locs hp h => ?_)
  obtain rfl := hp
  replace h : sT Γ s (xW Γ d hm (.inr (6, [.int (nI how), .ref (d (20 + 3 * i)), .ref (d (20 + 3 * j))])) so tl tb wr) H locs := h
  refine W.eq (g2 := F0 m 23 ls [.int (bI ((tb j 0 1).testBit (pl % 10)))]) rfl ?_
  refine lv_istore_n (lv' := [(3, .int (bI ((tb j 0 1).testBit (pl % 10)))), (2, .int (bI ((tb i 0 1).testBit (pl / 10)))), (0, .ref hm), (1, .int (nI pl))]) C.x C.b dc_B_accepts_23 rfl hl (by decide) rfl (fun ls hl => ?_)
  refine lv_aload_n C.x C.b dc_B_accepts_24 rfl (lv_at hl 2 rfl) ?_
  refine rg_get C h 4 rfl rfl in_B 0 (by decide) fl_B_9 rfl dc_B_accepts_25 ?_
  by_cases hw0 : how = 0
  · subst hw0
    refine lv_tableIn (off := 28) (tgt := 56) C.x C.b dc_B_accepts_28 (by decide +kernel) (by decide +kernel) (by decide +kernel) (by decide) ?_
    refine lv_iload_n C.x C.b dc_B_accepts_56 rfl (lv_at hl 1 rfl) ?_
    refine bb_ne (tgt := 64) C dc_B_accepts_57 (by decide) (fun q57 => ?_) (fun q57 => ?_)
    · refine lv_iconst (v := (nI 1)) C.x C.b dc_B_accepts_64 (by decide +kernel) ?_
      refine lv_goto (tgt := 69) C.x C.b dc_B_accepts_65 (by decide) ?_
      rw [hQ]
      exact rt_z C () h (rb_t (by simp [maB, q57])) (by decide +kernel) dc_B_accepts_69
    · refine lv_iload_n C.x C.b dc_B_accepts_60 rfl (lv_at hl 0 rfl) ?_
      refine bb_eq (tgt := 68) C dc_B_accepts_61 (by decide) (fun q61 => ?_) (fun q61 => ?_)
      · refine lv_iconst (v := (nI 0)) C.x C.b dc_B_accepts_68 (by decide +kernel) ?_
        rw [hQ]
        exact rt_z C () h (rb_f (by simp [maB, q57, q61])) (by decide +kernel) dc_B_accepts_69
      · refine lv_iconst (v := (nI 1)) C.x C.b dc_B_accepts_64 (by decide +kernel) ?_
        refine lv_goto (tgt := 69) C.x C.b dc_B_accepts_65 (by decide) ?_
        rw [hQ]
        exact rt_z C () h (rb_t (by simp [maB, q57, q61])) (by decide +kernel) dc_B_accepts_69
  by_cases hw1 : how = 1
  · subst hw1
    refine lv_tableIn (off := 42) (tgt := 70) C.x C.b dc_B_accepts_28 (by decide +kernel) (by decide +kernel) (by decide +kernel) (by decide) ?_
    refine lv_iload_n C.x C.b dc_B_accepts_70 rfl (lv_at hl 1 rfl) ?_
    refine bb_eq (tgt := 82) C dc_B_accepts_71 (by decide) (fun q71 => ?_) (fun q71 => ?_)
    · refine lv_iconst (v := (nI 0)) C.x C.b dc_B_accepts_82 (by decide +kernel) ?_
      rw [hQ]
      exact rt_z C () h (rb_f (by simp [maB, q71])) (by decide +kernel) dc_B_accepts_83
    · refine lv_iload_n C.x C.b dc_B_accepts_74 rfl (lv_at hl 0 rfl) ?_
      refine bb_eq (tgt := 82) C dc_B_accepts_75 (by decide) (fun q75 => ?_) (fun q75 => ?_)
      · refine lv_iconst (v := (nI 0)) C.x C.b dc_B_accepts_82 (by decide +kernel) ?_
        rw [hQ]
        exact rt_z C () h (rb_f (by simp [maB, q71, q75])) (by decide +kernel) dc_B_accepts_83
      · refine lv_iconst (v := (nI 1)) C.x C.b dc_B_accepts_78 (by decide +kernel) ?_
        refine lv_goto (tgt := 83) C.x C.b dc_B_accepts_79 (by decide) ?_
        rw [hQ]
        exact rt_z C () h (rb_t (by simp [maB, q71, q75])) (by decide +kernel) dc_B_accepts_83
  by_cases hw2 : how = 2
  · subst hw2
    refine lv_tableIn (off := 56) (tgt := 84) C.x C.b dc_B_accepts_28 (by decide +kernel) (by decide +kernel) (by decide +kernel) (by decide) ?_
    refine lv_iload_n C.x C.b dc_B_accepts_84 rfl (lv_at hl 1 rfl) ?_
    refine bb_eq (tgt := 96) C dc_B_accepts_85 (by decide) (fun q85 => ?_) (fun q85 => ?_)
    · refine lv_iconst (v := (nI 0)) C.x C.b dc_B_accepts_96 (by decide +kernel) ?_
      rw [hQ]
      exact rt_z C () h (rb_f (by simp [maB, q85])) (by decide +kernel) dc_B_accepts_97
    · refine lv_iload_n C.x C.b dc_B_accepts_88 rfl (lv_at hl 0 rfl) ?_
      refine bb_ne (tgt := 96) C dc_B_accepts_89 (by decide) (fun q89 => ?_) (fun q89 => ?_)
      · refine lv_iconst (v := (nI 0)) C.x C.b dc_B_accepts_96 (by decide +kernel) ?_
        rw [hQ]
        exact rt_z C () h (rb_f (by simp [maB, q85, q89])) (by decide +kernel) dc_B_accepts_97
      · refine lv_iconst (v := (nI 1)) C.x C.b dc_B_accepts_92 (by decide +kernel) ?_
        refine lv_goto (tgt := 97) C.x C.b dc_B_accepts_93 (by decide) ?_
        rw [hQ]
        exact rt_z C () h (rb_t (by simp [maB, q85, q89])) (by decide +kernel) dc_B_accepts_97
  · refine lv_tableOut (tgt := 98) C.x C.b dc_B_accepts_28 (Or.inr (by rw [nI_toInt (by omega)]; omega)) (by decide) ?_
    refine lv_iload_n C.x C.b dc_B_accepts_98 rfl (lv_at hl 1 rfl) ?_
    refine lv_iload_n C.x C.b dc_B_accepts_99 rfl (lv_at hl 0 rfl) ?_
    rw [bI_n]
    rw [bI_n]
    refine bc_eq (tgt := 107) C (by cases (tb i 0 1).testBit (pl / 10) <;> decide) (by cases (tb j 0 1).testBit (pl % 10) <;> decide) dc_B_accepts_100 (by decide) (fun q100 => ?_) (fun q100 => ?_)
    · refine lv_iconst (v := (nI 0)) C.x C.b dc_B_accepts_107 (by decide +kernel) ?_
      rw [hQ]
      exact rt_z C () h (rb_f (by rw [maB, if_neg hw0, if_neg hw1, if_neg hw2]; revert q100; cases (tb i 0 1).testBit (pl / 10) <;> cases (tb j 0 1).testBit (pl % 10) <;> decide)) (by decide +kernel) dc_B_accepts_108
    · refine lv_iconst (v := (nI 1)) C.x C.b dc_B_accepts_103 (by decide +kernel) ?_
      refine lv_goto (tgt := 108) C.x C.b dc_B_accepts_104 (by decide) ?_
      rw [hQ]
      exact rt_z C () h (rb_t (by rw [maB, if_neg hw0, if_neg hw1, if_neg hw2]; revert q100; cases (tb i 0 1).testBit (pl / 10) <;> cases (tb j 0 1).testBit (pl % 10) <;> decide)) (by decide +kernel) dc_B_accepts_108

abbrev rm_H_withBegun : Room := { frames := 1, cells := 0, slots := 0, locals := 21 }
set_option maxRecDepth 100000 in
set_option maxHeartbeats 4000000 in
theorem c_H_withBegun (l : Launch) (Γ : gG) (d : Nat → Nat) (hm : Nat) (so : Nat → Nat → Nat) (tl : Nat → Nat → Int64) (tb : Nat → Nat → Nat → Nat) (wr : va_W) (i j : Nat) (hi : i < 80) (hj : j < 80) (a S : Nat) (ha : a < 10) (hei : tb i 0 1 < 2 ^ 31) : cT l Γ my_H_withBegun bc_H_withBegun 4 (some .int) rm_H_withBegun [.ref hm, .int (nI a), .int (nI S)] (xW Γ d hm (.inr (7, [.ref (d (20 + 3 * i)), .ref (d (20 + 3 * j))])) so tl tb wr) (S := Unit) (fun v _ => v = some (.int (nI (mwB (tb i) a S)))) (fun _ => xW Γ d hm (.inr (7, [.ref (d (20 + 3 * i)), .ref (d (20 + 3 * j))])) so tl tb wr) := by
  refine cT.start (by decide) (Nat.le_of_ble_eq_true rfl) (fun p e s m args below meth c ls Q hQ C hmn h hl => ?_)
  replace hl : lv_has ls 4 [(0, .ref hm), (1, .int (nI a)), (2, .int (nI S))] := hl
  refine lv_aload_n C.x C.b dc_H_withBegun_0 rfl (lv_at hl 0 rfl) ?_
  refine rg_get C h 4 rfl rfl in_H 0 (by decide) fl_H_9 rfl dc_H_withBegun_1 ?_
  refine lv_iload_n C.x C.b dc_H_withBegun_4 rfl (lv_at hl 1 rfl) ?_
  refine kv_V (As := [.int (nI a)]) (rest := []) C h hl.1 (c_T_endsAt l Γ d hm (.inr (7, [.ref (d (20 + 3 * i)), .ref (d (20 + 3 * j))])) so tl tb wr i a (hi) (by omega) (by omega)) mw_T_endsAt lk_H_34 (q0 := (17 + i)) (lk_T (hi)) rfl rfl (by decide) (by decide) (Nat.le_of_ble_eq_true rfl) dc_H_withBegun_5 (fun v u H locs hp h => ?_)
  obtain rfl := hp
  replace h : sT Γ s (xW Γ d hm (.inr (7, [.ref (d (20 + 3 * i)), .ref (d (20 + 3 * j))])) so tl tb wr) H locs := h
  refine W.eq (g2 := F0 m 8 ls [.int (bI ((tb i 0 1).testBit a))]) rfl ?_
  refine bb_eq (tgt := 15) C dc_H_withBegun_8 (by decide) (fun q8 => ?_) (fun q8 => ?_)
  · refine lv_iconst (v := (nI 0)) C.x C.b dc_H_withBegun_15 (by decide +kernel) ?_
    refine lv_istore_n (lv' := [(3, .int (nI 0)), (0, .ref hm), (1, .int (nI a)), (2, .int (nI S))]) C.x C.b dc_H_withBegun_16 rfl hl (by decide) rfl (fun ls hl => ?_)
    refine lv_iload_n C.x C.b dc_H_withBegun_17 rfl (lv_at hl 2 rfl) ?_
    refine lv_sipush (v := (nI 1024)) C.x C.b dc_H_withBegun_18 (by decide +kernel) ?_
    refine lv_imul C.x C.b dc_H_withBegun_21 ?_
    refine tp_i (pk_mul a 1024) ?_
    refine lv_iload_n C.x C.b dc_H_withBegun_22 rfl (lv_at hl 3 rfl) ?_
    refine lv_iload_n C.x C.b dc_H_withBegun_23 rfl (lv_at hl 0 rfl) ?_
    refine lv_ior C.x C.b dc_H_withBegun_24 ?_
    refine tp_i (nI_or S 0) ?_
    refine lv_iadd C.x C.b dc_H_withBegun_25 ?_
    refine tp_i (nI_add (a * 1024) (S ||| 0)) ?_
    rw [hQ]
    exact rt_i C () h (by rw [mwB, q8]; rfl) dc_H_withBegun_26
  · refine lv_iconst (v := (nI 1)) C.x C.b dc_H_withBegun_11 (by decide +kernel) ?_
    refine lv_goto (tgt := 16) C.x C.b dc_H_withBegun_12 (by decide) ?_
    refine lv_istore_n (lv' := [(3, .int (nI 1)), (0, .ref hm), (1, .int (nI a)), (2, .int (nI S))]) C.x C.b dc_H_withBegun_16 rfl hl (by decide) rfl (fun ls hl => ?_)
    refine lv_iload_n C.x C.b dc_H_withBegun_17 rfl (lv_at hl 2 rfl) ?_
    refine lv_sipush (v := (nI 1024)) C.x C.b dc_H_withBegun_18 (by decide +kernel) ?_
    refine lv_imul C.x C.b dc_H_withBegun_21 ?_
    refine tp_i (pk_mul a 1024) ?_
    refine lv_iload_n C.x C.b dc_H_withBegun_22 rfl (lv_at hl 3 rfl) ?_
    refine lv_iload_n C.x C.b dc_H_withBegun_23 rfl (lv_at hl 0 rfl) ?_
    refine lv_ior C.x C.b dc_H_withBegun_24 ?_
    refine tp_i (nI_or S 1) ?_
    refine lv_iadd C.x C.b dc_H_withBegun_25 ?_
    refine tp_i (nI_add (a * 1024) (S ||| 1)) ?_
    rw [hQ]
    exact rt_i C () h (by rw [mwB, q8]; rfl) dc_H_withBegun_26

abbrev rm_H_start : Room := { frames := 2, cells := 0, slots := 0, locals := 44 }
set_option maxRecDepth 100000 in
set_option maxHeartbeats 4000000 in
theorem c_H_start (l : Launch) (Γ : gG) (d : Nat → Nat) (hm : Nat) (so : Nat → Nat → Nat) (tl : Nat → Nat → Int64) (tb : Nat → Nat → Nat → Nat) (wr : va_W) (i j : Nat) (hi : i < 80) (hj : j < 80) (hei : tb i 0 1 < 2 ^ 31) : cT l Γ my_H_start bc_H_start 1 (some .int) rm_H_start [.ref hm] (xW Γ d hm (.inr (7, [.ref (d (20 + 3 * i)), .ref (d (20 + 3 * j))])) so tl tb wr) (S := Unit) (fun v _ => v = some (.int (nI (mwB (tb i) 0 0)))) (fun _ => xW Γ d hm (.inr (7, [.ref (d (20 + 3 * i)), .ref (d (20 + 3 * j))])) so tl tb wr) := by
  refine cT.start (by decide) (Nat.le_of_ble_eq_true rfl) (fun p e s m args below meth c ls Q hQ C hmn h hl => ?_)
  replace hl : lv_has ls 1 [(0, .ref hm)] := hl
  refine lv_aload_n C.x C.b dc_H_start_0 rfl (lv_at hl 0 rfl) ?_
  refine lv_iconst (v := (nI 0)) C.x C.b dc_H_start_1 (by decide +kernel) ?_
  refine lv_iconst (v := (nI 0)) C.x C.b dc_H_start_2 (by decide +kernel) ?_
  refine kv_V (As := [.int (nI 0), .int (nI 0)]) (rest := []) C h hl.1 (c_H_withBegun l Γ d hm so tl tb wr i j hi hj 0 0 (by decide) hei) mw_H_withBegun lk_H_18 (q0 := 4) rfl rfl rfl (by decide) (by decide) (Nat.le_of_ble_eq_true rfl) dc_H_start_3 (fun v u H locs hp h => ?_)
  obtain rfl := hp
  replace h : sT Γ s (xW Γ d hm (.inr (7, [.ref (d (20 + 3 * i)), .ref (d (20 + 3 * j))])) so tl tb wr) H locs := h
  refine W.eq (g2 := F0 m 6 ls [.int (nI (mwB (tb i) 0 0))]) rfl ?_
  rw [hQ]
  exact rt_i C () h (rfl) dc_H_start_6

abbrev rm_H_step : Room := { frames := 2, cells := 0, slots := 0, locals := 46 }
set_option maxRecDepth 100000 in
set_option maxHeartbeats 4000000 in
theorem c_H_step (l : Launch) (Γ : gG) (d : Nat → Nat) (hm : Nat) (so : Nat → Nat → Nat) (tl : Nat → Nat → Int64) (tb : Nat → Nat → Nat → Nat) (wr : va_W) (i j : Nat) (hi : i < 80) (hj : j < 80) (pl lt : Nat) (hp : pl / 1024 < 10) (hlt : lt < 3) (hei : tb i 0 1 < 2 ^ 31) (hx : tb i 1 (pl / 1024 * 3 + lt) < 10) (hrc : tb j 0 0 ≤ 10) (hnx : ∀ r, r < tb j 0 0 → tb j 1 (r * 3 + lt) < 10) : cT l Γ my_H_step bc_H_step 4 (some .int) rm_H_step [.ref hm, .int (nI pl), .int (nI lt)] (xW Γ d hm (.inr (7, [.ref (d (20 + 3 * i)), .ref (d (20 + 3 * j))])) so tl tb wr) (S := Unit) (fun v _ => v = some (.int (nI (mmH (tb i) (tb j) pl lt)))) (fun _ => xW Γ d hm (.inr (7, [.ref (d (20 + 3 * i)), .ref (d (20 + 3 * j))])) so tl tb wr) := by
  refine cT.start (by decide) (Nat.le_of_ble_eq_true rfl) (fun p e s m args below meth c ls Q hQ C hmn h hl => ?_)
  replace hl : lv_has ls 4 [(0, .ref hm), (1, .int (nI pl)), (2, .int (nI lt))] := hl
  refine lv_aload_n C.x C.b dc_H_step_0 rfl (lv_at hl 0 rfl) ?_
  refine rg_get C h 4 rfl rfl in_H 0 (by decide) fl_H_9 rfl dc_H_step_1 ?_
  refine lv_iload_n C.x C.b dc_H_step_4 rfl (lv_at hl 1 rfl) ?_
  refine lv_sipush (v := (nI 1024)) C.x C.b dc_H_step_5 (by decide +kernel) ?_
  refine lv_idiv C.x C.b dc_H_step_8 (by decide +kernel) ?_
  refine tp_i (pk_div (a := pl) (d := 1024) (by omega) (by decide) (by decide)) ?_
  refine lv_iload_n C.x C.b dc_H_step_9 rfl (lv_at hl 2 rfl) ?_
  refine kv_V (As := [.int (nI (pl / 1024)), .int (nI lt)]) (rest := []) C h hl.1 (c_T_after l Γ d hm (.inr (7, [.ref (d (20 + 3 * i)), .ref (d (20 + 3 * j))])) so tl tb wr i (pl / 1024) lt (hi) (by omega) (by omega)) mw_T_after lk_H_22 (q0 := (17 + i)) (lk_T (hi)) rfl rfl (by decide) (by decide) (Nat.le_of_ble_eq_true rfl) dc_H_step_10 (fun v u H locs hp h => ?_)
  obtain rfl := hp
  replace h : sT Γ s (xW Γ d hm (.inr (7, [.ref (d (20 + 3 * i)), .ref (d (20 + 3 * j))])) so tl tb wr) H locs := h
  refine W.eq (g2 := F0 m 13 ls [.int (nI (tb i 1 ((pl / 1024) * 3 + lt)))]) rfl ?_
  refine lv_istore_n (lv' := [(3, .int (nI (tb i 1 ((pl / 1024) * 3 + lt)))), (0, .ref hm), (1, .int (nI pl)), (2, .int (nI lt))]) C.x C.b dc_H_step_13 rfl hl (by decide) rfl (fun ls hl => ?_)
  refine lv_aload_n C.x C.b dc_H_step_14 rfl (lv_at hl 1 rfl) ?_
  refine lv_iload_n C.x C.b dc_H_step_15 rfl (lv_at hl 0 rfl) ?_
  refine lv_aload_n C.x C.b dc_H_step_16 rfl (lv_at hl 1 rfl) ?_
  refine rg_get C h 4 rfl rfl in_H 1 (by decide) fl_H_15 rfl dc_H_step_17 ?_
  refine lv_iload_n C.x C.b dc_H_step_20 rfl (lv_at hl 2 rfl) ?_
  refine lv_sipush (v := (nI 1024)) C.x C.b dc_H_step_21 (by decide +kernel) ?_
  refine lv_irem C.x C.b dc_H_step_24 (by decide +kernel) ?_
  refine tp_i (pk_rem (a := pl) (d := 1024) (by omega) (by decide) (by decide)) ?_
  refine lv_iload_n C.x C.b dc_H_step_25 rfl (lv_at hl 3 rfl) ?_
  refine kv_V (As := [.int (nI (pl % 1024)), .int (nI lt)]) (rest := [.int (nI (tb i 1 ((pl / 1024) * 3 + lt))), .ref hm]) C h hl.1 (c_T_afterAll l Γ d hm (.inr (7, [.ref (d (20 + 3 * i)), .ref (d (20 + 3 * j))])) so tl tb wr j (pl % 1024) lt (hj) (by omega) hlt hrc hnx) mw_T_afterAll lk_H_27 (q0 := (17 + j)) (lk_T (hj)) rfl rfl (by decide) (by decide) (Nat.le_of_ble_eq_true rfl) dc_H_step_26 (fun v u H locs hp h => ?_)
  obtain rfl := hp
  replace h : sT Γ s (xW Γ d hm (.inr (7, [.ref (d (20 + 3 * i)), .ref (d (20 + 3 * j))])) so tl tb wr) H locs := h
  refine W.eq (g2 := F0 m 29 ls [.int (nI (aAll (pl % 1024) (fun r => tb j 1 (r * 3 + lt)) (tb j 0 0) &&& tb j 0 2)), .int (nI (tb i 1 ((pl / 1024) * 3 + lt))), .ref hm]) rfl ?_
  refine kv_V (As := [.int (nI (tb i 1 ((pl / 1024) * 3 + lt))), .int (nI (aAll (pl % 1024) (fun r => tb j 1 (r * 3 + lt)) (tb j 0 0) &&& tb j 0 2))]) (rest := []) C h hl.1 (c_H_withBegun l Γ d hm so tl tb wr i j hi hj (tb i 1 ((pl / 1024) * 3 + lt)) (aAll (pl % 1024) (fun r => tb j 1 (r * 3 + lt)) (tb j 0 0) &&& tb j 0 2) hx hei) mw_H_withBegun lk_H_18 (q0 := 4) rfl rfl rfl (by decide) (by decide) (Nat.le_of_ble_eq_true rfl) dc_H_step_29 (fun v u H locs hp h => ?_)
  obtain rfl := hp
  replace h : sT Γ s (xW Γ d hm (.inr (7, [.ref (d (20 + 3 * i)), .ref (d (20 + 3 * j))])) so tl tb wr) H locs := h
  refine W.eq (g2 := F0 m 32 ls [.int (nI (mwB (tb i) (tb i 1 ((pl / 1024) * 3 + lt)) (aAll (pl % 1024) (fun r => tb j 1 (r * 3 + lt)) (tb j 0 0) &&& tb j 0 2)))]) rfl ?_
  rw [hQ]
  exact rt_i C () h (rfl) dc_H_step_32

abbrev rm_H_accepts : Room := { frames := 0, cells := 0, slots := 0, locals := 0 }
set_option maxRecDepth 100000 in
set_option maxHeartbeats 4000000 in
theorem c_H_accepts (l : Launch) (Γ : gG) (d : Nat → Nat) (hm : Nat) (so : Nat → Nat → Nat) (tl : Nat → Nat → Int64) (tb : Nat → Nat → Nat → Nat) (wr : va_W) (i j : Nat) (hi : i < 80) (hj : j < 80) (pl : Nat) (hp : pl < 2 ^ 31) : cT l Γ my_H_accepts bc_H_accepts 2 (some .boolean) rm_H_accepts [.ref hm, .int (nI pl)] (xW Γ d hm (.inr (7, [.ref (d (20 + 3 * i)), .ref (d (20 + 3 * j))])) so tl tb wr) (S := Unit) (fun v _ => v = some (.int (bI (maH (tb j) pl)))) (fun _ => xW Γ d hm (.inr (7, [.ref (d (20 + 3 * i)), .ref (d (20 + 3 * j))])) so tl tb wr) := by
  refine cT.start (by decide) (Nat.le_of_ble_eq_true rfl) (fun p e s m args below meth c ls Q hQ C hmn h hl => ?_)
  replace hl : lv_has ls 2 [(0, .ref hm), (1, .int (nI pl))] := hl
  refine lv_iload_n C.x C.b dc_H_accepts_0 rfl (lv_at hl 1 rfl) ?_
  refine lv_sipush (v := (nI 1024)) C.x C.b dc_H_accepts_1 (by decide +kernel) ?_
  refine lv_irem C.x C.b dc_H_accepts_4 (by decide +kernel) ?_
  refine tp_i (pk_rem (a := pl) (d := 1024) (by omega) (by decide) (by decide)) ?_
  refine lv_aload_n C.x C.b dc_H_accepts_5 rfl (lv_at hl 0 rfl) ?_
  refine rg_get C h 4 rfl rfl in_H 1 (by decide) fl_H_15 rfl dc_H_accepts_6 ?_
  refine rg_getN C h (17 + j) (lk_T (hj)) rfl in_T 1 (by decide) fl_H_30 rfl dc_H_accepts_9 ?_
  refine lv_iand C.x C.b dc_H_accepts_12 ?_
  refine tp_i (nI_and (pl % 1024) (tb j 0 1)) ?_
  refine bz_eq (tgt := 20) C (Nat.lt_of_le_of_lt Nat.and_le_left (by omega)) dc_H_accepts_13 (by decide) (fun q13 => ?_) (fun q13 => ?_)
  · refine lv_iconst (v := (nI 0)) C.x C.b dc_H_accepts_20 (by decide +kernel) ?_
    rw [hQ]
    exact rt_z C () h (rb_f (decide_eq_false (fun z => z q13))) (by decide +kernel) dc_H_accepts_21
  · refine lv_iconst (v := (nI 1)) C.x C.b dc_H_accepts_16 (by decide +kernel) ?_
    refine lv_goto (tgt := 21) C.x C.b dc_H_accepts_17 (by decide) ?_
    rw [hQ]
    exact rt_z C () h (rb_t (decide_eq_true q13)) (by decide +kernel) dc_H_accepts_21

abbrev rm_N_step : Room := { frames := 2, cells := 0, slots := 0, locals := 46 }
set_option maxRecDepth 100000 in
set_option maxHeartbeats 4000000 in
theorem c_N_step (l : Launch) (Γ : gG) (d : Nat → Nat) (hm : Nat) (so : Nat → Nat → Nat) (tl : Nat → Nat → Int64) (tb : Nat → Nat → Nat → Nat) (wr : va_W) (i : Nat) (hi : i < 80) (pl lt : Nat) (hp : pl < 2 ^ 31) (hlt : lt < 3) (hrc : tb i 0 0 ≤ 10) (hnx : ∀ r, r < tb i 0 0 → tb i 1 (r * 3 + lt) < 10) (hlv : tb i 0 2 < 2 ^ 31) : cT l Γ my_N_step bc_N_step 4 (some .int) rm_N_step [.ref hm, .int (nI pl), .int (nI lt)] (xW Γ d hm (.inr (8, [.ref (d (20 + 3 * i))])) so tl tb wr) (S := Unit) (fun v _ => v = some (.int (nI (mmN (tb i) pl lt)))) (fun _ => xW Γ d hm (.inr (8, [.ref (d (20 + 3 * i))])) so tl tb wr) := by
  refine cT.start (by decide) (Nat.le_of_ble_eq_true rfl) (fun p e s m args below meth c ls Q hQ C hmn h hl => ?_)
  replace hl : lv_has ls 4 [(0, .ref hm), (1, .int (nI pl)), (2, .int (nI lt))] := hl
  refine lv_aload_n C.x C.b dc_N_step_0 rfl (lv_at hl 0 rfl) ?_
  refine rg_get C h 4 rfl rfl in_N 0 (by decide) fl_N_9 rfl dc_N_step_1 ?_
  refine lv_iload_n C.x C.b dc_N_step_4 rfl (lv_at hl 1 rfl) ?_
  refine lv_sipush (v := (nI 1024)) C.x C.b dc_N_step_5 (by decide +kernel) ?_
  refine bc_ne (tgt := 15) C (by omega) (by omega) dc_N_step_8 (by decide) (fun q8 => ?_) (fun q8 => ?_)
  · refine lv_iload_n C.x C.b dc_N_step_15 rfl (lv_at hl 1 rfl) ?_
    refine lv_iload_n C.x C.b dc_N_step_16 rfl (lv_at hl 2 rfl) ?_
    refine kv_V (As := [.int (nI pl), .int (nI lt)]) (rest := []) C h hl.1 (c_T_afterAll l Γ d hm (.inr (8, [.ref (d (20 + 3 * i))])) so tl tb wr i pl lt (hi) (by omega) hlt hrc hnx) mw_T_afterAll lk_N_15 (q0 := (17 + i)) (lk_T (hi)) rfl rfl (by decide) (by decide) (Nat.le_of_ble_eq_true rfl) dc_N_step_17 (fun v u H locs hp h => ?_)
    obtain rfl := hp
    replace h : sT Γ s (xW Γ d hm (.inr (8, [.ref (d (20 + 3 * i))])) so tl tb wr) H locs := h
    refine W.eq (g2 := F0 m 20 ls [.int (nI (aAll pl (fun r => tb i 1 (r * 3 + lt)) (tb i 0 0) &&& tb i 0 2))]) rfl ?_
    refine lv_istore_n (lv' := [(3, .int (nI (aAll pl (fun r => tb i 1 (r * 3 + lt)) (tb i 0 0) &&& tb i 0 2))), (0, .ref hm), (1, .int (nI pl)), (2, .int (nI lt))]) C.x C.b dc_N_step_20 rfl hl (by decide) rfl (fun ls hl => ?_)
    refine lv_iload_n C.x C.b dc_N_step_21 rfl (lv_at hl 0 rfl) ?_
    refine lv_aload_n C.x C.b dc_N_step_22 rfl (lv_at hl 1 rfl) ?_
    refine rg_get C h 4 rfl rfl in_N 0 (by decide) fl_N_9 rfl dc_N_step_23 ?_
    refine rg_getN C h (17 + i) (lk_T (hi)) rfl in_T 1 (by decide) fl_N_21 rfl dc_N_step_26 ?_
    refine lv_iand C.x C.b dc_N_step_29 ?_
    refine tp_i (nI_and (aAll pl (fun r => tb i 1 (r * 3 + lt)) (tb i 0 0) &&& tb i 0 2) (tb i 0 1)) ?_
    refine bz_eq (tgt := 39) C (Nat.lt_of_le_of_lt Nat.and_le_left (Nat.lt_of_le_of_lt Nat.and_le_right hlv)) dc_N_step_30 (by decide) (fun q30 => ?_) (fun q30 => ?_)
    · refine lv_iload_n C.x C.b dc_N_step_39 rfl (lv_at hl 0 rfl) ?_
      rw [hQ]
      exact rt_i C () h (by rw [mmN, mnS, if_neg q8, if_pos q30]) dc_N_step_40
    · refine lv_iload_n C.x C.b dc_N_step_33 rfl (lv_at hl 0 rfl) ?_
      refine lv_iconst (v := (nI 1)) C.x C.b dc_N_step_34 (by decide +kernel) ?_
      refine lv_ior C.x C.b dc_N_step_35 ?_
      refine tp_i (nI_or (aAll pl (fun r => tb i 1 (r * 3 + lt)) (tb i 0 0) &&& tb i 0 2) 1) ?_
      refine lv_goto (tgt := 40) C.x C.b dc_N_step_36 (by decide) ?_
      rw [hQ]
      exact rt_i C () h (by rw [mmN, mnS, if_neg q8, if_neg q30]) dc_N_step_40
  · refine lv_iconst (v := (nI 1)) C.x C.b dc_N_step_11 (by decide +kernel) ?_
    refine lv_goto (tgt := 16) C.x C.b dc_N_step_12 (by decide) ?_
    refine lv_iload_n C.x C.b dc_N_step_16 rfl (lv_at hl 2 rfl) ?_
    refine kv_V (As := [.int (nI 1), .int (nI lt)]) (rest := []) C h hl.1 (c_T_afterAll l Γ d hm (.inr (8, [.ref (d (20 + 3 * i))])) so tl tb wr i 1 lt (hi) (by omega) hlt hrc hnx) mw_T_afterAll lk_N_15 (q0 := (17 + i)) (lk_T (hi)) rfl rfl (by decide) (by decide) (Nat.le_of_ble_eq_true rfl) dc_N_step_17 (fun v u H locs hp h => ?_)
    obtain rfl := hp
    replace h : sT Γ s (xW Γ d hm (.inr (8, [.ref (d (20 + 3 * i))])) so tl tb wr) H locs := h
    refine W.eq (g2 := F0 m 20 ls [.int (nI (aAll 1 (fun r => tb i 1 (r * 3 + lt)) (tb i 0 0) &&& tb i 0 2))]) rfl ?_
    refine lv_istore_n (lv' := [(3, .int (nI (aAll 1 (fun r => tb i 1 (r * 3 + lt)) (tb i 0 0) &&& tb i 0 2))), (0, .ref hm), (1, .int (nI pl)), (2, .int (nI lt))]) C.x C.b dc_N_step_20 rfl hl (by decide) rfl (fun ls hl => ?_)
    refine lv_iload_n C.x C.b dc_N_step_21 rfl (lv_at hl 0 rfl) ?_
    refine lv_aload_n C.x C.b dc_N_step_22 rfl (lv_at hl 1 rfl) ?_
    refine rg_get C h 4 rfl rfl in_N 0 (by decide) fl_N_9 rfl dc_N_step_23 ?_
    refine rg_getN C h (17 + i) (lk_T (hi)) rfl in_T 1 (by decide) fl_N_21 rfl dc_N_step_26 ?_
    refine lv_iand C.x C.b dc_N_step_29 ?_
    refine tp_i (nI_and (aAll 1 (fun r => tb i 1 (r * 3 + lt)) (tb i 0 0) &&& tb i 0 2) (tb i 0 1)) ?_
    refine bz_eq (tgt := 39) C (Nat.lt_of_le_of_lt Nat.and_le_left (Nat.lt_of_le_of_lt Nat.and_le_right hlv)) dc_N_step_30 (by decide) (fun q30 => ?_) (fun q30 => ?_)
    · refine lv_iload_n C.x C.b dc_N_step_39 rfl (lv_at hl 0 rfl) ?_
      rw [hQ]
      exact rt_i C () h (by rw [mmN, mnS, if_pos q8, if_pos q30]) dc_N_step_40
    · refine lv_iload_n C.x C.b dc_N_step_33 rfl (lv_at hl 0 rfl) ?_
      refine lv_iconst (v := (nI 1)) C.x C.b dc_N_step_34 (by decide +kernel) ?_
      refine lv_ior C.x C.b dc_N_step_35 ?_
      refine tp_i (nI_or (aAll 1 (fun r => tb i 1 (r * 3 + lt)) (tb i 0 0) &&& tb i 0 2) 1) ?_
      refine lv_goto (tgt := 40) C.x C.b dc_N_step_36 (by decide) ?_
      rw [hQ]
      exact rt_i C () h (by rw [mmN, mnS, if_pos q8, if_neg q30]) dc_N_step_40

abbrev rm_N_accepts : Room := { frames := 0, cells := 0, slots := 0, locals := 0 }
set_option maxRecDepth 100000 in
set_option maxHeartbeats 4000000 in
theorem c_N_accepts (l : Launch) (Γ : gG) (d : Nat → Nat) (hm : Nat) (so : Nat → Nat → Nat) (tl : Nat → Nat → Int64) (tb : Nat → Nat → Nat → Nat) (wr : va_W) (i : Nat) (hi : i < 80) (pl : Nat) (hp : pl < 2 ^ 31) : cT l Γ my_N_accepts bc_N_accepts 2 (some .boolean) rm_N_accepts [.ref hm, .int (nI pl)] (xW Γ d hm (.inr (8, [.ref (d (20 + 3 * i))])) so tl tb wr) (S := Unit) (fun v _ => v = some (.int (bI (maN (tb i) pl)))) (fun _ => xW Γ d hm (.inr (8, [.ref (d (20 + 3 * i))])) so tl tb wr) := by
  refine cT.start (by decide) (Nat.le_of_ble_eq_true rfl) (fun p e s m args below meth c ls Q hQ C hmn h hl => ?_)
  replace hl : lv_has ls 2 [(0, .ref hm), (1, .int (nI pl))] := hl
  refine lv_iload_n C.x C.b dc_N_accepts_0 rfl (lv_at hl 1 rfl) ?_
  refine lv_sipush (v := (nI 1024)) C.x C.b dc_N_accepts_1 (by decide +kernel) ?_
  refine bc_eq (tgt := 19) C (by omega) (by omega) dc_N_accepts_4 (by decide) (fun q4 => ?_) (fun q4 => ?_)
  · refine lv_iconst (v := (nI 1)) C.x C.b dc_N_accepts_19 (by decide +kernel) ?_
    refine lv_goto (tgt := 24) C.x C.b dc_N_accepts_20 (by decide) ?_
    rw [hQ]
    exact rt_z C () h (rb_t (decide_eq_true (Or.inl q4))) (by decide +kernel) dc_N_accepts_24
  · refine lv_iload_n C.x C.b dc_N_accepts_7 rfl (lv_at hl 1 rfl) ?_
    refine lv_aload_n C.x C.b dc_N_accepts_8 rfl (lv_at hl 0 rfl) ?_
    refine rg_get C h 4 rfl rfl in_N 0 (by decide) fl_N_9 rfl dc_N_accepts_9 ?_
    refine rg_getN C h (17 + i) (lk_T (hi)) rfl in_T 1 (by decide) fl_N_21 rfl dc_N_accepts_12 ?_
    refine lv_iand C.x C.b dc_N_accepts_15 ?_
    refine tp_i (nI_and pl (tb i 0 1)) ?_
    refine bz_eq (tgt := 23) C (Nat.lt_of_le_of_lt Nat.and_le_left (by omega)) dc_N_accepts_16 (by decide) (fun q16 => ?_) (fun q16 => ?_)
    · refine lv_iconst (v := (nI 0)) C.x C.b dc_N_accepts_23 (by decide +kernel) ?_
      rw [hQ]
      exact rt_z C () h (rb_f (decide_eq_false (fun z => z.elim q4 (fun y => y q16)))) (by decide +kernel) dc_N_accepts_24
    · refine lv_iconst (v := (nI 1)) C.x C.b dc_N_accepts_19 (by decide +kernel) ?_
      refine lv_goto (tgt := 24) C.x C.b dc_N_accepts_20 (by decide) ?_
      rw [hQ]
      exact rt_z C () h (rb_t (decide_eq_true (Or.inr q16))) (by decide +kernel) dc_N_accepts_24

abbrev rm_K_step : Room := { frames := 2, cells := 0, slots := 0, locals := 46 }
set_option maxRecDepth 100000 in
set_option maxHeartbeats 4000000 in
theorem c_K_step (l : Launch) (Γ : gG) (d : Nat → Nat) (hm : Nat) (so : Nat → Nat → Nat) (tl : Nat → Nat → Int64) (tb : Nat → Nat → Nat → Nat) (wr : va_W) (i : Nat) (hi : i < 80) (pl lt : Nat) (hp : pl < 2 ^ 31) (hlt : lt < 3) (hrc : tb i 0 0 ≤ 10) (hnx : ∀ r, r < tb i 0 0 → tb i 1 (r * 3 + lt) < 10) : cT l Γ my_K_step bc_K_step 3 (some .int) rm_K_step [.ref hm, .int (nI pl), .int (nI lt)] (xW Γ d hm (.inr (9, [.ref (d (20 + 3 * i))])) so tl tb wr) (S := Unit) (fun v _ => v = some (.int (nI (mmK (tb i) pl lt)))) (fun _ => xW Γ d hm (.inr (9, [.ref (d (20 + 3 * i))])) so tl tb wr) := by
  refine cT.start (by decide) (Nat.le_of_ble_eq_true rfl) (fun p e s m args below meth c ls Q hQ C hmn h hl => ?_)
  replace hl : lv_has ls 3 [(0, .ref hm), (1, .int (nI pl)), (2, .int (nI lt))] := hl
  refine lv_aload_n C.x C.b dc_K_step_0 rfl (lv_at hl 0 rfl) ?_
  refine rg_get C h 4 rfl rfl in_K 0 (by decide) fl_K_7 rfl dc_K_step_1 ?_
  refine lv_iload_n C.x C.b dc_K_step_4 rfl (lv_at hl 1 rfl) ?_
  refine lv_iload_n C.x C.b dc_K_step_5 rfl (lv_at hl 2 rfl) ?_
  refine kv_V (As := [.int (nI pl), .int (nI lt)]) (rest := []) C h hl.1 (c_T_beforeAll l Γ d hm (.inr (9, [.ref (d (20 + 3 * i))])) so tl tb wr i pl lt (hi) (by omega) hlt hrc hnx) mw_T_beforeAll lk_K_19 (q0 := (17 + i)) (lk_T (hi)) rfl rfl (by decide) (by decide) (Nat.le_of_ble_eq_true rfl) dc_K_step_6 (fun v u H locs hp h => ?_)
  obtain rfl := hp
  replace h : sT Γ s (xW Γ d hm (.inr (9, [.ref (d (20 + 3 * i))])) so tl tb wr) H locs := h
  refine W.eq (g2 := F0 m 9 ls [.int (nI (bAll pl (fun r => tb i 1 (r * 3 + lt)) (tb i 0 0)))]) rfl ?_
  rw [hQ]
  exact rt_i C () h (rfl) dc_K_step_9

abbrev rm_K_accepts : Room := { frames := 0, cells := 0, slots := 0, locals := 0 }
set_option maxRecDepth 100000 in
set_option maxHeartbeats 4000000 in
theorem c_K_accepts (l : Launch) (Γ : gG) (d : Nat → Nat) (hm : Nat) (so : Nat → Nat → Nat) (tl : Nat → Nat → Int64) (tb : Nat → Nat → Nat → Nat) (wr : va_W) (i : Nat) (hi : i < 80) (pl : Nat) (hp : pl < 2 ^ 31) : cT l Γ my_K_accepts bc_K_accepts 2 (some .boolean) rm_K_accepts [.ref hm, .int (nI pl)] (xW Γ d hm (.inr (9, [.ref (d (20 + 3 * i))])) so tl tb wr) (S := Unit) (fun v _ => v = some (.int (bI (maK pl)))) (fun _ => xW Γ d hm (.inr (9, [.ref (d (20 + 3 * i))])) so tl tb wr) := by
  refine cT.start (by decide) (Nat.le_of_ble_eq_true rfl) (fun p e s m args below meth c ls Q hQ C hmn h hl => ?_)
  replace hl : lv_has ls 2 [(0, .ref hm), (1, .int (nI pl))] := hl
  refine lv_iload_n C.x C.b dc_K_accepts_0 rfl (lv_at hl 1 rfl) ?_
  refine lv_iconst (v := (nI 1)) C.x C.b dc_K_accepts_1 (by decide +kernel) ?_
  refine lv_iand C.x C.b dc_K_accepts_2 ?_
  refine tp_i (nI_and1 pl) ?_
  refine bz_eq (tgt := 10) C (by omega) dc_K_accepts_3 (by decide) (fun q3 => ?_) (fun q3 => ?_)
  · refine lv_iconst (v := (nI 0)) C.x C.b dc_K_accepts_10 (by decide +kernel) ?_
    rw [hQ]
    exact rt_z C () h (rb_f (decide_eq_false (fun z => z q3))) (by decide +kernel) dc_K_accepts_11
  · refine lv_iconst (v := (nI 1)) C.x C.b dc_K_accepts_6 (by decide +kernel) ?_
    refine lv_goto (tgt := 11) C.x C.b dc_K_accepts_7 (by decide) ?_
    rw [hQ]
    exact rt_z C () h (rb_t (decide_eq_true q3)) (by decide +kernel) dc_K_accepts_11
end
section
/-! machines, as values: start, step, accepts, the places that are used -/
abbrev mM : Type := Nat × (Nat → Nat → Nat) × (Nat → Bool) × (Nat → Prop)
def mrun (M : mM) : Nat → List Nat → Nat
  | pl, [] => pl
  | pl, l :: w => mrun M (M.2.1 pl l) w
def macc (M : mM) (pl : Nat) (w : List Nat) : Bool := M.2.2.1 (mrun M pl w)
def lts (w : List Nat) : Prop := ∀ l ∈ w, l < 3
theorem lts_nil : lts [] := fun _ h => by cases h
theorem lts_cons {l : Nat} {w : List Nat} (h : l < 3) (hw : lts w) : lts (l :: w) := fun x hx => by
  rcases List.mem_cons.mp hx with rfl | h2
  · exact h
  · exact hw x h2
theorem lts_app {a b : List Nat} (ha : lts a) (hb : lts b) : lts (a ++ b) := fun x hx => (List.mem_append.mp hx).elim (ha x) (hb x)
theorem lts_tl {l : Nat} {w : List Nat} (h : lts (l :: w)) : l < 3 ∧ lts w := ⟨h l List.mem_cons_self, fun x hx => h x (List.mem_cons_of_mem _ hx)⟩
theorem mrun_app (M : mM) : ∀ (a b : List Nat) (pl : Nat), mrun M pl (a ++ b) = mrun M (mrun M pl a) b
  | [], _, _ => rfl
  | l :: a, b, pl => by rw [List.cons_append, mrun, mrun, mrun_app M a b]
theorem mrun_snoc (M : mM) (pl : Nat) (w : List Nat) (l : Nat) : mrun M pl (w ++ [l]) = M.2.1 (mrun M pl w) l := by rw [mrun_app]; rfl
theorem macc_cons (M : mM) (pl l : Nat) (w : List Nat) : macc M pl (l :: w) = macc M (M.2.1 pl l) w := rfl
/-- what every table of the class keeps -/
def tOK (t : Nat → Nat → Nat) : Prop := 1 ≤ t 0 0 ∧ t 0 0 ≤ 10 ∧ t 0 1 < 1024 ∧ t 0 2 < 1024 ∧ ∀ r l, r < t 0 0 → l < 3 → t 1 (r * 3 + l) < t 0 0
def mOK (d : Nat → Nat) (tb : Nat → Nat → Nat → Nat) (mc : va_E) (M : mM) : Prop :=
  (∃ bits fst, mc = .inr (4, [.int (nI bits), .int (nI fst)]) ∧ bits < 8 ∧ fst < 3 ∧ M = (fst, mmO bits, (fun pl => decide (pl = 1)), fun pl => pl < 3)) ∨
  (∃ i fst en, mc = .inr (5, [.ref (d (20 + 3 * i)), .int (nI fst), .int en]) ∧ i < 80 ∧ tOK (tb i) ∧ fst < tb i 0 0 ∧ M = (fst, mmR (tb i), maR en, fun pl => pl < tb i 0 0)) ∨
  (∃ how i j, mc = .inr (6, [.int (nI how), .ref (d (20 + 3 * i)), .ref (d (20 + 3 * j))]) ∧ how < 4 ∧ i < 80 ∧ j < 80 ∧ tOK (tb i) ∧ tOK (tb j) ∧ M = (0, mmB (tb i) (tb j), maB how (tb i) (tb j), fun pl => pl / 10 < tb i 0 0 ∧ pl % 10 < tb j 0 0)) ∨
  (∃ i j, mc = .inr (7, [.ref (d (20 + 3 * i)), .ref (d (20 + 3 * j))]) ∧ i < 80 ∧ j < 80 ∧ tOK (tb i) ∧ tOK (tb j) ∧ M = (mwB (tb i) 0 0, mmH (tb i) (tb j), maH (tb j), fun pl => pl / 1024 < tb i 0 0)) ∨
  (∃ i, mc = .inr (8, [.ref (d (20 + 3 * i))]) ∧ i < 80 ∧ tOK (tb i) ∧ M = (1024, mmN (tb i), maN (tb i), fun pl => pl ≤ 1024)) ∨
  (∃ i, mc = .inr (9, [.ref (d (20 + 3 * i))]) ∧ i < 80 ∧ tOK (tb i) ∧ M = (tb i 0 1, mmK (tb i), maK, fun pl => pl < 1024))
theorem bAll_lt (S : Nat) (nx : Nat → Nat) : ∀ n, bAll S nx n < 2 ^ n
  | 0 => Nat.lt_add_one 0
  | n + 1 => by
    have h := bAll_lt S nx n
    have h2 : 2 ^ n < 2 ^ (n + 1) := Nat.pow_lt_pow_right (by decide) (by omega)
    rw [bAll]
    split
    · exact Nat.or_lt_two_pow (by omega) h2
    · omega
theorem mwB_div {t : Nat → Nat → Nat} {a S : Nat} (h : S < 1024) : mwB t a S / 1024 = a ∧ mwB t a S % 1024 = S ||| ((t 0 1).testBit a).toNat := by
  have h1 : ((t 0 1).testBit a).toNat < 2 ^ 10 := by cases (t 0 1).testBit a <;> decide
  have h2 : S ||| ((t 0 1).testBit a).toNat < 1024 := Nat.or_lt_two_pow (n := 10) h h1
  unfold mwB
  constructor <;> omega
theorem and_lt {a b n : Nat} (h : b < n) : a &&& b < n := Nat.lt_of_le_of_lt Nat.and_le_right h
theorem mok_ok {d : Nat → Nat} {tb : Nat → Nat → Nat → Nat} {mc : va_E} {M : mM} (h : mOK d tb mc M) : M.2.2.2 M.1 ∧ (∀ pl l, M.2.2.2 pl → l < 3 → M.2.2.2 (M.2.1 pl l)) ∧ ∀ pl, M.2.2.2 pl → pl < 10240 := by
  rcases h with ⟨bits, fst, -, h1, h2, rfl⟩ | ⟨i, fst, en, -, hi, ht, hf, rfl⟩ | ⟨how, i, j, -, hw, hi, hj, ht, hu, rfl⟩ | ⟨i, j, -, hi, hj, ht, hu, rfl⟩ | ⟨i, -, hi, ht, rfl⟩ | ⟨i, -, hi, ht, rfl⟩
  · refine ⟨h2, fun pl l _ _ => ?_, fun pl (hp : pl < 3) => by omega⟩
    show mmO bits pl l < 3
    unfold mmO
    split <;> decide
  · refine ⟨hf, fun pl l hp hl => ht.2.2.2.2 pl l hp hl, fun pl (hp : pl < tb i 0 0) => by have := ht.2.1; omega⟩
  · refine ⟨⟨(by show 0 / 10 < _; have := ht.1; omega), (by show 0 % 10 < _; have := hu.1; omega)⟩, fun pl l (hp : pl / 10 < tb i 0 0 ∧ pl % 10 < tb j 0 0) hl => ?_, fun pl (hp : pl / 10 < tb i 0 0 ∧ pl % 10 < tb j 0 0) => by have := ht.2.1; omega⟩
    have a := ht.2.2.2.2 (pl / 10) l hp.1 hl
    have b := hu.2.2.2.2 (pl % 10) l hp.2 hl
    have c := hu.2.1
    show mmB (tb i) (tb j) pl l / 10 < tb i 0 0 ∧ mmB (tb i) (tb j) pl l % 10 < tb j 0 0
    unfold mmB
    constructor <;> omega
  · refine ⟨?_, fun pl l (hp : pl / 1024 < tb i 0 0) hl => ?_, fun pl (hp : pl / 1024 < tb i 0 0) => by have := ht.2.1; omega⟩
    · show mwB (tb i) 0 0 / 1024 < _
      rw [(mwB_div (by decide)).1]; exact ht.1
    · show mmH (tb i) (tb j) pl l / 1024 < _
      unfold mmH
      rw [(mwB_div (and_lt hu.2.2.2.1)).1]
      exact ht.2.2.2.2 _ l hp hl
  · refine ⟨Nat.le_refl _, fun pl l _ _ => ?_, fun pl (hp : pl ≤ 1024) => by omega⟩
    show mmN (tb i) pl l ≤ 1024
    have h1 : mnS (tb i) pl l < 2 ^ 10 := and_lt ht.2.2.2.1
    unfold mmN
    split
    · omega
    · have := Nat.or_lt_two_pow (n := 10) h1 (show 1 < 2 ^ 10 by decide); omega
  · refine ⟨ht.2.2.1, fun pl l _ _ => ?_, fun pl (hp : pl < 1024) => by omega⟩
    show mmK (tb i) pl l < 1024
    have h1 := bAll_lt pl (fun r => tb i 1 (r * 3 + l)) (tb i 0 0)
    exact Nat.lt_of_lt_of_le h1 (Nat.pow_le_pow_right (n := 2) (by decide) ht.2.1)
/-- no more places than numbers -/
theorem pig : ∀ (N n : Nat) (f : Nat → Nat), (∀ i, i < n → f i < N) → (∀ i j, i < n → j < n → f i = f j → i = j) → n ≤ N
  | 0, n, f, h, _ => by
    cases n with
    | zero => exact Nat.le_refl _
    | succ n => exact absurd (h 0 (by omega)) (Nat.not_lt_zero _)
  | N + 1, n, f, h, inj => by
    by_cases hx : ∃ i, i < n ∧ f i = N
    · obtain ⟨i0, hi0, e0⟩ := hx
      have := pig N (n - 1) (fun j => if j < i0 then f j else f (j + 1)) (fun i hi => by
        split
        · have := h i (by omega); have : f i ≠ N := fun e => by have := inj i i0 (by omega) hi0 (by omega); omega
          omega
        · have := h (i + 1) (by omega); have : f (i + 1) ≠ N := fun e => by have := inj (i + 1) i0 (by omega) hi0 (by omega); omega
          omega) (fun i j hi hj e => by
        split at e <;> split at e
        · exact inj i j (by omega) (by omega) e
        · have := inj i (j + 1) (by omega) (by omega) e; omega
        · have := inj (i + 1) j (by omega) (by omega) e; omega
        · have := inj (i + 1) (j + 1) (by omega) (by omega) e; omega)
      omega
    · have := pig N n f (fun i hi => by
        have := h i hi
        have : f i ≠ N := fun e => hx ⟨i, hi, e⟩
        omega) inj
      omega
/-! the sorter's state -/
def tW (so : Nat → Nat → Nat) : Nat → Nat → List Nat
  | 0, _ => []
  | n + 1, t => if t = 0 then [] else so 5 t :: tW so n (so 6 t)
def SI (M : mM) (so : Nat → Nat → Nat) : Prop :=
  so 10 0 ≤ 10240 ∧
  (∀ i, i < so 10 0 → M.2.2.2 (so 1 i) ∧ so 0 (so 1 i) = i + 1) ∧
  (∀ q, q < 10240 → so 0 q ≠ 0 → so 0 q ≤ so 10 0 ∧ so 1 (so 0 q - 1) = q) ∧
  (∀ i l, i < so 10 0 → l < 3 → so 2 (i * 3 + l) ≠ 0 → so 2 (i * 3 + l) ≤ so 10 0 ∧ so 1 (so 2 (i * 3 + l) - 1) = M.2.1 (so 1 i) l) ∧
  (1 ≤ so 10 1 ∧ so 10 1 ≤ 10 ∧ ∀ t, 1 ≤ t → t < so 10 1 → so 5 t < 3 ∧ so 6 t < t) ∧
  (∀ i, i < so 10 0 → so 4 i ≤ so 10 1 ∧ so 3 i < 2 ^ so 10 1 ∧ ∀ t, t < so 10 1 → ((so 3 i).testBit t = true → macc M (so 1 i) (tW so t t) = true) ∧ (t < so 4 i → macc M (so 1 i) (tW so t t) = true → (so 3 i).testBit t = true)) ∧
  ∀ i, i < so 10 0 → ∃ w, lts w ∧ mrun M M.1 w = so 1 i
/-- what stays while places are met -/
def sE (so so' : Nat → Nat → Nat) : Prop :=
  (∀ k, 5 ≤ k → k ≤ 9 → so' k = so k) ∧ so' 10 1 = so 10 1 ∧ so' 10 2 = so 10 2 ∧ so' 10 3 = so 10 3 ∧ so 10 0 ≤ so' 10 0 ∧ ∀ i, i < so 10 0 → so' 1 i = so 1 i ∧ so 4 i ≤ so' 4 i ∧ (∀ t, (so 3 i).testBit t = true → (so' 3 i).testBit t = true) ∧ ∀ l, l < 3 → so 2 (i * 3 + l) ≠ 0 → so' 2 (i * 3 + l) ≠ 0
theorem sE.rf {so : Nat → Nat → Nat} : sE so so := ⟨fun _ _ _ => rfl, rfl, rfl, rfl, Nat.le_refl _, fun _ _ => ⟨rfl, Nat.le_refl _, fun _ z => z, fun _ _ z => z⟩⟩
theorem sE.tr {a b c : Nat → Nat → Nat} (h : sE a b) (g : sE b c) : sE a c := by
  obtain ⟨h1, h2, h3, h4, h5, h6⟩ := h
  obtain ⟨g1, g2, g3, g4, g5, g6⟩ := g
  refine ⟨fun k x y => (g1 k x y).trans (h1 k x y), g2.trans h2, g3.trans h3, g4.trans h4, Nat.le_trans h5 g5, fun i hi => ?_⟩
  have x := h6 i hi
  have y := g6 i (Nat.lt_of_lt_of_le hi h5)
  exact ⟨y.1.trans x.1, Nat.le_trans x.2.1 y.2.1, fun t z => y.2.2.1 t (x.2.2.1 t z), fun l hl z => y.2.2.2 l hl (x.2.2.2 l hl z)⟩
theorem tW_eq {so so' : Nat → Nat → Nat} (h5 : so' 5 = so 5) (h6 : so' 6 = so 6) : ∀ n t, tW so' n t = tW so n t
  | 0, _ => rfl
  | n + 1, t => by rw [tW, tW, h5, h6, tW_eq h5 h6 n]
/-- what meeting a new place writes -/
def mtR (so : Nat → Nat → Nat) (pl : Nat) (so' : Nat → Nat → Nat) : Prop :=
  so' 0 = us (so 0) pl (so 10 0 + 1) ∧ so' 1 = us (so 1) (so 10 0) pl ∧ (∀ j, so' 2 j = if so 10 0 * 3 ≤ j ∧ j < so 10 0 * 3 + 3 then 0 else so 2 j) ∧ so' 3 = us (so 3) (so 10 0) 0 ∧ so' 4 = us (so 4) (so 10 0) 0 ∧ so' 10 = us (so 10) 0 (so 10 0 + 1) ∧ ∀ k, 5 ≤ k → k ≤ 9 → so' k = so k
theorem SI.room {M : mM} {so : Nat → Nat → Nat} {pl : Nat} (hb : ∀ q, M.2.2.2 q → q < 10240) (h : SI M so) (hp : pl < 10240) (h0 : so 0 pl = 0) : so 10 0 < 10240 := by
  have := pig 10240 (so 10 0 + 1) (fun i => if i < so 10 0 then so 1 i else pl) (fun i hi => by
    split
    · exact hb _ (h.2.1 i (by omega)).1
    · exact hp) (fun i j hi hj e => by
    split at e <;> split at e
    · rename_i a b
      have x := (h.2.1 i a).2
      have y := (h.2.1 j b).2
      rw [e] at x; omega
    · rename_i a b
      have x := (h.2.1 i a).2
      rw [e] at x; omega
    · rename_i a b
      have x := (h.2.1 j b).2
      rw [← e] at x; omega
    · omega)
  omega
theorem SI.meet {M : mM} {so so' : Nat → Nat → Nat} {pl : Nat} (hb : ∀ q, M.2.2.2 q → q < 10240) (h : SI M so) (hv : M.2.2.2 pl) (h0 : so 0 pl = 0) (hw : ∃ w, lts w ∧ mrun M M.1 w = pl) (r : mtR so pl so') : SI M so' ∧ sE so so' := by
  have hr := h.room hb (hb _ hv) h0
  obtain ⟨a1, a2, a3, a4, a5, a6, a7⟩ := h
  obtain ⟨r0, r1, r2, r3, r4, r10, rk⟩ := r
  have e0 : so' 10 0 = so 10 0 + 1 := by rw [r10, us_s]
  have e1 : so' 10 1 = so 10 1 := by rw [r10, us_n _ _ (by decide)]
  have tw : ∀ n t, tW so' n t = tW so n t := tW_eq (rk 5 (by decide) (by decide)) (rk 6 (by decide) (by decide))
  have p1 : ∀ i, i < so 10 0 → so' 1 i = so 1 i := fun i hi => by rw [r1, us_n _ _ (by omega)]
  have pn : so' 1 (so 10 0) = pl := by rw [r1, us_s]
  have ne : ∀ i, i < so 10 0 → so 1 i ≠ pl := fun i hi e => by have := (a2 i hi).2; rw [e] at this; omega
  refine ⟨⟨by omega, fun i hi => ?_, fun q hq hz => ?_, fun i l hi hl hz => ?_, ?_, fun i hi => ?_, fun i hi => ?_⟩, rk, e1, by rw [r10, us_n _ _ (by decide)], by rw [r10, us_n _ _ (by decide)], by omega, fun i hi => ⟨p1 i hi, by rw [r4, us_n _ _ (by omega)]; exact Nat.le_refl _, fun t z => by rw [r3, us_n _ _ (by omega)]; exact z, fun l hl z => by rw [r2, if_neg (by omega)]; exact z⟩⟩
  · by_cases hi2 : i < so 10 0
    · rw [p1 i hi2, r0, us_n _ _ (ne i hi2)]; exact a2 i hi2
    · have : i = so 10 0 := by omega
      subst this
      rw [pn, r0, us_s]; exact ⟨hv, rfl⟩
  · by_cases hqp : q = pl
    · subst hqp
      rw [r0, us_s, e0]
      exact ⟨Nat.le_refl _, by rw [Nat.add_sub_cancel]; exact pn⟩
    · rw [r0, us_n _ _ hqp] at hz ⊢
      obtain ⟨x, y⟩ := a3 q hq hz
      exact ⟨by omega, by rw [p1 _ (by omega)]; exact y⟩
  · by_cases hi2 : i < so 10 0
    · rw [r2, if_neg (by omega)] at hz ⊢
      obtain ⟨x, y⟩ := a4 i l hi2 hl hz
      exact ⟨by omega, by rw [p1 _ (by omega), p1 i hi2]; exact y⟩
    · rw [r2, if_pos (by omega)] at hz
      exact absurd rfl hz
  · rw [e1, rk 5 (by decide) (by decide), rk 6 (by decide) (by decide)]; exact a5
  · rw [e1]
    by_cases hi2 : i < so 10 0
    · rw [p1 i hi2, r3, r4, us_n _ _ (by omega), us_n _ _ (by omega)]
      obtain ⟨x, y, z⟩ := a6 i hi2
      exact ⟨x, y, fun t ht => by rw [tw]; exact z t ht⟩
    · have : i = so 10 0 := by omega
      subst this
      rw [r3, r4, us_s, us_s]
      exact ⟨Nat.zero_le _, Nat.two_pow_pos _, fun t _ => ⟨fun z => (by rw [Nat.zero_testBit] at z; cases z), fun z => absurd z (Nat.not_lt_zero _)⟩⟩
  · by_cases hi2 : i < so 10 0
    · rw [p1 i hi2]; exact a7 i hi2
    · have : i = so 10 0 := by omega
      subst this
      rw [pn]; exact hw
theorem SI.follow {M : mM} {so so' : Nat → Nat → Nat} {i l j : Nat} (h : SI M so) (hi : i < so 10 0) (hl : l < 3) (hj : j < so 10 0) (e : so 1 j = M.2.1 (so 1 i) l) (r : so' = us so 2 (us (so 2) (i * 3 + l) (j + 1))) : SI M so' ∧ sE so so' := by
  obtain ⟨a1, a2, a3, a4, a5, a6, a7⟩ := h
  have k : ∀ n, n ≠ 2 → so' n = so n := fun n hn => by rw [r, us_n _ _ hn]
  have tw : ∀ n t, tW so' n t = tW so n t := tW_eq (k 5 (by decide)) (k 6 (by decide))
  refine ⟨⟨by rw [k 10 (by decide)]; exact a1, ?_, ?_, fun i2 l2 hi2 hl2 hz => ?_, ?_, ?_, ?_⟩, fun n h5 h9 => k n (by omega), by rw [k 10 (by decide)], by rw [k 10 (by decide)], by rw [k 10 (by decide)], by rw [k 10 (by decide)]; exact Nat.le_refl _, fun n _ => ⟨by rw [k 1 (by decide)], by rw [k 4 (by decide)]; exact Nat.le_refl _, fun t z => by rw [k 3 (by decide)]; exact z, fun l2 hl2 z => by
    rw [r, us_s]
    by_cases q : n * 3 + l2 = i * 3 + l
    · rw [q, us_s]; exact Nat.succ_ne_zero _
    · rw [us_n _ _ q]; exact z⟩⟩
  · rw [k 10 (by decide), k 1 (by decide), k 0 (by decide)]; exact a2
  · rw [k 10 (by decide), k 1 (by decide), k 0 (by decide)]; exact a3
  · rw [k 10 (by decide)] at hi2
    rw [k 10 (by decide), k 1 (by decide)]
    rw [r, us_s] at hz ⊢
    by_cases q : i2 * 3 + l2 = i * 3 + l
    · have q1 : i2 = i := by omega
      have q2 : l2 = l := by omega
      subst q1; subst q2
      rw [us_s, Nat.add_sub_cancel]
      exact ⟨by omega, e⟩
    · rw [us_n _ _ q] at hz ⊢
      exact a4 i2 l2 hi2 hl2 hz
  · rw [k 10 (by decide), k 5 (by decide), k 6 (by decide)]; exact a5
  · rw [k 10 (by decide), k 3 (by decide), k 4 (by decide), k 1 (by decide)]
    intro i2 hi2
    obtain ⟨x, y, z⟩ := a6 i2 hi2
    exact ⟨x, y, fun t ht => by rw [tw]; exact z t ht⟩
  · rw [k 10 (by decide), k 1 (by decide)]; exact a7
/-- one more right bit -/
theorem SI.bit {M : mM} {so so' : Nat → Nat → Nat} {i t : Nat} (h : SI M so) (hi : i < so 10 0) (ht : t < so 10 1) (hb : macc M (so 1 i) (tW so t t) = true) (r : so' = us so 3 (us (so 3) i (so 3 i ||| 2 ^ t))) : SI M so' ∧ sE so so' := by
  obtain ⟨a1, a2, a3, a4, a5, a6, a7⟩ := h
  have k : ∀ n, n ≠ 3 → so' n = so n := fun n hn => by rw [r, us_n _ _ hn]
  have tw : ∀ n t, tW so' n t = tW so n t := tW_eq (k 5 (by decide)) (k 6 (by decide))
  refine ⟨⟨by rw [k 10 (by decide)]; exact a1, ?_, ?_, ?_, ?_, fun i2 hi2 => ?_, ?_⟩, fun n h5 h9 => k n (by omega), by rw [k 10 (by decide)], by rw [k 10 (by decide)], by rw [k 10 (by decide)], by rw [k 10 (by decide)]; exact Nat.le_refl _, fun n _ => ⟨by rw [k 1 (by decide)], by rw [k 4 (by decide)]; exact Nat.le_refl _, fun t2 z => by
    rw [r, us_s]
    by_cases q : n = i
    · subst q; rw [us_s, Nat.testBit_or, z, Bool.true_or]
    · rw [us_n _ _ q]; exact z, fun l hl z => by rw [k 2 (by decide)]; exact z⟩⟩
  · rw [k 10 (by decide), k 1 (by decide), k 0 (by decide)]; exact a2
  · rw [k 10 (by decide), k 1 (by decide), k 0 (by decide)]; exact a3
  · rw [k 10 (by decide), k 1 (by decide), k 2 (by decide)]; exact a4
  · rw [k 10 (by decide), k 5 (by decide), k 6 (by decide)]; exact a5
  · rw [k 10 (by decide)] at hi2
    rw [k 10 (by decide), k 4 (by decide), k 1 (by decide), r, us_s]
    obtain ⟨x, y, z⟩ := a6 i2 hi2
    by_cases q : i2 = i
    · subst q
      rw [us_s]
      refine ⟨x, Nat.or_lt_two_pow y (Nat.pow_lt_pow_right (by decide) ht), fun t2 ht2 => ?_⟩
      rw [← r, tw, Nat.testBit_or, Nat.testBit_two_pow, Bool.or_eq_true, decide_eq_true_eq]
      obtain ⟨z1, z2⟩ := z t2 ht2
      refine ⟨fun w => ?_, fun w1 w2 => Or.inl (z2 w1 w2)⟩
      rcases w with w | w
      · exact z1 w
      · subst w; exact hb
    · rw [us_n _ _ q]
      exact ⟨x, y, fun t2 ht2 => by rw [← r, tw]; exact z t2 ht2⟩
  · rw [k 10 (by decide), k 1 (by decide)]; exact a7
/-- all tests asked -/
theorem SI.all {M : mM} {so so' : Nat → Nat → Nat} {i : Nat} (h : SI M so) (hi : i < so 10 0) (hA : ∀ t, t < so 10 1 → macc M (so 1 i) (tW so t t) = true → (so 3 i).testBit t = true) (r : so' = us so 4 (us (so 4) i (so 10 1))) : SI M so' ∧ sE so so' := by
  obtain ⟨a1, a2, a3, a4, a5, a6, a7⟩ := h
  have k : ∀ n, n ≠ 4 → so' n = so n := fun n hn => by rw [r, us_n _ _ hn]
  have tw : ∀ n t, tW so' n t = tW so n t := tW_eq (k 5 (by decide)) (k 6 (by decide))
  refine ⟨⟨by rw [k 10 (by decide)]; exact a1, ?_, ?_, ?_, ?_, fun i2 hi2 => ?_, ?_⟩, fun n h5 h9 => k n (by omega), by rw [k 10 (by decide)], by rw [k 10 (by decide)], by rw [k 10 (by decide)], by rw [k 10 (by decide)]; exact Nat.le_refl _, fun n hn => ⟨by rw [k 1 (by decide)], ?_, fun t z => by rw [k 3 (by decide)]; exact z, fun l hl z => by rw [k 2 (by decide)]; exact z⟩⟩
  · rw [k 10 (by decide), k 1 (by decide), k 0 (by decide)]; exact a2
  · rw [k 10 (by decide), k 1 (by decide), k 0 (by decide)]; exact a3
  · rw [k 10 (by decide), k 1 (by decide), k 2 (by decide)]; exact a4
  · rw [k 10 (by decide), k 5 (by decide), k 6 (by decide)]; exact a5
  · rw [k 10 (by decide)] at hi2
    obtain ⟨x, y, z⟩ := a6 i2 hi2
    rw [k 10 (by decide), k 3 (by decide), k 1 (by decide), r, us_s]
    by_cases q : i2 = i
    · subst q
      rw [us_s]
      exact ⟨Nat.le_refl _, y, fun t ht => by rw [← r, tw]; exact ⟨(z t ht).1, fun _ => hA t ht⟩⟩
    · rw [us_n _ _ q]
      exact ⟨x, y, fun t ht => by rw [← r, tw]; exact z t ht⟩
  · rw [k 10 (by decide), k 1 (by decide)]; exact a7
  · rw [r, us_s]
    by_cases q : n = i
    · subst q; rw [us_s]; exact (a6 n hn).1
    · rw [us_n _ _ q]; exact Nat.le_refl _
theorem tW_0 (so : Nat → Nat → Nat) (n : Nat) : tW so n 0 = [] := by cases n <;> simp [tW]
/-- one letter of a test -/
theorem tW_st {M : mM} {so : Nat → Nat → Nat} {n t pl : Nat} (hn : t ≤ n) (ht : t ≠ 0) : macc M pl (tW so n t) = macc M (M.2.1 pl (so 5 t)) (tW so (n - 1) (so 6 t)) := by
  cases n with
  | zero => omega
  | succ n => rw [tW, if_neg ht, macc_cons, Nat.add_sub_cancel]
def akR (so : Nat → Nat → Nat) (i : Nat) (so' : Nat → Nat → Nat) : Prop := so' 7 = us (so 7) (so 10 2) i ∧ so' 10 = us (so 10) 2 (so 10 2 + 1) ∧ ∀ k, k ≠ 7 → k ≠ 10 → so' k = so k
def spR (so : Nat → Nat → Nat) (i l t : Nat) (so' : Nat → Nat → Nat) : Prop := so' 7 = us (so 7) (so 10 2) i ∧ so' 10 = us (us (so 10) 2 (so 10 2 + 1)) 1 (so 10 1 + 1) ∧ so' 5 = us (so 5) (so 10 1) l ∧ so' 6 = us (so 6) (so 10 1) t ∧ ∀ k, k ≠ 7 → k ≠ 10 → k ≠ 5 → k ≠ 6 → so' k = so k
/-! the lowest bit -/
theorem ntz_lem : ∀ x, x < 1024 → x ≠ 0 → ∃ t, t < 10 ∧ x.testBit t = true ∧ (nI x ^^^ mI 0) &&& (nI x - nI 1) = nI (2 ^ t - 1) := by decide +kernel
def sB (so : Nat → Nat → Nat) : Prop := so 10 0 ≤ 10240 ∧ (∀ i, i < so 10 0 → so 1 i < 10240) ∧ ∀ q, q < 10240 → so 0 q ≠ 0 → ∃ i, i < so 10 0 ∧ so 1 i = q
theorem SI.sB {M : mM} {so : Nat → Nat → Nat} (hb : ∀ q, M.2.2.2 q → q < 10240) (h : SI M so) : sB so := by
  refine ⟨h.1, fun i hi => hb _ (h.2.1 i hi).1, fun q hq hz => ?_⟩
  obtain ⟨a, b⟩ := h.2.2.1 q hq hz
  exact ⟨so 0 q - 1, by omega, b⟩
theorem SI.zero {M : mM} {so : Nat → Nat → Nat} (h0 : so 10 0 = 0) (h1 : so 10 1 = 1) (hz : ∀ q, q < 10240 → so 0 q = 0) : SI M so := by
  refine ⟨by omega, fun i hi => by omega, fun q hq hn => absurd (hz q hq) hn, fun i l hi => by omega, ⟨by omega, by omega, fun t a b => by omega⟩, fun i hi => by omega, fun i hi => by omega⟩
/-- met places that lead to met places alone, none of which accepts -/
theorem none_met {M : mM} {so : Nat → Nat → Nat} (hA : ∀ i, i < so 10 0 → M.2.2.1 (so 1 i) = false ∧ ∀ l, l < 3 → ∃ j, j < so 10 0 ∧ so 1 j = M.2.1 (so 1 i) l) : ∀ (w : List Nat) (i : Nat), i < so 10 0 → lts w → macc M (so 1 i) w = false
  | [], i, hi, _ => (hA i hi).1
  | l :: w, i, hi, hw => by
    obtain ⟨j, hj, e⟩ := (hA i hi).2 l (lts_tl hw).1
    rw [macc_cons, ← e]
    exact none_met hA w j hj (lts_tl hw).2
end
section
set_option maxHeartbeats 4000000 in
set_option maxRecDepth 100000 in
theorem kv_start {p : Program} {l : Launch} {e : Env} {R : Room} {s : State} {m : MethodId} {args : Array Value} {below : List Frame} {meth : Method} {c : Code} {H : Heap} {locs : List Loc} {cells slots : Nat} {Q : State → Prop} {Γ : gG} {cc : ByteArray} {ret : Option FieldType} {nL pc : Nat} {ls : Array Slot} {rest : List Value} {d : Nat → Nat} {hm : Nat} {mc : va_E} {so : Nat → Nat → Nat} {tl : Nat → Nat → Int64} {tb : Nat → Nat → Nat → Nat} {wr : va_W} {M : mM} {idx : Nat} (C : cX Γ p s m args meth c cc ret rn_S nL) (h : sT Γ s (xW Γ d hm mc so tl tb wr) H locs) (hl : ls.size = nL) (hM : mOK d tb mc M) (hk : Cond.methodLink rn_S idx my_A_start ∈ gw) (hR : 3 ≤ R.frames ∧ 64 ≤ R.locals) (hf : cells ≤ R.cells ∧ slots ≤ R.slots) (hs : (rest.map fun v => v.category).sum ≤ 8) (hdg : decode cc pc = .ok (.invokevirtual idx, 3))
    (kk : ∀ (H1 : Heap) (locs1 : List Loc), sT Γ s (xW Γ d hm mc so tl tb wr) H1 locs1 → W p l e R s m args below meth c H1 locs1 cells slots Q (F0 m (pc + 3) ls (.int (nI M.1) :: rest))) : W p l e R s m args below meth c H locs cells slots Q (F0 m pc ls (.ref hm :: rest)) := by
  rcases hM with ⟨bits, fst, rfl, h1, h2, rfl⟩ | ⟨i, fst, en, rfl, hi, ht, hft, rfl⟩ | ⟨how, i, j, rfl, hw, hi, hj, ht, hu, rfl⟩ | ⟨i, j, rfl, hi, hj, ht, hu, rfl⟩ | ⟨i, rfl, hi, ht, rfl⟩ | ⟨i, rfl, hi, ht, rfl⟩
  · refine kv_A (As := []) (rest := rest) (q0 := 4) C h hl (c_O_start l Γ d hm so tl tb wr bits fst ) ma_O_start hk rfl rfl rfl ⟨Nat.le_trans (by decide) hR.1, Nat.le_trans (by decide) hR.2⟩ hf hs hdg (fun v u H locs hp h => ?_)
    subst hp
    exact kk H locs h
  · refine kv_A (As := []) (rest := rest) (q0 := 4) C h hl (c_R_start l Γ d hm so tl tb wr i fst en hi ) ma_R_start hk rfl rfl rfl ⟨Nat.le_trans (by decide) hR.1, Nat.le_trans (by decide) hR.2⟩ hf hs hdg (fun v u H locs hp h => ?_)
    subst hp
    exact kk H locs h
  · refine kv_A (As := []) (rest := rest) (q0 := 4) C h hl (c_B_start l Γ d hm so tl tb wr how i j hi hj ) ma_B_start hk rfl rfl rfl ⟨Nat.le_trans (by decide) hR.1, Nat.le_trans (by decide) hR.2⟩ hf hs hdg (fun v u H locs hp h => ?_)
    subst hp
    exact kk H locs h
  · refine kv_A (As := []) (rest := rest) (q0 := 4) C h hl (c_H_start l Γ d hm so tl tb wr i j hi hj (Nat.lt_of_lt_of_le ht.2.2.1 (by decide))) ma_H_start hk rfl rfl rfl ⟨Nat.le_trans (by decide) hR.1, Nat.le_trans (by decide) hR.2⟩ hf hs hdg (fun v u H locs hp h => ?_)
    subst hp
    exact kk H locs h
  · refine kv_A (As := []) (rest := rest) (q0 := 4) C h hl (c_N_start l Γ d hm so tl tb wr i hi ) ma_N_start hk rfl rfl rfl ⟨Nat.le_trans (by decide) hR.1, Nat.le_trans (by decide) hR.2⟩ hf hs hdg (fun v u H locs hp h => ?_)
    subst hp
    exact kk H locs h
  · refine kv_A (As := []) (rest := rest) (q0 := 4) C h hl (c_K_start l Γ d hm so tl tb wr i hi ) ma_K_start hk rfl rfl rfl ⟨Nat.le_trans (by decide) hR.1, Nat.le_trans (by decide) hR.2⟩ hf hs hdg (fun v u H locs hp h => ?_)
    subst hp
    exact kk H locs h

set_option maxHeartbeats 4000000 in
set_option maxRecDepth 100000 in
theorem kv_step {p : Program} {l : Launch} {e : Env} {R : Room} {s : State} {m : MethodId} {args : Array Value} {below : List Frame} {meth : Method} {c : Code} {H : Heap} {locs : List Loc} {cells slots : Nat} {Q : State → Prop} {Γ : gG} {cc : ByteArray} {ret : Option FieldType} {nL pc : Nat} {ls : Array Slot} {rest : List Value} {d : Nat → Nat} {hm : Nat} {mc : va_E} {so : Nat → Nat → Nat} {tl : Nat → Nat → Int64} {tb : Nat → Nat → Nat → Nat} {wr : va_W} {M : mM} {idx pl lt : Nat} (C : cX Γ p s m args meth c cc ret rn_S nL) (h : sT Γ s (xW Γ d hm mc so tl tb wr) H locs) (hl : ls.size = nL) (hM : mOK d tb mc M) (hv : M.2.2.2 pl) (hlt : lt < 3) (hk : Cond.methodLink rn_S idx my_A_step ∈ gw) (hR : 3 ≤ R.frames ∧ 69 ≤ R.locals) (hf : cells ≤ R.cells ∧ slots ≤ R.slots) (hs : (rest.map fun v => v.category).sum ≤ 8) (hdg : decode cc pc = .ok (.invokevirtual idx, 3))
    (kk : ∀ (H1 : Heap) (locs1 : List Loc), sT Γ s (xW Γ d hm mc so tl tb wr) H1 locs1 → W p l e R s m args below meth c H1 locs1 cells slots Q (F0 m (pc + 3) ls (.int (nI (M.2.1 pl lt)) :: rest))) : W p l e R s m args below meth c H locs cells slots Q (F0 m pc ls (.int (nI lt) :: .int (nI pl) :: .ref hm :: rest)) := by
  rcases hM with ⟨bits, fst, rfl, h1, h2, rfl⟩ | ⟨i, fst, en, rfl, hi, ht, hft, rfl⟩ | ⟨how, i, j, rfl, hw, hi, hj, ht, hu, rfl⟩ | ⟨i, j, rfl, hi, hj, ht, hu, rfl⟩ | ⟨i, rfl, hi, ht, rfl⟩ | ⟨i, rfl, hi, ht, rfl⟩
  · refine kv_A (As := [.int (nI pl), .int (nI lt)]) (rest := rest) (q0 := 4) C h hl (c_O_step l Γ d hm so tl tb wr bits fst pl lt (by have : pl < 3 := hv; omega) hlt (by omega)) ma_O_step hk rfl rfl rfl ⟨Nat.le_trans (by decide) hR.1, Nat.le_trans (by decide) hR.2⟩ hf hs hdg (fun v u H locs hp h => ?_)
    subst hp
    exact kk H locs h
  · refine kv_A (As := [.int (nI pl), .int (nI lt)]) (rest := rest) (q0 := 4) C h hl (c_R_step l Γ d hm so tl tb wr i fst en hi pl lt (by have : pl < tb i 0 0 := hv; have := ht.2.1; omega) hlt) ma_R_step hk rfl rfl rfl ⟨Nat.le_trans (by decide) hR.1, Nat.le_trans (by decide) hR.2⟩ hf hs hdg (fun v u H locs hp h => ?_)
    subst hp
    exact kk H locs h
  · refine kv_A (As := [.int (nI pl), .int (nI lt)]) (rest := rest) (q0 := 4) C h hl (c_B_step l Γ d hm so tl tb wr how i j hi hj pl lt (by have : pl / 10 < tb i 0 0 ∧ pl % 10 < tb j 0 0 := hv; have := ht.2.1; omega) hlt) ma_B_step hk rfl rfl rfl ⟨Nat.le_trans (by decide) hR.1, Nat.le_trans (by decide) hR.2⟩ hf hs hdg (fun v u H locs hp h => ?_)
    subst hp
    exact kk H locs h
  · refine kv_A (As := [.int (nI pl), .int (nI lt)]) (rest := rest) (q0 := 4) C h hl (c_H_step l Γ d hm so tl tb wr i j hi hj pl lt (by have : pl / 1024 < tb i 0 0 := hv; have := ht.2.1; omega) hlt (Nat.lt_of_lt_of_le ht.2.2.1 (by decide)) (Nat.lt_of_lt_of_le (ht.2.2.2.2 _ lt hv hlt) ht.2.1) hu.2.1 (fun r hr => Nat.lt_of_lt_of_le (hu.2.2.2.2 r lt hr hlt) hu.2.1)) ma_H_step hk rfl rfl rfl ⟨Nat.le_trans (by decide) hR.1, Nat.le_trans (by decide) hR.2⟩ hf hs hdg (fun v u H locs hp h => ?_)
    subst hp
    exact kk H locs h
  · refine kv_A (As := [.int (nI pl), .int (nI lt)]) (rest := rest) (q0 := 4) C h hl (c_N_step l Γ d hm so tl tb wr i hi pl lt (by have : pl ≤ 1024 := hv; omega) hlt ht.2.1 (fun r hr => Nat.lt_of_lt_of_le (ht.2.2.2.2 r lt hr hlt) ht.2.1) (Nat.lt_of_lt_of_le ht.2.2.2.1 (by decide))) ma_N_step hk rfl rfl rfl ⟨Nat.le_trans (by decide) hR.1, Nat.le_trans (by decide) hR.2⟩ hf hs hdg (fun v u H locs hp h => ?_)
    subst hp
    exact kk H locs h
  · refine kv_A (As := [.int (nI pl), .int (nI lt)]) (rest := rest) (q0 := 4) C h hl (c_K_step l Γ d hm so tl tb wr i hi pl lt (by have : pl < 1024 := hv; omega) hlt ht.2.1 (fun r hr => Nat.lt_of_lt_of_le (ht.2.2.2.2 r lt hr hlt) ht.2.1)) ma_K_step hk rfl rfl rfl ⟨Nat.le_trans (by decide) hR.1, Nat.le_trans (by decide) hR.2⟩ hf hs hdg (fun v u H locs hp h => ?_)
    subst hp
    exact kk H locs h

set_option maxHeartbeats 4000000 in
set_option maxRecDepth 100000 in
theorem kv_accepts {p : Program} {l : Launch} {e : Env} {R : Room} {s : State} {m : MethodId} {args : Array Value} {below : List Frame} {meth : Method} {c : Code} {H : Heap} {locs : List Loc} {cells slots : Nat} {Q : State → Prop} {Γ : gG} {cc : ByteArray} {ret : Option FieldType} {nL pc : Nat} {ls : Array Slot} {rest : List Value} {d : Nat → Nat} {hm : Nat} {mc : va_E} {so : Nat → Nat → Nat} {tl : Nat → Nat → Int64} {tb : Nat → Nat → Nat → Nat} {wr : va_W} {M : mM} {idx pl : Nat} (C : cX Γ p s m args meth c cc ret rn_S nL) (h : sT Γ s (xW Γ d hm mc so tl tb wr) H locs) (hl : ls.size = nL) (hM : mOK d tb mc M) (hv : M.2.2.2 pl) (hk : Cond.methodLink rn_S idx my_A_accepts ∈ gw) (hR : 2 ≤ R.frames ∧ 44 ≤ R.locals) (hf : cells ≤ R.cells ∧ slots ≤ R.slots) (hs : (rest.map fun v => v.category).sum ≤ 8) (hdg : decode cc pc = .ok (.invokevirtual idx, 3))
    (kk : ∀ (H1 : Heap) (locs1 : List Loc), sT Γ s (xW Γ d hm mc so tl tb wr) H1 locs1 → W p l e R s m args below meth c H1 locs1 cells slots Q (F0 m (pc + 3) ls (.int (bI (M.2.2.1 pl)) :: rest))) : W p l e R s m args below meth c H locs cells slots Q (F0 m pc ls (.int (nI pl) :: .ref hm :: rest)) := by
  rcases hM with ⟨bits, fst, rfl, h1, h2, rfl⟩ | ⟨i, fst, en, rfl, hi, ht, hft, rfl⟩ | ⟨how, i, j, rfl, hw, hi, hj, ht, hu, rfl⟩ | ⟨i, j, rfl, hi, hj, ht, hu, rfl⟩ | ⟨i, rfl, hi, ht, rfl⟩ | ⟨i, rfl, hi, ht, rfl⟩
  · refine kv_A (As := [.int (nI pl)]) (rest := rest) (q0 := 4) C h hl (c_O_accepts l Γ d hm so tl tb wr bits fst pl (by have : pl < 3 := hv; omega)) ma_O_accepts hk rfl rfl rfl ⟨Nat.le_trans (by decide) hR.1, Nat.le_trans (by decide) hR.2⟩ hf hs hdg (fun v u H locs hp h => ?_)
    subst hp
    exact kk H locs h
  · refine kv_A (As := [.int (nI pl)]) (rest := rest) (q0 := 4) C h hl (c_R_accepts l Γ d hm so tl tb wr i fst en hi pl) ma_R_accepts hk rfl rfl rfl ⟨Nat.le_trans (by decide) hR.1, Nat.le_trans (by decide) hR.2⟩ hf hs hdg (fun v u H locs hp h => ?_)
    subst hp
    exact kk H locs h
  · refine kv_A (As := [.int (nI pl)]) (rest := rest) (q0 := 4) C h hl (c_B_accepts l Γ d hm so tl tb wr how i j hi hj pl (by have : pl / 10 < tb i 0 0 ∧ pl % 10 < tb j 0 0 := hv; have := ht.2.1; omega) hw (Nat.lt_of_lt_of_le ht.2.2.1 (by decide)) (Nat.lt_of_lt_of_le hu.2.2.1 (by decide))) ma_B_accepts hk rfl rfl rfl ⟨Nat.le_trans (by decide) hR.1, Nat.le_trans (by decide) hR.2⟩ hf hs hdg (fun v u H locs hp h => ?_)
    subst hp
    exact kk H locs h
  · refine kv_A (As := [.int (nI pl)]) (rest := rest) (q0 := 4) C h hl (c_H_accepts l Γ d hm so tl tb wr i j hi hj pl (by have : pl / 1024 < tb i 0 0 := hv; have := ht.2.1; omega)) ma_H_accepts hk rfl rfl rfl ⟨Nat.le_trans (by decide) hR.1, Nat.le_trans (by decide) hR.2⟩ hf hs hdg (fun v u H locs hp h => ?_)
    subst hp
    exact kk H locs h
  · refine kv_A (As := [.int (nI pl)]) (rest := rest) (q0 := 4) C h hl (c_N_accepts l Γ d hm so tl tb wr i hi pl (by have : pl ≤ 1024 := hv; omega)) ma_N_accepts hk rfl rfl rfl ⟨Nat.le_trans (by decide) hR.1, Nat.le_trans (by decide) hR.2⟩ hf hs hdg (fun v u H locs hp h => ?_)
    subst hp
    exact kk H locs h
  · refine kv_A (As := [.int (nI pl)]) (rest := rest) (q0 := 4) C h hl (c_K_accepts l Γ d hm so tl tb wr i hi pl (by have : pl < 1024 := hv; omega)) ma_K_accepts hk rfl rfl rfl ⟨Nat.le_trans (by decide) hR.1, Nat.le_trans (by decide) hR.2⟩ hf hs hdg (fun v u H locs hp h => ?_)
    subst hp
    exact kk H locs h
end
section
abbrev rm_S_meet : Room := { frames := 0, cells := 0, slots := 0, locals := 0 }
set_option maxRecDepth 100000 in
set_option maxHeartbeats 4000000 in
theorem c_S_meet (l : Launch) (Γ : gG) (d : Nat → Nat) (hm : Nat) (mc : va_E) (so : Nat → Nat → Nat) (tl : Nat → Nat → Int64) (tb : Nat → Nat → Nat → Nat) (wr : va_W) (M : mM) (pl : Nat) (hM : mOK d tb mc M) (hS : SI M so) (hp : pl < 10240) (hv : M.2.2.2 pl) (hw : ∃ w, lts w ∧ mrun M M.1 w = pl) : cT l Γ my_S_meet bc_S_meet 3 (some .int) rm_S_meet [.ref (d 2), .int (nI pl)] (xW Γ d hm mc so tl tb wr) (S := Nat × (Nat → Nat → Nat)) (fun v u => v = some (.int (nI u.1)) ∧ SI M u.2 ∧ sE so u.2 ∧ u.1 < u.2 10 0 ∧ u.2 1 u.1 = pl ∧ (so 0 pl = 0 → u.1 = so 10 0 ∧ u.2 10 0 = so 10 0 + 1)) (fun u => xW Γ d hm mc u.2 tl tb wr) := by
  refine cT.start (by decide) (Nat.le_of_ble_eq_true rfl) (fun p e s m args below meth c ls Q hQ C hmn h hl => ?_)
  replace hl : lv_has ls 3 [(0, .ref (d 2)), (1, .int (nI pl))] := hl
  have hS1 := hS.1
  refine lv_aload_n C.x C.b dc_S_meet_0 rfl (lv_at hl 0 rfl) ?_
  refine rg_get C h 2 rfl rfl in_S 1 (by decide) fl_S_20 rfl dc_S_meet_1 ?_
  refine lv_iload_n C.x C.b dc_S_meet_4 rfl (lv_at hl 1 rfl) ?_
  refine rg_ild C h 5 rfl (by omega) (by decide) dc_S_meet_5 ?_
  refine bz_ne (tgt := 86) C (by
      by_cases hz : so 0 pl = 0
      · omega
      · have := (hS.2.2.1 pl hp hz).1; have := hS.1; omega) dc_S_meet_6 (by decide) (fun q6 => ?_) (fun q6 => ?_)
  · obtain ⟨hx1, hx2⟩ := hS.2.2.1 pl hp q6
    have hSE : SI M so ∧ sE so so := ⟨hS, sE.rf⟩
    refine lv_aload_n C.x C.b dc_S_meet_86 rfl (lv_at hl 0 rfl) ?_
    refine rg_get C h 2 rfl rfl in_S 1 (by decide) fl_S_20 rfl dc_S_meet_87 ?_
    refine lv_iload_n C.x C.b dc_S_meet_90 rfl (lv_at hl 1 rfl) ?_
    refine rg_ild C h 5 rfl (by omega) (by decide) dc_S_meet_91 ?_
    refine lv_iconst (v := (nI 1)) C.x C.b dc_S_meet_92 (by decide +kernel) ?_
    refine lv_isub C.x C.b dc_S_meet_93 ?_
    refine tp_i (pk_sub (a := (so 0 pl)) (b := 1) (by omega)) ?_
    rw [hQ]
    exact rt_i C (so 0 pl - 1, so) h (⟨rfl, hSE.1, hSE.2, by show so 0 pl - 1 < so 10 0; omega, hx2, fun z => absurd z q6⟩) dc_S_meet_94
  · have hlt := hS.room (mok_ok hM).2.2 hp q6
    refine lv_aload_n C.x C.b dc_S_meet_9 rfl (lv_at hl 0 rfl) ?_
    refine rg_get C h 2 rfl rfl in_S 2 (by decide) fl_S_24 rfl dc_S_meet_10 ?_
    refine lv_aload_n C.x C.b dc_S_meet_13 rfl (lv_at hl 0 rfl) ?_
    refine rg_get C h 2 rfl rfl in_S 4 (by decide) fl_S_51 rfl dc_S_meet_14 ?_
    refine lv_iload_n C.x C.b dc_S_meet_17 rfl (lv_at hl 1 rfl) ?_
    refine rg_ist C h 6 rfl (by omega) (by decide) dc_S_meet_18 (fun H locs h => ?_)
    obtain ⟨so_1, eso_1⟩ : ∃ zz9, zz9 = us so 1 (us (so 1) (so 10 0) pl) := ⟨_, rfl⟩
    have xso_1 : so_1 10 0 = so 10 0 ∧ so_1 10 1 = so 10 1 ∧ so_1 10 2 = so 10 2 ∧ so_1 10 3 = so 10 3 := by rw [eso_1, us_n _ _ (by decide)]; exact ⟨rfl, rfl, rfl, rfl⟩
    replace h : sT Γ s (xW Γ d hm mc so_1 tl tb wr) H locs := by rw [eso_1]; exact h
    refine lv_aload_n C.x C.b dc_S_meet_19 rfl (lv_at hl 0 rfl) ?_
    refine rg_get C h 2 rfl rfl in_S 5 (by decide) fl_S_30 rfl dc_S_meet_20 ?_
    refine lv_aload_n C.x C.b dc_S_meet_23 rfl (lv_at hl 0 rfl) ?_
    refine rg_get C h 2 rfl rfl in_S 4 (by decide) fl_S_51 rfl dc_S_meet_24 ?_
    refine lv_iconst (v := (nI 0)) C.x C.b dc_S_meet_27 (by decide +kernel) ?_
    refine rg_ist C h 8 rfl (by omega) (by decide) dc_S_meet_28 (fun H locs h => ?_)
    obtain ⟨so_2, eso_2⟩ : ∃ zz9, zz9 = us so_1 3 (us (so_1 3) (so_1 10 0) 0) := ⟨_, rfl⟩
    have xso_2 : so_2 10 0 = so_1 10 0 ∧ so_2 10 1 = so_1 10 1 ∧ so_2 10 2 = so_1 10 2 ∧ so_2 10 3 = so_1 10 3 := by rw [eso_2, us_n _ _ (by decide)]; exact ⟨rfl, rfl, rfl, rfl⟩
    replace h : sT Γ s (xW Γ d hm mc so_2 tl tb wr) H locs := by rw [eso_2]; exact h
    refine lv_aload_n C.x C.b dc_S_meet_29 rfl (lv_at hl 0 rfl) ?_
    refine rg_get C h 2 rfl rfl in_S 6 (by decide) fl_S_33 rfl dc_S_meet_30 ?_
    refine lv_aload_n C.x C.b dc_S_meet_33 rfl (lv_at hl 0 rfl) ?_
    refine rg_get C h 2 rfl rfl in_S 4 (by decide) fl_S_51 rfl dc_S_meet_34 ?_
    refine lv_iconst (v := (nI 0)) C.x C.b dc_S_meet_37 (by decide +kernel) ?_
    refine rg_ist C h 9 rfl (by omega) (by decide) dc_S_meet_38 (fun H locs h => ?_)
    obtain ⟨so_3, eso_3⟩ : ∃ zz9, zz9 = us so_2 4 (us (so_2 4) (so_2 10 0) 0) := ⟨_, rfl⟩
    have xso_3 : so_3 10 0 = so_2 10 0 ∧ so_3 10 1 = so_2 10 1 ∧ so_3 10 2 = so_2 10 2 ∧ so_3 10 3 = so_2 10 3 := by rw [eso_3, us_n _ _ (by decide)]; exact ⟨rfl, rfl, rfl, rfl⟩
    replace h : sT Γ s (xW Γ d hm mc so_3 tl tb wr) H locs := by rw [eso_3]; exact h
    refine lv_iconst (v := (nI 0)) C.x C.b dc_S_meet_39 (by decide +kernel) ?_
    refine lv_istore_n (lv' := [(2, .int (nI 0)), (0, .ref (d 2)), (1, .int (nI pl))]) C.x C.b dc_S_meet_40 rfl hl (by decide) rfl (fun ls hl => ?_)
    have hz : (∀ n, n ≠ 2 → so_3 n = so_3 n) ∧ ∀ j, so_3 2 j = if so 10 0 * 3 ≤ j ∧ j < so 10 0 * 3 + 0 then 0 else so 2 j := ⟨fun _ _ => rfl, fun j => by rw [if_neg (by omega), eso_3, us_n _ _ (by decide), eso_2, us_n _ _ (by decide), eso_1, us_n _ _ (by decide)]⟩
    have h3 : so_3 10 0 = so 10 0 := by rw [eso_3, us_n _ _ (by decide), eso_2, us_n _ _ (by decide), eso_1, us_n _ _ (by decide)]
    have lp_41 : ∀ (n_41 : Nat) (k : Nat) (z : Nat → Nat → Nat) (H : Heap) (locs : List Loc) (ls : Array Slot), 3 - k < n_41 → (k ≤ 3) → ((∀ n, n ≠ 2 → z n = so_3 n) ∧ ∀ j, z 2 j = if so 10 0 * 3 ≤ j ∧ j < so 10 0 * 3 + k then 0 else so 2 j) → sT Γ s (xW Γ d hm mc z tl tb wr) H locs → lv_has ls 3 [(2, .int (nI k)), (0, .ref (d 2)), (1, .int (nI pl))] → W p l e rm_S_meet s m args below meth c H locs 0 0 Q (F0 m 41 ls []) := by
      intro n_41
      induction n_41 with
      | zero => intro k z H locs ls hms; exact absurd hms (Nat.not_lt_zero _)
      | succ n_41 ih_41 =>
        intro k z H locs ls hms hk hz h hl
        have z10 : z 10 0 = so 10 0 := by rw [hz.1 10 (by decide)]; exact h3
        refine lv_iload_n C.x C.b dc_S_meet_41 rfl (lv_at hl 0 rfl) ?_
        refine lv_iconst (v := (nI 3)) C.x C.b dc_S_meet_42 (by decide +kernel) ?_
        refine bc_ge (tgt := 66) C (by omega) (by omega) dc_S_meet_43 (by decide) (fun q43 => ?_) (fun q43 => ?_)
        · refine lv_aload_n C.x C.b dc_S_meet_66 rfl (lv_at hl 1 rfl) ?_
          refine lv_dup C.x C.b dc_S_meet_67 rfl ?_
          refine rg_get C h 2 rfl rfl in_S 4 (by decide) fl_S_51 rfl dc_S_meet_68 ?_
          refine lv_iconst (v := (nI 1)) C.x C.b dc_S_meet_71 (by decide +kernel) ?_
          refine lv_iadd C.x C.b dc_S_meet_72 ?_
          refine tp_i (nI_add (z 10 0) 1) ?_
          refine rg_put (ty := .int) C h 2 rfl rfl in_S tk_S nm_S 4 (by decide) fl_S_51 rfl (by decide +kernel) rfl rfl (by simp) dc_S_meet_73 (fun H locs h => ?_)
          obtain ⟨so_4, eso_4⟩ : ∃ zz9, zz9 = us z 10 (us (z 10) 0 ((z 10 0) + 1)) := ⟨_, rfl⟩
          have xso_4 : so_4 10 0 = ((z 10 0) + 1) ∧ so_4 10 1 = z 10 1 ∧ so_4 10 2 = z 10 2 ∧ so_4 10 3 = z 10 3 := by rw [eso_4, us_s]; exact ⟨us_s _ _ _, us_n _ _ (by decide), us_n _ _ (by decide), us_n _ _ (by decide)⟩
          replace h : sT Γ s (xW Γ d hm mc so_4 tl tb wr) H locs := by rw [eso_4]; exact h
          refine lv_aload_n C.x C.b dc_S_meet_76 rfl (lv_at hl 1 rfl) ?_
          refine rg_get C h 2 rfl rfl in_S 1 (by decide) fl_S_20 rfl dc_S_meet_77 ?_
          refine lv_iload_n C.x C.b dc_S_meet_80 rfl (lv_at hl 2 rfl) ?_
          refine lv_aload_n C.x C.b dc_S_meet_81 rfl (lv_at hl 1 rfl) ?_
          refine rg_get C h 2 rfl rfl in_S 4 (by decide) fl_S_51 rfl dc_S_meet_82 ?_
          refine rg_ist C h 5 rfl (by omega) (by decide) dc_S_meet_85 (fun H locs h => ?_)
          obtain ⟨so_5, eso_5⟩ : ∃ zz9, zz9 = us so_4 0 (us (so_4 0) pl (so_4 10 0)) := ⟨_, rfl⟩
          have xso_5 : so_5 10 0 = so_4 10 0 ∧ so_5 10 1 = so_4 10 1 ∧ so_5 10 2 = so_4 10 2 ∧ so_5 10 3 = so_4 10 3 := by rw [eso_5, us_n _ _ (by decide)]; exact ⟨rfl, rfl, rfl, rfl⟩
          replace h : sT Γ s (xW Γ d hm mc so_5 tl tb wr) H locs := by rw [eso_5]; exact h
          have hR : mtR so pl so_5 := by
            have k3 : k = 3 := by omega
            subst k3
            have c0 : so_1 = us so 1 (us (so 1) (so 10 0) pl) := eso_1
            refine ⟨?_, ?_, fun j => ?_, ?_, ?_, ?_, fun n h5 h9 => ?_⟩
            · rw [eso_5, us_s, eso_4, us_s, us_s, us_n _ _ (by decide), z10, hz.1 0 (by decide), eso_3, us_n _ _ (by decide), eso_2, us_n _ _ (by decide), eso_1, us_n _ _ (by decide)]
            · rw [eso_5, us_n _ _ (by decide), eso_4, us_n _ _ (by decide), hz.1 1 (by decide), eso_3, us_n _ _ (by decide), eso_2, us_n _ _ (by decide), eso_1, us_s]
            · rw [eso_5, us_n _ _ (by decide), eso_4, us_n _ _ (by decide)]; exact hz.2 j
            · rw [eso_5, us_n _ _ (by decide), eso_4, us_n _ _ (by decide), hz.1 3 (by decide), eso_3, us_n _ _ (by decide), eso_2, us_s, eso_1, us_n _ _ (by decide), us_n _ _ (by decide)]
            · rw [eso_5, us_n _ _ (by decide), eso_4, us_n _ _ (by decide), hz.1 4 (by decide), eso_3, us_s, eso_2, us_n _ _ (by decide), us_n _ _ (by decide), eso_1, us_n _ _ (by decide), us_n _ _ (by decide)]
            · rw [eso_5, us_n _ _ (by decide), eso_4, us_s, z10, hz.1 10 (by decide), eso_3, us_n _ _ (by decide), eso_2, us_n _ _ (by decide), eso_1, us_n _ _ (by decide)]
            · rw [eso_5, us_n _ _ (by omega), eso_4, us_n _ _ (by omega), hz.1 n (by omega), eso_3, us_n _ _ (by omega), eso_2, us_n _ _ (by omega), eso_1, us_n _ _ (by omega)]
          have hSE := hS.meet (mok_ok hM).2.2 hv q6 hw hR
          have hj0 : so_5 0 pl = so 10 0 + 1 := by rw [hR.1, us_s]
          have hm0 : so_5 10 0 = so 10 0 + 1 := by rw [hR.2.2.2.2.2.1, us_s]
          refine lv_aload_n C.x C.b dc_S_meet_86 rfl (lv_at hl 1 rfl) ?_
          refine rg_get C h 2 rfl rfl in_S 1 (by decide) fl_S_20 rfl dc_S_meet_87 ?_
          refine lv_iload_n C.x C.b dc_S_meet_90 rfl (lv_at hl 2 rfl) ?_
          refine rg_ild C h 5 rfl (by omega) (by decide) dc_S_meet_91 ?_
          refine lv_iconst (v := (nI 1)) C.x C.b dc_S_meet_92 (by decide +kernel) ?_
          refine lv_isub C.x C.b dc_S_meet_93 ?_
          refine tp_i (pk_sub (a := (so_5 0 pl)) (b := 1) (by omega)) ?_
          rw [hQ]
          exact rt_i C (so_5 0 pl - 1, so_5) h (⟨rfl, hSE.1, hSE.2, by show so_5 0 pl - 1 < so_5 10 0; omega, by show so_5 1 (so_5 0 pl - 1) = pl; rw [hj0, Nat.add_sub_cancel, hR.2.1, us_s], fun _ => ⟨by show so_5 0 pl - 1 = _; omega, hm0⟩⟩) dc_S_meet_94
        · refine lv_aload_n C.x C.b dc_S_meet_46 rfl (lv_at hl 1 rfl) ?_
          refine rg_get C h 2 rfl rfl in_S 3 (by decide) fl_S_27 rfl dc_S_meet_47 ?_
          refine lv_aload_n C.x C.b dc_S_meet_50 rfl (lv_at hl 1 rfl) ?_
          refine rg_get C h 2 rfl rfl in_S 4 (by decide) fl_S_51 rfl dc_S_meet_51 ?_
          refine lv_iconst (v := (nI 3)) C.x C.b dc_S_meet_54 (by decide +kernel) ?_
          refine lv_imul C.x C.b dc_S_meet_55 ?_
          refine tp_i (pk_mul (z 10 0) 3) ?_
          refine lv_iload_n C.x C.b dc_S_meet_56 rfl (lv_at hl 0 rfl) ?_
          refine lv_iadd C.x C.b dc_S_meet_57 ?_
          refine tp_i (nI_add ((z 10 0) * 3) k) ?_
          refine lv_iconst (v := (nI 0)) C.x C.b dc_S_meet_58 (by decide +kernel) ?_
          refine rg_ist C h 7 rfl (by omega) (by decide) dc_S_meet_59 (fun H locs h => ?_)
          obtain ⟨so_6, eso_6⟩ : ∃ zz9, zz9 = us z 2 (us (z 2) (((z 10 0) * 3) + k) 0) := ⟨_, rfl⟩
          have xso_6 : so_6 10 0 = z 10 0 ∧ so_6 10 1 = z 10 1 ∧ so_6 10 2 = z 10 2 ∧ so_6 10 3 = z 10 3 := by rw [eso_6, us_n _ _ (by decide)]; exact ⟨rfl, rfl, rfl, rfl⟩
          replace h : sT Γ s (xW Γ d hm mc so_6 tl tb wr) H locs := by rw [eso_6]; exact h
          refine lv_iinc (v := nI (k + 1)) (lv' := [(2, .int (nI (k + 1))), (0, .ref (d 2)), (1, .int (nI pl))]) C.x C.b dc_S_meet_60 hl (k := 0) rfl (nI_1 k) (by decide) rfl (fun ls hl => ?_)
          refine lv_goto (tgt := 41) C.x C.b dc_S_meet_63 (by decide) ?_
          have hz : (∀ n, n ≠ 2 → so_6 n = so_3 n) ∧ ∀ j, so_6 2 j = if so 10 0 * 3 ≤ j ∧ j < so 10 0 * 3 + (k + 1) then 0 else so 2 j := by
            refine ⟨fun n hn => by rw [eso_6, us_n _ _ hn]; exact hz.1 n hn, fun j => ?_⟩
            rw [eso_6, us_s]
            by_cases hj : j = z 10 0 * 3 + k
            · rw [hj, us_s, if_pos (by omega)]
            · rw [us_n _ _ hj, hz.2 j]
              by_cases h9 : so 10 0 * 3 ≤ j ∧ j < so 10 0 * 3 + k
              · rw [if_pos h9, if_pos (by omega)]
              · rw [if_neg h9, if_neg (by omega)]
          exact ih_41 (k + 1) so_6 _ _ _ (by omega) (by first | assumption | omega) (by first | assumption | omega) h (lv_sub hl [0, 1, 2] rfl)
    exact lp_41 _ 0 so_3 _ _ _ (Nat.lt_succ_self _) (by first | assumption | omega) (by first | assumption | omega) h (lv_sub hl [0, 1, 2] rfl)

abbrev rm_S_follow : Room := { frames := 3, cells := 0, slots := 0, locals := 69 }
set_option maxRecDepth 100000 in
set_option maxHeartbeats 4000000 in
theorem c_S_follow (l : Launch) (Γ : gG) (d : Nat → Nat) (hm : Nat) (mc : va_E) (so : Nat → Nat → Nat) (tl : Nat → Nat → Int64) (tb : Nat → Nat → Nat → Nat) (wr : va_W) (M : mM) (i lt : Nat) (hM : mOK d tb mc M) (hS : SI M so) (hi : i < so 10 0) (hlt : lt < 3) : cT l Γ my_S_follow bc_S_follow 4 (some .int) rm_S_follow [.ref (d 2), .int (nI i), .int (nI lt)] (xW Γ d hm mc so tl tb wr) (S := Nat × (Nat → Nat → Nat)) (fun v u => v = some (.int (nI u.1)) ∧ SI M u.2 ∧ sE so u.2 ∧ u.1 < u.2 10 0 ∧ u.2 1 u.1 = M.2.1 (so 1 i) lt ∧ u.2 2 (i * 3 + lt) = u.1 + 1 ∧ (so 2 (i * 3 + lt) ≠ 0 → u.2 = so)) (fun u => xW Γ d hm mc u.2 tl tb wr) := by
  refine cT.start (by decide) (Nat.le_of_ble_eq_true rfl) (fun p e s m args below meth c ls Q hQ C hmn h hl => ?_)
  replace hl : lv_has ls 4 [(0, .ref (d 2)), (1, .int (nI i)), (2, .int (nI lt))] := hl
  have hS1 := hS.1
  have hok := mok_ok hM
  have hvi := (hS.2.1 i hi).1
  refine lv_iload_n C.x C.b dc_S_follow_0 rfl (lv_at hl 1 rfl) ?_
  refine lv_iconst (v := (nI 3)) C.x C.b dc_S_follow_1 (by decide +kernel) ?_
  refine lv_imul C.x C.b dc_S_follow_2 ?_
  refine tp_i (pk_mul i 3) ?_
  refine lv_iload_n C.x C.b dc_S_follow_3 rfl (lv_at hl 2 rfl) ?_
  refine lv_iadd C.x C.b dc_S_follow_4 ?_
  refine tp_i (nI_add (i * 3) lt) ?_
  refine lv_istore_n (lv' := [(3, .int (nI ((i * 3) + lt))), (0, .ref (d 2)), (1, .int (nI i)), (2, .int (nI lt))]) C.x C.b dc_S_follow_5 rfl hl (by decide) rfl (fun ls hl => ?_)
  refine lv_aload_n C.x C.b dc_S_follow_6 rfl (lv_at hl 1 rfl) ?_
  refine rg_get C h 2 rfl rfl in_S 3 (by decide) fl_S_27 rfl dc_S_follow_7 ?_
  refine lv_iload_n C.x C.b dc_S_follow_10 rfl (lv_at hl 0 rfl) ?_
  refine rg_ild C h 7 rfl (by omega) (by decide) dc_S_follow_11 ?_
  refine bz_ne (tgt := 41) C (by
      by_cases hz : so 2 (i * 3 + lt) = 0
      · omega
      · have := (hS.2.2.2.1 i lt hi hlt hz).1; omega) dc_S_follow_12 (by decide) (fun q12 => ?_) (fun q12 => ?_)
  · obtain ⟨hx1, hx2⟩ := hS.2.2.2.1 i lt hi hlt q12
    have hSE : SI M so ∧ sE so so := ⟨hS, sE.rf⟩
    have hb : so 2 (i * 3 + lt) < 2 ^ 31 := by have := hS.1; omega
    refine lv_aload_n C.x C.b dc_S_follow_41 rfl (lv_at hl 1 rfl) ?_
    refine rg_get C h 2 rfl rfl in_S 3 (by decide) fl_S_27 rfl dc_S_follow_42 ?_
    refine lv_iload_n C.x C.b dc_S_follow_45 rfl (lv_at hl 0 rfl) ?_
    refine rg_ild C h 7 rfl (by omega) (by decide) dc_S_follow_46 ?_
    refine lv_iconst (v := (nI 1)) C.x C.b dc_S_follow_47 (by decide +kernel) ?_
    refine lv_isub C.x C.b dc_S_follow_48 ?_
    refine tp_i (pk_sub (a := (so 2 ((i * 3) + lt))) (b := 1) (by omega)) ?_
    rw [hQ]
    exact rt_i C (so 2 (i * 3 + lt) - 1, so) h (⟨rfl, hSE.1, hSE.2, by show so 2 (i * 3 + lt) - 1 < so 10 0; omega, hx2, by show so 2 (i * 3 + lt) = so 2 (i * 3 + lt) - 1 + 1; omega, fun _ => rfl⟩) dc_S_follow_49
  · refine lv_aload_n C.x C.b dc_S_follow_15 rfl (lv_at hl 1 rfl) ?_
    refine rg_get C h 2 rfl rfl in_S 3 (by decide) fl_S_27 rfl dc_S_follow_16 ?_
    refine lv_iload_n C.x C.b dc_S_follow_19 rfl (lv_at hl 0 rfl) ?_
    refine lv_iconst (v := (nI 1)) C.x C.b dc_S_follow_20 (by decide +kernel) ?_
    refine lv_aload_n C.x C.b dc_S_follow_21 rfl (lv_at hl 1 rfl) ?_
    refine lv_aload_n C.x C.b dc_S_follow_22 rfl (lv_at hl 1 rfl) ?_
    refine rg_get C h 2 rfl rfl in_S 0 (by decide) fl_S_14 rfl dc_S_follow_23 ?_
    refine lv_aload_n C.x C.b dc_S_follow_26 rfl (lv_at hl 1 rfl) ?_
    refine rg_get C h 2 rfl rfl in_S 2 (by decide) fl_S_24 rfl dc_S_follow_27 ?_
    refine lv_iload_n C.x C.b dc_S_follow_30 rfl (lv_at hl 2 rfl) ?_
    refine rg_ild C h 6 rfl (by omega) (by decide) dc_S_follow_31 ?_
    refine lv_iload_n C.x C.b dc_S_follow_32 rfl (lv_at hl 3 rfl) ?_
    refine kv_step (rest := [.ref (d 2), .int (nI 1), .int (nI ((i * 3) + lt)), .ref (d 7)]) C h hl.1 hM (hvi) (by omega) lk_S_109 (by decide) (by decide) (Nat.le_of_ble_eq_true rfl) dc_S_follow_33 (fun H locs h => ?_)
    refine kv_V (As := [.int (nI (M.2.1 (so 1 i) lt))]) (rest := [.int (nI 1), .int (nI ((i * 3) + lt)), .ref (d 7)]) C h hl.1 (c_S_meet l Γ d hm mc so tl tb wr M (M.2.1 (so 1 i) lt) hM hS (hok.2.2 _ (hok.2.1 _ lt hvi hlt)) (hok.2.1 _ lt hvi hlt) (by obtain ⟨w, w1, w2⟩ := hS.2.2.2.2.2.2 i hi; exact ⟨w ++ [lt], lts_app w1 (lts_cons hlt lts_nil), by rw [mrun_snoc, w2]⟩)) mw_S_meet lk_S_67 (q0 := 2) rfl rfl rfl (by decide) (by decide) (Nat.le_of_ble_eq_true rfl) dc_S_follow_36 (fun v u H locs hp h => ?_)
    obtain ⟨⟨j_1, so_2⟩, rfl⟩ : ∃ zz9, zz9 = u := ⟨_, rfl⟩
    obtain ⟨rfl, SI_so_2, sE_so_2, lt_j_1, pl_j_1, nw_j_1⟩ := hp
    dsimp only at SI_so_2 sE_so_2 lt_j_1 pl_j_1 nw_j_1
    replace h : sT Γ s (xW Γ d hm mc so_2 tl tb wr) H locs := h
    refine W.eq (g2 := F0 m 39 ls [.int (nI j_1), .int (nI 1), .int (nI ((i * 3) + lt)), .ref (d 7)]) rfl ?_
    refine lv_iadd C.x C.b dc_S_follow_39 ?_
    refine tp_i (nI_add 1 j_1) ?_
    refine rg_ist C h 7 rfl (by omega) (by decide) dc_S_follow_40 (fun H locs h => ?_)
    obtain ⟨so_3, eso_3⟩ : ∃ zz9, zz9 = us so_2 2 (us (so_2 2) ((i * 3) + lt) (1 + j_1)) := ⟨_, rfl⟩
    have xso_3 : so_3 10 0 = so_2 10 0 ∧ so_3 10 1 = so_2 10 1 ∧ so_3 10 2 = so_2 10 2 ∧ so_3 10 3 = so_2 10 3 := by rw [eso_3, us_n _ _ (by decide)]; exact ⟨rfl, rfl, rfl, rfl⟩
    replace h : sT Γ s (xW Γ d hm mc so_3 tl tb wr) H locs := by rw [eso_3]; exact h
    have hz := SI_so_2.follow (so' := so_3) (i := i) (l := lt) (j := j_1) (by have := sE_so_2.2.2.2.2.1; omega) hlt lt_j_1 (by rw [pl_j_1, (sE_so_2.2.2.2.2.2 i hi).1]) (by rw [eso_3, Nat.add_comm 1 j_1])
    have hSE : SI M so_3 ∧ sE so so_3 := ⟨hz.1, sE_so_2.tr hz.2⟩
    have hj2 : so_3 2 (i * 3 + lt) = j_1 + 1 := by rw [eso_3, us_s, us_s, Nat.add_comm]
    have hj1 : so_3 1 j_1 = M.2.1 (so 1 i) lt := by rw [eso_3, us_n _ _ (by decide)]; exact pl_j_1
    have hj0 : j_1 < so_3 10 0 := by rw [eso_3, us_n _ _ (by decide)]; exact lt_j_1
    have hb : so_3 2 (i * 3 + lt) < 2 ^ 31 := by have := hz.1.1; omega
    refine lv_aload_n C.x C.b dc_S_follow_41 rfl (lv_at hl 1 rfl) ?_
    refine rg_get C h 2 rfl rfl in_S 3 (by decide) fl_S_27 rfl dc_S_follow_42 ?_
    refine lv_iload_n C.x C.b dc_S_follow_45 rfl (lv_at hl 0 rfl) ?_
    refine rg_ild C h 7 rfl (by omega) (by decide) dc_S_follow_46 ?_
    refine lv_iconst (v := (nI 1)) C.x C.b dc_S_follow_47 (by decide +kernel) ?_
    refine lv_isub C.x C.b dc_S_follow_48 ?_
    refine tp_i (pk_sub (a := (so_3 2 ((i * 3) + lt))) (b := 1) (by omega)) ?_
    rw [hQ]
    exact rt_i C (so_3 2 (i * 3 + lt) - 1, so_3) h (⟨rfl, hSE.1, hSE.2, by show so_3 2 (i * 3 + lt) - 1 < so_3 10 0; omega, by show so_3 1 (so_3 2 (i * 3 + lt) - 1) = _; rw [hj2, Nat.add_sub_cancel]; exact hj1, by show so_3 2 (i * 3 + lt) = so_3 2 (i * 3 + lt) - 1 + 1; omega, fun zz => absurd q12 zz⟩) dc_S_follow_49

abbrev rm_S_askTests : Room := { frames := 4, cells := 0, slots := 0, locals := 92 }
set_option maxRecDepth 100000 in
set_option maxHeartbeats 4000000 in
theorem c_S_askTests (l : Launch) (Γ : gG) (d : Nat → Nat) (hm : Nat) (mc : va_E) (so : Nat → Nat → Nat) (tl : Nat → Nat → Int64) (tb : Nat → Nat → Nat → Nat) (wr : va_W) (M : mM) (i : Nat) (hM : mOK d tb mc M) (hS : SI M so) (hi : i < so 10 0) : cT l Γ my_S_askTests bc_S_askTests 6 (some .int) rm_S_askTests [.ref (d 2), .int (nI i)] (xW Γ d hm mc so tl tb wr) (S := Nat → Nat → Nat) (fun v u => v = some (.int (nI (u 3 i))) ∧ SI M u ∧ sE so u ∧ u 4 i = u 10 1) (fun u => xW Γ d hm mc u tl tb wr) := by
  refine cT.start (by decide) (Nat.le_of_ble_eq_true rfl) (fun p e s m args below meth c ls Q hQ C hmn h hl => ?_)
  replace hl : lv_has ls 6 [(0, .ref (d 2)), (1, .int (nI i))] := hl
  have hS1 := hS.1
  have hok := mok_ok hM
  have ht0 := (hS.2.2.2.2.2.1 i hi).1
  refine lv_aload_n C.x C.b dc_S_askTests_0 rfl (lv_at hl 0 rfl) ?_
  refine rg_get C h 2 rfl rfl in_S 6 (by decide) fl_S_33 rfl dc_S_askTests_1 ?_
  refine lv_iload_n C.x C.b dc_S_askTests_4 rfl (lv_at hl 1 rfl) ?_
  refine rg_ild C h 9 rfl (by omega) (by decide) dc_S_askTests_5 ?_
  refine lv_istore_n (lv' := [(2, .int (nI (so 4 i))), (0, .ref (d 2)), (1, .int (nI i))]) C.x C.b dc_S_askTests_6 rfl hl (by decide) rfl (fun ls hl => ?_)
  have SI_z := hS
  have sE_z : sE so so := sE.rf
  have hA : ∀ t2, t2 < so 4 i → macc M (so 1 i) (tW so t2 t2) = true → (so 3 i).testBit t2 = true := fun t2 ht2 q => ((hS.2.2.2.2.2.1 i hi).2.2 t2 (by have := (hS.2.2.2.2.2.1 i hi).1; omega)).2 ht2 q
  have lp_7 : ∀ (n_7 : Nat) (t : Nat) (z : Nat → Nat → Nat) (H : Heap) (locs : List Loc) (ls : Array Slot), so 10 1 - t < n_7 → (t ≤ so 10 1) → (SI M z) → (sE so z) → (∀ t2, t2 < t → macc M (so 1 i) (tW so t2 t2) = true → (z 3 i).testBit t2 = true) → sT Γ s (xW Γ d hm mc z tl tb wr) H locs → lv_has ls 6 [(2, .int (nI t)), (0, .ref (d 2)), (1, .int (nI i))] → W p l e rm_S_askTests s m args below meth c H locs 0 0 Q (F0 m 7 ls []) := by
    intro n_7
    induction n_7 with
    | zero => intro t z H locs ls hms; exact absurd hms (Nat.not_lt_zero _)
    | succ n_7 ih_7 =>
      intro t z H locs ls hms htt SI_z sE_z hA h hl
      have hz1 := SI_z.1
      have hz2 : z 10 1 = so 10 1 := sE_z.2.1
      have hz0 : so 10 0 ≤ z 10 0 := sE_z.2.2.2.2.1
      have ht10 := hS.2.2.2.2.1.2.1
      refine lv_iload_n C.x C.b dc_S_askTests_7 rfl (lv_at hl 0 rfl) ?_
      refine lv_aload_n C.x C.b dc_S_askTests_8 rfl (lv_at hl 1 rfl) ?_
      refine rg_get C h 2 rfl rfl in_S 9 (by decide) fl_S_55 rfl dc_S_askTests_9 ?_
      refine bc_ge (tgt := 96) C (by omega) (by omega) dc_S_askTests_12 (by decide) (fun q12 => ?_) (fun q12 => ?_)
      · refine lv_aload_n C.x C.b dc_S_askTests_96 rfl (lv_at hl 1 rfl) ?_
        refine rg_get C h 2 rfl rfl in_S 6 (by decide) fl_S_33 rfl dc_S_askTests_97 ?_
        refine lv_iload_n C.x C.b dc_S_askTests_100 rfl (lv_at hl 2 rfl) ?_
        refine lv_aload_n C.x C.b dc_S_askTests_101 rfl (lv_at hl 1 rfl) ?_
        refine rg_get C h 2 rfl rfl in_S 9 (by decide) fl_S_55 rfl dc_S_askTests_102 ?_
        refine rg_ist C h 9 rfl (by omega) (by decide) dc_S_askTests_105 (fun H locs h => ?_)
        obtain ⟨so_1, eso_1⟩ : ∃ zz9, zz9 = us z 4 (us (z 4) i (z 10 1)) := ⟨_, rfl⟩
        have xso_1 : so_1 10 0 = z 10 0 ∧ so_1 10 1 = z 10 1 ∧ so_1 10 2 = z 10 2 ∧ so_1 10 3 = z 10 3 := by rw [eso_1, us_n _ _ (by decide)]; exact ⟨rfl, rfl, rfl, rfl⟩
        replace h : sT Γ s (xW Γ d hm mc so_1 tl tb wr) H locs := by rw [eso_1]; exact h
        refine lv_aload_n C.x C.b dc_S_askTests_106 rfl (lv_at hl 1 rfl) ?_
        refine rg_get C h 2 rfl rfl in_S 5 (by decide) fl_S_30 rfl dc_S_askTests_107 ?_
        refine lv_iload_n C.x C.b dc_S_askTests_110 rfl (lv_at hl 2 rfl) ?_
        refine rg_ild C h 8 rfl (by omega) (by decide) dc_S_askTests_111 ?_
        have hf := SI_z.all (so' := so_1) (i := i) (by omega) (fun t2 ht2 q => hA t2 (by omega) (by rw [(sE_z.2.2.2.2.2 i hi).1, tW_eq (sE_z.1 5 (by decide) (by decide)) (sE_z.1 6 (by decide) (by decide))] at q; exact q)) eso_1
        rw [hQ]
        exact rt_i C so_1 h (⟨rfl, hf.1, sE_z.tr hf.2, by show so_1 4 i = so_1 10 1; rw [xso_1.2.1, eso_1, us_s, us_s]⟩) dc_S_askTests_112
      · refine lv_iload_n C.x C.b dc_S_askTests_15 rfl (lv_at hl 2 rfl) ?_
        refine lv_istore_n (lv' := [(3, .int (nI i)), (2, .int (nI t)), (0, .ref (d 2)), (1, .int (nI i))]) C.x C.b dc_S_askTests_16 rfl hl (by decide) rfl (fun ls hl => ?_)
        refine lv_iload_n C.x C.b dc_S_askTests_17 rfl (lv_at hl 1 rfl) ?_
        refine lv_istore (lv' := [(4, .int (nI t)), (3, .int (nI i)), (2, .int (nI t)), (0, .ref (d 2)), (1, .int (nI i))]) C.x C.b dc_S_askTests_18 hl (by decide) rfl (fun ls hl => ?_)
        refine lv_iconst (v := (nI 0)) C.x C.b dc_S_askTests_20 (by decide +kernel) ?_
        refine lv_istore (lv' := [(5, .int (nI 0)), (4, .int (nI t)), (3, .int (nI i)), (2, .int (nI t)), (0, .ref (d 2)), (1, .int (nI i))]) C.x C.b dc_S_askTests_21 hl (by decide) rfl (fun ls hl => ?_)
        have hacc : macc M (z 1 i) (tW so (t - 0) t) = macc M (so 1 i) (tW so t t) := by rw [(sE_z.2.2.2.2.2 i hi).1, Nat.sub_zero]
        have lp_23 : ∀ (n_23 : Nat) (k : Nat) (a : Nat) (lf : Nat) (y : Nat → Nat → Nat) (H : Heap) (locs : List Loc) (ls : Array Slot), t - k < n_23 → (k ≤ t) → (lf ≤ t - k) → (SI M y) → (sE so y) → (a < y 10 0) → (∀ t2, t2 < t → macc M (so 1 i) (tW so t2 t2) = true → (y 3 i).testBit t2 = true) → (macc M (y 1 a) (tW so (t - k) lf) = macc M (so 1 i) (tW so t t)) → sT Γ s (xW Γ d hm mc y tl tb wr) H locs → lv_has ls 6 [(5, .int (nI k)), (4, .int (nI lf)), (3, .int (nI a)), (2, .int (nI t)), (0, .ref (d 2)), (1, .int (nI i))] → W p l e rm_S_askTests s m args below meth c H locs 0 0 Q (F0 m 23 ls []) := by
          intro n_23
          induction n_23 with
          | zero => intro k a lf y H locs ls hms; exact absurd hms (Nat.not_lt_zero _)
          | succ n_23 ih_23 =>
            intro k a lf y H locs ls hms hk hlf SI_y sE_y ha hyA hacc h hl
            have hy1 := SI_y.1
            have hy2 : y 10 1 = so 10 1 := sE_y.2.1
            have hy0 : so 10 0 ≤ y 10 0 := sE_y.2.2.2.2.1
            have hy5 : y 5 = so 5 := sE_y.1 5 (by decide) (by decide)
            refine lv_iload C.x C.b dc_S_askTests_23 (lv_at hl 0 rfl) ?_
            refine lv_iload_n C.x C.b dc_S_askTests_25 rfl (lv_at hl 3 rfl) ?_
            refine bc_ge (tgt := 62) C (by omega) (by omega) dc_S_askTests_26 (by decide) (fun q26 => ?_) (fun q26 => ?_)
            · have hl0 : lf = 0 := by omega
              rw [hl0, tW_0] at hacc
              replace hacc : M.2.2.1 (y 1 a) = macc M (so 1 i) (tW so t t) := hacc
              have hyi := (SI_y.2.2.2.2.2.1 i (by omega)).2.1
              have hp10 : 2 ^ y 10 1 ≤ 2 ^ 10 := Nat.pow_le_pow_right (by decide) (by omega)
              refine lv_aload_n C.x C.b dc_S_askTests_62 rfl (lv_at hl 4 rfl) ?_
              refine rg_get C h 2 rfl rfl in_S 0 (by decide) fl_S_14 rfl dc_S_askTests_63 ?_
              refine lv_aload_n C.x C.b dc_S_askTests_66 rfl (lv_at hl 4 rfl) ?_
              refine rg_get C h 2 rfl rfl in_S 2 (by decide) fl_S_24 rfl dc_S_askTests_67 ?_
              refine lv_iload_n C.x C.b dc_S_askTests_70 rfl (lv_at hl 2 rfl) ?_
              refine rg_ild C h 6 rfl (by omega) (by decide) dc_S_askTests_71 ?_
              refine kv_accepts (rest := []) C h hl.1 hM ((SI_y.2.1 a ha).1) lk_S_71 (by decide) (by decide) (Nat.le_of_ble_eq_true rfl) dc_S_askTests_72 (fun H locs h => ?_)
              refine bb_eq (tgt := 90) C dc_S_askTests_75 (by decide) (fun q75 => ?_) (fun q75 => ?_)
              · refine lv_iinc (v := nI (t + 1)) (lv' := [(2, .int (nI (t + 1))), (5, .int (nI k)), (4, .int (nI lf)), (3, .int (nI a)), (0, .ref (d 2)), (1, .int (nI i))]) C.x C.b dc_S_askTests_90 hl (k := 3) rfl (nI_1 t) (by decide) rfl (fun ls hl => ?_)
                refine lv_goto (tgt := 7) C.x C.b dc_S_askTests_93 (by decide) ?_
                have SI_n := SI_y
                have sE_n := sE_y
                have hA : ∀ t2, t2 < t + 1 → macc M (so 1 i) (tW so t2 t2) = true → (y 3 i).testBit t2 = true := fun t2 ht2 q => by
                  by_cases e : t2 = t
                  · subst e; rw [← hacc, q75] at q; cases q
                  · exact hyA t2 (by omega) q
                exact ih_7 (t + 1) y _ _ _ (by omega) (by first | assumption | omega) (by first | exact SI_n | exact SI_z) (by first | exact sE_n | exact sE_z) (by first | assumption | omega) h (lv_sub hl [0, 4, 5] rfl)
              · refine lv_aload_n C.x C.b dc_S_askTests_78 rfl (lv_at hl 4 rfl) ?_
                refine rg_get C h 2 rfl rfl in_S 5 (by decide) fl_S_30 rfl dc_S_askTests_79 ?_
                refine lv_iload_n C.x C.b dc_S_askTests_82 rfl (lv_at hl 5 rfl) ?_
                refine lv_dup2_11 C.x C.b dc_S_askTests_83 rfl rfl ?_
                refine rg_ild C h 8 rfl (by omega) (by decide) dc_S_askTests_84 ?_
                refine lv_iconst (v := (nI 1)) C.x C.b dc_S_askTests_85 (by decide +kernel) ?_
                refine lv_iload_n C.x C.b dc_S_askTests_86 rfl (lv_at hl 3 rfl) ?_
                refine lv_ishl C.x C.b dc_S_askTests_87 ?_
                refine tp_i (nI_shl1 (n := t) (by omega)) ?_
                refine lv_ior C.x C.b dc_S_askTests_88 ?_
                refine tp_i (nI_or (y 3 i) (2 ^ t)) ?_
                refine rg_ist C h 8 rfl (by omega) (by decide) dc_S_askTests_89 (fun H locs h => ?_)
                obtain ⟨so_2, eso_2⟩ : ∃ zz9, zz9 = us y 3 (us (y 3) i ((y 3 i) ||| (2 ^ t))) := ⟨_, rfl⟩
                have xso_2 : so_2 10 0 = y 10 0 ∧ so_2 10 1 = y 10 1 ∧ so_2 10 2 = y 10 2 ∧ so_2 10 3 = y 10 3 := by rw [eso_2, us_n _ _ (by decide)]; exact ⟨rfl, rfl, rfl, rfl⟩
                replace h : sT Γ s (xW Γ d hm mc so_2 tl tb wr) H locs := by rw [eso_2]; exact h
                refine lv_iinc (v := nI (t + 1)) (lv' := [(2, .int (nI (t + 1))), (5, .int (nI k)), (4, .int (nI lf)), (3, .int (nI a)), (0, .ref (d 2)), (1, .int (nI i))]) C.x C.b dc_S_askTests_90 hl (k := 3) rfl (nI_1 t) (by decide) rfl (fun ls hl => ?_)
                refine lv_goto (tgt := 7) C.x C.b dc_S_askTests_93 (by decide) ?_
                have hb := SI_y.bit (so' := so_2) (i := i) (t := t) (by omega) (by omega) (by rw [(sE_y.2.2.2.2.2 i hi).1, tW_eq (sE_y.1 5 (by decide) (by decide)) (sE_y.1 6 (by decide) (by decide)), ← hacc]; exact q75) eso_2
                have SI_n := hb.1
                have sE_n := sE_y.tr hb.2
                have hA : ∀ t2, t2 < t + 1 → macc M (so 1 i) (tW so t2 t2) = true → (so_2 3 i).testBit t2 = true := fun t2 ht2 q => by
                  by_cases e : t2 = t
                  · subst e; rw [eso_2, us_s, us_s, Nat.testBit_or, Nat.testBit_two_pow]; simp
                  · exact (hb.2.2.2.2.2.2 i (by omega)).2.2.1 t2 (hyA t2 (by omega) q)
                exact ih_7 (t + 1) so_2 _ _ _ (by omega) (by first | assumption | omega) (by first | exact SI_n | exact SI_z) (by first | exact sE_n | exact sE_z) (by first | assumption | omega) h (lv_sub hl [0, 4, 5] rfl)
            · refine lv_iload C.x C.b dc_S_askTests_29 (lv_at hl 1 rfl) ?_
              refine bz_le (tgt := 62) C (by omega) dc_S_askTests_31 (by decide) (fun q31 => ?_) (fun q31 => ?_)
              · have hl0 : lf = 0 := by omega
                rw [hl0, tW_0] at hacc
                replace hacc : M.2.2.1 (y 1 a) = macc M (so 1 i) (tW so t t) := hacc
                have hyi := (SI_y.2.2.2.2.2.1 i (by omega)).2.1
                have hp10 : 2 ^ y 10 1 ≤ 2 ^ 10 := Nat.pow_le_pow_right (by decide) (by omega)
                refine lv_aload_n C.x C.b dc_S_askTests_62 rfl (lv_at hl 4 rfl) ?_
                refine rg_get C h 2 rfl rfl in_S 0 (by decide) fl_S_14 rfl dc_S_askTests_63 ?_
                refine lv_aload_n C.x C.b dc_S_askTests_66 rfl (lv_at hl 4 rfl) ?_
                refine rg_get C h 2 rfl rfl in_S 2 (by decide) fl_S_24 rfl dc_S_askTests_67 ?_
                refine lv_iload_n C.x C.b dc_S_askTests_70 rfl (lv_at hl 2 rfl) ?_
                refine rg_ild C h 6 rfl (by omega) (by decide) dc_S_askTests_71 ?_
                refine kv_accepts (rest := []) C h hl.1 hM ((SI_y.2.1 a ha).1) lk_S_71 (by decide) (by decide) (Nat.le_of_ble_eq_true rfl) dc_S_askTests_72 (fun H locs h => ?_)
                refine bb_eq (tgt := 90) C dc_S_askTests_75 (by decide) (fun q75 => ?_) (fun q75 => ?_)
                · refine lv_iinc (v := nI (t + 1)) (lv' := [(2, .int (nI (t + 1))), (5, .int (nI k)), (4, .int (nI lf)), (3, .int (nI a)), (0, .ref (d 2)), (1, .int (nI i))]) C.x C.b dc_S_askTests_90 hl (k := 3) rfl (nI_1 t) (by decide) rfl (fun ls hl => ?_)
                  refine lv_goto (tgt := 7) C.x C.b dc_S_askTests_93 (by decide) ?_
                  have SI_n := SI_y
                  have sE_n := sE_y
                  have hA : ∀ t2, t2 < t + 1 → macc M (so 1 i) (tW so t2 t2) = true → (y 3 i).testBit t2 = true := fun t2 ht2 q => by
                    by_cases e : t2 = t
                    · subst e; rw [← hacc, q75] at q; cases q
                    · exact hyA t2 (by omega) q
                  exact ih_7 (t + 1) y _ _ _ (by omega) (by first | assumption | omega) (by first | exact SI_n | exact SI_z) (by first | exact sE_n | exact sE_z) (by first | assumption | omega) h (lv_sub hl [0, 4, 5] rfl)
                · refine lv_aload_n C.x C.b dc_S_askTests_78 rfl (lv_at hl 4 rfl) ?_
                  refine rg_get C h 2 rfl rfl in_S 5 (by decide) fl_S_30 rfl dc_S_askTests_79 ?_
                  refine lv_iload_n C.x C.b dc_S_askTests_82 rfl (lv_at hl 5 rfl) ?_
                  refine lv_dup2_11 C.x C.b dc_S_askTests_83 rfl rfl ?_
                  refine rg_ild C h 8 rfl (by omega) (by decide) dc_S_askTests_84 ?_
                  refine lv_iconst (v := (nI 1)) C.x C.b dc_S_askTests_85 (by decide +kernel) ?_
                  refine lv_iload_n C.x C.b dc_S_askTests_86 rfl (lv_at hl 3 rfl) ?_
                  refine lv_ishl C.x C.b dc_S_askTests_87 ?_
                  refine tp_i (nI_shl1 (n := t) (by omega)) ?_
                  refine lv_ior C.x C.b dc_S_askTests_88 ?_
                  refine tp_i (nI_or (y 3 i) (2 ^ t)) ?_
                  refine rg_ist C h 8 rfl (by omega) (by decide) dc_S_askTests_89 (fun H locs h => ?_)
                  obtain ⟨so_3, eso_3⟩ : ∃ zz9, zz9 = us y 3 (us (y 3) i ((y 3 i) ||| (2 ^ t))) := ⟨_, rfl⟩
                  have xso_3 : so_3 10 0 = y 10 0 ∧ so_3 10 1 = y 10 1 ∧ so_3 10 2 = y 10 2 ∧ so_3 10 3 = y 10 3 := by rw [eso_3, us_n _ _ (by decide)]; exact ⟨rfl, rfl, rfl, rfl⟩
                  replace h : sT Γ s (xW Γ d hm mc so_3 tl tb wr) H locs := by rw [eso_3]; exact h
                  refine lv_iinc (v := nI (t + 1)) (lv' := [(2, .int (nI (t + 1))), (5, .int (nI k)), (4, .int (nI lf)), (3, .int (nI a)), (0, .ref (d 2)), (1, .int (nI i))]) C.x C.b dc_S_askTests_90 hl (k := 3) rfl (nI_1 t) (by decide) rfl (fun ls hl => ?_)
                  refine lv_goto (tgt := 7) C.x C.b dc_S_askTests_93 (by decide) ?_
                  have hb := SI_y.bit (so' := so_3) (i := i) (t := t) (by omega) (by omega) (by rw [(sE_y.2.2.2.2.2 i hi).1, tW_eq (sE_y.1 5 (by decide) (by decide)) (sE_y.1 6 (by decide) (by decide)), ← hacc]; exact q75) eso_3
                  have SI_n := hb.1
                  have sE_n := sE_y.tr hb.2
                  have hA : ∀ t2, t2 < t + 1 → macc M (so 1 i) (tW so t2 t2) = true → (so_3 3 i).testBit t2 = true := fun t2 ht2 q => by
                    by_cases e : t2 = t
                    · subst e; rw [eso_3, us_s, us_s, Nat.testBit_or, Nat.testBit_two_pow]; simp
                    · exact (hb.2.2.2.2.2.2 i (by omega)).2.2.1 t2 (hyA t2 (by omega) q)
                  exact ih_7 (t + 1) so_3 _ _ _ (by omega) (by first | assumption | omega) (by first | exact SI_n | exact SI_z) (by first | exact sE_n | exact sE_z) (by first | assumption | omega) h (lv_sub hl [0, 4, 5] rfl)
              · refine lv_aload_n C.x C.b dc_S_askTests_34 rfl (lv_at hl 4 rfl) ?_
                refine lv_iload_n C.x C.b dc_S_askTests_35 rfl (lv_at hl 2 rfl) ?_
                refine lv_aload_n C.x C.b dc_S_askTests_36 rfl (lv_at hl 4 rfl) ?_
                refine rg_get C h 2 rfl rfl in_S 7 (by decide) fl_S_36 rfl dc_S_askTests_37 ?_
                refine lv_iload C.x C.b dc_S_askTests_40 (lv_at hl 1 rfl) ?_
                refine rg_ild C h 10 rfl (by omega) (by decide) dc_S_askTests_42 ?_
                refine kv_V (As := [.int (nI a), .int (nI (y 5 lf))]) (rest := []) C h hl.1 (c_S_follow l Γ d hm mc y tl tb wr M a (y 5 lf) hM SI_y ha (by rw [hy5]; exact (hS.2.2.2.2.1.2.2 lf (by omega) (by omega)).1)) mw_S_follow lk_S_75 (q0 := 2) rfl rfl rfl (by decide) (by decide) (Nat.le_of_ble_eq_true rfl) dc_S_askTests_43 (fun v u H locs hp h => ?_)
                obtain ⟨⟨j_4, so_5⟩, rfl⟩ : ∃ zz9, zz9 = u := ⟨_, rfl⟩
                obtain ⟨rfl, SI_so_5, sE_so_5, lt_j_4, pl_j_4, me_j_4, st_j_4⟩ := hp
                dsimp only at SI_so_5 sE_so_5 lt_j_4 pl_j_4 me_j_4 st_j_4
                replace h : sT Γ s (xW Γ d hm mc so_5 tl tb wr) H locs := h
                refine W.eq (g2 := F0 m 46 ls [.int (nI j_4)]) rfl ?_
                refine lv_istore_n (lv' := [(3, .int (nI j_4)), (5, .int (nI k)), (4, .int (nI lf)), (2, .int (nI t)), (0, .ref (d 2)), (1, .int (nI i))]) C.x C.b dc_S_askTests_46 rfl hl (by decide) rfl (fun ls hl => ?_)
                refine lv_aload_n C.x C.b dc_S_askTests_47 rfl (lv_at hl 4 rfl) ?_
                refine rg_get C h 2 rfl rfl in_S 8 (by decide) fl_S_39 rfl dc_S_askTests_48 ?_
                refine lv_iload C.x C.b dc_S_askTests_51 (lv_at hl 2 rfl) ?_
                refine rg_ild C h 11 rfl (by omega) (by decide) dc_S_askTests_53 ?_
                refine lv_istore (lv' := [(4, .int (nI (so_5 6 lf))), (3, .int (nI j_4)), (5, .int (nI k)), (2, .int (nI t)), (0, .ref (d 2)), (1, .int (nI i))]) C.x C.b dc_S_askTests_54 hl (by decide) rfl (fun ls hl => ?_)
                refine lv_iinc (v := nI (k + 1)) (lv' := [(5, .int (nI (k + 1))), (4, .int (nI (so_5 6 lf))), (3, .int (nI j_4)), (2, .int (nI t)), (0, .ref (d 2)), (1, .int (nI i))]) C.x C.b dc_S_askTests_56 hl (k := 2) rfl (nI_1 k) (by decide) rfl (fun ls hl => ?_)
                refine lv_goto (tgt := 23) C.x C.b dc_S_askTests_59 (by decide) ?_
                have SI_n := SI_so_5
                have sE_n := sE_y.tr sE_so_5
                have hyA : ∀ t2, t2 < t → macc M (so 1 i) (tW so t2 t2) = true → (so_5 3 i).testBit t2 = true := fun t2 ht2 q => (sE_so_5.2.2.2.2.2 i (by omega)).2.2.1 t2 (hyA t2 ht2 q)
                have h6 : so_5 6 = so 6 := sE_n.1 6 (by decide) (by decide)
                have hlf2 : so_5 6 lf ≤ t - (k + 1) := by rw [h6]; have := (hS.2.2.2.2.1.2.2 lf (by omega) (by omega)).2; omega
                have hacc : macc M (so_5 1 j_4) (tW so (t - (k + 1)) (so_5 6 lf)) = macc M (so 1 i) (tW so t t) := by rw [pl_j_4, h6, ← hacc, tW_st (n := t - k) (t := lf) (by omega) (by omega), show t - k - 1 = t - (k + 1) by omega, sE_y.1 5 (by decide) (by decide)]
                exact ih_23 (k + 1) j_4 (so_5 6 lf) so_5 _ _ _ (by omega) (by first | assumption | omega) (by first | assumption | omega) (by first | exact SI_n | exact SI_z) (by first | exact sE_n | exact sE_z) (by first | assumption | omega) (by first | exact hyA | exact hA) (by first | assumption | omega) h (lv_sub hl [0, 1, 2, 3, 4, 5] rfl)
        exact lp_23 _ 0 i t z _ _ _ (Nat.lt_succ_self _) (by first | assumption | omega) (by first | assumption | omega) (by first | exact SI_n | exact SI_z) (by first | exact sE_n | exact sE_z) (by first | assumption | omega) (by first | exact hyA | exact hA) (by first | assumption | omega) h (lv_sub hl [0, 1, 2, 3, 4, 5] rfl)
  exact lp_7 _ (so 4 i) so _ _ _ (Nat.lt_succ_self _) (by first | assumption | omega) (by first | exact SI_n | exact SI_z) (by first | exact sE_n | exact sE_z) (by first | assumption | omega) h (lv_sub hl [0, 1, 2] rfl)

abbrev rm_S_kindWith : Room := { frames := 0, cells := 0, slots := 0, locals := 0 }
set_option maxRecDepth 100000 in
set_option maxHeartbeats 4000000 in
theorem c_S_kindWith (l : Launch) (Γ : gG) (d : Nat → Nat) (hm : Nat) (mc : va_E) (so : Nat → Nat → Nat) (tl : Nat → Nat → Int64) (tb : Nat → Nat → Nat → Nat) (wr : va_W) (x : Nat) (hx : x < 2 ^ 31) (hk : so 10 2 ≤ 10) (hE : ∀ k, k < so 10 2 → so 7 k < 10240 ∧ so 3 (so 7 k) < 2 ^ 31) : cT l Γ my_S_kindWith bc_S_kindWith 3 (some .int) rm_S_kindWith [.ref (d 2), .int (nI x)] (xW Γ d hm mc so tl tb wr) (S := Nat) (fun v u => v = some (.int (nI u)) ∧ u ≤ so 10 2 ∧ (∀ k, k < u → so 3 (so 7 k) ≠ x) ∧ (u < so 10 2 → so 3 (so 7 u) = x)) (fun _ => xW Γ d hm mc so tl tb wr) := by
  refine cT.start (by decide) (Nat.le_of_ble_eq_true rfl) (fun p e s m args below meth c ls Q hQ C hmn h hl => ?_)
  replace hl : lv_has ls 3 [(0, .ref (d 2)), (1, .int (nI x))] := hl
  refine lv_iconst (v := (nI 0)) C.x C.b dc_S_kindWith_0 (by decide +kernel) ?_
  refine lv_istore_n (lv' := [(2, .int (nI 0)), (0, .ref (d 2)), (1, .int (nI x))]) C.x C.b dc_S_kindWith_1 rfl hl (by decide) rfl (fun ls hl => ?_)
  have hA : ∀ q, q < 0 → so 3 (so 7 q) ≠ x := fun q z => absurd z (Nat.not_lt_zero _)
  have lp_2 : ∀ (n_2 : Nat) (k : Nat) (H : Heap) (locs : List Loc) (ls : Array Slot), so 10 2 - k < n_2 → (k ≤ so 10 2) → (∀ q, q < k → so 3 (so 7 q) ≠ x) → sT Γ s (xW Γ d hm mc so tl tb wr) H locs → lv_has ls 3 [(2, .int (nI k)), (0, .ref (d 2)), (1, .int (nI x))] → W p l e rm_S_kindWith s m args below meth c H locs 0 0 Q (F0 m 2 ls []) := by
    intro n_2
    induction n_2 with
    | zero => intro k H locs ls hms; exact absurd hms (Nat.not_lt_zero _)
    | succ n_2 ih_2 =>
      intro k H locs ls hms hk2 hA h hl
      refine lv_iload_n C.x C.b dc_S_kindWith_2 rfl (lv_at hl 0 rfl) ?_
      refine lv_aload_n C.x C.b dc_S_kindWith_3 rfl (lv_at hl 1 rfl) ?_
      refine rg_get C h 2 rfl rfl in_S 11 (by decide) fl_S_58 rfl dc_S_kindWith_4 ?_
      refine bc_ge (tgt := 31) C (by omega) (by omega) dc_S_kindWith_7 (by decide) (fun q7 => ?_) (fun q7 => ?_)
      · refine lv_iload_n C.x C.b dc_S_kindWith_31 rfl (lv_at hl 0 rfl) ?_
        rw [hQ]
        exact rt_i C k h (⟨rfl, hk2, hA, fun z => absurd z (by omega)⟩) dc_S_kindWith_32
      · refine lv_aload_n C.x C.b dc_S_kindWith_10 rfl (lv_at hl 1 rfl) ?_
        refine rg_get C h 2 rfl rfl in_S 5 (by decide) fl_S_30 rfl dc_S_kindWith_11 ?_
        refine lv_aload_n C.x C.b dc_S_kindWith_14 rfl (lv_at hl 1 rfl) ?_
        refine rg_get C h 2 rfl rfl in_S 10 (by decide) fl_S_42 rfl dc_S_kindWith_15 ?_
        refine lv_iload_n C.x C.b dc_S_kindWith_18 rfl (lv_at hl 0 rfl) ?_
        refine rg_ild C h 12 rfl (by omega) (by decide) dc_S_kindWith_19 ?_
        refine rg_ild C h 8 rfl ((hE k (by omega)).1) (by decide) dc_S_kindWith_20 ?_
        refine lv_iload_n C.x C.b dc_S_kindWith_21 rfl (lv_at hl 2 rfl) ?_
        refine bc_eq (tgt := 31) C ((hE k (by omega)).2) (by omega) dc_S_kindWith_22 (by decide) (fun q22 => ?_) (fun q22 => ?_)
        · refine lv_iload_n C.x C.b dc_S_kindWith_31 rfl (lv_at hl 0 rfl) ?_
          rw [hQ]
          exact rt_i C k h (⟨rfl, hk2, hA, fun _ => q22⟩) dc_S_kindWith_32
        · refine lv_iinc (v := nI (k + 1)) (lv' := [(2, .int (nI (k + 1))), (0, .ref (d 2)), (1, .int (nI x))]) C.x C.b dc_S_kindWith_25 hl (k := 0) rfl (nI_1 k) (by decide) rfl (fun ls hl => ?_)
          refine lv_goto (tgt := 2) C.x C.b dc_S_kindWith_28 (by decide) ?_
          have hA : ∀ q, q < k + 1 → so 3 (so 7 q) ≠ x := fun q z => by
            by_cases e : q = k
            · subst e; exact q22
            · exact hA q (by omega)
          exact ih_2 (k + 1) _ _ _ (by omega) (by first | assumption | omega) (by first | assumption | omega) h (lv_sub hl [0, 1, 2] rfl)
  exact lp_2 _ 0 _ _ _ (Nat.lt_succ_self _) (by first | assumption | omega) (by first | assumption | omega) h (lv_sub hl [0, 1, 2] rfl)

abbrev rm_S_addKind : Room := { frames := 0, cells := 0, slots := 0, locals := 0 }
set_option maxRecDepth 100000 in
set_option maxHeartbeats 4000000 in
theorem c_S_addKind (l : Launch) (Γ : gG) (d : Nat → Nat) (hm : Nat) (mc : va_E) (so : Nat → Nat → Nat) (tl : Nat → Nat → Int64) (tb : Nat → Nat → Nat → Nat) (wr : va_W) (i : Nat) (hk : so 10 2 ≤ 10) : cT l Γ my_S_addKind bc_S_addKind 2 (some .boolean) rm_S_addKind [.ref (d 2), .int (nI i)] (xW Γ d hm mc so tl tb wr) (S := Bool × (Nat → Nat → Nat)) (fun v u => v = some (.int (bI u.1)) ∧ ((u.1 = false ∧ u.2 = so ∧ 10 ≤ so 10 2) ∨ (u.1 = true ∧ so 10 2 < 10 ∧ akR so i u.2))) (fun u => xW Γ d hm mc u.2 tl tb wr) := by
  refine cT.start (by decide) (Nat.le_of_ble_eq_true rfl) (fun p e s m args below meth c ls Q hQ C hmn h hl => ?_)
  replace hl : lv_has ls 2 [(0, .ref (d 2)), (1, .int (nI i))] := hl
  refine lv_aload_n C.x C.b dc_S_addKind_0 rfl (lv_at hl 0 rfl) ?_
  refine rg_get C h 2 rfl rfl in_S 11 (by decide) fl_S_58 rfl dc_S_addKind_1 ?_
  refine lv_bipush (v := (nI 10)) C.x C.b dc_S_addKind_4 (by decide +kernel) ?_
  refine bc_lt (tgt := 11) C (by omega) (by omega) dc_S_addKind_6 (by decide) (fun q6 => ?_) (fun q6 => ?_)
  · refine lv_aload_n C.x C.b dc_S_addKind_11 rfl (lv_at hl 0 rfl) ?_
    refine rg_get C h 2 rfl rfl in_S 10 (by decide) fl_S_42 rfl dc_S_addKind_12 ?_
    refine lv_aload_n C.x C.b dc_S_addKind_15 rfl (lv_at hl 0 rfl) ?_
    refine rg_get C h 2 rfl rfl in_S 11 (by decide) fl_S_58 rfl dc_S_addKind_16 ?_
    refine lv_iload_n C.x C.b dc_S_addKind_19 rfl (lv_at hl 1 rfl) ?_
    refine rg_ist C h 12 rfl (by omega) (by decide) dc_S_addKind_20 (fun H locs h => ?_)
    obtain ⟨so_1, eso_1⟩ : ∃ zz9, zz9 = us so 7 (us (so 7) (so 10 2) i) := ⟨_, rfl⟩
    have xso_1 : so_1 10 0 = so 10 0 ∧ so_1 10 1 = so 10 1 ∧ so_1 10 2 = so 10 2 ∧ so_1 10 3 = so 10 3 := by rw [eso_1, us_n _ _ (by decide)]; exact ⟨rfl, rfl, rfl, rfl⟩
    replace h : sT Γ s (xW Γ d hm mc so_1 tl tb wr) H locs := by rw [eso_1]; exact h
    refine lv_aload_n C.x C.b dc_S_addKind_21 rfl (lv_at hl 0 rfl) ?_
    refine lv_dup C.x C.b dc_S_addKind_22 rfl ?_
    refine rg_get C h 2 rfl rfl in_S 11 (by decide) fl_S_58 rfl dc_S_addKind_23 ?_
    refine lv_iconst (v := (nI 1)) C.x C.b dc_S_addKind_26 (by decide +kernel) ?_
    refine lv_iadd C.x C.b dc_S_addKind_27 ?_
    refine tp_i (nI_add (so_1 10 2) 1) ?_
    refine rg_put (ty := .int) C h 2 rfl rfl in_S tk_S nm_S 11 (by decide) fl_S_58 rfl (by decide +kernel) rfl rfl (by simp) dc_S_addKind_28 (fun H locs h => ?_)
    obtain ⟨so_2, eso_2⟩ : ∃ zz9, zz9 = us so_1 10 (us (so_1 10) 2 ((so_1 10 2) + 1)) := ⟨_, rfl⟩
    have xso_2 : so_2 10 0 = so_1 10 0 ∧ so_2 10 1 = so_1 10 1 ∧ so_2 10 2 = ((so_1 10 2) + 1) ∧ so_2 10 3 = so_1 10 3 := by rw [eso_2, us_s]; exact ⟨us_n _ _ (by decide), us_n _ _ (by decide), us_s _ _ _, us_n _ _ (by decide)⟩
    replace h : sT Γ s (xW Γ d hm mc so_2 tl tb wr) H locs := by rw [eso_2]; exact h
    refine lv_iconst (v := (nI 1)) C.x C.b dc_S_addKind_31 (by decide +kernel) ?_
    rw [hQ]
    exact rt_z C (true, so_2) h (⟨rb_t (b := true) rfl, Or.inr ⟨rfl, q6, by show so_2 7 = _; rw [eso_2, us_n _ _ (by decide), eso_1, us_s], by show so_2 10 = _; rw [eso_2, us_s, eso_1, us_n _ _ (by decide)], fun k h7 h10 => by show so_2 k = _; rw [eso_2, us_n _ _ h10, eso_1, us_n _ _ h7]⟩⟩) (by decide +kernel) dc_S_addKind_32
  · refine lv_iconst (v := (nI 0)) C.x C.b dc_S_addKind_9 (by decide +kernel) ?_
    rw [hQ]
    exact rt_z C (false, so) h (⟨rb_f (b := false) rfl, Or.inl ⟨rfl, rfl, q6⟩⟩) (by decide +kernel) dc_S_addKind_10

abbrev rm_S_split : Room := { frames := 1, cells := 0, slots := 0, locals := 21 }
set_option maxRecDepth 100000 in
set_option maxHeartbeats 4000000 in
theorem c_S_split (l : Launch) (Γ : gG) (d : Nat → Nat) (hm : Nat) (mc : va_E) (so : Nat → Nat → Nat) (tl : Nat → Nat → Int64) (tb : Nat → Nat → Nat → Nat) (wr : va_W) (i lt t : Nat) (hk : so 10 2 ≤ 10) (hts : so 10 1 ≤ so 10 2) : cT l Γ my_S_split bc_S_split 4 (some .int) rm_S_split [.ref (d 2), .int (nI i), .int (nI lt), .int (nI t)] (xW Γ d hm mc so tl tb wr) (S := Nat × (Nat → Nat → Nat)) (fun v u => v = some (.int (nI u.1)) ∧ ((u.1 = 2 ∧ u.2 = so ∧ 10 ≤ so 10 2) ∨ (u.1 = 1 ∧ so 10 2 < 10 ∧ spR so i lt t u.2))) (fun u => xW Γ d hm mc u.2 tl tb wr) := by
  refine cT.start (by decide) (Nat.le_of_ble_eq_true rfl) (fun p e s m args below meth c ls Q hQ C hmn h hl => ?_)
  replace hl : lv_has ls 4 [(0, .ref (d 2)), (1, .int (nI i)), (2, .int (nI lt)), (3, .int (nI t))] := hl
  refine lv_aload_n C.x C.b dc_S_split_0 rfl (lv_at hl 0 rfl) ?_
  refine lv_iload_n C.x C.b dc_S_split_1 rfl (lv_at hl 1 rfl) ?_
  refine kv_V (As := [.int (nI i)]) (rest := []) C h hl.1 (c_S_addKind l Γ d hm mc so tl tb wr i hk) mw_S_addKind lk_S_85 (q0 := 2) rfl rfl rfl (by decide) (by decide) (Nat.le_of_ble_eq_true rfl) dc_S_split_2 (fun v u H locs hp h => ?_)
  obtain ⟨⟨ok_1, so_2⟩, rfl⟩ : ∃ zz9, zz9 = u := ⟨_, rfl⟩
  obtain ⟨rfl, ak_so_2⟩ := hp
  dsimp only at ak_so_2
  replace h : sT Γ s (xW Γ d hm mc so_2 tl tb wr) H locs := h
  refine W.eq (g2 := F0 m 5 ls [.int (bI ok_1)]) rfl ?_
  refine bb_ne (tgt := 10) C dc_S_split_5 (by decide) (fun q5 => ?_) (fun q5 => ?_)
  · obtain ⟨-, hk9⟩ := ak_so_2.resolve_left (fun z => by rw [q5] at z; cases z.1)
    have ht1 : so_2 10 1 = so 10 1 := by rw [hk9.2.2.1, us_n _ _ (by decide)]
    refine lv_aload_n C.x C.b dc_S_split_10 rfl (lv_at hl 0 rfl) ?_
    refine rg_get C h 2 rfl rfl in_S 7 (by decide) fl_S_36 rfl dc_S_split_11 ?_
    refine lv_aload_n C.x C.b dc_S_split_14 rfl (lv_at hl 0 rfl) ?_
    refine rg_get C h 2 rfl rfl in_S 9 (by decide) fl_S_55 rfl dc_S_split_15 ?_
    refine lv_iload_n C.x C.b dc_S_split_18 rfl (lv_at hl 2 rfl) ?_
    refine rg_ist C h 10 rfl (by omega) (by decide) dc_S_split_19 (fun H locs h => ?_)
    obtain ⟨so_3, eso_3⟩ : ∃ zz9, zz9 = us so_2 5 (us (so_2 5) (so_2 10 1) lt) := ⟨_, rfl⟩
    have xso_3 : so_3 10 0 = so_2 10 0 ∧ so_3 10 1 = so_2 10 1 ∧ so_3 10 2 = so_2 10 2 ∧ so_3 10 3 = so_2 10 3 := by rw [eso_3, us_n _ _ (by decide)]; exact ⟨rfl, rfl, rfl, rfl⟩
    replace h : sT Γ s (xW Γ d hm mc so_3 tl tb wr) H locs := by rw [eso_3]; exact h
    refine lv_aload_n C.x C.b dc_S_split_20 rfl (lv_at hl 0 rfl) ?_
    refine rg_get C h 2 rfl rfl in_S 8 (by decide) fl_S_39 rfl dc_S_split_21 ?_
    refine lv_aload_n C.x C.b dc_S_split_24 rfl (lv_at hl 0 rfl) ?_
    refine rg_get C h 2 rfl rfl in_S 9 (by decide) fl_S_55 rfl dc_S_split_25 ?_
    refine lv_iload_n C.x C.b dc_S_split_28 rfl (lv_at hl 3 rfl) ?_
    refine rg_ist C h 11 rfl (by omega) (by decide) dc_S_split_29 (fun H locs h => ?_)
    obtain ⟨so_4, eso_4⟩ : ∃ zz9, zz9 = us so_3 6 (us (so_3 6) (so_3 10 1) t) := ⟨_, rfl⟩
    have xso_4 : so_4 10 0 = so_3 10 0 ∧ so_4 10 1 = so_3 10 1 ∧ so_4 10 2 = so_3 10 2 ∧ so_4 10 3 = so_3 10 3 := by rw [eso_4, us_n _ _ (by decide)]; exact ⟨rfl, rfl, rfl, rfl⟩
    replace h : sT Γ s (xW Γ d hm mc so_4 tl tb wr) H locs := by rw [eso_4]; exact h
    refine lv_aload_n C.x C.b dc_S_split_30 rfl (lv_at hl 0 rfl) ?_
    refine lv_dup C.x C.b dc_S_split_31 rfl ?_
    refine rg_get C h 2 rfl rfl in_S 9 (by decide) fl_S_55 rfl dc_S_split_32 ?_
    refine lv_iconst (v := (nI 1)) C.x C.b dc_S_split_35 (by decide +kernel) ?_
    refine lv_iadd C.x C.b dc_S_split_36 ?_
    refine tp_i (nI_add (so_4 10 1) 1) ?_
    refine rg_put (ty := .int) C h 2 rfl rfl in_S tk_S nm_S 9 (by decide) fl_S_55 rfl (by decide +kernel) rfl rfl (by simp) dc_S_split_37 (fun H locs h => ?_)
    obtain ⟨so_5, eso_5⟩ : ∃ zz9, zz9 = us so_4 10 (us (so_4 10) 1 ((so_4 10 1) + 1)) := ⟨_, rfl⟩
    have xso_5 : so_5 10 0 = so_4 10 0 ∧ so_5 10 1 = ((so_4 10 1) + 1) ∧ so_5 10 2 = so_4 10 2 ∧ so_5 10 3 = so_4 10 3 := by rw [eso_5, us_s]; exact ⟨us_n _ _ (by decide), us_s _ _ _, us_n _ _ (by decide), us_n _ _ (by decide)⟩
    replace h : sT Γ s (xW Γ d hm mc so_5 tl tb wr) H locs := by rw [eso_5]; exact h
    refine lv_iconst (v := (nI 1)) C.x C.b dc_S_split_40 (by decide +kernel) ?_
    rw [hQ]
    exact rt_i C (1, so_5) h (⟨rfl, Or.inr ⟨rfl, hk9.1, by show so_5 7 = _; rw [eso_5, us_n _ _ (by decide), eso_4, us_n _ _ (by decide), eso_3, us_n _ _ (by decide)]; exact hk9.2.1, by show so_5 10 = _; rw [eso_5, us_s, eso_4, us_n _ _ (by decide), eso_3, us_n _ _ (by decide), hk9.2.2.1, us_n _ _ (by decide)], by show so_5 5 = _; rw [eso_5, us_n _ _ (by decide), eso_4, us_n _ _ (by decide), eso_3, us_s, hk9.2.2.2 5 (by decide) (by decide), ht1], by show so_5 6 = _; rw [eso_5, us_n _ _ (by decide), eso_4, us_s, eso_3, us_n _ _ (by decide), us_n _ _ (by decide), hk9.2.2.2 6 (by decide) (by decide), ht1], fun k h7 h10 h5 h6 => by show so_5 k = _; rw [eso_5, us_n _ _ h10, eso_4, us_n _ _ h6, eso_3, us_n _ _ h5]; exact hk9.2.2.2 k h7 h10⟩⟩) dc_S_split_41
  · refine lv_iconst (v := (nI 2)) C.x C.b dc_S_split_8 (by decide +kernel) ?_
    have hk9 := ak_so_2.resolve_right (fun z => by rw [q5] at z; cases z.1)
    rw [hQ]
    exact rt_i C (2, so_2) h (⟨rfl, Or.inl ⟨rfl, hk9.2.1, hk9.2.2⟩⟩) dc_S_split_9

theorem gw_65536 : Cond.constant "java/lang/Integer" 264 65536 ∈ gw := gw_t 380 rfl rfl
abbrev rm_J_ntz : Room := { frames := 0, cells := 0, slots := 0, locals := 0 }
set_option maxRecDepth 100000 in
set_option maxHeartbeats 4000000 in
theorem c_J_ntz (l : Launch) (Γ : gG) (ws : va_W) (x : Nat) (hx : x < 1024) (h0 : x ≠ 0) : cT l Γ my_J_ntz bc_J_ntz 2 (some .int) rm_J_ntz [.int (nI x)] (ws) (S := Nat) (fun v u => v = some (.int (nI u)) ∧ u < 10 ∧ x.testBit u = true) (fun _ => ws) := by
  refine cT.start (by decide) (Nat.le_of_ble_eq_true rfl) (fun p e s m args below meth c ls Q hQ C hmn h hl => ?_)
  replace hl : lv_has ls 2 [(0, .int (nI x))] := hl
  obtain ⟨t, ht1, ht2, ht3⟩ := ntz_lem x hx h0
  refine lv_iload_n C.x C.b dc_J_ntz_0 rfl (lv_at hl 0 rfl) ?_
  refine lv_iconst (v := (mI 0)) C.x C.b dc_J_ntz_1 (by decide +kernel) ?_
  refine lv_ixor C.x C.b dc_J_ntz_2 ?_
  refine lv_iload_n C.x C.b dc_J_ntz_3 rfl (lv_at hl 0 rfl) ?_
  refine lv_iconst (v := (nI 1)) C.x C.b dc_J_ntz_4 (by decide +kernel) ?_
  refine lv_isub C.x C.b dc_J_ntz_5 ?_
  refine lv_iand C.x C.b dc_J_ntz_6 ?_
  refine tp_i (y := (nI (2 ^ t - 1))) (ht3) ?_
  refine lv_istore_n (lv' := [(0, .int (nI (2 ^ t - 1)))]) C.x C.b dc_J_ntz_7 rfl hl (by decide) rfl (fun ls hl => ?_)
  have ht9 : t = 0 ∨ t = 1 ∨ t = 2 ∨ t = 3 ∨ t = 4 ∨ t = 5 ∨ t = 6 ∨ t = 7 ∨ t = 8 ∨ t = 9 := by omega
  rcases ht9 with rfl | rfl | rfl | rfl | rfl | rfl | rfl | rfl | rfl | rfl
  · replace hl : lv_has ls 2 [(0, .int (nI 0))] := hl
    refine lv_iload_n C.x C.b dc_J_ntz_8 rfl (lv_at hl 0 rfl) ?_
    refine bz_gt (tgt := 17) C (by omega) dc_J_ntz_9 (by decide) (fun q9 => absurd q9 (by decide)) (fun q9 => ?_)
    refine lv_iload_n C.x C.b dc_J_ntz_12 rfl (lv_at hl 0 rfl) ?_
    refine lv_bipush (v := (nI 32)) C.x C.b dc_J_ntz_13 (by decide +kernel) ?_
    refine lv_iand C.x C.b dc_J_ntz_15 ?_
    refine tp_i (y := (nI 0)) (by decide +kernel) ?_
    rw [hQ]
    exact rt_i C 0 h (⟨rfl, by decide, ht2⟩) dc_J_ntz_16
  · replace hl : lv_has ls 2 [(0, .int (nI 1))] := hl
    refine lv_iload_n C.x C.b dc_J_ntz_8 rfl (lv_at hl 0 rfl) ?_
    refine bz_gt (tgt := 17) C (by omega) dc_J_ntz_9 (by decide) (fun q9 => ?_) (fun q9 => absurd q9 (by decide))
    refine lv_iconst (v := (nI 1)) C.x C.b dc_J_ntz_17 (by decide +kernel) ?_
    refine lv_istore_n (lv' := [(1, .int (nI 1)), (0, .int (nI 1))]) C.x C.b dc_J_ntz_18 rfl hl (by decide) rfl (fun ls hl => ?_)
    refine lv_iload_n C.x C.b dc_J_ntz_19 rfl (lv_at hl 1 rfl) ?_
    refine lv_ldcw (v := 65536) C.x C.b C.o (C.t _ gw_65536) dc_J_ntz_20 ?_
    refine tp_i (y := nI 65536) (by decide +kernel) ?_
    refine bc_le (tgt := 34) C (by omega) (by omega) dc_J_ntz_23 (by decide) (fun q23 => ?_) (fun q23 => absurd q23 (by decide))
    refine lv_iload_n C.x C.b dc_J_ntz_34 rfl (lv_at hl 1 rfl) ?_
    refine lv_sipush (v := (nI 256)) C.x C.b dc_J_ntz_35 (by decide +kernel) ?_
    refine bc_le (tgt := 49) C (by omega) (by omega) dc_J_ntz_38 (by decide) (fun q38 => ?_) (fun q38 => absurd q38 (by decide))
    refine lv_iload_n C.x C.b dc_J_ntz_49 rfl (lv_at hl 1 rfl) ?_
    refine lv_bipush (v := (nI 16)) C.x C.b dc_J_ntz_50 (by decide +kernel) ?_
    refine bc_le (tgt := 62) C (by omega) (by omega) dc_J_ntz_52 (by decide) (fun q52 => ?_) (fun q52 => absurd q52 (by decide))
    refine lv_iload_n C.x C.b dc_J_ntz_62 rfl (lv_at hl 1 rfl) ?_
    refine lv_iconst (v := (nI 4)) C.x C.b dc_J_ntz_63 (by decide +kernel) ?_
    refine bc_le (tgt := 74) C (by omega) (by omega) dc_J_ntz_64 (by decide) (fun q64 => ?_) (fun q64 => absurd q64 (by decide))
    refine lv_iload_n C.x C.b dc_J_ntz_74 rfl (lv_at hl 0 rfl) ?_
    refine lv_iload_n C.x C.b dc_J_ntz_75 rfl (lv_at hl 1 rfl) ?_
    refine lv_iconst (v := (nI 1)) C.x C.b dc_J_ntz_76 (by decide +kernel) ?_
    refine lv_iushr (v := nI 0) C.x C.b dc_J_ntz_77 (by decide +kernel) ?_
    refine lv_iadd C.x C.b dc_J_ntz_78 ?_
    refine tp_i (nI_add 1 0) ?_
    rw [hQ]
    exact rt_i C 1 h (⟨by decide +kernel, by decide, ht2⟩) dc_J_ntz_79
  · replace hl : lv_has ls 2 [(0, .int (nI 3))] := hl
    refine lv_iload_n C.x C.b dc_J_ntz_8 rfl (lv_at hl 0 rfl) ?_
    refine bz_gt (tgt := 17) C (by omega) dc_J_ntz_9 (by decide) (fun q9 => ?_) (fun q9 => absurd q9 (by decide))
    refine lv_iconst (v := (nI 1)) C.x C.b dc_J_ntz_17 (by decide +kernel) ?_
    refine lv_istore_n (lv' := [(1, .int (nI 1)), (0, .int (nI 3))]) C.x C.b dc_J_ntz_18 rfl hl (by decide) rfl (fun ls hl => ?_)
    refine lv_iload_n C.x C.b dc_J_ntz_19 rfl (lv_at hl 1 rfl) ?_
    refine lv_ldcw (v := 65536) C.x C.b C.o (C.t _ gw_65536) dc_J_ntz_20 ?_
    refine tp_i (y := nI 65536) (by decide +kernel) ?_
    refine bc_le (tgt := 34) C (by omega) (by omega) dc_J_ntz_23 (by decide) (fun q23 => ?_) (fun q23 => absurd q23 (by decide))
    refine lv_iload_n C.x C.b dc_J_ntz_34 rfl (lv_at hl 1 rfl) ?_
    refine lv_sipush (v := (nI 256)) C.x C.b dc_J_ntz_35 (by decide +kernel) ?_
    refine bc_le (tgt := 49) C (by omega) (by omega) dc_J_ntz_38 (by decide) (fun q38 => ?_) (fun q38 => absurd q38 (by decide))
    refine lv_iload_n C.x C.b dc_J_ntz_49 rfl (lv_at hl 1 rfl) ?_
    refine lv_bipush (v := (nI 16)) C.x C.b dc_J_ntz_50 (by decide +kernel) ?_
    refine bc_le (tgt := 62) C (by omega) (by omega) dc_J_ntz_52 (by decide) (fun q52 => ?_) (fun q52 => absurd q52 (by decide))
    refine lv_iload_n C.x C.b dc_J_ntz_62 rfl (lv_at hl 1 rfl) ?_
    refine lv_iconst (v := (nI 4)) C.x C.b dc_J_ntz_63 (by decide +kernel) ?_
    refine bc_le (tgt := 74) C (by omega) (by omega) dc_J_ntz_64 (by decide) (fun q64 => ?_) (fun q64 => absurd q64 (by decide))
    refine lv_iload_n C.x C.b dc_J_ntz_74 rfl (lv_at hl 0 rfl) ?_
    refine lv_iload_n C.x C.b dc_J_ntz_75 rfl (lv_at hl 1 rfl) ?_
    refine lv_iconst (v := (nI 1)) C.x C.b dc_J_ntz_76 (by decide +kernel) ?_
    refine lv_iushr (v := nI 1) C.x C.b dc_J_ntz_77 (by decide +kernel) ?_
    refine lv_iadd C.x C.b dc_J_ntz_78 ?_
    refine tp_i (nI_add 1 1) ?_
    rw [hQ]
    exact rt_i C 2 h (⟨by decide +kernel, by decide, ht2⟩) dc_J_ntz_79
  · replace hl : lv_has ls 2 [(0, .int (nI 7))] := hl
    refine lv_iload_n C.x C.b dc_J_ntz_8 rfl (lv_at hl 0 rfl) ?_
    refine bz_gt (tgt := 17) C (by omega) dc_J_ntz_9 (by decide) (fun q9 => ?_) (fun q9 => absurd q9 (by decide))
    refine lv_iconst (v := (nI 1)) C.x C.b dc_J_ntz_17 (by decide +kernel) ?_
    refine lv_istore_n (lv' := [(1, .int (nI 1)), (0, .int (nI 7))]) C.x C.b dc_J_ntz_18 rfl hl (by decide) rfl (fun ls hl => ?_)
    refine lv_iload_n C.x C.b dc_J_ntz_19 rfl (lv_at hl 1 rfl) ?_
    refine lv_ldcw (v := 65536) C.x C.b C.o (C.t _ gw_65536) dc_J_ntz_20 ?_
    refine tp_i (y := nI 65536) (by decide +kernel) ?_
    refine bc_le (tgt := 34) C (by omega) (by omega) dc_J_ntz_23 (by decide) (fun q23 => ?_) (fun q23 => absurd q23 (by decide))
    refine lv_iload_n C.x C.b dc_J_ntz_34 rfl (lv_at hl 1 rfl) ?_
    refine lv_sipush (v := (nI 256)) C.x C.b dc_J_ntz_35 (by decide +kernel) ?_
    refine bc_le (tgt := 49) C (by omega) (by omega) dc_J_ntz_38 (by decide) (fun q38 => ?_) (fun q38 => absurd q38 (by decide))
    refine lv_iload_n C.x C.b dc_J_ntz_49 rfl (lv_at hl 1 rfl) ?_
    refine lv_bipush (v := (nI 16)) C.x C.b dc_J_ntz_50 (by decide +kernel) ?_
    refine bc_le (tgt := 62) C (by omega) (by omega) dc_J_ntz_52 (by decide) (fun q52 => ?_) (fun q52 => absurd q52 (by decide))
    refine lv_iload_n C.x C.b dc_J_ntz_62 rfl (lv_at hl 1 rfl) ?_
    refine lv_iconst (v := (nI 4)) C.x C.b dc_J_ntz_63 (by decide +kernel) ?_
    refine bc_le (tgt := 74) C (by omega) (by omega) dc_J_ntz_64 (by decide) (fun q64 => absurd q64 (by decide)) (fun q64 => ?_)
    refine lv_iinc (v := nI 3) (lv' := [(1, .int (nI 3)), (0, .int (nI 7))]) C.x C.b dc_J_ntz_67 hl (k := 0) rfl (by decide +kernel) (by decide) rfl (fun ls hl => ?_)
    refine lv_iload_n C.x C.b dc_J_ntz_70 rfl (lv_at hl 1 rfl) ?_
    refine lv_iconst (v := (nI 2)) C.x C.b dc_J_ntz_71 (by decide +kernel) ?_
    refine lv_iushr (v := nI 1) C.x C.b dc_J_ntz_72 (by decide +kernel) ?_
    refine lv_istore_n (lv' := [(0, .int (nI 1)), (1, .int (nI 3))]) C.x C.b dc_J_ntz_73 rfl hl (by decide) rfl (fun ls hl => ?_)
    refine lv_iload_n C.x C.b dc_J_ntz_74 rfl (lv_at hl 1 rfl) ?_
    refine lv_iload_n C.x C.b dc_J_ntz_75 rfl (lv_at hl 0 rfl) ?_
    refine lv_iconst (v := (nI 1)) C.x C.b dc_J_ntz_76 (by decide +kernel) ?_
    refine lv_iushr (v := nI 0) C.x C.b dc_J_ntz_77 (by decide +kernel) ?_
    refine lv_iadd C.x C.b dc_J_ntz_78 ?_
    refine tp_i (nI_add 3 0) ?_
    rw [hQ]
    exact rt_i C 3 h (⟨by decide +kernel, by decide, ht2⟩) dc_J_ntz_79
  · replace hl : lv_has ls 2 [(0, .int (nI 15))] := hl
    refine lv_iload_n C.x C.b dc_J_ntz_8 rfl (lv_at hl 0 rfl) ?_
    refine bz_gt (tgt := 17) C (by omega) dc_J_ntz_9 (by decide) (fun q9 => ?_) (fun q9 => absurd q9 (by decide))
    refine lv_iconst (v := (nI 1)) C.x C.b dc_J_ntz_17 (by decide +kernel) ?_
    refine lv_istore_n (lv' := [(1, .int (nI 1)), (0, .int (nI 15))]) C.x C.b dc_J_ntz_18 rfl hl (by decide) rfl (fun ls hl => ?_)
    refine lv_iload_n C.x C.b dc_J_ntz_19 rfl (lv_at hl 1 rfl) ?_
    refine lv_ldcw (v := 65536) C.x C.b C.o (C.t _ gw_65536) dc_J_ntz_20 ?_
    refine tp_i (y := nI 65536) (by decide +kernel) ?_
    refine bc_le (tgt := 34) C (by omega) (by omega) dc_J_ntz_23 (by decide) (fun q23 => ?_) (fun q23 => absurd q23 (by decide))
    refine lv_iload_n C.x C.b dc_J_ntz_34 rfl (lv_at hl 1 rfl) ?_
    refine lv_sipush (v := (nI 256)) C.x C.b dc_J_ntz_35 (by decide +kernel) ?_
    refine bc_le (tgt := 49) C (by omega) (by omega) dc_J_ntz_38 (by decide) (fun q38 => ?_) (fun q38 => absurd q38 (by decide))
    refine lv_iload_n C.x C.b dc_J_ntz_49 rfl (lv_at hl 1 rfl) ?_
    refine lv_bipush (v := (nI 16)) C.x C.b dc_J_ntz_50 (by decide +kernel) ?_
    refine bc_le (tgt := 62) C (by omega) (by omega) dc_J_ntz_52 (by decide) (fun q52 => ?_) (fun q52 => absurd q52 (by decide))
    refine lv_iload_n C.x C.b dc_J_ntz_62 rfl (lv_at hl 1 rfl) ?_
    refine lv_iconst (v := (nI 4)) C.x C.b dc_J_ntz_63 (by decide +kernel) ?_
    refine bc_le (tgt := 74) C (by omega) (by omega) dc_J_ntz_64 (by decide) (fun q64 => absurd q64 (by decide)) (fun q64 => ?_)
    refine lv_iinc (v := nI 3) (lv' := [(1, .int (nI 3)), (0, .int (nI 15))]) C.x C.b dc_J_ntz_67 hl (k := 0) rfl (by decide +kernel) (by decide) rfl (fun ls hl => ?_)
    refine lv_iload_n C.x C.b dc_J_ntz_70 rfl (lv_at hl 1 rfl) ?_
    refine lv_iconst (v := (nI 2)) C.x C.b dc_J_ntz_71 (by decide +kernel) ?_
    refine lv_iushr (v := nI 3) C.x C.b dc_J_ntz_72 (by decide +kernel) ?_
    refine lv_istore_n (lv' := [(0, .int (nI 3)), (1, .int (nI 3))]) C.x C.b dc_J_ntz_73 rfl hl (by decide) rfl (fun ls hl => ?_)
    refine lv_iload_n C.x C.b dc_J_ntz_74 rfl (lv_at hl 1 rfl) ?_
    refine lv_iload_n C.x C.b dc_J_ntz_75 rfl (lv_at hl 0 rfl) ?_
    refine lv_iconst (v := (nI 1)) C.x C.b dc_J_ntz_76 (by decide +kernel) ?_
    refine lv_iushr (v := nI 1) C.x C.b dc_J_ntz_77 (by decide +kernel) ?_
    refine lv_iadd C.x C.b dc_J_ntz_78 ?_
    refine tp_i (nI_add 3 1) ?_
    rw [hQ]
    exact rt_i C 4 h (⟨by decide +kernel, by decide, ht2⟩) dc_J_ntz_79
  · replace hl : lv_has ls 2 [(0, .int (nI 31))] := hl
    refine lv_iload_n C.x C.b dc_J_ntz_8 rfl (lv_at hl 0 rfl) ?_
    refine bz_gt (tgt := 17) C (by omega) dc_J_ntz_9 (by decide) (fun q9 => ?_) (fun q9 => absurd q9 (by decide))
    refine lv_iconst (v := (nI 1)) C.x C.b dc_J_ntz_17 (by decide +kernel) ?_
    refine lv_istore_n (lv' := [(1, .int (nI 1)), (0, .int (nI 31))]) C.x C.b dc_J_ntz_18 rfl hl (by decide) rfl (fun ls hl => ?_)
    refine lv_iload_n C.x C.b dc_J_ntz_19 rfl (lv_at hl 1 rfl) ?_
    refine lv_ldcw (v := 65536) C.x C.b C.o (C.t _ gw_65536) dc_J_ntz_20 ?_
    refine tp_i (y := nI 65536) (by decide +kernel) ?_
    refine bc_le (tgt := 34) C (by omega) (by omega) dc_J_ntz_23 (by decide) (fun q23 => ?_) (fun q23 => absurd q23 (by decide))
    refine lv_iload_n C.x C.b dc_J_ntz_34 rfl (lv_at hl 1 rfl) ?_
    refine lv_sipush (v := (nI 256)) C.x C.b dc_J_ntz_35 (by decide +kernel) ?_
    refine bc_le (tgt := 49) C (by omega) (by omega) dc_J_ntz_38 (by decide) (fun q38 => ?_) (fun q38 => absurd q38 (by decide))
    refine lv_iload_n C.x C.b dc_J_ntz_49 rfl (lv_at hl 1 rfl) ?_
    refine lv_bipush (v := (nI 16)) C.x C.b dc_J_ntz_50 (by decide +kernel) ?_
    refine bc_le (tgt := 62) C (by omega) (by omega) dc_J_ntz_52 (by decide) (fun q52 => absurd q52 (by decide)) (fun q52 => ?_)
    refine lv_iinc (v := nI 5) (lv' := [(1, .int (nI 5)), (0, .int (nI 31))]) C.x C.b dc_J_ntz_55 hl (k := 0) rfl (by decide +kernel) (by decide) rfl (fun ls hl => ?_)
    refine lv_iload_n C.x C.b dc_J_ntz_58 rfl (lv_at hl 1 rfl) ?_
    refine lv_iconst (v := (nI 4)) C.x C.b dc_J_ntz_59 (by decide +kernel) ?_
    refine lv_iushr (v := nI 1) C.x C.b dc_J_ntz_60 (by decide +kernel) ?_
    refine lv_istore_n (lv' := [(0, .int (nI 1)), (1, .int (nI 5))]) C.x C.b dc_J_ntz_61 rfl hl (by decide) rfl (fun ls hl => ?_)
    refine lv_iload_n C.x C.b dc_J_ntz_62 rfl (lv_at hl 0 rfl) ?_
    refine lv_iconst (v := (nI 4)) C.x C.b dc_J_ntz_63 (by decide +kernel) ?_
    refine bc_le (tgt := 74) C (by omega) (by omega) dc_J_ntz_64 (by decide) (fun q64 => ?_) (fun q64 => absurd q64 (by decide))
    refine lv_iload_n C.x C.b dc_J_ntz_74 rfl (lv_at hl 1 rfl) ?_
    refine lv_iload_n C.x C.b dc_J_ntz_75 rfl (lv_at hl 0 rfl) ?_
    refine lv_iconst (v := (nI 1)) C.x C.b dc_J_ntz_76 (by decide +kernel) ?_
    refine lv_iushr (v := nI 0) C.x C.b dc_J_ntz_77 (by decide +kernel) ?_
    refine lv_iadd C.x C.b dc_J_ntz_78 ?_
    refine tp_i (nI_add 5 0) ?_
    rw [hQ]
    exact rt_i C 5 h (⟨by decide +kernel, by decide, ht2⟩) dc_J_ntz_79
  · replace hl : lv_has ls 2 [(0, .int (nI 63))] := hl
    refine lv_iload_n C.x C.b dc_J_ntz_8 rfl (lv_at hl 0 rfl) ?_
    refine bz_gt (tgt := 17) C (by omega) dc_J_ntz_9 (by decide) (fun q9 => ?_) (fun q9 => absurd q9 (by decide))
    refine lv_iconst (v := (nI 1)) C.x C.b dc_J_ntz_17 (by decide +kernel) ?_
    refine lv_istore_n (lv' := [(1, .int (nI 1)), (0, .int (nI 63))]) C.x C.b dc_J_ntz_18 rfl hl (by decide) rfl (fun ls hl => ?_)
    refine lv_iload_n C.x C.b dc_J_ntz_19 rfl (lv_at hl 1 rfl) ?_
    refine lv_ldcw (v := 65536) C.x C.b C.o (C.t _ gw_65536) dc_J_ntz_20 ?_
    refine tp_i (y := nI 65536) (by decide +kernel) ?_
    refine bc_le (tgt := 34) C (by omega) (by omega) dc_J_ntz_23 (by decide) (fun q23 => ?_) (fun q23 => absurd q23 (by decide))
    refine lv_iload_n C.x C.b dc_J_ntz_34 rfl (lv_at hl 1 rfl) ?_
    refine lv_sipush (v := (nI 256)) C.x C.b dc_J_ntz_35 (by decide +kernel) ?_
    refine bc_le (tgt := 49) C (by omega) (by omega) dc_J_ntz_38 (by decide) (fun q38 => ?_) (fun q38 => absurd q38 (by decide))
    refine lv_iload_n C.x C.b dc_J_ntz_49 rfl (lv_at hl 1 rfl) ?_
    refine lv_bipush (v := (nI 16)) C.x C.b dc_J_ntz_50 (by decide +kernel) ?_
    refine bc_le (tgt := 62) C (by omega) (by omega) dc_J_ntz_52 (by decide) (fun q52 => absurd q52 (by decide)) (fun q52 => ?_)
    refine lv_iinc (v := nI 5) (lv' := [(1, .int (nI 5)), (0, .int (nI 63))]) C.x C.b dc_J_ntz_55 hl (k := 0) rfl (by decide +kernel) (by decide) rfl (fun ls hl => ?_)
    refine lv_iload_n C.x C.b dc_J_ntz_58 rfl (lv_at hl 1 rfl) ?_
    refine lv_iconst (v := (nI 4)) C.x C.b dc_J_ntz_59 (by decide +kernel) ?_
    refine lv_iushr (v := nI 3) C.x C.b dc_J_ntz_60 (by decide +kernel) ?_
    refine lv_istore_n (lv' := [(0, .int (nI 3)), (1, .int (nI 5))]) C.x C.b dc_J_ntz_61 rfl hl (by decide) rfl (fun ls hl => ?_)
    refine lv_iload_n C.x C.b dc_J_ntz_62 rfl (lv_at hl 0 rfl) ?_
    refine lv_iconst (v := (nI 4)) C.x C.b dc_J_ntz_63 (by decide +kernel) ?_
    refine bc_le (tgt := 74) C (by omega) (by omega) dc_J_ntz_64 (by decide) (fun q64 => ?_) (fun q64 => absurd q64 (by decide))
    refine lv_iload_n C.x C.b dc_J_ntz_74 rfl (lv_at hl 1 rfl) ?_
    refine lv_iload_n C.x C.b dc_J_ntz_75 rfl (lv_at hl 0 rfl) ?_
    refine lv_iconst (v := (nI 1)) C.x C.b dc_J_ntz_76 (by decide +kernel) ?_
    refine lv_iushr (v := nI 1) C.x C.b dc_J_ntz_77 (by decide +kernel) ?_
    refine lv_iadd C.x C.b dc_J_ntz_78 ?_
    refine tp_i (nI_add 5 1) ?_
    rw [hQ]
    exact rt_i C 6 h (⟨by decide +kernel, by decide, ht2⟩) dc_J_ntz_79
  · replace hl : lv_has ls 2 [(0, .int (nI 127))] := hl
    refine lv_iload_n C.x C.b dc_J_ntz_8 rfl (lv_at hl 0 rfl) ?_
    refine bz_gt (tgt := 17) C (by omega) dc_J_ntz_9 (by decide) (fun q9 => ?_) (fun q9 => absurd q9 (by decide))
    refine lv_iconst (v := (nI 1)) C.x C.b dc_J_ntz_17 (by decide +kernel) ?_
    refine lv_istore_n (lv' := [(1, .int (nI 1)), (0, .int (nI 127))]) C.x C.b dc_J_ntz_18 rfl hl (by decide) rfl (fun ls hl => ?_)
    refine lv_iload_n C.x C.b dc_J_ntz_19 rfl (lv_at hl 1 rfl) ?_
    refine lv_ldcw (v := 65536) C.x C.b C.o (C.t _ gw_65536) dc_J_ntz_20 ?_
    refine tp_i (y := nI 65536) (by decide +kernel) ?_
    refine bc_le (tgt := 34) C (by omega) (by omega) dc_J_ntz_23 (by decide) (fun q23 => ?_) (fun q23 => absurd q23 (by decide))
    refine lv_iload_n C.x C.b dc_J_ntz_34 rfl (lv_at hl 1 rfl) ?_
    refine lv_sipush (v := (nI 256)) C.x C.b dc_J_ntz_35 (by decide +kernel) ?_
    refine bc_le (tgt := 49) C (by omega) (by omega) dc_J_ntz_38 (by decide) (fun q38 => ?_) (fun q38 => absurd q38 (by decide))
    refine lv_iload_n C.x C.b dc_J_ntz_49 rfl (lv_at hl 1 rfl) ?_
    refine lv_bipush (v := (nI 16)) C.x C.b dc_J_ntz_50 (by decide +kernel) ?_
    refine bc_le (tgt := 62) C (by omega) (by omega) dc_J_ntz_52 (by decide) (fun q52 => absurd q52 (by decide)) (fun q52 => ?_)
    refine lv_iinc (v := nI 5) (lv' := [(1, .int (nI 5)), (0, .int (nI 127))]) C.x C.b dc_J_ntz_55 hl (k := 0) rfl (by decide +kernel) (by decide) rfl (fun ls hl => ?_)
    refine lv_iload_n C.x C.b dc_J_ntz_58 rfl (lv_at hl 1 rfl) ?_
    refine lv_iconst (v := (nI 4)) C.x C.b dc_J_ntz_59 (by decide +kernel) ?_
    refine lv_iushr (v := nI 7) C.x C.b dc_J_ntz_60 (by decide +kernel) ?_
    refine lv_istore_n (lv' := [(0, .int (nI 7)), (1, .int (nI 5))]) C.x C.b dc_J_ntz_61 rfl hl (by decide) rfl (fun ls hl => ?_)
    refine lv_iload_n C.x C.b dc_J_ntz_62 rfl (lv_at hl 0 rfl) ?_
    refine lv_iconst (v := (nI 4)) C.x C.b dc_J_ntz_63 (by decide +kernel) ?_
    refine bc_le (tgt := 74) C (by omega) (by omega) dc_J_ntz_64 (by decide) (fun q64 => absurd q64 (by decide)) (fun q64 => ?_)
    refine lv_iinc (v := nI 7) (lv' := [(1, .int (nI 7)), (0, .int (nI 7))]) C.x C.b dc_J_ntz_67 hl (k := 1) rfl (by decide +kernel) (by decide) rfl (fun ls hl => ?_)
    refine lv_iload_n C.x C.b dc_J_ntz_70 rfl (lv_at hl 1 rfl) ?_
    refine lv_iconst (v := (nI 2)) C.x C.b dc_J_ntz_71 (by decide +kernel) ?_
    refine lv_iushr (v := nI 1) C.x C.b dc_J_ntz_72 (by decide +kernel) ?_
    refine lv_istore_n (lv' := [(0, .int (nI 1)), (1, .int (nI 7))]) C.x C.b dc_J_ntz_73 rfl hl (by decide) rfl (fun ls hl => ?_)
    refine lv_iload_n C.x C.b dc_J_ntz_74 rfl (lv_at hl 1 rfl) ?_
    refine lv_iload_n C.x C.b dc_J_ntz_75 rfl (lv_at hl 0 rfl) ?_
    refine lv_iconst (v := (nI 1)) C.x C.b dc_J_ntz_76 (by decide +kernel) ?_
    refine lv_iushr (v := nI 0) C.x C.b dc_J_ntz_77 (by decide +kernel) ?_
    refine lv_iadd C.x C.b dc_J_ntz_78 ?_
    refine tp_i (nI_add 7 0) ?_
    rw [hQ]
    exact rt_i C 7 h (⟨by decide +kernel, by decide, ht2⟩) dc_J_ntz_79
  · replace hl : lv_has ls 2 [(0, .int (nI 255))] := hl
    refine lv_iload_n C.x C.b dc_J_ntz_8 rfl (lv_at hl 0 rfl) ?_
    refine bz_gt (tgt := 17) C (by omega) dc_J_ntz_9 (by decide) (fun q9 => ?_) (fun q9 => absurd q9 (by decide))
    refine lv_iconst (v := (nI 1)) C.x C.b dc_J_ntz_17 (by decide +kernel) ?_
    refine lv_istore_n (lv' := [(1, .int (nI 1)), (0, .int (nI 255))]) C.x C.b dc_J_ntz_18 rfl hl (by decide) rfl (fun ls hl => ?_)
    refine lv_iload_n C.x C.b dc_J_ntz_19 rfl (lv_at hl 1 rfl) ?_
    refine lv_ldcw (v := 65536) C.x C.b C.o (C.t _ gw_65536) dc_J_ntz_20 ?_
    refine tp_i (y := nI 65536) (by decide +kernel) ?_
    refine bc_le (tgt := 34) C (by omega) (by omega) dc_J_ntz_23 (by decide) (fun q23 => ?_) (fun q23 => absurd q23 (by decide))
    refine lv_iload_n C.x C.b dc_J_ntz_34 rfl (lv_at hl 1 rfl) ?_
    refine lv_sipush (v := (nI 256)) C.x C.b dc_J_ntz_35 (by decide +kernel) ?_
    refine bc_le (tgt := 49) C (by omega) (by omega) dc_J_ntz_38 (by decide) (fun q38 => ?_) (fun q38 => absurd q38 (by decide))
    refine lv_iload_n C.x C.b dc_J_ntz_49 rfl (lv_at hl 1 rfl) ?_
    refine lv_bipush (v := (nI 16)) C.x C.b dc_J_ntz_50 (by decide +kernel) ?_
    refine bc_le (tgt := 62) C (by omega) (by omega) dc_J_ntz_52 (by decide) (fun q52 => absurd q52 (by decide)) (fun q52 => ?_)
    refine lv_iinc (v := nI 5) (lv' := [(1, .int (nI 5)), (0, .int (nI 255))]) C.x C.b dc_J_ntz_55 hl (k := 0) rfl (by decide +kernel) (by decide) rfl (fun ls hl => ?_)
    refine lv_iload_n C.x C.b dc_J_ntz_58 rfl (lv_at hl 1 rfl) ?_
    refine lv_iconst (v := (nI 4)) C.x C.b dc_J_ntz_59 (by decide +kernel) ?_
    refine lv_iushr (v := nI 15) C.x C.b dc_J_ntz_60 (by decide +kernel) ?_
    refine lv_istore_n (lv' := [(0, .int (nI 15)), (1, .int (nI 5))]) C.x C.b dc_J_ntz_61 rfl hl (by decide) rfl (fun ls hl => ?_)
    refine lv_iload_n C.x C.b dc_J_ntz_62 rfl (lv_at hl 0 rfl) ?_
    refine lv_iconst (v := (nI 4)) C.x C.b dc_J_ntz_63 (by decide +kernel) ?_
    refine bc_le (tgt := 74) C (by omega) (by omega) dc_J_ntz_64 (by decide) (fun q64 => absurd q64 (by decide)) (fun q64 => ?_)
    refine lv_iinc (v := nI 7) (lv' := [(1, .int (nI 7)), (0, .int (nI 15))]) C.x C.b dc_J_ntz_67 hl (k := 1) rfl (by decide +kernel) (by decide) rfl (fun ls hl => ?_)
    refine lv_iload_n C.x C.b dc_J_ntz_70 rfl (lv_at hl 1 rfl) ?_
    refine lv_iconst (v := (nI 2)) C.x C.b dc_J_ntz_71 (by decide +kernel) ?_
    refine lv_iushr (v := nI 3) C.x C.b dc_J_ntz_72 (by decide +kernel) ?_
    refine lv_istore_n (lv' := [(0, .int (nI 3)), (1, .int (nI 7))]) C.x C.b dc_J_ntz_73 rfl hl (by decide) rfl (fun ls hl => ?_)
    refine lv_iload_n C.x C.b dc_J_ntz_74 rfl (lv_at hl 1 rfl) ?_
    refine lv_iload_n C.x C.b dc_J_ntz_75 rfl (lv_at hl 0 rfl) ?_
    refine lv_iconst (v := (nI 1)) C.x C.b dc_J_ntz_76 (by decide +kernel) ?_
    refine lv_iushr (v := nI 1) C.x C.b dc_J_ntz_77 (by decide +kernel) ?_
    refine lv_iadd C.x C.b dc_J_ntz_78 ?_
    refine tp_i (nI_add 7 1) ?_
    rw [hQ]
    exact rt_i C 8 h (⟨by decide +kernel, by decide, ht2⟩) dc_J_ntz_79
  · replace hl : lv_has ls 2 [(0, .int (nI 511))] := hl
    refine lv_iload_n C.x C.b dc_J_ntz_8 rfl (lv_at hl 0 rfl) ?_
    refine bz_gt (tgt := 17) C (by omega) dc_J_ntz_9 (by decide) (fun q9 => ?_) (fun q9 => absurd q9 (by decide))
    refine lv_iconst (v := (nI 1)) C.x C.b dc_J_ntz_17 (by decide +kernel) ?_
    refine lv_istore_n (lv' := [(1, .int (nI 1)), (0, .int (nI 511))]) C.x C.b dc_J_ntz_18 rfl hl (by decide) rfl (fun ls hl => ?_)
    refine lv_iload_n C.x C.b dc_J_ntz_19 rfl (lv_at hl 1 rfl) ?_
    refine lv_ldcw (v := 65536) C.x C.b C.o (C.t _ gw_65536) dc_J_ntz_20 ?_
    refine tp_i (y := nI 65536) (by decide +kernel) ?_
    refine bc_le (tgt := 34) C (by omega) (by omega) dc_J_ntz_23 (by decide) (fun q23 => ?_) (fun q23 => absurd q23 (by decide))
    refine lv_iload_n C.x C.b dc_J_ntz_34 rfl (lv_at hl 1 rfl) ?_
    refine lv_sipush (v := (nI 256)) C.x C.b dc_J_ntz_35 (by decide +kernel) ?_
    refine bc_le (tgt := 49) C (by omega) (by omega) dc_J_ntz_38 (by decide) (fun q38 => absurd q38 (by decide)) (fun q38 => ?_)
    refine lv_iinc (v := nI 9) (lv' := [(1, .int (nI 9)), (0, .int (nI 511))]) C.x C.b dc_J_ntz_41 hl (k := 0) rfl (by decide +kernel) (by decide) rfl (fun ls hl => ?_)
    refine lv_iload_n C.x C.b dc_J_ntz_44 rfl (lv_at hl 1 rfl) ?_
    refine lv_bipush (v := (nI 8)) C.x C.b dc_J_ntz_45 (by decide +kernel) ?_
    refine lv_iushr (v := nI 1) C.x C.b dc_J_ntz_47 (by decide +kernel) ?_
    refine lv_istore_n (lv' := [(0, .int (nI 1)), (1, .int (nI 9))]) C.x C.b dc_J_ntz_48 rfl hl (by decide) rfl (fun ls hl => ?_)
    refine lv_iload_n C.x C.b dc_J_ntz_49 rfl (lv_at hl 0 rfl) ?_
    refine lv_bipush (v := (nI 16)) C.x C.b dc_J_ntz_50 (by decide +kernel) ?_
    refine bc_le (tgt := 62) C (by omega) (by omega) dc_J_ntz_52 (by decide) (fun q52 => ?_) (fun q52 => absurd q52 (by decide))
    refine lv_iload_n C.x C.b dc_J_ntz_62 rfl (lv_at hl 0 rfl) ?_
    refine lv_iconst (v := (nI 4)) C.x C.b dc_J_ntz_63 (by decide +kernel) ?_
    refine bc_le (tgt := 74) C (by omega) (by omega) dc_J_ntz_64 (by decide) (fun q64 => ?_) (fun q64 => absurd q64 (by decide))
    refine lv_iload_n C.x C.b dc_J_ntz_74 rfl (lv_at hl 1 rfl) ?_
    refine lv_iload_n C.x C.b dc_J_ntz_75 rfl (lv_at hl 0 rfl) ?_
    refine lv_iconst (v := (nI 1)) C.x C.b dc_J_ntz_76 (by decide +kernel) ?_
    refine lv_iushr (v := nI 0) C.x C.b dc_J_ntz_77 (by decide +kernel) ?_
    refine lv_iadd C.x C.b dc_J_ntz_78 ?_
    refine tp_i (nI_add 9 0) ?_
    rw [hQ]
    exact rt_i C 9 h (⟨by decide +kernel, by decide, ht2⟩) dc_J_ntz_79

abbrev rm_S_begin : Room := { frames := 3, cells := 0, slots := 0, locals := 64 }
set_option maxRecDepth 100000 in
set_option maxHeartbeats 4000000 in
theorem c_S_begin (l : Launch) (Γ : gG) (d : Nat → Nat) (hm : Nat) (mc : va_E) (so : Nat → Nat → Nat) (tl : Nat → Nat → Int64) (tb : Nat → Nat → Nat → Nat) (wr : va_W) (hm2 : Nat) (mc2 : va_E) (M : mM) (hM : mOK d tb mc2 M) (hB : sB so) : cT l Γ my_S_begin bc_S_begin 3 none rm_S_begin [.ref (d 2), .ref hm2] (xW Γ d hm mc so tl tb ((hm2, mc2) :: wr)) (S := Nat → Nat → Nat) (fun v u => v = none ∧ SI M u ∧ u 10 0 = 1 ∧ u 1 0 = M.1 ∧ u 10 1 = 1 ∧ u 10 2 = 0 ∧ u 10 3 = so 10 3) (fun u => xW Γ d hm2 mc2 u tl tb wr) := by
  refine cT.start (by decide) (Nat.le_of_ble_eq_true rfl) (fun p e s m args below meth c ls Q hQ C hmn h hl => ?_)
  replace hl : lv_has ls 3 [(0, .ref (d 2)), (1, .ref hm2)] := hl
  have hB1 := hB.1
  refine lv_iconst (v := (nI 0)) C.x C.b dc_S_begin_0 (by decide +kernel) ?_
  refine lv_istore_n (lv' := [(2, .int (nI 0)), (0, .ref (d 2)), (1, .ref hm2)]) C.x C.b dc_S_begin_1 rfl hl (by decide) rfl (fun ls hl => ?_)
  have hz : ∀ n, n ≠ 0 → so n = so n := fun _ _ => rfl
  have hq : ∀ q, q < 10240 → so 0 q ≠ 0 → ∃ i, 0 ≤ i ∧ i < so 10 0 ∧ so 1 i = q := fun q a b => by obtain ⟨i, x, y⟩ := hB.2.2 q a b; exact ⟨i, by omega, x, y⟩
  have lp_2 : ∀ (n_2 : Nat) (k : Nat) (z : Nat → Nat → Nat) (H : Heap) (locs : List Loc) (ls : Array Slot), so 10 0 - k < n_2 → (k ≤ so 10 0) → (∀ n, n ≠ 0 → z n = so n) → (∀ q, q < 10240 → z 0 q ≠ 0 → ∃ i, k ≤ i ∧ i < so 10 0 ∧ so 1 i = q) → sT Γ s (xW Γ d hm mc z tl tb ((hm2, mc2) :: wr)) H locs → lv_has ls 3 [(2, .int (nI k)), (0, .ref (d 2)), (1, .ref hm2)] → W p l e rm_S_begin s m args below meth c H locs 0 0 Q (F0 m 2 ls []) := by
    intro n_2
    induction n_2 with
    | zero => intro k z H locs ls hms; exact absurd hms (Nat.not_lt_zero _)
    | succ n_2 ih_2 =>
      intro k z H locs ls hms hk hz hq h hl
      have z10 : z 10 0 = so 10 0 := by rw [hz 10 (by decide)]
      have z1 : z 1 = so 1 := hz 1 (by decide)
      refine lv_iload_n C.x C.b dc_S_begin_2 rfl (lv_at hl 0 rfl) ?_
      refine lv_aload_n C.x C.b dc_S_begin_3 rfl (lv_at hl 1 rfl) ?_
      refine rg_get C h 2 rfl rfl in_S 4 (by decide) fl_S_51 rfl dc_S_begin_4 ?_
      refine bc_ge (tgt := 28) C (by omega) (by omega) dc_S_begin_7 (by decide) (fun q7 => ?_) (fun q7 => ?_)
      · refine lv_aload_n C.x C.b dc_S_begin_28 rfl (lv_at hl 1 rfl) ?_
        refine lv_aload_n C.x C.b dc_S_begin_29 rfl (lv_at hl 2 rfl) ?_
        refine rg_put (ty := .object "RestSets$Machine") C h 2 rfl rfl in_S tk_S nm_S 0 (by decide) fl_S_14 rfl (by decide +kernel) rfl rfl (by simp) dc_S_begin_30 (fun H locs h => ?_)
        replace h := xw_mach h
        replace h : sT Γ s (xW Γ d hm2 mc2 z tl tb wr) H locs := h
        refine lv_aload_n C.x C.b dc_S_begin_33 rfl (lv_at hl 1 rfl) ?_
        refine lv_iconst (v := (nI 0)) C.x C.b dc_S_begin_34 (by decide +kernel) ?_
        refine rg_put (ty := .int) C h 2 rfl rfl in_S tk_S nm_S 4 (by decide) fl_S_51 rfl (by decide +kernel) rfl rfl (by simp) dc_S_begin_35 (fun H locs h => ?_)
        obtain ⟨so_1, eso_1⟩ : ∃ zz9, zz9 = us z 10 (us (z 10) 0 0) := ⟨_, rfl⟩
        have xso_1 : so_1 10 0 = 0 ∧ so_1 10 1 = z 10 1 ∧ so_1 10 2 = z 10 2 ∧ so_1 10 3 = z 10 3 := by rw [eso_1, us_s]; exact ⟨us_s _ _ _, us_n _ _ (by decide), us_n _ _ (by decide), us_n _ _ (by decide)⟩
        replace h : sT Γ s (xW Γ d hm2 mc2 so_1 tl tb wr) H locs := by rw [eso_1]; exact h
        refine lv_aload_n C.x C.b dc_S_begin_38 rfl (lv_at hl 1 rfl) ?_
        refine lv_iconst (v := (nI 1)) C.x C.b dc_S_begin_39 (by decide +kernel) ?_
        refine rg_put (ty := .int) C h 2 rfl rfl in_S tk_S nm_S 9 (by decide) fl_S_55 rfl (by decide +kernel) rfl rfl (by simp) dc_S_begin_40 (fun H locs h => ?_)
        obtain ⟨so_2, eso_2⟩ : ∃ zz9, zz9 = us so_1 10 (us (so_1 10) 1 1) := ⟨_, rfl⟩
        have xso_2 : so_2 10 0 = so_1 10 0 ∧ so_2 10 1 = 1 ∧ so_2 10 2 = so_1 10 2 ∧ so_2 10 3 = so_1 10 3 := by rw [eso_2, us_s]; exact ⟨us_n _ _ (by decide), us_s _ _ _, us_n _ _ (by decide), us_n _ _ (by decide)⟩
        replace h : sT Γ s (xW Γ d hm2 mc2 so_2 tl tb wr) H locs := by rw [eso_2]; exact h
        refine lv_aload_n C.x C.b dc_S_begin_43 rfl (lv_at hl 1 rfl) ?_
        refine lv_iconst (v := (nI 0)) C.x C.b dc_S_begin_44 (by decide +kernel) ?_
        refine rg_put (ty := .int) C h 2 rfl rfl in_S tk_S nm_S 11 (by decide) fl_S_58 rfl (by decide +kernel) rfl rfl (by simp) dc_S_begin_45 (fun H locs h => ?_)
        obtain ⟨so_3, eso_3⟩ : ∃ zz9, zz9 = us so_2 10 (us (so_2 10) 2 0) := ⟨_, rfl⟩
        have xso_3 : so_3 10 0 = so_2 10 0 ∧ so_3 10 1 = so_2 10 1 ∧ so_3 10 2 = 0 ∧ so_3 10 3 = so_2 10 3 := by rw [eso_3, us_s]; exact ⟨us_n _ _ (by decide), us_n _ _ (by decide), us_s _ _ _, us_n _ _ (by decide)⟩
        replace h : sT Γ s (xW Γ d hm2 mc2 so_3 tl tb wr) H locs := by rw [eso_3]; exact h
        have hS0 : SI M so_3 := SI.zero (by omega) (by omega) (fun q hq9 => by
          rw [eso_3, us_n _ _ (by decide), eso_2, us_n _ _ (by decide), eso_1, us_n _ _ (by decide)]
          by_cases e : z 0 q = 0
          · exact e
          · obtain ⟨i, x, y, v⟩ := hq q hq9 e; omega)
        have hok := mok_ok hM
        have hs0 : so_3 0 M.1 = 0 := by
          rw [eso_3, us_n _ _ (by decide), eso_2, us_n _ _ (by decide), eso_1, us_n _ _ (by decide)]
          by_cases e : z 0 M.1 = 0
          · exact e
          · obtain ⟨i, x, y, v⟩ := hq _ (hok.2.2 _ hok.1) e; omega
        have h103 : so_3 10 3 = so 10 3 := by rw [xso_3.2.2.2, xso_2.2.2.2, xso_1.2.2.2, hz 10 (by decide)]
        have h12 : so_3 10 1 = 1 ∧ so_3 10 2 = 0 ∧ so_3 10 0 = 0 := by omega
        refine lv_aload_n C.x C.b dc_S_begin_48 rfl (lv_at hl 1 rfl) ?_
        refine lv_aload_n C.x C.b dc_S_begin_49 rfl (lv_at hl 1 rfl) ?_
        refine rg_get C h 2 rfl rfl in_S 0 (by decide) fl_S_14 rfl dc_S_begin_50 ?_
        refine kv_start (rest := [.ref (d 2)]) C h hl.1 hM lk_S_61 (by decide) (by decide) (Nat.le_of_ble_eq_true rfl) dc_S_begin_53 (fun H locs h => ?_)
        refine kv_V (As := [.int (nI (M.1))]) (rest := []) C h hl.1 (c_S_meet l Γ d hm2 mc2 so_3 tl tb wr M (M.1) hM hS0 (hok.2.2 _ hok.1) hok.1 ⟨[], lts_nil, rfl⟩) mw_S_meet lk_S_67 (q0 := 2) rfl rfl rfl (by decide) (by decide) (Nat.le_of_ble_eq_true rfl) dc_S_begin_56 (fun v u H locs hp h => ?_)
        obtain ⟨⟨j_4, so_5⟩, rfl⟩ : ∃ zz9, zz9 = u := ⟨_, rfl⟩
        obtain ⟨rfl, SI_so_5, sE_so_5, lt_j_4, pl_j_4, nw_j_4⟩ := hp
        dsimp only at SI_so_5 sE_so_5 lt_j_4 pl_j_4 nw_j_4
        replace h : sT Γ s (xW Γ d hm2 mc2 so_5 tl tb wr) H locs := h
        refine W.eq (g2 := F0 m 59 ls [.int (nI j_4)]) rfl ?_
        refine lv_pop C.x C.b dc_S_begin_59 rfl ?_
        rw [hQ]
        exact rt_v C so_5 h (⟨rfl, SI_so_5, by have := (nw_j_4 hs0).2; omega, by have e := (nw_j_4 hs0).1; rw [h12.2.2] at e; rw [← e]; exact pl_j_4, by rw [sE_so_5.2.1]; exact h12.1, by rw [sE_so_5.2.2.1]; exact h12.2.1, by rw [sE_so_5.2.2.2.1]; exact h103⟩) dc_S_begin_60
      · refine lv_aload_n C.x C.b dc_S_begin_10 rfl (lv_at hl 1 rfl) ?_
        refine rg_get C h 2 rfl rfl in_S 1 (by decide) fl_S_20 rfl dc_S_begin_11 ?_
        refine lv_aload_n C.x C.b dc_S_begin_14 rfl (lv_at hl 1 rfl) ?_
        refine rg_get C h 2 rfl rfl in_S 2 (by decide) fl_S_24 rfl dc_S_begin_15 ?_
        refine lv_iload_n C.x C.b dc_S_begin_18 rfl (lv_at hl 0 rfl) ?_
        refine rg_ild C h 6 rfl (by omega) (by decide) dc_S_begin_19 ?_
        refine lv_iconst (v := (nI 0)) C.x C.b dc_S_begin_20 (by decide +kernel) ?_
        refine rg_ist C h 5 rfl (by rw [z1]; exact hB.2.1 k (by omega)) (by decide) dc_S_begin_21 (fun H locs h => ?_)
        obtain ⟨so_6, eso_6⟩ : ∃ zz9, zz9 = us z 0 (us (z 0) (z 1 k) 0) := ⟨_, rfl⟩
        have xso_6 : so_6 10 0 = z 10 0 ∧ so_6 10 1 = z 10 1 ∧ so_6 10 2 = z 10 2 ∧ so_6 10 3 = z 10 3 := by rw [eso_6, us_n _ _ (by decide)]; exact ⟨rfl, rfl, rfl, rfl⟩
        replace h : sT Γ s (xW Γ d hm mc so_6 tl tb ((hm2, mc2) :: wr)) H locs := by rw [eso_6]; exact h
        refine lv_iinc (v := nI (k + 1)) (lv' := [(2, .int (nI (k + 1))), (0, .ref (d 2)), (1, .ref hm2)]) C.x C.b dc_S_begin_22 hl (k := 0) rfl (nI_1 k) (by decide) rfl (fun ls hl => ?_)
        refine lv_goto (tgt := 2) C.x C.b dc_S_begin_25 (by decide) ?_
        have hq : ∀ q, q < 10240 → so_6 0 q ≠ 0 → ∃ i, k + 1 ≤ i ∧ i < so 10 0 ∧ so 1 i = q := fun q a b => by
          rw [eso_6, us_s, z1] at b
          by_cases e : q = so 1 k
          · subst e; rw [us_s] at b; exact absurd rfl b
          · rw [us_n _ _ e] at b
            obtain ⟨i, x, y, v⟩ := hq q a b
            exact ⟨i, by have : i ≠ k := fun z => e (by rw [← z, v]); omega, y, v⟩
        have hz : ∀ n, n ≠ 0 → so_6 n = so n := fun n hn => by rw [eso_6, us_n _ _ hn]; exact hz n hn
        exact ih_2 (k + 1) so_6 _ _ _ (by omega) (by first | assumption | omega) (by first | assumption | omega) (by first | assumption | omega) h (lv_sub hl [0, 1, 2] rfl)
  exact lp_2 _ 0 so _ _ _ (Nat.lt_succ_self _) (by first | assumption | omega) (by first | assumption | omega) (by first | assumption | omega) h (lv_sub hl [0, 1, 2] rfl)

abbrev rm_S_meetsAnEnd : Room := { frames := 4, cells := 0, slots := 0, locals := 92 }
set_option maxRecDepth 100000 in
set_option maxHeartbeats 4000000 in
theorem c_S_meetsAnEnd (l : Launch) (Γ : gG) (d : Nat → Nat) (hm : Nat) (mc : va_E) (so : Nat → Nat → Nat) (tl : Nat → Nat → Int64) (tb : Nat → Nat → Nat → Nat) (wr : va_W) (M : mM) (hM : mOK d tb mc M) (hS : SI M so) (h1 : 1 ≤ so 10 0) (hst : so 1 0 = M.1) : cT l Γ my_S_meetsAnEnd bc_S_meetsAnEnd 3 (some .boolean) rm_S_meetsAnEnd [.ref (d 2)] (xW Γ d hm mc so tl tb wr) (S := Bool × (Nat → Nat → Nat)) (fun v u => v = some (.int (bI u.1)) ∧ SI M u.2 ∧ sE so u.2 ∧ (u.1 = true ↔ ∃ w, lts w ∧ macc M M.1 w = true)) (fun u => xW Γ d hm mc u.2 tl tb wr) := by
  refine cT.start (by decide) (Nat.le_of_ble_eq_true rfl) (fun p e s m args below meth c ls Q hQ C hmn h hl => ?_)
  replace hl : lv_has ls 3 [(0, .ref (d 2))] := hl
  refine lv_iconst (v := (nI 0)) C.x C.b dc_S_meetsAnEnd_0 (by decide +kernel) ?_
  refine lv_istore_n (lv' := [(1, .int (nI 0)), (0, .ref (d 2))]) C.x C.b dc_S_meetsAnEnd_1 rfl hl (by decide) rfl (fun ls hl => ?_)
  have SI_z := hS
  have sE_z : sE so so := sE.rf
  have hA : ∀ i, i < 0 → M.2.2.1 (so 1 i) = false ∧ ∀ l, l < 3 → ∃ j, j < so 10 0 ∧ so 1 j = M.2.1 (so 1 i) l := fun i hi => absurd hi (Nat.not_lt_zero _)
  have lp_2 : ∀ (n_2 : Nat) (k : Nat) (z : Nat → Nat → Nat) (H : Heap) (locs : List Loc) (ls : Array Slot), 10240 - k < n_2 → (SI M z) → (sE so z) → (k ≤ z 10 0) → (∀ i, i < k → M.2.2.1 (z 1 i) = false ∧ ∀ l, l < 3 → ∃ j, j < z 10 0 ∧ z 1 j = M.2.1 (z 1 i) l) → sT Γ s (xW Γ d hm mc z tl tb wr) H locs → lv_has ls 3 [(1, .int (nI k)), (0, .ref (d 2))] → W p l e rm_S_meetsAnEnd s m args below meth c H locs 0 0 Q (F0 m 2 ls []) := by
    intro n_2
    induction n_2 with
    | zero => intro k z H locs ls hms; exact absurd hms (Nat.not_lt_zero _)
    | succ n_2 ih_2 =>
      intro k z H locs ls hms SI_z sE_z hk hA h hl
      have hz1 := SI_z.1
      have hz0 : so 10 0 ≤ z 10 0 := sE_z.2.2.2.2.1
      refine lv_iload_n C.x C.b dc_S_meetsAnEnd_2 rfl (lv_at hl 0 rfl) ?_
      refine lv_aload_n C.x C.b dc_S_meetsAnEnd_3 rfl (lv_at hl 1 rfl) ?_
      refine rg_get C h 2 rfl rfl in_S 4 (by decide) fl_S_51 rfl dc_S_meetsAnEnd_4 ?_
      refine bc_ge (tgt := 61) C (by omega) (by omega) dc_S_meetsAnEnd_7 (by decide) (fun q7 => ?_) (fun q7 => ?_)
      · refine lv_iconst (v := (nI 0)) C.x C.b dc_S_meetsAnEnd_61 (by decide +kernel) ?_
        rw [hQ]
        exact rt_z C (false, z) h (⟨rb_f (b := false) rfl, SI_z, sE_z, fun x => (by cases x), fun x => by
          obtain ⟨w, w1, w2⟩ := x
          have e0 : z 1 0 = M.1 := by rw [(sE_z.2.2.2.2.2 0 h1).1]; exact hst
          rw [← e0, none_met (fun i hi => hA i (by omega)) w 0 (by omega) w1] at w2
          cases w2⟩) (by decide +kernel) dc_S_meetsAnEnd_62
      · refine lv_iload_n C.x C.b dc_S_meetsAnEnd_10 rfl (lv_at hl 0 rfl) ?_
        refine lv_sipush (v := (nI 10240)) C.x C.b dc_S_meetsAnEnd_11 (by decide +kernel) ?_
        refine bc_ge (tgt := 61) C (by omega) (by omega) dc_S_meetsAnEnd_14 (by decide) (fun q14 => ?_) (fun q14 => ?_)
        · refine lv_iconst (v := (nI 0)) C.x C.b dc_S_meetsAnEnd_61 (by decide +kernel) ?_
          rw [hQ]
          exact rt_z C (false, z) h (⟨rb_f (b := false) rfl, SI_z, sE_z, fun x => (by cases x), fun x => by
            obtain ⟨w, w1, w2⟩ := x
            have e0 : z 1 0 = M.1 := by rw [(sE_z.2.2.2.2.2 0 h1).1]; exact hst
            rw [← e0, none_met (fun i hi => hA i (by omega)) w 0 (by omega) w1] at w2
            cases w2⟩) (by decide +kernel) dc_S_meetsAnEnd_62
        · refine lv_aload_n C.x C.b dc_S_meetsAnEnd_17 rfl (lv_at hl 1 rfl) ?_
          refine rg_get C h 2 rfl rfl in_S 0 (by decide) fl_S_14 rfl dc_S_meetsAnEnd_18 ?_
          refine lv_aload_n C.x C.b dc_S_meetsAnEnd_21 rfl (lv_at hl 1 rfl) ?_
          refine rg_get C h 2 rfl rfl in_S 2 (by decide) fl_S_24 rfl dc_S_meetsAnEnd_22 ?_
          refine lv_iload_n C.x C.b dc_S_meetsAnEnd_25 rfl (lv_at hl 0 rfl) ?_
          refine rg_ild C h 6 rfl (by omega) (by decide) dc_S_meetsAnEnd_26 ?_
          refine kv_accepts (rest := []) C h hl.1 hM ((SI_z.2.1 k (by omega)).1) lk_S_71 (by decide) (by decide) (Nat.le_of_ble_eq_true rfl) dc_S_meetsAnEnd_27 (fun H locs h => ?_)
          refine bb_eq (tgt := 35) C dc_S_meetsAnEnd_30 (by decide) (fun q30 => ?_) (fun q30 => ?_)
          · refine lv_iconst (v := (nI 0)) C.x C.b dc_S_meetsAnEnd_35 (by decide +kernel) ?_
            refine lv_istore_n (lv' := [(2, .int (nI 0)), (1, .int (nI k)), (0, .ref (d 2))]) C.x C.b dc_S_meetsAnEnd_36 rfl hl (by decide) rfl (fun ls hl => ?_)
            have hB : M.2.2.1 (z 1 k) = false ∧ ∀ l, l < 0 → ∃ j, j < z 10 0 ∧ z 1 j = M.2.1 (z 1 k) l := ⟨q30, fun l hl => absurd hl (Nat.not_lt_zero _)⟩
            have lp_37 : ∀ (n_37 : Nat) (q : Nat) (y : Nat → Nat → Nat) (H : Heap) (locs : List Loc) (ls : Array Slot), 3 - q < n_37 → (q ≤ 3) → (SI M y) → (sE so y) → (k < y 10 0) → (∀ i, i < k → M.2.2.1 (y 1 i) = false ∧ ∀ l, l < 3 → ∃ j, j < y 10 0 ∧ y 1 j = M.2.1 (y 1 i) l) → (M.2.2.1 (y 1 k) = false ∧ ∀ l, l < q → ∃ j, j < y 10 0 ∧ y 1 j = M.2.1 (y 1 k) l) → sT Γ s (xW Γ d hm mc y tl tb wr) H locs → lv_has ls 3 [(2, .int (nI q)), (1, .int (nI k)), (0, .ref (d 2))] → W p l e rm_S_meetsAnEnd s m args below meth c H locs 0 0 Q (F0 m 37 ls []) := by
              intro n_37
              induction n_37 with
              | zero => intro q y H locs ls hms; exact absurd hms (Nat.not_lt_zero _)
              | succ n_37 ih_37 =>
                intro q y H locs ls hms hq SI_y sE_y hky hyA hB h hl
                have hy1 := SI_y.1
                refine lv_iload_n C.x C.b dc_S_meetsAnEnd_37 rfl (lv_at hl 0 rfl) ?_
                refine lv_iconst (v := (nI 3)) C.x C.b dc_S_meetsAnEnd_38 (by decide +kernel) ?_
                refine bc_ge (tgt := 55) C (by omega) (by omega) dc_S_meetsAnEnd_39 (by decide) (fun q39 => ?_) (fun q39 => ?_)
                · refine lv_iinc (v := nI (k + 1)) (lv' := [(1, .int (nI (k + 1))), (2, .int (nI q)), (0, .ref (d 2))]) C.x C.b dc_S_meetsAnEnd_55 hl (k := 1) rfl (nI_1 k) (by decide) rfl (fun ls hl => ?_)
                  refine lv_goto (tgt := 2) C.x C.b dc_S_meetsAnEnd_58 (by decide) ?_
                  have hA : ∀ i, i < (k + 1) → M.2.2.1 (y 1 i) = false ∧ ∀ l, l < 3 → ∃ j, j < y 10 0 ∧ y 1 j = M.2.1 (y 1 i) l := fun i hi => by
                    by_cases e : i = k
                    · subst e; rw [show q = 3 by omega] at hB; exact hB
                    · exact hyA i (by omega)
                  exact ih_2 (k + 1) y _ _ _ (by omega) (by first | exact SI_y | exact SI_z) (by first | exact sE_y | exact sE_z) (by first | assumption | omega) (by first | assumption | omega) h (lv_sub hl [0, 2] rfl)
                · refine lv_aload_n C.x C.b dc_S_meetsAnEnd_42 rfl (lv_at hl 2 rfl) ?_
                  refine lv_iload_n C.x C.b dc_S_meetsAnEnd_43 rfl (lv_at hl 1 rfl) ?_
                  refine lv_iload_n C.x C.b dc_S_meetsAnEnd_44 rfl (lv_at hl 0 rfl) ?_
                  refine kv_V (As := [.int (nI k), .int (nI q)]) (rest := []) C h hl.1 (c_S_follow l Γ d hm mc y tl tb wr M k q hM SI_y (by omega) (by omega)) mw_S_follow lk_S_75 (q0 := 2) rfl rfl rfl (by decide) (by decide) (Nat.le_of_ble_eq_true rfl) dc_S_meetsAnEnd_45 (fun v u H locs hp h => ?_)
                  obtain ⟨⟨j_1, so_2⟩, rfl⟩ : ∃ zz9, zz9 = u := ⟨_, rfl⟩
                  obtain ⟨rfl, SI_so_2, sE_so_2, lt_j_1, pl_j_1, me_j_1, st_j_1⟩ := hp
                  dsimp only at SI_so_2 sE_so_2 lt_j_1 pl_j_1 me_j_1 st_j_1
                  replace h : sT Γ s (xW Γ d hm mc so_2 tl tb wr) H locs := h
                  refine W.eq (g2 := F0 m 48 ls [.int (nI j_1)]) rfl ?_
                  refine lv_pop C.x C.b dc_S_meetsAnEnd_48 rfl ?_
                  refine lv_iinc (v := nI (q + 1)) (lv' := [(2, .int (nI (q + 1))), (1, .int (nI k)), (0, .ref (d 2))]) C.x C.b dc_S_meetsAnEnd_49 hl (k := 0) rfl (nI_1 q) (by decide) rfl (fun ls hl => ?_)
                  refine lv_goto (tgt := 37) C.x C.b dc_S_meetsAnEnd_52 (by decide) ?_
                  have SI_n := SI_so_2
                  have sE_n := sE_y.tr sE_so_2
                  have hyA : ∀ i, i < k → M.2.2.1 (so_2 1 i) = false ∧ ∀ l, l < 3 → ∃ j, j < so_2 10 0 ∧ so_2 1 j = M.2.1 (so_2 1 i) l := fun i hi => by
                    rw [(sE_so_2.2.2.2.2.2 i (by omega)).1]
                    refine ⟨(hyA i hi).1, fun l hl => ?_⟩
                    obtain ⟨j2, x, y2⟩ := (hyA i hi).2 l hl
                    exact ⟨j2, by have := sE_so_2.2.2.2.2.1; omega, by rw [(sE_so_2.2.2.2.2.2 j2 x).1]; exact y2⟩
                  have hB : M.2.2.1 (so_2 1 k) = false ∧ ∀ l, l < (q + 1) → ∃ j, j < so_2 10 0 ∧ so_2 1 j = M.2.1 (so_2 1 k) l := by
                    rw [(sE_so_2.2.2.2.2.2 k (by omega)).1]
                    refine ⟨hB.1, fun l hl => ?_⟩
                    by_cases e : l = q
                    · subst e; exact ⟨j_1, lt_j_1, pl_j_1⟩
                    · obtain ⟨j2, x, y2⟩ := hB.2 l (by omega)
                      exact ⟨j2, by have := sE_so_2.2.2.2.2.1; omega, by rw [(sE_so_2.2.2.2.2.2 j2 x).1]; exact y2⟩
                  exact ih_37 (q + 1) so_2 _ _ _ (by omega) (by first | assumption | omega) (by first | exact SI_n | exact SI_z) (by first | exact sE_n | exact sE_z) (by first | omega | (have := sE_so_2.2.2.2.2.1; omega)) (by first | exact hyA | exact hA) (by first | assumption | omega) h (lv_sub hl [0, 1, 2] rfl)
            exact lp_37 _ 0 z _ _ _ (Nat.lt_succ_self _) (by first | assumption | omega) (by first | exact SI_n | exact SI_z) (by first | exact sE_n | exact sE_z) (by first | omega | (have := sE_so_2.2.2.2.2.1; omega)) (by first | exact hyA | exact hA) (by first | assumption | omega) h (lv_sub hl [0, 1, 2] rfl)
          · refine lv_iconst (v := (nI 1)) C.x C.b dc_S_meetsAnEnd_33 (by decide +kernel) ?_
            rw [hQ]
            exact rt_z C (true, z) h (⟨rb_t (b := true) rfl, SI_z, sE_z, fun _ => by obtain ⟨w, w1, w2⟩ := SI_z.2.2.2.2.2.2 k (by omega); exact ⟨w, w1, by rw [macc, w2]; exact q30⟩, fun _ => rfl⟩) (by decide +kernel) dc_S_meetsAnEnd_34
  exact lp_2 _ 0 so _ _ _ (Nat.lt_succ_self _) (by first | exact SI_y | exact SI_z) (by first | exact sE_y | exact sE_z) (by first | assumption | omega) (by first | assumption | omega) h (lv_sub hl [0, 1] rfl)
end
section
theorem xor_z {a b : Nat} (h : a ^^^ b = 0) : a = b := by
  apply Nat.eq_of_testBit_eq
  intro i
  have e : (a ^^^ b).testBit i = false := by rw [h, Nat.zero_testBit]
  rw [Nat.testBit_xor] at e
  revert e
  cases a.testBit i <;> cases b.testBit i <;> decide
theorem ask_bit {M : mM} {so : Nat → Nat → Nat} {i t : Nat} (h : SI M so) (hi : i < so 10 0) (ha : so 4 i = so 10 1) (ht : t < so 10 1) : (so 3 i).testBit t = macc M (so 1 i) (tW so t t) := by
  obtain ⟨-, -, z⟩ := h.2.2.2.2.2.1 i hi
  obtain ⟨z1, z2⟩ := z t ht
  cases e : macc M (so 1 i) (tW so t t) with
  | true => exact z2 (by omega) e
  | false =>
    cases e2 : (so 3 i).testBit t with
    | false => rfl
    | true => rw [z1 e2] at e; cases e
theorem bits_ne {a b n : Nat} (ha : a < 2 ^ n) (hb : b < 2 ^ n) (h : a ≠ b) : ∃ t, t < n ∧ a.testBit t ≠ b.testBit t := by
  apply Classical.byContradiction
  intro hn
  apply h
  apply Nat.eq_of_testBit_eq
  intro t
  by_cases ht : t < n
  · apply Classical.byContradiction
    intro e
    exact hn ⟨t, ht, e⟩
  · have hp : 2 ^ n ≤ 2 ^ t := Nat.pow_le_pow_right (by decide) (by omega)
    rw [Nat.testBit_lt_two_pow (Nat.lt_of_lt_of_le ha hp), Nat.testBit_lt_two_pow (Nat.lt_of_lt_of_le hb hp)]
theorem tW_lts {M : mM} {so : Nat → Nat → Nat} (h : SI M so) : ∀ n t, t < so 10 1 → lts (tW so n t)
  | 0, _, _ => lts_nil
  | n + 1, t, ht => by
    rw [tW]
    split
    · exact lts_nil
    · obtain ⟨a, b⟩ := h.2.2.2.2.1.2.2 t (by omega) ht
      exact lts_cons a (tW_lts h n _ (by omega))
def KI (M : mM) (so : Nat → Nat → Nat) : Prop :=
  so 10 2 ≤ 10 ∧ (∀ k, k < so 10 2 → so 7 k < so 10 0) ∧ (0 < so 10 2 → so 7 0 = 0) ∧ (so 10 1 ≤ so 10 2 ∨ (so 10 1 = 1 ∧ so 10 2 = 0)) ∧
  ∀ k k', k < k' → k' < so 10 2 → ∃ t, t < so 10 1 ∧ macc M (so 1 (so 7 k)) (tW so t t) ≠ macc M (so 1 (so 7 k')) (tW so t t)
theorem KI.ext {M : mM} {so so' : Nat → Nat → Nat} (e : sE so so') (h : KI M so) : KI M so' := by
  obtain ⟨e1, e2, e3, e4, e5, e6⟩ := e
  have tw : ∀ n t, tW so' n t = tW so n t := tW_eq (e1 5 (by decide) (by decide)) (e1 6 (by decide) (by decide))
  have e7 := e1 7 (by decide) (by decide)
  obtain ⟨h1, h2, h3, h4, h5⟩ := h
  refine ⟨by omega, fun k hk => ?_, fun hk => ?_, by omega, fun k k' a b => ?_⟩
  · rw [e7]; have := h2 k (by omega); omega
  · rw [e7]; exact h3 (by omega)
  · obtain ⟨t, t1, t2⟩ := h5 k k' a (by omega)
    refine ⟨t, by omega, ?_⟩
    rw [e7, tw, (e6 _ (h2 k (by omega))).1, (e6 _ (h2 k' (by omega))).1]
    exact t2
def EA (so : Nat → Nat → Nat) : Prop := ∀ k, k < so 10 2 → so 4 (so 7 k) = so 10 1
theorem EA.ext {M : mM} {so so' : Nat → Nat → Nat} (e : sE so so') (hS : SI M so') (hk : ∀ k, k < so 10 2 → so 7 k < so 10 0) (h : EA so) : EA so' := fun k hk2 => by
  obtain ⟨e1, e2, e3, e4, e5, e6⟩ := e
  have a := hk k (by omega)
  have b := (e6 _ a).2.1
  rw [h k (by omega)] at b
  rw [e1 7 (by decide) (by decide)]
  have c := (hS.2.2.2.2.2.1 (so 7 k) (by omega)).1
  omega
/-- place i is of kind k: it answers as its example does, also behind each of the first q letters -/
def AG (M : mM) (so : Nat → Nat → Nat) (i k q : Nat) : Prop := (∀ t, t < so 10 1 → macc M (so 1 i) (tW so t t) = macc M (so 1 (so 7 k)) (tW so t t)) ∧ ∀ l, l < q → so 2 (i * 3 + l) ≠ 0 ∧ ∀ t, t < so 10 1 → macc M (M.2.1 (so 1 i) l) (tW so t t) = macc M (M.2.1 (so 1 (so 7 k)) l) (tW so t t)
theorem AG.ext {M : mM} {so so' : Nat → Nat → Nat} {i k q : Nat} (e : sE so so') (hi : i < so 10 0) (hk : so 7 k < so 10 0) (hq : q ≤ 3) (h : AG M so i k q) : AG M so' i k q := by
  obtain ⟨e1, e2, e3, e4, e5, e6⟩ := e
  have tw : ∀ n t, tW so' n t = tW so n t := tW_eq (e1 5 (by decide) (by decide)) (e1 6 (by decide) (by decide))
  refine ⟨fun t ht => ?_, fun l hl => ⟨(e6 i hi).2.2.2 l (by omega) (h.2 l hl).1, fun t ht => ?_⟩⟩
  · rw [e1 7 (by decide) (by decide), (e6 i hi).1, (e6 _ hk).1, tw]; exact h.1 t (by omega)
  · rw [e1 7 (by decide) (by decide), (e6 i hi).1, (e6 _ hk).1, tw]; exact (h.2 l hl).2 t (by omega)
def SD (M : mM) (so : Nat → Nat → Nat) (n : Nat) : Prop := ∀ i, i < n → so 4 i = so 10 1 ∧ ∃ k, k < so 10 2 ∧ AG M so i k 3
theorem SD.ext {M : mM} {so so' : Nat → Nat → Nat} {n : Nat} (e : sE so so') (hS : SI M so') (hk : ∀ k, k < so 10 2 → so 7 k < so 10 0) (hn : n ≤ so 10 0) (h : SD M so n) : SD M so' n := fun i hi => by
  obtain ⟨a, k, b, c⟩ := h i hi
  have x := (e.2.2.2.2.2 i (by omega)).2.1
  have y := (hS.2.2.2.2.2.1 i (by have := e.2.2.2.2.1; omega)).1
  exact ⟨by have := e.2.1; omega, k, by have := e.2.2.1; omega, c.ext e (by omega) (hk k b) (Nat.le_refl _)⟩
/-- a kind more -/
theorem SI.ak {M : mM} {so so' : Nat → Nat → Nat} {i : Nat} (r : akR so i so') (h : SI M so) : SI M so' := by
  obtain ⟨r7, r10, rk⟩ := r
  have e0 : so' 10 0 = so 10 0 := by rw [r10, us_n _ _ (by decide)]
  have e1 : so' 10 1 = so 10 1 := by rw [r10, us_n _ _ (by decide)]
  have k : ∀ n, n ≤ 6 → so' n = so n := fun n hn => rk n (by omega) (by omega)
  have tw : ∀ n t, tW so' n t = tW so n t := tW_eq (k 5 (by decide)) (k 6 (by decide))
  unfold SI
  rw [e0, e1, k 0 (by decide), k 1 (by decide), k 2 (by decide), k 3 (by decide), k 4 (by decide), k 5 (by decide), k 6 (by decide)]
  obtain ⟨a1, a2, a3, a4, a5, a6, a7⟩ := h
  refine ⟨a1, a2, a3, a4, a5, fun i hi => ?_, a7⟩
  obtain ⟨x, y, z⟩ := a6 i hi
  exact ⟨x, y, fun t ht => by rw [tw]; exact z t ht⟩
theorem KI.ak {M : mM} {so so' : Nat → Nat → Nat} {i : Nat} (r : akR so i so') (hi : i < so 10 0) (h0 : so 10 2 = 0 → i = 0) (h10 : so 10 2 < 10) (hd : ∀ k, k < so 10 2 → ∃ t, t < so 10 1 ∧ macc M (so 1 (so 7 k)) (tW so t t) ≠ macc M (so 1 i) (tW so t t)) (h : KI M so) : KI M so' := by
  obtain ⟨r7, r10, rk⟩ := r
  have e0 : so' 10 0 = so 10 0 := by rw [r10, us_n _ _ (by decide)]
  have e1 : so' 10 1 = so 10 1 := by rw [r10, us_n _ _ (by decide)]
  have e2 : so' 10 2 = so 10 2 + 1 := by rw [r10, us_s]
  have tw : ∀ n t, tW so' n t = tW so n t := tW_eq (rk 5 (by decide) (by decide)) (rk 6 (by decide) (by decide))
  obtain ⟨h1, h2, h3, h4, h5⟩ := h
  have s7 : ∀ k, k < so 10 2 → so' 7 k = so 7 k := fun k hk => by rw [r7, us_n _ _ (by omega)]
  have n7 : so' 7 (so 10 2) = i := by rw [r7, us_s]
  refine ⟨by omega, fun k hk => ?_, fun _ => ?_, by omega, fun k k' a b => ?_⟩
  · by_cases hk2 : k < so 10 2
    · rw [s7 k hk2, e0]; exact h2 k hk2
    · rw [show k = so 10 2 by omega, n7, e0]; exact hi
  · by_cases hz : so 10 2 = 0
    · rw [← hz, n7, hz]; exact h0 hz
    · rw [s7 0 (by omega)]; exact h3 (by omega)
  · by_cases hk2 : k' < so 10 2
    · obtain ⟨t, t1, t2⟩ := h5 k k' a hk2
      exact ⟨t, by omega, by rw [s7 k (by omega), s7 k' hk2, rk 1 (by decide) (by decide), tw]; exact t2⟩
    · obtain ⟨t, t1, t2⟩ := hd k (by omega)
      exact ⟨t, by omega, by rw [s7 k (by omega), show k' = so 10 2 by omega, n7, rk 1 (by decide) (by decide), tw]; exact t2⟩
theorem EA.ak {so so' : Nat → Nat → Nat} {i : Nat} (r : akR so i so') (hi : so 4 i = so 10 1) (h : EA so) : EA so' := fun k hk => by
  obtain ⟨r7, r10, rk⟩ := r
  have e1 : so' 10 1 = so 10 1 := by rw [r10, us_n _ _ (by decide)]
  have e2 : so' 10 2 = so 10 2 + 1 := by rw [r10, us_s]
  rw [rk 4 (by decide) (by decide), r7, e1]
  by_cases hk2 : k = so 10 2
  · rw [hk2, us_s]; exact hi
  · rw [us_n _ _ hk2]; exact h k (by omega)
theorem SD.ak {M : mM} {so so' : Nat → Nat → Nat} {i n : Nat} (r : akR so i so') (h : SD M so n) : SD M so' n := fun j hj => by
  obtain ⟨r7, r10, rk⟩ := r
  have e1 : so' 10 1 = so 10 1 := by rw [r10, us_n _ _ (by decide)]
  have e2 : so' 10 2 = so 10 2 + 1 := by rw [r10, us_s]
  have tw : ∀ n t, tW so' n t = tW so n t := tW_eq (rk 5 (by decide) (by decide)) (rk 6 (by decide) (by decide))
  obtain ⟨a, k, b, c⟩ := h j hj
  have s7 : so' 7 k = so 7 k := by rw [r7, us_n _ _ (by omega)]
  refine ⟨by rw [rk 4 (by decide) (by decide), e1]; exact a, k, by omega, fun t ht => ?_, fun l hl => ⟨by rw [rk 2 (by decide) (by decide)]; exact (c.2 l hl).1, fun t ht => ?_⟩⟩
  · rw [s7, rk 1 (by decide) (by decide), tw]; exact c.1 t (by omega)
  · rw [s7, rk 1 (by decide) (by decide), tw]; exact (c.2 l hl).2 t (by omega)
/-- eleven words after which the machine goes on differently -/
def MN (M : mM) : Prop := ∃ f : Nat → List Nat, (∀ i, i < 11 → lts (f i)) ∧ ∀ i j, i < j → j < 11 → ∃ w, lts w ∧ macc M M.1 (f i ++ w) ≠ macc M M.1 (f j ++ w)
theorem macc_app (M : mM) (a w : List Nat) : macc M M.1 (a ++ w) = macc M (mrun M M.1 a) w := by rw [macc, macc, mrun_app]
theorem MN.of {M : mM} {so : Nat → Nat → Nat} {i : Nat} (hS : SI M so) (hK : KI M so) (h10 : 10 ≤ so 10 2) (hi : i < so 10 0) (hd : ∀ k, k < so 10 2 → ∃ w, lts w ∧ macc M (so 1 (so 7 k)) w ≠ macc M (so 1 i) w) : MN M := by
  have hr := hS.2.2.2.2.2.2
  have hk : ∀ k, ∃ w, k < 11 → lts w ∧ mrun M M.1 w = so 1 (if k < 10 then so 7 k else i) := fun k => by
    by_cases h : k < 11
    · obtain ⟨w, a, b⟩ := hr (if k < 10 then so 7 k else i) (by split; exact hK.2.1 k (by omega); exact hi)
      exact ⟨w, fun _ => ⟨a, b⟩⟩
    · exact ⟨[], fun z => absurd z h⟩
  obtain ⟨f, hf⟩ : ∃ f : Nat → List Nat, ∀ k, k < 11 → lts (f k) ∧ mrun M M.1 (f k) = so 1 (if k < 10 then so 7 k else i) := ⟨fun k => (hk k).choose, fun k => (hk k).choose_spec⟩
  refine ⟨f, fun k h => (hf k h).1, fun a b hab hb => ?_⟩
  have ea := (hf a (by omega)).2
  have eb := (hf b hb).2
  rw [if_pos (by omega)] at ea
  by_cases hb2 : b < 10
  · rw [if_pos hb2] at eb
    obtain ⟨t, t1, t2⟩ := hK.2.2.2.2 a b hab (by omega)
    exact ⟨tW so t t, tW_lts hS t t t1, by rw [macc_app, macc_app, ea, eb]; exact t2⟩
  · rw [if_neg hb2] at eb
    obtain ⟨w, w1, w2⟩ := hd a (by omega)
    exact ⟨w, w1, by rw [macc_app, macc_app, ea, eb]; exact w2⟩
/-- a test more -/
theorem tW_low {so so' : Nat → Nat → Nat} {T : Nat} (h : ∀ q, q < T → so' 5 q = so 5 q ∧ so' 6 q = so 6 q) (h6 : ∀ q, 1 ≤ q → q < T → so 6 q < q) : ∀ n t, t < T → tW so' n t = tW so n t
  | 0, _, _ => rfl
  | n + 1, t, ht => by
    rw [tW, tW]
    by_cases h0 : t = 0
    · rw [if_pos h0, if_pos h0]
    · rw [if_neg h0, if_neg h0, (h t ht).1, (h t ht).2, tW_low h h6 n _ (by have := h6 t (by omega) ht; omega)]
theorem tW_more {so : Nat → Nat → Nat} {T : Nat} (h6 : ∀ q, 1 ≤ q → q < T → so 6 q < q) : ∀ n t, t < T → t ≤ n → tW so n t = tW so t t := by
  have key : ∀ n m t, t < T → t ≤ n → t ≤ m → tW so n t = tW so m t := by
    intro n
    induction n with
    | zero => intro m t ht hn hm; rw [show t = 0 by omega, tW_0, tW_0]
    | succ n ih =>
      intro m t ht hn hm
      by_cases h0 : t = 0
      · rw [h0, tW_0, tW_0]
      · cases m with
        | zero => omega
        | succ m => rw [tW, tW, if_neg h0, if_neg h0, ih m _ (by have := h6 t (by omega) ht; omega) (by have := h6 t (by omega) ht; omega) (by have := h6 t (by omega) ht; omega)]
  exact fun n t ht hn => key n t t ht hn (Nat.le_refl _)
theorem sp_facts {M : mM} {so so' : Nat → Nat → Nat} {i l t : Nat} (r : spR so i l t so') (h : SI M so) (ht : t < so 10 1) : so' 10 0 = so 10 0 ∧ so' 10 1 = so 10 1 + 1 ∧ so' 10 2 = so 10 2 + 1 ∧ so' 10 3 = so 10 3 ∧ (∀ q, q < so 10 1 → tW so' q q = tW so q q) ∧ tW so' (so 10 1) (so 10 1) = l :: tW so t t := by
  obtain ⟨r7, r10, r5, r6, rk⟩ := r
  have h6 := fun q a b => (h.2.2.2.2.1.2.2 q a b).2
  have low := tW_low (so := so) (so' := so') (T := so 10 1) (fun q hq => ⟨by rw [r5, us_n _ _ (by omega)], by rw [r6, us_n _ _ (by omega)]⟩) h6
  refine ⟨by rw [r10, us_n _ _ (by decide), us_n _ _ (by decide)], by rw [r10, us_s], by rw [r10, us_n _ _ (by decide), us_s], by rw [r10, us_n _ _ (by decide), us_n _ _ (by decide)], fun q hq => low q q hq, ?_⟩
  have h1 := h.2.2.2.2.1.1
  obtain ⟨n, hn⟩ : ∃ n, so 10 1 = n + 1 := ⟨so 10 1 - 1, by omega⟩
  have e5 : so' 5 (so 10 1) = l := by rw [r5, us_s]
  have e6 : so' 6 (so 10 1) = t := by rw [r6, us_s]
  have s : tW so' (so 10 1) (so 10 1) = so' 5 (so 10 1) :: tW so' n (so' 6 (so 10 1)) := by
    generalize so 10 1 = T at *
    subst hn
    rw [tW, if_neg (by omega)]
  rw [s, e5, e6, low n t ht, tW_more h6 n t ht (by omega)]
theorem SI.sp {M : mM} {so so' : Nat → Nat → Nat} {i l t : Nat} (r : spR so i l t so') (hl : l < 3) (ht : t < so 10 1) (h9 : so 10 1 < 10) (h : SI M so) : SI M so' := by
  obtain ⟨f0, f1, f2, f3, f4, f5⟩ := sp_facts r h ht
  obtain ⟨r7, r10, r5, r6, rk⟩ := r
  have k : ∀ n, n ≤ 4 → so' n = so n := fun n hn => rk n (by omega) (by omega) (by omega) (by omega)
  obtain ⟨a1, a2, a3, a4, a5, a6, a7⟩ := h
  unfold SI
  rw [f0, f1, k 0 (by decide), k 1 (by decide), k 2 (by decide), k 3 (by decide), k 4 (by decide)]
  refine ⟨a1, a2, a3, a4, ⟨by omega, by omega, fun q q1 q2 => ?_⟩, fun j hj => ?_, a7⟩
  · by_cases e : q = so 10 1
    · rw [e, r5, us_s, r6, us_s]; exact ⟨hl, ht⟩
    · rw [r5, us_n _ _ e, r6, us_n _ _ e]; exact a5.2.2 q q1 (by omega)
  · obtain ⟨x, y, z⟩ := a6 j hj
    have p2 : 2 ^ so 10 1 < 2 ^ (so 10 1 + 1) := Nat.pow_lt_pow_right (by decide) (by omega)
    refine ⟨by omega, by omega, fun q hq => ?_⟩
    by_cases e : q = so 10 1
    · rw [e, Nat.testBit_lt_two_pow y]
      exact ⟨fun w => (by cases w), fun w => absurd w (by omega)⟩
    · rw [f4 q (by omega)]; exact z q (by omega)
theorem KI.sp {M : mM} {so so' : Nat → Nat → Nat} {i l t : Nat} (r : spR so i l t so') (hS : SI M so) (ht : t < so 10 1) (hi : i < so 10 0) (h1 : 1 ≤ so 10 2) (h10 : so 10 2 < 10) (hd : ∀ k, k < so 10 2 → (∃ q, q < so 10 1 ∧ macc M (so 1 (so 7 k)) (tW so q q) ≠ macc M (so 1 i) (tW so q q)) ∨ macc M (so 1 (so 7 k)) (l :: tW so t t) ≠ macc M (so 1 i) (l :: tW so t t)) (h : KI M so) : KI M so' := by
  obtain ⟨f0, f1, f2, f3, f4, f5⟩ := sp_facts r hS ht
  obtain ⟨r7, r10, r5, r6, rk⟩ := r
  obtain ⟨h1', h2, h3, h4, h5⟩ := h
  have s7 : ∀ k, k < so 10 2 → so' 7 k = so 7 k := fun k hk => by rw [r7, us_n _ _ (by omega)]
  have n7 : so' 7 (so 10 2) = i := by rw [r7, us_s]
  have k1 : so' 1 = so 1 := rk 1 (by decide) (by decide) (by decide) (by decide)
  refine ⟨by omega, fun k hk => ?_, fun _ => ?_, by omega, fun k k' a b => ?_⟩
  · by_cases hk2 : k < so 10 2
    · rw [s7 k hk2, f0]; exact h2 k hk2
    · rw [show k = so 10 2 by omega, n7, f0]; exact hi
  · rw [s7 0 (by omega)]; exact h3 (by omega)
  · by_cases hk2 : k' < so 10 2
    · obtain ⟨q, t1, t2⟩ := h5 k k' a hk2
      exact ⟨q, by omega, by rw [s7 k (by omega), s7 k' hk2, k1, f4 q t1]; exact t2⟩
    · rw [show k' = so 10 2 by omega, n7, s7 k (by omega), k1]
      rcases hd k (by omega) with ⟨q, t1, t2⟩ | z
      · exact ⟨q, by omega, by rw [f4 q t1]; exact t2⟩
      · exact ⟨so 10 1, by omega, by rw [f5]; exact z⟩
end
section
abbrev rm_S_scan : Room := { frames := 5, cells := 0, slots := 0, locals := 117 }
set_option maxRecDepth 100000 in
set_option maxHeartbeats 4000000 in
theorem c_S_scan (l : Launch) (Γ : gG) (d : Nat → Nat) (hm : Nat) (mc : va_E) (so : Nat → Nat → Nat) (tl : Nat → Nat → Int64) (tb : Nat → Nat → Nat → Nat) (wr : va_W) (M : mM) (hM : mOK d tb mc M) (hS : SI M so) (hK : KI M so) (h1 : 1 ≤ so 10 0) (hst : so 1 0 = M.1) : cT l Γ my_S_scan bc_S_scan 6 (some .int) rm_S_scan [.ref (d 2)] (xW Γ d hm mc so tl tb wr) (S := Nat × (Nat → Nat → Nat)) (fun v u => v = some (.int (nI u.1)) ∧ u.1 ≤ 2 ∧ SI M u.2 ∧ u.2 10 3 = so 10 3 ∧ 1 ≤ u.2 10 0 ∧ u.2 1 0 = M.1 ∧ (u.1 = 0 → KI M u.2 ∧ SD M u.2 (u.2 10 0) ∧ 1 ≤ u.2 10 2) ∧ (u.1 = 1 → KI M u.2 ∧ u.2 10 1 = so 10 1 + 1) ∧ (u.1 = 2 → MN M)) (fun u => xW Γ d hm mc u.2 tl tb wr) := by
  refine cT.start (by decide) (Nat.le_of_ble_eq_true rfl) (fun p e s m args below meth c ls Q hQ C hmn h hl => ?_)
  replace hl : lv_has ls 6 [(0, .ref (d 2))] := hl
  have hS1 := hS.1
  have hK10 := hK.1
  refine lv_iconst (v := (nI 0)) C.x C.b dc_S_scan_0 (by decide +kernel) ?_
  refine lv_istore_n (lv' := [(1, .int (nI 0)), (0, .ref (d 2))]) C.x C.b dc_S_scan_1 rfl hl (by decide) rfl (fun ls hl => ?_)
  have SI_z := hS
  have sE_z : sE so so := sE.rf
  have hE : ∀ q, q < 0 → so 4 (so 7 q) = so 10 1 := fun q hq => absurd hq (Nat.not_lt_zero _)
  have lp_2 : ∀ (n_2 : Nat) (k : Nat) (z : Nat → Nat → Nat) (H : Heap) (locs : List Loc) (ls : Array Slot), so 10 2 - k < n_2 → (SI M z) → (sE so z) → (k ≤ so 10 2) → (∀ q, q < k → z 4 (z 7 q) = z 10 1) → sT Γ s (xW Γ d hm mc z tl tb wr) H locs → lv_has ls 6 [(1, .int (nI k)), (0, .ref (d 2))] → W p l e rm_S_scan s m args below meth c H locs 0 0 Q (F0 m 2 ls []) := by
    intro n_2
    induction n_2 with
    | zero => intro k z H locs ls hms; exact absurd hms (Nat.not_lt_zero _)
    | succ n_2 ih_2 =>
      intro k z H locs ls hms SI_z sE_z hk hE h hl
      have hz1 := SI_z.1
      have z0 : so 10 0 ≤ z 10 0 := sE_z.2.2.2.2.1
      have z2 : z 10 2 = so 10 2 := sE_z.2.2.1
      have z7 : z 7 = so 7 := sE_z.1 7 (by decide) (by decide)
      refine lv_iload_n C.x C.b dc_S_scan_2 rfl (lv_at hl 0 rfl) ?_
      refine lv_aload_n C.x C.b dc_S_scan_3 rfl (lv_at hl 1 rfl) ?_
      refine rg_get C h 2 rfl rfl in_S 11 (by decide) fl_S_58 rfl dc_S_scan_4 ?_
      refine bc_ge (tgt := 27) C (by omega) (by omega) dc_S_scan_7 (by decide) (fun q7 => ?_) (fun q7 => ?_)
      · refine lv_iconst (v := (nI 0)) C.x C.b dc_S_scan_27 (by decide +kernel) ?_
        refine lv_istore_n (lv' := [(1, .int (nI 0)), (0, .ref (d 2))]) C.x C.b dc_S_scan_28 rfl hl (by decide) rfl (fun ls hl => ?_)
        have KI_z : KI M z := hK.ext sE_z
        have EA_z : EA z := fun q hq => hE q (by omega)
        have SD_z : SD M z 0 := fun i hi => absurd hi (Nat.not_lt_zero _)
        have hF : z 10 1 = so 10 1 ∧ z 10 3 = so 10 3 ∧ so 10 2 ≤ z 10 2 ∧ 1 ≤ z 10 0 ∧ z 1 0 = M.1 := ⟨sE_z.2.1, sE_z.2.2.2.1, by omega, by omega, by rw [(sE_z.2.2.2.2.2 0 h1).1]; exact hst⟩
        have lp_29 : ∀ (n_29 : Nat) (k : Nat) (z : Nat → Nat → Nat) (H : Heap) (locs : List Loc) (ls : Array Slot), 10240 - k < n_29 → (SI M z) → (KI M z) → (EA z) → (SD M z k) → (k ≤ z 10 0) → (z 10 1 = so 10 1 ∧ z 10 3 = so 10 3 ∧ so 10 2 ≤ z 10 2 ∧ 1 ≤ z 10 0 ∧ z 1 0 = M.1) → sT Γ s (xW Γ d hm mc z tl tb wr) H locs → lv_has ls 6 [(1, .int (nI k)), (0, .ref (d 2))] → W p l e rm_S_scan s m args below meth c H locs 0 0 Q (F0 m 29 ls []) := by
          intro n_29
          induction n_29 with
          | zero => intro k z H locs ls hms; exact absurd hms (Nat.not_lt_zero _)
          | succ n_29 ih_29 =>
            intro k z H locs ls hms SI_z KI_z EA_z SD_z hk hF h hl
            have hz1 := SI_z.1
            have hk10 := KI_z.1
            refine lv_iload_n C.x C.b dc_S_scan_29 rfl (lv_at hl 0 rfl) ?_
            refine lv_aload_n C.x C.b dc_S_scan_30 rfl (lv_at hl 1 rfl) ?_
            refine rg_get C h 2 rfl rfl in_S 4 (by decide) fl_S_51 rfl dc_S_scan_31 ?_
            refine bc_ge (tgt := 142) C (by omega) (by omega) dc_S_scan_34 (by decide) (fun q34 => ?_) (fun q34 => ?_)
            · refine lv_iconst (v := (nI 0)) C.x C.b dc_S_scan_142 (by decide +kernel) ?_
              rw [hQ]
              exact rt_i C (0, z) h (⟨rfl, by show 0 ≤ 2; omega, SI_z, hF.2.1, hF.2.2.2.1, hF.2.2.2.2, fun _ => ⟨KI_z, (by show SD M z (z 10 0); rw [show z 10 0 = k by omega]; exact SD_z), (by obtain ⟨-, k9, hk9, -⟩ := SD_z 0 (by omega); show 1 ≤ z 10 2; omega)⟩, fun e => (by cases e), fun e => (by cases e)⟩) dc_S_scan_143
            · refine lv_iload_n C.x C.b dc_S_scan_37 rfl (lv_at hl 0 rfl) ?_
              refine lv_sipush (v := (nI 10240)) C.x C.b dc_S_scan_38 (by decide +kernel) ?_
              refine bc_ge (tgt := 142) C (by omega) (by omega) dc_S_scan_41 (by decide) (fun q41 => ?_) (fun q41 => ?_)
              · refine lv_iconst (v := (nI 0)) C.x C.b dc_S_scan_142 (by decide +kernel) ?_
                rw [hQ]
                exact rt_i C (0, z) h (⟨rfl, by show 0 ≤ 2; omega, SI_z, hF.2.1, hF.2.2.2.1, hF.2.2.2.2, fun _ => ⟨KI_z, (by show SD M z (z 10 0); rw [show z 10 0 = k by omega]; exact SD_z), (by obtain ⟨-, k9, hk9, -⟩ := SD_z 0 (by omega); show 1 ≤ z 10 2; omega)⟩, fun e => (by cases e), fun e => (by cases e)⟩) dc_S_scan_143
              · have jn_72 : ∀ (kd : Nat) (y : Nat → Nat → Nat) (H : Heap) (locs : List Loc) (ls : Array Slot), (SI M y) → (KI M y) → (EA y) → (SD M y k) → (k < y 10 0) → (y 10 1 = so 10 1 ∧ y 10 3 = so 10 3 ∧ so 10 2 ≤ y 10 2 ∧ 1 ≤ y 10 0 ∧ y 1 0 = M.1) → (kd < y 10 2) → (y 4 k = y 10 1) → (AG M y k kd 0) → sT Γ s (xW Γ d hm mc y tl tb wr) H locs → lv_has ls 6 [(2, .int (nI kd)), (1, .int (nI k)), (0, .ref (d 2))] → W p l e rm_S_scan s m args below meth c H locs 0 0 Q (F0 m 72 ls []) := by
                  intro kd y H locs ls SI_y KI_y EA_y SD_y hky hFy hkd hfk hAG h hl
                  refine lv_iconst (v := (nI 0)) C.x C.b dc_S_scan_72 (by decide +kernel) ?_
                  refine lv_istore_n (lv' := [(3, .int (nI 0)), (2, .int (nI kd)), (1, .int (nI k)), (0, .ref (d 2))]) C.x C.b dc_S_scan_73 rfl hl (by decide) rfl (fun ls hl => ?_)
                  have lp_74 : ∀ (n_74 : Nat) (q : Nat) (y : Nat → Nat → Nat) (H : Heap) (locs : List Loc) (ls : Array Slot), 3 - q < n_74 → (q ≤ 3) → (SI M y) → (KI M y) → (EA y) → (SD M y k) → (k < y 10 0) → (y 10 1 = so 10 1 ∧ y 10 3 = so 10 3 ∧ so 10 2 ≤ y 10 2 ∧ 1 ≤ y 10 0 ∧ y 1 0 = M.1) → (kd < y 10 2) → (y 4 k = y 10 1) → (AG M y k kd q) → sT Γ s (xW Γ d hm mc y tl tb wr) H locs → lv_has ls 6 [(3, .int (nI q)), (2, .int (nI kd)), (1, .int (nI k)), (0, .ref (d 2))] → W p l e rm_S_scan s m args below meth c H locs 0 0 Q (F0 m 74 ls []) := by
                    intro n_74
                    induction n_74 with
                    | zero => intro q y H locs ls hms; exact absurd hms (Nat.not_lt_zero _)
                    | succ n_74 ih_74 =>
                      intro q y H locs ls hms hq SI_y KI_y EA_y SD_y hky hFy hkd hfk hAG h hl
                      have hy1 := SI_y.1
                      have hkx := KI_y.2.1 kd hkd
                      have hy10 := KI_y.1
                      refine lv_iload_n C.x C.b dc_S_scan_74 rfl (lv_at hl 0 rfl) ?_
                      refine lv_iconst (v := (nI 3)) C.x C.b dc_S_scan_75 (by decide +kernel) ?_
                      refine bc_ge (tgt := 136) C (by omega) (by omega) dc_S_scan_76 (by decide) (fun q76 => ?_) (fun q76 => ?_)
                      · refine lv_iinc (v := nI (k + 1)) (lv' := [(1, .int (nI (k + 1))), (3, .int (nI q)), (2, .int (nI kd)), (0, .ref (d 2))]) C.x C.b dc_S_scan_136 hl (k := 2) rfl (nI_1 k) (by decide) rfl (fun ls hl => ?_)
                        refine lv_goto (tgt := 29) C.x C.b dc_S_scan_139 (by decide) ?_
                        have SD_n : SD M y (k + 1) := fun i hi => by
                          by_cases e : i = k
                          · subst e; exact ⟨hfk, kd, hkd, by rw [show q = 3 by omega] at hAG; exact hAG⟩
                          · exact SD_y i (by omega)
                        exact ih_29 (k + 1) y _ _ _ (by omega) (by first | exact SI_y | exact SI_z) (by first | exact KI_y | exact KI_z) (by first | exact EA_y | exact EA_z) (by first | exact SD_n | exact SD_z) (by omega) (by first | exact hFy | exact hF) h (lv_sub hl [0, 3] rfl)
                      · refine lv_aload_n C.x C.b dc_S_scan_79 rfl (lv_at hl 3 rfl) ?_
                        refine lv_aload_n C.x C.b dc_S_scan_80 rfl (lv_at hl 3 rfl) ?_
                        refine lv_iload_n C.x C.b dc_S_scan_81 rfl (lv_at hl 2 rfl) ?_
                        refine lv_iload_n C.x C.b dc_S_scan_82 rfl (lv_at hl 0 rfl) ?_
                        refine kv_V (As := [.int (nI k), .int (nI q)]) (rest := [.ref (d 2)]) C h hl.1 (c_S_follow l Γ d hm mc y tl tb wr M k q hM SI_y hky (by omega)) mw_S_follow lk_S_75 (q0 := 2) rfl rfl rfl (by decide) (by decide) (Nat.le_of_ble_eq_true rfl) dc_S_scan_83 (fun v u H locs hp h => ?_)
                        obtain ⟨⟨j_1, so_2⟩, rfl⟩ : ∃ zz9, zz9 = u := ⟨_, rfl⟩
                        obtain ⟨rfl, SI_so_2, sE_so_2, lt_j_1, pl_j_1, me_j_1, st_j_1⟩ := hp
                        dsimp only at SI_so_2 sE_so_2 lt_j_1 pl_j_1 me_j_1 st_j_1
                        replace h : sT Γ s (xW Γ d hm mc so_2 tl tb wr) H locs := h
                        refine W.eq (g2 := F0 m 86 ls [.int (nI j_1), .ref (d 2)]) rfl ?_
                        refine kv_V (As := [.int (nI j_1)]) (rest := []) C h hl.1 (c_S_askTests l Γ d hm mc so_2 tl tb wr M j_1 hM SI_so_2 lt_j_1) mw_S_askTests lk_S_79 (q0 := 2) rfl rfl rfl (by decide) (by decide) (Nat.le_of_ble_eq_true rfl) dc_S_scan_86 (fun v u H locs hp h => ?_)
                        obtain ⟨so_3, rfl⟩ : ∃ zz9, zz9 = u := ⟨_, rfl⟩
                        obtain ⟨rfl, SI_so_3, sE_so_3, fu_so_3⟩ := hp
                        replace h : sT Γ s (xW Γ d hm mc so_3 tl tb wr) H locs := h
                        refine W.eq (g2 := F0 m 89 ls [.int (nI (so_3 3 j_1))]) rfl ?_
                        refine lv_istore (lv' := [(4, .int (nI (so_3 3 j_1))), (3, .int (nI q)), (2, .int (nI kd)), (1, .int (nI k)), (0, .ref (d 2))]) C.x C.b dc_S_scan_89 hl (by decide) rfl (fun ls hl => ?_)
                        refine lv_aload_n C.x C.b dc_S_scan_91 rfl (lv_at hl 4 rfl) ?_
                        refine lv_aload_n C.x C.b dc_S_scan_92 rfl (lv_at hl 4 rfl) ?_
                        refine lv_aload_n C.x C.b dc_S_scan_93 rfl (lv_at hl 4 rfl) ?_
                        refine rg_get C h 2 rfl rfl in_S 10 (by decide) fl_S_42 rfl dc_S_scan_94 ?_
                        refine lv_iload_n C.x C.b dc_S_scan_97 rfl (lv_at hl 2 rfl) ?_
                        refine rg_ild C h 12 rfl (by omega) (by decide) dc_S_scan_98 ?_
                        refine lv_iload_n C.x C.b dc_S_scan_99 rfl (lv_at hl 1 rfl) ?_
                        refine kv_V (As := [.int (nI (so_3 7 kd)), .int (nI q)]) (rest := [.ref (d 2)]) C h hl.1 (c_S_follow l Γ d hm mc so_3 tl tb wr M (so_3 7 kd) q hM SI_so_3 (by rw [(sE_so_2.tr sE_so_3).1 7 (by decide) (by decide)]; have := (sE_so_2.tr sE_so_3).2.2.2.2.1; omega) (by omega)) mw_S_follow lk_S_75 (q0 := 2) rfl rfl rfl (by decide) (by decide) (Nat.le_of_ble_eq_true rfl) dc_S_scan_100 (fun v u H locs hp h => ?_)
                        obtain ⟨⟨j_4, so_5⟩, rfl⟩ : ∃ zz9, zz9 = u := ⟨_, rfl⟩
                        obtain ⟨rfl, SI_so_5, sE_so_5, lt_j_4, pl_j_4, me_j_4, st_j_4⟩ := hp
                        dsimp only at SI_so_5 sE_so_5 lt_j_4 pl_j_4 me_j_4 st_j_4
                        replace h : sT Γ s (xW Γ d hm mc so_5 tl tb wr) H locs := h
                        refine W.eq (g2 := F0 m 103 ls [.int (nI j_4), .ref (d 2)]) rfl ?_
                        refine kv_V (As := [.int (nI j_4)]) (rest := []) C h hl.1 (c_S_askTests l Γ d hm mc so_5 tl tb wr M j_4 hM SI_so_5 lt_j_4) mw_S_askTests lk_S_79 (q0 := 2) rfl rfl rfl (by decide) (by decide) (Nat.le_of_ble_eq_true rfl) dc_S_scan_103 (fun v u H locs hp h => ?_)
                        obtain ⟨so_6, rfl⟩ : ∃ zz9, zz9 = u := ⟨_, rfl⟩
                        obtain ⟨rfl, SI_so_6, sE_so_6, fu_so_6⟩ := hp
                        replace h : sT Γ s (xW Γ d hm mc so_6 tl tb wr) H locs := h
                        refine W.eq (g2 := F0 m 106 ls [.int (nI (so_6 3 j_4))]) rfl ?_
                        refine lv_istore (lv' := [(5, .int (nI (so_6 3 j_4))), (4, .int (nI (so_3 3 j_1))), (3, .int (nI q)), (2, .int (nI kd)), (1, .int (nI k)), (0, .ref (d 2))]) C.x C.b dc_S_scan_106 hl (by decide) rfl (fun ls hl => ?_)
                        have E12 := sE_so_2.tr sE_so_3
                        have E34 := sE_so_5.tr sE_so_6
                        have E04 := E12.tr E34
                        have SI_4 := SI_so_6
                        have KI_4 : KI M so_6 := KI_y.ext E04
                        have EA_4 : EA so_6 := EA_y.ext E04 SI_4 KI_y.2.1
                        have SD_4 : SD M so_6 k := SD_y.ext E04 SI_4 KI_y.2.1 (by omega)
                        have hk4 : k < so_6 10 0 := by have := E04.2.2.2.2.1; omega
                        have hkd4 : kd < so_6 10 2 := by have := E04.2.2.1; omega
                        have e4t : so_6 10 1 = y 10 1 := E04.2.1
                        have hfk4 : so_6 4 k = so_6 10 1 := by have a := (E04.2.2.2.2.2 k hky).2.1; have b := (SI_4.2.2.2.2.2.1 k hk4).1; omega
                        have hF4 : so_6 10 1 = so 10 1 ∧ so_6 10 3 = so 10 3 ∧ so 10 2 ≤ so_6 10 2 ∧ 1 ≤ so_6 10 0 ∧ so_6 1 0 = M.1 := ⟨e4t.trans hFy.1, E04.2.2.2.1.trans hFy.2.1, by have := E04.2.2.1; omega, by omega, by rw [(E04.2.2.2.2.2 0 (by omega)).1]; exact hFy.2.2.2.2⟩
                        have hAG4 : AG M so_6 k kd q := hAG.ext E04 hky hkx hq
                        have e4k : so_6 1 k = y 1 k := (E04.2.2.2.2.2 k hky).1
                        have e47 : so_6 7 = y 7 := E04.1 7 (by decide) (by decide)
                        have e4x : so_6 1 (y 7 kd) = y 1 (y 7 kd) := (E04.2.2.2.2.2 _ hkx).1
                        have e4tw : ∀ n t, tW so_6 n t = tW y n t := tW_eq (E04.1 5 (by decide) (by decide)) (E04.1 6 (by decide) (by decide))
                        have e2tw : ∀ n t, tW so_3 n t = tW y n t := tW_eq (E12.1 5 (by decide) (by decide)) (E12.1 6 (by decide) (by decide))
                        have hme : so_6 2 (k * 3 + q) ≠ 0 := (E34.2.2.2.2.2 k (by have := E12.2.2.2.2.1; omega)).2.2.2 q (by omega) ((sE_so_3.2.2.2.2.2 k (by have := sE_so_2.2.2.2.2.1; omega)).2.2.2 q (by omega) (by rw [me_j_1]; exact Nat.succ_ne_zero _))
                        have l12 : j_1 < so_3 10 0 := by have := sE_so_3.2.2.2.2.1; omega
                        have l34 : j_4 < so_6 10 0 := by have := sE_so_6.2.2.2.2.1; omega
                        have hhere : ∀ t, t < y 10 1 → (so_3 3 j_1).testBit t = macc M (M.2.1 (y 1 k) q) (tW y t t) := fun t ht => by
                          rw [ask_bit SI_so_3 l12 fu_so_3 (by have := E12.2.1; omega), (sE_so_3.2.2.2.2.2 j_1 lt_j_1).1, pl_j_1, e2tw]
                        have hthere : ∀ t, t < y 10 1 → (so_6 3 j_4).testBit t = macc M (M.2.1 (y 1 (y 7 kd)) q) (tW y t t) := fun t ht => by
                          rw [ask_bit SI_4 l34 fu_so_6 (by omega), (sE_so_6.2.2.2.2.2 j_4 lt_j_4).1, pl_j_4, e4tw, E12.1 7 (by decide) (by decide), (E12.2.2.2.2.2 _ hkx).1]
                        have b2 := (SI_so_3.2.2.2.2.2.1 j_1 l12).2.1
                        have b4 := (SI_4.2.2.2.2.2.1 j_4 l34).2.1
                        have et2 : so_3 10 1 = y 10 1 := E12.2.1
                        have t10 := SI_y.2.2.2.2.1.2.1
                        rw [et2] at b2
                        rw [e4t] at b4
                        have p10 : 2 ^ y 10 1 ≤ 2 ^ 10 := Nat.pow_le_pow_right (by decide) t10
                        refine lv_iload C.x C.b dc_S_scan_108 (lv_at hl 1 rfl) ?_
                        refine lv_iload C.x C.b dc_S_scan_110 (lv_at hl 0 rfl) ?_
                        refine bc_eq (tgt := 130) C (by omega) (by omega) dc_S_scan_112 (by decide) (fun q112 => ?_) (fun q112 => ?_)
                        · refine lv_iinc (v := nI (q + 1)) (lv' := [(3, .int (nI (q + 1))), (5, .int (nI (so_6 3 j_4))), (4, .int (nI (so_3 3 j_1))), (2, .int (nI kd)), (1, .int (nI k)), (0, .ref (d 2))]) C.x C.b dc_S_scan_130 hl (k := 2) rfl (nI_1 q) (by decide) rfl (fun ls hl => ?_)
                          refine lv_goto (tgt := 74) C.x C.b dc_S_scan_133 (by decide) ?_
                          have hAG2 : AG M so_6 k kd (q + 1) := by
                            refine ⟨hAG4.1, fun l hl => ?_⟩
                            by_cases e : l = q
                            · subst e
                              refine ⟨hme, fun t ht => ?_⟩
                              rw [e4k, e47, e4x, e4tw, ← hhere t (by omega), ← hthere t (by omega), q112]
                            · exact hAG4.2 l (by omega)
                          exact ih_74 (q + 1) so_6 _ _ _ (by omega) (by first | assumption | omega) (by first | exact SI_4 | exact SI_y) (by first | exact KI_4 | exact KI_y) (by first | exact EA_4 | exact EA_y) (by first | exact SD_4 | exact SD_y) (by first | exact hk4 | exact hky) (by first | exact hF4 | exact hFy) (by first | exact hkd4 | exact hkd) (by first | exact hfk4 | exact hfk) (by first | exact hAG2 | exact hAG) h (lv_sub hl [0, 3, 4, 5] rfl)
                        · have hx : (so_3 3 j_1) ^^^ (so_6 3 j_4) < 2 ^ y 10 1 := Nat.xor_lt_two_pow b2 b4
                          have hx0 : (so_3 3 j_1) ^^^ (so_6 3 j_4) ≠ 0 := fun e => q112 (xor_z e)
                          refine lv_aload_n C.x C.b dc_S_scan_115 rfl (lv_at hl 5 rfl) ?_
                          refine lv_iload_n C.x C.b dc_S_scan_116 rfl (lv_at hl 4 rfl) ?_
                          refine lv_iload_n C.x C.b dc_S_scan_117 rfl (lv_at hl 2 rfl) ?_
                          refine lv_iload C.x C.b dc_S_scan_118 (lv_at hl 1 rfl) ?_
                          refine lv_iload C.x C.b dc_S_scan_120 (lv_at hl 0 rfl) ?_
                          refine lv_ixor C.x C.b dc_S_scan_122 ?_
                          refine tp_i (nI_xor (so_3 3 j_1) (so_6 3 j_4)) ?_
                          refine kv_S (n := 1) (As := [.int (nI ((so_3 3 j_1) ^^^ (so_6 3 j_4)))]) (rest := [.int (nI q), .int (nI k), .ref (d 2)]) C h hl.1 (c_J_ntz l Γ _ ((so_3 3 j_1) ^^^ (so_6 3 j_4)) (by omega) hx0) mc_J_ntz ms_J_ntz mn_J_ntz lk_S_88 (by decide +kernel) rfl (by decide) (by decide) (Nat.le_of_ble_eq_true rfl) dc_S_scan_123 (fun v u H locs hp h => ?_)
                          obtain ⟨tz_7, rfl⟩ : ∃ zz9, zz9 = u := ⟨_, rfl⟩
                          obtain ⟨rfl, lt_tz_7, tb_tz_7⟩ := hp
                          replace h : sT Γ s (xW Γ d hm mc so_6 tl tb wr) H locs := h
                          refine W.eq (g2 := F0 m 126 ls [.int (nI tz_7), .int (nI q), .int (nI k), .ref (d 2)]) rfl ?_
                          refine kv_V (As := [.int (nI k), .int (nI q), .int (nI tz_7)]) (rest := []) C h hl.1 (c_S_split l Γ d hm mc so_6 tl tb wr k q tz_7 KI_4.1 (by rcases KI_4.2.2.2.1 with z | z <;> omega)) mw_S_split lk_S_93 (q0 := 2) rfl rfl rfl (by decide) (by decide) (Nat.le_of_ble_eq_true rfl) dc_S_scan_126 (fun v u H locs hp h => ?_)
                          obtain ⟨⟨sp_8, so_9⟩, rfl⟩ : ∃ zz9, zz9 = u := ⟨_, rfl⟩
                          obtain ⟨rfl, sp_so_9⟩ := hp
                          dsimp only at sp_so_9
                          replace h : sT Γ s (xW Γ d hm mc so_9 tl tb wr) H locs := h
                          refine W.eq (g2 := F0 m 129 ls [.int (nI sp_8)]) rfl ?_
                          have tzl : tz_7 < y 10 1 := by
                            apply Classical.byContradiction
                            intro e
                            rw [Nat.testBit_lt_two_pow (Nat.lt_of_lt_of_le hx (Nat.pow_le_pow_right (by decide) (by omega)))] at tb_tz_7
                            cases tb_tz_7
                          have hdif : macc M (y 1 k) (q :: tW y tz_7 tz_7) ≠ macc M (y 1 (y 7 kd)) (q :: tW y tz_7 tz_7) := by
                            rw [macc_cons, macc_cons, ← hhere _ tzl, ← hthere _ tzl]
                            intro e
                            rw [Nat.testBit_xor, e, Bool.xor_self] at tb_tz_7
                            cases tb_tz_7
                          have hsep : ∀ k9, k9 < so_6 10 2 → k9 ≠ kd → ∃ t, t < so_6 10 1 ∧ macc M (so_6 1 (so_6 7 k9)) (tW so_6 t t) ≠ macc M (so_6 1 k) (tW so_6 t t) := fun k9 hk9 hne => by
                            have : ∃ t, t < so_6 10 1 ∧ macc M (so_6 1 (so_6 7 k9)) (tW so_6 t t) ≠ macc M (so_6 1 (so_6 7 kd)) (tW so_6 t t) := by
                              rcases Nat.lt_or_gt_of_ne hne with a | a
                              · exact KI_4.2.2.2.2 k9 kd a hkd4
                              · obtain ⟨t, t1, t2⟩ := KI_4.2.2.2.2 kd k9 a hk9
                                exact ⟨t, t1, fun e => t2 e.symm⟩
                            obtain ⟨t, t1, t2⟩ := this
                            exact ⟨t, t1, by rw [hAG4.1 t t1]; exact t2⟩
                          have hres : sp_8 ≤ 2 ∧ SI M so_9 ∧ so_9 10 3 = so 10 3 ∧ 1 ≤ so_9 10 0 ∧ so_9 1 0 = M.1 ∧ (sp_8 = 0 → KI M so_9 ∧ SD M so_9 (so_9 10 0) ∧ 1 ≤ so_9 10 2) ∧ (sp_8 = 1 → KI M so_9 ∧ so_9 10 1 = so 10 1 + 1) ∧ (sp_8 = 2 → MN M) := by
                            rcases sp_so_9 with ⟨a, b, c⟩ | ⟨a, b, c⟩
                            · refine ⟨by omega, by rw [b]; exact SI_4, by rw [b]; exact hF4.2.1, by rw [b]; exact hF4.2.2.2.1, by rw [b]; exact hF4.2.2.2.2, fun e => by omega, fun e => by omega, fun _ => ?_⟩
                              refine MN.of SI_4 KI_4 c hk4 (fun k9 hk9 => ?_)
                              by_cases e : k9 = kd
                              · subst e
                                exact ⟨q :: tW y tz_7 tz_7, lts_cons (by omega) (tW_lts SI_y _ _ tzl), by rw [e4k, e47, e4x]; exact fun z => hdif z.symm⟩
                              · obtain ⟨t, t1, t2⟩ := hsep k9 hk9 e
                                exact ⟨_, tW_lts SI_4 t t t1, t2⟩
                            · obtain ⟨f0, f1, f2, f3, f4, f5⟩ := sp_facts c SI_4 (by omega)
                              have hc1 := c.2.2.2.2 1 (by decide) (by decide) (by decide) (by decide)
                              have ht9 : so_6 10 1 < 10 := by rcases KI_4.2.2.2.1 with z | z <;> omega
                              refine ⟨by omega, SI_4.sp c (by omega) (by omega) ht9, f3.trans hF4.2.1, by omega, by rw [hc1]; exact hF4.2.2.2.2, fun e => by omega, fun _ => ⟨?_, by omega⟩, fun e => by omega⟩
                              refine KI_4.sp c SI_4 (by omega) hk4 (by omega) b (fun k9 hk9 => ?_)
                              by_cases e : k9 = kd
                              · subst e
                                right
                                rw [e4tw, e47, e4x, e4k]
                                exact fun z => hdif z.symm
                              · left
                                exact hsep k9 hk9 e
                          rw [hQ]
                          exact rt_i C (sp_8, so_9) h (⟨rfl, hres⟩) dc_S_scan_129
                  exact lp_74 _ 0 y _ _ _ (Nat.lt_succ_self _) (by first | assumption | omega) (by first | exact SI_4 | exact SI_y) (by first | exact KI_4 | exact KI_y) (by first | exact EA_4 | exact EA_y) (by first | exact SD_4 | exact SD_y) (by first | exact hk4 | exact hky) (by first | exact hF4 | exact hFy) (by first | exact hkd4 | exact hkd) (by first | exact hfk4 | exact hfk) (by first | exact hAG2 | exact hAG) h (lv_sub hl [0, 1, 2, 3] rfl)
                refine lv_aload_n C.x C.b dc_S_scan_44 rfl (lv_at hl 1 rfl) ?_
                refine lv_aload_n C.x C.b dc_S_scan_45 rfl (lv_at hl 1 rfl) ?_
                refine lv_iload_n C.x C.b dc_S_scan_46 rfl (lv_at hl 0 rfl) ?_
                refine kv_V (As := [.int (nI k)]) (rest := [.ref (d 2)]) C h hl.1 (c_S_askTests l Γ d hm mc z tl tb wr M k hM SI_z (by omega)) mw_S_askTests lk_S_79 (q0 := 2) rfl rfl rfl (by decide) (by decide) (Nat.le_of_ble_eq_true rfl) dc_S_scan_47 (fun v u H locs hp h => ?_)
                obtain ⟨so_10, rfl⟩ : ∃ zz9, zz9 = u := ⟨_, rfl⟩
                obtain ⟨rfl, SI_so_10, sE_so_10, fu_so_10⟩ := hp
                replace h : sT Γ s (xW Γ d hm mc so_10 tl tb wr) H locs := h
                refine W.eq (g2 := F0 m 50 ls [.int (nI (so_10 3 k)), .ref (d 2)]) rfl ?_
                refine kv_V (As := [.int (nI (so_10 3 k))]) (rest := []) C h hl.1 (c_S_kindWith l Γ d hm mc so_10 tl tb wr (so_10 3 k) (Nat.lt_of_lt_of_le (SI_so_10.2.2.2.2.2.1 k (by have := sE_so_10.2.2.2.2.1; omega)).2.1 (Nat.pow_le_pow_right (by decide) (by have := SI_so_10.2.2.2.2.1.2.1; omega))) (by have := sE_so_10.2.2.1; omega) (fun k9 hk9 => ⟨by have := (KI_z.ext sE_so_10).2.1 k9 hk9; have := SI_so_10.1; omega, Nat.lt_of_lt_of_le (SI_so_10.2.2.2.2.2.1 _ ((KI_z.ext sE_so_10).2.1 k9 hk9)).2.1 (Nat.pow_le_pow_right (by decide) (by have := SI_so_10.2.2.2.2.1.2.1; omega))⟩)) mw_S_kindWith lk_S_82 (q0 := 2) rfl rfl rfl (by decide) (by decide) (Nat.le_of_ble_eq_true rfl) dc_S_scan_50 (fun v u H locs hp h => ?_)
                obtain ⟨kd_11, rfl⟩ : ∃ zz9, zz9 = u := ⟨_, rfl⟩
                obtain ⟨rfl, le_kd_11, ne_kd_11, eq_kd_11⟩ := hp
                replace h : sT Γ s (xW Γ d hm mc so_10 tl tb wr) H locs := h
                refine W.eq (g2 := F0 m 53 ls [.int (nI kd_11)]) rfl ?_
                refine lv_istore_n (lv' := [(2, .int (nI kd_11)), (1, .int (nI k)), (0, .ref (d 2))]) C.x C.b dc_S_scan_53 rfl hl (by decide) rfl (fun ls hl => ?_)
                have SI_1 := SI_so_10
                have KI_1 : KI M so_10 := KI_z.ext sE_so_10
                have EA_1 : EA so_10 := EA_z.ext sE_so_10 SI_1 KI_z.2.1
                have SD_1 : SD M so_10 k := SD_z.ext sE_so_10 SI_1 KI_z.2.1 hk
                have hk1 : k < so_10 10 0 := by have := sE_so_10.2.2.2.2.1; omega
                have hF1 : so_10 10 1 = so 10 1 ∧ so_10 10 3 = so 10 3 ∧ so 10 2 ≤ so_10 10 2 ∧ 1 ≤ so_10 10 0 ∧ so_10 1 0 = M.1 := ⟨sE_so_10.2.1.trans hF.1, sE_so_10.2.2.2.1.trans hF.2.1, by have := sE_so_10.2.2.1; omega, by omega, by rw [(sE_so_10.2.2.2.2.2 0 (by omega)).1]; exact hF.2.2.2.2⟩
                have hx10 := KI_1.1
                refine lv_iload_n C.x C.b dc_S_scan_54 rfl (lv_at hl 0 rfl) ?_
                refine lv_aload_n C.x C.b dc_S_scan_55 rfl (lv_at hl 2 rfl) ?_
                refine rg_get C h 2 rfl rfl in_S 11 (by decide) fl_S_58 rfl dc_S_scan_56 ?_
                refine bc_ne (tgt := 72) C (by omega) (by omega) dc_S_scan_59 (by decide) (fun q59 => ?_) (fun q59 => ?_)
                · have SI_y := SI_1
                  have KI_y := KI_1
                  have EA_y := EA_1
                  have SD_y := SD_1
                  have hFy := hF1
                  have hkd : kd_11 < so_10 10 2 := by omega
                  have hfk := fu_so_10
                  have hAG : AG M so_10 k kd_11 0 := ⟨fun t ht => by rw [← ask_bit SI_1 hk1 fu_so_10 ht, ← ask_bit SI_1 (KI_1.2.1 _ hkd) (EA_1 _ hkd) ht, eq_kd_11 hkd], fun l hl => absurd hl (Nat.not_lt_zero _)⟩
                  exact jn_72 kd_11 so_10 _ _ _ (by first | assumption | omega) (by first | assumption | omega) (by first | assumption | omega) (by first | assumption | omega) (by first | assumption | omega) (by first | assumption | omega) (by first | assumption | omega) (by first | assumption | omega) (by first | assumption | omega) h (lv_sub hl [0, 1, 2] rfl)
                · refine lv_aload_n C.x C.b dc_S_scan_62 rfl (lv_at hl 2 rfl) ?_
                  refine lv_iload_n C.x C.b dc_S_scan_63 rfl (lv_at hl 1 rfl) ?_
                  refine kv_V (As := [.int (nI k)]) (rest := []) C h hl.1 (c_S_addKind l Γ d hm mc so_10 tl tb wr k hx10) mw_S_addKind lk_S_85 (q0 := 2) rfl rfl rfl (by decide) (by decide) (Nat.le_of_ble_eq_true rfl) dc_S_scan_64 (fun v u H locs hp h => ?_)
                  obtain ⟨⟨ok_12, so_13⟩, rfl⟩ : ∃ zz9, zz9 = u := ⟨_, rfl⟩
                  obtain ⟨rfl, ak_so_13⟩ := hp
                  dsimp only at ak_so_13
                  replace h : sT Γ s (xW Γ d hm mc so_13 tl tb wr) H locs := h
                  refine W.eq (g2 := F0 m 67 ls [.int (bI ok_12)]) rfl ?_
                  refine bb_ne (tgt := 72) C dc_S_scan_67 (by decide) (fun q67 => ?_) (fun q67 => ?_)
                  · obtain ⟨-, hlt9, hak⟩ := ak_so_13.resolve_left (fun w => by rw [q67] at w; cases w.1)
                    have ey : so_13 10 0 = so_10 10 0 ∧ so_13 10 1 = so_10 10 1 ∧ so_13 10 2 = so_10 10 2 + 1 ∧ so_13 10 3 = so_10 10 3 := by rw [hak.2.1]; exact ⟨us_n _ _ (by decide), us_n _ _ (by decide), us_s _ _ _, us_n _ _ (by decide)⟩
                    have SI_y := SI_1.ak hak
                    have KI_y := KI_1.ak hak hk1 (fun e0 => by
                      have hk0 : k = 0 := by
                        apply Classical.byContradiction
                        intro hk0
                        obtain ⟨-, k9, hk9, -⟩ := SD_1 0 (by omega)
                        omega
                      exact hk0) (by omega) (fun k9 hk9 => by
                      obtain ⟨t, t1, t2⟩ := bits_ne (SI_1.2.2.2.2.2.1 (so_10 7 k9) (KI_1.2.1 k9 hk9)).2.1 (SI_1.2.2.2.2.2.1 k hk1).2.1 (ne_kd_11 k9 (by omega))
                      rw [ask_bit SI_1 (KI_1.2.1 k9 hk9) (EA_1 k9 hk9) t1, ask_bit SI_1 hk1 fu_so_10 t1] at t2
                      exact ⟨t, t1, t2⟩)
                    have EA_y := EA_1.ak hak fu_so_10
                    have SD_y := SD_1.ak hak
                    have hky : k < so_13 10 0 := by omega
                    have hkd : kd_11 < so_13 10 2 := by omega
                    have hfk : so_13 4 k = so_13 10 1 := by rw [hak.2.2 4 (by decide) (by decide), ey.2.1]; exact fu_so_10
                    have hFy : so_13 10 1 = so 10 1 ∧ so_13 10 3 = so 10 3 ∧ so 10 2 ≤ so_13 10 2 ∧ 1 ≤ so_13 10 0 ∧ so_13 1 0 = M.1 := ⟨ey.2.1.trans hF1.1, ey.2.2.2.trans hF1.2.1, by omega, by omega, by rw [hak.2.2 1 (by decide) (by decide)]; exact hF1.2.2.2.2⟩
                    have hAG : AG M so_13 k kd_11 0 := ⟨fun t _ => by rw [hak.1, show kd_11 = so_10 10 2 by omega, us_s], fun l hl => absurd hl (Nat.not_lt_zero _)⟩
                    exact jn_72 kd_11 so_13 _ _ _ (by first | assumption | omega) (by first | assumption | omega) (by first | assumption | omega) (by first | assumption | omega) (by first | assumption | omega) (by first | assumption | omega) (by first | assumption | omega) (by first | assumption | omega) (by first | assumption | omega) h (lv_sub hl [0, 1, 2] rfl)
                  · refine lv_iconst (v := (nI 2)) C.x C.b dc_S_scan_70 (by decide +kernel) ?_
                    have hk9 := ak_so_13.resolve_right (fun w => by rw [q67] at w; cases w.1)
                    rw [hQ]
                    exact rt_i C (2, so_13) h (⟨rfl, by show 2 ≤ 2; omega, by show SI M so_13; rw [hk9.2.1]; exact SI_1, by show so_13 10 3 = _; rw [hk9.2.1]; exact hF1.2.1, by show 1 ≤ so_13 10 0; rw [hk9.2.1]; exact hF1.2.2.2.1, by show so_13 1 0 = _; rw [hk9.2.1]; exact hF1.2.2.2.2, fun e => (by cases e), fun e => (by cases e), fun _ => MN.of SI_1 KI_1 hk9.2.2 hk1 (fun k9 hk9b => by
                      obtain ⟨t, t1, t2⟩ := bits_ne (SI_1.2.2.2.2.2.1 (so_10 7 k9) (KI_1.2.1 k9 hk9b)).2.1 (SI_1.2.2.2.2.2.1 k hk1).2.1 (ne_kd_11 k9 (by omega))
                      rw [ask_bit SI_1 (KI_1.2.1 k9 hk9b) (EA_1 k9 hk9b) t1, ask_bit SI_1 hk1 fu_so_10 t1] at t2
                      exact ⟨_, tW_lts SI_1 t t t1, t2⟩)⟩) dc_S_scan_71
        exact lp_29 _ 0 z _ _ _ (Nat.lt_succ_self _) (by first | exact SI_y | exact SI_z) (by first | exact KI_y | exact KI_z) (by first | exact EA_y | exact EA_z) (by first | exact SD_n | exact SD_z) (by omega) (by first | exact hFy | exact hF) h (lv_sub hl [0, 1] rfl)
      · refine lv_aload_n C.x C.b dc_S_scan_10 rfl (lv_at hl 1 rfl) ?_
        refine lv_aload_n C.x C.b dc_S_scan_11 rfl (lv_at hl 1 rfl) ?_
        refine rg_get C h 2 rfl rfl in_S 10 (by decide) fl_S_42 rfl dc_S_scan_12 ?_
        refine lv_iload_n C.x C.b dc_S_scan_15 rfl (lv_at hl 0 rfl) ?_
        refine rg_ild C h 12 rfl (by omega) (by decide) dc_S_scan_16 ?_
        refine kv_V (As := [.int (nI (z 7 k))]) (rest := []) C h hl.1 (c_S_askTests l Γ d hm mc z tl tb wr M (z 7 k) hM SI_z (by rw [z7]; have := hK.2.1 k (by omega); omega)) mw_S_askTests lk_S_79 (q0 := 2) rfl rfl rfl (by decide) (by decide) (Nat.le_of_ble_eq_true rfl) dc_S_scan_17 (fun v u H locs hp h => ?_)
        obtain ⟨so_14, rfl⟩ : ∃ zz9, zz9 = u := ⟨_, rfl⟩
        obtain ⟨rfl, SI_so_14, sE_so_14, fu_so_14⟩ := hp
        replace h : sT Γ s (xW Γ d hm mc so_14 tl tb wr) H locs := h
        refine W.eq (g2 := F0 m 20 ls [.int (nI (so_14 3 (z 7 k)))]) rfl ?_
        refine lv_pop C.x C.b dc_S_scan_20 rfl ?_
        refine lv_iinc (v := nI (k + 1)) (lv' := [(1, .int (nI (k + 1))), (0, .ref (d 2))]) C.x C.b dc_S_scan_21 hl (k := 0) rfl (nI_1 k) (by decide) rfl (fun ls hl => ?_)
        refine lv_goto (tgt := 2) C.x C.b dc_S_scan_24 (by decide) ?_
        have SI_n := SI_so_14
        have sE_n := sE_z.tr sE_so_14
        have hE : ∀ q, q < k + 1 → so_14 4 (so_14 7 q) = so_14 10 1 := fun q hq => by
          rw [sE_n.1 7 (by decide) (by decide), ← sE_z.1 7 (by decide) (by decide)]
          by_cases e : q = k
          · subst e; exact fu_so_14
          · have a := hE q (by omega)
            have b := (sE_so_14.2.2.2.2.2 (z 7 q) (by rw [z7]; have := hK.2.1 q (by omega); omega)).2.1
            have c := (SI_so_14.2.2.2.2.2.1 (z 7 q) (by rw [z7]; have := hK.2.1 q (by omega); have := sE_so_14.2.2.2.2.1; omega)).1
            have := sE_so_14.2.1
            omega
        exact ih_2 (k + 1) so_14 _ _ _ (by omega) (by first | exact SI_n | exact SI_z) (by first | exact sE_n | exact sE_z) (by first | assumption | omega) (by first | assumption | omega) h (lv_sub hl [0, 1] rfl)
  exact lp_2 _ 0 so _ _ _ (Nat.lt_succ_self _) (by first | exact SI_n | exact SI_z) (by first | exact sE_n | exact sE_z) (by first | assumption | omega) (by first | assumption | omega) h (lv_sub hl [0, 1] rfl)
end
section
/-! writing a table -/
/-- behind letter l the kind k goes on as kind k2 -/
def KS (M : mM) (so : Nat → Nat → Nat) (k l k2 : Nat) : Prop := k2 < so 10 2 ∧ ∀ t, t < so 10 1 → macc M (M.2.1 (so 1 (so 7 k)) l) (tW so t t) = macc M (so 1 (so 7 k2)) (tW so t t)
def WI (M : mM) (so z : Nat → Nat → Nat) (nx : Nat → Nat) (E m p b : Nat) : Prop :=
  (∀ k, k ≠ 8 → k ≠ 9 → z k = so k) ∧
  (1 ≤ m ∧ m ≤ so 10 2 ∧ z 9 0 = 0) ∧
  (∀ j, j < m → z 9 j < so 10 2 ∧ z 8 (z 9 j) = j) ∧
  (∀ k, k < so 10 2 → z 8 k = so 10 2 ∨ (z 8 k < m ∧ z 9 (z 8 k) = k)) ∧
  (∀ i, i < p → nx i < m ∧ KS M so (z 9 (i / 3)) (i % 3) (z 9 (nx i))) ∧
  (∀ v, 1 ≤ v → v < m → ∃ i, i < p ∧ nx i = v) ∧
  (∀ i v, i < p → v < nx i → v = 0 ∨ ∃ j, j < i ∧ nx j = v) ∧
  (∀ j, 1 ≤ j → j < b → ∃ i, i < 3 * j ∧ nx i = j) ∧
  (E < 2 ^ b ∧ ∀ r, r < b → E.testBit r = M.2.2.1 (so 1 (so 7 (z 9 r))))
theorem WI.init {M : mM} {so z : Nat → Nat → Nat} {nx : Nat → Nat} (h1 : 1 ≤ so 10 2) (hz : ∀ k, k ≠ 8 → k ≠ 9 → z k = so k) (h9 : z 9 0 = 0) (h80 : z 8 0 = 0) (h8 : ∀ k, 1 ≤ k → k < so 10 2 → z 8 k = so 10 2) : WI M so z nx 0 1 0 0 := by
  refine ⟨hz, ⟨by omega, h1, h9⟩, fun j hj => ?_, fun k hk => ?_, fun i hi => absurd hi (Nat.not_lt_zero _), fun v a b => by omega, fun i v hi => absurd hi (Nat.not_lt_zero _), fun j a b => by omega, by decide, fun r hr => absurd hr (Nat.not_lt_zero _)⟩
  · rw [show j = 0 by omega, h9, h80]; exact ⟨by omega, rfl⟩
  · by_cases hk0 : k = 0
    · right; rw [hk0, h80, h9]; exact ⟨by omega, rfl⟩
    · left; exact h8 k (by omega) hk
theorem WI.row {M : mM} {so z : Nat → Nat → Nat} {nx : Nat → Nat} {E m r v : Nat} (h : WI M so z nx E m (3 * r) r) (hr : r < m) (hv : v = (M.2.2.1 (so 1 (so 7 (z 9 r)))).toNat) : WI M so z nx (E ||| v * 2 ^ r) m (3 * r + 0) (r + 1) := by
  obtain ⟨a1, a2, a3, a4, a5, a6, a7, a8, a9, a10⟩ := h
  have hv2 : v * 2 ^ r < 2 ^ (r + 1) := by
    rw [hv, Nat.pow_succ]
    cases M.2.2.1 (so 1 (so 7 (z 9 r))) <;> simp <;> have := Nat.two_pow_pos r <;> omega
  refine ⟨a1, a2, a3, a4, a5, a6, a7, fun j j1 j2 => ?_, Nat.or_lt_two_pow (Nat.lt_of_lt_of_le a9 (Nat.pow_le_pow_right (by decide) (by omega))) hv2, fun q hq => ?_⟩
  · by_cases e : j = r
    · subst e; exact a6 j j1 hr
    · exact a8 j j1 (by omega)
  · rw [Nat.testBit_or]
    by_cases e : q = r
    · subst e
      rw [Nat.testBit_lt_two_pow a9, hv, Bool.false_or]
      cases M.2.2.1 (so 1 (so 7 (z 9 q)))
      · simp
      · simp [Nat.testBit_two_pow]
    · rw [a10 q (by omega), hv]
      cases M.2.2.1 (so 1 (so 7 (z 9 r)))
      · simp
      · simp [Nat.testBit_two_pow]; omega
theorem KS.z9 {M : mM} {so : Nat → Nat → Nat} {a b l k : Nat} (e : a = b) (h : KS M so a l k) : KS M so b l k := e ▸ h
/-- a kind that has its number -/
theorem WI.old {M : mM} {so z : Nat → Nat → Nat} {nx nx2 : Nat → Nat} {E m r q k : Nat} (h : WI M so z nx E m (3 * r + q) (r + 1)) (hq : q < 3) (hK : KS M so (z 9 r) q k) (h8 : z 8 k ≠ so 10 2) (hn : nx2 = us nx (r * 3 + q) (z 8 k)) : WI M so z nx2 E m (3 * r + (q + 1)) (r + 1) := by
  obtain ⟨a1, a2, a3, a4, a5, a6, a7, a8, a9⟩ := h
  obtain ⟨b1, b2⟩ := (a4 k hK.1).resolve_left h8
  have low : ∀ i, i < 3 * r + q → nx2 i = nx i := fun i hi => by rw [hn, us_n _ _ (by omega)]
  have at_ : nx2 (3 * r + q) = z 8 k := by rw [hn, show 3 * r + q = r * 3 + q by omega, us_s]
  refine ⟨a1, a2, a3, a4, fun i hi => ?_, fun v v1 v2 => ?_, fun i v hi hv => ?_, fun j j1 j2 => ?_, a9⟩
  · by_cases e : i = 3 * r + q
    · subst e
      rw [at_, b2, show (3 * r + q) / 3 = r by omega, show (3 * r + q) % 3 = q by omega]
      exact ⟨b1, hK⟩
    · rw [low i (by omega)]; exact a5 i (by omega)
  · obtain ⟨i, i1, i2⟩ := a6 v v1 v2
    exact ⟨i, by omega, by rw [low i i1]; exact i2⟩
  · by_cases e : i = 3 * r + q
    · subst e
      rw [at_] at hv
      by_cases hv0 : v = 0
      · exact Or.inl hv0
      · obtain ⟨j, j1, j2⟩ := a6 v (by omega) (by omega)
        exact Or.inr ⟨j, j1, by rw [low j j1]; exact j2⟩
    · rw [low i (by omega)] at hv
      rcases a7 i v (by omega) hv with z | ⟨j, j1, j2⟩
      · exact Or.inl z
      · exact Or.inr ⟨j, j1, by rw [low j (by omega)]; exact j2⟩
  · obtain ⟨i, i1, i2⟩ := a8 j j1 j2
    exact ⟨i, i1, by rw [low i (by omega)]; exact i2⟩
theorem WI.lt {M : mM} {so z : Nat → Nat → Nat} {nx : Nat → Nat} {E m p b k : Nat} (h : WI M so z nx E m p b) (hk : k < so 10 2) (h8 : z 8 k = so 10 2) : m < so 10 2 := by
  obtain ⟨a1, a2, a3, a4, -⟩ := h
  have := pig (so 10 2) (m + 1) (fun j => if j < m then z 9 j else k) (fun i hi => by
    split
    · rename_i c; exact (a3 i c).1
    · exact hk) (fun i j hi hj e => by
    split at e <;> split at e
    · rename_i c d
      have x := (a3 i c).2; have y := (a3 j d).2
      rw [e] at x; omega
    · rename_i c d
      have x := (a3 i c).2
      rw [e] at x; omega
    · rename_i c d
      have x := (a3 j d).2
      rw [← e] at x; omega
    · omega)
  omega
/-- a kind that gets the next number -/
theorem WI.new {M : mM} {so z z2 : Nat → Nat → Nat} {nx nx2 : Nat → Nat} {E m r q k : Nat} (h : WI M so z nx E m (3 * r + q) (r + 1)) (hr : r < m) (hq : q < 3) (hK : KS M so (z 9 r) q k) (h8 : z 8 k = so 10 2) (hz8 : z2 8 = us (z 8) k m) (hz9 : z2 9 = us (z 9) m k) (hzk : ∀ n, n ≠ 8 → n ≠ 9 → z2 n = z n) (hn : nx2 = us nx (r * 3 + q) m) : WI M so z2 nx2 E (m + 1) (3 * r + (q + 1)) (r + 1) := by
  have hlt := h.lt hK.1 h8
  obtain ⟨a1, a2, a3, a4, a5, a6, a7, a8, a9, a10⟩ := h
  have low : ∀ i, i < 3 * r + q → nx2 i = nx i := fun i hi => by rw [hn, us_n _ _ (by omega)]
  have at_ : nx2 (3 * r + q) = m := by rw [hn, show 3 * r + q = r * 3 + q by omega, us_s]
  have z9l : ∀ j, j < m → z2 9 j = z 9 j := fun j hj => by rw [hz9, us_n _ _ (by omega)]
  have z9m : z2 9 m = k := by rw [hz9, us_s]
  refine ⟨fun n n8 n9 => (hzk n n8 n9).trans (a1 n n8 n9), ⟨by omega, by omega, by rw [z9l 0 (by omega)]; exact a2.2.2⟩, fun j hj => ?_, fun k2 hk2 => ?_, fun i hi => ?_, fun v v1 v2 => ?_, fun i v hi hv => ?_, fun j j1 j2 => ?_, a9, fun r2 hr2 => ?_⟩
  · by_cases e : j = m
    · subst e; rw [z9m, hz8, us_s]; exact ⟨hK.1, rfl⟩
    · obtain ⟨x, y⟩ := a3 j (by omega)
      rw [z9l j (by omega), hz8, us_n _ _ (fun e2 => by rw [e2] at y; omega)]
      exact ⟨x, y⟩
  · rw [hz8]
    by_cases e : k2 = k
    · subst e; right; rw [us_s, z9m]; exact ⟨by omega, rfl⟩
    · rw [us_n _ _ e]
      rcases a4 k2 hk2 with x | ⟨x, y⟩
      · exact Or.inl x
      · right; rw [z9l _ x]; exact ⟨by omega, y⟩
  · by_cases e : i = 3 * r + q
    · subst e
      rw [at_, z9m, show (3 * r + q) / 3 = r by omega, show (3 * r + q) % 3 = q by omega, z9l r hr]
      exact ⟨by omega, hK⟩
    · obtain ⟨x, y⟩ := a5 i (by omega)
      rw [low i (by omega), z9l _ x, z9l (i / 3) (by omega)]
      exact ⟨by omega, y⟩
  · by_cases e : v = m
    · subst e; exact ⟨3 * r + q, by omega, at_⟩
    · obtain ⟨i, i1, i2⟩ := a6 v v1 (by omega)
      exact ⟨i, by omega, by rw [low i i1]; exact i2⟩
  · by_cases e : i = 3 * r + q
    · subst e
      rw [at_] at hv
      by_cases hv0 : v = 0
      · exact Or.inl hv0
      · obtain ⟨j, j1, j2⟩ := a6 v (by omega) hv
        exact Or.inr ⟨j, j1, by rw [low j j1]; exact j2⟩
    · rw [low i (by omega)] at hv
      rcases a7 i v (by omega) hv with z | ⟨j, j1, j2⟩
      · exact Or.inl z
      · exact Or.inr ⟨j, j1, by rw [low j (by omega)]; exact j2⟩
  · obtain ⟨i, i1, i2⟩ := a8 j j1 j2
    exact ⟨i, i1, by rw [low i (by omega)]; exact i2⟩
  · rw [z9l r2 (by omega)]; exact a10 r2 hr2
/-- a place's kind by its answers -/
theorem SD.kind {M : mM} {so : Nat → Nat → Nat} (hS : SI M so) (hK : KI M so) (hD : SD M so (so 10 0)) {i : Nat} (hi : i < so 10 0) : ∃ k, k < so 10 2 ∧ AG M so i k 3 ∧ so 3 i = so 3 (so 7 k) := by
  obtain ⟨a, k, b, c⟩ := hD i hi
  refine ⟨k, b, c, ?_⟩
  have hk := hK.2.1 k b
  apply Classical.byContradiction
  intro e
  obtain ⟨t, t1, t2⟩ := bits_ne (hS.2.2.2.2.2.1 i hi).2.1 (hS.2.2.2.2.2.1 _ hk).2.1 e
  rw [ask_bit hS hi a t1, ask_bit hS hk (hD _ hk).1 t1, c.1 t t1] at t2
  exact t2 rfl
/-- the place behind a met place's letter -/
theorem SD.next {M : mM} {so : Nat → Nat → Nat} (hS : SI M so) (hD : SD M so (so 10 0)) {i l : Nat} (hi : i < so 10 0) (hl : l < 3) : so 2 (i * 3 + l) ≠ 0 ∧ so 2 (i * 3 + l) - 1 < so 10 0 ∧ so 1 (so 2 (i * 3 + l) - 1) = M.2.1 (so 1 i) l := by
  obtain ⟨a, k, b, c⟩ := hD i hi
  have h0 := (c.2 l hl).1
  obtain ⟨x, y⟩ := hS.2.2.2.1 i l hi hl h0
  exact ⟨h0, by omega, y⟩
/-- two places that answer all tests alike go on alike -/
theorem SD.same {M : mM} {so : Nat → Nat → Nat} (hS : SI M so) (hK : KI M so) (hD : SD M so (so 10 0)) : ∀ (w : List Nat) (i j : Nat), lts w → i < so 10 0 → j < so 10 0 → (∀ t, t < so 10 1 → macc M (so 1 i) (tW so t t) = macc M (so 1 j) (tW so t t)) → macc M (so 1 i) w = macc M (so 1 j) w
  | [], i, j, _, hi, hj, h => by
    have := h 0 hS.2.2.2.2.1.1
    rw [tW_0] at this
    exact this
  | l :: w, i, j, hw, hi, hj, h => by
    have hl := (lts_tl hw).1
    obtain ⟨-, x1, x2⟩ := hD.next hS hi hl
    obtain ⟨-, y1, y2⟩ := hD.next hS hj hl
    rw [macc_cons, macc_cons, ← x2, ← y2]
    refine SD.same hS hK hD w _ _ (lts_tl hw).2 x1 y1 (fun t ht => ?_)
    obtain ⟨ki, ki1, ki2, -⟩ := SD.kind hS hK hD hi
    obtain ⟨kj, kj1, kj2, -⟩ := SD.kind hS hK hD hj
    have ek : ki = kj := by
      apply Classical.byContradiction
      intro ne
      have key : ∀ a b, a < b → b < so 10 2 → (∀ t, t < so 10 1 → macc M (so 1 (so 7 a)) (tW so t t) = macc M (so 1 (so 7 b)) (tW so t t)) → False := fun a b ab hb hh => by
        obtain ⟨t, t1, t2⟩ := hK.2.2.2.2 a b ab hb
        exact t2 (hh t t1)
      rcases Nat.lt_or_gt_of_ne ne with a | a
      · exact key ki kj a kj1 (fun t ht => by rw [← ki2.1 t ht, ← kj2.1 t ht]; exact h t ht)
      · exact key kj ki a ki1 (fun t ht => by rw [← ki2.1 t ht, ← kj2.1 t ht]; exact (h t ht).symm)
    subst ek
    rw [x2, y2, (ki2.2 l hl).2 t ht, (kj2.2 l hl).2 t ht]
/-- a table as a machine -/
def tM (t : Nat → Nat → Nat) : mM := (0, mmR t, (fun r => (t 0 1).testBit r), fun r => r < t 0 0)
def tMin (t : Nat → Nat → Nat) : Prop := ∀ a b, a < b → b < t 0 0 → ∃ w, lts w ∧ macc (tM t) a w ≠ macc (tM t) b w
def tCan (t : Nat → Nat → Nat) : Prop := (∀ i v, i < 3 * t 0 0 → v < t 1 i → v = 0 ∨ ∃ j, j < i ∧ t 1 j = v) ∧ ∀ j, 1 ≤ j → j < t 0 0 → ∃ i, i < 3 * j ∧ t 1 i = j
theorem WI.done {M : mM} {so z : Nat → Nat → Nat} {nx : Nat → Nat} {E m r : Nat} (hS : SI M so) (hK : KI M so) (hD : SD M so (so 10 0)) (h1 : 1 ≤ so 10 2) (h0 : so 1 0 = M.1) (h00 : 1 ≤ so 10 0) (h : WI M so z nx E m (3 * r) r) (hrm : r ≤ m) (hr : m ≤ r ∨ so 10 2 ≤ r) : m = so 10 2 ∧ r = so 10 2 := by
  obtain ⟨a1, a2, a3, a4, a5, -⟩ := h
  rcases hr with hr | hr
  · have er : r = m := by omega
    subst er
    have e70 : so 7 0 = 0 := hK.2.2.1 (by omega)
    have reach : ∀ (w : List Nat) (i : Nat), lts w → i < so 10 0 → (∃ j, j < r ∧ ∀ t, t < so 10 1 → macc M (so 1 i) (tW so t t) = macc M (so 1 (so 7 (z 9 j))) (tW so t t)) → ∀ i2, i2 < so 10 0 → so 1 i2 = mrun M (so 1 i) w → ∃ j, j < r ∧ ∀ t, t < so 10 1 → macc M (so 1 i2) (tW so t t) = macc M (so 1 (so 7 (z 9 j))) (tW so t t) := by
      intro w
      induction w with
      | nil => intro i _ hi hj i2 hi2 e; rw [e]; exact hj
      | cons l w ih =>
        intro i hw hi hj i2 hi2 e
        have hl := (lts_tl hw).1
        obtain ⟨-, x1, x2⟩ := hD.next hS hi hl
        refine ih _ (lts_tl hw).2 x1 ?_ i2 hi2 (by rw [x2]; exact e)
        obtain ⟨j, j1, j2⟩ := hj
        have hkj := hK.2.1 _ (a3 j j1).1
        obtain ⟨y1, y2⟩ := a5 (3 * j + l) (by omega)
        rw [show (3 * j + l) / 3 = j by omega, show (3 * j + l) % 3 = l by omega] at y2
        refine ⟨nx (3 * j + l), y1, fun t ht => ?_⟩
        rw [← y2.2 t ht, x2]
        have := hD.same hS hK (l :: tW so t t) i (so 7 (z 9 j)) (lts_cons hl (tW_lts hS t t ht)) hi hkj j2
        rw [macc_cons, macc_cons] at this
        exact this
    have all : ∀ k, k < so 10 2 → z 8 k < r ∧ z 9 (z 8 k) = k := by
      intro k hk
      refine (a4 k hk).resolve_left (fun e => ?_)
      have hkm := hK.2.1 k hk
      obtain ⟨w, w1, w2⟩ := hS.2.2.2.2.2.2 (so 7 k) hkm
      obtain ⟨j, j1, j2⟩ := reach w 0 w1 (by omega) ⟨0, by omega, fun t _ => by rw [a2.2.2, e70]⟩ (so 7 k) hkm (by rw [h0]; exact w2.symm)
      have hj := (a3 j j1)
      have : k = z 9 j := by
        apply Classical.byContradiction
        intro ne
        rcases Nat.lt_or_gt_of_ne ne with a | a
        · obtain ⟨t, t1, t2⟩ := hK.2.2.2.2 k (z 9 j) a hj.1
          exact t2 (j2 t t1)
        · obtain ⟨t, t1, t2⟩ := hK.2.2.2.2 (z 9 j) k a hk
          exact t2 (j2 t t1).symm
      rw [this, hj.2] at e
      omega
    have := pig r (so 10 2) (fun k => z 8 k) (fun k hk => (all k hk).1) (fun i j hi hj e => by
      have x := (all i hi).2; have y := (all j hj).2
      have e2 : z 8 i = z 8 j := e
      rw [e2] at x; omega)
    omega
  · omega
theorem WI.lang {M : mM} {so z : Nat → Nat → Nat} {t : Nat → Nat → Nat} {r : Nat} (hS : SI M so) (hK : KI M so) (hD : SD M so (so 10 0)) (h : WI M so z (t 1) (t 0 1) r (3 * r) r) (hr : r = so 10 2) (ht : t 0 0 = so 10 2) : (∀ (w : List Nat) (a : Nat), lts w → a < t 0 0 → macc (tM t) a w = macc M (so 1 (so 7 (z 9 a))) w) ∧ tMin t ∧ tCan t ∧ ∀ a l, a < t 0 0 → l < 3 → t 1 (a * 3 + l) < t 0 0 := by
  obtain ⟨a1, a2, a3, a4, a5, a6, a7, a8, a9, a10⟩ := h
  have lang : ∀ (w : List Nat) (a : Nat), lts w → a < t 0 0 → macc (tM t) a w = macc M (so 1 (so 7 (z 9 a))) w := by
    intro w
    induction w with
    | nil => intro a _ ha; exact a10 a (by omega)
    | cons l w ih =>
      intro a hw ha
      have hl := (lts_tl hw).1
      obtain ⟨y1, y2⟩ := a5 (a * 3 + l) (by omega)
      rw [show (a * 3 + l) / 3 = a by omega, show (a * 3 + l) % 3 = l by omega] at y2
      rw [macc_cons, macc_cons]
      show macc (tM t) (t 1 (a * 3 + l)) w = _
      rw [ih _ (lts_tl hw).2 (by omega)]
      have hka := hK.2.1 _ (a3 a (by omega)).1
      have hkb := hK.2.1 _ (a3 _ y1).1
      obtain ⟨-, x1, x2⟩ := hD.next hS hka hl
      rw [← x2]
      exact hD.same hS hK w _ _ (lts_tl hw).2 hkb x1 (fun q hq => by rw [x2]; exact (y2.2 q hq).symm)
  refine ⟨lang, fun a b ab hb => ?_, ⟨fun i v hi hv => a7 i v (by omega) hv, fun j j1 j2 => a8 j j1 (by omega)⟩, fun a l ha hl => by have := (a5 (a * 3 + l) (by omega)).1; omega⟩
  have ha3 := a3 a (by omega)
  have hb3 := a3 b (by omega)
  have ne : z 9 a ≠ z 9 b := fun e => by have x := ha3.2; rw [e, hb3.2] at x; omega
  have : ∃ w, lts w ∧ macc M (so 1 (so 7 (z 9 a))) w ≠ macc M (so 1 (so 7 (z 9 b))) w := by
    rcases Nat.lt_or_gt_of_ne ne with c | c
    · obtain ⟨q, q1, q2⟩ := hK.2.2.2.2 _ _ c hb3.1
      exact ⟨_, tW_lts hS q q q1, q2⟩
    · obtain ⟨q, q1, q2⟩ := hK.2.2.2.2 _ _ c ha3.1
      exact ⟨_, tW_lts hS q q q1, fun e => q2 e.symm⟩
  obtain ⟨w, w1, w2⟩ := this
  exact ⟨w, w1, by rw [lang w a w1 (by omega), lang w b w1 hb]; exact w2⟩
/-- what a kept table is -/
def tG (t : Nat → Nat → Nat) : Prop := tOK t ∧ tMin t ∧ tCan t ∧ ∀ r, r < t 0 0 → fOK (t 0 1) (t 1) (t 0 0) r (t 2 r) ∧ t 2 r ≤ t 0 0 + 1 ∧ (t 0 2).testBit r = decide (t 2 r ≠ 0)
theorem SI.z {M : mM} {so z : Nat → Nat → Nat} (e : ∀ k, k ≠ 8 → k ≠ 9 → z k = so k) (h : SI M so) : SI M z := by
  have tw : ∀ n t, tW z n t = tW so n t := tW_eq (e 5 (by decide) (by decide)) (e 6 (by decide) (by decide))
  obtain ⟨a1, a2, a3, a4, a5, a6, a7⟩ := h
  unfold SI
  rw [e 0 (by decide) (by decide), e 1 (by decide) (by decide), e 2 (by decide) (by decide), e 3 (by decide) (by decide), e 4 (by decide) (by decide), e 5 (by decide) (by decide), e 6 (by decide) (by decide), e 10 (by decide) (by decide)]
  refine ⟨a1, a2, a3, a4, a5, fun i hi => ?_, a7⟩
  obtain ⟨x, y, w⟩ := a6 i hi
  exact ⟨x, y, fun t ht => by rw [tw]; exact w t ht⟩
theorem tM_eq {t u : Nat → Nat → Nat} (h0 : u 0 0 = t 0 0) (h1 : u 0 1 = t 0 1) (h : u 1 = t 1) : tM u = tM t := by
  unfold tM mmR
  rw [h0, h1, h]
theorem wr_E {M : mM} {so z : Nat → Nat → Nat} {nx : Nat → Nat} {E r : Nat} (h : WI M so z nx E r (3 * r) r) (hr : r ≤ 10) : E < 1024 := Nat.lt_of_lt_of_le h.2.2.2.2.2.2.2.2.1 (Nat.pow_le_pow_right (n := 2) (by decide) hr)
theorem wr_fin {M : mM} {so z : Nat → Nat → Nat} {t t2 u : Nat → Nat → Nat → Nat} {n0 E r : Nat} (hS : SI M so) (hK : KI M so) (hD : SD M so (so 10 0)) (h1 : 1 ≤ so 10 2) (h0 : so 1 0 = M.1) (h : WI M so z (t n0 1) E r (3 * r) r) (hr : r = so 10 2) (e00 : t2 n0 0 0 = so 10 2) (e01 : t2 n0 0 1 = E) (e1 : t2 n0 1 = t n0 1) (hm : mL2 t2 u n0 (t2 n0 0 0) 0) : tG (u n0) ∧ ∀ w, lts w → macc (tM (u n0)) 0 w = macc M M.1 w := by
  obtain ⟨k1, k2, k3, k4⟩ := hm.1
  have hE := wr_E h (by have := hK.1; omega)
  have hl := WI.lang (t := t2 n0) hS hK hD (by rw [e1, e01]; exact h) hr e00
  obtain ⟨l1, l2, l3, l4⟩ := hl
  have em := tM_eq (t := t2 n0) (u := u n0) k2 k3 k4
  refine ⟨⟨⟨by omega, by have := hK.1; omega, by rw [k3, e01]; exact hE, hm.2.1, fun a l ha hl => ?_⟩, fun a b ab hb => ?_, ?_, fun q hq => ?_⟩, fun w hw => ?_⟩
  · rw [k4, k2]; exact l4 a l (by omega) hl
  · rw [em]; exact l2 a b ab (by omega)
  · unfold tCan; rw [k2, k4]; exact l3
  · rw [k2, k3, k4]
    have := hm.2.2 q (by omega)
    rw [if_neg (Nat.not_lt_zero _)] at this
    exact this
  · rw [em, l1 w 0 hw (by omega), h.2.1.2.2, hK.2.2.1 (by omega), h0]
theorem bit0 (x : Nat) : (x.testBit 0).toNat = x % 2 := by
  rw [Nat.testBit_zero]
  have : x % 2 = 0 ∨ x % 2 = 1 := by omega
  rcases this with h | h <;> rw [h] <;> decide
end
section
abbrev rm_S_writeTo : Room := { frames := 4, cells := 0, slots := 0, locals := 92 }
set_option maxRecDepth 100000 in
set_option maxHeartbeats 4000000 in
theorem c_S_writeTo (l : Launch) (Γ : gG) (d : Nat → Nat) (hm : Nat) (mc : va_E) (so : Nat → Nat → Nat) (tl : Nat → Nat → Int64) (tb : Nat → Nat → Nat → Nat) (wr : va_W) (M : mM) (n0 : Nat) (hn : n0 < 80) (hMx : ∀ t, (∀ a, a ≠ n0 → t a = tb a) → mOK d t mc M) (hS : SI M so) (hK : KI M so) (hD : SD M so (so 10 0)) (h1 : 1 ≤ so 10 2) (h0 : so 1 0 = M.1) (h00 : 1 ≤ so 10 0) : cT l Γ my_S_writeTo bc_S_writeTo 8 none rm_S_writeTo [.ref (d 2), .ref (d (20 + 3 * n0))] (xW Γ d hm mc so tl tb wr) (S := (Nat → Nat → Nat) × (Nat → Nat → Nat → Nat)) (fun v u => v = none ∧ SI M u.1 ∧ u.1 10 3 = so 10 3 ∧ (∀ a, a ≠ n0 → u.2 a = tb a) ∧ tG (u.2 n0) ∧ ∀ w, lts w → macc (tM (u.2 n0)) 0 w = macc M M.1 w) (fun u => xW Γ d hm mc u.1 tl u.2 wr) := by
  refine cT.start (by decide) (Nat.le_of_ble_eq_true rfl) (fun p e s m args below meth c ls Q hQ C hmn h hl => ?_)
  replace hl : lv_has ls 8 [(0, .ref (d 2)), (1, .ref (d (20 + 3 * n0)))] := hl
  have hK10 := hK.1
  have hS1 := hS.1
  have t10 := hS.2.2.2.2.1.2.1
  have hans : ∀ i, i < so 10 0 → so 3 i < 2 ^ 10 := fun i hi => Nat.lt_of_lt_of_le (hS.2.2.2.2.2.1 i hi).2.1 (Nat.pow_le_pow_right (by decide) t10)
  refine lv_iconst (v := (nI 0)) C.x C.b dc_S_writeTo_0 (by decide +kernel) ?_
  refine lv_istore_n (lv' := [(2, .int (nI 0)), (0, .ref (d 2)), (1, .ref (d (20 + 3 * n0)))]) C.x C.b dc_S_writeTo_1 rfl hl (by decide) rfl (fun ls hl => ?_)
  have hz : ∀ n, n ≠ 8 → so n = so n := fun _ _ => rfl
  have h8 : ∀ q, q < 0 → so 8 q = so 10 2 := fun q z => absurd z (Nat.not_lt_zero _)
  have lp_2 : ∀ (n_2 : Nat) (k : Nat) (z : Nat → Nat → Nat) (H : Heap) (locs : List Loc) (ls : Array Slot), so 10 2 - k < n_2 → (k ≤ so 10 2) → (∀ n, n ≠ 8 → z n = so n) → (∀ q, q < k → z 8 q = so 10 2) → sT Γ s (xW Γ d hm mc z tl tb wr) H locs → lv_has ls 8 [(2, .int (nI k)), (0, .ref (d 2)), (1, .ref (d (20 + 3 * n0)))] → W p l e rm_S_writeTo s m args below meth c H locs 0 0 Q (F0 m 2 ls []) := by
    intro n_2
    induction n_2 with
    | zero => intro k z H locs ls hms; exact absurd hms (Nat.not_lt_zero _)
    | succ n_2 ih_2 =>
      intro k z H locs ls hms hk hz h8 h hl
      have z10 : z 10 = so 10 := hz 10 (by decide)
      have z102 : z 10 2 = so 10 2 := by rw [z10]
      refine lv_iload_n C.x C.b dc_S_writeTo_2 rfl (lv_at hl 0 rfl) ?_
      refine lv_aload_n C.x C.b dc_S_writeTo_3 rfl (lv_at hl 1 rfl) ?_
      refine rg_get C h 2 rfl rfl in_S 11 (by decide) fl_S_58 rfl dc_S_writeTo_4 ?_
      refine bc_ge (tgt := 26) C (by omega) (by omega) dc_S_writeTo_7 (by decide) (fun q7 => ?_) (fun q7 => ?_)
      · refine lv_iconst (v := (nI 1)) C.x C.b dc_S_writeTo_26 (by decide +kernel) ?_
        refine lv_istore_n (lv' := [(2, .int (nI 1)), (0, .ref (d 2)), (1, .ref (d (20 + 3 * n0)))]) C.x C.b dc_S_writeTo_27 rfl hl (by decide) rfl (fun ls hl => ?_)
        refine lv_iconst (v := (nI 0)) C.x C.b dc_S_writeTo_28 (by decide +kernel) ?_
        refine lv_istore_n (lv' := [(3, .int (nI 0)), (2, .int (nI 1)), (0, .ref (d 2)), (1, .ref (d (20 + 3 * n0)))]) C.x C.b dc_S_writeTo_29 rfl hl (by decide) rfl (fun ls hl => ?_)
        refine lv_aload_n C.x C.b dc_S_writeTo_30 rfl (lv_at hl 2 rfl) ?_
        refine rg_get C h 2 rfl rfl in_S 12 (by decide) fl_S_45 rfl dc_S_writeTo_31 ?_
        refine lv_iconst (v := (nI 0)) C.x C.b dc_S_writeTo_34 (by decide +kernel) ?_
        refine lv_iconst (v := (nI 0)) C.x C.b dc_S_writeTo_35 (by decide +kernel) ?_
        refine rg_ist C h 13 rfl (by omega) (by decide) dc_S_writeTo_36 (fun H locs h => ?_)
        obtain ⟨so_1, eso_1⟩ : ∃ zz9, zz9 = us z 8 (us (z 8) 0 0) := ⟨_, rfl⟩
        have xso_1 : so_1 10 0 = z 10 0 ∧ so_1 10 1 = z 10 1 ∧ so_1 10 2 = z 10 2 ∧ so_1 10 3 = z 10 3 := by rw [eso_1, us_n _ _ (by decide)]; exact ⟨rfl, rfl, rfl, rfl⟩
        replace h : sT Γ s (xW Γ d hm mc so_1 tl tb wr) H locs := by rw [eso_1]; exact h
        refine lv_aload_n C.x C.b dc_S_writeTo_37 rfl (lv_at hl 2 rfl) ?_
        refine rg_get C h 2 rfl rfl in_S 13 (by decide) fl_S_48 rfl dc_S_writeTo_38 ?_
        refine lv_iconst (v := (nI 0)) C.x C.b dc_S_writeTo_41 (by decide +kernel) ?_
        refine lv_iconst (v := (nI 0)) C.x C.b dc_S_writeTo_42 (by decide +kernel) ?_
        refine rg_ist C h 14 rfl (by omega) (by decide) dc_S_writeTo_43 (fun H locs h => ?_)
        obtain ⟨so_2, eso_2⟩ : ∃ zz9, zz9 = us so_1 9 (us (so_1 9) 0 0) := ⟨_, rfl⟩
        have xso_2 : so_2 10 0 = so_1 10 0 ∧ so_2 10 1 = so_1 10 1 ∧ so_2 10 2 = so_1 10 2 ∧ so_2 10 3 = so_1 10 3 := by rw [eso_2, us_n _ _ (by decide)]; exact ⟨rfl, rfl, rfl, rfl⟩
        replace h : sT Γ s (xW Γ d hm mc so_2 tl tb wr) H locs := by rw [eso_2]; exact h
        refine lv_iconst (v := (nI 0)) C.x C.b dc_S_writeTo_44 (by decide +kernel) ?_
        refine lv_istore (lv' := [(4, .int (nI 0)), (3, .int (nI 0)), (2, .int (nI 1)), (0, .ref (d 2)), (1, .ref (d (20 + 3 * n0)))]) C.x C.b dc_S_writeTo_45 hl (by decide) rfl (fun ls hl => ?_)
        have hW : WI M so so_2 (tb n0 1) 0 1 (3 * 0) 0 := WI.init h1 (fun n n8 n9 => by rw [eso_2, us_n _ _ n9, eso_1, us_n _ _ n8]; exact hz n n8) (by rw [eso_2, us_s, us_s]) (by rw [eso_2, us_n _ _ (by decide), eso_1, us_s, us_s]) (fun q q1 q2 => by rw [eso_2, us_n _ _ (by decide), eso_1, us_s, us_n _ _ (by omega)]; exact h8 q (by omega))
        have hT : ∀ a, a ≠ n0 → tb a = tb a := fun _ _ => rfl
        have lp_47 : ∀ (n_47 : Nat) (r : Nat) (m0 : Nat) (E : Nat) (z : Nat → Nat → Nat) (t : Nat → Nat → Nat → Nat) (H : Heap) (locs : List Loc) (ls : Array Slot), so 10 2 - r < n_47 → (WI M so z (t n0 1) E m0 (3 * r) r) → (r ≤ m0) → (∀ a, a ≠ n0 → t a = tb a) → sT Γ s (xW Γ d hm mc z tl t wr) H locs → lv_has ls 8 [(4, .int (nI r)), (3, .int (nI E)), (2, .int (nI m0)), (0, .ref (d 2)), (1, .ref (d (20 + 3 * n0)))] → W p l e rm_S_writeTo s m args below meth c H locs 0 0 Q (F0 m 47 ls []) := by
          intro n_47
          induction n_47 with
          | zero => intro r m0 E z t H locs ls hms; exact absurd hms (Nat.not_lt_zero _)
          | succ n_47 ih_47 =>
            intro r m0 E z t H locs ls hms hW hrm hT h hl
            have hzk := hW.1
            have z10 : z 10 = so 10 := hzk 10 (by decide) (by decide)
            have z7 : z 7 = so 7 := hzk 7 (by decide) (by decide)
            have z3 : z 3 = so 3 := hzk 3 (by decide) (by decide)
            have z2 : z 2 = so 2 := hzk 2 (by decide) (by decide)
            have z1 : z 1 = so 1 := hzk 1 (by decide) (by decide)
            have z102 : z 10 2 = so 10 2 := by rw [z10]
            have hm1 := hW.2.1.1
            have hm2 := hW.2.1.2.1
            refine lv_iload C.x C.b dc_S_writeTo_47 (lv_at hl 0 rfl) ?_
            refine lv_iload_n C.x C.b dc_S_writeTo_49 rfl (lv_at hl 2 rfl) ?_
            refine bc_ge (tgt := 183) C (by omega) (by omega) dc_S_writeTo_50 (by decide) (fun q50 => ?_) (fun q50 => ?_)
            · obtain ⟨hd1, hrr⟩ := hW.done hS hK hD h1 h0 h00 hrm (by omega)
              have hWr : WI M so z (t n0 1) E r (3 * r) r := by rw [show m0 = r by omega] at hW; exact hW
              refine lv_aload_n C.x C.b dc_S_writeTo_183 rfl (lv_at hl 4 rfl) ?_
              refine lv_aload_n C.x C.b dc_S_writeTo_184 rfl (lv_at hl 3 rfl) ?_
              refine rg_get C h 2 rfl rfl in_S 11 (by decide) fl_S_58 rfl dc_S_writeTo_185 ?_
              refine rg_putN (ty := .int) C h (17 + n0) (lk_T (hn)) rfl in_T tk_T nm_T 0 (by decide) fl_S_100 rfl (by decide +kernel) rfl rfl (by simp) dc_S_writeTo_188 (fun H locs h => ?_)
              replace h := h.eq (st_T (hn) 0 (z 10 2) _ rfl)
              obtain ⟨tb_3, etb_3⟩ : ∃ zz9, zz9 = us t n0 (us (t n0) 0 (us (t n0 0) 0 (z 10 2))) := ⟨_, rfl⟩
              replace h : sT Γ s (xW Γ d hm mc z tl tb_3 wr) H locs := by rw [etb_3]; exact h
              refine lv_aload_n C.x C.b dc_S_writeTo_191 rfl (lv_at hl 4 rfl) ?_
              refine lv_iload_n C.x C.b dc_S_writeTo_192 rfl (lv_at hl 1 rfl) ?_
              refine rg_putN (ty := .int) C h (17 + n0) (lk_T (hn)) rfl in_T tk_T nm_T 1 (by decide) fl_S_103 rfl (by decide +kernel) rfl rfl (by simp) dc_S_writeTo_193 (fun H locs h => ?_)
              replace h := h.eq (st_T (hn) 1 E _ rfl)
              obtain ⟨tb_4, etb_4⟩ : ∃ zz9, zz9 = us tb_3 n0 (us (tb_3 n0) 0 (us (tb_3 n0 0) 1 E)) := ⟨_, rfl⟩
              replace h : sT Γ s (xW Γ d hm mc z tl tb_4 wr) H locs := by rw [etb_4]; exact h
              have e00 : tb_4 n0 0 0 = so 10 2 := by rw [etb_4, us_s, us_s, us_n _ _ (by decide), etb_3, us_s, us_s, us_s, z102]
              have e01 : tb_4 n0 0 1 = E := by rw [etb_4, us_s, us_s, us_s]
              have e1 : tb_4 n0 1 = t n0 1 := by rw [etb_4, us_s, us_n _ _ (by decide), etb_3, us_s, us_n _ _ (by decide)]
              have hl4 := (WI.lang (t := tb_4 n0) hS hK hD (by rw [e1, e01]; exact hWr) hrr e00).2.2.2
              have hk10 := hK.1
              refine lv_aload_n C.x C.b dc_S_writeTo_196 rfl (lv_at hl 4 rfl) ?_
              refine kv_V (As := []) (rest := []) C h hl.1 (c_T_measure l Γ d hm mc z tl tb_4 wr n0 (hn) (by omega) (by omega) (by rw [e01]; exact wr_E hWr (by omega)) (fun a l ha hl => hl4 a l ha hl)) mw_T_measure lk_S_106 (q0 := (17 + n0)) (lk_T (hn)) rfl rfl (by decide) (by decide) (Nat.le_of_ble_eq_true rfl) dc_S_writeTo_197 (fun v u H locs hp h => ?_)
              obtain ⟨rfl, htb_5⟩ := hp
              obtain ⟨tb_5, rfl⟩ : ∃ zz9, zz9 = u := ⟨_, rfl⟩
              replace h : sT Γ s (xW Γ d hm mc z tl tb_5 wr) H locs := h
              refine W.eq (g2 := F0 m 200 ls []) rfl ?_
              have hfin := wr_fin (t := t) (t2 := tb_4) (u := tb_5) hS hK hD h1 h0 hWr (hrr) e00 e01 e1 htb_5
              rw [hQ]
              exact rt_v C (z, tb_5) h (⟨rfl, hS.z hzk, by show z 10 3 = _; rw [z10], fun a ha => by show tb_5 a = tb a; rw [htb_5.1.1 a ha, etb_4, us_n _ _ ha, etb_3, us_n _ _ ha]; exact hT a ha, hfin⟩) dc_S_writeTo_200
            · refine lv_iload C.x C.b dc_S_writeTo_53 (lv_at hl 0 rfl) ?_
              refine lv_aload_n C.x C.b dc_S_writeTo_55 rfl (lv_at hl 3 rfl) ?_
              refine rg_get C h 2 rfl rfl in_S 11 (by decide) fl_S_58 rfl dc_S_writeTo_56 ?_
              refine bc_ge (tgt := 183) C (by omega) (by omega) dc_S_writeTo_59 (by decide) (fun q59 => ?_) (fun q59 => ?_)
              · obtain ⟨hd1, hrr⟩ := hW.done hS hK hD h1 h0 h00 hrm (by omega)
                have hWr : WI M so z (t n0 1) E r (3 * r) r := by rw [show m0 = r by omega] at hW; exact hW
                refine lv_aload_n C.x C.b dc_S_writeTo_183 rfl (lv_at hl 4 rfl) ?_
                refine lv_aload_n C.x C.b dc_S_writeTo_184 rfl (lv_at hl 3 rfl) ?_
                refine rg_get C h 2 rfl rfl in_S 11 (by decide) fl_S_58 rfl dc_S_writeTo_185 ?_
                refine rg_putN (ty := .int) C h (17 + n0) (lk_T (hn)) rfl in_T tk_T nm_T 0 (by decide) fl_S_100 rfl (by decide +kernel) rfl rfl (by simp) dc_S_writeTo_188 (fun H locs h => ?_)
                replace h := h.eq (st_T (hn) 0 (z 10 2) _ rfl)
                obtain ⟨tb_6, etb_6⟩ : ∃ zz9, zz9 = us t n0 (us (t n0) 0 (us (t n0 0) 0 (z 10 2))) := ⟨_, rfl⟩
                replace h : sT Γ s (xW Γ d hm mc z tl tb_6 wr) H locs := by rw [etb_6]; exact h
                refine lv_aload_n C.x C.b dc_S_writeTo_191 rfl (lv_at hl 4 rfl) ?_
                refine lv_iload_n C.x C.b dc_S_writeTo_192 rfl (lv_at hl 1 rfl) ?_
                refine rg_putN (ty := .int) C h (17 + n0) (lk_T (hn)) rfl in_T tk_T nm_T 1 (by decide) fl_S_103 rfl (by decide +kernel) rfl rfl (by simp) dc_S_writeTo_193 (fun H locs h => ?_)
                replace h := h.eq (st_T (hn) 1 E _ rfl)
                obtain ⟨tb_7, etb_7⟩ : ∃ zz9, zz9 = us tb_6 n0 (us (tb_6 n0) 0 (us (tb_6 n0 0) 1 E)) := ⟨_, rfl⟩
                replace h : sT Γ s (xW Γ d hm mc z tl tb_7 wr) H locs := by rw [etb_7]; exact h
                have e00 : tb_7 n0 0 0 = so 10 2 := by rw [etb_7, us_s, us_s, us_n _ _ (by decide), etb_6, us_s, us_s, us_s, z102]
                have e01 : tb_7 n0 0 1 = E := by rw [etb_7, us_s, us_s, us_s]
                have e1 : tb_7 n0 1 = t n0 1 := by rw [etb_7, us_s, us_n _ _ (by decide), etb_6, us_s, us_n _ _ (by decide)]
                have hl4 := (WI.lang (t := tb_7 n0) hS hK hD (by rw [e1, e01]; exact hWr) hrr e00).2.2.2
                have hk10 := hK.1
                refine lv_aload_n C.x C.b dc_S_writeTo_196 rfl (lv_at hl 4 rfl) ?_
                refine kv_V (As := []) (rest := []) C h hl.1 (c_T_measure l Γ d hm mc z tl tb_7 wr n0 (hn) (by omega) (by omega) (by rw [e01]; exact wr_E hWr (by omega)) (fun a l ha hl => hl4 a l ha hl)) mw_T_measure lk_S_106 (q0 := (17 + n0)) (lk_T (hn)) rfl rfl (by decide) (by decide) (Nat.le_of_ble_eq_true rfl) dc_S_writeTo_197 (fun v u H locs hp h => ?_)
                obtain ⟨rfl, htb_8⟩ := hp
                obtain ⟨tb_8, rfl⟩ : ∃ zz9, zz9 = u := ⟨_, rfl⟩
                replace h : sT Γ s (xW Γ d hm mc z tl tb_8 wr) H locs := h
                refine W.eq (g2 := F0 m 200 ls []) rfl ?_
                have hfin := wr_fin (t := t) (t2 := tb_7) (u := tb_8) hS hK hD h1 h0 hWr (hrr) e00 e01 e1 htb_8
                rw [hQ]
                exact rt_v C (z, tb_8) h (⟨rfl, hS.z hzk, by show z 10 3 = _; rw [z10], fun a ha => by show tb_8 a = tb a; rw [htb_8.1.1 a ha, etb_7, us_n _ _ ha, etb_6, us_n _ _ ha]; exact hT a ha, hfin⟩) dc_S_writeTo_200
              · have hz9r := (hW.2.2.1 r (by omega)).1
                have hixr := hK.2.1 _ hz9r
                refine lv_aload_n C.x C.b dc_S_writeTo_62 rfl (lv_at hl 3 rfl) ?_
                refine rg_get C h 2 rfl rfl in_S 10 (by decide) fl_S_42 rfl dc_S_writeTo_63 ?_
                refine lv_aload_n C.x C.b dc_S_writeTo_66 rfl (lv_at hl 3 rfl) ?_
                refine rg_get C h 2 rfl rfl in_S 13 (by decide) fl_S_48 rfl dc_S_writeTo_67 ?_
                refine lv_iload C.x C.b dc_S_writeTo_70 (lv_at hl 0 rfl) ?_
                refine rg_ild C h 14 rfl (by omega) (by decide) dc_S_writeTo_72 ?_
                refine rg_ild C h 12 rfl (by omega) (by decide) dc_S_writeTo_73 ?_
                refine lv_istore (lv' := [(5, .int (nI (z 7 (z 9 r)))), (4, .int (nI r)), (3, .int (nI E)), (2, .int (nI m0)), (0, .ref (d 2)), (1, .ref (d (20 + 3 * n0)))]) C.x C.b dc_S_writeTo_74 hl (by decide) rfl (fun ls hl => ?_)
                refine lv_iload_n C.x C.b dc_S_writeTo_76 rfl (lv_at hl 2 rfl) ?_
                refine lv_aload_n C.x C.b dc_S_writeTo_77 rfl (lv_at hl 4 rfl) ?_
                refine rg_get C h 2 rfl rfl in_S 5 (by decide) fl_S_30 rfl dc_S_writeTo_78 ?_
                refine lv_iload C.x C.b dc_S_writeTo_81 (lv_at hl 0 rfl) ?_
                refine rg_ild C h 8 rfl (by rw [z7]; omega) (by decide) dc_S_writeTo_83 ?_
                refine lv_iconst (v := (nI 1)) C.x C.b dc_S_writeTo_84 (by decide +kernel) ?_
                refine lv_iand C.x C.b dc_S_writeTo_85 ?_
                refine tp_i (nI_and1 (z 3 (z 7 (z 9 r)))) ?_
                refine lv_iload C.x C.b dc_S_writeTo_86 (lv_at hl 1 rfl) ?_
                refine lv_ishl C.x C.b dc_S_writeTo_88 ?_
                refine tp_i (nI_shl (a := ((z 3 (z 7 (z 9 r))) % 2)) (n := r) (by omega) (by
                    have := Nat.pow_lt_pow_right (a := 2) (by decide) (show r < 10 by omega)
                    have : z 3 (z 7 (z 9 r)) % 2 ≤ 1 := by omega
                    have := Nat.mul_le_mul_right (2 ^ r) this
                    omega)) ?_
                refine lv_ior C.x C.b dc_S_writeTo_89 ?_
                refine tp_i (nI_or E (((z 3 (z 7 (z 9 r))) % 2) * 2 ^ r)) ?_
                refine lv_istore_n (lv' := [(3, .int (nI (E ||| (((z 3 (z 7 (z 9 r))) % 2) * 2 ^ r)))), (5, .int (nI (z 7 (z 9 r)))), (4, .int (nI r)), (2, .int (nI m0)), (0, .ref (d 2)), (1, .ref (d (20 + 3 * n0)))]) C.x C.b dc_S_writeTo_90 rfl hl (by decide) rfl (fun ls hl => ?_)
                have hidx : z 7 (z 9 r) < so 10 0 := by rw [z7]; exact hK.2.1 _ (hW.2.2.1 r (by omega)).1
                have hW2 := hW.row (v := z 3 (z 7 (z 9 r)) % 2) (by omega) (by rw [z7, z3, ← bit0, ask_bit hS (hK.2.1 _ (hW.2.2.1 r (by omega)).1) (hD _ (hK.2.1 _ (hW.2.2.1 r (by omega)).1)).1 hS.2.2.2.2.1.1, tW_0]; rfl)
                obtain ⟨E2, eE2⟩ : ∃ zz9, zz9 = E ||| (((z 3 (z 7 (z 9 r))) % 2) * 2 ^ r) := ⟨_, rfl⟩
                rw [← eE2] at hl hW2
                obtain ⟨ix, eix⟩ : ∃ zz9, zz9 = z 7 (z 9 r) := ⟨_, rfl⟩
                rw [← eix] at hl hidx
                have eix2 : ix = so 7 (z 9 r) := by rw [eix, z7]
                refine lv_iconst (v := (nI 0)) C.x C.b dc_S_writeTo_91 (by decide +kernel) ?_
                refine lv_istore (lv' := [(6, .int (nI 0)), (3, .int (nI E2)), (5, .int (nI ix)), (4, .int (nI r)), (2, .int (nI m0)), (0, .ref (d 2)), (1, .ref (d (20 + 3 * n0)))]) C.x C.b dc_S_writeTo_92 hl (by decide) rfl (fun ls hl => ?_)
                have lp_94 : ∀ (n_94 : Nat) (q : Nat) (m0 : Nat) (z : Nat → Nat → Nat) (t : Nat → Nat → Nat → Nat) (H : Heap) (locs : List Loc) (ls : Array Slot), 3 - q < n_94 → (q ≤ 3) → (WI M so z (t n0 1) E2 m0 (3 * r + q) (r + 1)) → (r < m0) → (∀ a, a ≠ n0 → t a = tb a) → (ix = so 7 (z 9 r)) → sT Γ s (xW Γ d hm mc z tl t wr) H locs → lv_has ls 8 [(6, .int (nI q)), (5, .int (nI ix)), (4, .int (nI r)), (3, .int (nI E2)), (2, .int (nI m0)), (0, .ref (d 2)), (1, .ref (d (20 + 3 * n0)))] → W p l e rm_S_writeTo s m args below meth c H locs 0 0 Q (F0 m 94 ls []) := by
                  intro n_94
                  induction n_94 with
                  | zero => intro q m0 z t H locs ls hms; exact absurd hms (Nat.not_lt_zero _)
                  | succ n_94 ih_94 =>
                    intro q m0 z t H locs ls hms hq hW hrm hT eix2 h hl
                    have hzk := hW.1
                    have z10 : z 10 = so 10 := hzk 10 (by decide) (by decide)
                    have z7 : z 7 = so 7 := hzk 7 (by decide) (by decide)
                    have z3 : z 3 = so 3 := hzk 3 (by decide) (by decide)
                    have z2 : z 2 = so 2 := hzk 2 (by decide) (by decide)
                    have z1 : z 1 = so 1 := hzk 1 (by decide) (by decide)
                    have z102 : z 10 2 = so 10 2 := by rw [z10]
                    have hm1 := hW.2.1.1
                    have hm2 := hW.2.1.2.1
                    have hMt : mOK d t mc M := hMx t hT
                    have SI_z : SI M z := hS.z hzk
                    have hix10 : ix < z 10 0 := by rw [eix2, z10]; exact hK.2.1 _ (hW.2.2.1 r (by omega)).1
                    refine lv_iload C.x C.b dc_S_writeTo_94 (lv_at hl 0 rfl) ?_
                    refine lv_iconst (v := (nI 3)) C.x C.b dc_S_writeTo_96 (by decide +kernel) ?_
                    refine bc_ge (tgt := 177) C (by omega) (by omega) dc_S_writeTo_97 (by decide) (fun q97 => ?_) (fun q97 => ?_)
                    · refine lv_iinc (v := nI (r + 1)) (lv' := [(4, .int (nI (r + 1))), (6, .int (nI q)), (5, .int (nI ix)), (3, .int (nI E2)), (2, .int (nI m0)), (0, .ref (d 2)), (1, .ref (d (20 + 3 * n0)))]) C.x C.b dc_S_writeTo_177 hl (k := 2) rfl (nI_1 r) (by decide) rfl (fun ls hl => ?_)
                      refine lv_goto (tgt := 47) C.x C.b dc_S_writeTo_180 (by decide) ?_
                      have hW : WI M so z (t n0 1) E2 m0 (3 * (r + 1)) (r + 1) := by rw [show 3 * (r + 1) = 3 * r + q by omega]; exact hW
                      exact ih_47 (r + 1) m0 E2 z t _ _ _ (by omega) (by first | assumption | omega) (by first | assumption | omega) (by first | assumption | omega) h (lv_sub hl [0, 3, 4, 5, 6] rfl)
                    · refine lv_aload_n C.x C.b dc_S_writeTo_100 rfl (lv_at hl 5 rfl) ?_
                      refine lv_aload_n C.x C.b dc_S_writeTo_101 rfl (lv_at hl 5 rfl) ?_
                      refine rg_get C h 2 rfl rfl in_S 5 (by decide) fl_S_30 rfl dc_S_writeTo_102 ?_
                      refine lv_aload_n C.x C.b dc_S_writeTo_105 rfl (lv_at hl 5 rfl) ?_
                      refine lv_iload C.x C.b dc_S_writeTo_106 (lv_at hl 1 rfl) ?_
                      refine lv_iload C.x C.b dc_S_writeTo_108 (lv_at hl 0 rfl) ?_
                      refine kv_V (As := [.int (nI ix), .int (nI q)]) (rest := [.ref (d 8), .ref (d 2)]) C h hl.1 (c_S_follow l Γ d hm mc z tl t wr M ix q hMt SI_z hix10 (by omega)) mw_S_follow lk_S_75 (q0 := 2) rfl rfl rfl (by decide) (by decide) (Nat.le_of_ble_eq_true rfl) dc_S_writeTo_110 (fun v u H locs hp h => ?_)
                      obtain ⟨⟨j_9, so_10⟩, rfl⟩ : ∃ zz9, zz9 = u := ⟨_, rfl⟩
                      obtain ⟨rfl, SI_so_10, sE_so_10, lt_j_9, pl_j_9, me_j_9, st_j_9⟩ := hp
                      dsimp only at SI_so_10 sE_so_10 lt_j_9 pl_j_9 me_j_9 st_j_9
                      replace h : sT Γ s (xW Γ d hm mc so_10 tl t wr) H locs := h
                      refine W.eq (g2 := F0 m 113 ls [.int (nI j_9), .ref (d 8), .ref (d 2)]) rfl ?_
                      have emem : so 2 (ix * 3 + q) ≠ 0 := (SD.next hS hD (by rw [z10] at hix10; exact hix10) (by omega)).1
                      have ezz := (st_j_9 (by rw [z2]; exact emem)).symm
                      subst ezz
                      have hj0 : j_9 < so 10 0 := by rw [z10] at lt_j_9; exact lt_j_9
                      have hj1 : so 1 j_9 = M.2.1 (so 1 ix) q := by rw [z1] at pl_j_9; exact pl_j_9
                      refine rg_ild C h 8 rfl (by omega) (by decide) dc_S_writeTo_113 ?_
                      refine kv_V (As := [.int (nI (z 3 j_9))]) (rest := []) C h hl.1 (c_S_kindWith l Γ d hm mc z tl t wr (z 3 j_9) (by rw [z3]; have := hans _ hj0; omega) (by omega) (fun k9 hk9 => by rw [z3, z7]; have a9 := hK.2.1 k9 (by omega); have := hans _ a9; exact ⟨by omega, by omega⟩)) mw_S_kindWith lk_S_82 (q0 := 2) rfl rfl rfl (by decide) (by decide) (Nat.le_of_ble_eq_true rfl) dc_S_writeTo_114 (fun v u H locs hp h => ?_)
                      obtain ⟨kd_11, rfl⟩ : ∃ zz9, zz9 = u := ⟨_, rfl⟩
                      obtain ⟨rfl, le_kd_11, ne_kd_11, eq_kd_11⟩ := hp
                      replace h : sT Γ s (xW Γ d hm mc z tl t wr) H locs := h
                      refine W.eq (g2 := F0 m 117 ls [.int (nI kd_11)]) rfl ?_
                      refine lv_istore (lv' := [(7, .int (nI kd_11)), (6, .int (nI q)), (5, .int (nI ix)), (4, .int (nI r)), (3, .int (nI E2)), (2, .int (nI m0)), (0, .ref (d 2)), (1, .ref (d (20 + 3 * n0)))]) C.x C.b dc_S_writeTo_117 hl (by decide) rfl (fun ls hl => ?_)
                      have hkd : kd_11 < so 10 2 := by
                        apply Classical.byContradiction
                        intro hge
                        obtain ⟨k9, k1, k2, k3⟩ := SD.kind hS hK hD hj0
                        have := ne_kd_11 k9 (by omega)
                        rw [z3, z7] at this
                        exact this k3.symm
                      have hKS : KS M so (z 9 r) q kd_11 := by
                        refine ⟨hkd, fun t9 ht9 => ?_⟩
                        have e9 := eq_kd_11 (by omega)
                        rw [z3, z7] at e9
                        have hk9 := hK.2.1 _ hkd
                        rw [← eix2, ← hj1, ← ask_bit hS hj0 (hD _ hj0).1 ht9, ← ask_bit hS hk9 (hD _ hk9).1 ht9, e9]
                      have h8b := hW.2.2.2.1 _ hkd
                      refine lv_aload_n C.x C.b dc_S_writeTo_119 rfl (lv_at hl 6 rfl) ?_
                      refine rg_get C h 2 rfl rfl in_S 12 (by decide) fl_S_45 rfl dc_S_writeTo_120 ?_
                      refine lv_iload C.x C.b dc_S_writeTo_123 (lv_at hl 0 rfl) ?_
                      refine rg_ild C h 13 rfl (by omega) (by decide) dc_S_writeTo_125 ?_
                      refine lv_aload_n C.x C.b dc_S_writeTo_126 rfl (lv_at hl 6 rfl) ?_
                      refine rg_get C h 2 rfl rfl in_S 11 (by decide) fl_S_58 rfl dc_S_writeTo_127 ?_
                      refine bc_ne (tgt := 152) C (by omega) (by omega) dc_S_writeTo_130 (by decide) (fun q130 => ?_) (fun q130 => ?_)
                      · refine lv_aload_n C.x C.b dc_S_writeTo_152 rfl (lv_at hl 7 rfl) ?_
                        refine rg_getN C h (17 + n0) (lk_T (hn)) rfl in_T 3 (by decide) fl_S_97 rfl dc_S_writeTo_153 ?_
                        refine lv_iload C.x C.b dc_S_writeTo_156 (lv_at hl 3 rfl) ?_
                        refine lv_iconst (v := (nI 3)) C.x C.b dc_S_writeTo_158 (by decide +kernel) ?_
                        refine lv_imul C.x C.b dc_S_writeTo_159 ?_
                        refine tp_i (pk_mul r 3) ?_
                        refine lv_iload C.x C.b dc_S_writeTo_160 (lv_at hl 1 rfl) ?_
                        refine lv_iadd C.x C.b dc_S_writeTo_162 ?_
                        refine tp_i (nI_add (r * 3) q) ?_
                        refine lv_aload_n C.x C.b dc_S_writeTo_163 rfl (lv_at hl 6 rfl) ?_
                        refine rg_get C h 2 rfl rfl in_S 12 (by decide) fl_S_45 rfl dc_S_writeTo_164 ?_
                        refine lv_iload C.x C.b dc_S_writeTo_167 (lv_at hl 0 rfl) ?_
                        refine rg_ild C h 13 rfl (by omega) (by decide) dc_S_writeTo_169 ?_
                        refine rg_ist C h (97 + n0) (lk_N (hn)) (by omega) (by decide) dc_S_writeTo_170 (fun H locs h => ?_)
                        replace h := h.eq (st_N (hn) _)
                        obtain ⟨tb_12, etb_12⟩ : ∃ zz9, zz9 = us t n0 (us (t n0) 1 (us (t n0 1) ((r * 3) + q) (z 8 kd_11))) := ⟨_, rfl⟩
                        replace h : sT Γ s (xW Γ d hm mc z tl tb_12 wr) H locs := by rw [etb_12]; exact h
                        refine lv_iinc (v := nI (q + 1)) (lv' := [(6, .int (nI (q + 1))), (7, .int (nI kd_11)), (5, .int (nI ix)), (4, .int (nI r)), (3, .int (nI E2)), (2, .int (nI m0)), (0, .ref (d 2)), (1, .ref (d (20 + 3 * n0)))]) C.x C.b dc_S_writeTo_171 hl (k := 1) rfl (nI_1 q) (by decide) rfl (fun ls hl => ?_)
                        refine lv_goto (tgt := 94) C.x C.b dc_S_writeTo_174 (by decide) ?_
                        have hW : WI M so z (tb_12 n0 1) E2 m0 (3 * r + (q + 1)) (r + 1) := hW.old (by omega) hKS (by rw [← z102]; exact q130) (by rw [etb_12, us_s, us_s])
                        have hix := eix2
                        have hT : ∀ a, a ≠ n0 → tb_12 a = tb a := fun a ha => by rw [etb_12, us_n _ _ ha]; exact hT a ha
                        exact ih_94 (q + 1) m0 z tb_12 _ _ _ (by omega) (by first | assumption | omega) (by first | exact hW | exact hW2) (by omega) (by first | assumption | omega) (by first | exact hix | exact eix2) h (lv_sub hl [0, 2, 3, 4, 5, 6, 7] rfl)
                      · refine lv_aload_n C.x C.b dc_S_writeTo_133 rfl (lv_at hl 6 rfl) ?_
                        refine rg_get C h 2 rfl rfl in_S 12 (by decide) fl_S_45 rfl dc_S_writeTo_134 ?_
                        refine lv_iload C.x C.b dc_S_writeTo_137 (lv_at hl 0 rfl) ?_
                        refine lv_iload_n C.x C.b dc_S_writeTo_139 rfl (lv_at hl 5 rfl) ?_
                        refine rg_ist C h 13 rfl (by omega) (by decide) dc_S_writeTo_140 (fun H locs h => ?_)
                        obtain ⟨so_13, eso_13⟩ : ∃ zz9, zz9 = us z 8 (us (z 8) kd_11 m0) := ⟨_, rfl⟩
                        have xso_13 : so_13 10 0 = z 10 0 ∧ so_13 10 1 = z 10 1 ∧ so_13 10 2 = z 10 2 ∧ so_13 10 3 = z 10 3 := by rw [eso_13, us_n _ _ (by decide)]; exact ⟨rfl, rfl, rfl, rfl⟩
                        replace h : sT Γ s (xW Γ d hm mc so_13 tl t wr) H locs := by rw [eso_13]; exact h
                        refine lv_aload_n C.x C.b dc_S_writeTo_141 rfl (lv_at hl 6 rfl) ?_
                        refine rg_get C h 2 rfl rfl in_S 13 (by decide) fl_S_48 rfl dc_S_writeTo_142 ?_
                        refine lv_iload_n C.x C.b dc_S_writeTo_145 rfl (lv_at hl 5 rfl) ?_
                        refine lv_iload C.x C.b dc_S_writeTo_146 (lv_at hl 0 rfl) ?_
                        refine rg_ist C h 14 rfl (by have := hW.lt hkd (by rw [← z102]; exact q130); omega) (by decide) dc_S_writeTo_148 (fun H locs h => ?_)
                        obtain ⟨so_14, eso_14⟩ : ∃ zz9, zz9 = us so_13 9 (us (so_13 9) m0 kd_11) := ⟨_, rfl⟩
                        have xso_14 : so_14 10 0 = so_13 10 0 ∧ so_14 10 1 = so_13 10 1 ∧ so_14 10 2 = so_13 10 2 ∧ so_14 10 3 = so_13 10 3 := by rw [eso_14, us_n _ _ (by decide)]; exact ⟨rfl, rfl, rfl, rfl⟩
                        replace h : sT Γ s (xW Γ d hm mc so_14 tl t wr) H locs := by rw [eso_14]; exact h
                        refine lv_iinc (v := nI (m0 + 1)) (lv' := [(2, .int (nI (m0 + 1))), (7, .int (nI kd_11)), (6, .int (nI q)), (5, .int (nI ix)), (4, .int (nI r)), (3, .int (nI E2)), (0, .ref (d 2)), (1, .ref (d (20 + 3 * n0)))]) C.x C.b dc_S_writeTo_149 hl (k := 5) rfl (nI_1 m0) (by decide) rfl (fun ls hl => ?_)
                        refine lv_aload_n C.x C.b dc_S_writeTo_152 rfl (lv_at hl 7 rfl) ?_
                        refine rg_getN C h (17 + n0) (lk_T (hn)) rfl in_T 3 (by decide) fl_S_97 rfl dc_S_writeTo_153 ?_
                        refine lv_iload C.x C.b dc_S_writeTo_156 (lv_at hl 4 rfl) ?_
                        refine lv_iconst (v := (nI 3)) C.x C.b dc_S_writeTo_158 (by decide +kernel) ?_
                        refine lv_imul C.x C.b dc_S_writeTo_159 ?_
                        refine tp_i (pk_mul r 3) ?_
                        refine lv_iload C.x C.b dc_S_writeTo_160 (lv_at hl 2 rfl) ?_
                        refine lv_iadd C.x C.b dc_S_writeTo_162 ?_
                        refine tp_i (nI_add (r * 3) q) ?_
                        refine lv_aload_n C.x C.b dc_S_writeTo_163 rfl (lv_at hl 6 rfl) ?_
                        refine rg_get C h 2 rfl rfl in_S 12 (by decide) fl_S_45 rfl dc_S_writeTo_164 ?_
                        refine lv_iload C.x C.b dc_S_writeTo_167 (lv_at hl 1 rfl) ?_
                        refine rg_ild C h 13 rfl (by omega) (by decide) dc_S_writeTo_169 ?_
                        refine rg_ist C h (97 + n0) (lk_N (hn)) (by omega) (by decide) dc_S_writeTo_170 (fun H locs h => ?_)
                        replace h := h.eq (st_N (hn) _)
                        obtain ⟨tb_15, etb_15⟩ : ∃ zz9, zz9 = us t n0 (us (t n0) 1 (us (t n0 1) ((r * 3) + q) (so_14 8 kd_11))) := ⟨_, rfl⟩
                        replace h : sT Γ s (xW Γ d hm mc so_14 tl tb_15 wr) H locs := by rw [etb_15]; exact h
                        refine lv_iinc (v := nI (q + 1)) (lv' := [(6, .int (nI (q + 1))), (2, .int (nI (m0 + 1))), (7, .int (nI kd_11)), (5, .int (nI ix)), (4, .int (nI r)), (3, .int (nI E2)), (0, .ref (d 2)), (1, .ref (d (20 + 3 * n0)))]) C.x C.b dc_S_writeTo_171 hl (k := 2) rfl (nI_1 q) (by decide) rfl (fun ls hl => ?_)
                        refine lv_goto (tgt := 94) C.x C.b dc_S_writeTo_174 (by decide) ?_
                        have ez8 : so_14 8 kd_11 = m0 := by rw [eso_14, us_n _ _ (by decide), eso_13, us_s, us_s]
                        have hW : WI M so so_14 (tb_15 n0 1) E2 (m0 + 1) (3 * r + (q + 1)) (r + 1) := hW.new (by omega) (by omega) hKS (by rw [← z102]; exact q130) (by rw [eso_14, us_n _ _ (by decide), eso_13, us_s]) (by rw [eso_14, us_s, eso_13, us_n _ _ (by decide)]) (fun n n8 n9 => by rw [eso_14, us_n _ _ n9, eso_13, us_n _ _ n8]) (by rw [etb_15, us_s, us_s, ez8])
                        have hix : ix = so 7 (so_14 9 r) := by rw [eix2, eso_14, us_s, us_n _ _ (by omega), eso_13, us_n _ _ (by decide)]
                        have hT : ∀ a, a ≠ n0 → tb_15 a = tb a := fun a ha => by rw [etb_15, us_n _ _ ha]; exact hT a ha
                        exact ih_94 (q + 1) (m0 + 1) so_14 tb_15 _ _ _ (by omega) (by first | assumption | omega) (by first | exact hW | exact hW2) (by omega) (by first | assumption | omega) (by first | exact hix | exact eix2) h (lv_sub hl [0, 3, 4, 5, 1, 6, 7] rfl)
                exact lp_94 _ 0 m0 z t _ _ _ (Nat.lt_succ_self _) (by first | assumption | omega) (by first | exact hW | exact hW2) (by omega) (by first | assumption | omega) (by first | exact hix | exact eix2) h (lv_sub hl [0, 2, 3, 1, 4, 5, 6] rfl)
        exact lp_47 _ 0 1 0 so_2 tb _ _ _ (Nat.lt_succ_self _) (by first | assumption | omega) (by first | assumption | omega) (by first | assumption | omega) h (lv_sub hl [0, 1, 2, 3, 4] rfl)
      · refine lv_aload_n C.x C.b dc_S_writeTo_10 rfl (lv_at hl 1 rfl) ?_
        refine rg_get C h 2 rfl rfl in_S 12 (by decide) fl_S_45 rfl dc_S_writeTo_11 ?_
        refine lv_iload_n C.x C.b dc_S_writeTo_14 rfl (lv_at hl 0 rfl) ?_
        refine lv_aload_n C.x C.b dc_S_writeTo_15 rfl (lv_at hl 1 rfl) ?_
        refine rg_get C h 2 rfl rfl in_S 11 (by decide) fl_S_58 rfl dc_S_writeTo_16 ?_
        refine rg_ist C h 13 rfl (by omega) (by decide) dc_S_writeTo_19 (fun H locs h => ?_)
        obtain ⟨so_16, eso_16⟩ : ∃ zz9, zz9 = us z 8 (us (z 8) k (z 10 2)) := ⟨_, rfl⟩
        have xso_16 : so_16 10 0 = z 10 0 ∧ so_16 10 1 = z 10 1 ∧ so_16 10 2 = z 10 2 ∧ so_16 10 3 = z 10 3 := by rw [eso_16, us_n _ _ (by decide)]; exact ⟨rfl, rfl, rfl, rfl⟩
        replace h : sT Γ s (xW Γ d hm mc so_16 tl tb wr) H locs := by rw [eso_16]; exact h
        refine lv_iinc (v := nI (k + 1)) (lv' := [(2, .int (nI (k + 1))), (0, .ref (d 2)), (1, .ref (d (20 + 3 * n0)))]) C.x C.b dc_S_writeTo_20 hl (k := 0) rfl (nI_1 k) (by decide) rfl (fun ls hl => ?_)
        refine lv_goto (tgt := 2) C.x C.b dc_S_writeTo_23 (by decide) ?_
        have hz : ∀ n, n ≠ 8 → so_16 n = so n := fun n hn8 => by rw [eso_16, us_n _ _ hn8]; exact hz n hn8
        have h8 : ∀ q, q < k + 1 → so_16 8 q = so 10 2 := fun q hq => by
          rw [eso_16, us_s]
          by_cases e : q = k
          · subst e; rw [us_s, z10]
          · rw [us_n _ _ e]; exact h8 q (by omega)
        exact ih_2 (k + 1) so_16 _ _ _ (by omega) (by first | assumption | omega) (by first | assumption | omega) (by first | assumption | omega) h (lv_sub hl [0, 1, 2] rfl)
  exact lp_2 _ 0 so _ _ _ (Nat.lt_succ_self _) (by first | assumption | omega) (by first | assumption | omega) (by first | assumption | omega) h (lv_sub hl [0, 1, 2] rfl)
end
section
/-! methods that throw -/
def strs : List (Nat × String) := [(32, "no such letters"), (142, "too many sets"), (149, "too many rests"), (138, "no such set"), (55, "no such way to join"), (79, "no such letter"), (88, "no such length"), (124, "no word"), (127, "no such letter in the word")]
def nwX (Γ : gG) (U : State) : Prop := vx_Zq Bundle.tN "UNASSIGNED_STACK" Bundle.steD (aA Γ) U U.heap ∧ vx_Zq Bundle.tN "SUPPRESSED_SENTINEL" Bundle.listD (aA Γ) U U.heap ∧ ∀ q ∈ strs, ∃ sa, vk_R rn_X q.1 q.2 sa U
theorem nwX.vm {Γ : gG} {s U : State} (e : s.vm = U.vm) (eh : s.heap = U.heap) (h : nwX Γ s) : nwX Γ U := by
  have a : s.vm.Alike U.vm := by rw [e]; exact Vm.Alike.refl _
  refine ⟨by rw [← eh]; exact vx_Zq.moved a h.1, by rw [← eh]; exact vx_Zq.moved a h.2.1, fun q hq => ?_⟩
  obtain ⟨sa, hs⟩ := h.2.2 q hq
  exact ⟨sa, vk_R.same e.symm hs⟩
theorem nwX.warm {Γ : gG} {s U : State} {locs : List Loc} (hS : va_S (aA Γ) s.heap U.heap locs) (hW : s.WarmedH U.vm) (h : nwX Γ s) : nwX Γ U := by
  refine ⟨vx_Zq.moved hW.alike (h.1.kept hS.2.1), vx_Zq.moved hW.alike (h.2.1.kept hS.2.1), fun q hq => ?_⟩
  obtain ⟨sa, hs⟩ := h.2.2 q hq
  exact ⟨sa, vk_R.warm hW hs⟩
def pRx (Γ : gG) (ws : va_W) (U : State) : Prop := pR Γ ws U ∧ nwX Γ U
def xQx (Γ : gG) {SX : Type} (px : String → SX → Prop) (wx : SX → va_W) : String → State → State → Prop := fun E st t => ∃ u : SX, px E u ∧ va_P Γ.1 cls (wx u) t.heap ∧ va_D (aA Γ) (wx u) ∧ va_F (aA Γ) st t
def cTx (l : Launch) (Γ : gG) (y : MethodName) (b : ByteArray) (nL : Nat) (ret : Option FieldType) (rm : Room) (As : List Value) (ws : va_W) {S : Type} (post : Option Value → S → Prop) (ws' : S → va_W) {SX : Type} (px : String → SX → Prop) (wx : SX → va_W) : Prop :=
  vx_Met l y (.code y b nL ret :: gw) rm (va_Pc As (pRx Γ ws)) (qQ Γ post ws') (xQx Γ px wx) rm.cells rm.slots (aA Γ)
theorem nwH.use {s : State} {args : Array Value} (h : nwH s) : ∀ w ∈ nwL, w.before args s = true := by
  intro w hw
  have h1 := (List.mem_filter.mp hw).2
  have h0 := h w hw
  cases w <;> first | exact va_Nw.use rfl h0 | cases h1
/-- the words of a throw, out of the tables -/
def thW (ic : Nat) (E : String) (names : List String) : Prop := (∀ w ∈ (vx_atS rn_X ic E names).filter goodWord, w ∈ gw) ∧ (∀ w ∈ (vx_atS rn_X ic E names).filter (fun w => !goodWord w), w ∈ nwL) ∧ ∀ w ∈ vx_atS rn_X ic E names, vx_ot w = true
section XT
variable {p : Program} {l : Launch} {e : Env} {R : Room} {s : State} {m : MethodId} {args : Array Value} {below : List Frame} {meth : Method} {c : Code} {H : Heap} {locs : List Loc} {cells slots : Nat} {Q : State → Prop}
variable {Γ : gG} {cc : ByteArray} {ret : Option FieldType} {own : String} {nL pc : Nat} {ls : Array Slot} {rest : List Value} {ws : va_W}
theorem cTx.start {y : MethodName} {rm : Room} {As : List Value} {S : Type} {post : Option Value → S → Prop} {ws' : S → va_W} {SX : Type} {px : String → SX → Prop} {wx : SX → va_W} (hy : plainName y.cls = true) (hn : (lg_sl As).length ≤ nL)
    (body : ∀ (p : Program) (e : Env) (s : State) (m : MethodId) (args : Array Value) (below : List Frame) (meth : Method) (c : Code) (ls : Array Slot) (Q : State → Prop), Q = vx_MQ below (qQ Γ post ws') (xQx Γ px wx) args s rm.cells rm.slots (aA Γ) → cX Γ p s m args meth c cc ret y.cls nL → meth.name = y.name → (∀ x ∈ c.exceptionTable.toList, False) → nwX Γ s → sT Γ s ws s.heap [] → lv_has ls nL (lv_args 0 As) →
      W p l e rm s m args below meth c s.heap [] 0 0 Q (F0 m 0 ls [])) : cTx l Γ y cc nL ret rm As ws post ws' px wx := by
  refine vx_ofW (cc := cc) (maxL := nL) (ret := ret) hy rfl ?_
  intro p e s m args below meth c s₁ B hml hno hv
  obtain ⟨rfl, ⟨hP, hD, hK, hN, hz⟩, hX⟩ := hv
  have hts := atoms_spec (ws := Cond.code y cc nL ret :: gw) B.pre
  have hl := lv_entry As (n := nL) hn
  rw [lg_entry_eq]
  exact body p e s m _ below meth c _ _ rfl ⟨B.exec, B.bytes, B.returns, hml, findClass_of_methodNamed B.named, fun w h => hts w (List.mem_cons_of_mem _ h), B.notSynchronized, hK, hN, hz⟩ (name_of_methodNamed B.named B.method).1 hno hX ⟨hP, hD, va_S.rf⟩ hl
theorem rt_a {S : Type} {post : Option Value → S → Prop} {ws' : S → va_W} {v : Nat} {nm : String} (C : cX Γ p s m args meth c cc (some (.object nm)) own nL) (u : S) (h : sT Γ s (ws' u) H locs) (hp : post (some (.ref v)) u) (hdg : decode cc pc = .ok (.areturn, 1)) :
    W p l e R s m args below meth c H locs cells slots (MQ below (qQ Γ post ws') args s cells slots (aA Γ)) (F0 m pc ls [.ref v]) :=
  W.aret C.x C.b C.r (Or.inl ⟨_, rfl⟩) (Or.inr ⟨_, rfl⟩) (fun t ht _ => ⟨⟨_, u, rfl, hp, by rw [ht]; exact h.1, h.2.1⟩, h.2.2.F ht⟩) h.2.2.2.2 hdg C.lk
theorem pRx.blind {As : List Value} : FrameBlind (va_Pc As (pRx Γ ws)) := by
  intro a U g mk q
  obtain ⟨q0, ⟨q1, q2, q3, q4, q5⟩, q6⟩ := q
  exact ⟨q0, ⟨q1, q2, va_K.moved (u := U) (U := U.calling g mk a) (Vm.Alike.refl U.vm) q3, nwH.vm (s := U) (U := U.calling g mk a) rfl q4, q5⟩, nwX.vm (s := U) (U := U.calling g mk a) rfl rfl q6⟩
theorem sT.prex (C : cX Γ p s m args meth c cc ret own nL) (hX : nwX Γ s) (h : sT Γ s ws H locs) {As : List Value} : ∀ U : State, U.heap = H → s.WarmedH U.vm → va_Pc As (pRx Γ ws) As.toArray U := fun U hU hW =>
  ⟨rfl, ⟨by rw [hU]; exact h.1, h.2.1, va_K.moved hW.alike C.k, nwH.warm hW C.w, by rw [hU]; exact Nat.le_trans C.z h.2.2.1⟩, nwX.warm (locs := locs) (by rw [hU]; exact h.2.2) hW hX⟩
theorem kx_run {S : Type} {post : Option Value → S → Prop} {ws' : S → va_W} {SX : Type} {px : String → SX → Prop} {wx : SX → va_W} {mc ms : Nat} {a : Array Value} {st0 : List Value} (h : sT Γ s ws H locs) (hr : vx_Run p l e R s m args below meth c H locs cells slots mc ms (F0 m pc ls st0) rest (qQ Γ post ws' a) (xQx Γ px wx) (aA Γ))
    (kx : ∀ (E : String) (ce : Cell) (q : Addr) (u : SX) (H1 : Heap) (locs1 : List Loc), px E u → sT Γ s (wx u) H1 locs1 → H1[q]? = some ce → ce.vm = .none → s.vm.findClass E = some ce.cls → vx_W p l e R s m args below meth c H1 locs1 (cells + mc) (slots + ms) Q (F0 m pc ls rest) q)
    (kk : ∀ (v : Option Value) (u : S) (H1 : Heap) (locs1 : List Loc), post v u → sT Γ s (ws' u) H1 locs1 → W p l e R s m args below meth c H1 locs1 (cells + mc) (slots + ms) Q (F0 m (pc + 3) ls (v.toList ++ rest))) : W p l e R s m args below meth c H locs cells slots Q (F0 m pc ls st0) := by
  intro T hT X
  have hS := h.2.2
  have key : ∀ (st₀ t T' : State) (L : List Loc), st₀.heap = H → T'.heap = t.heap → (∀ q ∈ L, aA Γ q.base) → va_F (aA Γ) st₀ t → va_S (aA Γ) s.heap T'.heap (locs ++ L) := fun st₀ t T' L h0 e1 hL hF => by
    obtain ⟨hz, hk⟩ := hF
    rw [h0] at hz hk
    exact ⟨Nat.le_trans hS.1 (by rw [e1]; exact hz), fun q h1 h2 => by rw [e1, hk q (Nat.lt_of_lt_of_le h1 hS.1) h2]; exact hS.2.1 q h1 h2, fun q hq => by
      rcases List.mem_append.mp hq with h | h
      · exact hS.2.2 q h
      · exact hL q h⟩
  rcases hr T hT X with ⟨v, st₀, t, T', L, h0, X', hL, e1, e2, ⟨⟨v', u, hv, hp, hb, hd⟩, hF⟩, st⟩ | ⟨q, st₀, t, T', L, E, ce, h0, X', hL, e1, e2, ⟨u, hp, hb, hd, hF⟩, hce, hcv, hcl, st⟩
  · cases hv
    obtain ⟨t2, a1, b1⟩ := kk v u T'.heap (locs ++ L) hp ⟨by rw [e1]; exact hb, hd, key st₀ t T' L h0 e1 hL hF⟩ T' rfl X'
    exact ⟨t2, st t2 a1, b1⟩
  · obtain ⟨t2, a1, b1⟩ := kx E ce q u T'.heap (locs ++ L) hp ⟨by rw [e1]; exact hb, hd, key st₀ t T' L h0 e1 hL hF⟩ (by rw [e1]; exact hce) hcv hcl T' rfl X'
    exact ⟨t2, st.trans a1, b1⟩
theorem kx_V {S : Type} {post : Option Value → S → Prop} {ws' : S → va_W} {SX : Type} {px : String → SX → Prop} {wx : SX → va_W} {y : MethodName} {b : ByteArray} {nLy idx n a q0 ci N : Nat} {rety : Option FieldType} {rm : Room} {cn : String} {T : u_T} {fs As : List Value} (C : cX Γ p s m args meth c cc ret own nL) (hX : nwX Γ s) (h : sT Γ s ws H locs) (hl : ls.size = nL)
    (hM : cTx l Γ y b nLy rety rm (.ref a :: As) ws post ws' px wx) (hm : mW cn y b nLy rety n) (hk : Cond.methodLink own idx y ∈ gw) (he : ws[q0]? = some (a, .inr (ci, fs))) (hc : cls[ci]? = some (cn, T, N)) (hn : As.length = n) (hR : rm.frames + 1 ≤ R.frames ∧ 8 + (nLy + 11) + rm.locals ≤ R.locals) (hf : cells + rm.cells ≤ R.cells ∧ slots + rm.slots ≤ R.slots) (hs : (rest.map fun v => v.category).sum ≤ 8)
    (hdg : decode cc pc = .ok (.invokevirtual idx, 3))
    (kx : ∀ (E : String) (ce : Cell) (q : Addr) (u : SX) (H1 : Heap) (locs1 : List Loc), px E u → sT Γ s (wx u) H1 locs1 → H1[q]? = some ce → ce.vm = .none → s.vm.findClass E = some ce.cls → vx_W p l e R s m args below meth c H1 locs1 (cells + rm.cells) (slots + rm.slots) Q (F0 m pc ls rest) q)
    (kk : ∀ (v : Option Value) (u : S) (H1 : Heap) (locs1 : List Loc), post v u → sT Γ s (ws' u) H1 locs1 → W p l e R s m args below meth c H1 locs1 (cells + rm.cells) (slots + rm.slots) Q (F0 m (pc + 3) ls (v.toList ++ rest))) : W p l e R s m args below meth c H locs cells slots Q (F0 m pc ls (As.reverse ++ .ref a :: rest)) := by
  refine kx_run h (vx_runV (As := As) (rest := rest) (Ts := gw) ⟨C.x, C.b, C.n, C.o, C.t⟩ hM (cwV n C.t (gw_in (fun w hw => ?_)) rfl rfl rfl hm.2.2.2.2 hR) ⟨pRx.blind, va_recv C.k h.1 hc he, h.prex C hX⟩ rfl hn hl rfl (lv_room (m := m) (pc := pc) (ls := ls) (rest := []) hs) hdg hf) kx kk
  simp only [wsV, List.cons_append, List.nil_append, List.mem_cons] at hw
  rcases hw with rfl | rfl | rfl | rfl | rfl | hw
  · exact hk
  · exact hm.2.1
  · exact hm.2.2.1
  · exact hm.2.2.2.1
  · exact hm.1
  · exact hw
/-- thrown on to the caller -/
theorem kx_out {S : Type} {post : Option Value → S → Prop} {ws' : S → va_W} {SX : Type} {px : String → SX → Prop} {wx : SX → va_W} {mc ms : Nat} {E : String} {ce : Cell} {q : Addr} (C : cX Γ p s m args meth c cc ret own nL) (hno : ∀ x ∈ c.exceptionTable.toList, False) (u : SX) (h : sT Γ s (wx u) H locs) (hp : px E u) (hcell : H[q]? = some ce) (hv : ce.vm = .none) (hcl : s.vm.findClass E = some ce.cls) (hc : cells ≤ mc) (hs : slots ≤ ms) :
    vx_W p l e R s m args below meth c H locs cells slots (vx_MQ below (qQ Γ post ws') (xQx Γ px wx) args s mc ms (aA Γ)) (F0 m pc ls rest) q :=
  vx_out (fun x hx => absurd hx (hno x)) C.lk hcell hv hcl (fun t ht _ => ⟨u, hp, by rw [ht]; exact h.1, h.2.1, h.2.2.F ht⟩) h.2.2.2.2 hc hs
/-- throw new E("text") -/
theorem rt_thr {S : Type} {post : Option Value → S → Prop} {ws' : S → va_W} {SX : Type} {px : String → SX → Prop} {wx : SX → va_W} {mc ms ik is ic : Nat} {E text : String} {names : List String} (C : cX Γ p s m args meth c cc ret rn_X nL) (hst : l.stackTraces = false) (hno : ∀ x ∈ c.exceptionTable.toList, False) (hX : nwX Γ s) (hsz : ls.size = nL) (u : SX) (h : sT Γ s (wx u) H locs) (hp : px E u)
    (hE : Bundle.fit E = true) (hN : ∀ n ∈ names, Bundle.fit n = true) (hT : thW ic E names) (hk : Cond.classLink rn_X ik E ∈ gw) (hini : Cond.initialized E ∈ gw) (hstr : (is, text) ∈ strs)
    (d0 : decode cc pc = .ok (.new ik, 3)) (d3 : decode cc (pc + 3) = .ok (.dup, 1)) (d4 : decode cc (pc + 4) = .ok (.ldc is, 2)) (d6 : decode cc (pc + 6) = .ok (.invokespecial ic, 3)) (d9 : decode cc (pc + 9) = .ok (.athrow, 1))
    (hRf : names.length + 3 < R.frames) (hRl : (rest.map fun v => v.category).sum + (13 * (names.length + 1) + 43) ≤ R.locals) (hRc : cells + 1 ≤ R.cells) (hRs : slots + 6 ≤ R.slots) (hc : cells + 1 ≤ mc) (hs : slots + 6 ≤ ms) :
    W p l e R s m args below meth c H locs cells slots (vx_MQ below (qQ Γ post ws') (xQx Γ px wx) args s mc ms (aA Γ)) (F0 m pc ls rest) := by
  obtain ⟨sa, hsa⟩ := hX.2.2 _ hstr
  refine vx_throwS (A := aA Γ) (names := names) C.x C.b hst C.o hE hN (C.t _ hk) (C.t _ hini) hsa (vx_hat (fun w hw => C.t w (hT.1 w hw)) hT.2.1 C.w.use) (fun w hw => ?_) hX.1 hX.2.1 h.2.2 (by rw [C.n]; exact hsz) d0 d3 d4 d6 d9 (fun x hx => absurd hx (hno x)) hRf hRl hRc hRs C.lk (fun t hal hz hh => ⟨u, hp, ?_, h.2.1, ?_⟩) h.2.2.2.2 hc hs
  · rcases List.mem_cons.mp hw with rfl | hw
    · rfl
    · rcases List.mem_cons.mp hw with rfl | hw
      · rfl
      · exact hT.2.2 w hw
  · exact h.1.kept (fun k x hx => hh x.1 ((h.1 k x hx).lt))
  · exact ⟨Nat.le_trans h.2.2.1 hz, fun q h1 h2 => (hh q (Nat.lt_of_lt_of_le h1 h.2.2.1)).trans (h.2.2.2.1 q h1 h2)⟩
end XT
abbrev en_iae : String := "java/lang/IllegalArgumentException"
abbrev ns_iae : List String := ["java/lang/RuntimeException", "java/lang/Exception"]
set_option maxRecDepth 100000 in theorem tw_iae : thW 34 en_iae ns_iae := ⟨by decide +kernel, by decide +kernel, by decide +kernel⟩
set_option maxRecDepth 100000 in theorem tk_iae : Cond.classLink rn_X 30 en_iae ∈ gw := gw_t 170 rfl rfl
set_option maxRecDepth 100000 in theorem ti_iae : Cond.initialized en_iae ∈ gw := gw_t 11 rfl rfl
abbrev en_ioe : String := "java/lang/IndexOutOfBoundsException"
abbrev ns_ioe : List String := ["java/lang/RuntimeException", "java/lang/Exception"]
set_option maxRecDepth 100000 in theorem tw_ioe : thW 144 en_ioe ns_ioe := ⟨by decide +kernel, by decide +kernel, by decide +kernel⟩
set_option maxRecDepth 100000 in theorem tk_ioe : Cond.classLink rn_X 140 en_ioe ∈ gw := gw_t 244 rfl rfl
set_option maxRecDepth 100000 in theorem ti_ioe : Cond.initialized en_ioe ∈ gw := gw_t 12 rfl rfl
abbrev en_nse : String := "java/util/NoSuchElementException"
set_option maxRecDepth 100000 in theorem tk_nse : Cond.classLink rn_X 122 en_nse ∈ gw := gw_t 593 rfl rfl
set_option maxRecDepth 100000 in theorem ti_nse : Cond.initialized en_nse ∈ gw := gw_t 20 rfl rfl
end
section
/-! an exception whose constructor passes the text on by another entry of its pool -/
def rx_at (own : String) (ic : Nat) (X Y : String) (ix : Nat) (rx : ByteArray) (names : List String) : List Cond :=
  Bundle.throwableAtoms ++ Bundle.throwableSAtoms ++ (Bundle.passSAtoms X Y ix rx ++ Bundle.chainSAtoms Y names) ++
  [.methodLink own ic (Bundle.initS X), .instantiable X 6, .castable X X, .selects X Bundle.tFill0 Bundle.tFill0, .selects X Bundle.tFill Bundle.tFill,
   .lays X Bundle.tN "cause" "Ljava/lang/Throwable;", .lays X Bundle.tN "stackTrace" Bundle.steD, .lays X Bundle.tN "suppressedExceptions" Bundle.listD, .lays X Bundle.tN "detailMessage" "Ljava/lang/String;",
   .isRef (.static Bundle.tN "UNASSIGNED_STACK" Bundle.steD), .isRef (.static Bundle.tN "SUPPRESSED_SENTINEL" Bundle.listD),
   .fieldLink Bundle.tN 198 Bundle.tN "backtrace" "Ljava/lang/Object;", .lays Bundle.tN Bundle.tN "backtrace" "Ljava/lang/Object;", .lays X Bundle.tN "backtrace" "Ljava/lang/Object;"]
set_option maxHeartbeats 2000000 in
theorem rx_ctor {p : Program} {l : Launch} {e : Env} {R : Room} {s : State} {m : MethodId} {args : Array Value} {below : List Frame} {meth : Method} {c : Code} {W : State} {locs : List Loc} {cells slots : Nat}
    (X : Stand p l e R s m args below meth c W locs cells slots) (hexec : p.tables.exec = Jvm.exec) (htr : e.platform.stackTraces = false) {own E Y : String} {names : List String} {ic ix : Nat} {rx : ByteArray}
    (x0 : decode rx 0 = .ok (.aload_n 0, 1)) (x1 : decode rx 1 = .ok (.aload_n 1, 1)) (x2 : decode rx 2 = .ok (.invokespecial ix, 3)) (x5 : decode rx 5 = .ok (.return_, 1))
    (hown : s.vm.findClass own = some m.cls) (hE : Bundle.fit E = true) (hY : Bundle.fit Y = true) (hnames : ∀ n ∈ names, Bundle.fit n = true)
    (h : ∀ a ∈ rx_at own ic E Y ix rx names, a.before args s = true)
    (hlocs : ∀ x ∈ locs, ∀ cell, s.heap[x.base]? = some cell → cell.vm.isStatics = false)
    {a : Addr} {cE : ClassId} {kE : Class} (hfE : s.vm.findClass E = some cE) (hkE : s.vm.classes[cE]? = some kE) (hcell : W.heap[a]? = some (freshCell cE kE)) (hnew : s.heap.size ≤ a)
    {msg : Value} (hmsg : msg.isRef = true)
    {g : JFrame} (hg : g.method = m) (hsize : g.locals.size = c.maxLocals) (hlocked : g.locked = none) (hentered : g.entered = []) {rest : List Value} (hstack : g.stack = msg :: .ref a :: .ref a :: rest)
    (hd6 : decode c.code g.pc = .ok (.invokespecial ic, 3)) (hd9 : decode c.code (g.pc + 3) = .ok (.athrow, 1)) (hout : ∀ x ∈ c.exceptionTable.toList, covers x (g.pc + 3) = false)
    (hRf : names.length + 4 < R.frames) (hRl : 2 * g.monitorRoom + ((Value.ref a :: rest).map fun v => v.category).sum + (13 * (names.length + 2) + 42) ≤ R.locals) (hlocks : meth.locks = false) :
    ∃ U : State, Steps p.tables e below (W.setTop g) U ∧ U.status = .running ∧ Ended U below (.threw a) ∧ s.WarmedH U.vm ∧ s.sameButNew ({ U with vm := s.vm } : State) locs cells slots ∧
      ∃ ce, U.heap[a]? = some ce ∧ ce.vm = .none ∧ s.vm.findClass E = some ce.cls := by
  have howns : e.platform.frameOwnsMonitors = true := by rw [X.admits.platform]
  have hfin : e.platform.finalization = false := by rw [X.admits.platform]
  have hpl : e.platform.magicAccessors = ({} : Platform).magicAccessors := by rw [X.admits.platform]
  have a' : ∀ x, x ∈ rx_at own ic E Y ix rx names → x.holds args s none s [] = true := fun x hx => h x hx
  obtain ⟨T, Z0, L, -, F⟩ := ThrowableC.of_atoms (args := args) howns hfin hpl (fun x hx => h x (by simp [rx_at, hx]))
  obtain ⟨Z, M, LZ, LM, hnZ⟩ := Init0T.ofS_atoms (args := args) hpl L F (fun x hx => h x (by simp [rx_at, hx]))
  obtain ⟨P1, L1, hP1m, hs1⟩ := PassC.ofS_atoms (args := args) (s := s) hpl (X := E) (Y := Y) (Bundle.fit_spec hE).1 (Bundle.fit_spec hY).2 x0 x1 x2 x5 (fun x hx => h x (by simp [rx_at, hx]))
  obtain ⟨P2, Ps, hlen, L2, hL, hP2m, hlink2, hlink⟩ := Bundle.chainS (args := args) hpl hnZ names Y hY hnames (fun x hx => h x (by simp [rx_at, hx]))
  have hlink1 : P1.sup = P2.m := Option.some.inj (hs1.symm.trans hP2m)
  have hfound : s.vm.findClass E = some P1.m.cls := findClass_of_methodNamed hP1m
  cases Option.some.inj (hfE.symm.trans hfound)
  obtain ⟨c1, kX', hc1, hk, hord, -, -, hn6⟩ := Cond.instantiable_spec (a' (.instantiable E 6) (by simp [rx_at]))
  cases Option.some.inj (hc1.symm.trans hfound)
  cases Option.some.inj (hkE.symm.trans hk)
  have hsel0 : selectMethod e.platform s.vm P1.m.cls T.fill0 = .method T.fill0 := by
    obtain ⟨c2, r2, m2, q1, q2, q3, q4, -⟩ := Cond.selects_spec (a' (.selects E Bundle.tFill0 Bundle.tFill0) (by simp [rx_at]))
    cases Option.some.inj (q1.symm.trans hfound)
    cases Option.some.inj (q2.symm.trans (State.methodFound?_of_named F.fill0 (by decide)))
    cases Option.some.inj (q3.symm.trans F.fill0)
    rw [Launch.admits_selectMethod X.admits]; exact q4
  have hselF : selectMethod e.platform s.vm P1.m.cls T.fill = .method T.fill := by
    obtain ⟨c2, r2, m2, q1, q2, q3, q4, -⟩ := Cond.selects_spec (a' (.selects E Bundle.tFill Bundle.tFill) (by simp [rx_at]))
    cases Option.some.inj (q1.symm.trans hfound)
    cases Option.some.inj (q2.symm.trans (State.methodFound?_of_named F.fill (by decide)))
    cases Option.some.inj (q3.symm.trans F.fill)
    rw [Launch.admits_selectMethod X.admits]; exact q4
  obtain ⟨cellS0, hcS0, hiss⟩ := F.statics
  obtain ⟨u0, hu0⟩ := Cond.staticRefV F.unassigned L.unassignedStatic L.statics hcS0 hiss (a' (.isRef (.static Bundle.tN "UNASSIGNED_STACK" Bundle.steD)) (by simp [rx_at]))
  obtain ⟨sen, hsen⟩ := Cond.staticRefV F.sentinel L.sentinelStatic L.statics hcS0 hiss (a' (.isRef (.static Bundle.tN "SUPPRESSED_SENTINEL" Bundle.listD)) (by simp [rx_at]))
  obtain ⟨ci198, i198, fB, hk198, hg198, ha198, hsB, -, hnB, htB, hffB⟩ := Cond.ownField (t := .object "java/lang/Object") F.found L.cls (by decide +kernel) (a' (.fieldLink Bundle.tN 198 Bundle.tN "backtrace" "Ljava/lang/Object;") (by simp [rx_at])) (a' (.lays Bundle.tN Bundle.tN "backtrace" "Ljava/lang/Object;") (by simp [rx_at])) e.platform hpl
  obtain ⟨cellS, hcS', heS, -, hkeep⟩ := X.same.2.2.2.2.2 T.aS cellS0 hcS0
  have hcellS : W.heap[T.aS]? = some cellS := hcS'
  have hout' : ∀ i, (⟨T.aS, i⟩ : Loc) ∉ locs := fun i hmem => by
    have := hlocs _ hmem cellS0 hcS0
    rw [hiss] at this; cases this
  have hknownS : cellS.vm ≠ .unknown := by
    rw [heS]; intro hu
    rw [show cellS0.vm = .unknown from hu] at hiss
    cases hiss
  have hneS : T.aS ≠ a := Nat.ne_of_lt (Nat.lt_of_lt_of_le (Array.getElem?_eq_some_iff.mp hcS0).1 hnew)
  obtain ⟨iM, hffM⟩ := F.msg
  obtain ⟨tyC, dC, hdC, hdnC⟩ := Cond.laysAt hfound hk F.cause (a' (.lays E Bundle.tN "cause" "Ljava/lang/Throwable;") (by simp [rx_at]))
  obtain ⟨tyS, dS, hdS, hdnS⟩ := Cond.laysAt hfound hk F.stack (a' (.lays E Bundle.tN "stackTrace" Bundle.steD) (by simp [rx_at]))
  obtain ⟨tyP, dP, hdP, hdnP⟩ := Cond.laysAt hfound hk F.supp (a' (.lays E Bundle.tN "suppressedExceptions" Bundle.listD) (by simp [rx_at]))
  obtain ⟨tyM, dM, hdM, hdnM⟩ := Cond.laysAt hfound hk hffM (a' (.lays E Bundle.tN "detailMessage" "Ljava/lang/String;") (by simp [rx_at]))
  obtain ⟨tyB, dB, hdB, hdnB⟩ := Cond.laysAt hfound hk hffB (a' (.lays E Bundle.tN "backtrace" "Ljava/lang/Object;") (by simp [rx_at]))
  have bC := Cond.laysApart hdB hdC hdnB hdnC (by rw [hnB, F.causeName]; decide)
  have bS := Cond.laysApart hdB hdS hdnB hdnS (by rw [hnB, F.stackName]; decide)
  have bP := Cond.laysApart hdB hdP hdnB hdnP (by rw [hnB, F.suppName]; decide)
  have hskip : SkipFacts T e.platform s (fun u => u) u0 ((preparedCellV T.toThrowableT (freshCell P1.m.cls kE) a u0 sen).withEntry W.cur) :=
    ⟨{ ci198 := ci198, i198 := i198, fBack := fB }, ⟨hk198, hg198, ha198, hsB⟩, by
      have := fresh_default (c := P1.m.cls) tyB
      rw [htB] at this
      simpa [preparedCellV, Cell.setSlot, Cell.withEntry, Array.getElem?_setIfInBounds, bC, bS, bP, bC.symm, bS.symm, bP.symm, defaultValue] using this, fun _ _ => rfl⟩
  obtain ⟨tm, methC, cdC, kC, vm₁, hnC, -, -, -, -, -, -, -, hW₁, st1⟩ := Steps.initColdS (tb := p.tables) (e := e) (below := below) (s := s) (U := W) X.here hexec X.warmed hpl hown (t := Bundle.initS E) rfl rfl (Bundle.fit_spec hE).2
    (a' (.methodLink own ic (Bundle.initS E)) (by simp [rx_at])) (h (.instanceMethod (Bundle.initS E)) (by simp [rx_at, Bundle.passSAtoms])) (bytes := rx) (maxL := 2) (h (.code (Bundle.initS E) rx 2 none) (by simp [rx_at, Bundle.passSAtoms]))
    (f := g) hg (a := a) (msg := msg) (rest := .ref a :: rest) hstack hd6
  cases Option.some.inj (hnC.symm.trans hP1m)
  have X₁ := X.noted hW₁
  obtain ⟨vm₂, X₂, st2⟩ := X₁.ctorMessageOffV hexec (g := { g with stack := .ref a :: rest }) hg hsize T L Z LZ M LM (P1 :: P2 :: Ps)
    (fun P hP => by
      rcases List.mem_cons.mp hP with rfl | hP
      · exact L1
      · rcases List.mem_cons.mp hP with rfl | hP
        · exact L2
        · exact hL P hP) ⟨hlink1, hlink2, hlink⟩ (u0 := u0) (sen := sen) (self := a) hmsg (cell := freshCell P1.m.cls kE) (cellS := cellS)
    hcell (fun _ => by simp) (by simp) rfl rfl hsel0 hselF hcellS hneS hknownS (by rw [hkeep _ (hout' _)]; exact hu0) (by rw [hkeep _ (hout' _)]; exact hsen)
    (Takes.of_laid hk hord tyC (by rw [F.causeType]; rfl)) (Takes.of_laid hk hord tyS (by rw [F.stackType]; exact fits_refV_array _ u0)) (Takes.of_laid hk hord tyP (by rw [F.suppType]; exact fits_refV_object _ sen))
    (Takes.of_laid hk hord tyM (by rw [F.msgType]; exact fits_refV_object _ ⟨msg, hmsg⟩)) F.objLocals hskip htr [] hd6
    (by simp only [List.length_cons, hlen]; omega) (by simp only [List.length_cons, hlen]; exact hRl)
  obtain ⟨hwalk, hrun, hended, hWU, hsame⟩ := X₂.athrowLeaves hexec (g := { g with stack := .ref a :: rest, pc := g.pc + 3 }) hg hlocked hentered hout (a := a) (rest := rest) rfl hd9
  have hlt : a < ((W.setVm vm₁).setVm vm₂).heap.size := (Array.getElem?_eq_some_iff.mp hcell).1
  have hU := heapAt_setCell_self (s := (W.setVm vm₁).setVm vm₂) (plainBareV T.toThrowableT (freshCell P1.m.cls kE) a u0 sen msg) hlt
  refine ⟨_, st1 _ (fun acts => ?_), hrun, hended, hWU, hsame.weaken (fun y hy hlt' => ?_) (Nat.le_refl _) (Nat.le_refl _), _, hU, rfl, hfound⟩
  · rw [doInvoke_state]
    exact st2 _ hwalk
  · rcases List.mem_append.mp hy with h1 | h1
    · exact h1
    · exfalso
      have hb : y.base = a := by
        simp only [List.mem_cons, List.not_mem_nil, or_false] at h1
        rcases h1 with rfl | rfl | rfl | rfl | rfl <;> rfl
      rw [hb] at hlt'
      exact Nat.not_lt.mpr hnew hlt'
def rx_atF (ic : Nat) (X Y : String) (ix : Nat) (rx : ByteArray) (names : List String) : List Cond := (rx_at rn_X ic X Y ix rx names).filter vx_no
def thX (ic : Nat) (E Y : String) (ix : Nat) (rx : ByteArray) (names : List String) : Prop := (∀ w ∈ (rx_atF ic E Y ix rx names).filter goodWord, w ∈ gw) ∧ (∀ w ∈ (rx_atF ic E Y ix rx names).filter (fun w => !goodWord w), w ∈ nwL) ∧ ∀ w ∈ rx_atF ic E Y ix rx names, vx_ot w = true
section XNS
variable {p : Program} {l : Launch} {e : Env} {R : Room} {s : State} {m : MethodId} {args : Array Value} {below : List Frame} {meth : Method} {c : Code} {H : Heap} {locs : List Loc} {cells slots : Nat}
variable {Γ : gG} {cc : ByteArray} {ret : Option FieldType} {nL pc : Nat} {ls : Array Slot} {rest : List Value}
/-- throw new E("text"), E's constructor being rx -/
theorem rt_thrX {S : Type} {post : Option Value → S → Prop} {ws' : S → va_W} {SX : Type} {px : String → SX → Prop} {wx : SX → va_W} {mc ms ik is ic ix : Nat} {E Y text : String} {rx : ByteArray} {names : List String} (C : cX Γ p s m args meth c cc ret rn_X nL) (hst : l.stackTraces = false) (hno : ∀ x ∈ c.exceptionTable.toList, False) (hX : nwX Γ s) (hsz : ls.size = nL) (u : SX) (h : sT Γ s (wx u) H locs) (hp : px E u)
    (x0 : decode rx 0 = .ok (.aload_n 0, 1)) (x1 : decode rx 1 = .ok (.aload_n 1, 1)) (x2 : decode rx 2 = .ok (.invokespecial ix, 3)) (x5 : decode rx 5 = .ok (.return_, 1))
    (hE : Bundle.fit E = true) (hY : Bundle.fit Y = true) (hN : ∀ n ∈ names, Bundle.fit n = true) (hT : thX ic E Y ix rx names) (hk : Cond.classLink rn_X ik E ∈ gw) (hini : Cond.initialized E ∈ gw) (hstr : (is, text) ∈ strs)
    (d0 : decode cc pc = .ok (.new ik, 3)) (d3 : decode cc (pc + 3) = .ok (.dup, 1)) (d4 : decode cc (pc + 4) = .ok (.ldc is, 2)) (d6 : decode cc (pc + 6) = .ok (.invokespecial ic, 3)) (d9 : decode cc (pc + 9) = .ok (.athrow, 1))
    (hRf : names.length + 4 < R.frames) (hRl : (rest.map fun v => v.category).sum + (13 * (names.length + 2) + 43) ≤ R.locals) (hRc : cells + 1 ≤ R.cells) (hRs : slots + 6 ≤ R.slots) (hc : cells + 1 ≤ mc) (hs : slots + 6 ≤ ms) :
    W p l e R s m args below meth c H locs cells slots (vx_MQ below (qQ Γ post ws') (xQx Γ px wx) args s mc ms (aA Γ)) (F0 m pc ls rest) := by
  obtain ⟨sa, hstr1⟩ := hX.2.2 _ hstr
  have hat : ∀ w ∈ rx_atF ic E Y ix rx names, w.before args s = true := vx_hat (fun w hw => C.t w (hT.1 w hw)) hT.2.1 C.w.use
  intro T hT0 X
  have htr : e.platform.stackTraces = false := (show e.platform.stackTraces = l.stackTraces by rw [X.admits.platform]).trans hst
  have Z := vx_rebase X (R' := { frames := R.frames, locals := R.locals, cells := 1, slots := 6 }) (Nat.le_refl _) (Nat.le_refl _) hRc hRs
  obtain ⟨s', hA⟩ : ∃ z, z = (T.setVm s.vm).setFrames (.invoking m args :: below) := ⟨_, rfl⟩
  rw [← hA] at Z
  have hvm : s'.vm = s.vm := by rw [hA]; rfl
  have hhp : s'.heap = H := by rw [hA]; exact hT0
  have hW0 : s.WarmedH s'.vm := by rw [hvm]; exact State.WarmedH.refl s
  have hat' : ∀ w ∈ rx_atF ic E Y ix rx names, w.before args s' = true := fun w hw => vx_ot_at hW0 hvm.symm (hT.2.2 w hw) (hat w hw)
  have hk' : (Cond.classLink rn_X ik E).before args s' = true := vx_ot_at hW0 hvm.symm rfl (C.t _ hk)
  have hini' : (Cond.initialized E).before args s' = true := vx_ot_at hW0 hvm.symm rfl (C.t _ hini)
  have hU' : vx_Zq Bundle.tN "UNASSIGNED_STACK" Bundle.steD (aA Γ) s' s'.heap := by rw [hhp]; exact vx_Zq.moved hW0.alike (hX.1.kept h.2.2.2.1)
  have hN' : vx_Zq Bundle.tN "SUPPRESSED_SENTINEL" Bundle.listD (aA Γ) s' s'.heap := by rw [hhp]; exact vx_Zq.moved hW0.alike (hX.2.1.kept h.2.2.2.1)
  have hall0 : ∀ w ∈ rx_at rn_X ic E Y ix rx names, w.before args s' = true := vx_own hat' (vx_isRefq hU'.1) (vx_isRefq hN'.1) hU'.2.word hN'.2.word
  have hown' : s'.vm.findClass rn_X = some m.cls := by rw [hvm]; exact C.o
  have hins : (Cond.instantiable E 6).before args s' = true := hall0 _ (by simp [rx_at])
  have hb := C.b
  obtain ⟨vm₁, cE, kE, hfE, hkE, -, -, X₁, st1⟩ := Z.newCold C.x (own := rn_X) (C := E) (index := ik) (n := 6) hown' hk' hins hini'
    (g := F0 m pc ls rest) rfl (by rw [hb]; exact d0) (Nat.le_refl _) (Nat.le_refl _)
  generalize hT1 : (T.setVm vm₁).pushCell { cls := cE, slots := kE.instanceTypes.map defaultValue, vm := .none } = T1 at X₁ st1
  have hcat : (Value.ref T.heap.size).category = 1 := rfl
  have hcellA : T1.heap[T.heap.size]? = some (freshCell cE kE) := by rw [← hT1]; exact State.heap_pushCell_size _ _
  have d3' : decode c.code (pc + 3) = .ok (.dup, 1) := by rw [hb]; exact d3
  have d4' : decode c.code (pc + 4) = .ok (.ldc is, 2) := by rw [hb]; exact d4
  have hstr' : vk_R rn_X is text sa s' := vk_R.warm hW0 hstr1
  have hout : ∀ x ∈ c.exceptionTable.toList, covers x (pc + 9) = false := fun x hx => absurd hx (hno x)
  obtain ⟨U, hsteps, hrun, hend, hW, hsame, ce, hce, hcv, hcl0⟩ := rx_ctor X₁ C.x htr (own := rn_X) (E := E) (Y := Y) (names := names) (ic := ic) x0 x1 x2 x5 hown' hE hY hN hall0 (fun x hx => nomatch hx) hfE hkE hcellA (by rw [hhp, hT0]; exact Nat.le_refl _) (msg := .ref sa) rfl
    (g := { method := m, pc := pc + 6, locals := ls, stack := .ref sa :: .ref T.heap.size :: .ref T.heap.size :: rest, locked := none }) rfl (by rw [C.n]; exact hsz) rfl rfl (rest := rest) rfl
    (by rw [hb]; exact d6) (by rw [hb]; exact d9) hout hRf (by simp only [List.map_cons, List.sum_cons, hcat]; have : ({ method := m, pc := pc + 6, locals := ls, stack := .ref sa :: .ref T.heap.size :: .ref T.heap.size :: rest, locked := none } : JFrame).monitorRoom = 0 := rfl; omega) C.lk
  obtain ⟨f1, f2⟩ := vx_frame hsame
  rw [hhp] at f1 f2
  have hWs : s.WarmedH U.vm := State.WarmedH.trans hW0 hW
  have hcl : s.vm.findClass E = some ce.cls := by rw [hvm] at hcl0; exact hcl0
  have hall : s.sameButNew ({ U with vm := s.vm } : State) locs mc ms := by
    subst hA
    obtain ⟨e1, e2⟩ := hsame
    rw [State.setFrames_setFrames] at e1
    have h2 : (T.setVm s.vm).sameButNew ({ U with vm := s.vm } : State) [] (0 + 1) (0 + 6) := ⟨e1, e2⟩
    have h3 := X.same.trans h2
    rw [List.append_nil] at h3
    exact h3.mono hc hs
  have hkeep : ∀ q : Nat, q < H.size → U.heap[q]? = H[q]? := fun q hq => f2 q hq (fun z hz => nomatch hz)
  refine ⟨U, ?_, .threw T.heap.size, hrun, hend, Or.inr ⟨T.heap.size, rfl, E, ce, locs, ⟨u, hp, h.1.kept (fun k x hx => hkeep x.1 ((h.1 k x hx).lt)), h.2.1, ⟨Nat.le_trans h.2.2.1 f1, fun q h1 h2 => (hkeep q (Nat.lt_of_lt_of_le h1 h.2.2.1)).trans (h.2.2.2.1 q h1 h2)⟩⟩, hce, hcv, hcl, hWs, hall, h.2.2.2.2⟩⟩
  refine st1 _ ?_
  show Steps p.tables e below (T1.setTop { method := m, pc := pc + 3, locals := ls, stack := .ref T.heap.size :: rest, locked := none }) _
  have hexec := C.x
  jvm_step X₁.here [X₁.here.top, hexec, d3', Value.category]
  exact X₁.ldcString hexec (own := rn_X) (text := text) (index := is) (a := sa) hown' hstr'.1 hstr'.2
    (g := { method := m, pc := pc + 4, locals := ls, stack := .ref T.heap.size :: .ref T.heap.size :: rest, locked := none }) rfl d4' _ hsteps
end XNS
abbrev ny_nse : String := "java/lang/RuntimeException"
abbrev ns_nse : List String := ["java/lang/Exception"]
abbrev bc_nse : ByteArray := prog_22_method_4_code
set_option maxRecDepth 100000 in theorem tw_nse : thX 126 en_nse ny_nse 13 bc_nse ns_nse := ⟨by decide +kernel, by decide +kernel, by decide +kernel⟩
theorem xd_nse0 : decode bc_nse 0 = .ok (.aload_n 0, 1) := by decide +kernel
theorem xd_nse1 : decode bc_nse 1 = .ok (.aload_n 1, 1) := by decide +kernel
theorem xd_nse2 : decode bc_nse 2 = .ok (.invokespecial 13, 3) := by decide +kernel
theorem xd_nse5 : decode bc_nse 5 = .ok (.return_, 1) := by decide +kernel
end
section
section XN
variable {p : Program} {l : Launch} {e : Env} {R : Room} {s : State} {m : MethodId} {args : Array Value} {below : List Frame} {meth : Method} {c : Code} {H : Heap} {locs : List Loc} {cells slots : Nat} {Q : State → Prop}
variable {Γ : gG} {cc : ByteArray} {ret : Option FieldType} {own : String} {nL pc : Nat} {ls : Array Slot} {rest : List Value}
variable {d : Nat → Nat} {hm : Nat} {mc : va_E} {so : Nat → Nat → Nat} {tl : Nat → Nat → Int64} {tb : Nat → Nat → Nat → Nat} {wr : va_W}
theorem xw_app (x : va_W) : xW Γ d hm mc so tl tb wr ++ x = xW Γ d hm mc so tl tb (wr ++ x) := by simp [xW]
theorem xw_new {x : Nat × va_E} (h : sT Γ s (xW Γ d hm mc so tl tb wr ++ [x]) H locs) : sT Γ s (xW Γ d hm mc so tl tb (x :: wr)) H locs := by
  rw [xw_app] at h
  refine h.sub (List.Sublist.refl _) ?_
  have k : (x :: wr).Perm (wr ++ [x]) := (List.perm_append_singleton x wr).symm
  simp only [xW]
  refine List.Perm.cons _ (List.Perm.cons _ (List.Perm.cons _ (List.Perm.cons _ (List.Perm.cons _ (List.Perm.cons _ (List.Perm.cons _ (List.Perm.cons _ (List.Perm.cons _ (List.Perm.cons _ (List.Perm.cons _ (List.Perm.cons _ (List.Perm.cons _ (List.Perm.cons _ (List.Perm.cons _ (List.Perm.cons _ (List.Perm.cons _ (?_)))))))))))))))))
  exact List.Perm.append_left _ (List.Perm.append_left _ (List.Perm.append_left _ k))
theorem xw_drop {x : Nat × va_E} (h : sT Γ s (xW Γ d hm mc so tl tb (x :: wr)) H locs) : sT Γ s (xW Γ d hm mc so tl tb wr) H locs := by
  refine h.sub (ws3 := xW Γ d hm mc so tl tb wr) ?_ (List.Perm.refl _)
  simp only [xW]
  refine List.Sublist.cons_cons _ (List.Sublist.cons_cons _ (List.Sublist.cons_cons _ (List.Sublist.cons_cons _ (List.Sublist.cons_cons _ (List.Sublist.cons_cons _ (List.Sublist.cons_cons _ (List.Sublist.cons_cons _ (List.Sublist.cons_cons _ (List.Sublist.cons_cons _ (List.Sublist.cons_cons _ (List.Sublist.cons_cons _ (List.Sublist.cons_cons _ (List.Sublist.cons_cons _ (List.Sublist.cons_cons _ (List.Sublist.cons_cons _ (List.Sublist.cons_cons _ (?_)))))))))))))))))
  exact List.Sublist.append (List.Sublist.refl _) (List.Sublist.append (List.Sublist.refl _) (List.Sublist.append (List.Sublist.refl _) (List.sublist_cons_self _ _)))
theorem lk_M {x : Nat × va_E} : (xW Γ d hm mc so tl tb (x :: wr))[257]? = some x := by
  rw [show 257 = 240 + 1 + 1 + 1 + 1 + 1 + 1 + 1 + 1 + 1 + 1 + 1 + 1 + 1 + 1 + 1 + 1 + 1 from rfl]
  simp only [List.getElem?_cons_succ]
  rw [List.getElem?_append_right (by rw [tT_len]; omega), tT_len, List.getElem?_append_right (by rw [tN_len]; omega), tN_len, List.getElem?_append_right (by rw [tF_len]; omega), tF_len]
  rfl
theorem st_M {x y : Nat × va_E} : (xW Γ d hm mc so tl tb (x :: wr)).set 257 y = xW Γ d hm mc so tl tb (y :: wr) := by
  rw [show 257 = 240 + 1 + 1 + 1 + 1 + 1 + 1 + 1 + 1 + 1 + 1 + 1 + 1 + 1 + 1 + 1 + 1 + 1 from rfl]
  simp only [List.set_cons_succ]
  rw [List.set_append_right _ _ (by rw [tT_len]; omega), tT_len, List.set_append_right _ _ (by rw [tN_len]; omega), tN_len, List.set_append_right _ _ (by rw [tF_len]; omega), tF_len]
  rfl
theorem rg_newM {N ci idx : Nat} {cn : String} {T : u_T} {ty : Nat → FieldType} {fs : List Value} (C : cX Γ p s m args meth c cc ret own nL) (h : sT Γ s (xW Γ d hm mc so tl tb wr) H locs) (hc : cls[ci]? = some (cn, T, N)) (hin : ∀ w ∈ u_ws cn T N, w ∈ gw) (hty : ∀ k, k < N → parseFieldDescriptor (T k).2.2.1 = some (ty k)) (hcl : Cond.classLink own idx cn ∈ gw) (hinst : Cond.instantiable cn N ∈ gw) (hini : Cond.initialized cn ∈ gw) (hfs : ∀ j, j < N → defaultValue (ty j) = vp_V fs j) (hcells : cells + 1 ≤ R.cells) (hslots : slots + N ≤ R.slots) (hdg : decode cc pc = .ok (.new idx, 3))
    (kk : ∀ (q : Nat) (H1 : Heap), sT Γ s (xW Γ d hm mc so tl tb ((q, .inr (ci, fs)) :: wr)) H1 locs → W p l e R s m args below meth c H1 locs (cells + 1) (slots + N) Q (F0 m (pc + 3) ls (.ref q :: rest))) : W p l e R s m args below meth c H locs cells slots Q (F0 m pc ls rest) :=
  va_new C.x C.b C.t hin ty hty C.o (C.t _ hcl) (C.t _ hinst) (C.t _ hini) C.k h.1 h.2.1 h.2.2 C.a hc hfs hcells hslots hdg (fun q H1 a1 a2 a3 => kk q H1 (xw_new ⟨a1, a2, a3⟩))
end XN
/-- the class's state between calls -/
def CS (so : Nat → Nat → Nat) (tb : Nat → Nat → Nat → Nat) : Prop := sB so ∧ so 10 3 ≤ 80 ∧ ∀ i, i < so 10 3 → tG (tb i)
abbrev xG : Type := Nat × va_E × (Nat → Nat → Nat) × (Nat → Nat → Nat → Nat)
/-- a set has been made, of the machine's words -/
def mkP (so : Nat → Nat → Nat) (tb : Nat → Nat → Nat → Nat) (M : mM) (v : Option Value) (u : xG) : Prop :=
  v = some (.int (nI (so 10 3))) ∧ so 10 3 < 80 ∧ CS u.2.2.1 u.2.2.2 ∧ u.2.2.1 10 3 = so 10 3 + 1 ∧ (∀ a, a < so 10 3 → u.2.2.2 a = tb a) ∧ ∀ w, lts w → macc (tM (u.2.2.2 (so 10 3))) 0 w = macc M M.1 w
/-- none has been made -/
def mkX (so : Nat → Nat → Nat) (tb : Nat → Nat → Nat → Nat) (M : mM) (u : xG) : Prop := CS u.2.2.1 tb ∧ u.2.2.1 10 3 = so 10 3 ∧ u.2.2.2 = tb ∧ (80 ≤ so 10 3 ∨ MN M)

set_option maxRecDepth 100000 in theorem nk_X_15 : Cond.classLink rn_X 15 rn_S ∈ gw := gw_t 31 rfl rfl
set_option maxRecDepth 100000 in theorem nk_X_22 : Cond.classLink rn_X 22 rn_Y ∈ gw := gw_t 97 rfl rfl
set_option maxRecDepth 100000 in theorem nk_X_9 : Cond.classLink rn_X 9 rn_T ∈ gw := gw_t 29 rfl rfl
set_option maxRecDepth 100000 in theorem nk_X_37 : Cond.classLink rn_X 37 rn_O ∈ gw := gw_t 238 rfl rfl
set_option maxRecDepth 100000 in theorem nk_X_46 : Cond.classLink rn_X 46 rn_H ∈ gw := gw_t 413 rfl rfl
set_option maxRecDepth 100000 in theorem nk_X_57 : Cond.classLink rn_X 57 rn_B ∈ gw := gw_t 438 rfl rfl
set_option maxRecDepth 100000 in theorem nk_X_62 : Cond.classLink rn_X 62 rn_N ∈ gw := gw_t 461 rfl rfl
set_option maxRecDepth 100000 in theorem nk_X_67 : Cond.classLink rn_X 67 rn_R ∈ gw := gw_t 478 rfl rfl
set_option maxRecDepth 100000 in theorem nk_X_76 : Cond.classLink rn_X 76 rn_K ∈ gw := gw_t 501 rfl rfl
set_option maxRecDepth 100000 in theorem nk_S_9 : Cond.classLink rn_S 9 rn_O ∈ gw := gw_t 37 rfl rfl
set_option maxRecDepth 100000 in theorem nk_L_8 : Cond.classLink rn_L 8 rn_X ∈ gw := gw_t 21 rfl rfl
set_option maxRecDepth 100000 in theorem nk_L_74 : Cond.classLink rn_L 74 rn_M ∈ gw := gw_t 629 rfl rfl
set_option maxRecDepth 100000 in theorem ns_X : Cond.instantiable rn_X 4 ∈ gw := gw_t 22 rfl rfl
set_option maxRecDepth 100000 in theorem ni_X : Cond.initialized rn_X ∈ gw := gw_t 1 rfl rfl
set_option maxRecDepth 100000 in theorem ns_S : Cond.instantiable rn_S 14 ∈ gw := gw_t 32 rfl rfl
set_option maxRecDepth 100000 in theorem ni_S : Cond.initialized rn_S ∈ gw := gw_t 2 rfl rfl
set_option maxRecDepth 100000 in theorem ns_T : Cond.instantiable rn_T 5 ∈ gw := gw_t 112 rfl rfl
set_option maxRecDepth 100000 in theorem ni_T : Cond.initialized rn_T ∈ gw := gw_t 6 rfl rfl
set_option maxRecDepth 100000 in theorem ns_Y : Cond.instantiable rn_Y 2 ∈ gw := gw_t 98 rfl rfl
set_option maxRecDepth 100000 in theorem ni_Y : Cond.initialized rn_Y ∈ gw := gw_t 5 rfl rfl
set_option maxRecDepth 100000 in theorem ns_O : Cond.instantiable rn_O 2 ∈ gw := gw_t 38 rfl rfl
set_option maxRecDepth 100000 in theorem ni_O : Cond.initialized rn_O ∈ gw := gw_t 4 rfl rfl
set_option maxRecDepth 100000 in theorem ns_R : Cond.instantiable rn_R 3 ∈ gw := gw_t 479 rfl rfl
set_option maxRecDepth 100000 in theorem ni_R : Cond.initialized rn_R ∈ gw := gw_t 17 rfl rfl
set_option maxRecDepth 100000 in theorem ns_B : Cond.instantiable rn_B 3 ∈ gw := gw_t 439 rfl rfl
set_option maxRecDepth 100000 in theorem ni_B : Cond.initialized rn_B ∈ gw := gw_t 15 rfl rfl
set_option maxRecDepth 100000 in theorem ns_H : Cond.instantiable rn_H 2 ∈ gw := gw_t 288 rfl rfl
set_option maxRecDepth 100000 in theorem ni_H : Cond.initialized rn_H ∈ gw := gw_t 14 rfl rfl
set_option maxRecDepth 100000 in theorem ns_N : Cond.instantiable rn_N 1 ∈ gw := gw_t 462 rfl rfl
set_option maxRecDepth 100000 in theorem ni_N : Cond.initialized rn_N ∈ gw := gw_t 16 rfl rfl
set_option maxRecDepth 100000 in theorem ns_K : Cond.instantiable rn_K 1 ∈ gw := gw_t 502 rfl rfl
set_option maxRecDepth 100000 in theorem ni_K : Cond.initialized rn_K ∈ gw := gw_t 18 rfl rfl
set_option maxRecDepth 100000 in theorem ns_M : Cond.instantiable rn_M 21 ∈ gw := gw_t 630 rfl rfl
set_option maxRecDepth 100000 in theorem ni_M : Cond.initialized rn_M ∈ gw := gw_t 7 rfl rfl
abbrev rm_A_init : Room := { frames := 1, cells := 0, slots := 0, locals := 12 }
set_option maxRecDepth 100000 in
set_option maxHeartbeats 4000000 in
theorem c_A_init (l : Launch) (Γ : gG) (ws : va_W) (a : Nat) : cT l Γ my_A_init bc_A_init 1 none rm_A_init [.ref a] (ws) (S := Unit) (fun v _ => v = none) (fun _ => ws) := by
  refine cT.start (by decide) (Nat.le_of_ble_eq_true rfl) (fun p e s m args below meth c ls Q hQ C hmn h hl => ?_)
  replace hl : lv_has ls 1 [(0, .ref a)] := hl
  refine lv_aload_n C.x C.b dc_A_init_0 rfl (lv_at hl 0 rfl) ?_
  refine W.objInit C.x C.b C.o (C.t _ lk_A_1) (C.t _ gw_oi) (C.t _ gw_oc) rfl (by rw [C.n]; exact hl.1) rfl dc_A_init_1 (by decide) (Nat.le_of_ble_eq_true rfl) ?_
  refine W.eq (g2 := F0 m 4 ls []) rfl ?_
  rw [hQ]
  exact rt_v C () h (rfl) dc_A_init_4

abbrev rm_O_init : Room := { frames := 2, cells := 0, slots := 0, locals := 32 }
set_option maxRecDepth 100000 in
set_option maxHeartbeats 4000000 in
theorem c_O_init (l : Launch) (Γ : gG) (d : Nat → Nat) (hm : Nat) (mc : va_E) (so : Nat → Nat → Nat) (tl : Nat → Nat → Int64) (tb : Nat → Nat → Nat → Nat) (wr : va_W) (q : Nat) (bits fst : Nat) : cT l Γ my_O_init bc_O_init 3 none rm_O_init [.ref q, .int (nI bits), .int (nI fst)] (xW Γ d hm mc so tl tb ((q, .inr (4, [.int 0, .int 0])) :: wr)) (S := Unit) (fun v _ => v = none) (fun _ => xW Γ d hm mc so tl tb ((q, .inr (4, [.int (nI bits), .int (nI fst)])) :: wr)) := by
  refine cT.start (by decide) (Nat.le_of_ble_eq_true rfl) (fun p e s m args below meth c ls Q hQ C hmn h hl => ?_)
  replace hl : lv_has ls 3 [(0, .ref q), (1, .int (nI bits)), (2, .int (nI fst))] := hl
  refine lv_aload_n C.x C.b dc_O_init_0 rfl (lv_at hl 0 rfl) ?_
  refine kv_IN (As := []) (rest := []) C h hl.1 (c_A_init l Γ _ q) mw_A_init lk_O_1 rfl (by decide) (by decide) (Nat.le_of_ble_eq_true rfl) dc_O_init_1 (fun v u H locs hp h => ?_)
  obtain rfl := hp
  replace h : sT Γ s (xW Γ d hm mc so tl tb ((q, .inr (4, [.int 0, .int 0])) :: wr)) H locs := h
  refine W.eq (g2 := F0 m 4 ls []) rfl ?_
  refine lv_aload_n C.x C.b dc_O_init_4 rfl (lv_at hl 0 rfl) ?_
  refine lv_iload_n C.x C.b dc_O_init_5 rfl (lv_at hl 1 rfl) ?_
  refine rg_putF (ty := .int) C hmn h 257 lk_M rfl in_O tk_O nm_O 0 (by decide) fl_O_7 rfl rfl (by decide +kernel) rfl rfl (by simp) dc_O_init_6 (fun H locs h => ?_)
  replace h := h.eq st_M
  replace h : sT Γ s (xW Γ d hm mc so tl tb ((q, .inr (4, [.int (nI bits), .int 0])) :: wr)) H locs := h
  refine lv_aload_n C.x C.b dc_O_init_9 rfl (lv_at hl 0 rfl) ?_
  refine lv_iload_n C.x C.b dc_O_init_10 rfl (lv_at hl 2 rfl) ?_
  refine rg_putF (ty := .int) C hmn h 257 lk_M rfl in_O tk_O nm_O 1 (by decide) fl_O_13 rfl rfl (by decide +kernel) rfl rfl (by simp) dc_O_init_11 (fun H locs h => ?_)
  replace h := h.eq st_M
  replace h : sT Γ s (xW Γ d hm mc so tl tb ((q, .inr (4, [.int (nI bits), .int (nI fst)])) :: wr)) H locs := h
  rw [hQ]
  exact rt_v C () h (rfl) dc_O_init_14

abbrev rm_R_init : Room := { frames := 2, cells := 0, slots := 0, locals := 32 }
set_option maxRecDepth 100000 in
set_option maxHeartbeats 4000000 in
theorem c_R_init (l : Launch) (Γ : gG) (d : Nat → Nat) (hm : Nat) (mc : va_E) (so : Nat → Nat → Nat) (tl : Nat → Nat → Int64) (tb : Nat → Nat → Nat → Nat) (wr : va_W) (q : Nat) (i fst : Nat) (en : Int32) : cT l Γ my_R_init bc_R_init 4 none rm_R_init [.ref q, .ref (d (20 + 3 * i)), .int (nI fst), .int en] (xW Γ d hm mc so tl tb ((q, .inr (5, [.null, .int 0, .int 0])) :: wr)) (S := Unit) (fun v _ => v = none) (fun _ => xW Γ d hm mc so tl tb ((q, .inr (5, [.ref (d (20 + 3 * i)), .int (nI fst), .int en])) :: wr)) := by
  refine cT.start (by decide) (Nat.le_of_ble_eq_true rfl) (fun p e s m args below meth c ls Q hQ C hmn h hl => ?_)
  replace hl : lv_has ls 4 [(0, .ref q), (1, .ref (d (20 + 3 * i))), (2, .int (nI fst)), (3, .int en)] := hl
  refine lv_aload_n C.x C.b dc_R_init_0 rfl (lv_at hl 0 rfl) ?_
  refine kv_IN (As := []) (rest := []) C h hl.1 (c_A_init l Γ _ q) mw_A_init lk_R_1 rfl (by decide) (by decide) (Nat.le_of_ble_eq_true rfl) dc_R_init_1 (fun v u H locs hp h => ?_)
  obtain rfl := hp
  replace h : sT Γ s (xW Γ d hm mc so tl tb ((q, .inr (5, [.null, .int 0, .int 0])) :: wr)) H locs := h
  refine W.eq (g2 := F0 m 4 ls []) rfl ?_
  refine lv_aload_n C.x C.b dc_R_init_4 rfl (lv_at hl 0 rfl) ?_
  refine lv_aload_n C.x C.b dc_R_init_5 rfl (lv_at hl 1 rfl) ?_
  refine rg_putF (ty := .object "RestSets$Table") C hmn h 257 lk_M rfl in_R tk_R nm_R 0 (by decide) fl_R_7 rfl rfl (by decide +kernel) rfl rfl (by simp) dc_R_init_6 (fun H locs h => ?_)
  replace h := h.eq st_M
  replace h : sT Γ s (xW Γ d hm mc so tl tb ((q, .inr (5, [.ref (d (20 + 3 * i)), .int 0, .int 0])) :: wr)) H locs := h
  refine lv_aload_n C.x C.b dc_R_init_9 rfl (lv_at hl 0 rfl) ?_
  refine lv_iload_n C.x C.b dc_R_init_10 rfl (lv_at hl 2 rfl) ?_
  refine rg_putF (ty := .int) C hmn h 257 lk_M rfl in_R tk_R nm_R 1 (by decide) fl_R_13 rfl rfl (by decide +kernel) rfl rfl (by simp) dc_R_init_11 (fun H locs h => ?_)
  replace h := h.eq st_M
  replace h : sT Γ s (xW Γ d hm mc so tl tb ((q, .inr (5, [.ref (d (20 + 3 * i)), .int (nI fst), .int 0])) :: wr)) H locs := h
  refine lv_aload_n C.x C.b dc_R_init_14 rfl (lv_at hl 0 rfl) ?_
  refine lv_iload_n C.x C.b dc_R_init_15 rfl (lv_at hl 3 rfl) ?_
  refine rg_putF (ty := .int) C hmn h 257 lk_M rfl in_R tk_R nm_R 2 (by decide) fl_R_17 rfl rfl (by decide +kernel) rfl rfl (by simp) dc_R_init_16 (fun H locs h => ?_)
  replace h := h.eq st_M
  replace h : sT Γ s (xW Γ d hm mc so tl tb ((q, .inr (5, [.ref (d (20 + 3 * i)), .int (nI fst), .int en])) :: wr)) H locs := h
  rw [hQ]
  exact rt_v C () h (rfl) dc_R_init_19

abbrev rm_B_init : Room := { frames := 2, cells := 0, slots := 0, locals := 32 }
set_option maxRecDepth 100000 in
set_option maxHeartbeats 4000000 in
theorem c_B_init (l : Launch) (Γ : gG) (d : Nat → Nat) (hm : Nat) (mc : va_E) (so : Nat → Nat → Nat) (tl : Nat → Nat → Int64) (tb : Nat → Nat → Nat → Nat) (wr : va_W) (q : Nat) (how i j : Nat) : cT l Γ my_B_init bc_B_init 4 none rm_B_init [.ref q, .int (nI how), .ref (d (20 + 3 * i)), .ref (d (20 + 3 * j))] (xW Γ d hm mc so tl tb ((q, .inr (6, [.int 0, .null, .null])) :: wr)) (S := Unit) (fun v _ => v = none) (fun _ => xW Γ d hm mc so tl tb ((q, .inr (6, [.int (nI how), .ref (d (20 + 3 * i)), .ref (d (20 + 3 * j))])) :: wr)) := by
  refine cT.start (by decide) (Nat.le_of_ble_eq_true rfl) (fun p e s m args below meth c ls Q hQ C hmn h hl => ?_)
  replace hl : lv_has ls 4 [(0, .ref q), (1, .int (nI how)), (2, .ref (d (20 + 3 * i))), (3, .ref (d (20 + 3 * j)))] := hl
  refine lv_aload_n C.x C.b dc_B_init_0 rfl (lv_at hl 0 rfl) ?_
  refine kv_IN (As := []) (rest := []) C h hl.1 (c_A_init l Γ _ q) mw_A_init lk_B_3 rfl (by decide) (by decide) (Nat.le_of_ble_eq_true rfl) dc_B_init_1 (fun v u H locs hp h => ?_)
  obtain rfl := hp
  replace h : sT Γ s (xW Γ d hm mc so tl tb ((q, .inr (6, [.int 0, .null, .null])) :: wr)) H locs := h
  refine W.eq (g2 := F0 m 4 ls []) rfl ?_
  refine lv_aload_n C.x C.b dc_B_init_4 rfl (lv_at hl 0 rfl) ?_
  refine lv_iload_n C.x C.b dc_B_init_5 rfl (lv_at hl 1 rfl) ?_
  refine rg_putF (ty := .int) C hmn h 257 lk_M rfl in_B tk_B nm_B 0 (by decide) fl_B_9 rfl rfl (by decide +kernel) rfl rfl (by simp) dc_B_init_6 (fun H locs h => ?_)
  replace h := h.eq st_M
  replace h : sT Γ s (xW Γ d hm mc so tl tb ((q, .inr (6, [.int (nI how), .null, .null])) :: wr)) H locs := h
  refine lv_aload_n C.x C.b dc_B_init_9 rfl (lv_at hl 0 rfl) ?_
  refine lv_aload_n C.x C.b dc_B_init_10 rfl (lv_at hl 2 rfl) ?_
  refine rg_putF (ty := .object "RestSets$Table") C hmn h 257 lk_M rfl in_B tk_B nm_B 1 (by decide) fl_B_15 rfl rfl (by decide +kernel) rfl rfl (by simp) dc_B_init_11 (fun H locs h => ?_)
  replace h := h.eq st_M
  replace h : sT Γ s (xW Γ d hm mc so tl tb ((q, .inr (6, [.int (nI how), .ref (d (20 + 3 * i)), .null])) :: wr)) H locs := h
  refine lv_aload_n C.x C.b dc_B_init_14 rfl (lv_at hl 0 rfl) ?_
  refine lv_aload_n C.x C.b dc_B_init_15 rfl (lv_at hl 3 rfl) ?_
  refine rg_putF (ty := .object "RestSets$Table") C hmn h 257 lk_M rfl in_B tk_B nm_B 2 (by decide) fl_B_19 rfl rfl (by decide +kernel) rfl rfl (by simp) dc_B_init_16 (fun H locs h => ?_)
  replace h := h.eq st_M
  replace h : sT Γ s (xW Γ d hm mc so tl tb ((q, .inr (6, [.int (nI how), .ref (d (20 + 3 * i)), .ref (d (20 + 3 * j))])) :: wr)) H locs := h
  rw [hQ]
  exact rt_v C () h (rfl) dc_B_init_19

abbrev rm_H_init : Room := { frames := 2, cells := 0, slots := 0, locals := 32 }
set_option maxRecDepth 100000 in
set_option maxHeartbeats 4000000 in
theorem c_H_init (l : Launch) (Γ : gG) (d : Nat → Nat) (hm : Nat) (mc : va_E) (so : Nat → Nat → Nat) (tl : Nat → Nat → Int64) (tb : Nat → Nat → Nat → Nat) (wr : va_W) (q : Nat) (i j : Nat) : cT l Γ my_H_init bc_H_init 3 none rm_H_init [.ref q, .ref (d (20 + 3 * i)), .ref (d (20 + 3 * j))] (xW Γ d hm mc so tl tb ((q, .inr (7, [.null, .null])) :: wr)) (S := Unit) (fun v _ => v = none) (fun _ => xW Γ d hm mc so tl tb ((q, .inr (7, [.ref (d (20 + 3 * i)), .ref (d (20 + 3 * j))])) :: wr)) := by
  refine cT.start (by decide) (Nat.le_of_ble_eq_true rfl) (fun p e s m args below meth c ls Q hQ C hmn h hl => ?_)
  replace hl : lv_has ls 3 [(0, .ref q), (1, .ref (d (20 + 3 * i))), (2, .ref (d (20 + 3 * j)))] := hl
  refine lv_aload_n C.x C.b dc_H_init_0 rfl (lv_at hl 0 rfl) ?_
  refine kv_IN (As := []) (rest := []) C h hl.1 (c_A_init l Γ _ q) mw_A_init lk_H_3 rfl (by decide) (by decide) (Nat.le_of_ble_eq_true rfl) dc_H_init_1 (fun v u H locs hp h => ?_)
  obtain rfl := hp
  replace h : sT Γ s (xW Γ d hm mc so tl tb ((q, .inr (7, [.null, .null])) :: wr)) H locs := h
  refine W.eq (g2 := F0 m 4 ls []) rfl ?_
  refine lv_aload_n C.x C.b dc_H_init_4 rfl (lv_at hl 0 rfl) ?_
  refine lv_aload_n C.x C.b dc_H_init_5 rfl (lv_at hl 1 rfl) ?_
  refine rg_putF (ty := .object "RestSets$Table") C hmn h 257 lk_M rfl in_H tk_H nm_H 0 (by decide) fl_H_9 rfl rfl (by decide +kernel) rfl rfl (by simp) dc_H_init_6 (fun H locs h => ?_)
  replace h := h.eq st_M
  replace h : sT Γ s (xW Γ d hm mc so tl tb ((q, .inr (7, [.ref (d (20 + 3 * i)), .null])) :: wr)) H locs := h
  refine lv_aload_n C.x C.b dc_H_init_9 rfl (lv_at hl 0 rfl) ?_
  refine lv_aload_n C.x C.b dc_H_init_10 rfl (lv_at hl 2 rfl) ?_
  refine rg_putF (ty := .object "RestSets$Table") C hmn h 257 lk_M rfl in_H tk_H nm_H 1 (by decide) fl_H_15 rfl rfl (by decide +kernel) rfl rfl (by simp) dc_H_init_11 (fun H locs h => ?_)
  replace h := h.eq st_M
  replace h : sT Γ s (xW Γ d hm mc so tl tb ((q, .inr (7, [.ref (d (20 + 3 * i)), .ref (d (20 + 3 * j))])) :: wr)) H locs := h
  rw [hQ]
  exact rt_v C () h (rfl) dc_H_init_14

abbrev rm_N_init : Room := { frames := 2, cells := 0, slots := 0, locals := 32 }
set_option maxRecDepth 100000 in
set_option maxHeartbeats 4000000 in
theorem c_N_init (l : Launch) (Γ : gG) (d : Nat → Nat) (hm : Nat) (mc : va_E) (so : Nat → Nat → Nat) (tl : Nat → Nat → Int64) (tb : Nat → Nat → Nat → Nat) (wr : va_W) (q : Nat) (i : Nat) : cT l Γ my_N_init bc_N_init 2 none rm_N_init [.ref q, .ref (d (20 + 3 * i))] (xW Γ d hm mc so tl tb ((q, .inr (8, [.null])) :: wr)) (S := Unit) (fun v _ => v = none) (fun _ => xW Γ d hm mc so tl tb ((q, .inr (8, [.ref (d (20 + 3 * i))])) :: wr)) := by
  refine cT.start (by decide) (Nat.le_of_ble_eq_true rfl) (fun p e s m args below meth c ls Q hQ C hmn h hl => ?_)
  replace hl : lv_has ls 2 [(0, .ref q), (1, .ref (d (20 + 3 * i)))] := hl
  refine lv_aload_n C.x C.b dc_N_init_0 rfl (lv_at hl 0 rfl) ?_
  refine kv_IN (As := []) (rest := []) C h hl.1 (c_A_init l Γ _ q) mw_A_init lk_N_3 rfl (by decide) (by decide) (Nat.le_of_ble_eq_true rfl) dc_N_init_1 (fun v u H locs hp h => ?_)
  obtain rfl := hp
  replace h : sT Γ s (xW Γ d hm mc so tl tb ((q, .inr (8, [.null])) :: wr)) H locs := h
  refine W.eq (g2 := F0 m 4 ls []) rfl ?_
  refine lv_aload_n C.x C.b dc_N_init_4 rfl (lv_at hl 0 rfl) ?_
  refine lv_aload_n C.x C.b dc_N_init_5 rfl (lv_at hl 1 rfl) ?_
  refine rg_putF (ty := .object "RestSets$Table") C hmn h 257 lk_M rfl in_N tk_N nm_N 0 (by decide) fl_N_9 rfl rfl (by decide +kernel) rfl rfl (by simp) dc_N_init_6 (fun H locs h => ?_)
  replace h := h.eq st_M
  replace h : sT Γ s (xW Γ d hm mc so tl tb ((q, .inr (8, [.ref (d (20 + 3 * i))])) :: wr)) H locs := h
  rw [hQ]
  exact rt_v C () h (rfl) dc_N_init_9

abbrev rm_K_init : Room := { frames := 2, cells := 0, slots := 0, locals := 32 }
set_option maxRecDepth 100000 in
set_option maxHeartbeats 4000000 in
theorem c_K_init (l : Launch) (Γ : gG) (d : Nat → Nat) (hm : Nat) (mc : va_E) (so : Nat → Nat → Nat) (tl : Nat → Nat → Int64) (tb : Nat → Nat → Nat → Nat) (wr : va_W) (q : Nat) (i : Nat) : cT l Γ my_K_init bc_K_init 2 none rm_K_init [.ref q, .ref (d (20 + 3 * i))] (xW Γ d hm mc so tl tb ((q, .inr (9, [.null])) :: wr)) (S := Unit) (fun v _ => v = none) (fun _ => xW Γ d hm mc so tl tb ((q, .inr (9, [.ref (d (20 + 3 * i))])) :: wr)) := by
  refine cT.start (by decide) (Nat.le_of_ble_eq_true rfl) (fun p e s m args below meth c ls Q hQ C hmn h hl => ?_)
  replace hl : lv_has ls 2 [(0, .ref q), (1, .ref (d (20 + 3 * i)))] := hl
  refine lv_aload_n C.x C.b dc_K_init_0 rfl (lv_at hl 0 rfl) ?_
  refine kv_IN (As := []) (rest := []) C h hl.1 (c_A_init l Γ _ q) mw_A_init lk_K_1 rfl (by decide) (by decide) (Nat.le_of_ble_eq_true rfl) dc_K_init_1 (fun v u H locs hp h => ?_)
  obtain rfl := hp
  replace h : sT Γ s (xW Γ d hm mc so tl tb ((q, .inr (9, [.null])) :: wr)) H locs := h
  refine W.eq (g2 := F0 m 4 ls []) rfl ?_
  refine lv_aload_n C.x C.b dc_K_init_4 rfl (lv_at hl 0 rfl) ?_
  refine lv_aload_n C.x C.b dc_K_init_5 rfl (lv_at hl 1 rfl) ?_
  refine rg_putF (ty := .object "RestSets$Table") C hmn h 257 lk_M rfl in_K tk_K nm_K 0 (by decide) fl_K_7 rfl rfl (by decide +kernel) rfl rfl (by simp) dc_K_init_6 (fun H locs h => ?_)
  replace h := h.eq st_M
  replace h : sT Γ s (xW Γ d hm mc so tl tb ((q, .inr (9, [.ref (d (20 + 3 * i))])) :: wr)) H locs := h
  rw [hQ]
  exact rt_v C () h (rfl) dc_K_init_9

abbrev rm_X_tableOf : Room := { frames := 6, cells := 1, slots := 6, locals := 82 }
set_option maxRecDepth 100000 in
set_option maxHeartbeats 4000000 in
theorem c_X_tableOf (l : Launch) (Γ : gG) (d : Nat → Nat) (hm : Nat) (mc : va_E) (so : Nat → Nat → Nat) (tl : Nat → Nat → Int64) (tb : Nat → Nat → Nat → Nat) (wr : va_W) (pp : Int32) (h80 : so 10 3 ≤ 80) (hst : l.stackTraces = false) : cTx l Γ my_X_tableOf bc_X_tableOf 2 (some (.object "RestSets$Table")) rm_X_tableOf [.ref (d 0), .int pp] (xW Γ d hm mc so tl tb wr) (S := Nat) (fun v j => v = some (.ref (d (20 + 3 * j))) ∧ j < so 10 3 ∧ pp = nI j) (fun _ => xW Γ d hm mc so tl tb wr) (SX := Unit) (fun E _ => E = en_iae ∧ ¬ ∃ j, j < so 10 3 ∧ pp = nI j) (fun _ => xW Γ d hm mc so tl tb wr) := by
  refine cTx.start (by decide) (Nat.le_of_ble_eq_true rfl) (fun p e s m args below meth c ls Q hQ C hmn hno hX h hl => ?_)
  replace hl : lv_has ls 2 [(0, .ref (d 0)), (1, .int pp)] := hl
  refine lv_iload_n C.x C.b dc_X_tableOf_0 rfl (lv_at hl 1 rfl) ?_
  refine lv_if_lt (tgt := 12) C.x C.b dc_X_tableOf_1 (by decide) (fun q1 => ?_) (fun q1 => ?_)
  · rw [hQ]
    exact rt_thr (names := ns_iae) C hst hno hX hl.1 () h (⟨rfl, fun z => by obtain ⟨j, hj, e⟩ := z; rw [e] at q1; exact nI_pos (by omega) q1⟩) (by decide) (by decide) tw_iae tk_iae ti_iae (text := "no such set") (by decide) dc_X_tableOf_12 dc_X_tableOf_15 dc_X_tableOf_16 dc_X_tableOf_18 dc_X_tableOf_21 (by decide) (Nat.le_of_ble_eq_true rfl) (by decide) (by decide) (by decide) (by decide)
  · refine lv_iload_n C.x C.b dc_X_tableOf_4 rfl (lv_at hl 1 rfl) ?_
    refine lv_aload_n C.x C.b dc_X_tableOf_5 rfl (lv_at hl 0 rfl) ?_
    refine rg_get C h 0 rfl rfl in_X 3 (by decide) fl_X_135 rfl dc_X_tableOf_6 ?_
    refine lv_icmp_lt (tgt := 22) C.x C.b dc_X_tableOf_9 (by decide) (fun q9 => ?_) (fun q9 => ?_)
    · obtain ⟨j, hj, hpj⟩ : ∃ j, j < so 10 3 ∧ pp = nI j := by
        rcases pk_ix pp (n := so 10 3) (by omega) with z | z | z
        · exact absurd z q1
        · exact absurd q9 (Int32.not_lt.mpr z)
        · exact z
      subst hpj
      refine lv_aload_n C.x C.b dc_X_tableOf_22 rfl (lv_at hl 0 rfl) ?_
      refine rg_get C h 0 rfl rfl in_X 0 (by decide) fl_X_11 rfl dc_X_tableOf_23 ?_
      refine lv_iload_n C.x C.b dc_X_tableOf_26 rfl (lv_at hl 1 rfl) ?_
      refine rg_ald C h 1 rfl (by omega) (by decide) rfl dc_X_tableOf_27 ?_
      refine W.widen (k := 1) (n := 6) (by decide) (by decide) ?_
      rw [hQ]
      exact vx_ret (rt_a C j h (⟨rfl, hj, rfl⟩) dc_X_tableOf_28)
    · rw [hQ]
      exact rt_thr (names := ns_iae) C hst hno hX hl.1 () h (⟨rfl, fun z => by obtain ⟨j, hj, e⟩ := z; rw [e] at q9; exact q9 (nI_lt hj (by omega))⟩) (by decide) (by decide) tw_iae tk_iae ti_iae (text := "no such set") (by decide) dc_X_tableOf_12 dc_X_tableOf_15 dc_X_tableOf_16 dc_X_tableOf_18 dc_X_tableOf_21 (by decide) (Nat.le_of_ble_eq_true rfl) (by decide) (by decide) (by decide) (by decide)

abbrev rm_X_keep : Room := { frames := 6, cells := 1, slots := 6, locals := 142 }
set_option maxRecDepth 100000 in
set_option maxHeartbeats 4000000 in
theorem c_X_keep (l : Launch) (Γ : gG) (d : Nat → Nat) (hm : Nat) (mc : va_E) (so : Nat → Nat → Nat) (tl : Nat → Nat → Int64) (tb : Nat → Nat → Nat → Nat) (wr : va_W) (hm2 : Nat) (mc2 : va_E) (M : mM) (hM : mOK d tb mc2 M) (hMx : ∀ t, (∀ a, a ≠ so 10 3 → t a = tb a) → mOK d t mc2 M) (hC0 : CS so tb) (hst : l.stackTraces = false) : cTx l Γ my_X_keep bc_X_keep 4 (some .int) rm_X_keep [.ref (d 0), .ref hm2] (xW Γ d hm mc so tl tb ((hm2, mc2) :: wr)) (S := xG) (mkP so tb M) (fun u => xW Γ d u.1 u.2.1 u.2.2.1 tl u.2.2.2 wr) (SX := xG) (fun E u => E = en_ioe ∧ mkX so tb M u) (fun u => xW Γ d u.1 u.2.1 u.2.2.1 tl u.2.2.2 wr) := by
  refine cTx.start (by decide) (Nat.le_of_ble_eq_true rfl) (fun p e s m args below meth c ls Q hQ C hmn hno hX h hl => ?_)
  replace hl : lv_has ls 4 [(0, .ref (d 0)), (1, .ref hm2)] := hl
  have h80 := hC0.2.1
  refine lv_aload_n C.x C.b dc_X_keep_0 rfl (lv_at hl 0 rfl) ?_
  refine rg_get C h 0 rfl rfl in_X 3 (by decide) fl_X_135 rfl dc_X_keep_1 ?_
  refine lv_bipush (v := (nI 80)) C.x C.b dc_X_keep_4 (by decide +kernel) ?_
  refine bc_lt (tgt := 19) C (by omega) (by omega) dc_X_keep_6 (by decide) (fun q6 => ?_) (fun q6 => ?_)
  · refine lv_aload_n C.x C.b dc_X_keep_19 rfl (lv_at hl 0 rfl) ?_
    refine rg_get C h 0 rfl rfl in_X 1 (by decide) fl_X_18 rfl dc_X_keep_20 ?_
    refine lv_aload_n C.x C.b dc_X_keep_23 rfl (lv_at hl 1 rfl) ?_
    refine kv_V (As := [.ref hm2]) (rest := []) C h hl.1 (c_S_begin l Γ d hm mc so tl tb wr hm2 mc2 M hM hC0.1) mw_S_begin lk_X_98 (q0 := 2) rfl rfl rfl (by decide) (by decide) (Nat.le_of_ble_eq_true rfl) dc_X_keep_24 (fun v u H locs hp h => ?_)
    obtain ⟨so_1, rfl⟩ : ∃ zz9, zz9 = u := ⟨_, rfl⟩
    obtain ⟨rfl, bg⟩ := hp
    replace h : sT Γ s (xW Γ d hm2 mc2 so_1 tl tb wr) H locs := h
    refine W.eq (g2 := F0 m 27 ls []) rfl ?_
    refine lv_iconst (v := (nI 1)) C.x C.b dc_X_keep_27 (by decide +kernel) ?_
    refine lv_istore_n (lv' := [(2, .int (nI 1)), (0, .ref (d 0)), (1, .ref hm2)]) C.x C.b dc_X_keep_28 rfl hl (by decide) rfl (fun ls hl => ?_)
    refine lv_iconst (v := (nI 0)) C.x C.b dc_X_keep_29 (by decide +kernel) ?_
    refine lv_istore_n (lv' := [(3, .int (nI 0)), (2, .int (nI 1)), (0, .ref (d 0)), (1, .ref hm2)]) C.x C.b dc_X_keep_30 rfl hl (by decide) rfl (fun ls hl => ?_)
    have hB : (1 : Nat) = 1 → KI M so_1 ∧ so_1 10 1 = 0 + 1 := fun _ => ⟨⟨by omega, fun k hk => by omega, fun hk => by omega, by omega, fun k k2 a b => by omega⟩, by omega⟩
    have lp_31 : ∀ (n_31 : Nat) (r : Nat) (vd : Nat) (z : Nat → Nat → Nat) (H : Heap) (locs : List Loc) (ls : Array Slot), 10 - r < n_31 → (r ≤ 10) → (SI M z) → (z 10 3 = so 10 3) → (1 ≤ z 10 0) → (z 1 0 = M.1) → (vd ≤ 2) → (vd = 0 → KI M z ∧ SD M z (z 10 0) ∧ 1 ≤ z 10 2) → (vd = 1 → KI M z ∧ z 10 1 = r + 1) → (vd = 2 → MN M) → sT Γ s (xW Γ d hm2 mc2 z tl tb wr) H locs → lv_has ls 4 [(3, .int (nI r)), (2, .int (nI vd)), (0, .ref (d 0))] → W p l e rm_X_keep s m args below meth c H locs 0 0 Q (F0 m 31 ls []) := by
      intro n_31
      induction n_31 with
      | zero => intro r vd z H locs ls hms; exact absurd hms (Nat.not_lt_zero _)
      | succ n_31 ih_31 =>
        intro r vd z H locs ls hms hr SI_z h3 h00 h01 hv2 hA hB hC h hl
        refine lv_iload_n C.x C.b dc_X_keep_31 rfl (lv_at hl 0 rfl) ?_
        refine lv_bipush (v := (nI 10)) C.x C.b dc_X_keep_32 (by decide +kernel) ?_
        refine bc_ge (tgt := 56) C (by omega) (by omega) dc_X_keep_34 (by decide) (fun q34 => ?_) (fun q34 => ?_)
        · refine lv_iload_n C.x C.b dc_X_keep_56 rfl (lv_at hl 1 rfl) ?_
          refine bz_eq (tgt := 70) C (by omega) dc_X_keep_57 (by decide) (fun q57 => ?_) (fun q57 => ?_)
          · have hv0 : vd = 0 := by omega
            obtain ⟨KI_z, SD_z, hk1⟩ := hA hv0
            refine lv_aload_n C.x C.b dc_X_keep_70 rfl (lv_at hl 2 rfl) ?_
            refine rg_get C h 0 rfl rfl in_X 1 (by decide) fl_X_18 rfl dc_X_keep_71 ?_
            refine lv_aload_n C.x C.b dc_X_keep_74 rfl (lv_at hl 2 rfl) ?_
            refine rg_get C h 0 rfl rfl in_X 0 (by decide) fl_X_11 rfl dc_X_keep_75 ?_
            refine lv_aload_n C.x C.b dc_X_keep_78 rfl (lv_at hl 2 rfl) ?_
            refine rg_get C h 0 rfl rfl in_X 3 (by decide) fl_X_135 rfl dc_X_keep_79 ?_
            refine rg_ald C h 1 rfl (by omega) (by decide) rfl dc_X_keep_82 ?_
            refine kv_V (As := [.ref (d (20 + 3 * (z 10 3)))]) (rest := []) C h hl.1 (c_S_writeTo l Γ d hm2 mc2 z tl tb wr M (z 10 3) (by omega) (fun t ht => hMx t (by rw [← h3]; exact ht)) SI_z KI_z SD_z hk1 h01 h00) mw_S_writeTo lk_X_151 (q0 := 2) rfl rfl rfl (by decide) (by decide) (Nat.le_of_ble_eq_true rfl) dc_X_keep_83 (fun v u H locs hp h => ?_)
            obtain ⟨⟨so_2, tb_3⟩, rfl⟩ : ∃ zz9, zz9 = u := ⟨_, rfl⟩
            obtain ⟨rfl, SI_so_2, w3_so_2, wo_so_2, wg_so_2, wl_so_2⟩ := hp
            dsimp only at SI_so_2 w3_so_2 wo_so_2 wg_so_2 wl_so_2
            replace h : sT Γ s (xW Γ d hm2 mc2 so_2 tl tb_3 wr) H locs := h
            refine W.eq (g2 := F0 m 86 ls []) rfl ?_
            refine lv_aload_n C.x C.b dc_X_keep_86 rfl (lv_at hl 2 rfl) ?_
            refine lv_dup C.x C.b dc_X_keep_87 rfl ?_
            refine rg_get C h 0 rfl rfl in_X 3 (by decide) fl_X_135 rfl dc_X_keep_88 ?_
            refine lv_iconst (v := (nI 1)) C.x C.b dc_X_keep_91 (by decide +kernel) ?_
            refine lv_iadd C.x C.b dc_X_keep_92 ?_
            refine tp_i (nI_add (so_2 10 3) 1) ?_
            refine rg_put (ty := .int) C h 0 rfl rfl in_X tk_X nm_X 3 (by decide) fl_X_135 rfl (by decide +kernel) rfl rfl (by simp) dc_X_keep_93 (fun H locs h => ?_)
            obtain ⟨so_4, eso_4⟩ : ∃ zz9, zz9 = us so_2 10 (us (so_2 10) 3 ((so_2 10 3) + 1)) := ⟨_, rfl⟩
            have xso_4 : so_4 10 0 = so_2 10 0 ∧ so_4 10 1 = so_2 10 1 ∧ so_4 10 2 = so_2 10 2 ∧ so_4 10 3 = ((so_2 10 3) + 1) := by rw [eso_4, us_s]; exact ⟨us_n _ _ (by decide), us_n _ _ (by decide), us_n _ _ (by decide), us_s _ _ _⟩
            replace h : sT Γ s (xW Γ d hm2 mc2 so_4 tl tb_3 wr) H locs := by rw [eso_4]; exact h
            refine lv_aload_n C.x C.b dc_X_keep_96 rfl (lv_at hl 2 rfl) ?_
            refine rg_get C h 0 rfl rfl in_X 3 (by decide) fl_X_135 rfl dc_X_keep_97 ?_
            refine lv_iconst (v := (nI 1)) C.x C.b dc_X_keep_100 (by decide +kernel) ?_
            refine lv_isub C.x C.b dc_X_keep_101 ?_
            refine tp_i (pk_sub (a := (so_4 10 3)) (b := 1) (by omega)) ?_
            have hok := mok_ok hM
            have e10 : so_4 10 3 = so 10 3 + 1 := by omega
            have hsB : sB so_4 := by
              have a := SI_so_2.sB hok.2.2
              have e0 : so_4 10 0 = so_2 10 0 := xso_4.1
              have k1 : ∀ n, n ≠ 10 → so_4 n = so_2 n := fun n hn => by rw [eso_4, us_n _ _ hn]
              unfold sB
              rw [e0, k1 1 (by decide), k1 0 (by decide)]
              exact a
            have hz3 : z 10 3 = so 10 3 := h3
            have hfin : mkP so tb M (some (.int (nI (so_4 10 3 - 1)))) (hm2, mc2, so_4, tb_3) := by
              refine ⟨by rw [e10, Nat.add_sub_cancel], by omega, ⟨hsB, by show so_4 10 3 ≤ 80; omega, fun i hi => ?_⟩, e10, fun a ha => ?_, ?_⟩
              · show tG (tb_3 i)
                by_cases e : i = z 10 3
                · rw [e]; exact wg_so_2
                · rw [wo_so_2 i e]; exact hC0.2.2 i (by have : i < so_4 10 3 := hi; omega)
              · show tb_3 a = tb a
                exact wo_so_2 a (by omega)
              · show ∀ w, lts w → macc (tM (tb_3 (so 10 3))) 0 w = _
                rw [← hz3]; exact wl_so_2
            refine W.widen (k := 1) (n := 6) (by decide) (by decide) ?_
            rw [hQ]
            exact vx_ret (rt_i C (hm2, mc2, so_4, tb_3) h (hfin) dc_X_keep_102)
          · have hvv : vd = 2 := by
              by_cases e : vd = 1
              · exfalso
                obtain ⟨a, b⟩ := hB e
                have c := a.1
                rcases a.2.2.2.1 with z9 | z9 <;> omega
              · omega
            rw [hQ]
            exact rt_thr (names := ns_ioe) C hst hno hX hl.1 (hm2, mc2, z, tb) h (⟨rfl, ⟨SI_z.sB (mok_ok hM).2.2, by show z 10 3 ≤ 80; omega, fun i hi => hC0.2.2 i (by have : i < z 10 3 := hi; omega)⟩, h3, rfl, Or.inr (hC hvv)⟩) (by decide) (by decide) tw_ioe tk_ioe ti_ioe (text := "too many rests") (by decide) dc_X_keep_60 dc_X_keep_63 dc_X_keep_64 dc_X_keep_66 dc_X_keep_69 (by decide) (Nat.le_of_ble_eq_true rfl) (by decide) (by decide) (by decide) (by decide)
        · refine lv_iload_n C.x C.b dc_X_keep_37 rfl (lv_at hl 1 rfl) ?_
          refine lv_iconst (v := (nI 1)) C.x C.b dc_X_keep_38 (by decide +kernel) ?_
          refine bc_ne (tgt := 56) C (by omega) (by omega) dc_X_keep_39 (by decide) (fun q39 => ?_) (fun q39 => ?_)
          · refine lv_iload_n C.x C.b dc_X_keep_56 rfl (lv_at hl 1 rfl) ?_
            refine bz_eq (tgt := 70) C (by omega) dc_X_keep_57 (by decide) (fun q57 => ?_) (fun q57 => ?_)
            · have hv0 : vd = 0 := by omega
              obtain ⟨KI_z, SD_z, hk1⟩ := hA hv0
              refine lv_aload_n C.x C.b dc_X_keep_70 rfl (lv_at hl 2 rfl) ?_
              refine rg_get C h 0 rfl rfl in_X 1 (by decide) fl_X_18 rfl dc_X_keep_71 ?_
              refine lv_aload_n C.x C.b dc_X_keep_74 rfl (lv_at hl 2 rfl) ?_
              refine rg_get C h 0 rfl rfl in_X 0 (by decide) fl_X_11 rfl dc_X_keep_75 ?_
              refine lv_aload_n C.x C.b dc_X_keep_78 rfl (lv_at hl 2 rfl) ?_
              refine rg_get C h 0 rfl rfl in_X 3 (by decide) fl_X_135 rfl dc_X_keep_79 ?_
              refine rg_ald C h 1 rfl (by omega) (by decide) rfl dc_X_keep_82 ?_
              refine kv_V (As := [.ref (d (20 + 3 * (z 10 3)))]) (rest := []) C h hl.1 (c_S_writeTo l Γ d hm2 mc2 z tl tb wr M (z 10 3) (by omega) (fun t ht => hMx t (by rw [← h3]; exact ht)) SI_z KI_z SD_z hk1 h01 h00) mw_S_writeTo lk_X_151 (q0 := 2) rfl rfl rfl (by decide) (by decide) (Nat.le_of_ble_eq_true rfl) dc_X_keep_83 (fun v u H locs hp h => ?_)
              obtain ⟨⟨so_5, tb_6⟩, rfl⟩ : ∃ zz9, zz9 = u := ⟨_, rfl⟩
              obtain ⟨rfl, SI_so_5, w3_so_5, wo_so_5, wg_so_5, wl_so_5⟩ := hp
              dsimp only at SI_so_5 w3_so_5 wo_so_5 wg_so_5 wl_so_5
              replace h : sT Γ s (xW Γ d hm2 mc2 so_5 tl tb_6 wr) H locs := h
              refine W.eq (g2 := F0 m 86 ls []) rfl ?_
              refine lv_aload_n C.x C.b dc_X_keep_86 rfl (lv_at hl 2 rfl) ?_
              refine lv_dup C.x C.b dc_X_keep_87 rfl ?_
              refine rg_get C h 0 rfl rfl in_X 3 (by decide) fl_X_135 rfl dc_X_keep_88 ?_
              refine lv_iconst (v := (nI 1)) C.x C.b dc_X_keep_91 (by decide +kernel) ?_
              refine lv_iadd C.x C.b dc_X_keep_92 ?_
              refine tp_i (nI_add (so_5 10 3) 1) ?_
              refine rg_put (ty := .int) C h 0 rfl rfl in_X tk_X nm_X 3 (by decide) fl_X_135 rfl (by decide +kernel) rfl rfl (by simp) dc_X_keep_93 (fun H locs h => ?_)
              obtain ⟨so_7, eso_7⟩ : ∃ zz9, zz9 = us so_5 10 (us (so_5 10) 3 ((so_5 10 3) + 1)) := ⟨_, rfl⟩
              have xso_7 : so_7 10 0 = so_5 10 0 ∧ so_7 10 1 = so_5 10 1 ∧ so_7 10 2 = so_5 10 2 ∧ so_7 10 3 = ((so_5 10 3) + 1) := by rw [eso_7, us_s]; exact ⟨us_n _ _ (by decide), us_n _ _ (by decide), us_n _ _ (by decide), us_s _ _ _⟩
              replace h : sT Γ s (xW Γ d hm2 mc2 so_7 tl tb_6 wr) H locs := by rw [eso_7]; exact h
              refine lv_aload_n C.x C.b dc_X_keep_96 rfl (lv_at hl 2 rfl) ?_
              refine rg_get C h 0 rfl rfl in_X 3 (by decide) fl_X_135 rfl dc_X_keep_97 ?_
              refine lv_iconst (v := (nI 1)) C.x C.b dc_X_keep_100 (by decide +kernel) ?_
              refine lv_isub C.x C.b dc_X_keep_101 ?_
              refine tp_i (pk_sub (a := (so_7 10 3)) (b := 1) (by omega)) ?_
              have hok := mok_ok hM
              have e10 : so_7 10 3 = so 10 3 + 1 := by omega
              have hsB : sB so_7 := by
                have a := SI_so_5.sB hok.2.2
                have e0 : so_7 10 0 = so_5 10 0 := xso_7.1
                have k1 : ∀ n, n ≠ 10 → so_7 n = so_5 n := fun n hn => by rw [eso_7, us_n _ _ hn]
                unfold sB
                rw [e0, k1 1 (by decide), k1 0 (by decide)]
                exact a
              have hz3 : z 10 3 = so 10 3 := h3
              have hfin : mkP so tb M (some (.int (nI (so_7 10 3 - 1)))) (hm2, mc2, so_7, tb_6) := by
                refine ⟨by rw [e10, Nat.add_sub_cancel], by omega, ⟨hsB, by show so_7 10 3 ≤ 80; omega, fun i hi => ?_⟩, e10, fun a ha => ?_, ?_⟩
                · show tG (tb_6 i)
                  by_cases e : i = z 10 3
                  · rw [e]; exact wg_so_5
                  · rw [wo_so_5 i e]; exact hC0.2.2 i (by have : i < so_7 10 3 := hi; omega)
                · show tb_6 a = tb a
                  exact wo_so_5 a (by omega)
                · show ∀ w, lts w → macc (tM (tb_6 (so 10 3))) 0 w = _
                  rw [← hz3]; exact wl_so_5
              refine W.widen (k := 1) (n := 6) (by decide) (by decide) ?_
              rw [hQ]
              exact vx_ret (rt_i C (hm2, mc2, so_7, tb_6) h (hfin) dc_X_keep_102)
            · have hvv : vd = 2 := by
                by_cases e : vd = 1
                · exfalso
                  obtain ⟨a, b⟩ := hB e
                  have c := a.1
                  rcases a.2.2.2.1 with z9 | z9 <;> omega
                · omega
              rw [hQ]
              exact rt_thr (names := ns_ioe) C hst hno hX hl.1 (hm2, mc2, z, tb) h (⟨rfl, ⟨SI_z.sB (mok_ok hM).2.2, by show z 10 3 ≤ 80; omega, fun i hi => hC0.2.2 i (by have : i < z 10 3 := hi; omega)⟩, h3, rfl, Or.inr (hC hvv)⟩) (by decide) (by decide) tw_ioe tk_ioe ti_ioe (text := "too many rests") (by decide) dc_X_keep_60 dc_X_keep_63 dc_X_keep_64 dc_X_keep_66 dc_X_keep_69 (by decide) (Nat.le_of_ble_eq_true rfl) (by decide) (by decide) (by decide) (by decide)
          · refine lv_aload_n C.x C.b dc_X_keep_42 rfl (lv_at hl 2 rfl) ?_
            refine rg_get C h 0 rfl rfl in_X 1 (by decide) fl_X_18 rfl dc_X_keep_43 ?_
            refine kv_V (As := []) (rest := []) C h hl.1 (c_S_scan l Γ d hm2 mc2 z tl tb wr M hM SI_z (hB q39).1 h00 h01) mw_S_scan lk_X_145 (q0 := 2) rfl rfl rfl (by decide) (by decide) (Nat.le_of_ble_eq_true rfl) dc_X_keep_46 (fun v u H locs hp h => ?_)
            obtain ⟨⟨vd_8, so_9⟩, rfl⟩ : ∃ zz9, zz9 = u := ⟨_, rfl⟩
            obtain ⟨rfl, r2_so_9, SI_so_9, r3_so_9, r0_so_9, r1_so_9, rA_so_9, rB_so_9, rC_so_9⟩ := hp
            dsimp only at r2_so_9 SI_so_9 r3_so_9 r0_so_9 r1_so_9 rA_so_9 rB_so_9 rC_so_9
            replace h : sT Γ s (xW Γ d hm2 mc2 so_9 tl tb wr) H locs := h
            refine W.eq (g2 := F0 m 49 ls [.int (nI vd_8)]) rfl ?_
            refine lv_istore_n (lv' := [(2, .int (nI vd_8)), (3, .int (nI r)), (0, .ref (d 0))]) C.x C.b dc_X_keep_49 rfl hl (by decide) rfl (fun ls hl => ?_)
            refine lv_iinc (v := nI (r + 1)) (lv' := [(3, .int (nI (r + 1))), (2, .int (nI vd_8)), (0, .ref (d 0))]) C.x C.b dc_X_keep_50 hl (k := 1) rfl (nI_1 r) (by decide) rfl (fun ls hl => ?_)
            refine lv_goto (tgt := 31) C.x C.b dc_X_keep_53 (by decide) ?_
            have hB2 : vd_8 = 1 → KI M so_9 ∧ so_9 10 1 = r + 1 + 1 := fun e => ⟨(rB_so_9 e).1, by have := (rB_so_9 e).2; have := (hB q39).2; omega⟩
            exact ih_31 (r + 1) vd_8 so_9 _ _ _ (by omega) (by first | assumption | omega) (by first | exact SI_so_9 | exact bg.1) (by first | exact r3_so_9.trans h3 | omega) (by first | exact r0_so_9 | omega) (by first | exact r1_so_9 | exact bg.2.2.1) (by first | exact r2_so_9 | omega) (by first | exact rA_so_9 | omega) (by first | exact hB2 | exact hB) (by first | exact rC_so_9 | omega) h (lv_sub hl [0, 1, 2] rfl)
    exact lp_31 _ 0 1 so_1 _ _ _ (Nat.lt_succ_self _) (by first | assumption | omega) (by first | exact SI_so_9 | exact bg.1) (by first | exact r3_so_9.trans h3 | omega) (by first | exact r0_so_9 | omega) (by first | exact r1_so_9 | exact bg.2.2.1) (by first | exact r2_so_9 | omega) (by first | exact rA_so_9 | omega) (by first | exact hB2 | exact hB) (by first | exact rC_so_9 | omega) h (lv_sub hl [0, 1, 2] rfl)
  · replace h := xw_drop h
    rw [hQ]
    exact rt_thr (names := ns_ioe) C hst hno hX hl.1 (hm, mc, so, tb) h (⟨rfl, hC0, rfl, rfl, Or.inl q6⟩) (by decide) (by decide) tw_ioe tk_ioe ti_ioe (text := "too many sets") (by decide) dc_X_keep_9 dc_X_keep_12 dc_X_keep_13 dc_X_keep_15 dc_X_keep_18 (by decide) (Nat.le_of_ble_eq_true rfl) (by decide) (by decide) (by decide) (by decide)
end
section
set_option maxRecDepth 100000 in theorem gw_acn : Cond.native arraycopyName ∈ gw := gw_t 584 rfl rfl
set_option maxRecDepth 100000 in theorem gw_acs : Cond.static arraycopyName ∈ gw := gw_t 583 rfl rfl
set_option maxRecDepth 100000 in theorem gw_aci : Cond.initialized "java/lang/System" ∈ gw := gw_t 19 rfl rfl
/-! numbers of words -/
abbrev lI (n : Nat) : Int64 := Int64.ofNat n
theorem lI_add (a b : Nat) : lI a + lI b = lI (a + b) := (Int64.ofNat_add a b).symm
def sum3 (f : Nat → Nat) : Nat → Nat
  | 0 => 0
  | q + 1 => sum3 f q + f q
/-- how many words of k letters the rest r has -/
def cnt (e : Nat) (nx : Nat → Nat) : Nat → Nat → Nat
  | 0, r => (e.testBit r).toNat
  | k + 1, r => sum3 (fun l => cnt e nx k (nx (r * 3 + l))) 3
def YL (t : Nat → Nat → Nat) (n : Nat) (z : Nat → Nat → Int64) (k : Nat) : Prop := (∀ r, r < t 0 0 → z 0 r = lI (cnt (t 0 1) (t 1) n r)) ∧ ∀ r, r < k → z 1 r = lI (cnt (t 0 1) (t 1) (n + 1) r)
theorem YL.st0 {t : Nat → Nat → Nat} {n k : Nat} {z z2 : Nat → Nat → Int64} (h : YL t n z k) (e : z2 = us z 1 (us (z 1) k 0)) : YL t n z2 k ∧ z2 1 k = lI (sum3 (fun l => cnt (t 0 1) (t 1) n (t 1 (k * 3 + l))) 0) := by
  subst e
  refine ⟨⟨fun r hr => by rw [us_n _ _ (by decide)]; exact h.1 r hr, fun r hr => by rw [us_s, us_n _ _ (by omega)]; exact h.2 r hr⟩, by rw [us_s, us_s]; rfl⟩
theorem YL.st1 {t : Nat → Nat → Nat} {n k q : Nat} {z z2 : Nat → Nat → Int64} (h : YL t n z k) (hk : z 1 k = lI (sum3 (fun l => cnt (t 0 1) (t 1) n (t 1 (k * 3 + l))) q)) (ht : t 1 (k * 3 + q) < t 0 0) (e : z2 = us z 1 (us (z 1) k (z 1 k + z 0 (t 1 (k * 3 + q))))) : YL t n z2 k ∧ z2 1 k = lI (sum3 (fun l => cnt (t 0 1) (t 1) n (t 1 (k * 3 + l))) (q + 1)) := by
  subst e
  refine ⟨⟨fun r hr => by rw [us_n _ _ (by decide)]; exact h.1 r hr, fun r hr => by rw [us_s, us_n _ _ (by omega)]; exact h.2 r hr⟩, ?_⟩
  rw [us_s, us_s, hk, h.1 _ ht, lI_add]
  rfl
theorem YL.nx {t : Nat → Nat → Nat} {n k : Nat} {z : Nat → Nat → Int64} (h : YL t n z k) (hk : z 1 k = lI (sum3 (fun l => cnt (t 0 1) (t 1) n (t 1 (k * 3 + l))) 3)) : YL t n z (k + 1) := by
  refine ⟨h.1, fun r hr => ?_⟩
  by_cases e : r = k
  · subst e; exact hk
  · exact h.2 r (by omega)
section CPY
variable {p : Program} {l : Launch} {e : Env} {R : Room} {s : State} {m : MethodId} {args : Array Value} {below : List Frame} {meth : Method} {c : Code} {H : Heap} {locs : List Loc} {cells slots : Nat} {Q : State → Prop}
variable {Γ : gG} {cc : ByteArray} {ret : Option FieldType} {own : String} {nL pc : Nat} {ls : Array Slot} {rest : List Value} {ws : va_W}
theorem rg_copyl {a0 a n0 n1 n idx : Nat} {f g : Nat → Int64} (C : cX Γ p s m args meth c cc ret own nL) (h : sT Γ s ws H locs) (hsz : ls.size = nL) (q0 q1 : Nat) (ha0 : ws[q0]? = some (a0, .inl (Γ.2.1 1, n0, .inr (.inl f)))) (ha1 : ws[q1]? = some (a, .inl (Γ.2.1 1, n1, .inr (.inl g)))) (hn0 : n ≤ n0) (hn1 : n ≤ n1) (hn : n < 2 ^ 31) (hk : Cond.methodLink own idx arraycopyName ∈ gw) (hR : 1 ≤ R.frames) (hRl : (rest.map fun v => v.category).sum + (nativeFrameWords "java/lang/System" "arraycopy" 5 + 11) ≤ R.locals) (hdg : decode cc pc = .ok (.invokestatic idx, 3))
    (kk : ∀ (H1 : Heap) (locs1 : List Loc), sT Γ s (ws.set q1 (a, .inl (Γ.2.1 1, n1, .inr (.inl (va_cpy f g 0 0 n))))) H1 locs1 → W p l e R s m args below meth c H1 locs1 cells slots Q (F0 m (pc + 3) ls rest)) : W p l e R s m args below meth c H locs cells slots Q (F0 m pc ls (.int (nI n) :: .int (nI 0) :: .ref a :: .int (nI 0) :: .ref a0 :: rest)) := by
  have e0 : (nI 0).toNatClampNeg = 0 := nI_clamp (by decide)
  have en : (nI n).toNatClampNeg = n := nI_clamp hn
  refine va_copyl C.x C.b (by rw [C.n]; exact hsz.symm) C.o (C.t _ hk) (C.t _ gw_acn) (C.t _ gw_acs) (C.t _ gw_aci) C.k h.1 h.2.1 h.2.2 q0 q1 1 1 ha0 ha1 rfl rfl rfl (nI_pos (by decide)) (nI_pos (by decide)) (nI_pos hn) (by rw [e0, en]; omega) (by rw [e0, en]; omega) (fun _ _ => rfl) hR hRl hdg (fun H1 locs1 a1 a2 a3 => ?_)
  rw [e0, en] at a1 a2
  exact kk H1 locs1 ⟨a1, a2, a3⟩
end CPY
/-! the machines of the calls that make sets -/
def mqO (b f : Nat) : mM := (f, mmO b, (fun pl => decide (pl = 1)), fun pl => pl < 3)
def mqR (t : Nat → Nat → Nat) (f : Nat) (en : Int32) : mM := (f, mmR t, maR en, fun pl => pl < t 0 0)
def mqB (how : Nat) (t u : Nat → Nat → Nat) : mM := (0, mmB t u, maB how t u, fun pl => pl / 10 < t 0 0 ∧ pl % 10 < u 0 0)
def mqH (t u : Nat → Nat → Nat) : mM := (mwB t 0 0, mmH t u, maH u, fun pl => pl / 1024 < t 0 0)
def mqN (t : Nat → Nat → Nat) : mM := (1024, mmN t, maN t, fun pl => pl ≤ 1024)
def mqK (t : Nat → Nat → Nat) : mM := (t 0 1, mmK t, maK, fun pl => pl < 1024)
section MQ
variable {d : Nat → Nat} {tb : Nat → Nat → Nat → Nat} {so : Nat → Nat → Nat}
theorem mok_O {b f : Nat} (hb : b < 8) (hf : f < 3) : mOK d tb (.inr (4, [.int (nI b), .int (nI f)])) (mqO b f) := Or.inl ⟨b, f, rfl, hb, hf, rfl⟩
theorem mok_R {i f : Nat} {en : Int32} (hi : i < 80) (ht : tOK (tb i)) (hf : f < tb i 0 0) : mOK d tb (.inr (5, [.ref (d (20 + 3 * i)), .int (nI f), .int en])) (mqR (tb i) f en) := Or.inr (Or.inl ⟨i, f, en, rfl, hi, ht, hf, rfl⟩)
theorem mok_B {how i j : Nat} (hw : how < 4) (hi : i < 80) (hj : j < 80) (ht : tOK (tb i)) (hu : tOK (tb j)) : mOK d tb (.inr (6, [.int (nI how), .ref (d (20 + 3 * i)), .ref (d (20 + 3 * j))])) (mqB how (tb i) (tb j)) := Or.inr (Or.inr (Or.inl ⟨how, i, j, rfl, hw, hi, hj, ht, hu, rfl⟩))
theorem mok_H {i j : Nat} (hi : i < 80) (hj : j < 80) (ht : tOK (tb i)) (hu : tOK (tb j)) : mOK d tb (.inr (7, [.ref (d (20 + 3 * i)), .ref (d (20 + 3 * j))])) (mqH (tb i) (tb j)) := Or.inr (Or.inr (Or.inr (Or.inl ⟨i, j, rfl, hi, hj, ht, hu, rfl⟩)))
theorem mok_N {i : Nat} (hi : i < 80) (ht : tOK (tb i)) : mOK d tb (.inr (8, [.ref (d (20 + 3 * i))])) (mqN (tb i)) := Or.inr (Or.inr (Or.inr (Or.inr (Or.inl ⟨i, rfl, hi, ht, rfl⟩))))
theorem mok_K {i : Nat} (hi : i < 80) (ht : tOK (tb i)) : mOK d tb (.inr (9, [.ref (d (20 + 3 * i))])) (mqK (tb i)) := Or.inr (Or.inr (Or.inr (Or.inr (Or.inr ⟨i, rfl, hi, ht, rfl⟩))))
/-- a machine over kept tables stays one while the next table is written -/
theorem mox {mc : va_E} {i j n : Nat} {F : (Nat → Nat → Nat) → (Nat → Nat → Nat) → mM} {t : Nat → Nat → Nat → Nat} (hi : i < n) (hj : j < n) (h : ∀ a, a ≠ n → t a = tb a) (k : ∀ x : Nat → Nat → Nat → Nat, x i = tb i → x j = tb j → mOK d x mc (F (x i) (x j))) : mOK d t mc (F (tb i) (tb j)) := by
  have a := h i (by omega)
  have b := h j (by omega)
  have := k t a b
  rw [a, b] at this
  exact this
end MQ
theorem CS.tok {so : Nat → Nat → Nat} {tb : Nat → Nat → Nat → Nat} (h : CS so tb) {i : Nat} (hi : i < so 10 3) : i < 80 ∧ tOK (tb i) ∧ tG (tb i) := ⟨Nat.lt_of_lt_of_le hi h.2.1, (h.2.2 i hi).1, h.2.2 i hi⟩

abbrev rm_Y_begin : Room := { frames := 1, cells := 0, slots := 0, locals := 21 }
set_option maxRecDepth 100000 in
set_option maxHeartbeats 4000000 in
theorem c_Y_begin (l : Launch) (Γ : gG) (d : Nat → Nat) (hm : Nat) (mc : va_E) (so : Nat → Nat → Nat) (tl : Nat → Nat → Int64) (tb : Nat → Nat → Nat → Nat) (wr : va_W) (i : Nat) (hi : i < 80) (ht : tOK (tb i)) : cT l Γ my_Y_begin bc_Y_begin 3 none rm_Y_begin [.ref (d 3), .ref (d (20 + 3 * i))] (xW Γ d hm mc so tl tb wr) (S := Nat → Nat → Int64) (fun v u => v = none ∧ ∀ r, r < tb i 0 0 → u 0 r = lI (cnt (tb i 0 1) (tb i 1) 0 r)) (fun u => xW Γ d hm mc so u tb wr) := by
  refine cT.start (by decide) (Nat.le_of_ble_eq_true rfl) (fun p e s m args below meth c ls Q hQ C hmn h hl => ?_)
  replace hl : lv_has ls 3 [(0, .ref (d 3)), (1, .ref (d (20 + 3 * i)))] := hl
  have ht2 := ht.2.1
  have ht3 := ht.2.2.1
  refine lv_iconst (v := (nI 0)) C.x C.b dc_Y_begin_0 (by decide +kernel) ?_
  refine lv_istore_n (lv' := [(2, .int (nI 0)), (0, .ref (d 3)), (1, .ref (d (20 + 3 * i)))]) C.x C.b dc_Y_begin_1 rfl hl (by decide) rfl (fun ls hl => ?_)
  have hz : ∀ r, r < 0 → tl 0 r = lI (cnt (tb i 0 1) (tb i 1) 0 r) := fun r hr => absurd hr (Nat.not_lt_zero _)
  have lp_2 : ∀ (n_2 : Nat) (k : Nat) (z : Nat → Nat → Int64) (H : Heap) (locs : List Loc) (ls : Array Slot), tb i 0 0 - k < n_2 → (k ≤ tb i 0 0) → (∀ r, r < k → z 0 r = lI (cnt (tb i 0 1) (tb i 1) 0 r)) → sT Γ s (xW Γ d hm mc so z tb wr) H locs → lv_has ls 3 [(2, .int (nI k)), (0, .ref (d 3)), (1, .ref (d (20 + 3 * i)))] → W p l e rm_Y_begin s m args below meth c H locs 0 0 Q (F0 m 2 ls []) := by
    intro n_2
    induction n_2 with
    | zero => intro k z H locs ls hms; exact absurd hms (Nat.not_lt_zero _)
    | succ n_2 ih_2 =>
      intro k z H locs ls hms hk hz h hl
      refine lv_iload_n C.x C.b dc_Y_begin_2 rfl (lv_at hl 0 rfl) ?_
      refine lv_aload_n C.x C.b dc_Y_begin_3 rfl (lv_at hl 2 rfl) ?_
      refine rg_getN C h (17 + i) (lk_T (hi)) rfl in_T 0 (by decide) fl_Y_18 rfl dc_Y_begin_4 ?_
      refine bc_ge (tgt := 35) C (by omega) (by omega) dc_Y_begin_7 (by decide) (fun q7 => ?_) (fun q7 => ?_)
      · rw [hQ]
        exact rt_v C z h (⟨rfl, fun r hr => hz r (by omega)⟩) dc_Y_begin_35
      · refine lv_aload_n C.x C.b dc_Y_begin_10 rfl (lv_at hl 1 rfl) ?_
        refine rg_get C h 3 rfl rfl in_Y 0 (by decide) fl_Y_9 rfl dc_Y_begin_11 ?_
        refine lv_iload_n C.x C.b dc_Y_begin_14 rfl (lv_at hl 0 rfl) ?_
        refine lv_aload_n C.x C.b dc_Y_begin_15 rfl (lv_at hl 2 rfl) ?_
        refine lv_iload_n C.x C.b dc_Y_begin_16 rfl (lv_at hl 0 rfl) ?_
        refine kv_V (As := [.int (nI k)]) (rest := [.int (nI k), .ref (d 15)]) C h hl.1 (c_T_endsAt l Γ d hm mc so z tb wr i k (hi) (by omega) (by omega)) mw_T_endsAt lk_Y_24 (q0 := (17 + i)) (lk_T (hi)) rfl rfl (by decide) (by decide) (Nat.le_of_ble_eq_true rfl) dc_Y_begin_17 (fun v u H locs hp h => ?_)
        obtain rfl := hp
        replace h : sT Γ s (xW Γ d hm mc so z tb wr) H locs := h
        refine W.eq (g2 := F0 m 20 ls [.int (bI ((tb i 0 1).testBit k)), .int (nI k), .ref (d 15)]) rfl ?_
        refine bb_eq (tgt := 27) C dc_Y_begin_20 (by decide) (fun q20 => ?_) (fun q20 => ?_)
        · refine lv_lconst (v := 0) C.x C.b dc_Y_begin_27 (by decide +kernel) ?_
          refine rg_lst C h 15 rfl (by omega) (by decide) dc_Y_begin_28 (fun H locs h => ?_)
          obtain ⟨tl_1, etl_1⟩ : ∃ zz9, zz9 = us z 0 (us (z 0) k 0) := ⟨_, rfl⟩
          replace h : sT Γ s (xW Γ d hm mc so tl_1 tb wr) H locs := by rw [etl_1]; exact h
          refine lv_iinc (v := nI (k + 1)) (lv' := [(2, .int (nI (k + 1))), (0, .ref (d 3)), (1, .ref (d (20 + 3 * i)))]) C.x C.b dc_Y_begin_29 hl (k := 0) rfl (nI_1 k) (by decide) rfl (fun ls hl => ?_)
          refine lv_goto (tgt := 2) C.x C.b dc_Y_begin_32 (by decide) ?_
          have hz : ∀ r, r < k + 1 → tl_1 0 r = lI (cnt (tb i 0 1) (tb i 1) 0 r) := fun r hr => by
            rw [etl_1, us_s]
            by_cases e9 : r = k
            · subst e9; rw [us_s]; show _ = lI ((tb i 0 1).testBit r).toNat; rw [q20]; rfl
            · rw [us_n _ _ e9]; exact hz r (by omega)
          exact ih_2 (k + 1) tl_1 _ _ _ (by omega) (by first | assumption | omega) (by first | assumption | omega) h (lv_sub hl [0, 1, 2] rfl)
        · refine lv_lconst (v := 1) C.x C.b dc_Y_begin_23 (by decide +kernel) ?_
          refine lv_goto (tgt := 28) C.x C.b dc_Y_begin_24 (by decide) ?_
          refine rg_lst C h 15 rfl (by omega) (by decide) dc_Y_begin_28 (fun H locs h => ?_)
          obtain ⟨tl_2, etl_2⟩ : ∃ zz9, zz9 = us z 0 (us (z 0) k 1) := ⟨_, rfl⟩
          replace h : sT Γ s (xW Γ d hm mc so tl_2 tb wr) H locs := by rw [etl_2]; exact h
          refine lv_iinc (v := nI (k + 1)) (lv' := [(2, .int (nI (k + 1))), (0, .ref (d 3)), (1, .ref (d (20 + 3 * i)))]) C.x C.b dc_Y_begin_29 hl (k := 0) rfl (nI_1 k) (by decide) rfl (fun ls hl => ?_)
          refine lv_goto (tgt := 2) C.x C.b dc_Y_begin_32 (by decide) ?_
          have hz : ∀ r, r < k + 1 → tl_2 0 r = lI (cnt (tb i 0 1) (tb i 1) 0 r) := fun r hr => by
            rw [etl_2, us_s]
            by_cases e9 : r = k
            · subst e9; rw [us_s]; show _ = lI ((tb i 0 1).testBit r).toNat; rw [q20]; rfl
            · rw [us_n _ _ e9]; exact hz r (by omega)
          exact ih_2 (k + 1) tl_2 _ _ _ (by omega) (by first | assumption | omega) (by first | assumption | omega) h (lv_sub hl [0, 1, 2] rfl)
  exact lp_2 _ 0 tl _ _ _ (Nat.lt_succ_self _) (by first | assumption | omega) (by first | assumption | omega) h (lv_sub hl [0, 1, 2] rfl)

abbrev rm_Y_lengthen : Room := { frames := 1, cells := 0, slots := 0, locals := 30 }
set_option maxRecDepth 100000 in
set_option maxHeartbeats 4000000 in
theorem c_Y_lengthen (l : Launch) (Γ : gG) (d : Nat → Nat) (hm : Nat) (mc : va_E) (so : Nat → Nat → Nat) (tl : Nat → Nat → Int64) (tb : Nat → Nat → Nat → Nat) (wr : va_W) (i n : Nat) (hi : i < 80) (ht : tOK (tb i)) (hT : ∀ r, r < tb i 0 0 → tl 0 r = lI (cnt (tb i 0 1) (tb i 1) n r)) : cT l Γ my_Y_lengthen bc_Y_lengthen 4 none rm_Y_lengthen [.ref (d 3), .ref (d (20 + 3 * i))] (xW Γ d hm mc so tl tb wr) (S := Nat → Nat → Int64) (fun v u => v = none ∧ ∀ r, r < tb i 0 0 → u 0 r = lI (cnt (tb i 0 1) (tb i 1) (n + 1) r)) (fun u => xW Γ d hm mc so u tb wr) := by
  refine cT.start (by decide) (Nat.le_of_ble_eq_true rfl) (fun p e s m args below meth c ls Q hQ C hmn h hl => ?_)
  replace hl : lv_has ls 4 [(0, .ref (d 3)), (1, .ref (d (20 + 3 * i)))] := hl
  have ht2 := ht.2.1
  have ht3 := ht.2.2.1
  refine lv_iconst (v := (nI 0)) C.x C.b dc_Y_lengthen_0 (by decide +kernel) ?_
  refine lv_istore_n (lv' := [(2, .int (nI 0)), (0, .ref (d 3)), (1, .ref (d (20 + 3 * i)))]) C.x C.b dc_Y_lengthen_1 rfl hl (by decide) rfl (fun ls hl => ?_)
  have hY : YL (tb i) n tl 0 := ⟨hT, fun r hr => absurd hr (Nat.not_lt_zero _)⟩
  have lp_2 : ∀ (n_2 : Nat) (k : Nat) (z : Nat → Nat → Int64) (H : Heap) (locs : List Loc) (ls : Array Slot), tb i 0 0 - k < n_2 → (k ≤ tb i 0 0) → (YL (tb i) n z k) → sT Γ s (xW Γ d hm mc so z tb wr) H locs → lv_has ls 4 [(2, .int (nI k)), (0, .ref (d 3)), (1, .ref (d (20 + 3 * i)))] → W p l e rm_Y_lengthen s m args below meth c H locs 0 0 Q (F0 m 2 ls []) := by
    intro n_2
    induction n_2 with
    | zero => intro k z H locs ls hms; exact absurd hms (Nat.not_lt_zero _)
    | succ n_2 ih_2 =>
      intro k z H locs ls hms hk hY h hl
      refine lv_iload_n C.x C.b dc_Y_lengthen_2 rfl (lv_at hl 0 rfl) ?_
      refine lv_aload_n C.x C.b dc_Y_lengthen_3 rfl (lv_at hl 2 rfl) ?_
      refine rg_getN C h (17 + i) (lk_T (hi)) rfl in_T 0 (by decide) fl_Y_18 rfl dc_Y_lengthen_4 ?_
      refine bc_ge (tgt := 56) C (by omega) (by omega) dc_Y_lengthen_7 (by decide) (fun q7 => ?_) (fun q7 => ?_)
      · refine lv_aload_n C.x C.b dc_Y_lengthen_56 rfl (lv_at hl 1 rfl) ?_
        refine rg_get C h 3 rfl rfl in_Y 1 (by decide) fl_Y_15 rfl dc_Y_lengthen_57 ?_
        refine lv_iconst (v := (nI 0)) C.x C.b dc_Y_lengthen_60 (by decide +kernel) ?_
        refine lv_aload_n C.x C.b dc_Y_lengthen_61 rfl (lv_at hl 1 rfl) ?_
        refine rg_get C h 3 rfl rfl in_Y 0 (by decide) fl_Y_9 rfl dc_Y_lengthen_62 ?_
        refine lv_iconst (v := (nI 0)) C.x C.b dc_Y_lengthen_65 (by decide +kernel) ?_
        refine lv_aload_n C.x C.b dc_Y_lengthen_66 rfl (lv_at hl 2 rfl) ?_
        refine rg_getN C h (17 + i) (lk_T (hi)) rfl in_T 0 (by decide) fl_Y_18 rfl dc_Y_lengthen_67 ?_
        refine rg_copyl C h hl.1 16 15 rfl rfl (by omega) (by omega) (by omega) lk_Y_32 (by decide) (by decide +kernel) dc_Y_lengthen_70 (fun H locs h => ?_)
        obtain ⟨tl_1, etl_1⟩ : ∃ zz9, zz9 = us z 0 (va_cpy (z 1) (z 0) 0 0 (tb i 0 0)) := ⟨_, rfl⟩
        replace h : sT Γ s (xW Γ d hm mc so tl_1 tb wr) H locs := by rw [etl_1]; exact h
        rw [hQ]
        exact rt_v C tl_1 h (⟨rfl, fun r hr => by rw [etl_1, us_s]; show (if 0 ≤ r ∧ r < 0 + tb i 0 0 then z 1 (0 + (r - 0)) else _) = _; rw [if_pos (by omega), show 0 + (r - 0) = r by omega]; exact hY.2 r (by omega)⟩) dc_Y_lengthen_73
      · refine lv_aload_n C.x C.b dc_Y_lengthen_10 rfl (lv_at hl 1 rfl) ?_
        refine rg_get C h 3 rfl rfl in_Y 1 (by decide) fl_Y_15 rfl dc_Y_lengthen_11 ?_
        refine lv_iload_n C.x C.b dc_Y_lengthen_14 rfl (lv_at hl 0 rfl) ?_
        refine lv_lconst (v := 0) C.x C.b dc_Y_lengthen_15 (by decide +kernel) ?_
        refine rg_lst C h 16 rfl (by omega) (by decide) dc_Y_lengthen_16 (fun H locs h => ?_)
        obtain ⟨tl_2, etl_2⟩ : ∃ zz9, zz9 = us z 1 (us (z 1) k 0) := ⟨_, rfl⟩
        replace h : sT Γ s (xW Γ d hm mc so tl_2 tb wr) H locs := by rw [etl_2]; exact h
        refine lv_iconst (v := (nI 0)) C.x C.b dc_Y_lengthen_17 (by decide +kernel) ?_
        refine lv_istore_n (lv' := [(3, .int (nI 0)), (2, .int (nI k)), (0, .ref (d 3)), (1, .ref (d (20 + 3 * i)))]) C.x C.b dc_Y_lengthen_18 rfl hl (by decide) rfl (fun ls hl => ?_)
        obtain ⟨hY2, hs2⟩ := hY.st0 etl_2
        have lp_19 : ∀ (n_19 : Nat) (q : Nat) (y : Nat → Nat → Int64) (H : Heap) (locs : List Loc) (ls : Array Slot), 3 - q < n_19 → (q ≤ 3) → (YL (tb i) n y k) → (y 1 k = lI (sum3 (fun l => cnt (tb i 0 1) (tb i 1) n (tb i 1 (k * 3 + l))) q)) → sT Γ s (xW Γ d hm mc so y tb wr) H locs → lv_has ls 4 [(3, .int (nI q)), (2, .int (nI k)), (0, .ref (d 3)), (1, .ref (d (20 + 3 * i)))] → W p l e rm_Y_lengthen s m args below meth c H locs 0 0 Q (F0 m 19 ls []) := by
          intro n_19
          induction n_19 with
          | zero => intro q y H locs ls hms; exact absurd hms (Nat.not_lt_zero _)
          | succ n_19 ih_19 =>
            intro q y H locs ls hms hq hY hs h hl
            refine lv_iload_n C.x C.b dc_Y_lengthen_19 rfl (lv_at hl 0 rfl) ?_
            refine lv_iconst (v := (nI 3)) C.x C.b dc_Y_lengthen_20 (by decide +kernel) ?_
            refine bc_ge (tgt := 50) C (by omega) (by omega) dc_Y_lengthen_21 (by decide) (fun q21 => ?_) (fun q21 => ?_)
            · refine lv_iinc (v := nI (k + 1)) (lv' := [(2, .int (nI (k + 1))), (3, .int (nI q)), (0, .ref (d 3)), (1, .ref (d (20 + 3 * i)))]) C.x C.b dc_Y_lengthen_50 hl (k := 1) rfl (nI_1 k) (by decide) rfl (fun ls hl => ?_)
              refine lv_goto (tgt := 2) C.x C.b dc_Y_lengthen_53 (by decide) ?_
              have q3 : q = 3 := by omega
              rw [q3] at hs
              have hY2 := hY.nx hs
              exact ih_2 (k + 1) y _ _ _ (by omega) (by first | assumption | omega) (by first | exact hY2 | exact hY) h (lv_sub hl [0, 2, 3] rfl)
            · have hnk := ht.2.2.2.2 k q (by omega) (by omega)
              refine lv_aload_n C.x C.b dc_Y_lengthen_24 rfl (lv_at hl 2 rfl) ?_
              refine rg_get C h 3 rfl rfl in_Y 1 (by decide) fl_Y_15 rfl dc_Y_lengthen_25 ?_
              refine lv_iload_n C.x C.b dc_Y_lengthen_28 rfl (lv_at hl 1 rfl) ?_
              refine lv_dup2_11 C.x C.b dc_Y_lengthen_29 rfl rfl ?_
              refine rg_lld C h 16 rfl (by omega) (by decide) dc_Y_lengthen_30 ?_
              refine lv_aload_n C.x C.b dc_Y_lengthen_31 rfl (lv_at hl 2 rfl) ?_
              refine rg_get C h 3 rfl rfl in_Y 0 (by decide) fl_Y_9 rfl dc_Y_lengthen_32 ?_
              refine lv_aload_n C.x C.b dc_Y_lengthen_35 rfl (lv_at hl 3 rfl) ?_
              refine lv_iload_n C.x C.b dc_Y_lengthen_36 rfl (lv_at hl 1 rfl) ?_
              refine lv_iload_n C.x C.b dc_Y_lengthen_37 rfl (lv_at hl 0 rfl) ?_
              refine kv_V (As := [.int (nI k), .int (nI q)]) (rest := [.ref (d 15), .long (y 1 k), .int (nI k), .ref (d 16)]) C h hl.1 (c_T_after l Γ d hm mc so y tb wr i k q (hi) (by omega) (by omega)) mw_T_after lk_Y_28 (q0 := (17 + i)) (lk_T (hi)) rfl rfl (by decide) (by decide) (Nat.le_of_ble_eq_true rfl) dc_Y_lengthen_38 (fun v u H locs hp h => ?_)
              obtain rfl := hp
              replace h : sT Γ s (xW Γ d hm mc so y tb wr) H locs := h
              refine W.eq (g2 := F0 m 41 ls [.int (nI (tb i 1 (k * 3 + q))), .ref (d 15), .long (y 1 k), .int (nI k), .ref (d 16)]) rfl ?_
              refine rg_lld C h 15 rfl (by omega) (by decide) dc_Y_lengthen_41 ?_
              refine lv_ladd C.x C.b dc_Y_lengthen_42 ?_
              refine rg_lst C h 16 rfl (by omega) (by decide) dc_Y_lengthen_43 (fun H locs h => ?_)
              obtain ⟨tl_3, etl_3⟩ : ∃ zz9, zz9 = us y 1 (us (y 1) k ((y 1 k) + (y 0 (tb i 1 (k * 3 + q))))) := ⟨_, rfl⟩
              replace h : sT Γ s (xW Γ d hm mc so tl_3 tb wr) H locs := by rw [etl_3]; exact h
              refine lv_iinc (v := nI (q + 1)) (lv' := [(3, .int (nI (q + 1))), (2, .int (nI k)), (0, .ref (d 3)), (1, .ref (d (20 + 3 * i)))]) C.x C.b dc_Y_lengthen_44 hl (k := 0) rfl (nI_1 q) (by decide) rfl (fun ls hl => ?_)
              refine lv_goto (tgt := 19) C.x C.b dc_Y_lengthen_47 (by decide) ?_
              obtain ⟨hY2, hs2⟩ := hY.st1 hs hnk etl_3
              exact ih_19 (q + 1) tl_3 _ _ _ (by omega) (by first | assumption | omega) (hY2) (hs2) h (lv_sub hl [0, 1, 2, 3] rfl)
        exact lp_19 _ 0 tl_2 _ _ _ (Nat.lt_succ_self _) (by first | assumption | omega) (hY2) (hs2) h (lv_sub hl [0, 1, 2, 3] rfl)
  exact lp_2 _ 0 tl _ _ _ (Nat.lt_succ_self _) (by first | assumption | omega) (by first | exact hY2 | exact hY) h (lv_sub hl [0, 1, 2] rfl)

abbrev rm_X_letters : Room := { frames := 7, cells := 8, slots := 48, locals := 165 }
set_option maxRecDepth 100000 in
set_option maxHeartbeats 4000000 in
theorem c_X_letters (l : Launch) (Γ : gG) (d : Nat → Nat) (hm : Nat) (mc : va_E) (so : Nat → Nat → Nat) (tl : Nat → Nat → Int64) (tb : Nat → Nat → Nat → Nat) (wr : va_W) (bits : Int32) (hC0 : CS so tb) (hst : l.stackTraces = false) : cTx l Γ my_X_letters bc_X_letters 2 (some .int) rm_X_letters [.ref (d 0), .int bits] (xW Γ d hm mc so tl tb wr) (S := xG) (fun v u => ∃ b, b < 8 ∧ bits = nI b ∧ mkP so tb (mqO b 0) v u) (fun u => xW Γ d u.1 u.2.1 u.2.2.1 tl u.2.2.2 wr) (SX := xG) (fun E u => (E = en_iae ∧ u = (hm, mc, so, tb) ∧ ¬ ∃ b, b < 8 ∧ bits = nI b) ∨ (E = en_ioe ∧ ∃ b, b < 8 ∧ bits = nI b ∧ mkX so tb (mqO b 0) u)) (fun u => xW Γ d u.1 u.2.1 u.2.2.1 tl u.2.2.2 wr) := by
  refine cTx.start (by decide) (Nat.le_of_ble_eq_true rfl) (fun p e s m args below meth c ls Q hQ C hmn hno hX h hl => ?_)
  replace hl : lv_has ls 2 [(0, .ref (d 0)), (1, .int bits)] := hl
  have h80 := hC0.2.1
  refine lv_iload_n C.x C.b dc_X_letters_0 rfl (lv_at hl 1 rfl) ?_
  refine lv_if_lt (tgt := 10) C.x C.b dc_X_letters_1 (by decide) (fun q1 => ?_) (fun q1 => ?_)
  · rw [hQ]
    exact rt_thr (names := ns_iae) C hst hno hX hl.1 (hm, mc, so, tb) h (Or.inl ⟨rfl, rfl, fun z => by obtain ⟨b, hb, e⟩ := z; subst e; first | exact nI_pos (by omega) q1 | exact q7 (nI_lt hb (by decide))⟩) (by decide) (by decide) tw_iae tk_iae ti_iae (text := "no such letters") (by decide) dc_X_letters_10 dc_X_letters_13 dc_X_letters_14 dc_X_letters_16 dc_X_letters_19 (by decide) (Nat.le_of_ble_eq_true rfl) (by decide) (by decide) (by decide) (by decide)
  · refine lv_iload_n C.x C.b dc_X_letters_4 rfl (lv_at hl 1 rfl) ?_
    refine lv_bipush (v := (nI 8)) C.x C.b dc_X_letters_5 (by decide +kernel) ?_
    refine lv_icmp_lt (tgt := 20) C.x C.b dc_X_letters_7 (by decide) (fun q7 => ?_) (fun q7 => ?_)
    · obtain ⟨b, hb, eb⟩ : ∃ b, b < 8 ∧ bits = nI b := by
        rcases pk_ix bits (n := 8) (by decide) with z | z | z
        · exact absurd z q1
        · exact absurd q7 (Int32.not_lt.mpr z)
        · exact z
      subst eb
      refine lv_aload_n C.x C.b dc_X_letters_20 rfl (lv_at hl 0 rfl) ?_
      refine rg_newM (ci := 4) (ty := ft_O) (fs := [.int 0, .int 0]) C h rfl in_O tk_O nk_X_37 ns_O ni_O (by decide +kernel) (by decide) (by decide) dc_X_letters_21 (fun qm_1 H h => ?_)
      refine lv_dup C.x C.b dc_X_letters_24 rfl ?_
      refine lv_iload_n C.x C.b dc_X_letters_25 rfl (lv_at hl 1 rfl) ?_
      refine lv_iconst (v := (nI 0)) C.x C.b dc_X_letters_26 (by decide +kernel) ?_
      refine kv_I (As := [.int (nI b), .int (nI 0)]) (rest := [.ref qm_1, .ref (d 0)]) C h hl.1 (c_O_init l Γ d hm mc so tl tb wr qm_1 b 0) mw_O_init lk_X_39 rfl (by decide) (by decide) (Nat.le_of_ble_eq_true rfl) dc_X_letters_27 (fun v u H locs hp h => ?_)
      obtain rfl := hp
      replace h : sT Γ s (xW Γ d hm mc so tl tb ((qm_1, (.inr (4, [.int (nI b), .int (nI 0)]) : va_E)) :: wr)) H locs := h
      refine W.eq (g2 := F0 m 30 ls [.ref qm_1, .ref (d 0)]) rfl ?_
      replace h : sT Γ s (xW Γ d hm mc so tl tb ((qm_1, (.inr (4, [.int (nI b), .int (nI 0)]) : va_E)) :: wr)) H locs := h
      refine kx_V (As := [.ref qm_1]) (rest := []) C hX h hl.1 (c_X_keep l Γ d hm mc so tl tb wr qm_1 (.inr (4, [.int (nI b), .int (nI 0)]) : va_E) (mqO b 0) (mok_O hb (by decide)) (fun t _ => mok_O hb (by decide)) hC0 hst) mw_X_keep lk_X_42 (q0 := 0) rfl rfl rfl (by decide) (by decide) (Nat.le_of_ble_eq_true rfl) dc_X_letters_30 (fun E ce q9 u H locs hp h hc1 hc2 hc3 => ?_) (fun v u H locs hp h => ?_)
      · rw [hQ]
        exact kx_out C hno u h (Or.inr ⟨hp.1, ⟨b, hb, rfl, hp.2⟩⟩) hc1 hc2 hc3 (by decide) (by decide)
      have hv9 := hp.1
      subst hv9
      replace h : sT Γ s (xW Γ d (u.1) (u.2.1) (u.2.2.1) tl (u.2.2.2) wr) H locs := h
      refine W.eq (g2 := F0 m 33 ls [.int (nI (so 10 3))]) rfl ?_
      refine W.widen (k := 8) (n := 48) (by decide) (by decide) ?_
      rw [hQ]
      exact vx_ret (rt_i C u h (⟨b, hb, rfl, hp⟩) dc_X_letters_33)
    · rw [hQ]
      exact rt_thr (names := ns_iae) C hst hno hX hl.1 (hm, mc, so, tb) h (Or.inl ⟨rfl, rfl, fun z => by obtain ⟨b, hb, e⟩ := z; subst e; first | exact nI_pos (by omega) q1 | exact q7 (nI_lt hb (by decide))⟩) (by decide) (by decide) tw_iae tk_iae ti_iae (text := "no such letters") (by decide) dc_X_letters_10 dc_X_letters_13 dc_X_letters_14 dc_X_letters_16 dc_X_letters_19 (by decide) (Nat.le_of_ble_eq_true rfl) (by decide) (by decide) (by decide) (by decide)

abbrev rm_X_empty : Room := { frames := 7, cells := 8, slots := 48, locals := 165 }
set_option maxRecDepth 100000 in
set_option maxHeartbeats 4000000 in
theorem c_X_empty (l : Launch) (Γ : gG) (d : Nat → Nat) (hm : Nat) (mc : va_E) (so : Nat → Nat → Nat) (tl : Nat → Nat → Int64) (tb : Nat → Nat → Nat → Nat) (wr : va_W)  (hC0 : CS so tb) (hst : l.stackTraces = false) : cTx l Γ my_X_empty bc_X_empty 1 (some .int) rm_X_empty [.ref (d 0)] (xW Γ d hm mc so tl tb wr) (S := xG) (fun v u => ∃ b, b = 0 ∧ mkP so tb (mqO 0 1) v u) (fun u => xW Γ d u.1 u.2.1 u.2.2.1 tl u.2.2.2 wr) (SX := xG) (fun E u => (E = en_iae ∧ u = (hm, mc, so, tb) ∧ ¬ ∃ b, b = 0) ∨ (E = en_ioe ∧ ∃ b, b = 0 ∧ mkX so tb (mqO 0 1) u)) (fun u => xW Γ d u.1 u.2.1 u.2.2.1 tl u.2.2.2 wr) := by
  refine cTx.start (by decide) (Nat.le_of_ble_eq_true rfl) (fun p e s m args below meth c ls Q hQ C hmn hno hX h hl => ?_)
  replace hl : lv_has ls 1 [(0, .ref (d 0))] := hl
  have h80 := hC0.2.1
  refine lv_aload_n C.x C.b dc_X_empty_0 rfl (lv_at hl 0 rfl) ?_
  refine rg_newM (ci := 4) (ty := ft_O) (fs := [.int 0, .int 0]) C h rfl in_O tk_O nk_X_37 ns_O ni_O (by decide +kernel) (by decide) (by decide) dc_X_empty_1 (fun qm_1 H h => ?_)
  refine lv_dup C.x C.b dc_X_empty_4 rfl ?_
  refine lv_iconst (v := (nI 0)) C.x C.b dc_X_empty_5 (by decide +kernel) ?_
  refine lv_iconst (v := (nI 1)) C.x C.b dc_X_empty_6 (by decide +kernel) ?_
  refine kv_I (As := [.int (nI 0), .int (nI 1)]) (rest := [.ref qm_1, .ref (d 0)]) C h hl.1 (c_O_init l Γ d hm mc so tl tb wr qm_1 0 1) mw_O_init lk_X_39 rfl (by decide) (by decide) (Nat.le_of_ble_eq_true rfl) dc_X_empty_7 (fun v u H locs hp h => ?_)
  obtain rfl := hp
  replace h : sT Γ s (xW Γ d hm mc so tl tb ((qm_1, (.inr (4, [.int (nI 0), .int (nI 1)]) : va_E)) :: wr)) H locs := h
  refine W.eq (g2 := F0 m 10 ls [.ref qm_1, .ref (d 0)]) rfl ?_
  replace h : sT Γ s (xW Γ d hm mc so tl tb ((qm_1, (.inr (4, [.int (nI 0), .int (nI 1)]) : va_E)) :: wr)) H locs := h
  refine kx_V (As := [.ref qm_1]) (rest := []) C hX h hl.1 (c_X_keep l Γ d hm mc so tl tb wr qm_1 (.inr (4, [.int (nI 0), .int (nI 1)]) : va_E) (mqO 0 1) (mok_O (by decide) (by decide)) (fun t _ => mok_O (by decide) (by decide)) hC0 hst) mw_X_keep lk_X_42 (q0 := 0) rfl rfl rfl (by decide) (by decide) (Nat.le_of_ble_eq_true rfl) dc_X_empty_10 (fun E ce q9 u H locs hp h hc1 hc2 hc3 => ?_) (fun v u H locs hp h => ?_)
  · rw [hQ]
    exact kx_out C hno u h (Or.inr ⟨hp.1, ⟨0, rfl, hp.2⟩⟩) hc1 hc2 hc3 (by decide) (by decide)
  have hv9 := hp.1
  subst hv9
  replace h : sT Γ s (xW Γ d (u.1) (u.2.1) (u.2.2.1) tl (u.2.2.2) wr) H locs := h
  refine W.eq (g2 := F0 m 13 ls [.int (nI (so 10 3))]) rfl ?_
  refine W.widen (k := 8) (n := 48) (by decide) (by decide) ?_
  rw [hQ]
  exact vx_ret (rt_i C u h (⟨0, rfl, hp⟩) dc_X_empty_13)

abbrev rm_X_then : Room := { frames := 7, cells := 8, slots := 48, locals := 165 }
set_option maxRecDepth 100000 in
set_option maxHeartbeats 4000000 in
theorem c_X_then (l : Launch) (Γ : gG) (d : Nat → Nat) (hm : Nat) (mc : va_E) (so : Nat → Nat → Nat) (tl : Nat → Nat → Int64) (tb : Nat → Nat → Nat → Nat) (wr : va_W) (pp qq : Int32) (hC0 : CS so tb) (hst : l.stackTraces = false) : cTx l Γ my_X_then bc_X_then 3 (some .int) rm_X_then [.ref (d 0), .int pp, .int qq] (xW Γ d hm mc so tl tb wr) (S := xG) (fun v u => ∃ i j, i < so 10 3 ∧ j < so 10 3 ∧ pp = nI i ∧ qq = nI j ∧ mkP so tb (mqH (tb i) (tb j)) v u) (fun u => xW Γ d u.1 u.2.1 u.2.2.1 tl u.2.2.2 wr) (SX := xG) (fun E u => (E = en_iae ∧ u = (hm, mc, so, tb) ∧ ¬ ∃ i j, i < so 10 3 ∧ j < so 10 3 ∧ pp = nI i ∧ qq = nI j) ∨ (E = en_ioe ∧ ∃ i j, i < so 10 3 ∧ j < so 10 3 ∧ pp = nI i ∧ qq = nI j ∧ mkX so tb (mqH (tb i) (tb j)) u)) (fun u => xW Γ d u.1 u.2.1 u.2.2.1 tl u.2.2.2 wr) := by
  refine cTx.start (by decide) (Nat.le_of_ble_eq_true rfl) (fun p e s m args below meth c ls Q hQ C hmn hno hX h hl => ?_)
  replace hl : lv_has ls 3 [(0, .ref (d 0)), (1, .int pp), (2, .int qq)] := hl
  have h80 := hC0.2.1
  refine lv_aload_n C.x C.b dc_X_then_0 rfl (lv_at hl 0 rfl) ?_
  refine rg_newM (ci := 7) (ty := ft_H) (fs := [.null, .null]) C h rfl in_H tk_H nk_X_46 ns_H ni_H (by decide +kernel) (by decide) (by decide) dc_X_then_1 (fun qm_1 H h => ?_)
  refine lv_dup C.x C.b dc_X_then_4 rfl ?_
  refine lv_aload_n C.x C.b dc_X_then_5 rfl (lv_at hl 0 rfl) ?_
  refine lv_iload_n C.x C.b dc_X_then_6 rfl (lv_at hl 1 rfl) ?_
  refine kx_V (As := [.int pp]) (rest := [.ref qm_1, .ref qm_1, .ref (d 0)]) C hX h hl.1 (c_X_tableOf l Γ d hm mc so tl tb ((qm_1, .inr (7, [.null, .null])) :: wr) pp h80 hst) mw_X_tableOf lk_X_48 (q0 := 0) rfl rfl rfl (by decide) (by decide) (Nat.le_of_ble_eq_true rfl) dc_X_then_7 (fun E ce q9 u H locs hp h hc1 hc2 hc3 => ?_) (fun v u H locs hp h => ?_)
  · replace h := xw_drop h
    rw [hQ]
    exact kx_out C hno (hm, mc, so, tb) h (Or.inl ⟨hp.1, rfl, fun z => by obtain ⟨i, j, a, b, c, d9⟩ := z; exact hp.2 ⟨i, a, c⟩⟩) hc1 hc2 hc3 (by decide) (by decide)
  obtain ⟨j_2, rfl⟩ : ∃ zz9, zz9 = u := ⟨_, rfl⟩
  obtain ⟨rfl, lt_j_2, e_j_2⟩ := hp
  replace h : sT Γ s (xW Γ d hm mc so tl tb ((qm_1, .inr (7, [.null, .null])) :: wr)) H locs := h
  refine W.eq (g2 := F0 m 10 ls [.ref (d (20 + 3 * j_2)), .ref qm_1, .ref qm_1, .ref (d 0)]) rfl ?_
  refine lv_aload_n C.x C.b dc_X_then_10 rfl (lv_at hl 0 rfl) ?_
  refine lv_iload_n C.x C.b dc_X_then_11 rfl (lv_at hl 2 rfl) ?_
  refine kx_V (As := [.int qq]) (rest := [.ref (d (20 + 3 * j_2)), .ref qm_1, .ref qm_1, .ref (d 0)]) C hX h hl.1 (c_X_tableOf l Γ d hm mc so tl tb ((qm_1, .inr (7, [.null, .null])) :: wr) qq h80 hst) mw_X_tableOf lk_X_48 (q0 := 0) rfl rfl rfl (by decide) (by decide) (Nat.le_of_ble_eq_true rfl) dc_X_then_12 (fun E ce q9 u H locs hp h hc1 hc2 hc3 => ?_) (fun v u H locs hp h => ?_)
  · replace h := xw_drop h
    rw [hQ]
    exact kx_out C hno (hm, mc, so, tb) h (Or.inl ⟨hp.1, rfl, fun z => by obtain ⟨i, j, a, b, c, d9⟩ := z; exact hp.2 ⟨j, b, d9⟩⟩) hc1 hc2 hc3 (by decide) (by decide)
  obtain ⟨j_3, rfl⟩ : ∃ zz9, zz9 = u := ⟨_, rfl⟩
  obtain ⟨rfl, lt_j_3, e_j_3⟩ := hp
  replace h : sT Γ s (xW Γ d hm mc so tl tb ((qm_1, .inr (7, [.null, .null])) :: wr)) H locs := h
  refine W.eq (g2 := F0 m 15 ls [.ref (d (20 + 3 * j_3)), .ref (d (20 + 3 * j_2)), .ref qm_1, .ref qm_1, .ref (d 0)]) rfl ?_
  refine kv_I (As := [.ref (d (20 + 3 * j_2)), .ref (d (20 + 3 * j_3))]) (rest := [.ref qm_1, .ref (d 0)]) C h hl.1 (c_H_init l Γ d hm mc so tl tb wr qm_1 j_2 j_3) mw_H_init lk_X_52 rfl (by decide) (by decide) (Nat.le_of_ble_eq_true rfl) dc_X_then_15 (fun v u H locs hp h => ?_)
  obtain rfl := hp
  replace h : sT Γ s (xW Γ d hm mc so tl tb ((qm_1, (.inr (7, [.ref (d (20 + 3 * j_2)), .ref (d (20 + 3 * j_3))]) : va_E)) :: wr)) H locs := h
  refine W.eq (g2 := F0 m 18 ls [.ref qm_1, .ref (d 0)]) rfl ?_
  replace h : sT Γ s (xW Γ d hm mc so tl tb ((qm_1, (.inr (7, [.ref (d (20 + 3 * j_2)), .ref (d (20 + 3 * j_3))]) : va_E)) :: wr)) H locs := h
  refine kx_V (As := [.ref qm_1]) (rest := []) C hX h hl.1 (c_X_keep l Γ d hm mc so tl tb wr qm_1 (.inr (7, [.ref (d (20 + 3 * j_2)), .ref (d (20 + 3 * j_3))]) : va_E) (mqH (tb j_2) (tb j_3)) (mok_H (hC0.tok lt_j_2).1 (hC0.tok lt_j_3).1 (hC0.tok lt_j_2).2.1 (hC0.tok lt_j_3).2.1) (fun t ht => mox (F := mqH) lt_j_2 lt_j_3 ht (fun x a b => mok_H (hC0.tok lt_j_2).1 (hC0.tok lt_j_3).1 (by rw [a]; exact (hC0.tok lt_j_2).2.1) (by rw [b]; exact (hC0.tok lt_j_3).2.1))) hC0 hst) mw_X_keep lk_X_42 (q0 := 0) rfl rfl rfl (by decide) (by decide) (Nat.le_of_ble_eq_true rfl) dc_X_then_18 (fun E ce q9 u H locs hp h hc1 hc2 hc3 => ?_) (fun v u H locs hp h => ?_)
  · rw [hQ]
    exact kx_out C hno u h (Or.inr ⟨hp.1, ⟨j_2, j_3, lt_j_2, lt_j_3, e_j_2, e_j_3, hp.2⟩⟩) hc1 hc2 hc3 (by decide) (by decide)
  have hv9 := hp.1
  subst hv9
  replace h : sT Γ s (xW Γ d (u.1) (u.2.1) (u.2.2.1) tl (u.2.2.2) wr) H locs := h
  refine W.eq (g2 := F0 m 21 ls [.int (nI (so 10 3))]) rfl ?_
  refine W.widen (k := 8) (n := 48) (by decide) (by decide) ?_
  rw [hQ]
  exact vx_ret (rt_i C u h (⟨j_2, j_3, lt_j_2, lt_j_3, e_j_2, e_j_3, hp⟩) dc_X_then_21)

abbrev rm_X_both : Room := { frames := 7, cells := 8, slots := 48, locals := 165 }
set_option maxRecDepth 100000 in
set_option maxHeartbeats 4000000 in
theorem c_X_both (l : Launch) (Γ : gG) (d : Nat → Nat) (hm : Nat) (mc : va_E) (so : Nat → Nat → Nat) (tl : Nat → Nat → Int64) (tb : Nat → Nat → Nat → Nat) (wr : va_W) (hw pp qq : Int32) (hC0 : CS so tb) (hst : l.stackTraces = false) : cTx l Γ my_X_both bc_X_both 4 (some .int) rm_X_both [.ref (d 0), .int hw, .int pp, .int qq] (xW Γ d hm mc so tl tb wr) (S := xG) (fun v u => ∃ how i j, how < 4 ∧ hw = nI how ∧ i < so 10 3 ∧ j < so 10 3 ∧ pp = nI i ∧ qq = nI j ∧ mkP so tb (mqB how (tb i) (tb j)) v u) (fun u => xW Γ d u.1 u.2.1 u.2.2.1 tl u.2.2.2 wr) (SX := xG) (fun E u => (E = en_iae ∧ u = (hm, mc, so, tb) ∧ ¬ ∃ how i j, how < 4 ∧ hw = nI how ∧ i < so 10 3 ∧ j < so 10 3 ∧ pp = nI i ∧ qq = nI j) ∨ (E = en_ioe ∧ ∃ how i j, how < 4 ∧ hw = nI how ∧ i < so 10 3 ∧ j < so 10 3 ∧ pp = nI i ∧ qq = nI j ∧ mkX so tb (mqB how (tb i) (tb j)) u)) (fun u => xW Γ d u.1 u.2.1 u.2.2.1 tl u.2.2.2 wr) := by
  refine cTx.start (by decide) (Nat.le_of_ble_eq_true rfl) (fun p e s m args below meth c ls Q hQ C hmn hno hX h hl => ?_)
  replace hl : lv_has ls 4 [(0, .ref (d 0)), (1, .int hw), (2, .int pp), (3, .int qq)] := hl
  have h80 := hC0.2.1
  refine lv_iload_n C.x C.b dc_X_both_0 rfl (lv_at hl 1 rfl) ?_
  refine lv_if_lt (tgt := 9) C.x C.b dc_X_both_1 (by decide) (fun q1 => ?_) (fun q1 => ?_)
  · rw [hQ]
    exact rt_thr (names := ns_iae) C hst hno hX hl.1 (hm, mc, so, tb) h (Or.inl ⟨rfl, rfl, fun z => by obtain ⟨b, i, j, hb, e, -⟩ := z; subst e; first | exact nI_pos (by omega) q1 | exact q6 (nI_le (show b ≤ 3 by omega) (by decide))⟩) (by decide) (by decide) tw_iae tk_iae ti_iae (text := "no such way to join") (by decide) dc_X_both_9 dc_X_both_12 dc_X_both_13 dc_X_both_15 dc_X_both_18 (by decide) (Nat.le_of_ble_eq_true rfl) (by decide) (by decide) (by decide) (by decide)
  · refine lv_iload_n C.x C.b dc_X_both_4 rfl (lv_at hl 1 rfl) ?_
    refine lv_iconst (v := (nI 3)) C.x C.b dc_X_both_5 (by decide +kernel) ?_
    refine lv_icmp_le (tgt := 19) C.x C.b dc_X_both_6 (by decide) (fun q6 => ?_) (fun q6 => ?_)
    · obtain ⟨how, hhow, ehow⟩ : ∃ how, how < 4 ∧ hw = nI how := by
        rcases pk_ix hw (n := 4) (by decide) with z | z | z
        · exact absurd z q1
        · exact absurd z (fun z9 => by have a9 := nI_lt (a := 3) (b := 4) (by decide) (by decide); have := Int32.lt_of_lt_of_le a9 z9; exact Int32.lt_irrefl (Int32.lt_of_lt_of_le this q6))
        · exact z
      subst ehow
      refine lv_aload_n C.x C.b dc_X_both_19 rfl (lv_at hl 0 rfl) ?_
      refine rg_newM (ci := 6) (ty := ft_B) (fs := [.int 0, .null, .null]) C h rfl in_B tk_B nk_X_57 ns_B ni_B (by decide +kernel) (by decide) (by decide) dc_X_both_20 (fun qm_1 H h => ?_)
      refine lv_dup C.x C.b dc_X_both_23 rfl ?_
      refine lv_iload_n C.x C.b dc_X_both_24 rfl (lv_at hl 1 rfl) ?_
      refine lv_aload_n C.x C.b dc_X_both_25 rfl (lv_at hl 0 rfl) ?_
      refine lv_iload_n C.x C.b dc_X_both_26 rfl (lv_at hl 2 rfl) ?_
      refine kx_V (As := [.int pp]) (rest := [.int (nI how), .ref qm_1, .ref qm_1, .ref (d 0)]) C hX h hl.1 (c_X_tableOf l Γ d hm mc so tl tb ((qm_1, .inr (6, [.int 0, .null, .null])) :: wr) pp h80 hst) mw_X_tableOf lk_X_48 (q0 := 0) rfl rfl rfl (by decide) (by decide) (Nat.le_of_ble_eq_true rfl) dc_X_both_27 (fun E ce q9 u H locs hp h hc1 hc2 hc3 => ?_) (fun v u H locs hp h => ?_)
      · replace h := xw_drop h
        rw [hQ]
        exact kx_out C hno (hm, mc, so, tb) h (Or.inl ⟨hp.1, rfl, fun z => by obtain ⟨b, i, j, hb, e, a, b, c, d9⟩ := z; exact hp.2 ⟨i, a, c⟩⟩) hc1 hc2 hc3 (by decide) (by decide)
      obtain ⟨j_2, rfl⟩ : ∃ zz9, zz9 = u := ⟨_, rfl⟩
      obtain ⟨rfl, lt_j_2, e_j_2⟩ := hp
      replace h : sT Γ s (xW Γ d hm mc so tl tb ((qm_1, .inr (6, [.int 0, .null, .null])) :: wr)) H locs := h
      refine W.eq (g2 := F0 m 30 ls [.ref (d (20 + 3 * j_2)), .int (nI how), .ref qm_1, .ref qm_1, .ref (d 0)]) rfl ?_
      refine lv_aload_n C.x C.b dc_X_both_30 rfl (lv_at hl 0 rfl) ?_
      refine lv_iload_n C.x C.b dc_X_both_31 rfl (lv_at hl 3 rfl) ?_
      refine kx_V (As := [.int qq]) (rest := [.ref (d (20 + 3 * j_2)), .int (nI how), .ref qm_1, .ref qm_1, .ref (d 0)]) C hX h hl.1 (c_X_tableOf l Γ d hm mc so tl tb ((qm_1, .inr (6, [.int 0, .null, .null])) :: wr) qq h80 hst) mw_X_tableOf lk_X_48 (q0 := 0) rfl rfl rfl (by decide) (by decide) (Nat.le_of_ble_eq_true rfl) dc_X_both_32 (fun E ce q9 u H locs hp h hc1 hc2 hc3 => ?_) (fun v u H locs hp h => ?_)
      · replace h := xw_drop h
        rw [hQ]
        exact kx_out C hno (hm, mc, so, tb) h (Or.inl ⟨hp.1, rfl, fun z => by obtain ⟨b, i, j, hb, e, a, b, c, d9⟩ := z; exact hp.2 ⟨j, b, d9⟩⟩) hc1 hc2 hc3 (by decide) (by decide)
      obtain ⟨j_3, rfl⟩ : ∃ zz9, zz9 = u := ⟨_, rfl⟩
      obtain ⟨rfl, lt_j_3, e_j_3⟩ := hp
      replace h : sT Γ s (xW Γ d hm mc so tl tb ((qm_1, .inr (6, [.int 0, .null, .null])) :: wr)) H locs := h
      refine W.eq (g2 := F0 m 35 ls [.ref (d (20 + 3 * j_3)), .ref (d (20 + 3 * j_2)), .int (nI how), .ref qm_1, .ref qm_1, .ref (d 0)]) rfl ?_
      refine kv_I (As := [.int (nI how), .ref (d (20 + 3 * j_2)), .ref (d (20 + 3 * j_3))]) (rest := [.ref qm_1, .ref (d 0)]) C h hl.1 (c_B_init l Γ d hm mc so tl tb wr qm_1 how j_2 j_3) mw_B_init lk_X_59 rfl (by decide) (by decide) (Nat.le_of_ble_eq_true rfl) dc_X_both_35 (fun v u H locs hp h => ?_)
      obtain rfl := hp
      replace h : sT Γ s (xW Γ d hm mc so tl tb ((qm_1, (.inr (6, [.int (nI how), .ref (d (20 + 3 * j_2)), .ref (d (20 + 3 * j_3))]) : va_E)) :: wr)) H locs := h
      refine W.eq (g2 := F0 m 38 ls [.ref qm_1, .ref (d 0)]) rfl ?_
      replace h : sT Γ s (xW Γ d hm mc so tl tb ((qm_1, (.inr (6, [.int (nI how), .ref (d (20 + 3 * j_2)), .ref (d (20 + 3 * j_3))]) : va_E)) :: wr)) H locs := h
      refine kx_V (As := [.ref qm_1]) (rest := []) C hX h hl.1 (c_X_keep l Γ d hm mc so tl tb wr qm_1 (.inr (6, [.int (nI how), .ref (d (20 + 3 * j_2)), .ref (d (20 + 3 * j_3))]) : va_E) (mqB how (tb j_2) (tb j_3)) (mok_B hhow (hC0.tok lt_j_2).1 (hC0.tok lt_j_3).1 (hC0.tok lt_j_2).2.1 (hC0.tok lt_j_3).2.1) (fun t ht => mox (F := mqB how) lt_j_2 lt_j_3 ht (fun x a b => mok_B hhow (hC0.tok lt_j_2).1 (hC0.tok lt_j_3).1 (by rw [a]; exact (hC0.tok lt_j_2).2.1) (by rw [b]; exact (hC0.tok lt_j_3).2.1))) hC0 hst) mw_X_keep lk_X_42 (q0 := 0) rfl rfl rfl (by decide) (by decide) (Nat.le_of_ble_eq_true rfl) dc_X_both_38 (fun E ce q9 u H locs hp h hc1 hc2 hc3 => ?_) (fun v u H locs hp h => ?_)
      · rw [hQ]
        exact kx_out C hno u h (Or.inr ⟨hp.1, ⟨how, j_2, j_3, hhow, rfl, lt_j_2, lt_j_3, e_j_2, e_j_3, hp.2⟩⟩) hc1 hc2 hc3 (by decide) (by decide)
      have hv9 := hp.1
      subst hv9
      replace h : sT Γ s (xW Γ d (u.1) (u.2.1) (u.2.2.1) tl (u.2.2.2) wr) H locs := h
      refine W.eq (g2 := F0 m 41 ls [.int (nI (so 10 3))]) rfl ?_
      refine W.widen (k := 8) (n := 48) (by decide) (by decide) ?_
      rw [hQ]
      exact vx_ret (rt_i C u h (⟨how, j_2, j_3, hhow, rfl, lt_j_2, lt_j_3, e_j_2, e_j_3, hp⟩) dc_X_both_41)
    · rw [hQ]
      exact rt_thr (names := ns_iae) C hst hno hX hl.1 (hm, mc, so, tb) h (Or.inl ⟨rfl, rfl, fun z => by obtain ⟨b, i, j, hb, e, -⟩ := z; subst e; first | exact nI_pos (by omega) q1 | exact q6 (nI_le (show b ≤ 3 by omega) (by decide))⟩) (by decide) (by decide) tw_iae tk_iae ti_iae (text := "no such way to join") (by decide) dc_X_both_9 dc_X_both_12 dc_X_both_13 dc_X_both_15 dc_X_both_18 (by decide) (Nat.le_of_ble_eq_true rfl) (by decide) (by decide) (by decide) (by decide)

abbrev rm_X_many : Room := { frames := 7, cells := 8, slots := 48, locals := 165 }
set_option maxRecDepth 100000 in
set_option maxHeartbeats 4000000 in
theorem c_X_many (l : Launch) (Γ : gG) (d : Nat → Nat) (hm : Nat) (mc : va_E) (so : Nat → Nat → Nat) (tl : Nat → Nat → Int64) (tb : Nat → Nat → Nat → Nat) (wr : va_W) (pp : Int32) (hC0 : CS so tb) (hst : l.stackTraces = false) : cTx l Γ my_X_many bc_X_many 2 (some .int) rm_X_many [.ref (d 0), .int pp] (xW Γ d hm mc so tl tb wr) (S := xG) (fun v u => ∃ i, i < so 10 3 ∧ pp = nI i ∧ mkP so tb (mqN (tb i)) v u) (fun u => xW Γ d u.1 u.2.1 u.2.2.1 tl u.2.2.2 wr) (SX := xG) (fun E u => (E = en_iae ∧ u = (hm, mc, so, tb) ∧ ¬ ∃ i, i < so 10 3 ∧ pp = nI i) ∨ (E = en_ioe ∧ ∃ i, i < so 10 3 ∧ pp = nI i ∧ mkX so tb (mqN (tb i)) u)) (fun u => xW Γ d u.1 u.2.1 u.2.2.1 tl u.2.2.2 wr) := by
  refine cTx.start (by decide) (Nat.le_of_ble_eq_true rfl) (fun p e s m args below meth c ls Q hQ C hmn hno hX h hl => ?_)
  replace hl : lv_has ls 2 [(0, .ref (d 0)), (1, .int pp)] := hl
  have h80 := hC0.2.1
  refine lv_aload_n C.x C.b dc_X_many_0 rfl (lv_at hl 0 rfl) ?_
  refine rg_newM (ci := 8) (ty := ft_N) (fs := [.null]) C h rfl in_N tk_N nk_X_62 ns_N ni_N (by decide +kernel) (by decide) (by decide) dc_X_many_1 (fun qm_1 H h => ?_)
  refine lv_dup C.x C.b dc_X_many_4 rfl ?_
  refine lv_aload_n C.x C.b dc_X_many_5 rfl (lv_at hl 0 rfl) ?_
  refine lv_iload_n C.x C.b dc_X_many_6 rfl (lv_at hl 1 rfl) ?_
  refine kx_V (As := [.int pp]) (rest := [.ref qm_1, .ref qm_1, .ref (d 0)]) C hX h hl.1 (c_X_tableOf l Γ d hm mc so tl tb ((qm_1, .inr (8, [.null])) :: wr) pp h80 hst) mw_X_tableOf lk_X_48 (q0 := 0) rfl rfl rfl (by decide) (by decide) (Nat.le_of_ble_eq_true rfl) dc_X_many_7 (fun E ce q9 u H locs hp h hc1 hc2 hc3 => ?_) (fun v u H locs hp h => ?_)
  · replace h := xw_drop h
    rw [hQ]
    exact kx_out C hno (hm, mc, so, tb) h (Or.inl ⟨hp.1, rfl, fun z => by obtain ⟨i, a, c⟩ := z; exact hp.2 ⟨i, a, c⟩⟩) hc1 hc2 hc3 (by decide) (by decide)
  obtain ⟨j_2, rfl⟩ : ∃ zz9, zz9 = u := ⟨_, rfl⟩
  obtain ⟨rfl, lt_j_2, e_j_2⟩ := hp
  replace h : sT Γ s (xW Γ d hm mc so tl tb ((qm_1, .inr (8, [.null])) :: wr)) H locs := h
  refine W.eq (g2 := F0 m 10 ls [.ref (d (20 + 3 * j_2)), .ref qm_1, .ref qm_1, .ref (d 0)]) rfl ?_
  refine kv_I (As := [.ref (d (20 + 3 * j_2))]) (rest := [.ref qm_1, .ref (d 0)]) C h hl.1 (c_N_init l Γ d hm mc so tl tb wr qm_1 j_2) mw_N_init lk_X_64 rfl (by decide) (by decide) (Nat.le_of_ble_eq_true rfl) dc_X_many_10 (fun v u H locs hp h => ?_)
  obtain rfl := hp
  replace h : sT Γ s (xW Γ d hm mc so tl tb ((qm_1, (.inr (8, [.ref (d (20 + 3 * j_2))]) : va_E)) :: wr)) H locs := h
  refine W.eq (g2 := F0 m 13 ls [.ref qm_1, .ref (d 0)]) rfl ?_
  replace h : sT Γ s (xW Γ d hm mc so tl tb ((qm_1, (.inr (8, [.ref (d (20 + 3 * j_2))]) : va_E)) :: wr)) H locs := h
  refine kx_V (As := [.ref qm_1]) (rest := []) C hX h hl.1 (c_X_keep l Γ d hm mc so tl tb wr qm_1 (.inr (8, [.ref (d (20 + 3 * j_2))]) : va_E) (mqN (tb j_2)) (mok_N (hC0.tok lt_j_2).1 (hC0.tok lt_j_2).2.1) (fun t ht => mox (F := fun a _ => mqN a) lt_j_2 lt_j_2 ht (fun x a b => mok_N (hC0.tok lt_j_2).1 (by rw [a]; exact (hC0.tok lt_j_2).2.1))) hC0 hst) mw_X_keep lk_X_42 (q0 := 0) rfl rfl rfl (by decide) (by decide) (Nat.le_of_ble_eq_true rfl) dc_X_many_13 (fun E ce q9 u H locs hp h hc1 hc2 hc3 => ?_) (fun v u H locs hp h => ?_)
  · rw [hQ]
    exact kx_out C hno u h (Or.inr ⟨hp.1, ⟨j_2, lt_j_2, e_j_2, hp.2⟩⟩) hc1 hc2 hc3 (by decide) (by decide)
  have hv9 := hp.1
  subst hv9
  replace h : sT Γ s (xW Γ d (u.1) (u.2.1) (u.2.2.1) tl (u.2.2.2) wr) H locs := h
  refine W.eq (g2 := F0 m 16 ls [.int (nI (so 10 3))]) rfl ?_
  refine W.widen (k := 8) (n := 48) (by decide) (by decide) ?_
  rw [hQ]
  exact vx_ret (rt_i C u h (⟨j_2, lt_j_2, e_j_2, hp⟩) dc_X_many_16)

abbrev rm_X_back : Room := { frames := 7, cells := 8, slots := 48, locals := 165 }
set_option maxRecDepth 100000 in
set_option maxHeartbeats 4000000 in
theorem c_X_back (l : Launch) (Γ : gG) (d : Nat → Nat) (hm : Nat) (mc : va_E) (so : Nat → Nat → Nat) (tl : Nat → Nat → Int64) (tb : Nat → Nat → Nat → Nat) (wr : va_W) (pp : Int32) (hC0 : CS so tb) (hst : l.stackTraces = false) : cTx l Γ my_X_back bc_X_back 2 (some .int) rm_X_back [.ref (d 0), .int pp] (xW Γ d hm mc so tl tb wr) (S := xG) (fun v u => ∃ i, i < so 10 3 ∧ pp = nI i ∧ mkP so tb (mqK (tb i)) v u) (fun u => xW Γ d u.1 u.2.1 u.2.2.1 tl u.2.2.2 wr) (SX := xG) (fun E u => (E = en_iae ∧ u = (hm, mc, so, tb) ∧ ¬ ∃ i, i < so 10 3 ∧ pp = nI i) ∨ (E = en_ioe ∧ ∃ i, i < so 10 3 ∧ pp = nI i ∧ mkX so tb (mqK (tb i)) u)) (fun u => xW Γ d u.1 u.2.1 u.2.2.1 tl u.2.2.2 wr) := by
  refine cTx.start (by decide) (Nat.le_of_ble_eq_true rfl) (fun p e s m args below meth c ls Q hQ C hmn hno hX h hl => ?_)
  replace hl : lv_has ls 2 [(0, .ref (d 0)), (1, .int pp)] := hl
  have h80 := hC0.2.1
  refine lv_aload_n C.x C.b dc_X_back_0 rfl (lv_at hl 0 rfl) ?_
  refine rg_newM (ci := 9) (ty := ft_K) (fs := [.null]) C h rfl in_K tk_K nk_X_76 ns_K ni_K (by decide +kernel) (by decide) (by decide) dc_X_back_1 (fun qm_1 H h => ?_)
  refine lv_dup C.x C.b dc_X_back_4 rfl ?_
  refine lv_aload_n C.x C.b dc_X_back_5 rfl (lv_at hl 0 rfl) ?_
  refine lv_iload_n C.x C.b dc_X_back_6 rfl (lv_at hl 1 rfl) ?_
  refine kx_V (As := [.int pp]) (rest := [.ref qm_1, .ref qm_1, .ref (d 0)]) C hX h hl.1 (c_X_tableOf l Γ d hm mc so tl tb ((qm_1, .inr (9, [.null])) :: wr) pp h80 hst) mw_X_tableOf lk_X_48 (q0 := 0) rfl rfl rfl (by decide) (by decide) (Nat.le_of_ble_eq_true rfl) dc_X_back_7 (fun E ce q9 u H locs hp h hc1 hc2 hc3 => ?_) (fun v u H locs hp h => ?_)
  · replace h := xw_drop h
    rw [hQ]
    exact kx_out C hno (hm, mc, so, tb) h (Or.inl ⟨hp.1, rfl, fun z => by obtain ⟨i, a, c⟩ := z; exact hp.2 ⟨i, a, c⟩⟩) hc1 hc2 hc3 (by decide) (by decide)
  obtain ⟨j_2, rfl⟩ : ∃ zz9, zz9 = u := ⟨_, rfl⟩
  obtain ⟨rfl, lt_j_2, e_j_2⟩ := hp
  replace h : sT Γ s (xW Γ d hm mc so tl tb ((qm_1, .inr (9, [.null])) :: wr)) H locs := h
  refine W.eq (g2 := F0 m 10 ls [.ref (d (20 + 3 * j_2)), .ref qm_1, .ref qm_1, .ref (d 0)]) rfl ?_
  refine kv_I (As := [.ref (d (20 + 3 * j_2))]) (rest := [.ref qm_1, .ref (d 0)]) C h hl.1 (c_K_init l Γ d hm mc so tl tb wr qm_1 j_2) mw_K_init lk_X_78 rfl (by decide) (by decide) (Nat.le_of_ble_eq_true rfl) dc_X_back_10 (fun v u H locs hp h => ?_)
  obtain rfl := hp
  replace h : sT Γ s (xW Γ d hm mc so tl tb ((qm_1, (.inr (9, [.ref (d (20 + 3 * j_2))]) : va_E)) :: wr)) H locs := h
  refine W.eq (g2 := F0 m 13 ls [.ref qm_1, .ref (d 0)]) rfl ?_
  replace h : sT Γ s (xW Γ d hm mc so tl tb ((qm_1, (.inr (9, [.ref (d (20 + 3 * j_2))]) : va_E)) :: wr)) H locs := h
  refine kx_V (As := [.ref qm_1]) (rest := []) C hX h hl.1 (c_X_keep l Γ d hm mc so tl tb wr qm_1 (.inr (9, [.ref (d (20 + 3 * j_2))]) : va_E) (mqK (tb j_2)) (mok_K (hC0.tok lt_j_2).1 (hC0.tok lt_j_2).2.1) (fun t ht => mox (F := fun a _ => mqK a) lt_j_2 lt_j_2 ht (fun x a b => mok_K (hC0.tok lt_j_2).1 (by rw [a]; exact (hC0.tok lt_j_2).2.1))) hC0 hst) mw_X_keep lk_X_42 (q0 := 0) rfl rfl rfl (by decide) (by decide) (Nat.le_of_ble_eq_true rfl) dc_X_back_13 (fun E ce q9 u H locs hp h hc1 hc2 hc3 => ?_) (fun v u H locs hp h => ?_)
  · rw [hQ]
    exact kx_out C hno u h (Or.inr ⟨hp.1, ⟨j_2, lt_j_2, e_j_2, hp.2⟩⟩) hc1 hc2 hc3 (by decide) (by decide)
  have hv9 := hp.1
  subst hv9
  replace h : sT Γ s (xW Γ d (u.1) (u.2.1) (u.2.2.1) tl (u.2.2.2) wr) H locs := h
  refine W.eq (g2 := F0 m 16 ls [.int (nI (so 10 3))]) rfl ?_
  refine W.widen (k := 8) (n := 48) (by decide) (by decide) ?_
  rw [hQ]
  exact vx_ret (rt_i C u h (⟨j_2, lt_j_2, e_j_2, hp⟩) dc_X_back_16)

abbrev rm_X_contrary : Room := { frames := 7, cells := 8, slots := 48, locals := 165 }
set_option maxRecDepth 100000 in
set_option maxHeartbeats 4000000 in
theorem c_X_contrary (l : Launch) (Γ : gG) (d : Nat → Nat) (hm : Nat) (mc : va_E) (so : Nat → Nat → Nat) (tl : Nat → Nat → Int64) (tb : Nat → Nat → Nat → Nat) (wr : va_W) (pp : Int32) (hC0 : CS so tb) (hst : l.stackTraces = false) : cTx l Γ my_X_contrary bc_X_contrary 3 (some .int) rm_X_contrary [.ref (d 0), .int pp] (xW Γ d hm mc so tl tb wr) (S := xG) (fun v u => ∃ i, i < so 10 3 ∧ pp = nI i ∧ mkP so tb (mqR (tb i) 0 (nI (tb i 0 1) ^^^ mI 0)) v u) (fun u => xW Γ d u.1 u.2.1 u.2.2.1 tl u.2.2.2 wr) (SX := xG) (fun E u => (E = en_iae ∧ u = (hm, mc, so, tb) ∧ ¬ ∃ i, i < so 10 3 ∧ pp = nI i) ∨ (E = en_ioe ∧ ∃ i, i < so 10 3 ∧ pp = nI i ∧ mkX so tb (mqR (tb i) 0 (nI (tb i 0 1) ^^^ mI 0)) u)) (fun u => xW Γ d u.1 u.2.1 u.2.2.1 tl u.2.2.2 wr) := by
  refine cTx.start (by decide) (Nat.le_of_ble_eq_true rfl) (fun p e s m args below meth c ls Q hQ C hmn hno hX h hl => ?_)
  replace hl : lv_has ls 3 [(0, .ref (d 0)), (1, .int pp)] := hl
  have h80 := hC0.2.1
  refine lv_aload_n C.x C.b dc_X_contrary_0 rfl (lv_at hl 0 rfl) ?_
  refine lv_iload_n C.x C.b dc_X_contrary_1 rfl (lv_at hl 1 rfl) ?_
  refine kx_V (As := [.int pp]) (rest := []) C hX h hl.1 (c_X_tableOf l Γ d hm mc so tl tb wr pp h80 hst) mw_X_tableOf lk_X_48 (q0 := 0) rfl rfl rfl (by decide) (by decide) (Nat.le_of_ble_eq_true rfl) dc_X_contrary_2 (fun E ce q9 u H locs hp h hc1 hc2 hc3 => ?_) (fun v u H locs hp h => ?_)
  · rw [hQ]
    exact kx_out C hno (hm, mc, so, tb) h (Or.inl ⟨hp.1, rfl, fun z => by obtain ⟨i, a, c⟩ := z; exact hp.2 ⟨i, a, c⟩⟩) hc1 hc2 hc3 (by decide) (by decide)
  obtain ⟨j_1, rfl⟩ : ∃ zz9, zz9 = u := ⟨_, rfl⟩
  obtain ⟨rfl, lt_j_1, e_j_1⟩ := hp
  replace h : sT Γ s (xW Γ d hm mc so tl tb wr) H locs := h
  refine W.eq (g2 := F0 m 5 ls [.ref (d (20 + 3 * j_1))]) rfl ?_
  refine lv_astore_n (lv' := [(2, .ref (d (20 + 3 * j_1))), (0, .ref (d 0)), (1, .int pp)]) C.x C.b dc_X_contrary_5 rfl hl (by decide) rfl (fun ls hl => ?_)
  refine lv_aload_n C.x C.b dc_X_contrary_6 rfl (lv_at hl 1 rfl) ?_
  refine rg_newM (ci := 5) (ty := ft_R) (fs := [.null, .int 0, .int 0]) C h rfl in_R tk_R nk_X_67 ns_R ni_R (by decide +kernel) (by decide) (by decide) dc_X_contrary_7 (fun qm_2 H h => ?_)
  refine lv_dup C.x C.b dc_X_contrary_10 rfl ?_
  refine lv_aload_n C.x C.b dc_X_contrary_11 rfl (lv_at hl 0 rfl) ?_
  refine lv_iconst (v := (nI 0)) C.x C.b dc_X_contrary_12 (by decide +kernel) ?_
  refine lv_aload_n C.x C.b dc_X_contrary_13 rfl (lv_at hl 0 rfl) ?_
  refine rg_getN C h (17 + j_1) (lk_T (by omega)) rfl in_T 1 (by decide) fl_X_69 rfl dc_X_contrary_14 ?_
  refine lv_iconst (v := (mI 0)) C.x C.b dc_X_contrary_17 (by decide +kernel) ?_
  refine lv_ixor C.x C.b dc_X_contrary_18 ?_
  refine kv_I (As := [.ref (d (20 + 3 * j_1)), .int (nI 0), .int ((nI (tb j_1 0 1)) ^^^ (mI 0))]) (rest := [.ref qm_2, .ref (d 0)]) C h hl.1 (c_R_init l Γ d hm mc so tl tb wr qm_2 j_1 0 ((nI (tb j_1 0 1)) ^^^ (mI 0))) mw_R_init lk_X_73 rfl (by decide) (by decide) (Nat.le_of_ble_eq_true rfl) dc_X_contrary_19 (fun v u H locs hp h => ?_)
  obtain rfl := hp
  replace h : sT Γ s (xW Γ d hm mc so tl tb ((qm_2, (.inr (5, [.ref (d (20 + 3 * j_1)), .int (nI 0), .int ((nI (tb j_1 0 1)) ^^^ (mI 0))]) : va_E)) :: wr)) H locs := h
  refine W.eq (g2 := F0 m 22 ls [.ref qm_2, .ref (d 0)]) rfl ?_
  replace h : sT Γ s (xW Γ d hm mc so tl tb ((qm_2, (.inr (5, [.ref (d (20 + 3 * j_1)), .int (nI 0), .int ((nI (tb j_1 0 1)) ^^^ (mI 0))]) : va_E)) :: wr)) H locs := h
  refine kx_V (As := [.ref qm_2]) (rest := []) C hX h hl.1 (c_X_keep l Γ d hm mc so tl tb wr qm_2 (.inr (5, [.ref (d (20 + 3 * j_1)), .int (nI 0), .int ((nI (tb j_1 0 1)) ^^^ (mI 0))]) : va_E) (mqR (tb j_1) 0 (nI (tb j_1 0 1) ^^^ mI 0)) (mok_R (hC0.tok lt_j_1).1 (hC0.tok lt_j_1).2.1 ((hC0.tok lt_j_1).2.1.1)) (fun t ht => mox (F := fun a _ => mqR a (0) (nI (tb j_1 0 1) ^^^ mI 0)) lt_j_1 lt_j_1 ht (fun x a b => mok_R (hC0.tok lt_j_1).1 (by rw [a]; exact (hC0.tok lt_j_1).2.1) (by rw [a]; exact (hC0.tok lt_j_1).2.1.1))) hC0 hst) mw_X_keep lk_X_42 (q0 := 0) rfl rfl rfl (by decide) (by decide) (Nat.le_of_ble_eq_true rfl) dc_X_contrary_22 (fun E ce q9 u H locs hp h hc1 hc2 hc3 => ?_) (fun v u H locs hp h => ?_)
  · rw [hQ]
    exact kx_out C hno u h (Or.inr ⟨hp.1, ⟨j_1, lt_j_1, e_j_1, hp.2⟩⟩) hc1 hc2 hc3 (by decide) (by decide)
  have hv9 := hp.1
  subst hv9
  replace h : sT Γ s (xW Γ d (u.1) (u.2.1) (u.2.2.1) tl (u.2.2.2) wr) H locs := h
  refine W.eq (g2 := F0 m 25 ls [.int (nI (so 10 3))]) rfl ?_
  refine W.widen (k := 8) (n := 48) (by decide) (by decide) ?_
  rw [hQ]
  exact vx_ret (rt_i C u h (⟨j_1, lt_j_1, e_j_1, hp⟩) dc_X_contrary_25)

abbrev rm_X_beginnings : Room := { frames := 7, cells := 8, slots := 48, locals := 165 }
set_option maxRecDepth 100000 in
set_option maxHeartbeats 4000000 in
theorem c_X_beginnings (l : Launch) (Γ : gG) (d : Nat → Nat) (hm : Nat) (mc : va_E) (so : Nat → Nat → Nat) (tl : Nat → Nat → Int64) (tb : Nat → Nat → Nat → Nat) (wr : va_W) (pp : Int32) (hC0 : CS so tb) (hst : l.stackTraces = false) : cTx l Γ my_X_beginnings bc_X_beginnings 3 (some .int) rm_X_beginnings [.ref (d 0), .int pp] (xW Γ d hm mc so tl tb wr) (S := xG) (fun v u => ∃ i, i < so 10 3 ∧ pp = nI i ∧ mkP so tb (mqR (tb i) 0 (nI (tb i 0 2))) v u) (fun u => xW Γ d u.1 u.2.1 u.2.2.1 tl u.2.2.2 wr) (SX := xG) (fun E u => (E = en_iae ∧ u = (hm, mc, so, tb) ∧ ¬ ∃ i, i < so 10 3 ∧ pp = nI i) ∨ (E = en_ioe ∧ ∃ i, i < so 10 3 ∧ pp = nI i ∧ mkX so tb (mqR (tb i) 0 (nI (tb i 0 2))) u)) (fun u => xW Γ d u.1 u.2.1 u.2.2.1 tl u.2.2.2 wr) := by
  refine cTx.start (by decide) (Nat.le_of_ble_eq_true rfl) (fun p e s m args below meth c ls Q hQ C hmn hno hX h hl => ?_)
  replace hl : lv_has ls 3 [(0, .ref (d 0)), (1, .int pp)] := hl
  have h80 := hC0.2.1
  refine lv_aload_n C.x C.b dc_X_beginnings_0 rfl (lv_at hl 0 rfl) ?_
  refine lv_iload_n C.x C.b dc_X_beginnings_1 rfl (lv_at hl 1 rfl) ?_
  refine kx_V (As := [.int pp]) (rest := []) C hX h hl.1 (c_X_tableOf l Γ d hm mc so tl tb wr pp h80 hst) mw_X_tableOf lk_X_48 (q0 := 0) rfl rfl rfl (by decide) (by decide) (Nat.le_of_ble_eq_true rfl) dc_X_beginnings_2 (fun E ce q9 u H locs hp h hc1 hc2 hc3 => ?_) (fun v u H locs hp h => ?_)
  · rw [hQ]
    exact kx_out C hno (hm, mc, so, tb) h (Or.inl ⟨hp.1, rfl, fun z => by obtain ⟨i, a, c⟩ := z; exact hp.2 ⟨i, a, c⟩⟩) hc1 hc2 hc3 (by decide) (by decide)
  obtain ⟨j_1, rfl⟩ : ∃ zz9, zz9 = u := ⟨_, rfl⟩
  obtain ⟨rfl, lt_j_1, e_j_1⟩ := hp
  replace h : sT Γ s (xW Γ d hm mc so tl tb wr) H locs := h
  refine W.eq (g2 := F0 m 5 ls [.ref (d (20 + 3 * j_1))]) rfl ?_
  refine lv_astore_n (lv' := [(2, .ref (d (20 + 3 * j_1))), (0, .ref (d 0)), (1, .int pp)]) C.x C.b dc_X_beginnings_5 rfl hl (by decide) rfl (fun ls hl => ?_)
  refine lv_aload_n C.x C.b dc_X_beginnings_6 rfl (lv_at hl 1 rfl) ?_
  refine rg_newM (ci := 5) (ty := ft_R) (fs := [.null, .int 0, .int 0]) C h rfl in_R tk_R nk_X_67 ns_R ni_R (by decide +kernel) (by decide) (by decide) dc_X_beginnings_7 (fun qm_2 H h => ?_)
  refine lv_dup C.x C.b dc_X_beginnings_10 rfl ?_
  refine lv_aload_n C.x C.b dc_X_beginnings_11 rfl (lv_at hl 0 rfl) ?_
  refine lv_iconst (v := (nI 0)) C.x C.b dc_X_beginnings_12 (by decide +kernel) ?_
  refine lv_aload_n C.x C.b dc_X_beginnings_13 rfl (lv_at hl 0 rfl) ?_
  refine rg_getN C h (17 + j_1) (lk_T (by omega)) rfl in_T 2 (by decide) fl_X_85 rfl dc_X_beginnings_14 ?_
  refine kv_I (As := [.ref (d (20 + 3 * j_1)), .int (nI 0), .int (nI (tb j_1 0 2))]) (rest := [.ref qm_2, .ref (d 0)]) C h hl.1 (c_R_init l Γ d hm mc so tl tb wr qm_2 j_1 0 (nI (tb j_1 0 2))) mw_R_init lk_X_73 rfl (by decide) (by decide) (Nat.le_of_ble_eq_true rfl) dc_X_beginnings_17 (fun v u H locs hp h => ?_)
  obtain rfl := hp
  replace h : sT Γ s (xW Γ d hm mc so tl tb ((qm_2, (.inr (5, [.ref (d (20 + 3 * j_1)), .int (nI 0), .int (nI (tb j_1 0 2))]) : va_E)) :: wr)) H locs := h
  refine W.eq (g2 := F0 m 20 ls [.ref qm_2, .ref (d 0)]) rfl ?_
  replace h : sT Γ s (xW Γ d hm mc so tl tb ((qm_2, (.inr (5, [.ref (d (20 + 3 * j_1)), .int (nI 0), .int (nI (tb j_1 0 2))]) : va_E)) :: wr)) H locs := h
  refine kx_V (As := [.ref qm_2]) (rest := []) C hX h hl.1 (c_X_keep l Γ d hm mc so tl tb wr qm_2 (.inr (5, [.ref (d (20 + 3 * j_1)), .int (nI 0), .int (nI (tb j_1 0 2))]) : va_E) (mqR (tb j_1) 0 (nI (tb j_1 0 2))) (mok_R (hC0.tok lt_j_1).1 (hC0.tok lt_j_1).2.1 ((hC0.tok lt_j_1).2.1.1)) (fun t ht => mox (F := fun a _ => mqR a (0) (nI (tb j_1 0 2))) lt_j_1 lt_j_1 ht (fun x a b => mok_R (hC0.tok lt_j_1).1 (by rw [a]; exact (hC0.tok lt_j_1).2.1) (by rw [a]; exact (hC0.tok lt_j_1).2.1.1))) hC0 hst) mw_X_keep lk_X_42 (q0 := 0) rfl rfl rfl (by decide) (by decide) (Nat.le_of_ble_eq_true rfl) dc_X_beginnings_20 (fun E ce q9 u H locs hp h hc1 hc2 hc3 => ?_) (fun v u H locs hp h => ?_)
  · rw [hQ]
    exact kx_out C hno u h (Or.inr ⟨hp.1, ⟨j_1, lt_j_1, e_j_1, hp.2⟩⟩) hc1 hc2 hc3 (by decide) (by decide)
  have hv9 := hp.1
  subst hv9
  replace h : sT Γ s (xW Γ d (u.1) (u.2.1) (u.2.2.1) tl (u.2.2.2) wr) H locs := h
  refine W.eq (g2 := F0 m 23 ls [.int (nI (so 10 3))]) rfl ?_
  refine W.widen (k := 8) (n := 48) (by decide) (by decide) ?_
  rw [hQ]
  exact vx_ret (rt_i C u h (⟨j_1, lt_j_1, e_j_1, hp⟩) dc_X_beginnings_23)

abbrev rm_X_rest : Room := { frames := 7, cells := 8, slots := 48, locals := 165 }
set_option maxRecDepth 100000 in
set_option maxHeartbeats 4000000 in
theorem c_X_rest (l : Launch) (Γ : gG) (d : Nat → Nat) (hm : Nat) (mc : va_E) (so : Nat → Nat → Nat) (tl : Nat → Nat → Int64) (tb : Nat → Nat → Nat → Nat) (wr : va_W) (pp ll : Int32) (hC0 : CS so tb) (hst : l.stackTraces = false) : cTx l Γ my_X_rest bc_X_rest 4 (some .int) rm_X_rest [.ref (d 0), .int pp, .int ll] (xW Γ d hm mc so tl tb wr) (S := xG) (fun v u => ∃ i lt, i < so 10 3 ∧ lt < 3 ∧ pp = nI i ∧ ll = nI lt ∧ mkP so tb (mqR (tb i) (tb i 1 (0 * 3 + lt)) (nI (tb i 0 1))) v u) (fun u => xW Γ d u.1 u.2.1 u.2.2.1 tl u.2.2.2 wr) (SX := xG) (fun E u => (E = en_iae ∧ u = (hm, mc, so, tb) ∧ ¬ ∃ i lt, i < so 10 3 ∧ lt < 3 ∧ pp = nI i ∧ ll = nI lt) ∨ (E = en_ioe ∧ ∃ i lt, i < so 10 3 ∧ lt < 3 ∧ pp = nI i ∧ ll = nI lt ∧ mkX so tb (mqR (tb i) (tb i 1 (0 * 3 + lt)) (nI (tb i 0 1))) u)) (fun u => xW Γ d u.1 u.2.1 u.2.2.1 tl u.2.2.2 wr) := by
  refine cTx.start (by decide) (Nat.le_of_ble_eq_true rfl) (fun p e s m args below meth c ls Q hQ C hmn hno hX h hl => ?_)
  replace hl : lv_has ls 4 [(0, .ref (d 0)), (1, .int pp), (2, .int ll)] := hl
  have h80 := hC0.2.1
  refine lv_aload_n C.x C.b dc_X_rest_0 rfl (lv_at hl 0 rfl) ?_
  refine lv_iload_n C.x C.b dc_X_rest_1 rfl (lv_at hl 1 rfl) ?_
  refine kx_V (As := [.int pp]) (rest := []) C hX h hl.1 (c_X_tableOf l Γ d hm mc so tl tb wr pp h80 hst) mw_X_tableOf lk_X_48 (q0 := 0) rfl rfl rfl (by decide) (by decide) (Nat.le_of_ble_eq_true rfl) dc_X_rest_2 (fun E ce q9 u H locs hp h hc1 hc2 hc3 => ?_) (fun v u H locs hp h => ?_)
  · rw [hQ]
    exact kx_out C hno (hm, mc, so, tb) h (Or.inl ⟨hp.1, rfl, fun z => by obtain ⟨i, b, a, hb, c, -⟩ := z; exact hp.2 ⟨i, a, c⟩⟩) hc1 hc2 hc3 (by decide) (by decide)
  obtain ⟨j_1, rfl⟩ : ∃ zz9, zz9 = u := ⟨_, rfl⟩
  obtain ⟨rfl, lt_j_1, e_j_1⟩ := hp
  replace h : sT Γ s (xW Γ d hm mc so tl tb wr) H locs := h
  refine W.eq (g2 := F0 m 5 ls [.ref (d (20 + 3 * j_1))]) rfl ?_
  refine lv_astore_n (lv' := [(3, .ref (d (20 + 3 * j_1))), (0, .ref (d 0)), (1, .int pp), (2, .int ll)]) C.x C.b dc_X_rest_5 rfl hl (by decide) rfl (fun ls hl => ?_)
  refine lv_iload_n C.x C.b dc_X_rest_6 rfl (lv_at hl 3 rfl) ?_
  refine lv_if_lt (tgt := 15) C.x C.b dc_X_rest_7 (by decide) (fun q7 => ?_) (fun q7 => ?_)
  · rw [hQ]
    exact rt_thr (names := ns_iae) C hst hno hX hl.1 (hm, mc, so, tb) h (Or.inl ⟨rfl, rfl, fun z => by obtain ⟨i, b, -, hb, -, e⟩ := z; subst e; first | exact nI_pos (by omega) q7 | exact q12 (nI_lt hb (by decide))⟩) (by decide) (by decide) tw_iae tk_iae ti_iae (text := "no such letter") (by decide) dc_X_rest_15 dc_X_rest_18 dc_X_rest_19 dc_X_rest_21 dc_X_rest_24 (by decide) (Nat.le_of_ble_eq_true rfl) (by decide) (by decide) (by decide) (by decide)
  · refine lv_iload_n C.x C.b dc_X_rest_10 rfl (lv_at hl 3 rfl) ?_
    refine lv_iconst (v := (nI 3)) C.x C.b dc_X_rest_11 (by decide +kernel) ?_
    refine lv_icmp_lt (tgt := 25) C.x C.b dc_X_rest_12 (by decide) (fun q12 => ?_) (fun q12 => ?_)
    · obtain ⟨lt, hlt, elt⟩ : ∃ lt, lt < 3 ∧ ll = nI lt := by
        rcases pk_ix ll (n := 3) (by decide) with z | z | z
        · exact absurd z q7
        · exact absurd q12 (Int32.not_lt.mpr z)
        · exact z
      subst elt
      refine lv_aload_n C.x C.b dc_X_rest_25 rfl (lv_at hl 1 rfl) ?_
      refine rg_newM (ci := 5) (ty := ft_R) (fs := [.null, .int 0, .int 0]) C h rfl in_R tk_R nk_X_67 ns_R ni_R (by decide +kernel) (by decide) (by decide) dc_X_rest_26 (fun qm_2 H h => ?_)
      refine lv_dup C.x C.b dc_X_rest_29 rfl ?_
      refine lv_aload_n C.x C.b dc_X_rest_30 rfl (lv_at hl 0 rfl) ?_
      refine lv_aload_n C.x C.b dc_X_rest_31 rfl (lv_at hl 0 rfl) ?_
      refine lv_iconst (v := (nI 0)) C.x C.b dc_X_rest_32 (by decide +kernel) ?_
      refine lv_iload_n C.x C.b dc_X_rest_33 rfl (lv_at hl 3 rfl) ?_
      refine kv_V (As := [.int (nI 0), .int (nI lt)]) (rest := [.ref (d (20 + 3 * j_1)), .ref qm_2, .ref qm_2, .ref (d 0)]) C h hl.1 (c_T_after l Γ d hm mc so tl tb ((qm_2, .inr (5, [.null, .int 0, .int 0])) :: wr) j_1 0 lt (by omega) (by omega) (by omega)) mw_T_after lk_X_81 (q0 := (17 + j_1)) (lk_T (by omega)) rfl rfl (by decide) (by decide) (Nat.le_of_ble_eq_true rfl) dc_X_rest_34 (fun v u H locs hp h => ?_)
      obtain rfl := hp
      replace h : sT Γ s (xW Γ d hm mc so tl tb ((qm_2, .inr (5, [.null, .int 0, .int 0])) :: wr)) H locs := h
      refine W.eq (g2 := F0 m 37 ls [.int (nI (tb j_1 1 (0 * 3 + lt))), .ref (d (20 + 3 * j_1)), .ref qm_2, .ref qm_2, .ref (d 0)]) rfl ?_
      refine lv_aload_n C.x C.b dc_X_rest_37 rfl (lv_at hl 0 rfl) ?_
      refine rg_getN C h (17 + j_1) (lk_T (by omega)) rfl in_T 1 (by decide) fl_X_69 rfl dc_X_rest_38 ?_
      refine kv_I (As := [.ref (d (20 + 3 * j_1)), .int (nI (tb j_1 1 (0 * 3 + lt))), .int (nI (tb j_1 0 1))]) (rest := [.ref qm_2, .ref (d 0)]) C h hl.1 (c_R_init l Γ d hm mc so tl tb wr qm_2 j_1 (tb j_1 1 (0 * 3 + lt)) (nI (tb j_1 0 1))) mw_R_init lk_X_73 rfl (by decide) (by decide) (Nat.le_of_ble_eq_true rfl) dc_X_rest_41 (fun v u H locs hp h => ?_)
      obtain rfl := hp
      replace h : sT Γ s (xW Γ d hm mc so tl tb ((qm_2, (.inr (5, [.ref (d (20 + 3 * j_1)), .int (nI (tb j_1 1 (0 * 3 + lt))), .int (nI (tb j_1 0 1))]) : va_E)) :: wr)) H locs := h
      refine W.eq (g2 := F0 m 44 ls [.ref qm_2, .ref (d 0)]) rfl ?_
      replace h : sT Γ s (xW Γ d hm mc so tl tb ((qm_2, (.inr (5, [.ref (d (20 + 3 * j_1)), .int (nI (tb j_1 1 (0 * 3 + lt))), .int (nI (tb j_1 0 1))]) : va_E)) :: wr)) H locs := h
      refine kx_V (As := [.ref qm_2]) (rest := []) C hX h hl.1 (c_X_keep l Γ d hm mc so tl tb wr qm_2 (.inr (5, [.ref (d (20 + 3 * j_1)), .int (nI (tb j_1 1 (0 * 3 + lt))), .int (nI (tb j_1 0 1))]) : va_E) (mqR (tb j_1) (tb j_1 1 (0 * 3 + lt)) (nI (tb j_1 0 1))) (mok_R (hC0.tok lt_j_1).1 (hC0.tok lt_j_1).2.1 ((hC0.tok lt_j_1).2.1.2.2.2.2 0 lt (hC0.tok lt_j_1).2.1.1 hlt)) (fun t ht => mox (F := fun a _ => mqR a (tb j_1 1 (0 * 3 + lt)) (nI (tb j_1 0 1))) lt_j_1 lt_j_1 ht (fun x a b => mok_R (hC0.tok lt_j_1).1 (by rw [a]; exact (hC0.tok lt_j_1).2.1) (by rw [a]; exact (hC0.tok lt_j_1).2.1.2.2.2.2 0 lt (hC0.tok lt_j_1).2.1.1 hlt))) hC0 hst) mw_X_keep lk_X_42 (q0 := 0) rfl rfl rfl (by decide) (by decide) (Nat.le_of_ble_eq_true rfl) dc_X_rest_44 (fun E ce q9 u H locs hp h hc1 hc2 hc3 => ?_) (fun v u H locs hp h => ?_)
      · rw [hQ]
        exact kx_out C hno u h (Or.inr ⟨hp.1, ⟨j_1, lt, lt_j_1, hlt, e_j_1, rfl, hp.2⟩⟩) hc1 hc2 hc3 (by decide) (by decide)
      have hv9 := hp.1
      subst hv9
      replace h : sT Γ s (xW Γ d (u.1) (u.2.1) (u.2.2.1) tl (u.2.2.2) wr) H locs := h
      refine W.eq (g2 := F0 m 47 ls [.int (nI (so 10 3))]) rfl ?_
      refine W.widen (k := 8) (n := 48) (by decide) (by decide) ?_
      rw [hQ]
      exact vx_ret (rt_i C u h (⟨j_1, lt, lt_j_1, hlt, e_j_1, rfl, hp⟩) dc_X_rest_47)
    · rw [hQ]
      exact rt_thr (names := ns_iae) C hst hno hX hl.1 (hm, mc, so, tb) h (Or.inl ⟨rfl, rfl, fun z => by obtain ⟨i, b, -, hb, -, e⟩ := z; subst e; first | exact nI_pos (by omega) q7 | exact q12 (nI_lt hb (by decide))⟩) (by decide) (by decide) tw_iae tk_iae ti_iae (text := "no such letter") (by decide) dc_X_rest_15 dc_X_rest_18 dc_X_rest_19 dc_X_rest_21 dc_X_rest_24 (by decide) (Nat.le_of_ble_eq_true rfl) (by decide) (by decide) (by decide) (by decide)
end
section
/-! a word's letters, two bits each -/
def wl (x : Int64) (k : Nat) : Nat := x.toBitVec.toNat / 2 ^ (2 * k) % 4
def wL (x : Int64) (n : Nat) : List Nat := (List.range n).map (wl x)
theorem wl_sh : ∀ k, k < 30 → ((nI (2 * k)).toInt64.toUInt64 &&& Int64.toUInt64 63) = UInt64.ofNat (2 * k) := by decide +kernel
theorem wl_c (x : Int64) {k : Nat} (hk : k < 30) : (x.toUInt64 >>> ((nI (2 * k)).toInt64.toUInt64 &&& Int64.toUInt64 63)).toInt64.toInt32 &&& nI 3 = nI (wl x k) := by
  rw [wl_sh k hk, pk_and _ 2 (by decide)]
  have e2 : ((x.toUInt64 >>> UInt64.ofNat (2 * k)).toInt64.toInt32).toBitVec.toNat = x.toBitVec.toNat / 2 ^ (2 * k) % 2 ^ 32 := by
    rw [Int64.toBitVec_toInt32, BitVec.signExtend_eq_setWidth_of_le _ (by decide), BitVec.toNat_setWidth]
    congr 1
    show ((x.toUInt64 >>> UInt64.ofNat (2 * k)).toBitVec).toNat = _
    have e3 : (UInt64.ofNat (2 * k)).toNat = 2 * k := by rw [UInt64.toNat_ofNat']; omega
    rw [UInt64.toNat_toBitVec, UInt64.toNat_shiftRight, e3, Nat.mod_eq_of_lt (show 2 * k < 64 by omega), Nat.shiftRight_eq_div_pow]
    rfl
  rw [e2]
  unfold wl
  congr 1
  omega
theorem wL_s (x : Int64) (k : Nat) : wL x (k + 1) = wL x k ++ [wl x k] := by simp [wL, List.range_succ]
theorem wL_run (t : Nat → Nat → Nat) (x : Int64) (k : Nat) : t 1 (mrun (tM t) 0 (wL x k) * 3 + wl x k) = mrun (tM t) 0 (wL x (k + 1)) := by
  rw [wL_s, mrun_snoc]; rfl
theorem wL_lts {x : Int64} {n : Nat} (h : ∀ k, k < n → wl x k < 3) : lts (wL x n) := by
  intro l hl
  obtain ⟨k, hk, rfl⟩ := List.mem_map.mp hl
  exact h k (List.mem_range.mp hk)
theorem tOK.nx {t : Nat → Nat → Nat} (h : tOK t) {k : Nat} (hk : k < t 0 0 * 3) : t 1 k < t 0 0 := by
  have := h.2.2.2.2 (k / 3) (k % 3) (by omega) (by omega)
  rw [show k / 3 * 3 + k % 3 = k by omega] at this
  exact this
theorem tOK.nx10 {t : Nat → Nat → Nat} (h : tOK t) : ∀ k, k < t 0 0 * 3 → t 1 k < 10 := fun _ hk => Nat.lt_of_lt_of_le (h.nx hk) h.2.1
/-! the first shortest word -/
def nxl (e : Nat) (nx : Nat → Nat) (n r : Nat) : Nat := if dlv e nx n (nx (r * 3)) = true then 0 else if dlv e nx n (nx (r * 3 + 1)) = true then 1 else 2
/-- the rest behind k letters of r's first word of n letters -/
def lst (e : Nat) (nx : Nat → Nat) (n r : Nat) : Nat → Nat
  | 0 => r
  | k + 1 => nx (lst e nx n r k * 3 + nxl e nx (n - k - 1) (lst e nx n r k))
theorem nxl_lt (e : Nat) (nx : Nat → Nat) (n r : Nat) : nxl e nx n r < 3 := by unfold nxl; split <;> (try split) <;> decide
theorem nxl_u {e : Nat} {nx : Nat → Nat} {n r q : Nat} (h3 : q < 3) (hq : dlv e nx n (nx (r * 3 + q)) = true) (hn : ∀ l, l < q → dlv e nx n (nx (r * 3 + l)) = false) : nxl e nx n r = q := by
  unfold nxl
  have : q = 0 ∨ q = 1 ∨ q = 2 := by omega
  rcases this with rfl | rfl | rfl
  · rw [Nat.add_zero] at hq; rw [if_pos hq]
  · have := hn 0 (by decide); rw [Nat.add_zero] at this
    rw [if_neg (by rw [this]; decide), if_pos hq]
  · have := hn 0 (by decide); rw [Nat.add_zero] at this
    rw [if_neg (by rw [this]; decide), if_neg (by rw [hn 1 (by decide)]; decide)]
/-- behind a letter of a rest whose shortest word has k + 1 letters: code k + 1 just where a word of k letters is -/
theorem tG.near {t : Nat → Nat → Nat} (h : tG t) {r k l : Nat} (hr : r < t 0 0) (hl : l < 3) (hc : t 2 r = k + 2) : t 2 (t 1 (r * 3 + l)) = k + 1 ↔ dlv (t 0 1) (t 1) k (t 1 (r * 3 + l)) = true := by
  obtain ⟨⟨-, a⟩, b, -⟩ := h.2.2.2 r hr
  obtain ⟨-, a2⟩ := a (k + 1) hc
  have hn := h.1.2.2.2.2 r l hr hl
  obtain ⟨⟨c0, c1⟩, -, -⟩ := h.2.2.2 _ hn
  constructor
  · intro e
    exact (c1 k e).1
  · intro e
    cases hx : t 2 (t 1 (r * 3 + l)) with
    | zero => rw [c0 hx k (by omega)] at e; cases e
    | succ x =>
      obtain ⟨y, z⟩ := c1 x hx
      by_cases h1 : x = k
      · rw [h1]
      · exfalso
        by_cases h2 : x < k
        · have := a2 (x + 1) (by omega)
          rw [dlv_s.mpr ⟨l, hl, y⟩] at this
          cases this
        · rw [z k (by omega)] at e; cases e
theorem tG.nearer {t : Nat → Nat → Nat} (h : tG t) {r k q : Nat} (hr : r < t 0 0) (hc : t 2 r = k + 2) (q3 : q ≤ 3) (qn : ∀ l, l < q → t 2 (t 1 (r * 3 + l)) ≠ k + 1) (qy : q < 3 → t 2 (t 1 (r * 3 + q)) = k + 1) : q = nxl (t 0 1) (t 1) k r ∧ q < 3 ∧ t 2 (t 1 (r * 3 + q)) = k + 1 ∧ t 1 (r * 3 + q) < t 0 0 := by
  have hq : q < 3 := by
    apply Classical.byContradiction
    intro hq
    have e3 : q = 3 := by omega
    obtain ⟨⟨-, a⟩, -, -⟩ := h.2.2.2 r hr
    obtain ⟨l, hl, y⟩ := dlv_s.mp (a (k + 1) hc).1
    exact qn l (by omega) ((h.near hr hl hc).mpr y)
  refine ⟨(nxl_u hq ((h.near hr hq hc).mp (qy hq)) (fun l hl => ?_)).symm, hq, qy hq, h.1.2.2.2.2 r q hr hq⟩
  cases hd : dlv (t 0 1) (t 1) k (t 1 (r * 3 + l)) with
  | false => rfl
  | true => exact absurd ((h.near hr (by omega) hc).mpr hd) (qn l hl)
theorem tG.far {t : Nat → Nat → Nat} (h : tG t) {r : Nat} (hr : r < t 0 0) : t 2 r < 2 ^ 31 ∧ t 2 r ≤ 11 := by
  have a := (h.2.2.2 r hr).2.1
  have b := h.1.2.1
  exact ⟨by omega, by omega⟩
theorem nI_mlt {a b : Nat} (ha : a < 2 ^ 31) (hb : b < 2 ^ 31) : nI a < mI b ↔ a + 1 < b := by
  rw [Int32.lt_iff_toInt_lt, mI_toInt hb, nI_toInt ha]
  omega
/-! how many -/
theorem sum3_le {f : Nat → Nat} {b : Nat} (h : ∀ l, f l ≤ b) : ∀ q, sum3 f q ≤ q * b
  | 0 => by rw [sum3]; omega
  | q + 1 => by have := sum3_le h q; have := h q; rw [sum3, Nat.succ_mul]; omega
theorem cnt_le (e : Nat) (nx : Nat → Nat) : ∀ k r, cnt e nx k r ≤ 3 ^ k
  | 0, r => by rw [cnt]; cases e.testBit r <;> decide
  | k + 1, r => by
    rw [cnt]
    have := sum3_le (f := fun l => cnt e nx k (nx (r * 3 + l))) (b := 3 ^ k) (fun l => cnt_le e nx k _) 3
    rw [Nat.pow_succ]; omega
def scn (e : Nat) (nx : Nat → Nat) (r : Nat) : Nat → Nat
  | 0 => 0
  | n + 1 => scn e nx r n + cnt e nx n r
theorem scn_le (e : Nat) (nx : Nat → Nat) (r : Nat) : ∀ n, 2 * scn e nx r n + 1 ≤ 3 ^ n
  | 0 => by rw [scn]; decide
  | n + 1 => by have := scn_le e nx r n; have := cnt_le e nx n r; rw [scn, Nat.pow_succ]; omega
theorem lI_toInt {n : Nat} (h : n < 2 ^ 63) : (lI n).toInt = (n : Int) := Int64.toInt_ofNat_of_lt h
theorem cmp_le {a b : Nat} (ha : a < 2 ^ 63) (hb : b < 2 ^ 63) : lg_cmp (lI a) (lI b) ≤ 0 ↔ a ≤ b := by
  have e : lI b < lI a ↔ b < a := by rw [Int64.lt_iff_toInt_lt, lI_toInt ha, lI_toInt hb]; omega
  unfold lg_cmp
  by_cases h : b < a
  · rw [if_pos (e.mpr h)]
    exact ⟨fun z => absurd z (by decide), fun z => by omega⟩
  · rw [if_neg (fun z => h (e.mp z))]
    refine ⟨fun _ => by omega, fun _ => ?_⟩
    split <;> decide
theorem lI_i (n : Nat) : (lI n).toInt32 = nI n := Int64.toInt32_ofNat'
def p3_20 : ∀ n, n ≤ 20 → 3 ^ n ≤ 3486784401 := by decide +kernel

set_option maxRecDepth 100000 in theorem gw_l133 : Cond.constantLong rn_X 133 1000000000 ∈ gw := gw_t 628 rfl rfl
abbrev rm_X_rests : Room := { frames := 7, cells := 6, slots := 40, locals := 103 }
set_option maxRecDepth 100000 in
set_option maxHeartbeats 4000000 in
theorem c_X_rests (l : Launch) (Γ : gG) (d : Nat → Nat) (hm : Nat) (mc : va_E) (so : Nat → Nat → Nat) (tl : Nat → Nat → Int64) (tb : Nat → Nat → Nat → Nat) (wr : va_W) (pp : Int32) (hC0 : CS so tb) (hst : l.stackTraces = false) : cTx l Γ my_X_rests bc_X_rests 2 (some .int) rm_X_rests [.ref (d 0), .int pp] (xW Γ d hm mc so tl tb wr) (S := Unit) (fun v u => ∃ i, (i < so 10 3 ∧ pp = nI i) ∧ v = some (.int (nI (tb i 0 0)))) (fun _ => xW Γ d hm mc so tl tb wr) (SX := Unit) (fun E _ => E = en_iae ∧ ¬ ∃ i, i < so 10 3 ∧ pp = nI i) (fun _ => xW Γ d hm mc so tl tb wr) := by
  refine cTx.start (by decide) (Nat.le_of_ble_eq_true rfl) (fun p e s m args below meth c ls Q hQ C hmn hno hX h hl => ?_)
  replace hl : lv_has ls 2 [(0, .ref (d 0)), (1, .int pp)] := hl
  have h80 := hC0.2.1
  refine lv_aload_n C.x C.b dc_X_rests_0 rfl (lv_at hl 0 rfl) ?_
  refine lv_iload_n C.x C.b dc_X_rests_1 rfl (lv_at hl 1 rfl) ?_
  refine kx_V (As := [.int pp]) (rest := []) C hX h hl.1 (c_X_tableOf l Γ d hm mc so tl tb wr pp h80 hst) mw_X_tableOf lk_X_48 (q0 := 0) rfl rfl rfl (by decide) (by decide) (Nat.le_of_ble_eq_true rfl) dc_X_rests_2 (fun E ce q9 u H locs hp h hc1 hc2 hc3 => ?_) (fun v u H locs hp h => ?_)
  · rw [hQ]
    exact kx_out C hno () h (⟨hp.1, fun z => by obtain ⟨i, a, c⟩ := z; exact hp.2 ⟨i, a, c⟩⟩) hc1 hc2 hc3 (by decide) (by decide)
  obtain ⟨j_1, rfl⟩ : ∃ zz9, zz9 = u := ⟨_, rfl⟩
  obtain ⟨rfl, lt_j_1, e_j_1⟩ := hp
  replace h : sT Γ s (xW Γ d hm mc so tl tb wr) H locs := h
  refine W.eq (g2 := F0 m 5 ls [.ref (d (20 + 3 * j_1))]) rfl ?_
  refine rg_getN C h (17 + j_1) (lk_T (by omega)) rfl in_T 0 (by decide) fl_X_106 rfl dc_X_rests_5 ?_
  refine W.widen (k := 6) (n := 40) (by decide) (by decide) ?_
  rw [hQ]
  exact vx_ret (rt_i C () h (⟨j_1, ⟨lt_j_1, e_j_1⟩, rfl⟩) dc_X_rests_8)

abbrev rm_X_same : Room := { frames := 7, cells := 6, slots := 40, locals := 103 }
set_option maxRecDepth 100000 in
set_option maxHeartbeats 4000000 in
theorem c_X_same (l : Launch) (Γ : gG) (d : Nat → Nat) (hm : Nat) (mc : va_E) (so : Nat → Nat → Nat) (tl : Nat → Nat → Int64) (tb : Nat → Nat → Nat → Nat) (wr : va_W) (pp qq : Int32) (hC0 : CS so tb) (hst : l.stackTraces = false) : cTx l Γ my_X_same bc_X_same 3 (some .boolean) rm_X_same [.ref (d 0), .int pp, .int qq] (xW Γ d hm mc so tl tb wr) (S := Unit) (fun v u => ∃ i j, (i < so 10 3 ∧ j < so 10 3 ∧ pp = nI i ∧ qq = nI j) ∧ ∃ b : Bool, v = some (.int (bI b)) ∧ (b = true ↔ (tb i 0 0 = tb j 0 0 ∧ tb i 0 1 = tb j 0 1 ∧ ∀ k, k < tb i 0 0 * 3 → tb i 1 k = tb j 1 k))) (fun _ => xW Γ d hm mc so tl tb wr) (SX := Unit) (fun E _ => E = en_iae ∧ ¬ ∃ i j, i < so 10 3 ∧ j < so 10 3 ∧ pp = nI i ∧ qq = nI j) (fun _ => xW Γ d hm mc so tl tb wr) := by
  refine cTx.start (by decide) (Nat.le_of_ble_eq_true rfl) (fun p e s m args below meth c ls Q hQ C hmn hno hX h hl => ?_)
  replace hl : lv_has ls 3 [(0, .ref (d 0)), (1, .int pp), (2, .int qq)] := hl
  have h80 := hC0.2.1
  refine lv_aload_n C.x C.b dc_X_same_0 rfl (lv_at hl 0 rfl) ?_
  refine lv_iload_n C.x C.b dc_X_same_1 rfl (lv_at hl 1 rfl) ?_
  refine kx_V (As := [.int pp]) (rest := []) C hX h hl.1 (c_X_tableOf l Γ d hm mc so tl tb wr pp h80 hst) mw_X_tableOf lk_X_48 (q0 := 0) rfl rfl rfl (by decide) (by decide) (Nat.le_of_ble_eq_true rfl) dc_X_same_2 (fun E ce q9 u H locs hp h hc1 hc2 hc3 => ?_) (fun v u H locs hp h => ?_)
  · rw [hQ]
    exact kx_out C hno () h (⟨hp.1, fun z => by obtain ⟨i, j, a, b, c, d9⟩ := z; exact hp.2 ⟨i, a, c⟩⟩) hc1 hc2 hc3 (by decide) (by decide)
  obtain ⟨j_1, rfl⟩ : ∃ zz9, zz9 = u := ⟨_, rfl⟩
  obtain ⟨rfl, lt_j_1, e_j_1⟩ := hp
  replace h : sT Γ s (xW Γ d hm mc so tl tb wr) H locs := h
  refine W.eq (g2 := F0 m 5 ls [.ref (d (20 + 3 * j_1))]) rfl ?_
  refine lv_aload_n C.x C.b dc_X_same_5 rfl (lv_at hl 0 rfl) ?_
  refine lv_iload_n C.x C.b dc_X_same_6 rfl (lv_at hl 2 rfl) ?_
  refine kx_V (As := [.int qq]) (rest := [.ref (d (20 + 3 * j_1))]) C hX h hl.1 (c_X_tableOf l Γ d hm mc so tl tb wr qq h80 hst) mw_X_tableOf lk_X_48 (q0 := 0) rfl rfl rfl (by decide) (by decide) (Nat.le_of_ble_eq_true rfl) dc_X_same_7 (fun E ce q9 u H locs hp h hc1 hc2 hc3 => ?_) (fun v u H locs hp h => ?_)
  · rw [hQ]
    exact kx_out C hno () h (⟨hp.1, fun z => by obtain ⟨i, j, a, b, c, d9⟩ := z; exact hp.2 ⟨j, b, d9⟩⟩) hc1 hc2 hc3 (by decide) (by decide)
  obtain ⟨j_2, rfl⟩ : ∃ zz9, zz9 = u := ⟨_, rfl⟩
  obtain ⟨rfl, lt_j_2, e_j_2⟩ := hp
  replace h : sT Γ s (xW Γ d hm mc so tl tb wr) H locs := h
  refine W.eq (g2 := F0 m 10 ls [.ref (d (20 + 3 * j_2)), .ref (d (20 + 3 * j_1))]) rfl ?_
  obtain ⟨ha80, hak, -⟩ := hC0.tok lt_j_1
  obtain ⟨hb80, hbk, -⟩ := hC0.tok lt_j_2
  have a3 := hak.2.2.1
  have b3 := hbk.2.2.1
  refine kv_V (As := [.ref (d (20 + 3 * j_2))]) (rest := []) C h hl.1 (c_T_matches l Γ d hm mc so tl tb wr j_1 j_2 ha80 hb80 hak.2.1 hbk.2.1 (by omega) (by omega) hak.nx10 hbk.nx10) mw_T_matches lk_X_94 (q0 := (17 + j_1)) (lk_T (by omega)) rfl rfl (by decide) (by decide) (Nat.le_of_ble_eq_true rfl) dc_X_same_10 (fun v u H locs hp h => ?_)
  obtain ⟨bq, rfl⟩ : ∃ zz9, zz9 = u := ⟨_, rfl⟩
  obtain ⟨rfl, hbq⟩ := hp
  replace h : sT Γ s (xW Γ d hm mc so tl tb wr) H locs := h
  refine W.eq (g2 := F0 m 13 ls [.int (bI bq)]) rfl ?_
  refine W.widen (k := 6) (n := 40) (by decide) (by decide) ?_
  rw [hQ]
  exact vx_ret (rt_z C () h (⟨j_1, j_2, ⟨lt_j_1, lt_j_2, e_j_1, e_j_2⟩, bq, rfl, hbq⟩) (bI_01 _) dc_X_same_13)

abbrev rm_X_count : Room := { frames := 0, cells := 0, slots := 0, locals := 0 }
set_option maxRecDepth 100000 in
set_option maxHeartbeats 4000000 in
theorem c_X_count (l : Launch) (Γ : gG) (d : Nat → Nat) (hm : Nat) (mc : va_E) (so : Nat → Nat → Nat) (tl : Nat → Nat → Int64) (tb : Nat → Nat → Nat → Nat) (wr : va_W) : cT l Γ my_X_count bc_X_count 1 (some .int) rm_X_count [.ref (d 0)] (xW Γ d hm mc so tl tb wr) (S := Unit) (fun v _ => v = some (.int (nI (so 10 3)))) (fun _ => xW Γ d hm mc so tl tb wr) := by
  refine cT.start (by decide) (Nat.le_of_ble_eq_true rfl) (fun p e s m args below meth c ls Q hQ C hmn h hl => ?_)
  replace hl : lv_has ls 1 [(0, .ref (d 0))] := hl
  refine lv_aload_n C.x C.b dc_X_count_0 rfl (lv_at hl 0 rfl) ?_
  refine rg_get C h 0 rfl rfl in_X 3 (by decide) fl_X_135 rfl dc_X_count_1 ?_
  rw [hQ]
  exact rt_i C () h (rfl) dc_X_count_4

abbrev rm_X_has : Room := { frames := 7, cells := 6, slots := 40, locals := 103 }
set_option maxRecDepth 100000 in
set_option maxHeartbeats 4000000 in
theorem c_X_has (l : Launch) (Γ : gG) (d : Nat → Nat) (hm : Nat) (mc : va_E) (so : Nat → Nat → Nat) (tl : Nat → Nat → Int64) (tb : Nat → Nat → Nat → Nat) (wr : va_W) (pp nn : Int32) (wd : Int64) (hC0 : CS so tb) (hst : l.stackTraces = false) : cTx l Γ my_X_has bc_X_has 9 (some .boolean) rm_X_has [.ref (d 0), .int pp, .int nn, .long wd] (xW Γ d hm mc so tl tb wr) (S := Unit) (fun v u => ∃ j n, (j < so 10 3 ∧ pp = nI j ∧ n ≤ 30 ∧ nn = nI n ∧ ∀ k, k < n → wl wd k < 3) ∧ v = some (.int (bI (macc (tM (tb j)) 0 (wL wd n))))) (fun _ => xW Γ d hm mc so tl tb wr) (SX := Unit) (fun E _ => E = en_iae ∧ ¬ ∃ j n, j < so 10 3 ∧ pp = nI j ∧ n ≤ 30 ∧ nn = nI n ∧ ∀ k, k < n → wl wd k < 3) (fun _ => xW Γ d hm mc so tl tb wr) := by
  refine cTx.start (by decide) (Nat.le_of_ble_eq_true rfl) (fun p e s m args below meth c ls Q hQ C hmn hno hX h hl => ?_)
  replace hl : lv_has ls 9 [(0, .ref (d 0)), (1, .int pp), (2, .int nn), (3, .long wd)] := hl
  have h80 := hC0.2.1
  refine lv_aload_n C.x C.b dc_X_has_0 rfl (lv_at hl 0 rfl) ?_
  refine lv_iload_n C.x C.b dc_X_has_1 rfl (lv_at hl 1 rfl) ?_
  refine kx_V (As := [.int pp]) (rest := []) C hX h hl.1 (c_X_tableOf l Γ d hm mc so tl tb wr pp h80 hst) mw_X_tableOf lk_X_48 (q0 := 0) rfl rfl rfl (by decide) (by decide) (Nat.le_of_ble_eq_true rfl) dc_X_has_2 (fun E ce q9 u H locs hp h hc1 hc2 hc3 => ?_) (fun v u H locs hp h => ?_)
  · rw [hQ]
    exact kx_out C hno () h (⟨hp.1, fun z => by obtain ⟨j, n, a, c, -⟩ := z; exact hp.2 ⟨j, a, c⟩⟩) hc1 hc2 hc3 (by decide) (by decide)
  obtain ⟨j_1, rfl⟩ : ∃ zz9, zz9 = u := ⟨_, rfl⟩
  obtain ⟨rfl, lt_j_1, e_j_1⟩ := hp
  replace h : sT Γ s (xW Γ d hm mc so tl tb wr) H locs := h
  refine W.eq (g2 := F0 m 5 ls [.ref (d (20 + 3 * j_1))]) rfl ?_
  refine lv_astore (lv' := [(5, .ref (d (20 + 3 * j_1))), (0, .ref (d 0)), (1, .int pp), (2, .int nn), (3, .long wd)]) C.x C.b dc_X_has_5 hl (by decide) rfl (fun ls hl => ?_)
  refine lv_iload_n C.x C.b dc_X_has_7 rfl (lv_at hl 3 rfl) ?_
  refine lv_if_lt (tgt := 17) C.x C.b dc_X_has_8 (by decide) (fun q8 => ?_) (fun q8 => ?_)
  · rw [hQ]
    exact rt_thr (names := ns_iae) C hst hno hX hl.1 () h (⟨rfl, fun z => by obtain ⟨j, n, -, -, hn, e, -⟩ := z; subst e; first | exact nI_pos (by omega) q8 | exact q14 (nI_le (show n ≤ 30 by omega) (by decide))⟩) (by decide) (by decide) tw_iae tk_iae ti_iae (text := "no such length") (by decide) dc_X_has_17 dc_X_has_20 dc_X_has_21 dc_X_has_23 dc_X_has_26 (by decide) (Nat.le_of_ble_eq_true rfl) (by decide) (by decide) (by decide) (by decide)
  · refine lv_iload_n C.x C.b dc_X_has_11 rfl (lv_at hl 3 rfl) ?_
    refine lv_bipush (v := (nI 30)) C.x C.b dc_X_has_12 (by decide +kernel) ?_
    refine lv_icmp_le (tgt := 27) C.x C.b dc_X_has_14 (by decide) (fun q14 => ?_) (fun q14 => ?_)
    · obtain ⟨hj80, htk, htg⟩ := hC0.tok lt_j_1
      have ht2 := htk.2.1
      have ht3 := htk.2.2.1
      obtain ⟨n, hn, en⟩ : ∃ n, n < 31 ∧ nn = nI n := by
        rcases pk_ix nn (n := 31) (by decide) with z | z | z
        · exact absurd z q8
        · exact absurd z (fun z9 => by have a9 := nI_lt (a := 30) (b := 31) (by decide) (by decide); have := Int32.lt_of_lt_of_le a9 z9; exact Int32.lt_irrefl (Int32.lt_of_lt_of_le this q14))
        · exact z
      subst en
      refine lv_iconst (v := (nI 0)) C.x C.b dc_X_has_27 (by decide +kernel) ?_
      refine lv_istore (lv' := [(6, .int (nI 0)), (5, .ref (d (20 + 3 * j_1))), (0, .ref (d 0)), (1, .int pp), (2, .int (nI n)), (3, .long wd)]) C.x C.b dc_X_has_28 hl (by decide) rfl (fun ls hl => ?_)
      refine lv_iconst (v := (nI 0)) C.x C.b dc_X_has_30 (by decide +kernel) ?_
      refine lv_istore (lv' := [(7, .int (nI 0)), (6, .int (nI 0)), (5, .ref (d (20 + 3 * j_1))), (0, .ref (d 0)), (1, .int pp), (2, .int (nI n)), (3, .long wd)]) C.x C.b dc_X_has_31 hl (by decide) rfl (fun ls hl => ?_)
      have hA : ∀ q, q < 0 → wl wd q < 3 := fun q hq => absurd hq (Nat.not_lt_zero _)
      have hat : mrun (tM (tb j_1)) 0 (wL wd 0) < tb j_1 0 0 := htk.1
      have lp_33 : ∀ (n_33 : Nat) (k : Nat) (H : Heap) (locs : List Loc) (ls : Array Slot), n - k < n_33 → (k ≤ n) → (∀ q, q < k → wl wd q < 3) → (mrun (tM (tb j_1)) 0 (wL wd k) < tb j_1 0 0) → sT Γ s (xW Γ d hm mc so tl tb wr) H locs → lv_has ls 9 [(7, .int (nI k)), (6, .int (nI (mrun (tM (tb j_1)) 0 (wL wd k)))), (5, .ref (d (20 + 3 * j_1))), (2, .int (nI n)), (3, .long wd)] → W p l e rm_X_has s m args below meth c H locs 1 6 Q (F0 m 33 ls []) := by
        intro n_33
        induction n_33 with
        | zero => intro k H locs ls hms; exact absurd hms (Nat.not_lt_zero _)
        | succ n_33 ih_33 =>
          intro k H locs ls hms hk hA hat h hl
          refine lv_iload C.x C.b dc_X_has_33 (lv_at hl 0 rfl) ?_
          refine lv_iload_n C.x C.b dc_X_has_35 rfl (lv_at hl 3 rfl) ?_
          refine bc_ge (tgt := 83) C (by omega) (by omega) dc_X_has_36 (by decide) (fun q36 => ?_) (fun q36 => ?_)
          · refine lv_aload C.x C.b dc_X_has_83 (lv_at hl 2 rfl) ?_
            refine lv_iload C.x C.b dc_X_has_85 (lv_at hl 1 rfl) ?_
            refine kv_V (As := [.int (nI (mrun (tM (tb j_1)) 0 (wL wd k)))]) (rest := []) C h hl.1 (c_T_endsAt l Γ d hm mc so tl tb wr j_1 (mrun (tM (tb j_1)) 0 (wL wd k)) (hj80) (by omega) (by omega)) mw_T_endsAt lk_X_90 (q0 := (17 + j_1)) (lk_T (hj80)) rfl rfl (by decide) (by decide) (Nat.le_of_ble_eq_true rfl) dc_X_has_87 (fun v u H locs hp h => ?_)
            obtain rfl := hp
            replace h : sT Γ s (xW Γ d hm mc so tl tb wr) H locs := h
            refine W.eq (g2 := F0 m 90 ls [.int (bI ((tb j_1 0 1).testBit (mrun (tM (tb j_1)) 0 (wL wd k))))]) rfl ?_
            refine W.widen (k := 6) (n := 40) (by decide) (by decide) ?_
            rw [hQ]
            exact vx_ret (rt_z C () h (⟨j_1, n, ⟨lt_j_1, e_j_1, by omega, rfl, fun q hq => hA q (by omega)⟩, by rw [show n = k by omega]; rfl⟩) (bI_01 _) dc_X_has_90)
          · refine lv_lload_n C.x C.b dc_X_has_39 rfl (lv_at hl 4 rfl) ?_
            refine lv_iconst (v := (nI 2)) C.x C.b dc_X_has_40 (by decide +kernel) ?_
            refine lv_iload C.x C.b dc_X_has_41 (lv_at hl 0 rfl) ?_
            refine lv_imul C.x C.b dc_X_has_43 ?_
            refine tp_i (pk_mul 2 k) ?_
            refine lv_lushr C.x C.b dc_X_has_44 rfl ?_
            refine lv_l2i C.x C.b dc_X_has_45 rfl ?_
            refine lv_iconst (v := (nI 3)) C.x C.b dc_X_has_46 (by decide +kernel) ?_
            refine lv_iand C.x C.b dc_X_has_47 ?_
            refine tp_i (y := (nI (wl wd k))) (wl_c wd (by omega)) ?_
            refine lv_istore (lv' := [(8, .int (nI (wl wd k))), (7, .int (nI k)), (6, .int (nI (mrun (tM (tb j_1)) 0 (wL wd k)))), (5, .ref (d (20 + 3 * j_1))), (2, .int (nI n)), (3, .long wd)]) C.x C.b dc_X_has_48 hl (by decide) rfl (fun ls hl => ?_)
            refine lv_iload C.x C.b dc_X_has_50 (lv_at hl 0 rfl) ?_
            refine lv_iconst (v := (nI 3)) C.x C.b dc_X_has_52 (by decide +kernel) ?_
            refine bc_lt (tgt := 66) C (by unfold wl; omega) (by decide) dc_X_has_53 (by decide) (fun q53 => ?_) (fun q53 => ?_)
            · refine lv_aload C.x C.b dc_X_has_66 (lv_at hl 3 rfl) ?_
              refine lv_iload C.x C.b dc_X_has_68 (lv_at hl 2 rfl) ?_
              refine lv_iload C.x C.b dc_X_has_70 (lv_at hl 0 rfl) ?_
              refine kv_V (As := [.int (nI (mrun (tM (tb j_1)) 0 (wL wd k))), .int (nI (wl wd k))]) (rest := []) C h hl.1 (c_T_after l Γ d hm mc so tl tb wr j_1 (mrun (tM (tb j_1)) 0 (wL wd k)) (wl wd k) (hj80) (by omega) (by omega)) mw_T_after lk_X_81 (q0 := (17 + j_1)) (lk_T (hj80)) rfl rfl (by decide) (by decide) (Nat.le_of_ble_eq_true rfl) dc_X_has_72 (fun v u H locs hp h => ?_)
              obtain rfl := hp
              replace h : sT Γ s (xW Γ d hm mc so tl tb wr) H locs := h
              refine W.eq (g2 := F0 m 75 ls [.int (nI (tb j_1 1 ((mrun (tM (tb j_1)) 0 (wL wd k)) * 3 + (wl wd k))))]) rfl ?_
              refine lv_istore (lv' := [(6, .int (nI (tb j_1 1 ((mrun (tM (tb j_1)) 0 (wL wd k)) * 3 + (wl wd k))))), (8, .int (nI (wl wd k))), (7, .int (nI k)), (5, .ref (d (20 + 3 * j_1))), (2, .int (nI n)), (3, .long wd)]) C.x C.b dc_X_has_75 hl (by decide) rfl (fun ls hl => ?_)
              refine lv_iinc (v := nI (k + 1)) (lv' := [(7, .int (nI (k + 1))), (6, .int (nI (tb j_1 1 ((mrun (tM (tb j_1)) 0 (wL wd k)) * 3 + (wl wd k))))), (8, .int (nI (wl wd k))), (5, .ref (d (20 + 3 * j_1))), (2, .int (nI n)), (3, .long wd)]) C.x C.b dc_X_has_77 hl (k := 2) rfl (nI_1 k) (by decide) rfl (fun ls hl => ?_)
              refine lv_goto (tgt := 33) C.x C.b dc_X_has_80 (by decide) ?_
              rw [wL_run (tb j_1)] at hl
              have hA : ∀ q, q < k + 1 → wl wd q < 3 := fun q hq => by
                by_cases e9 : q = k
                · rw [e9]; exact q53
                · exact hA q (by omega)
              have hat : mrun (tM (tb j_1)) 0 (wL wd (k + 1)) < tb j_1 0 0 := by rw [← wL_run (tb j_1)]; exact htk.2.2.2.2 _ _ hat q53
              exact ih_33 (k + 1) _ _ _ (by omega) (by first | assumption | omega) (by first | assumption | omega) (by first | assumption | omega) h (lv_sub hl [0, 1, 3, 4, 5] rfl)
            · rw [hQ]
              exact rt_thr (names := ns_iae) C hst hno hX hl.1 () h (⟨rfl, fun z => by obtain ⟨j, n2, -, -, hn2, e2, hz⟩ := z; have e3 : n = n2 := (nI_eq (by omega) (by omega)).mp e2; subst e3; have := hz k (by omega); omega⟩) (by decide) (by decide) tw_iae tk_iae ti_iae (text := "no such letter") (by decide) dc_X_has_56 dc_X_has_59 dc_X_has_60 dc_X_has_62 dc_X_has_65 (by decide) (Nat.le_of_ble_eq_true rfl) (by decide) (by decide) (by decide) (by decide)
      exact lp_33 _ 0 _ _ _ (Nat.lt_succ_self _) (by first | assumption | omega) (by first | assumption | omega) (by first | assumption | omega) h (lv_sub hl [0, 1, 2, 5, 6] rfl)
    · rw [hQ]
      exact rt_thr (names := ns_iae) C hst hno hX hl.1 () h (⟨rfl, fun z => by obtain ⟨j, n, -, -, hn, e, -⟩ := z; subst e; first | exact nI_pos (by omega) q8 | exact q14 (nI_le (show n ≤ 30 by omega) (by decide))⟩) (by decide) (by decide) tw_iae tk_iae ti_iae (text := "no such length") (by decide) dc_X_has_17 dc_X_has_20 dc_X_has_21 dc_X_has_23 dc_X_has_26 (by decide) (Nat.le_of_ble_eq_true rfl) (by decide) (by decide) (by decide) (by decide)

abbrev rm_X_words : Room := { frames := 7, cells := 6, slots := 40, locals := 103 }
set_option maxRecDepth 100000 in
set_option maxHeartbeats 4000000 in
theorem c_X_words (l : Launch) (Γ : gG) (d : Nat → Nat) (hm : Nat) (mc : va_E) (so : Nat → Nat → Nat) (tl : Nat → Nat → Int64) (tb : Nat → Nat → Nat → Nat) (wr : va_W) (pp nn : Int32) (hC0 : CS so tb) (hst : l.stackTraces = false) : cTx l Γ my_X_words bc_X_words 5 (some .long) rm_X_words [.ref (d 0), .int pp, .int nn] (xW Γ d hm mc so tl tb wr) (S := Nat → Nat → Int64) (fun v u => ∃ j n, (j < so 10 3 ∧ pp = nI j ∧ n < 40 ∧ nn = nI n) ∧ v = some (.long (lI (cnt (tb j 0 1) (tb j 1) n 0)))) (fun u => xW Γ d hm mc so u tb wr) (SX := Unit) (fun E _ => E = en_iae ∧ ¬ ∃ j n, j < so 10 3 ∧ pp = nI j ∧ n < 40 ∧ nn = nI n) (fun _ => xW Γ d hm mc so tl tb wr) := by
  refine cTx.start (by decide) (Nat.le_of_ble_eq_true rfl) (fun p e s m args below meth c ls Q hQ C hmn hno hX h hl => ?_)
  replace hl : lv_has ls 5 [(0, .ref (d 0)), (1, .int pp), (2, .int nn)] := hl
  have h80 := hC0.2.1
  refine lv_aload_n C.x C.b dc_X_words_0 rfl (lv_at hl 0 rfl) ?_
  refine lv_iload_n C.x C.b dc_X_words_1 rfl (lv_at hl 1 rfl) ?_
  refine kx_V (As := [.int pp]) (rest := []) C hX h hl.1 (c_X_tableOf l Γ d hm mc so tl tb wr pp h80 hst) mw_X_tableOf lk_X_48 (q0 := 0) rfl rfl rfl (by decide) (by decide) (Nat.le_of_ble_eq_true rfl) dc_X_words_2 (fun E ce q9 u H locs hp h hc1 hc2 hc3 => ?_) (fun v u H locs hp h => ?_)
  · rw [hQ]
    exact kx_out C hno () h (⟨hp.1, fun z => by obtain ⟨j, n, a, c, -⟩ := z; exact hp.2 ⟨j, a, c⟩⟩) hc1 hc2 hc3 (by decide) (by decide)
  obtain ⟨j_1, rfl⟩ : ∃ zz9, zz9 = u := ⟨_, rfl⟩
  obtain ⟨rfl, lt_j_1, e_j_1⟩ := hp
  replace h : sT Γ s (xW Γ d hm mc so tl tb wr) H locs := h
  refine W.eq (g2 := F0 m 5 ls [.ref (d (20 + 3 * j_1))]) rfl ?_
  refine lv_astore_n (lv' := [(3, .ref (d (20 + 3 * j_1))), (0, .ref (d 0)), (1, .int pp), (2, .int nn)]) C.x C.b dc_X_words_5 rfl hl (by decide) rfl (fun ls hl => ?_)
  refine lv_iload_n C.x C.b dc_X_words_6 rfl (lv_at hl 3 rfl) ?_
  refine lv_if_lt (tgt := 16) C.x C.b dc_X_words_7 (by decide) (fun q7 => ?_) (fun q7 => ?_)
  · rw [hQ]
    exact rt_thr (names := ns_iae) C hst hno hX hl.1 () h (⟨rfl, fun z => by obtain ⟨j, n, -, -, hn, e⟩ := z; subst e; first | exact nI_pos (by omega) q7 | exact q13 (nI_le (show n ≤ 39 by omega) (by decide))⟩) (by decide) (by decide) tw_iae tk_iae ti_iae (text := "no such length") (by decide) dc_X_words_16 dc_X_words_19 dc_X_words_20 dc_X_words_22 dc_X_words_25 (by decide) (Nat.le_of_ble_eq_true rfl) (by decide) (by decide) (by decide) (by decide)
  · refine lv_iload_n C.x C.b dc_X_words_10 rfl (lv_at hl 3 rfl) ?_
    refine lv_bipush (v := (nI 39)) C.x C.b dc_X_words_11 (by decide +kernel) ?_
    refine lv_icmp_le (tgt := 26) C.x C.b dc_X_words_13 (by decide) (fun q13 => ?_) (fun q13 => ?_)
    · obtain ⟨hj80, htk, htg⟩ := hC0.tok lt_j_1
      have ht2 := htk.2.1
      have ht3 := htk.2.2.1
      obtain ⟨n, hn, en⟩ : ∃ n, n < 40 ∧ nn = nI n := by
        rcases pk_ix nn (n := 40) (by decide) with z | z | z
        · exact absurd z q7
        · exact absurd z (fun z9 => by have a9 := nI_lt (a := 39) (b := 40) (by decide) (by decide); have := Int32.lt_of_lt_of_le a9 z9; exact Int32.lt_irrefl (Int32.lt_of_lt_of_le this q13))
        · exact z
      subst en
      refine lv_aload_n C.x C.b dc_X_words_26 rfl (lv_at hl 1 rfl) ?_
      refine rg_get C h 0 rfl rfl in_X 2 (by decide) fl_X_25 rfl dc_X_words_27 ?_
      refine lv_aload_n C.x C.b dc_X_words_30 rfl (lv_at hl 0 rfl) ?_
      refine kv_V (As := [.ref (d (20 + 3 * j_1))]) (rest := []) C h hl.1 (c_Y_begin l Γ d hm mc so tl tb wr j_1 hj80 htk) mw_Y_begin lk_X_109 (q0 := 3) rfl rfl rfl (by decide) (by decide) (Nat.le_of_ble_eq_true rfl) dc_X_words_31 (fun v u H locs hp h => ?_)
      obtain ⟨tl_2, rfl⟩ : ∃ zz9, zz9 = u := ⟨_, rfl⟩
      obtain ⟨rfl, htl_2⟩ := hp
      replace h : sT Γ s (xW Γ d hm mc so tl_2 tb wr) H locs := h
      refine W.eq (g2 := F0 m 34 ls []) rfl ?_
      refine lv_iconst (v := (nI 0)) C.x C.b dc_X_words_34 (by decide +kernel) ?_
      refine lv_istore (lv' := [(4, .int (nI 0)), (3, .ref (d (20 + 3 * j_1))), (0, .ref (d 0)), (1, .int pp), (2, .int (nI n))]) C.x C.b dc_X_words_35 hl (by decide) rfl (fun ls hl => ?_)
      have lp_37 : ∀ (n_37 : Nat) (k : Nat) (z : Nat → Nat → Int64) (H : Heap) (locs : List Loc) (ls : Array Slot), n - k < n_37 → (k ≤ n) → (∀ r, r < tb j_1 0 0 → z 0 r = lI (cnt (tb j_1 0 1) (tb j_1 1) k r)) → sT Γ s (xW Γ d hm mc so z tb wr) H locs → lv_has ls 5 [(4, .int (nI k)), (3, .ref (d (20 + 3 * j_1))), (2, .int (nI n)), (0, .ref (d 0))] → W p l e rm_X_words s m args below meth c H locs 1 6 Q (F0 m 37 ls []) := by
        intro n_37
        induction n_37 with
        | zero => intro k z H locs ls hms; exact absurd hms (Nat.not_lt_zero _)
        | succ n_37 ih_37 =>
          intro k z H locs ls hms hk hz h hl
          refine lv_iload C.x C.b dc_X_words_37 (lv_at hl 0 rfl) ?_
          refine lv_iload_n C.x C.b dc_X_words_39 rfl (lv_at hl 2 rfl) ?_
          refine bc_ge (tgt := 57) C (by omega) (by omega) dc_X_words_40 (by decide) (fun q40 => ?_) (fun q40 => ?_)
          · refine lv_aload_n C.x C.b dc_X_words_57 rfl (lv_at hl 3 rfl) ?_
            refine rg_get C h 0 rfl rfl in_X 2 (by decide) fl_X_25 rfl dc_X_words_58 ?_
            refine rg_getN C h 3 rfl rfl in_Y 0 (by decide) fl_X_114 rfl dc_X_words_61 ?_
            refine lv_iconst (v := (nI 0)) C.x C.b dc_X_words_64 (by decide +kernel) ?_
            refine rg_lld C h 15 rfl (by omega) (by decide) dc_X_words_65 ?_
            refine W.widen (k := 6) (n := 40) (by decide) (by decide) ?_
            rw [hQ]
            exact vx_ret (rt_l C z h (⟨j_1, n, ⟨lt_j_1, e_j_1, by omega, rfl⟩, by rw [hz 0 htk.1, show k = n by omega]⟩) dc_X_words_66)
          · refine lv_aload_n C.x C.b dc_X_words_43 rfl (lv_at hl 3 rfl) ?_
            refine rg_get C h 0 rfl rfl in_X 2 (by decide) fl_X_25 rfl dc_X_words_44 ?_
            refine lv_aload_n C.x C.b dc_X_words_47 rfl (lv_at hl 1 rfl) ?_
            refine kv_V (As := [.ref (d (20 + 3 * j_1))]) (rest := []) C h hl.1 (c_Y_lengthen l Γ d hm mc so z tb wr j_1 k hj80 htk hz) mw_Y_lengthen lk_X_111 (q0 := 3) rfl rfl rfl (by decide) (by decide) (Nat.le_of_ble_eq_true rfl) dc_X_words_48 (fun v u H locs hp h => ?_)
            obtain ⟨tl_3, rfl⟩ : ∃ zz9, zz9 = u := ⟨_, rfl⟩
            obtain ⟨rfl, htl_3⟩ := hp
            replace h : sT Γ s (xW Γ d hm mc so tl_3 tb wr) H locs := h
            refine W.eq (g2 := F0 m 51 ls []) rfl ?_
            refine lv_iinc (v := nI (k + 1)) (lv' := [(4, .int (nI (k + 1))), (3, .ref (d (20 + 3 * j_1))), (2, .int (nI n)), (0, .ref (d 0))]) C.x C.b dc_X_words_51 hl (k := 0) rfl (nI_1 k) (by decide) rfl (fun ls hl => ?_)
            refine lv_goto (tgt := 37) C.x C.b dc_X_words_54 (by decide) ?_
            exact ih_37 (k + 1) tl_3 _ _ _ (by omega) (by first | assumption | omega) (by assumption) h (lv_sub hl [0, 1, 2, 3] rfl)
      exact lp_37 _ 0 tl_2 _ _ _ (Nat.lt_succ_self _) (by first | assumption | omega) (by assumption) h (lv_sub hl [0, 1, 4, 2] rfl)
    · rw [hQ]
      exact rt_thr (names := ns_iae) C hst hno hX hl.1 () h (⟨rfl, fun z => by obtain ⟨j, n, -, -, hn, e⟩ := z; subst e; first | exact nI_pos (by omega) q7 | exact q13 (nI_le (show n ≤ 39 by omega) (by decide))⟩) (by decide) (by decide) tw_iae tk_iae ti_iae (text := "no such length") (by decide) dc_X_words_16 dc_X_words_19 dc_X_words_20 dc_X_words_22 dc_X_words_25 (by decide) (Nat.le_of_ble_eq_true rfl) (by decide) (by decide) (by decide) (by decide)

abbrev rm_X_shortest : Room := { frames := 7, cells := 6, slots := 40, locals := 103 }
set_option maxRecDepth 100000 in
set_option maxHeartbeats 4000000 in
theorem c_X_shortest (l : Launch) (Γ : gG) (d : Nat → Nat) (hm : Nat) (mc : va_E) (so : Nat → Nat → Nat) (tl : Nat → Nat → Int64) (tb : Nat → Nat → Nat → Nat) (wr : va_W) (pp : Int32) (hC0 : CS so tb) (hst : l.stackTraces = false) : cTx l Γ my_X_shortest bc_X_shortest 3 (some .int) rm_X_shortest [.ref (d 0), .int pp] (xW Γ d hm mc so tl tb wr) (S := Unit) (fun v u => ∃ i, (i < so 10 3 ∧ pp = nI i) ∧ tb i 2 0 ≠ 0 ∧ v = some (.int (mI (tb i 2 0)))) (fun _ => xW Γ d hm mc so tl tb wr) (SX := Unit) (fun E _ => (E = en_iae ∧ ¬ ∃ i, i < so 10 3 ∧ pp = nI i) ∨ (E = en_nse ∧ ∃ i, (i < so 10 3 ∧ pp = nI i) ∧ tb i 2 0 = 0)) (fun _ => xW Γ d hm mc so tl tb wr) := by
  refine cTx.start (by decide) (Nat.le_of_ble_eq_true rfl) (fun p e s m args below meth c ls Q hQ C hmn hno hX h hl => ?_)
  replace hl : lv_has ls 3 [(0, .ref (d 0)), (1, .int pp)] := hl
  have h80 := hC0.2.1
  refine lv_aload_n C.x C.b dc_X_shortest_0 rfl (lv_at hl 0 rfl) ?_
  refine lv_iload_n C.x C.b dc_X_shortest_1 rfl (lv_at hl 1 rfl) ?_
  refine kx_V (As := [.int pp]) (rest := []) C hX h hl.1 (c_X_tableOf l Γ d hm mc so tl tb wr pp h80 hst) mw_X_tableOf lk_X_48 (q0 := 0) rfl rfl rfl (by decide) (by decide) (Nat.le_of_ble_eq_true rfl) dc_X_shortest_2 (fun E ce q9 u H locs hp h hc1 hc2 hc3 => ?_) (fun v u H locs hp h => ?_)
  · rw [hQ]
    exact kx_out C hno () h (Or.inl ⟨hp.1, fun z => by obtain ⟨i, a, c⟩ := z; exact hp.2 ⟨i, a, c⟩⟩) hc1 hc2 hc3 (by decide) (by decide)
  obtain ⟨j_1, rfl⟩ : ∃ zz9, zz9 = u := ⟨_, rfl⟩
  obtain ⟨rfl, lt_j_1, e_j_1⟩ := hp
  replace h : sT Γ s (xW Γ d hm mc so tl tb wr) H locs := h
  refine W.eq (g2 := F0 m 5 ls [.ref (d (20 + 3 * j_1))]) rfl ?_
  refine lv_astore_n (lv' := [(2, .ref (d (20 + 3 * j_1))), (0, .ref (d 0)), (1, .int pp)]) C.x C.b dc_X_shortest_5 rfl hl (by decide) rfl (fun ls hl => ?_)
  obtain ⟨hj80, htk, htg⟩ := hC0.tok lt_j_1
  have ht2 := htk.2.1
  have ht3 := htk.2.2.1
  have hfr := (htg.far htk.1).1
  refine lv_aload_n C.x C.b dc_X_shortest_6 rfl (lv_at hl 0 rfl) ?_
  refine rg_getN C h (17 + j_1) (lk_T (by omega)) rfl in_T 4 (by decide) fl_X_118 rfl dc_X_shortest_7 ?_
  refine lv_iconst (v := (nI 0)) C.x C.b dc_X_shortest_10 (by decide +kernel) ?_
  refine rg_mld C h (177 + j_1) (lk_F (by omega)) (by omega) (by decide) dc_X_shortest_11 ?_
  refine lv_iconst (v := (mI 0)) C.x C.b dc_X_shortest_12 (by decide +kernel) ?_
  refine bn_ne (tgt := 26) C (hfr) (by decide) dc_X_shortest_13 (by decide) (fun q13 => ?_) (fun q13 => ?_)
  · refine lv_aload_n C.x C.b dc_X_shortest_26 rfl (lv_at hl 0 rfl) ?_
    refine rg_getN C h (17 + j_1) (lk_T (by omega)) rfl in_T 4 (by decide) fl_X_118 rfl dc_X_shortest_27 ?_
    refine lv_iconst (v := (nI 0)) C.x C.b dc_X_shortest_30 (by decide +kernel) ?_
    refine rg_mld C h (177 + j_1) (lk_F (by omega)) (by omega) (by decide) dc_X_shortest_31 ?_
    refine W.widen (k := 6) (n := 40) (by decide) (by decide) ?_
    rw [hQ]
    exact vx_ret (rt_i C () h (⟨j_1, ⟨lt_j_1, e_j_1⟩, q13, rfl⟩) dc_X_shortest_32)
  · rw [hQ]
    exact rt_thrX (Y := ny_nse) (names := ns_nse) C hst hno hX hl.1 () h (Or.inr ⟨rfl, j_1, ⟨lt_j_1, e_j_1⟩, q13⟩) xd_nse0 xd_nse1 xd_nse2 xd_nse5 (by decide) (by decide) (by decide) tw_nse tk_nse ti_nse (text := "no word") (by decide) dc_X_shortest_16 dc_X_shortest_19 dc_X_shortest_20 dc_X_shortest_22 dc_X_shortest_25 (by decide) (Nat.le_of_ble_eq_true rfl) (by decide) (by decide) (by decide) (by decide)

abbrev rm_X_letter : Room := { frames := 7, cells := 6, slots := 40, locals := 103 }
set_option maxRecDepth 100000 in
set_option maxHeartbeats 4000000 in
theorem c_X_letter (l : Launch) (Γ : gG) (d : Nat → Nat) (hm : Nat) (mc : va_E) (so : Nat → Nat → Nat) (tl : Nat → Nat → Int64) (tb : Nat → Nat → Nat → Nat) (wr : va_W) (pp ii : Int32) (hC0 : CS so tb) (hst : l.stackTraces = false) : cTx l Γ my_X_letter bc_X_letter 6 (some .int) rm_X_letter [.ref (d 0), .int pp, .int ii] (xW Γ d hm mc so tl tb wr) (S := Unit) (fun v u => ∃ i q, ((i < so 10 3 ∧ pp = nI i) ∧ q + 1 < tb i 2 0 ∧ ii = nI q) ∧ v = some (.int (nI (nxl (tb i 0 1) (tb i 1) (tb i 2 0 - q - 2) (lst (tb i 0 1) (tb i 1) (tb i 2 0 - 1) 0 q))))) (fun _ => xW Γ d hm mc so tl tb wr) (SX := Unit) (fun E _ => (E = en_iae ∧ ¬ ∃ i, i < so 10 3 ∧ pp = nI i) ∨ (E = en_nse ∧ ∃ i, (i < so 10 3 ∧ pp = nI i) ∧ ¬ ∃ q, q + 1 < tb i 2 0 ∧ ii = nI q)) (fun _ => xW Γ d hm mc so tl tb wr) := by
  refine cTx.start (by decide) (Nat.le_of_ble_eq_true rfl) (fun p e s m args below meth c ls Q hQ C hmn hno hX h hl => ?_)
  replace hl : lv_has ls 6 [(0, .ref (d 0)), (1, .int pp), (2, .int ii)] := hl
  have h80 := hC0.2.1
  refine lv_aload_n C.x C.b dc_X_letter_0 rfl (lv_at hl 0 rfl) ?_
  refine lv_iload_n C.x C.b dc_X_letter_1 rfl (lv_at hl 1 rfl) ?_
  refine kx_V (As := [.int pp]) (rest := []) C hX h hl.1 (c_X_tableOf l Γ d hm mc so tl tb wr pp h80 hst) mw_X_tableOf lk_X_48 (q0 := 0) rfl rfl rfl (by decide) (by decide) (Nat.le_of_ble_eq_true rfl) dc_X_letter_2 (fun E ce q9 u H locs hp h hc1 hc2 hc3 => ?_) (fun v u H locs hp h => ?_)
  · rw [hQ]
    exact kx_out C hno () h (Or.inl ⟨hp.1, fun z => by obtain ⟨i, a, c⟩ := z; exact hp.2 ⟨i, a, c⟩⟩) hc1 hc2 hc3 (by decide) (by decide)
  obtain ⟨j_1, rfl⟩ : ∃ zz9, zz9 = u := ⟨_, rfl⟩
  obtain ⟨rfl, lt_j_1, e_j_1⟩ := hp
  replace h : sT Γ s (xW Γ d hm mc so tl tb wr) H locs := h
  refine W.eq (g2 := F0 m 5 ls [.ref (d (20 + 3 * j_1))]) rfl ?_
  refine lv_astore_n (lv' := [(3, .ref (d (20 + 3 * j_1))), (0, .ref (d 0)), (1, .int pp), (2, .int ii)]) C.x C.b dc_X_letter_5 rfl hl (by decide) rfl (fun ls hl => ?_)
  obtain ⟨hj80, htk, htg⟩ := hC0.tok lt_j_1
  have ht2 := htk.2.1
  have ht3 := htk.2.2.1
  have hfr := (htg.far htk.1).1
  have hf11 := (htg.far htk.1).2
  refine lv_iload_n C.x C.b dc_X_letter_6 rfl (lv_at hl 3 rfl) ?_
  refine lv_if_lt (tgt := 20) C.x C.b dc_X_letter_7 (by decide) (fun q7 => ?_) (fun q7 => ?_)
  · rw [hQ]
    exact rt_thrX (Y := ny_nse) (names := ns_nse) C hst hno hX hl.1 () h (Or.inr ⟨rfl, j_1, ⟨lt_j_1, e_j_1⟩, fun z => by obtain ⟨q, hq, e⟩ := z; subst e; first | exact nI_pos (by omega) q7 | exact q17 ((nI_mlt (by omega) hfr).mpr hq)⟩) xd_nse0 xd_nse1 xd_nse2 xd_nse5 (by decide) (by decide) (by decide) tw_nse tk_nse ti_nse (text := "no such letter in the word") (by decide) dc_X_letter_20 dc_X_letter_23 dc_X_letter_24 dc_X_letter_26 dc_X_letter_29 (by decide) (Nat.le_of_ble_eq_true rfl) (by decide) (by decide) (by decide) (by decide)
  · refine lv_iload_n C.x C.b dc_X_letter_10 rfl (lv_at hl 3 rfl) ?_
    refine lv_aload_n C.x C.b dc_X_letter_11 rfl (lv_at hl 0 rfl) ?_
    refine rg_getN C h (17 + j_1) (lk_T (by omega)) rfl in_T 4 (by decide) fl_X_118 rfl dc_X_letter_12 ?_
    refine lv_iconst (v := (nI 0)) C.x C.b dc_X_letter_15 (by decide +kernel) ?_
    refine rg_mld C h (177 + j_1) (lk_F (by omega)) (by omega) (by decide) dc_X_letter_16 ?_
    refine lv_icmp_lt (tgt := 30) C.x C.b dc_X_letter_17 (by decide) (fun q17 => ?_) (fun q17 => ?_)
    · obtain ⟨q, hqq, eq9⟩ : ∃ q, q < 2 ^ 31 ∧ ii = nI q := by
        obtain ⟨j, hj, e9⟩ := nI_of q7
        exact ⟨j, hj, e9⟩
      subst eq9
      have hqF := (nI_mlt hqq hfr).mp q17
      refine lv_iconst (v := (nI 0)) C.x C.b dc_X_letter_30 (by decide +kernel) ?_
      refine lv_istore (lv' := [(4, .int (nI 0)), (3, .ref (d (20 + 3 * j_1))), (0, .ref (d 0)), (1, .int pp), (2, .int (nI q))]) C.x C.b dc_X_letter_31 hl (by decide) rfl (fun ls hl => ?_)
      refine lv_iconst (v := (nI 0)) C.x C.b dc_X_letter_33 (by decide +kernel) ?_
      refine lv_istore (lv' := [(5, .int (nI 0)), (4, .int (nI 0)), (3, .ref (d (20 + 3 * j_1))), (0, .ref (d 0)), (1, .int pp), (2, .int (nI q))]) C.x C.b dc_X_letter_34 hl (by decide) rfl (fun ls hl => ?_)
      have hat : lst (tb j_1 0 1) (tb j_1 1) (tb j_1 2 0 - 1) 0 0 < tb j_1 0 0 := htk.1
      have hcd : tb j_1 2 (lst (tb j_1 0 1) (tb j_1 1) (tb j_1 2 0 - 1) 0 0) = tb j_1 2 0 - 0 := rfl
      have lp_36 : ∀ (n_36 : Nat) (k : Nat) (H : Heap) (locs : List Loc) (ls : Array Slot), q - k < n_36 → (k ≤ q) → (lst (tb j_1 0 1) (tb j_1 1) (tb j_1 2 0 - 1) 0 k < tb j_1 0 0) → (tb j_1 2 (lst (tb j_1 0 1) (tb j_1 1) (tb j_1 2 0 - 1) 0 k) = tb j_1 2 0 - k) → sT Γ s (xW Γ d hm mc so tl tb wr) H locs → lv_has ls 6 [(5, .int (nI k)), (4, .int (nI (lst (tb j_1 0 1) (tb j_1 1) (tb j_1 2 0 - 1) 0 k))), (3, .ref (d (20 + 3 * j_1))), (2, .int (nI q))] → W p l e rm_X_letter s m args below meth c H locs 1 6 Q (F0 m 36 ls []) := by
        intro n_36
        induction n_36 with
        | zero => intro k H locs ls hms; exact absurd hms (Nat.not_lt_zero _)
        | succ n_36 ih_36 =>
          intro k H locs ls hms hk hat hcd h hl
          refine lv_iload C.x C.b dc_X_letter_36 (lv_at hl 0 rfl) ?_
          refine lv_iload_n C.x C.b dc_X_letter_38 rfl (lv_at hl 3 rfl) ?_
          refine bc_ge (tgt := 62) C (by omega) (by omega) dc_X_letter_39 (by decide) (fun q39 => ?_) (fun q39 => ?_)
          · refine lv_aload_n C.x C.b dc_X_letter_62 rfl (lv_at hl 2 rfl) ?_
            have hck : tb j_1 2 (lst (tb j_1 0 1) (tb j_1 1) (tb j_1 2 0 - 1) 0 k) = (tb j_1 2 0 - k - 2) + 2 := by omega
            refine lv_iload C.x C.b dc_X_letter_63 (lv_at hl 1 rfl) ?_
            refine kv_V (As := [.int (nI (lst (tb j_1 0 1) (tb j_1 1) (tb j_1 2 0 - 1) 0 k))]) (rest := []) C h hl.1 (c_T_nearer l Γ d hm mc so tl tb wr j_1 (lst (tb j_1 0 1) (tb j_1 1) (tb j_1 2 0 - 1) 0 k) (tb j_1 2 0 - k - 2) hj80 (by omega) hck (by omega) (fun l hl => Nat.lt_of_lt_of_le (htk.2.2.2.2 _ l hat hl) ht2) (fun l hl => (htg.far (htk.2.2.2.2 _ l hat hl)).1)) mw_T_nearer lk_X_129 (q0 := (17 + j_1)) (lk_T (hj80)) rfl rfl (by decide) (by decide) (Nat.le_of_ble_eq_true rfl) dc_X_letter_65 (fun v u H locs hp h => ?_)
            obtain ⟨rfl, lt_2_3, lt_2_n, lt_2_y⟩ := hp
            obtain ⟨lt_2, rfl⟩ : ∃ zz9, zz9 = u := ⟨_, rfl⟩
            replace h : sT Γ s (xW Γ d hm mc so tl tb wr) H locs := h
            refine W.eq (g2 := F0 m 68 ls [.int (nI lt_2)]) rfl ?_
            obtain ⟨nq1, nq2, nq3, nq4⟩ := htg.nearer hat hck lt_2_3 lt_2_n lt_2_y
            refine W.widen (k := 6) (n := 40) (by decide) (by decide) ?_
            rw [hQ]
            exact vx_ret (rt_i C () h (⟨j_1, q, ⟨⟨lt_j_1, e_j_1⟩, hqF, rfl⟩, by rw [nq1, show k = q by omega]⟩) dc_X_letter_68)
          · refine lv_aload_n C.x C.b dc_X_letter_42 rfl (lv_at hl 2 rfl) ?_
            refine lv_iload C.x C.b dc_X_letter_43 (lv_at hl 1 rfl) ?_
            refine lv_aload_n C.x C.b dc_X_letter_45 rfl (lv_at hl 2 rfl) ?_
            have hck : tb j_1 2 (lst (tb j_1 0 1) (tb j_1 1) (tb j_1 2 0 - 1) 0 k) = (tb j_1 2 0 - k - 2) + 2 := by omega
            refine lv_iload C.x C.b dc_X_letter_46 (lv_at hl 1 rfl) ?_
            refine kv_V (As := [.int (nI (lst (tb j_1 0 1) (tb j_1 1) (tb j_1 2 0 - 1) 0 k))]) (rest := [.int (nI (lst (tb j_1 0 1) (tb j_1 1) (tb j_1 2 0 - 1) 0 k)), .ref (d (20 + 3 * j_1))]) C h hl.1 (c_T_nearer l Γ d hm mc so tl tb wr j_1 (lst (tb j_1 0 1) (tb j_1 1) (tb j_1 2 0 - 1) 0 k) (tb j_1 2 0 - k - 2) hj80 (by omega) hck (by omega) (fun l hl => Nat.lt_of_lt_of_le (htk.2.2.2.2 _ l hat hl) ht2) (fun l hl => (htg.far (htk.2.2.2.2 _ l hat hl)).1)) mw_T_nearer lk_X_129 (q0 := (17 + j_1)) (lk_T (hj80)) rfl rfl (by decide) (by decide) (Nat.le_of_ble_eq_true rfl) dc_X_letter_48 (fun v u H locs hp h => ?_)
            obtain ⟨rfl, lt_3_3, lt_3_n, lt_3_y⟩ := hp
            obtain ⟨lt_3, rfl⟩ : ∃ zz9, zz9 = u := ⟨_, rfl⟩
            replace h : sT Γ s (xW Γ d hm mc so tl tb wr) H locs := h
            refine W.eq (g2 := F0 m 51 ls [.int (nI lt_3), .int (nI (lst (tb j_1 0 1) (tb j_1 1) (tb j_1 2 0 - 1) 0 k)), .ref (d (20 + 3 * j_1))]) rfl ?_
            obtain ⟨nq1, nq2, nq3, nq4⟩ := htg.nearer hat hck lt_3_3 lt_3_n lt_3_y
            refine kv_V (As := [.int (nI (lst (tb j_1 0 1) (tb j_1 1) (tb j_1 2 0 - 1) 0 k)), .int (nI lt_3)]) (rest := []) C h hl.1 (c_T_after l Γ d hm mc so tl tb wr j_1 (lst (tb j_1 0 1) (tb j_1 1) (tb j_1 2 0 - 1) 0 k) lt_3 (hj80) (by omega) (by omega)) mw_T_after lk_X_81 (q0 := (17 + j_1)) (lk_T (hj80)) rfl rfl (by decide) (by decide) (Nat.le_of_ble_eq_true rfl) dc_X_letter_51 (fun v u H locs hp h => ?_)
            obtain rfl := hp
            replace h : sT Γ s (xW Γ d hm mc so tl tb wr) H locs := h
            refine W.eq (g2 := F0 m 54 ls [.int (nI (tb j_1 1 ((lst (tb j_1 0 1) (tb j_1 1) (tb j_1 2 0 - 1) 0 k) * 3 + lt_3)))]) rfl ?_
            refine lv_istore (lv' := [(4, .int (nI (tb j_1 1 ((lst (tb j_1 0 1) (tb j_1 1) (tb j_1 2 0 - 1) 0 k) * 3 + lt_3)))), (5, .int (nI k)), (3, .ref (d (20 + 3 * j_1))), (2, .int (nI q))]) C.x C.b dc_X_letter_54 hl (by decide) rfl (fun ls hl => ?_)
            refine lv_iinc (v := nI (k + 1)) (lv' := [(5, .int (nI (k + 1))), (4, .int (nI (tb j_1 1 ((lst (tb j_1 0 1) (tb j_1 1) (tb j_1 2 0 - 1) 0 k) * 3 + lt_3)))), (3, .ref (d (20 + 3 * j_1))), (2, .int (nI q))]) C.x C.b dc_X_letter_56 hl (k := 1) rfl (nI_1 k) (by decide) rfl (fun ls hl => ?_)
            refine lv_goto (tgt := 36) C.x C.b dc_X_letter_59 (by decide) ?_
            have es : tb j_1 1 ((lst (tb j_1 0 1) (tb j_1 1) (tb j_1 2 0 - 1) 0 k) * 3 + lt_3) = lst (tb j_1 0 1) (tb j_1 1) (tb j_1 2 0 - 1) 0 (k + 1) := by rw [nq1]; show _ = tb j_1 1 (_ * 3 + nxl _ _ (tb j_1 2 0 - 1 - k - 1) _); rw [show tb j_1 2 0 - 1 - k - 1 = tb j_1 2 0 - k - 2 by omega]
            rw [es] at hl nq3 nq4
            have hat := nq4
            have hcd : tb j_1 2 (lst (tb j_1 0 1) (tb j_1 1) (tb j_1 2 0 - 1) 0 (k + 1)) = tb j_1 2 0 - (k + 1) := by omega
            exact ih_36 (k + 1) _ _ _ (by omega) (by first | assumption | omega) (by first | assumption | omega) (by first | assumption | omega) h (lv_sub hl [0, 1, 2, 3] rfl)
      exact lp_36 _ 0 _ _ _ (Nat.lt_succ_self _) (by first | assumption | omega) (by first | assumption | omega) (by first | assumption | omega) h (lv_sub hl [0, 1, 2, 5] rfl)
    · rw [hQ]
      exact rt_thrX (Y := ny_nse) (names := ns_nse) C hst hno hX hl.1 () h (Or.inr ⟨rfl, j_1, ⟨lt_j_1, e_j_1⟩, fun z => by obtain ⟨q, hq, e⟩ := z; subst e; first | exact nI_pos (by omega) q7 | exact q17 ((nI_mlt (by omega) hfr).mpr hq)⟩) xd_nse0 xd_nse1 xd_nse2 xd_nse5 (by decide) (by decide) (by decide) tw_nse tk_nse ti_nse (text := "no such letter in the word") (by decide) dc_X_letter_20 dc_X_letter_23 dc_X_letter_24 dc_X_letter_26 dc_X_letter_29 (by decide) (Nat.le_of_ble_eq_true rfl) (by decide) (by decide) (by decide) (by decide)

abbrev rm_X_inside : Room := { frames := 7, cells := 6, slots := 40, locals := 114 }
set_option maxRecDepth 100000 in
set_option maxHeartbeats 4000000 in
theorem c_X_inside (l : Launch) (Γ : gG) (d : Nat → Nat) (hm : Nat) (mc : va_E) (so : Nat → Nat → Nat) (tl : Nat → Nat → Int64) (tb : Nat → Nat → Nat → Nat) (wr : va_W) (pp qq : Int32) (hC0 : CS so tb) (hst : l.stackTraces = false) : cTx l Γ my_X_inside bc_X_inside 3 (some .boolean) rm_X_inside [.ref (d 0), .int pp, .int qq] (xW Γ d hm mc so tl tb wr) (S := xG) (fun v u => ∃ i j, (i < so 10 3 ∧ j < so 10 3 ∧ pp = nI i ∧ qq = nI j) ∧ ∃ b : Bool, v = some (.int (bI b)) ∧ (b = true ↔ ∀ w, lts w → ¬ macc (mqB 2 (tb i) (tb j)) 0 w = true) ∧ CS u.2.2.1 tb ∧ u.2.2.1 10 3 = so 10 3 ∧ u.2.2.2 = tb) (fun u => xW Γ d u.1 u.2.1 u.2.2.1 tl u.2.2.2 wr) (SX := xG) (fun E u => E = en_iae ∧ u = (hm, mc, so, tb) ∧ ¬ ∃ i j, i < so 10 3 ∧ j < so 10 3 ∧ pp = nI i ∧ qq = nI j) (fun u => xW Γ d u.1 u.2.1 u.2.2.1 tl u.2.2.2 wr) := by
  refine cTx.start (by decide) (Nat.le_of_ble_eq_true rfl) (fun p e s m args below meth c ls Q hQ C hmn hno hX h hl => ?_)
  replace hl : lv_has ls 3 [(0, .ref (d 0)), (1, .int pp), (2, .int qq)] := hl
  have h80 := hC0.2.1
  refine lv_aload_n C.x C.b dc_X_inside_0 rfl (lv_at hl 0 rfl) ?_
  refine rg_get C h 0 rfl rfl in_X 1 (by decide) fl_X_18 rfl dc_X_inside_1 ?_
  refine rg_newM (ci := 6) (ty := ft_B) (fs := [.int 0, .null, .null]) C h rfl in_B tk_B nk_X_57 ns_B ni_B (by decide +kernel) (by decide) (by decide) dc_X_inside_4 (fun qm_1 H h => ?_)
  refine lv_dup C.x C.b dc_X_inside_7 rfl ?_
  refine lv_iconst (v := (nI 2)) C.x C.b dc_X_inside_8 (by decide +kernel) ?_
  refine lv_aload_n C.x C.b dc_X_inside_9 rfl (lv_at hl 0 rfl) ?_
  refine lv_iload_n C.x C.b dc_X_inside_10 rfl (lv_at hl 1 rfl) ?_
  refine kx_V (As := [.int pp]) (rest := [.int (nI 2), .ref qm_1, .ref qm_1, .ref (d 2)]) C hX h hl.1 (c_X_tableOf l Γ d hm mc so tl tb ((qm_1, .inr (6, [.int 0, .null, .null])) :: wr) pp h80 hst) mw_X_tableOf lk_X_48 (q0 := 0) rfl rfl rfl (by decide) (by decide) (Nat.le_of_ble_eq_true rfl) dc_X_inside_11 (fun E ce q9 u H locs hp h hc1 hc2 hc3 => ?_) (fun v u H locs hp h => ?_)
  · replace h := xw_drop h
    rw [hQ]
    exact kx_out C hno (hm, mc, so, tb) h (⟨hp.1, rfl, fun z => by obtain ⟨i, j, a, b, c, d9⟩ := z; exact hp.2 ⟨i, a, c⟩⟩) hc1 hc2 hc3 (by decide) (by decide)
  obtain ⟨j_2, rfl⟩ : ∃ zz9, zz9 = u := ⟨_, rfl⟩
  obtain ⟨rfl, lt_j_2, e_j_2⟩ := hp
  replace h : sT Γ s (xW Γ d hm mc so tl tb ((qm_1, .inr (6, [.int 0, .null, .null])) :: wr)) H locs := h
  refine W.eq (g2 := F0 m 14 ls [.ref (d (20 + 3 * j_2)), .int (nI 2), .ref qm_1, .ref qm_1, .ref (d 2)]) rfl ?_
  refine lv_aload_n C.x C.b dc_X_inside_14 rfl (lv_at hl 0 rfl) ?_
  refine lv_iload_n C.x C.b dc_X_inside_15 rfl (lv_at hl 2 rfl) ?_
  refine kx_V (As := [.int qq]) (rest := [.ref (d (20 + 3 * j_2)), .int (nI 2), .ref qm_1, .ref qm_1, .ref (d 2)]) C hX h hl.1 (c_X_tableOf l Γ d hm mc so tl tb ((qm_1, .inr (6, [.int 0, .null, .null])) :: wr) qq h80 hst) mw_X_tableOf lk_X_48 (q0 := 0) rfl rfl rfl (by decide) (by decide) (Nat.le_of_ble_eq_true rfl) dc_X_inside_16 (fun E ce q9 u H locs hp h hc1 hc2 hc3 => ?_) (fun v u H locs hp h => ?_)
  · replace h := xw_drop h
    rw [hQ]
    exact kx_out C hno (hm, mc, so, tb) h (⟨hp.1, rfl, fun z => by obtain ⟨i, j, a, b, c, d9⟩ := z; exact hp.2 ⟨j, b, d9⟩⟩) hc1 hc2 hc3 (by decide) (by decide)
  obtain ⟨j_3, rfl⟩ : ∃ zz9, zz9 = u := ⟨_, rfl⟩
  obtain ⟨rfl, lt_j_3, e_j_3⟩ := hp
  replace h : sT Γ s (xW Γ d hm mc so tl tb ((qm_1, .inr (6, [.int 0, .null, .null])) :: wr)) H locs := h
  refine W.eq (g2 := F0 m 19 ls [.ref (d (20 + 3 * j_3)), .ref (d (20 + 3 * j_2)), .int (nI 2), .ref qm_1, .ref qm_1, .ref (d 2)]) rfl ?_
  have hMB : mOK d tb (.inr (6, [.int (nI 2), .ref (d (20 + 3 * j_2)), .ref (d (20 + 3 * j_3))])) (mqB 2 (tb j_2) (tb j_3)) := mok_B (by decide) (hC0.tok lt_j_2).1 (hC0.tok lt_j_3).1 (hC0.tok lt_j_2).2.1 (hC0.tok lt_j_3).2.1
  refine kv_I (As := [.int (nI 2), .ref (d (20 + 3 * j_2)), .ref (d (20 + 3 * j_3))]) (rest := [.ref qm_1, .ref (d 2)]) C h hl.1 (c_B_init l Γ d hm mc so tl tb wr qm_1 2 j_2 j_3) mw_B_init lk_X_59 rfl (by decide) (by decide) (Nat.le_of_ble_eq_true rfl) dc_X_inside_19 (fun v u H locs hp h => ?_)
  obtain rfl := hp
  replace h : sT Γ s (xW Γ d hm mc so tl tb ((qm_1, (.inr (6, [.int (nI 2), .ref (d (20 + 3 * j_2)), .ref (d (20 + 3 * j_3))]) : va_E)) :: wr)) H locs := h
  refine W.eq (g2 := F0 m 22 ls [.ref qm_1, .ref (d 2)]) rfl ?_
  refine kv_V (As := [.ref qm_1]) (rest := []) C h hl.1 (c_S_begin l Γ d hm mc so tl tb wr qm_1 (.inr (6, [.int (nI 2), .ref (d (20 + 3 * j_2)), .ref (d (20 + 3 * j_3))]) : va_E) (mqB 2 (tb j_2) (tb j_3)) hMB hC0.1) mw_S_begin lk_X_98 (q0 := 2) rfl rfl rfl (by decide) (by decide) (Nat.le_of_ble_eq_true rfl) dc_X_inside_22 (fun v u H locs hp h => ?_)
  obtain ⟨so_4, rfl⟩ : ∃ zz9, zz9 = u := ⟨_, rfl⟩
  obtain ⟨rfl, bg⟩ := hp
  replace h : sT Γ s (xW Γ d qm_1 (.inr (6, [.int (nI 2), .ref (d (20 + 3 * j_2)), .ref (d (20 + 3 * j_3))]) : va_E) so_4 tl tb wr) H locs := h
  refine W.eq (g2 := F0 m 25 ls []) rfl ?_
  refine lv_aload_n C.x C.b dc_X_inside_25 rfl (lv_at hl 0 rfl) ?_
  refine rg_get C h 0 rfl rfl in_X 1 (by decide) fl_X_18 rfl dc_X_inside_26 ?_
  refine kv_V (As := []) (rest := []) C h hl.1 (c_S_meetsAnEnd l Γ d qm_1 (.inr (6, [.int (nI 2), .ref (d (20 + 3 * j_2)), .ref (d (20 + 3 * j_3))]) : va_E) so_4 tl tb wr (mqB 2 (tb j_2) (tb j_3)) hMB bg.1 (by omega) bg.2.2.1) mw_S_meetsAnEnd lk_X_102 (q0 := 2) rfl rfl rfl (by decide) (by decide) (Nat.le_of_ble_eq_true rfl) dc_X_inside_29 (fun v u H locs hp h => ?_)
  obtain ⟨⟨bq, so_5⟩, rfl⟩ : ∃ zz9, zz9 = u := ⟨_, rfl⟩
  obtain ⟨rfl, SI_so_5, sE_so_5, hbq⟩ := hp
  dsimp only at SI_so_5 sE_so_5 hbq
  replace h : sT Γ s (xW Γ d qm_1 (.inr (6, [.int (nI 2), .ref (d (20 + 3 * j_2)), .ref (d (20 + 3 * j_3))]) : va_E) so_5 tl tb wr) H locs := h
  refine W.eq (g2 := F0 m 32 ls [.int (bI bq)]) rfl ?_
  refine bb_ne (tgt := 39) C dc_X_inside_32 (by decide) (fun q32 => ?_) (fun q32 => ?_)
  · refine lv_iconst (v := (nI 0)) C.x C.b dc_X_inside_39 (by decide +kernel) ?_
    refine W.widen (k := 6) (n := 40) (by decide) (by decide) ?_
    rw [hQ]
    exact vx_ret (rt_z C (qm_1, (.inr (6, [.int (nI 2), .ref (d (20 + 3 * j_2)), .ref (d (20 + 3 * j_3))]) : va_E), so_5, tb) h (⟨j_2, j_3, ⟨lt_j_2, lt_j_3, e_j_2, e_j_3⟩, false, by decide +kernel, ⟨fun z => (by cases z), fun z => (by obtain ⟨w, w1, w2⟩ := hbq.mp q32; exact absurd w2 (z w w1))⟩, ⟨SI_so_5.sB (mok_ok hMB).2.2, by show so_5 10 3 ≤ 80; have := sE_so_5.2.2.2.1; omega, fun i hi => hC0.2.2 i (by have : i < so_5 10 3 := hi; have := sE_so_5.2.2.2.1; omega)⟩, by show so_5 10 3 = _; have := sE_so_5.2.2.2.1; omega, rfl⟩) (by decide +kernel) dc_X_inside_40)
  · refine lv_iconst (v := (nI 1)) C.x C.b dc_X_inside_35 (by decide +kernel) ?_
    refine lv_goto (tgt := 40) C.x C.b dc_X_inside_36 (by decide) ?_
    refine W.widen (k := 6) (n := 40) (by decide) (by decide) ?_
    rw [hQ]
    exact vx_ret (rt_z C (qm_1, (.inr (6, [.int (nI 2), .ref (d (20 + 3 * j_2)), .ref (d (20 + 3 * j_3))]) : va_E), so_5, tb) h (⟨j_2, j_3, ⟨lt_j_2, lt_j_3, e_j_2, e_j_3⟩, true, by decide +kernel, ⟨fun _ w w1 w2 => (by rw [hbq.mpr ⟨w, w1, w2⟩] at q32; cases q32), fun _ => rfl⟩, ⟨SI_so_5.sB (mok_ok hMB).2.2, by show so_5 10 3 ≤ 80; have := sE_so_5.2.2.2.1; omega, fun i hi => hC0.2.2 i (by have : i < so_5 10 3 := hi; have := sE_so_5.2.2.2.1; omega)⟩, by show so_5 10 3 = _; have := sE_so_5.2.2.2.1; omega, rfl⟩) (by decide +kernel) dc_X_inside_40)

abbrev rm_X_size : Room := { frames := 7, cells := 6, slots := 40, locals := 103 }
set_option maxRecDepth 100000 in
set_option maxHeartbeats 4000000 in
theorem c_X_size (l : Launch) (Γ : gG) (d : Nat → Nat) (hm : Nat) (mc : va_E) (so : Nat → Nat → Nat) (tl : Nat → Nat → Int64) (tb : Nat → Nat → Nat → Nat) (wr : va_W) (pp : Int32) (hC0 : CS so tb) (hst : l.stackTraces = false) : cTx l Γ my_X_size bc_X_size 6 (some .int) rm_X_size [.ref (d 0), .int pp] (xW Γ d hm mc so tl tb wr) (S := Nat → Nat → Int64) (fun v u => ∃ i, (i < so 10 3 ∧ pp = nI i) ∧ (((∃ n, tb i 0 0 ≤ n ∧ n < 2 * tb i 0 0 ∧ 0 < cnt (tb i 0 1) (tb i 1) n 0) ∧ v = some (.int (mI 0))) ∨ ((∀ n, tb i 0 0 ≤ n → n < 2 * tb i 0 0 → cnt (tb i 0 1) (tb i 1) n 0 = 0) ∧ ((1000000000 < scn (tb i 0 1) (tb i 1) 0 (2 * tb i 0 0) ∧ v = some (.int (-2))) ∨ (scn (tb i 0 1) (tb i 1) 0 (2 * tb i 0 0) ≤ 1000000000 ∧ v = some (.int (nI (scn (tb i 0 1) (tb i 1) 0 (2 * tb i 0 0))))))))) (fun u => xW Γ d hm mc so u tb wr) (SX := Unit) (fun E _ => E = en_iae ∧ ¬ ∃ i, i < so 10 3 ∧ pp = nI i) (fun _ => xW Γ d hm mc so tl tb wr) := by
  refine cTx.start (by decide) (Nat.le_of_ble_eq_true rfl) (fun p e s m args below meth c ls Q hQ C hmn hno hX h hl => ?_)
  replace hl : lv_has ls 6 [(0, .ref (d 0)), (1, .int pp)] := hl
  have h80 := hC0.2.1
  refine lv_aload_n C.x C.b dc_X_size_0 rfl (lv_at hl 0 rfl) ?_
  refine lv_iload_n C.x C.b dc_X_size_1 rfl (lv_at hl 1 rfl) ?_
  refine kx_V (As := [.int pp]) (rest := []) C hX h hl.1 (c_X_tableOf l Γ d hm mc so tl tb wr pp h80 hst) mw_X_tableOf lk_X_48 (q0 := 0) rfl rfl rfl (by decide) (by decide) (Nat.le_of_ble_eq_true rfl) dc_X_size_2 (fun E ce q9 u H locs hp h hc1 hc2 hc3 => ?_) (fun v u H locs hp h => ?_)
  · rw [hQ]
    exact kx_out C hno () h (⟨hp.1, fun z => by obtain ⟨i, a, c⟩ := z; exact hp.2 ⟨i, a, c⟩⟩) hc1 hc2 hc3 (by decide) (by decide)
  obtain ⟨j_1, rfl⟩ : ∃ zz9, zz9 = u := ⟨_, rfl⟩
  obtain ⟨rfl, lt_j_1, e_j_1⟩ := hp
  replace h : sT Γ s (xW Γ d hm mc so tl tb wr) H locs := h
  refine W.eq (g2 := F0 m 5 ls [.ref (d (20 + 3 * j_1))]) rfl ?_
  refine lv_astore_n (lv' := [(2, .ref (d (20 + 3 * j_1))), (0, .ref (d 0)), (1, .int pp)]) C.x C.b dc_X_size_5 rfl hl (by decide) rfl (fun ls hl => ?_)
  obtain ⟨hj80, htk, htg⟩ := hC0.tok lt_j_1
  have ht2 := htk.2.1
  have ht3 := htk.2.2.1
  refine lv_lconst (v := 0) C.x C.b dc_X_size_6 (by decide +kernel) ?_
  refine lv_lstore_n (lv' := [(3, .long 0), (2, .ref (d (20 + 3 * j_1))), (0, .ref (d 0)), (1, .int pp)]) C.x C.b dc_X_size_7 rfl hl (by decide) rfl (fun ls hl => ?_)
  refine lv_aload_n C.x C.b dc_X_size_8 rfl (lv_at hl 2 rfl) ?_
  refine rg_get C h 0 rfl rfl in_X 2 (by decide) fl_X_25 rfl dc_X_size_9 ?_
  refine lv_aload_n C.x C.b dc_X_size_12 rfl (lv_at hl 1 rfl) ?_
  refine kv_V (As := [.ref (d (20 + 3 * j_1))]) (rest := []) C h hl.1 (c_Y_begin l Γ d hm mc so tl tb wr j_1 hj80 htk) mw_Y_begin lk_X_109 (q0 := 3) rfl rfl rfl (by decide) (by decide) (Nat.le_of_ble_eq_true rfl) dc_X_size_13 (fun v u H locs hp h => ?_)
  obtain ⟨tl_2, rfl⟩ : ∃ zz9, zz9 = u := ⟨_, rfl⟩
  obtain ⟨rfl, htl_2⟩ := hp
  replace h : sT Γ s (xW Γ d hm mc so tl_2 tb wr) H locs := h
  refine W.eq (g2 := F0 m 16 ls []) rfl ?_
  refine lv_iconst (v := (nI 0)) C.x C.b dc_X_size_16 (by decide +kernel) ?_
  refine lv_istore (lv' := [(5, .int (nI 0)), (3, .long (lI (scn (tb j_1 0 1) (tb j_1 1) 0 0))), (2, .ref (d (20 + 3 * j_1))), (0, .ref (d 0)), (1, .int pp)]) C.x C.b dc_X_size_17 hl (by decide) rfl (fun ls hl => ?_)
  have hno : ∀ n, tb j_1 0 0 ≤ n → n < 0 → cnt (tb j_1 0 1) (tb j_1 1) n 0 = 0 := fun n _ b => absurd b (Nat.not_lt_zero _)
  have lp_19 : ∀ (n_19 : Nat) (k : Nat) (z : Nat → Nat → Int64) (H : Heap) (locs : List Loc) (ls : Array Slot), 2 * tb j_1 0 0 - k < n_19 → (k ≤ 2 * tb j_1 0 0) → (∀ r, r < tb j_1 0 0 → z 0 r = lI (cnt (tb j_1 0 1) (tb j_1 1) k r)) → (∀ n, tb j_1 0 0 ≤ n → n < k → cnt (tb j_1 0 1) (tb j_1 1) n 0 = 0) → sT Γ s (xW Γ d hm mc so z tb wr) H locs → lv_has ls 6 [(5, .int (nI k)), (3, .long (lI (scn (tb j_1 0 1) (tb j_1 1) 0 k))), (2, .ref (d (20 + 3 * j_1))), (0, .ref (d 0))] → W p l e rm_X_size s m args below meth c H locs 1 6 Q (F0 m 19 ls []) := by
    intro n_19
    induction n_19 with
    | zero => intro k z H locs ls hms; exact absurd hms (Nat.not_lt_zero _)
    | succ n_19 ih_19 =>
      intro k z H locs ls hms hk hz hno h hl
      refine lv_iload C.x C.b dc_X_size_19 (lv_at hl 0 rfl) ?_
      refine lv_iconst (v := (nI 2)) C.x C.b dc_X_size_21 (by decide +kernel) ?_
      refine lv_aload_n C.x C.b dc_X_size_22 rfl (lv_at hl 2 rfl) ?_
      refine rg_getN C h (17 + j_1) (lk_T (hj80)) rfl in_T 0 (by decide) fl_X_106 rfl dc_X_size_23 ?_
      refine lv_imul C.x C.b dc_X_size_26 ?_
      refine tp_i (pk_mul 2 (tb j_1 0 0)) ?_
      refine bc_ge (tgt := 81) C (by omega) (by omega) dc_X_size_27 (by decide) (fun q27 => ?_) (fun q27 => ?_)
      · have hs63 : scn (tb j_1 0 1) (tb j_1 1) 0 k < 2 ^ 63 := by have a := scn_le (tb j_1 0 1) (tb j_1 1) 0 k; have b := p3_20 k (by omega); omega
        have hk2 : k = 2 * tb j_1 0 0 := by omega
        refine lv_lload_n C.x C.b dc_X_size_81 rfl (lv_at hl 1 rfl) ?_
        refine lv_ldc2 C.x C.b C.o (C.t _ gw_l133) dc_X_size_82 ?_
        refine W.lcmp C.x C.b dc_X_size_85 ?_
        refine lv_if_le (tgt := 94) C.x C.b dc_X_size_86 (by decide) (fun q86 => ?_) (fun q86 => ?_)
        · refine lv_lload_n C.x C.b dc_X_size_94 rfl (lv_at hl 1 rfl) ?_
          refine lv_l2i C.x C.b dc_X_size_95 (lI_i _) ?_
          refine W.widen (k := 6) (n := 40) (by decide) (by decide) ?_
          rw [hQ]
          exact vx_ret (rt_i C z h (⟨j_1, ⟨lt_j_1, e_j_1⟩, Or.inr ⟨fun n a b => hno n a (by omega), by rw [← hk2]; exact Or.inr ⟨(cmp_le hs63 (by decide)).mp q86, rfl⟩⟩⟩) dc_X_size_96)
        · refine lv_bipush (v := (-2)) C.x C.b dc_X_size_89 (by decide +kernel) ?_
          refine lv_goto (tgt := 96) C.x C.b dc_X_size_91 (by decide) ?_
          refine W.widen (k := 6) (n := 40) (by decide) (by decide) ?_
          rw [hQ]
          exact vx_ret (rt_i C z h (⟨j_1, ⟨lt_j_1, e_j_1⟩, Or.inr ⟨fun n a b => hno n a (by omega), by rw [← hk2]; exact Or.inl ⟨Nat.lt_of_not_le (fun z9 => q86 ((cmp_le (b := 1000000000) hs63 (by decide)).mpr z9)), rfl⟩⟩⟩) dc_X_size_96)
      · have hc63 : cnt (tb j_1 0 1) (tb j_1 1) k 0 < 2 ^ 63 := Nat.lt_of_le_of_lt (Nat.le_trans (cnt_le _ _ k 0) (p3_20 k (by omega))) (by decide)
        refine lv_iload C.x C.b dc_X_size_30 (lv_at hl 0 rfl) ?_
        refine lv_aload_n C.x C.b dc_X_size_32 rfl (lv_at hl 2 rfl) ?_
        refine rg_getN C h (17 + j_1) (lk_T (hj80)) rfl in_T 0 (by decide) fl_X_106 rfl dc_X_size_33 ?_
        refine bc_lt (tgt := 55) C (by omega) (by omega) dc_X_size_36 (by decide) (fun q36 => ?_) (fun q36 => ?_)
        · refine lv_lload_n C.x C.b dc_X_size_55 rfl (lv_at hl 1 rfl) ?_
          refine lv_aload_n C.x C.b dc_X_size_56 rfl (lv_at hl 3 rfl) ?_
          refine rg_get C h 0 rfl rfl in_X 2 (by decide) fl_X_25 rfl dc_X_size_57 ?_
          refine rg_getN C h 3 rfl rfl in_Y 0 (by decide) fl_X_114 rfl dc_X_size_60 ?_
          refine lv_iconst (v := (nI 0)) C.x C.b dc_X_size_63 (by decide +kernel) ?_
          refine rg_lld C h 15 rfl (by omega) (by decide) dc_X_size_64 ?_
          refine lv_ladd C.x C.b dc_X_size_65 ?_
          refine tp_l (y := lI (scn (tb j_1 0 1) (tb j_1 1) 0 (k + 1))) (by rw [hz 0 htk.1, lI_add]; rfl) ?_
          refine lv_lstore_n (lv' := [(3, .long (lI (scn (tb j_1 0 1) (tb j_1 1) 0 (k + 1)))), (5, .int (nI k)), (2, .ref (d (20 + 3 * j_1))), (0, .ref (d 0))]) C.x C.b dc_X_size_66 rfl hl (by decide) rfl (fun ls hl => ?_)
          refine lv_aload_n C.x C.b dc_X_size_67 rfl (lv_at hl 3 rfl) ?_
          refine rg_get C h 0 rfl rfl in_X 2 (by decide) fl_X_25 rfl dc_X_size_68 ?_
          refine lv_aload_n C.x C.b dc_X_size_71 rfl (lv_at hl 2 rfl) ?_
          refine kv_V (As := [.ref (d (20 + 3 * j_1))]) (rest := []) C h hl.1 (c_Y_lengthen l Γ d hm mc so z tb wr j_1 k hj80 htk hz) mw_Y_lengthen lk_X_111 (q0 := 3) rfl rfl rfl (by decide) (by decide) (Nat.le_of_ble_eq_true rfl) dc_X_size_72 (fun v u H locs hp h => ?_)
          obtain ⟨tl_3, rfl⟩ : ∃ zz9, zz9 = u := ⟨_, rfl⟩
          obtain ⟨rfl, htl_3⟩ := hp
          replace h : sT Γ s (xW Γ d hm mc so tl_3 tb wr) H locs := h
          refine W.eq (g2 := F0 m 75 ls []) rfl ?_
          refine lv_iinc (v := nI (k + 1)) (lv' := [(5, .int (nI (k + 1))), (3, .long (lI (scn (tb j_1 0 1) (tb j_1 1) 0 (k + 1)))), (2, .ref (d (20 + 3 * j_1))), (0, .ref (d 0))]) C.x C.b dc_X_size_75 hl (k := 1) rfl (nI_1 k) (by decide) rfl (fun ls hl => ?_)
          refine lv_goto (tgt := 19) C.x C.b dc_X_size_78 (by decide) ?_
          have hno : ∀ n, tb j_1 0 0 ≤ n → n < k + 1 → cnt (tb j_1 0 1) (tb j_1 1) n 0 = 0 := fun n a b => by
            by_cases e9 : n = k
            · subst e9
              first
              | exact absurd a (by omega)
              | exact Nat.le_zero.mp ((cmp_le hc63 (by decide)).mp (by rw [hz 0 htk.1] at q50; exact q50))
            · exact hno n a (by omega)
          exact ih_19 (k + 1) tl_3 _ _ _ (by omega) (by first | assumption | omega) (by assumption) (by assumption) h (lv_sub hl [0, 1, 2, 3] rfl)
        · refine lv_aload_n C.x C.b dc_X_size_39 rfl (lv_at hl 3 rfl) ?_
          refine rg_get C h 0 rfl rfl in_X 2 (by decide) fl_X_25 rfl dc_X_size_40 ?_
          refine rg_getN C h 3 rfl rfl in_Y 0 (by decide) fl_X_114 rfl dc_X_size_43 ?_
          refine lv_iconst (v := (nI 0)) C.x C.b dc_X_size_46 (by decide +kernel) ?_
          refine rg_lld C h 15 rfl (by omega) (by decide) dc_X_size_47 ?_
          refine lv_lconst (v := 0) C.x C.b dc_X_size_48 (by decide +kernel) ?_
          refine W.lcmp C.x C.b dc_X_size_49 ?_
          refine lv_if_le (tgt := 55) C.x C.b dc_X_size_50 (by decide) (fun q50 => ?_) (fun q50 => ?_)
          · refine lv_lload_n C.x C.b dc_X_size_55 rfl (lv_at hl 1 rfl) ?_
            refine lv_aload_n C.x C.b dc_X_size_56 rfl (lv_at hl 3 rfl) ?_
            refine rg_get C h 0 rfl rfl in_X 2 (by decide) fl_X_25 rfl dc_X_size_57 ?_
            refine rg_getN C h 3 rfl rfl in_Y 0 (by decide) fl_X_114 rfl dc_X_size_60 ?_
            refine lv_iconst (v := (nI 0)) C.x C.b dc_X_size_63 (by decide +kernel) ?_
            refine rg_lld C h 15 rfl (by omega) (by decide) dc_X_size_64 ?_
            refine lv_ladd C.x C.b dc_X_size_65 ?_
            refine tp_l (y := lI (scn (tb j_1 0 1) (tb j_1 1) 0 (k + 1))) (by rw [hz 0 htk.1, lI_add]; rfl) ?_
            refine lv_lstore_n (lv' := [(3, .long (lI (scn (tb j_1 0 1) (tb j_1 1) 0 (k + 1)))), (5, .int (nI k)), (2, .ref (d (20 + 3 * j_1))), (0, .ref (d 0))]) C.x C.b dc_X_size_66 rfl hl (by decide) rfl (fun ls hl => ?_)
            refine lv_aload_n C.x C.b dc_X_size_67 rfl (lv_at hl 3 rfl) ?_
            refine rg_get C h 0 rfl rfl in_X 2 (by decide) fl_X_25 rfl dc_X_size_68 ?_
            refine lv_aload_n C.x C.b dc_X_size_71 rfl (lv_at hl 2 rfl) ?_
            refine kv_V (As := [.ref (d (20 + 3 * j_1))]) (rest := []) C h hl.1 (c_Y_lengthen l Γ d hm mc so z tb wr j_1 k hj80 htk hz) mw_Y_lengthen lk_X_111 (q0 := 3) rfl rfl rfl (by decide) (by decide) (Nat.le_of_ble_eq_true rfl) dc_X_size_72 (fun v u H locs hp h => ?_)
            obtain ⟨tl_4, rfl⟩ : ∃ zz9, zz9 = u := ⟨_, rfl⟩
            obtain ⟨rfl, htl_4⟩ := hp
            replace h : sT Γ s (xW Γ d hm mc so tl_4 tb wr) H locs := h
            refine W.eq (g2 := F0 m 75 ls []) rfl ?_
            refine lv_iinc (v := nI (k + 1)) (lv' := [(5, .int (nI (k + 1))), (3, .long (lI (scn (tb j_1 0 1) (tb j_1 1) 0 (k + 1)))), (2, .ref (d (20 + 3 * j_1))), (0, .ref (d 0))]) C.x C.b dc_X_size_75 hl (k := 1) rfl (nI_1 k) (by decide) rfl (fun ls hl => ?_)
            refine lv_goto (tgt := 19) C.x C.b dc_X_size_78 (by decide) ?_
            have hno : ∀ n, tb j_1 0 0 ≤ n → n < k + 1 → cnt (tb j_1 0 1) (tb j_1 1) n 0 = 0 := fun n a b => by
              by_cases e9 : n = k
              · subst e9
                first
                | exact absurd a (by omega)
                | exact Nat.le_zero.mp ((cmp_le hc63 (by decide)).mp (by rw [hz 0 htk.1] at q50; exact q50))
              · exact hno n a (by omega)
            exact ih_19 (k + 1) tl_4 _ _ _ (by omega) (by first | assumption | omega) (by assumption) (by assumption) h (lv_sub hl [0, 1, 2, 3] rfl)
          · refine lv_iconst (v := (mI 0)) C.x C.b dc_X_size_53 (by decide +kernel) ?_
            refine W.widen (k := 6) (n := 40) (by decide) (by decide) ?_
            rw [hQ]
            exact vx_ret (rt_i C z h (⟨j_1, ⟨lt_j_1, e_j_1⟩, Or.inl ⟨⟨k, by omega, by omega, by
              apply Nat.pos_of_ne_zero
              intro e9
              rw [hz 0 htk.1] at q50
              exact q50 ((cmp_le (b := 0) hc63 (by decide)).mpr (by omega))⟩, rfl⟩⟩) dc_X_size_54)
  exact lp_19 _ 0 tl_2 _ _ _ (Nat.lt_succ_self _) (by first | assumption | omega) (by assumption) (by assumption) h (lv_sub hl [0, 1, 2, 3] rfl)
end
