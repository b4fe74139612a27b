/-! the class's object while it is made -/
def kT (d : Nat → Nat) (k : Nat) : va_W := (List.range k).map (fun i => (d (20 + 3 * i), .inr (2, [.int 0, .int 0, .int 0, .ref (d (21 + 3 * i)), .ref (d (22 + 3 * i))])))
def kN (Γ : gG) (d : Nat → Nat) (k : Nat) : va_W := (List.range k).map (fun i => (d (21 + 3 * i), .inl (Γ.2.1 0, 30, .inl (nF (fun _ => 0)))))
def kF (Γ : gG) (d : Nat → Nat) (k : Nat) : va_W := (List.range k).map (fun i => (d (22 + 3 * i), .inl (Γ.2.1 0, 10, .inl (nF (fun _ => 0)))))
abbrev iP (Γ : gG) (d : Nat → Nat) (f : Nat → Option Nat) : va_W :=
  [(d 0, .inr (0, [.ref (d 1), .ref (d 2), .ref (d 3), .int 0])),
  (d 1, .inl (Γ.2.1 3, 80, .inr (.inr (.inr (.inr f))))),
  (d 2, .inr (1, [.ref (d 4), .ref (d 5), .ref (d 6), .ref (d 7), .int 0, .ref (d 8), .ref (d 9), .ref (d 10), .ref (d 11), .int 0, .ref (d 12), .int 0, .ref (d 13), .ref (d 14)])),
  (d 3, .inr (3, [.ref (d 15), .ref (d 16)])),
  (d 4, .inr (4, [.int (nI 0), .int (nI 0)])),
  (d 5, .inl (Γ.2.1 0, 10240, .inl (nF (fun _ => 0)))),
  (d 6, .inl (Γ.2.1 0, 10240, .inl (nF (fun _ => 0)))),
  (d 7, .inl (Γ.2.1 0, 30720, .inl (nF (fun _ => 0)))),
  (d 8, .inl (Γ.2.1 0, 10240, .inl (nF (fun _ => 0)))),
  (d 9, .inl (Γ.2.1 0, 10240, .inl (nF (fun _ => 0)))),
  (d 10, .inl (Γ.2.1 0, 10, .inl (nF (fun _ => 0)))),
  (d 11, .inl (Γ.2.1 0, 10, .inl (nF (fun _ => 0)))),
  (d 12, .inl (Γ.2.1 0, 10, .inl (nF (fun _ => 0)))),
  (d 13, .inl (Γ.2.1 0, 10, .inl (nF (fun _ => 0)))),
  (d 14, .inl (Γ.2.1 0, 10, .inl (nF (fun _ => 0)))),
  (d 15, .inl (Γ.2.1 1, 10, .inr (.inl (fun _ => 0)))),
  (d 16, .inl (Γ.2.1 1, 10, .inr (.inl (fun _ => 0))))]
abbrev iFn (d : Nat → Nat) (k : Nat) : Nat → Option Nat := fun i => if i < k then some (d (20 + 3 * i)) else none
abbrev iW (Γ : gG) (d : Nat → Nat) (k : Nat) (wr : va_W) : va_W := iP Γ d (iFn d k) ++ (kT d k ++ (kN Γ d k ++ (kF Γ d k ++ wr)))
theorem perm_idx {α : Type} {l l' : List α} (is : List Nat) (n : Nat) (hn : l.length = n) (h : is.Perm (List.range n)) (hs : is.map (fun i => l[i]?) = l'.map some) : l'.Perm l := by
  subst hn
  have a : (l'.map some).filterMap id = l' := by simp [List.filterMap_map]
  have b : ((List.range l.length).map (fun i => l[i]?)).filterMap id = l := by
    have e : (List.range l.length).map (fun i => l[i]?) = l.map some := by
      apply List.ext_getElem?
      intro i
      by_cases hi : i < l.length
      · simp [hi]
      · simp [hi, Nat.le_of_not_lt hi]
    rw [e]; simp [List.filterMap_map]
  have k := (h.map (fun i => l[i]?)).filterMap id
  rw [hs, a, b] at k
  exact k
theorem perm_3 {α : Type} (P A B C w : List α) (x y z : α) : (P ++ ((A ++ [x]) ++ ((B ++ [y]) ++ ((C ++ [z]) ++ w)))).Perm (x :: y :: z :: (P ++ (A ++ (B ++ (C ++ w))))) := by
  have e : P ++ ((A ++ [x]) ++ ((B ++ [y]) ++ ((C ++ [z]) ++ w))) = (P ++ A) ++ x :: (B ++ (y :: (C ++ (z :: w)))) := by simp
  rw [e]
  refine List.perm_middle.trans (List.Perm.cons _ ?_)
  have e : (P ++ A) ++ (B ++ (y :: (C ++ (z :: w)))) = ((P ++ A) ++ B) ++ y :: (C ++ (z :: w)) := by simp
  rw [e]
  refine List.perm_middle.trans (List.Perm.cons _ ?_)
  have e : ((P ++ A) ++ B) ++ (C ++ (z :: w)) = (((P ++ A) ++ B) ++ C) ++ z :: w := by simp
  rw [e]
  refine List.perm_middle.trans (List.Perm.cons _ ?_)
  simp
theorem range_map_s {α : Type} (F G : Nat → α) (k : Nat) (x : α) (h : ∀ i, i < k → F i = G i) (hx : F k = x) : (List.range (k + 1)).map F = (List.range k).map G ++ [x] := by
  rw [List.range_succ, List.map_append, List.map_cons, List.map_nil, hx, List.map_congr_left (fun i hi => h i (List.mem_range.mp hi))]
section IW
variable {s : State} {H : Heap} {locs : List Loc} {Γ : gG} {wr : va_W}
theorem sT.same {ws ws2 : va_W} (h : sT Γ s ws H locs) (e : ws2 = ws) : sT Γ s ws2 H locs := e ▸ h
theorem iW_step {d d2 : Nat → Nat} {k q n f : Nat} (hd : d2 = us (us (us d (20 + 3 * k) q) (21 + 3 * k) n) (22 + 3 * k) f)
    (h : sT Γ s (((q, .inr (2, [.int 0, .int 0, .int 0, .ref n, .ref f])) :: (n, .inl (Γ.2.1 0, 30, .inl (nF (fun _ => 0)))) :: (f, .inl (Γ.2.1 0, 10, .inl (nF (fun _ => 0)))) :: iW Γ d k wr).set 4 (d 1, .inl (Γ.2.1 3, 80, .inr (.inr (.inr (.inr (va_up (iFn d k) k (some q)))))))) H locs) : sT Γ s (iW Γ d2 (k + 1) wr) H locs := by
  have lo : ∀ j, j < 20 + 3 * k → d2 j = d j := fun j hj => by rw [hd, us_n _ _ (by omega), us_n _ _ (by omega), us_n _ _ (by omega)]
  have e0 : d2 (20 + 3 * k) = q := by rw [hd, us_n _ _ (by omega), us_n _ _ (by omega), us_s]
  have e1 : d2 (21 + 3 * k) = n := by rw [hd, us_n _ _ (by omega), us_s]
  have e2 : d2 (22 + 3 * k) = f := by rw [hd, us_s]
  have eF : iFn d2 (k + 1) = va_up (iFn d k) k (some q) := by
    funext i
    by_cases hi : i = k
    · subst hi; rw [va_up_self]; show (if _ then _ else _) = _; rw [if_pos (by omega), e0]
    · rw [va_up_ne _ _ hi]
      show (if _ then _ else _) = if _ then _ else _
      by_cases h2 : i < k
      · rw [if_pos (by omega), if_pos h2, lo _ (by omega)]
      · rw [if_neg (by omega), if_neg h2]
  have k1 : kT d2 (k + 1) = kT d k ++ [(q, .inr (2, [.int 0, .int 0, .int 0, .ref n, .ref f]))] := range_map_s _ _ _ _ (fun i hi => by rw [lo _ (by omega), lo _ (by omega), lo _ (by omega)]) (by rw [e0, e1, e2])
  have k2 : kN Γ d2 (k + 1) = kN Γ d k ++ [(n, .inl (Γ.2.1 0, 30, .inl (nF (fun _ => 0))))] := range_map_s _ _ _ _ (fun i hi => by rw [lo _ (by omega)]) (by rw [e1])
  have k3 : kF Γ d2 (k + 1) = kF Γ d k ++ [(f, .inl (Γ.2.1 0, 10, .inl (nF (fun _ => 0))))] := range_map_s _ _ _ _ (fun i hi => by rw [lo _ (by omega)]) (by rw [e2])
  have hp : iP Γ d2 (iFn d2 (k + 1)) = iP Γ d (va_up (iFn d k) k (some q)) := by
    rw [eF]
    simp only [iP, lo _ (show 0 < 20 + 3 * k by omega), lo _ (show 1 < 20 + 3 * k by omega), lo _ (show 2 < 20 + 3 * k by omega), lo _ (show 3 < 20 + 3 * k by omega), lo _ (show 4 < 20 + 3 * k by omega), lo _ (show 5 < 20 + 3 * k by omega), lo _ (show 6 < 20 + 3 * k by omega), lo _ (show 7 < 20 + 3 * k by omega), lo _ (show 8 < 20 + 3 * k by omega), lo _ (show 9 < 20 + 3 * k by omega), lo _ (show 10 < 20 + 3 * k by omega), lo _ (show 11 < 20 + 3 * k by omega), lo _ (show 12 < 20 + 3 * k by omega), lo _ (show 13 < 20 + 3 * k by omega), lo _ (show 14 < 20 + 3 * k by omega), lo _ (show 15 < 20 + 3 * k by omega), lo _ (show 16 < 20 + 3 * k by omega)]
  refine h.perm ?_
  show (iP Γ d2 (iFn d2 (k + 1)) ++ (kT d2 (k + 1) ++ (kN Γ d2 (k + 1) ++ (kF Γ d2 (k + 1) ++ wr)))).Perm _
  rw [hp, k1, k2, k3]
  exact perm_3 (iP Γ d (va_up (iFn d k) k (some q))) (kT d k) (kN Γ d k) (kF Γ d k) wr _ _ _
/-- an array's elements behind its end don't count -/
theorem sT.arrq {x : Nat × va_E} {a n : Nat} {cA : ClassId} {f g : Nat → Option Nat} (hfg : ∀ i, i < n → f i = g i) (h : sT Γ s (x :: (a, .inl (cA, n, .inr (.inr (.inr (.inr f))))) :: wr) H locs) : sT Γ s (x :: (a, .inl (cA, n, .inr (.inr (.inr (.inr g))))) :: wr) H locs := by
  refine ⟨vp_iff.mpr (fun q hq => ?_), vd_iff.mpr ⟨(vd_iff.mp h.2.1).1, fun q hq => ?_⟩, h.2.2⟩
  · rcases List.mem_cons.mp hq with rfl | hq
    · exact vp_iff.mp h.1 _ List.mem_cons_self
    · rcases List.mem_cons.mp hq with rfl | hq
      · have := vp_iff.mp h.1 (a, .inl (cA, n, .inr (.inr (.inr (.inr f))))) (List.mem_cons_of_mem _ List.mem_cons_self)
        have e : vp_cell cA (n, .inr (.inr (.inr (.inr f)))) = vp_cell cA (n, .inr (.inr (.inr (.inr g)))) := by
          rw [vp_cell_q, vp_cell_q]
          unfold arrV
          congr 1
          apply Array.ext
          · simp
          · intro i h1 h2
            rw [Array.getElem_ofFn, Array.getElem_ofFn]
            show va_rf (f i) = va_rf (g i)
            rw [hfg i (by simpa using h1)]
        show H[a]? = some (vp_cell cA _)
        rw [← e]
        exact this
      · exact vp_iff.mp h.1 _ (List.mem_cons_of_mem _ (List.mem_cons_of_mem _ hq))
  · rcases List.mem_cons.mp hq with rfl | hq
    · exact (vd_iff.mp h.2.1).2 _ List.mem_cons_self
    · rcases List.mem_cons.mp hq with rfl | hq
      · exact (vd_iff.mp h.2.1).2 (a, .inl (cA, n, .inr (.inr (.inr (.inr f))))) (List.mem_cons_of_mem _ List.mem_cons_self)
      · exact (vd_iff.mp h.2.1).2 _ (List.mem_cons_of_mem _ (List.mem_cons_of_mem _ hq))
def tb0 : Nat → Nat → Nat → Nat := fun _ c _ => if c = 2 then 1 else 0
def so0 : Nat → Nat → Nat := fun _ _ => 0
def tl0 : Nat → Nat → Int64 := fun _ _ => 0
abbrev mc0 : va_E := .inr (4, [.int (nI 0), .int (nI 0)])
theorem mF_1 : mF (fun _ => 1) = nF (fun _ => 0) := by funext j; show mI 1 = nI 0; decide +kernel
theorem iW_done {d : Nat → Nat} (h : sT Γ s (iW Γ d 80 wr) H locs) : sT Γ s (xW Γ d (d 4) mc0 so0 tl0 tb0 wr) H locs := by
  have h1 := sT.arrq (g := fun i => some (d (20 + 3 * i))) (fun i hi => if_pos hi) h
  refine h1.same ?_
  have e1 : tT d tb0 = kT d 80 := rfl
  have e2 : tN Γ d tb0 = kN Γ d 80 := rfl
  have e3 : tF Γ d tb0 = kF Γ d 80 := by
    unfold tF kF
    have : ∀ i, mF (tb0 i 2) = nF (fun _ => 0) := fun i => mF_1
    simp only [this]
  show (_ :: _ :: _ :: _ :: _ :: _ :: _ :: _ :: _ :: _ :: _ :: _ :: _ :: _ :: _ :: _ :: _ :: (tT d tb0 ++ (tN Γ d tb0 ++ (tF Γ d tb0 ++ wr)))) = _
  rw [e1, e2, e3]
  rfl
theorem CS0 : CS so0 tb0 := ⟨⟨by decide, fun i hi => absurd hi (Nat.not_lt_zero i), fun q _ h => absurd rfl h⟩, by decide, fun i hi => absurd hi (Nat.not_lt_zero i)⟩
end IW
def pRo (Γ : gG) (ws : va_W) (U : State) : Prop := pR Γ ws U ∧ va_AO "RestSets$Table" U
def cTo (l : Launch) (Γ : gG) (y : MethodName) (b : ByteArray) (nL : Nat) (ret : Option FieldType) (rm : Room) (As : List Value) (ws : va_W) {S : Type} (post : Option Value → S → Prop) (ws' : S → va_W) : Prop :=
  Met l y (.code y b nL ret :: gw) rm (va_Pc As (pRo Γ ws)) (qQ Γ post ws') rm.cells rm.slots (aA Γ)
theorem cTo.start {l : Launch} {Γ : gG} {cc : ByteArray} {nL : Nat} {ret : Option FieldType} {ws : va_W} {y : MethodName} {rm : Room} {As : List Value} {S : Type} {post : Option Value → S → Prop} {ws' : S → va_W} (hy : plainName y.cls = true) (hn : (lg_sl As).length ≤ nL)
    (body : ∀ (p : Program) (e : Env) (s : State) (m : MethodId) (args : Array Value) (below : List Frame) (meth : Method) (c : Code) (ls : Array Slot) (Q : State → Prop), Q = MQ below (qQ Γ post ws') args s rm.cells rm.slots (aA Γ) → cX Γ p s m args meth c cc ret y.cls nL → meth.name = y.name → va_AO "RestSets$Table" s → sT Γ s ws s.heap [] → lv_has ls nL (lv_args 0 As) →
      W p l e rm s m args below meth c s.heap [] 0 0 Q (F0 m 0 ls [])) : cTo l Γ y cc nL ret rm As ws post ws' := by
  refine Met.ofW (cc := cc) (maxL := nL) (ret := ret) hy rfl ?_
  intro p e s m args below meth c s₁ B hml hv
  obtain ⟨rfl, ⟨hP, hD, hK, hN, hz⟩, hO⟩ := hv
  have hts := atoms_spec (ws := Cond.code y cc nL ret :: gw) B.pre
  have hl := lv_entry As (n := nL) hn
  rw [lg_entry_eq]
  exact body p e s m _ below meth c _ _ rfl ⟨B.exec, B.bytes, B.returns, hml, findClass_of_methodNamed B.named, fun w h => hts w (List.mem_cons_of_mem _ h), B.notSynchronized, hK, hN, hz⟩ (name_of_methodNamed B.named B.method).1 hO ⟨hP, hD, va_S.rf⟩ hl
theorem pRo.blind {Γ : gG} {ws : va_W} {As : List Value} : FrameBlind (va_Pc As (pRo Γ ws)) := by
  intro a U g mk q
  obtain ⟨q0, ⟨q1, q2, q3, q4, q5⟩, q6⟩ := q
  exact ⟨q0, ⟨q1, q2, va_K.moved (u := U) (U := U.calling g mk a) (Vm.Alike.refl U.vm) q3, nwH.vm (s := U) (U := U.calling g mk a) rfl q4, q5⟩, va_AO.moved (u := U) (U := U.calling g mk a) (Vm.Alike.refl U.vm) q6⟩

abbrev rm_X_init : Room := { frames := 4, cells := 600, slots := 200000, locals := 74 }
set_option maxRecDepth 100000 in
set_option maxHeartbeats 4000000 in
theorem c_X_init (l : Launch) (Γ : gG) (wr : va_W) (a : Nat) : cTo l Γ my_X_init bc_X_init 2 none rm_X_init [.ref a] ((a, .inr (0, [.null, .null, .null, .int 0])) :: wr) (S := Nat → Nat) (fun v d => v = none ∧ d 0 = a) (fun d => xW Γ d (d 4) mc0 so0 tl0 tb0 wr) := by
  refine cTo.start (by decide) (Nat.le_of_ble_eq_true rfl) (fun p e s m args below meth c ls Q hQ C hmn hO h hl => ?_)
  replace hl : lv_has ls 2 [(0, .ref a)] := hl
  refine lv_aload_n C.x C.b dc_X_init_0 rfl (lv_at hl 0 rfl) ?_
  refine W.objInit C.x C.b C.o (C.t _ lk_X_3) (C.t _ gw_oi) (C.t _ gw_oc) rfl (by rw [C.n]; exact hl.1) rfl dc_X_init_1 (by decide) (Nat.le_of_ble_eq_true rfl) ?_
  refine W.eq (g2 := F0 m 4 ls []) rfl ?_
  refine lv_aload_n C.x C.b dc_X_init_4 rfl (lv_at hl 0 rfl) ?_
  refine lv_bipush (v := (nI 80)) C.x C.b dc_X_init_5 (by decide +kernel) ?_
  refine rg_naT (N := 80) C hO h (by decide) nk_X_9 (by decide) (by decide) dc_X_init_7 (fun qt_1 H h => ?_)
  replace h := h.ins
  replace h : sT Γ s ((a, .inr (0, [.null, .null, .null, .int 0])) :: (qt_1, .inl (Γ.2.1 3, 80, .inr (.inr (.inr (.inr (fun _ => none)))))) :: wr) _ _ := h
  refine rg_putF (ty := .array (.object "RestSets$Table")) C hmn h 0 rfl rfl in_X tk_X nm_X 0 (by decide) fl_X_11 rfl rfl (by decide +kernel) rfl rfl (by simp) dc_X_init_10 (fun H locs h => ?_)
  replace h : sT Γ s ((a, .inr (0, [.ref qt_1, .null, .null, .int 0])) :: (qt_1, .inl (Γ.2.1 3, 80, .inr (.inr (.inr (.inr (fun _ => none)))))) :: wr) _ _ := h
  refine lv_aload_n C.x C.b dc_X_init_13 rfl (lv_at hl 0 rfl) ?_
  refine rg_new (ci := 1) (ty := ft_S) (fs := [.null, .null, .null, .null, .int 0, .null, .null, .null, .null, .int 0, .null, .int 0, .null, .null]) C h rfl in_S tk_S nk_X_15 ns_S ni_S (by decide +kernel) (by decide) (by decide) dc_X_init_14 (fun qn_2 H h => ?_)
  replace h : sT Γ s ((qn_2, .inr (1, [.null, .null, .null, .null, .int 0, .null, .null, .null, .null, .int 0, .null, .int 0, .null, .null])) :: (a, .inr (0, [.ref qt_1, .null, .null, .int 0])) :: (qt_1, .inl (Γ.2.1 3, 80, .inr (.inr (.inr (.inr (fun _ => none)))))) :: wr) _ _ := h
  refine lv_dup C.x C.b dc_X_init_17 rfl ?_
  refine kv_IN (As := []) (rest := [.ref qn_2, .ref a]) C h hl.1 (c_S_init l Γ ((a, .inr (0, [.ref qt_1, .null, .null, .int 0])) :: (qt_1, .inl (Γ.2.1 3, 80, .inr (.inr (.inr (.inr (fun _ => none)))))) :: wr) qn_2) mw_S_init lk_X_17 rfl (by decide) (by decide) (Nat.le_of_ble_eq_true rfl) dc_X_init_18 (fun v u H locs hp h => ?_)
  obtain rfl := hp
  obtain ⟨ea_3, rfl⟩ : ∃ zz9, zz9 = u := ⟨_, rfl⟩
  replace h : sT Γ s ((qn_2, .inr (1, [.ref (ea_3 0), .ref (ea_3 1), .ref (ea_3 2), .ref (ea_3 3), .int 0, .ref (ea_3 4), .ref (ea_3 5), .ref (ea_3 6), .ref (ea_3 7), .int 0, .ref (ea_3 8), .int 0, .ref (ea_3 9), .ref (ea_3 10)])) :: ((ea_3 0), .inr (4, [.int (nI 0), .int (nI 0)])) :: ((ea_3 1), .inl (Γ.2.1 0, 10240, .inl (nF (fun _ => 0)))) :: ((ea_3 2), .inl (Γ.2.1 0, 10240, .inl (nF (fun _ => 0)))) :: ((ea_3 3), .inl (Γ.2.1 0, 30720, .inl (nF (fun _ => 0)))) :: ((ea_3 4), .inl (Γ.2.1 0, 10240, .inl (nF (fun _ => 0)))) :: ((ea_3 5), .inl (Γ.2.1 0, 10240, .inl (nF (fun _ => 0)))) :: ((ea_3 6), .inl (Γ.2.1 0, 10, .inl (nF (fun _ => 0)))) :: ((ea_3 7), .inl (Γ.2.1 0, 10, .inl (nF (fun _ => 0)))) :: ((ea_3 8), .inl (Γ.2.1 0, 10, .inl (nF (fun _ => 0)))) :: ((ea_3 9), .inl (Γ.2.1 0, 10, .inl (nF (fun _ => 0)))) :: ((ea_3 10), .inl (Γ.2.1 0, 10, .inl (nF (fun _ => 0)))) :: (a, .inr (0, [.ref qt_1, .null, .null, .int 0])) :: (qt_1, .inl (Γ.2.1 3, 80, .inr (.inr (.inr (.inr (fun _ => none)))))) :: wr) _ _ := h
  refine W.eq (g2 := F0 m 21 ls [.ref qn_2, .ref a]) rfl ?_
  refine rg_putF (ty := .object "RestSets$Sorter") C hmn h 12 rfl rfl in_X tk_X nm_X 1 (by decide) fl_X_18 rfl rfl (by decide +kernel) rfl rfl (by simp) dc_X_init_21 (fun H locs h => ?_)
  replace h : sT Γ s ((qn_2, .inr (1, [.ref (ea_3 0), .ref (ea_3 1), .ref (ea_3 2), .ref (ea_3 3), .int 0, .ref (ea_3 4), .ref (ea_3 5), .ref (ea_3 6), .ref (ea_3 7), .int 0, .ref (ea_3 8), .int 0, .ref (ea_3 9), .ref (ea_3 10)])) :: ((ea_3 0), .inr (4, [.int (nI 0), .int (nI 0)])) :: ((ea_3 1), .inl (Γ.2.1 0, 10240, .inl (nF (fun _ => 0)))) :: ((ea_3 2), .inl (Γ.2.1 0, 10240, .inl (nF (fun _ => 0)))) :: ((ea_3 3), .inl (Γ.2.1 0, 30720, .inl (nF (fun _ => 0)))) :: ((ea_3 4), .inl (Γ.2.1 0, 10240, .inl (nF (fun _ => 0)))) :: ((ea_3 5), .inl (Γ.2.1 0, 10240, .inl (nF (fun _ => 0)))) :: ((ea_3 6), .inl (Γ.2.1 0, 10, .inl (nF (fun _ => 0)))) :: ((ea_3 7), .inl (Γ.2.1 0, 10, .inl (nF (fun _ => 0)))) :: ((ea_3 8), .inl (Γ.2.1 0, 10, .inl (nF (fun _ => 0)))) :: ((ea_3 9), .inl (Γ.2.1 0, 10, .inl (nF (fun _ => 0)))) :: ((ea_3 10), .inl (Γ.2.1 0, 10, .inl (nF (fun _ => 0)))) :: (a, .inr (0, [.ref qt_1, .ref qn_2, .null, .int 0])) :: (qt_1, .inl (Γ.2.1 3, 80, .inr (.inr (.inr (.inr (fun _ => none)))))) :: wr) _ _ := h
  refine lv_aload_n C.x C.b dc_X_init_24 rfl (lv_at hl 0 rfl) ?_
  refine rg_new (ci := 3) (ty := ft_Y) (fs := [.null, .null]) C h rfl in_Y tk_Y nk_X_22 ns_Y ni_Y (by decide +kernel) (by decide) (by decide) dc_X_init_25 (fun qn_4 H h => ?_)
  replace h : sT Γ s ((qn_4, .inr (3, [.null, .null])) :: (qn_2, .inr (1, [.ref (ea_3 0), .ref (ea_3 1), .ref (ea_3 2), .ref (ea_3 3), .int 0, .ref (ea_3 4), .ref (ea_3 5), .ref (ea_3 6), .ref (ea_3 7), .int 0, .ref (ea_3 8), .int 0, .ref (ea_3 9), .ref (ea_3 10)])) :: ((ea_3 0), .inr (4, [.int (nI 0), .int (nI 0)])) :: ((ea_3 1), .inl (Γ.2.1 0, 10240, .inl (nF (fun _ => 0)))) :: ((ea_3 2), .inl (Γ.2.1 0, 10240, .inl (nF (fun _ => 0)))) :: ((ea_3 3), .inl (Γ.2.1 0, 30720, .inl (nF (fun _ => 0)))) :: ((ea_3 4), .inl (Γ.2.1 0, 10240, .inl (nF (fun _ => 0)))) :: ((ea_3 5), .inl (Γ.2.1 0, 10240, .inl (nF (fun _ => 0)))) :: ((ea_3 6), .inl (Γ.2.1 0, 10, .inl (nF (fun _ => 0)))) :: ((ea_3 7), .inl (Γ.2.1 0, 10, .inl (nF (fun _ => 0)))) :: ((ea_3 8), .inl (Γ.2.1 0, 10, .inl (nF (fun _ => 0)))) :: ((ea_3 9), .inl (Γ.2.1 0, 10, .inl (nF (fun _ => 0)))) :: ((ea_3 10), .inl (Γ.2.1 0, 10, .inl (nF (fun _ => 0)))) :: (a, .inr (0, [.ref qt_1, .ref qn_2, .null, .int 0])) :: (qt_1, .inl (Γ.2.1 3, 80, .inr (.inr (.inr (.inr (fun _ => none)))))) :: wr) _ _ := h
  refine lv_dup C.x C.b dc_X_init_28 rfl ?_
  refine kv_IN (As := []) (rest := [.ref qn_4, .ref a]) C h hl.1 (c_Y_init l Γ ((qn_2, .inr (1, [.ref (ea_3 0), .ref (ea_3 1), .ref (ea_3 2), .ref (ea_3 3), .int 0, .ref (ea_3 4), .ref (ea_3 5), .ref (ea_3 6), .ref (ea_3 7), .int 0, .ref (ea_3 8), .int 0, .ref (ea_3 9), .ref (ea_3 10)])) :: ((ea_3 0), .inr (4, [.int (nI 0), .int (nI 0)])) :: ((ea_3 1), .inl (Γ.2.1 0, 10240, .inl (nF (fun _ => 0)))) :: ((ea_3 2), .inl (Γ.2.1 0, 10240, .inl (nF (fun _ => 0)))) :: ((ea_3 3), .inl (Γ.2.1 0, 30720, .inl (nF (fun _ => 0)))) :: ((ea_3 4), .inl (Γ.2.1 0, 10240, .inl (nF (fun _ => 0)))) :: ((ea_3 5), .inl (Γ.2.1 0, 10240, .inl (nF (fun _ => 0)))) :: ((ea_3 6), .inl (Γ.2.1 0, 10, .inl (nF (fun _ => 0)))) :: ((ea_3 7), .inl (Γ.2.1 0, 10, .inl (nF (fun _ => 0)))) :: ((ea_3 8), .inl (Γ.2.1 0, 10, .inl (nF (fun _ => 0)))) :: ((ea_3 9), .inl (Γ.2.1 0, 10, .inl (nF (fun _ => 0)))) :: ((ea_3 10), .inl (Γ.2.1 0, 10, .inl (nF (fun _ => 0)))) :: (a, .inr (0, [.ref qt_1, .ref qn_2, .null, .int 0])) :: (qt_1, .inl (Γ.2.1 3, 80, .inr (.inr (.inr (.inr (fun _ => none)))))) :: wr) qn_4) mw_Y_init lk_X_24 rfl (by decide) (by decide) (Nat.le_of_ble_eq_true rfl) dc_X_init_29 (fun v u H locs hp h => ?_)
  obtain rfl := hp
  obtain ⟨ea_5, rfl⟩ : ∃ zz9, zz9 = u := ⟨_, rfl⟩
  replace h : sT Γ s ((qn_4, .inr (3, [.ref (ea_5 0), .ref (ea_5 1)])) :: ((ea_5 0), .inl (Γ.2.1 1, 10, .inr (.inl (fun _ => 0)))) :: ((ea_5 1), .inl (Γ.2.1 1, 10, .inr (.inl (fun _ => 0)))) :: (qn_2, .inr (1, [.ref (ea_3 0), .ref (ea_3 1), .ref (ea_3 2), .ref (ea_3 3), .int 0, .ref (ea_3 4), .ref (ea_3 5), .ref (ea_3 6), .ref (ea_3 7), .int 0, .ref (ea_3 8), .int 0, .ref (ea_3 9), .ref (ea_3 10)])) :: ((ea_3 0), .inr (4, [.int (nI 0), .int (nI 0)])) :: ((ea_3 1), .inl (Γ.2.1 0, 10240, .inl (nF (fun _ => 0)))) :: ((ea_3 2), .inl (Γ.2.1 0, 10240, .inl (nF (fun _ => 0)))) :: ((ea_3 3), .inl (Γ.2.1 0, 30720, .inl (nF (fun _ => 0)))) :: ((ea_3 4), .inl (Γ.2.1 0, 10240, .inl (nF (fun _ => 0)))) :: ((ea_3 5), .inl (Γ.2.1 0, 10240, .inl (nF (fun _ => 0)))) :: ((ea_3 6), .inl (Γ.2.1 0, 10, .inl (nF (fun _ => 0)))) :: ((ea_3 7), .inl (Γ.2.1 0, 10, .inl (nF (fun _ => 0)))) :: ((ea_3 8), .inl (Γ.2.1 0, 10, .inl (nF (fun _ => 0)))) :: ((ea_3 9), .inl (Γ.2.1 0, 10, .inl (nF (fun _ => 0)))) :: ((ea_3 10), .inl (Γ.2.1 0, 10, .inl (nF (fun _ => 0)))) :: (a, .inr (0, [.ref qt_1, .ref qn_2, .null, .int 0])) :: (qt_1, .inl (Γ.2.1 3, 80, .inr (.inr (.inr (.inr (fun _ => none)))))) :: wr) _ _ := h
  refine W.eq (g2 := F0 m 32 ls [.ref qn_4, .ref a]) rfl ?_
  refine rg_putF (ty := .object "RestSets$Tally") C hmn h 15 rfl rfl in_X tk_X nm_X 2 (by decide) fl_X_25 rfl rfl (by decide +kernel) rfl rfl (by simp) dc_X_init_32 (fun H locs h => ?_)
  replace h : sT Γ s ((qn_4, .inr (3, [.ref (ea_5 0), .ref (ea_5 1)])) :: ((ea_5 0), .inl (Γ.2.1 1, 10, .inr (.inl (fun _ => 0)))) :: ((ea_5 1), .inl (Γ.2.1 1, 10, .inr (.inl (fun _ => 0)))) :: (qn_2, .inr (1, [.ref (ea_3 0), .ref (ea_3 1), .ref (ea_3 2), .ref (ea_3 3), .int 0, .ref (ea_3 4), .ref (ea_3 5), .ref (ea_3 6), .ref (ea_3 7), .int 0, .ref (ea_3 8), .int 0, .ref (ea_3 9), .ref (ea_3 10)])) :: ((ea_3 0), .inr (4, [.int (nI 0), .int (nI 0)])) :: ((ea_3 1), .inl (Γ.2.1 0, 10240, .inl (nF (fun _ => 0)))) :: ((ea_3 2), .inl (Γ.2.1 0, 10240, .inl (nF (fun _ => 0)))) :: ((ea_3 3), .inl (Γ.2.1 0, 30720, .inl (nF (fun _ => 0)))) :: ((ea_3 4), .inl (Γ.2.1 0, 10240, .inl (nF (fun _ => 0)))) :: ((ea_3 5), .inl (Γ.2.1 0, 10240, .inl (nF (fun _ => 0)))) :: ((ea_3 6), .inl (Γ.2.1 0, 10, .inl (nF (fun _ => 0)))) :: ((ea_3 7), .inl (Γ.2.1 0, 10, .inl (nF (fun _ => 0)))) :: ((ea_3 8), .inl (Γ.2.1 0, 10, .inl (nF (fun _ => 0)))) :: ((ea_3 9), .inl (Γ.2.1 0, 10, .inl (nF (fun _ => 0)))) :: ((ea_3 10), .inl (Γ.2.1 0, 10, .inl (nF (fun _ => 0)))) :: (a, .inr (0, [.ref qt_1, .ref qn_2, .ref qn_4, .int 0])) :: (qt_1, .inl (Γ.2.1 3, 80, .inr (.inr (.inr (.inr (fun _ => none)))))) :: wr) _ _ := h
  refine lv_iconst (v := (nI 0)) C.x C.b dc_X_init_35 (by decide +kernel) ?_
  refine lv_istore_n (lv' := [(1, .int (nI 0)), (0, .ref a)]) C.x C.b dc_X_init_36 rfl hl (by decide) rfl (fun ls hl => ?_)
  obtain ⟨d0, ed0⟩ : ∃ zz9 : Nat → Nat, zz9 = fun i => ([a, qt_1, qn_2, qn_4, ea_3 0, ea_3 1, ea_3 2, ea_3 3, ea_3 4, ea_3 5, ea_3 6, ea_3 7, ea_3 8, ea_3 9, ea_3 10, ea_5 0, ea_5 1][i]?).getD 0 := ⟨_, rfl⟩
  have h9 : sT Γ s (iW Γ d0 0 wr) H locs := by
    rw [ed0]
    refine h.perm (List.Perm.append_right (t₁ := wr) (l₁ := iP Γ _ _) (l₂ := [(qn_4, .inr (3, [.ref (ea_5 0), .ref (ea_5 1)])), ((ea_5 0), .inl (Γ.2.1 1, 10, .inr (.inl (fun _ => 0)))), ((ea_5 1), .inl (Γ.2.1 1, 10, .inr (.inl (fun _ => 0)))), (qn_2, .inr (1, [.ref (ea_3 0), .ref (ea_3 1), .ref (ea_3 2), .ref (ea_3 3), .int 0, .ref (ea_3 4), .ref (ea_3 5), .ref (ea_3 6), .ref (ea_3 7), .int 0, .ref (ea_3 8), .int 0, .ref (ea_3 9), .ref (ea_3 10)])), ((ea_3 0), .inr (4, [.int (nI 0), .int (nI 0)])), ((ea_3 1), .inl (Γ.2.1 0, 10240, .inl (nF (fun _ => 0)))), ((ea_3 2), .inl (Γ.2.1 0, 10240, .inl (nF (fun _ => 0)))), ((ea_3 3), .inl (Γ.2.1 0, 30720, .inl (nF (fun _ => 0)))), ((ea_3 4), .inl (Γ.2.1 0, 10240, .inl (nF (fun _ => 0)))), ((ea_3 5), .inl (Γ.2.1 0, 10240, .inl (nF (fun _ => 0)))), ((ea_3 6), .inl (Γ.2.1 0, 10, .inl (nF (fun _ => 0)))), ((ea_3 7), .inl (Γ.2.1 0, 10, .inl (nF (fun _ => 0)))), ((ea_3 8), .inl (Γ.2.1 0, 10, .inl (nF (fun _ => 0)))), ((ea_3 9), .inl (Γ.2.1 0, 10, .inl (nF (fun _ => 0)))), ((ea_3 10), .inl (Γ.2.1 0, 10, .inl (nF (fun _ => 0)))), (a, .inr (0, [.ref qt_1, .ref qn_2, .ref qn_4, .int 0])), (qt_1, .inl (Γ.2.1 3, 80, .inr (.inr (.inr (.inr (fun _ => none))))))]) ?_)
    exact perm_idx [15, 16, 3, 0, 4, 5, 6, 7, 8, 9, 10, 11, 12, 13, 14, 1, 2] 17 rfl (by decide) rfl
  replace h := h9
  have hd0 : d0 0 = a := by rw [ed0]; rfl
  rw [← hd0] at hl
  refine W.widen (k := 300) (n := 100000) (by decide) (by decide) ?_
  have lp_37 : ∀ (n_37 : Nat) (k : Nat) (d : Nat → Nat) (H : Heap) (locs : List Loc) (ls : Array Slot), 80 - k < n_37 → (k ≤ 80) → (d 0 = a) → sT Γ s (iW Γ d k wr) H locs → lv_has ls 2 [(1, .int (nI k)), (0, .ref (d 0))] → W p l e rm_X_init s m args below meth c H locs (300 + 3 * k) (100000 + 45 * k) Q (F0 m 37 ls []) := by
    intro n_37
    induction n_37 with
    | zero => intro k d H locs ls hms; exact absurd hms (Nat.not_lt_zero _)
    | succ n_37 ih_37 =>
      intro k d H locs ls hms hk hda h hl
      refine lv_iload_n C.x C.b dc_X_init_37 rfl (lv_at hl 0 rfl) ?_
      refine lv_bipush (v := (nI 80)) C.x C.b dc_X_init_38 (by decide +kernel) ?_
      refine bc_ge (tgt := 62) C (by omega) (by omega) dc_X_init_40 (by decide) (fun q40 => ?_) (fun q40 => ?_)
      · have hk80 : k = 80 := by omega
        rw [hk80] at h
        replace h := iW_done h
        refine W.widen (k := 600) (n := 200000) (by omega) (by omega) ?_
        rw [hQ]
        exact rt_v C d h (⟨rfl, hda⟩) dc_X_init_62
      · refine lv_aload_n C.x C.b dc_X_init_43 rfl (lv_at hl 1 rfl) ?_
        refine rg_get C h 0 rfl rfl in_X 0 (by decide) fl_X_11 rfl dc_X_init_44 ?_
        refine lv_iload_n C.x C.b dc_X_init_47 rfl (lv_at hl 0 rfl) ?_
        refine rg_new (ci := 2) (ty := ft_T) (fs := [.int 0, .int 0, .int 0, .null, .null]) C h rfl in_T tk_T nk_X_9 ns_T ni_T (by decide +kernel) (by show _ ≤ 600; omega) (by show _ ≤ 200000; omega) dc_X_init_48 (fun qn_6 H h => ?_)
        replace h : sT Γ s ((qn_6, .inr (2, [.int 0, .int 0, .int 0, .null, .null])) :: iW Γ d k wr) _ _ := h
        refine lv_dup C.x C.b dc_X_init_51 rfl ?_
        refine kv_IN (As := []) (rest := [.ref qn_6, .int (nI k), .ref (d 1)]) C h hl.1 (c_T_init l Γ (iW Γ d k wr) qn_6) mw_T_init lk_X_29 rfl (by decide) (by show _ ≤ 600 ∧ _ ≤ 200000; simp only [show rm_T_init.cells = 2 from rfl, show rm_T_init.slots = 40 from rfl]; omega) (Nat.le_of_ble_eq_true rfl) dc_X_init_52 (fun v u H locs hp h => ?_)
        obtain rfl := hp
        obtain ⟨ea_7, rfl⟩ : ∃ zz9, zz9 = u := ⟨_, rfl⟩
        replace h : sT Γ s ((qn_6, .inr (2, [.int 0, .int 0, .int 0, .ref (ea_7 0), .ref (ea_7 1)])) :: ((ea_7 0), .inl (Γ.2.1 0, 30, .inl (nF (fun _ => 0)))) :: (ea_7 1, .inl (Γ.2.1 0, 10, .inl (nF (fun _ => 0)))) :: iW Γ d k wr) _ _ := h
        refine W.eq (g2 := F0 m 55 ls [.ref qn_6, .int (nI k), .ref (d 1)]) rfl ?_
        refine rg_ast (qk := 0) C h 4 rfl rfl (by omega) (by decide) dc_X_init_55 (fun H locs h => ?_)
        refine lv_iinc (v := nI (k + 1)) (lv' := [(1, .int (nI (k + 1))), (0, .ref (d 0))]) C.x C.b dc_X_init_56 hl (k := 0) rfl (nI_1 k) (by decide) rfl (fun ls hl => ?_)
        refine lv_goto (tgt := 37) C.x C.b dc_X_init_59 (by decide) ?_
        obtain ⟨d2, ed2⟩ : ∃ zz9 : Nat → Nat, zz9 = us (us (us d (20 + 3 * k) qn_6) (21 + 3 * k) (ea_7 0)) (22 + 3 * k) (ea_7 1) := ⟨_, rfl⟩
        replace h := iW_step ed2 h
        have hd2 : d2 0 = d 0 := by rw [ed2, us_n _ _ (by omega), us_n _ _ (by omega), us_n _ _ (by omega)]
        rw [← hd2] at hl
        have hda2 : d2 0 = a := hd2.trans hda
        refine W.widen (k := 300 + 3 * k + 1 + 2) (n := 100000 + 45 * k + 5 + 40) (Nat.le_refl _) (Nat.le_refl _) ?_
        refine W.widen (k := 300 + 3 * (k + 1)) (n := 100000 + 45 * (k + 1)) (by omega) (by omega) ?_
        exact ih_37 (k + 1) d2 _ _ _ (by omega) (by first | assumption | omega) (by first | exact hda2 | exact hd0) h (lv_sub hl [0, 1] rfl)
  refine W.widen (k := 300 + 3 * 0) (n := 100000 + 45 * 0) (by omega) (by omega) ?_
  exact lp_37 _ 0 d0 _ _ _ (Nat.lt_succ_self _) (by first | assumption | omega) (by first | exact hda2 | exact hd0) h (lv_sub hl [0, 1] rfl)

