/-! numbers -/
def mI (n : Nat) : Int32 := nI n - 1
def bI (b : Bool) : Int32 := if b then 1 else 0
def nF (f : Nat → Nat) : Nat → Int32 := fun j => nI (f j)
def mF (f : Nat → Nat) : Nat → Int32 := fun j => mI (f j)
def us {α : Type} (f : Nat → α) (k : Nat) (v : α) : Nat → α := fun j => if j = k then v else f j
theorem us_s {α : Type} (f : Nat → α) (k : Nat) (v : α) : us f k v k = v := if_pos rfl
theorem us_n {α : Type} (f : Nat → α) {k j : Nat} (v : α) (h : j ≠ k) : us f k v j = f j := if_neg h
theorem nF_upd {f : Nat → Nat} {i v : Nat} (hi : i < 2 ^ 31) : upd (nF f) (nI i).toNatClampNeg (nI v) = nF (us f i v) := by
  funext j
  rw [nI_clamp hi]
  unfold upd nF us
  by_cases h : j = i <;> simp [h]
theorem mF_upd {f : Nat → Nat} {i v : Nat} (hi : i < 2 ^ 31) : upd (mF f) (nI i).toNatClampNeg (mI v) = mF (us f i v) := by
  funext j
  rw [nI_clamp hi]
  unfold upd mF us
  by_cases h : j = i <;> simp [h]
theorem mI_s (n : Nat) : nI n = mI (n + 1) := (nI_pred n).symm
theorem mI_0 : (-1 : Int32) = mI 0 := by decide +kernel
theorem mI_toInt {n : Nat} (h : n < 2 ^ 31) : (mI n).toInt = (n : Int) - 1 := by
  cases n with
  | zero => decide +kernel
  | succ n => rw [← mI_s, nI_toInt (by omega)]; omega
theorem mI_lt0 {n : Nat} (h : n < 2 ^ 31) : mI n < 0 ↔ n = 0 := by
  rw [Int32.lt_iff_toInt_lt, mI_toInt h, Int32.toInt_zero]; omega
theorem mI_eqm {a b : Nat} (ha : a < 2 ^ 31) (hb : b < 2 ^ 31) : mI a = mI b ↔ a = b := by
  rw [← Int32.toInt_inj, mI_toInt ha, mI_toInt hb]; omega
theorem nI_or (a b : Nat) : nI a ||| nI b = nI (a ||| b) := by
  apply Int32.toBitVec_inj.1
  show BitVec.ofNat 32 a ||| BitVec.ofNat 32 b = BitVec.ofNat 32 (a ||| b)
  apply BitVec.eq_of_getLsbD_eq
  intro i hi
  simp [hi]
theorem nI_and (a b : Nat) : nI a &&& nI b = nI (a &&& b) := by
  apply Int32.toBitVec_inj.1
  show BitVec.ofNat 32 a &&& BitVec.ofNat 32 b = BitVec.ofNat 32 (a &&& b)
  apply BitVec.eq_of_getLsbD_eq
  intro i hi
  simp [hi]
theorem nI_xor (a b : Nat) : nI a ^^^ nI b = nI (a ^^^ b) := by
  apply Int32.toBitVec_inj.1
  show BitVec.ofNat 32 a ^^^ BitVec.ofNat 32 b = BitVec.ofNat 32 (a ^^^ b)
  apply BitVec.eq_of_getLsbD_eq
  intro i hi
  simp [hi]
theorem sh_l : ∀ n, n < 32 → ((nI n &&& 31).toBitVec.smod 32).toNat = n := by decide +kernel
theorem nI_shl {a n : Nat} (hn : n < 32) (h : a * 2 ^ n < 2 ^ 32) : nI a <<< (nI n &&& 31) = nI (a * 2 ^ n) := pk_shlN _ n (sh_l n hn) h
theorem pw_le : ∀ n, n < 31 → 2 ^ n < 2 ^ 31 := fun n h => Nat.pow_lt_pow_right (by decide) h
theorem nI_shl1 {n : Nat} (hn : n < 31) : nI 1 <<< (nI n &&& 31) = nI (2 ^ n) := by
  have h := pw_le n hn
  rw [nI_shl (by omega) (by omega), Nat.one_mul]
theorem nI_shr {a n : Nat} (ha : a < 2 ^ 31) (hn : n < 32) : nI a >>> (nI n &&& 31) = nI (a / 2 ^ n) := pk_shrN ha _ n (sh_l n hn)
theorem nI_and1 (a : Nat) : nI a &&& 1 = nI (a % 2) := by
  show nI a &&& nI 1 = _
  rw [nI_and, Nat.and_one_is_mod]
theorem tb_iff (a n : Nat) : a / 2 ^ n % 2 ≠ 0 ↔ a.testBit n = true := by
  rw [Nat.testBit_eq_decide_div_mod_eq, decide_eq_true_eq]; omega
theorem tb_iff0 (a n : Nat) : a / 2 ^ n % 2 = 0 ↔ a.testBit n = false := by
  rw [Nat.testBit_eq_decide_div_mod_eq, decide_eq_false_iff_not]; omega
theorem tb_iff1 (a n : Nat) : a / 2 ^ n % 2 = 1 ↔ a.testBit n = true := by
  rw [Nat.testBit_eq_decide_div_mod_eq, decide_eq_true_eq]
theorem bI_0 (b : Bool) : bI b = 0 ↔ b = false := by cases b <;> decide +kernel
theorem bI_01 (b : Bool) : bI b = 0 ∨ bI b = 1 := by cases b <;> decide +kernel
theorem bI_n (b : Bool) : bI b = nI b.toNat := by cases b <;> decide +kernel
section RW
variable {p : Program} {l : Launch} {e : Env} {R : Room} {s : State} {m : MethodId} {args : Array Value} {below : List Frame} {meth : Method} {c : Code} {H : Heap} {locs : List Loc} {cells slots : Nat} {Q : State → Prop}
variable {Γ : gG} {cc : ByteArray} {ret : Option FieldType} {own : String} {nL pc : Nat} {ls : Array Slot} {rest : List Value} {ws : va_W}
theorem rg_get {a ci N idx : Nat} {cn : String} {T : u_T} {fs : List Value} {v : Value} (C : cX Γ p s m args meth c cc ret own nL) (h : sT Γ s ws H locs) (q0 : Nat) (he : ws[q0]? = some (a, .inr (ci, fs))) (hc : cls[ci]? = some (cn, T, N)) (hin : ∀ w ∈ u_ws cn T N, w ∈ gw) (k : Nat) (hk : k < N) (hlink : Cond.fieldLink own idx (T k).1 (T k).2.1 (T k).2.2.1 ∈ gw) (hv : fs[k]? = some v) (hdg : decode cc pc = .ok (.getfield idx, 3))
    (kk : W p l e R s m args below meth c H locs cells slots Q (F0 m (pc + 3) ls (v :: rest))) : W p l e R s m args below meth c H locs cells slots Q (F0 m pc ls (.ref a :: rest)) :=
  va_get C.x C.b C.t hin C.o C.k h.1 q0 he hc k hk (C.t _ hlink) (fun _ h9 => h9) hv hdg kk
theorem rg_getN {a ci N idx : Nat} {cn host : String} {T : u_T} {fs : List Value} {v : Value} (C : cX Γ p s m args meth c cc ret own nL) (h : sT Γ s ws H locs) (q0 : Nat) (he : ws[q0]? = some (a, .inr (ci, fs))) (hc : cls[ci]? = some (cn, T, N)) (hin : ∀ w ∈ u_ws cn T N, w ∈ gw) (k : Nat) (hk : k < N) (hlink : Cond.fieldLinkNest own idx (T k).1 (T k).2.1 (T k).2.2.1 host ∈ nwL) (hv : fs[k]? = some v) (hdg : decode cc pc = .ok (.getfield idx, 3))
    (kk : W p l e R s m args below meth c H locs cells slots Q (F0 m (pc + 3) ls (v :: rest))) : W p l e R s m args below meth c H locs cells slots Q (F0 m pc ls (.ref a :: rest)) :=
  va_getN C.x C.b C.t hin C.o C.k h.1 q0 he hc k hk (va_Nw.use rfl (C.w _ hlink)) (fun _ h9 => h9) hv hdg kk
theorem rg_put {a ci N idx : Nat} {cn : String} {T : u_T} {ty0 : Nat → FieldType} {fs : List Value} {v : Value} {ty : FieldType} (C : cX Γ p s m args meth c cc ret own nL) (h : sT Γ s ws H locs) (q0 : Nat) (he : ws[q0]? = some (a, .inr (ci, fs))) (hc : cls[ci]? = some (cn, T, N)) (hin : ∀ w ∈ u_ws cn T N, w ∈ gw) (hty : ∀ k, k < N → parseFieldDescriptor (T k).2.2.1 = some (ty0 k)) (hnm : ∀ a, a < N → ∀ b, b < N → a ≠ b → (T a).2.1 ≠ (T b).2.1) (k : Nat) (hk : k < N) (hlink : Cond.fieldLink own idx (T k).1 (T k).2.1 (T k).2.2.1 ∈ gw) (hfin : (T k).2.2.2 = false) (hd : parseFieldDescriptor (T k).2.2.1 = some ty) (hn : narrow ty v = v) (hfit : fits ty v = true) (hl : k < fs.length) (hdg : decode cc pc = .ok (.putfield idx, 3))
    (kk : ∀ (H1 : Heap) (locs1 : List Loc), sT Γ s (ws.set q0 (a, .inr (ci, fs.set k v))) H1 locs1 → W p l e R s m args below meth c H1 locs1 cells slots Q (F0 m (pc + 3) ls rest)) : W p l e R s m args below meth c H locs cells slots Q (F0 m pc ls (v :: .ref a :: rest)) :=
  va_put C.x C.b C.t hin ty0 hty hnm C.o C.k h.1 h.2.1 h.2.2 q0 he hc k hk (C.t _ hlink) (fun _ h9 => h9) hfin hd hn hfit hl hdg (fun H1 locs1 a1 a2 a3 => kk H1 locs1 ⟨a1, a2, a3⟩)
theorem rg_putN {a ci N idx : Nat} {cn host : String} {T : u_T} {ty0 : Nat → FieldType} {fs : List Value} {v : Value} {ty : FieldType} (C : cX Γ p s m args meth c cc ret own nL) (h : sT Γ s ws H locs) (q0 : Nat) (he : ws[q0]? = some (a, .inr (ci, fs))) (hc : cls[ci]? = some (cn, T, N)) (hin : ∀ w ∈ u_ws cn T N, w ∈ gw) (hty : ∀ k, k < N → parseFieldDescriptor (T k).2.2.1 = some (ty0 k)) (hnm : ∀ a, a < N → ∀ b, b < N → a ≠ b → (T a).2.1 ≠ (T b).2.1) (k : Nat) (hk : k < N) (hlink : Cond.fieldLinkNest own idx (T k).1 (T k).2.1 (T k).2.2.1 host ∈ nwL) (hfin : (T k).2.2.2 = false) (hd : parseFieldDescriptor (T k).2.2.1 = some ty) (hn : narrow ty v = v) (hfit : fits ty v = true) (hl : k < fs.length) (hdg : decode cc pc = .ok (.putfield idx, 3))
    (kk : ∀ (H1 : Heap) (locs1 : List Loc), sT Γ s (ws.set q0 (a, .inr (ci, fs.set k v))) H1 locs1 → W p l e R s m args below meth c H1 locs1 cells slots Q (F0 m (pc + 3) ls rest)) : W p l e R s m args below meth c H locs cells slots Q (F0 m pc ls (v :: .ref a :: rest)) :=
  va_putN C.x C.b C.t hin ty0 hty hnm C.o C.k h.1 h.2.1 h.2.2 q0 he hc k hk (va_Nw.use rfl (C.w _ hlink)) (fun _ h9 => h9) hfin hd hn hfit hl hdg (fun H1 locs1 a1 a2 a3 => kk H1 locs1 ⟨a1, a2, a3⟩)
/-- a final field in a constructor -/
theorem rg_putF {a ci N idx : Nat} {cn : String} {T : u_T} {ty0 : Nat → FieldType} {fs : List Value} {v : Value} {ty : FieldType} (C : cX Γ p s m args meth c cc ret own nL) (hmn : meth.name = "<init>") (h : sT Γ s ws H locs) (q0 : Nat) (he : ws[q0]? = some (a, .inr (ci, fs))) (hc : cls[ci]? = some (cn, T, N)) (hin : ∀ w ∈ u_ws cn T N, w ∈ gw) (hty : ∀ k, k < N → parseFieldDescriptor (T k).2.2.1 = some (ty0 k)) (hnm : ∀ a, a < N → ∀ b, b < N → a ≠ b → (T a).2.1 ≠ (T b).2.1) (k : Nat) (hk : k < N) (hlink : Cond.fieldLink own idx (T k).1 (T k).2.1 (T k).2.2.1 ∈ gw) (hfin : (T k).2.2.2 = true) (hdecl : (T k).1 = own) (hd : parseFieldDescriptor (T k).2.2.1 = some ty) (hn : narrow ty v = v) (hfit : fits ty v = true) (hl : k < fs.length) (hdg : decode cc pc = .ok (.putfield idx, 3))
    (kk : ∀ (H1 : Heap) (locs1 : List Loc), sT Γ s (ws.set q0 (a, .inr (ci, fs.set k v))) H1 locs1 → W p l e R s m args below meth c H1 locs1 cells slots Q (F0 m (pc + 3) ls rest)) : W p l e R s m args below meth c H locs cells slots Q (F0 m pc ls (v :: .ref a :: rest)) :=
  va_putF C.x C.b C.t hin ty0 hty hnm C.o C.k h.1 h.2.1 h.2.2 q0 he hc k hk (C.t _ hlink) (fun _ h9 => h9) hfin hmn hdecl hd hn hfit hl hdg (fun H1 locs1 a1 a2 a3 => kk H1 locs1 ⟨a1, a2, a3⟩)
theorem rg_ild {a n i : Nat} {f : Nat → Nat} (C : cX Γ p s m args meth c cc ret own nL) (h : sT Γ s ws H locs) (q0 : Nat) (he : ws[q0]? = some (a, .inl (Γ.2.1 0, n, .inl (nF f)))) (hi : i < n) (hn : n < 2 ^ 31) (hdg : decode cc pc = .ok (.iaload, 1))
    (kk : W p l e R s m args below meth c H locs cells slots Q (F0 m (pc + 1) ls (.int (nI (f i)) :: rest))) : W p l e R s m args below meth c H locs cells slots Q (F0 m pc ls (.int (nI i) :: .ref a :: rest)) := by
  refine va_iald C.x C.b C.k h.1 q0 0 he rfl (vp_in_nI hi hn) hdg ?_
  rw [nI_clamp (by omega)]
  exact kk
theorem rg_mld {a n i : Nat} {f : Nat → Nat} (C : cX Γ p s m args meth c cc ret own nL) (h : sT Γ s ws H locs) (q0 : Nat) (he : ws[q0]? = some (a, .inl (Γ.2.1 0, n, .inl (mF f)))) (hi : i < n) (hn : n < 2 ^ 31) (hdg : decode cc pc = .ok (.iaload, 1))
    (kk : W p l e R s m args below meth c H locs cells slots Q (F0 m (pc + 1) ls (.int (mI (f i)) :: rest))) : W p l e R s m args below meth c H locs cells slots Q (F0 m pc ls (.int (nI i) :: .ref a :: rest)) := by
  refine va_iald C.x C.b C.k h.1 q0 0 he rfl (vp_in_nI hi hn) hdg ?_
  rw [nI_clamp (by omega)]
  exact kk
theorem rg_zld {a n i : Nat} {f : Nat → Nat} (C : cX Γ p s m args meth c cc ret own nL) (h : sT Γ s ws H locs) (q0 : Nat) (he : ws[q0]? = some (a, .inl (Γ.2.1 2, n, .inl (nF f)))) (hi : i < n) (hn : n < 2 ^ 31) (hdg : decode cc pc = .ok (.baload, 1))
    (kk : W p l e R s m args below meth c H locs cells slots Q (F0 m (pc + 1) ls (.int (nI (f i)) :: rest))) : W p l e R s m args below meth c H locs cells slots Q (F0 m pc ls (.int (nI i) :: .ref a :: rest)) := by
  refine va_zald C.x C.b C.k h.1 q0 2 he rfl (vp_in_nI hi hn) hdg ?_
  rw [nI_clamp (by omega)]
  exact kk
theorem rg_lld {a n i : Nat} {f : Nat → Int64} (C : cX Γ p s m args meth c cc ret own nL) (h : sT Γ s ws H locs) (q0 : Nat) (he : ws[q0]? = some (a, .inl (Γ.2.1 1, n, .inr (.inl f)))) (hi : i < n) (hn : n < 2 ^ 31) (hdg : decode cc pc = .ok (.laload, 1))
    (kk : W p l e R s m args below meth c H locs cells slots Q (F0 m (pc + 1) ls (.long (f i) :: rest))) : W p l e R s m args below meth c H locs cells slots Q (F0 m pc ls (.int (nI i) :: .ref a :: rest)) := by
  refine va_lald C.x C.b C.k h.1 q0 1 he rfl (vp_in_nI hi hn) hdg ?_
  rw [nI_clamp (by omega)]
  exact kk
theorem rg_ald {a n i b : Nat} {f : Nat → Option Nat} (C : cX Γ p s m args meth c cc ret own nL) (h : sT Γ s ws H locs) (q0 : Nat) (he : ws[q0]? = some (a, .inl (Γ.2.1 3, n, .inr (.inr (.inr (.inr f)))))) (hi : i < n) (hn : n < 2 ^ 31) (hf : f i = some b) (hdg : decode cc pc = .ok (.aaload, 1))
    (kk : W p l e R s m args below meth c H locs cells slots Q (F0 m (pc + 1) ls (.ref b :: rest))) : W p l e R s m args below meth c H locs cells slots Q (F0 m pc ls (.int (nI i) :: .ref a :: rest)) := by
  refine va_aldq C.x C.b C.k h.1 q0 3 he rfl (vp_in_nI hi hn) hdg ?_
  rw [nI_clamp (by omega), hf]
  exact kk
theorem rg_ist {a n i v : Nat} {f : Nat → Nat} (C : cX Γ p s m args meth c cc ret own nL) (h : sT Γ s ws H locs) (q0 : Nat) (he : ws[q0]? = some (a, .inl (Γ.2.1 0, n, .inl (nF f)))) (hi : i < n) (hn : n < 2 ^ 31) (hdg : decode cc pc = .ok (.iastore, 1))
    (kk : ∀ (H1 : Heap) (locs1 : List Loc), sT Γ s (ws.set q0 (a, .inl (Γ.2.1 0, n, .inl (nF (us f i v))))) H1 locs1 → W p l e R s m args below meth c H1 locs1 cells slots Q (F0 m (pc + 1) ls rest)) : W p l e R s m args below meth c H locs cells slots Q (F0 m pc ls (.int (nI v) :: .int (nI i) :: .ref a :: rest)) := by
  refine va_iast C.x C.b C.k h.1 h.2.1 h.2.2 q0 0 he rfl (vp_in_nI hi hn) hdg (fun H1 locs1 a1 a2 a3 => ?_)
  rw [nF_upd (by omega)] at a1 a2
  exact kk H1 locs1 ⟨a1, a2, a3⟩
theorem rg_mst {a n i v : Nat} {f : Nat → Nat} (C : cX Γ p s m args meth c cc ret own nL) (h : sT Γ s ws H locs) (q0 : Nat) (he : ws[q0]? = some (a, .inl (Γ.2.1 0, n, .inl (mF f)))) (hi : i < n) (hn : n < 2 ^ 31) (hdg : decode cc pc = .ok (.iastore, 1))
    (kk : ∀ (H1 : Heap) (locs1 : List Loc), sT Γ s (ws.set q0 (a, .inl (Γ.2.1 0, n, .inl (mF (us f i v))))) H1 locs1 → W p l e R s m args below meth c H1 locs1 cells slots Q (F0 m (pc + 1) ls rest)) : W p l e R s m args below meth c H locs cells slots Q (F0 m pc ls (.int (mI v) :: .int (nI i) :: .ref a :: rest)) := by
  refine va_iast C.x C.b C.k h.1 h.2.1 h.2.2 q0 0 he rfl (vp_in_nI hi hn) hdg (fun H1 locs1 a1 a2 a3 => ?_)
  rw [mF_upd (by omega)] at a1 a2
  exact kk H1 locs1 ⟨a1, a2, a3⟩
theorem rg_zst {a n i v : Nat} {f : Nat → Nat} (C : cX Γ p s m args meth c cc ret own nL) (h : sT Γ s ws H locs) (q0 : Nat) (he : ws[q0]? = some (a, .inl (Γ.2.1 2, n, .inl (nF f)))) (hi : i < n) (hn : n < 2 ^ 31) (hv : v = 0 ∨ v = 1) (hdg : decode cc pc = .ok (.bastore, 1))
    (kk : ∀ (H1 : Heap) (locs1 : List Loc), sT Γ s (ws.set q0 (a, .inl (Γ.2.1 2, n, .inl (nF (us f i v))))) H1 locs1 → W p l e R s m args below meth c H1 locs1 cells slots Q (F0 m (pc + 1) ls rest)) : W p l e R s m args below meth c H locs cells slots Q (F0 m pc ls (.int (nI v) :: .int (nI i) :: .ref a :: rest)) := by
  refine va_zast C.x C.b C.k h.1 h.2.1 h.2.2 q0 2 he rfl (vp_in_nI hi hn) hdg (fun H1 locs1 a1 a2 a3 => ?_)
  have e : vp_nar .boolean (nI v) = nI v := by rcases hv with rfl | rfl <;> decide +kernel
  rw [e, nF_upd (by omega)] at a1 a2
  exact kk H1 locs1 ⟨a1, a2, a3⟩
theorem rg_lst {a n i : Nat} {v : Int64} {f : Nat → Int64} (C : cX Γ p s m args meth c cc ret own nL) (h : sT Γ s ws H locs) (q0 : Nat) (he : ws[q0]? = some (a, .inl (Γ.2.1 1, n, .inr (.inl f)))) (hi : i < n) (hn : n < 2 ^ 31) (hdg : decode cc pc = .ok (.lastore, 1))
    (kk : ∀ (H1 : Heap) (locs1 : List Loc), sT Γ s (ws.set q0 (a, .inl (Γ.2.1 1, n, .inr (.inl (us f i v))))) H1 locs1 → W p l e R s m args below meth c H1 locs1 cells slots Q (F0 m (pc + 1) ls rest)) : W p l e R s m args below meth c H locs cells slots Q (F0 m pc ls (.long v :: .int (nI i) :: .ref a :: rest)) := by
  refine va_last C.x C.b C.k h.1 h.2.1 h.2.2 q0 1 he rfl (vp_in_nI hi hn) hdg (fun H1 locs1 a1 a2 a3 => ?_)
  rw [nI_clamp (by omega)] at a1 a2
  exact kk H1 locs1 ⟨a1, a2, a3⟩
theorem bc_eq {a b tgt : Nat} {off : Int} (C : cX Γ p s m args meth c cc ret own nL) (ha : a < 2 ^ 31) (hb : b < 2 ^ 31) (hdg : decode cc pc = .ok (.if_icmp .eq off, 3)) (ht : (pc : Int) + off = (tgt : Int)) (k1 : a = b → W p l e R s m args below meth c H locs cells slots Q (F0 m tgt ls rest)) (k2 : ¬ a = b → W p l e R s m args below meth c H locs cells slots Q (F0 m (pc + 3) ls rest)) : W p l e R s m args below meth c H locs cells slots Q (F0 m pc ls (.int (nI b) :: .int (nI a) :: rest)) := by
  refine lv_icmp_eq C.x C.b hdg ht (fun q => k1 ?_) (fun q => k2 ?_)
  · simp only [nI_eq ha hb, nI_ltI ha hb, nI_ltI hb ha, nI_leI ha hb, nI_leI hb ha, ne_eq, Decidable.not_not, Nat.not_lt, Nat.not_le] at q; first | exact q | omega
  · simp only [nI_eq ha hb, nI_ltI ha hb, nI_ltI hb ha, nI_leI ha hb, nI_leI hb ha, ne_eq, Decidable.not_not, Nat.not_lt, Nat.not_le] at q; first | exact q | omega
theorem bc_ne {a b tgt : Nat} {off : Int} (C : cX Γ p s m args meth c cc ret own nL) (ha : a < 2 ^ 31) (hb : b < 2 ^ 31) (hdg : decode cc pc = .ok (.if_icmp .ne off, 3)) (ht : (pc : Int) + off = (tgt : Int)) (k1 : ¬ a = b → W p l e R s m args below meth c H locs cells slots Q (F0 m tgt ls rest)) (k2 : a = b → W p l e R s m args below meth c H locs cells slots Q (F0 m (pc + 3) ls rest)) : W p l e R s m args below meth c H locs cells slots Q (F0 m pc ls (.int (nI b) :: .int (nI a) :: rest)) := by
  refine lv_icmp_ne C.x C.b hdg ht (fun q => k1 ?_) (fun q => k2 ?_)
  · simp only [nI_eq ha hb, nI_ltI ha hb, nI_ltI hb ha, nI_leI ha hb, nI_leI hb ha, ne_eq, Decidable.not_not, Nat.not_lt, Nat.not_le] at q; first | exact q | omega
  · simp only [nI_eq ha hb, nI_ltI ha hb, nI_ltI hb ha, nI_leI ha hb, nI_leI hb ha, ne_eq, Decidable.not_not, Nat.not_lt, Nat.not_le] at q; first | exact q | omega
theorem bc_lt {a b tgt : Nat} {off : Int} (C : cX Γ p s m args meth c cc ret own nL) (ha : a < 2 ^ 31) (hb : b < 2 ^ 31) (hdg : decode cc pc = .ok (.if_icmp .lt off, 3)) (ht : (pc : Int) + off = (tgt : Int)) (k1 : a < b → W p l e R s m args below meth c H locs cells slots Q (F0 m tgt ls rest)) (k2 : b ≤ a → W p l e R s m args below meth c H locs cells slots Q (F0 m (pc + 3) ls rest)) : W p l e R s m args below meth c H locs cells slots Q (F0 m pc ls (.int (nI b) :: .int (nI a) :: rest)) := by
  refine lv_icmp_lt C.x C.b hdg ht (fun q => k1 ?_) (fun q => k2 ?_)
  · simp only [nI_eq ha hb, nI_ltI ha hb, nI_ltI hb ha, nI_leI ha hb, nI_leI hb ha, ne_eq, Decidable.not_not, Nat.not_lt, Nat.not_le] at q; first | exact q | omega
  · simp only [nI_eq ha hb, nI_ltI ha hb, nI_ltI hb ha, nI_leI ha hb, nI_leI hb ha, ne_eq, Decidable.not_not, Nat.not_lt, Nat.not_le] at q; first | exact q | omega
theorem bc_ge {a b tgt : Nat} {off : Int} (C : cX Γ p s m args meth c cc ret own nL) (ha : a < 2 ^ 31) (hb : b < 2 ^ 31) (hdg : decode cc pc = .ok (.if_icmp .ge off, 3)) (ht : (pc : Int) + off = (tgt : Int)) (k1 : b ≤ a → W p l e R s m args below meth c H locs cells slots Q (F0 m tgt ls rest)) (k2 : a < b → W p l e R s m args below meth c H locs cells slots Q (F0 m (pc + 3) ls rest)) : W p l e R s m args below meth c H locs cells slots Q (F0 m pc ls (.int (nI b) :: .int (nI a) :: rest)) := by
  refine lv_icmp_ge C.x C.b hdg ht (fun q => k1 ?_) (fun q => k2 ?_)
  · simp only [nI_eq ha hb, nI_ltI ha hb, nI_ltI hb ha, nI_leI ha hb, nI_leI hb ha, ne_eq, Decidable.not_not, Nat.not_lt, Nat.not_le] at q; first | exact q | omega
  · simp only [nI_eq ha hb, nI_ltI ha hb, nI_ltI hb ha, nI_leI ha hb, nI_leI hb ha, ne_eq, Decidable.not_not, Nat.not_lt, Nat.not_le] at q; first | exact q | omega
theorem bc_gt {a b tgt : Nat} {off : Int} (C : cX Γ p s m args meth c cc ret own nL) (ha : a < 2 ^ 31) (hb : b < 2 ^ 31) (hdg : decode cc pc = .ok (.if_icmp .gt off, 3)) (ht : (pc : Int) + off = (tgt : Int)) (k1 : b < a → W p l e R s m args below meth c H locs cells slots Q (F0 m tgt ls rest)) (k2 : a ≤ b → W p l e R s m args below meth c H locs cells slots Q (F0 m (pc + 3) ls rest)) : W p l e R s m args below meth c H locs cells slots Q (F0 m pc ls (.int (nI b) :: .int (nI a) :: rest)) := by
  refine lv_icmp_gt C.x C.b hdg ht (fun q => k1 ?_) (fun q => k2 ?_)
  · simp only [nI_eq ha hb, nI_ltI ha hb, nI_ltI hb ha, nI_leI ha hb, nI_leI hb ha, ne_eq, Decidable.not_not, Nat.not_lt, Nat.not_le] at q; first | exact q | omega
  · simp only [nI_eq ha hb, nI_ltI ha hb, nI_ltI hb ha, nI_leI ha hb, nI_leI hb ha, ne_eq, Decidable.not_not, Nat.not_lt, Nat.not_le] at q; first | exact q | omega
theorem bc_le {a b tgt : Nat} {off : Int} (C : cX Γ p s m args meth c cc ret own nL) (ha : a < 2 ^ 31) (hb : b < 2 ^ 31) (hdg : decode cc pc = .ok (.if_icmp .le off, 3)) (ht : (pc : Int) + off = (tgt : Int)) (k1 : a ≤ b → W p l e R s m args below meth c H locs cells slots Q (F0 m tgt ls rest)) (k2 : b < a → W p l e R s m args below meth c H locs cells slots Q (F0 m (pc + 3) ls rest)) : W p l e R s m args below meth c H locs cells slots Q (F0 m pc ls (.int (nI b) :: .int (nI a) :: rest)) := by
  refine lv_icmp_le C.x C.b hdg ht (fun q => k1 ?_) (fun q => k2 ?_)
  · simp only [nI_eq ha hb, nI_ltI ha hb, nI_ltI hb ha, nI_leI ha hb, nI_leI hb ha, ne_eq, Decidable.not_not, Nat.not_lt, Nat.not_le] at q; first | exact q | omega
  · simp only [nI_eq ha hb, nI_ltI ha hb, nI_ltI hb ha, nI_leI ha hb, nI_leI hb ha, ne_eq, Decidable.not_not, Nat.not_lt, Nat.not_le] at q; first | exact q | omega
theorem bz_eq {a tgt : Nat} {off : Int} (C : cX Γ p s m args meth c cc ret own nL) (ha : a < 2 ^ 31) (hdg : decode cc pc = .ok (.ifCond .eq off, 3)) (ht : (pc : Int) + off = (tgt : Int)) (k1 : a = 0 → W p l e R s m args below meth c H locs cells slots Q (F0 m tgt ls rest)) (k2 : ¬ a = 0 → W p l e R s m args below meth c H locs cells slots Q (F0 m (pc + 3) ls rest)) : W p l e R s m args below meth c H locs cells slots Q (F0 m pc ls (.int (nI a) :: rest)) := by
  have h0 : (0 : Nat) < 2 ^ 31 := by decide
  refine lv_if_eq C.x C.b hdg ht (fun q => k1 ?_) (fun q => k2 ?_)
  · simp only [← nI_0, nI_eq ha h0, nI_eq h0 ha, nI_ltI ha h0, nI_ltI h0 ha, nI_leI ha h0, nI_leI h0 ha, ne_eq, Decidable.not_not, Nat.not_lt, Nat.not_le] at q; first | trivial | exact q | omega
  · simp only [← nI_0, nI_eq ha h0, nI_eq h0 ha, nI_ltI ha h0, nI_ltI h0 ha, nI_leI ha h0, nI_leI h0 ha, ne_eq, Decidable.not_not, Nat.not_lt, Nat.not_le] at q; first | trivial | exact q | omega
theorem bz_ne {a tgt : Nat} {off : Int} (C : cX Γ p s m args meth c cc ret own nL) (ha : a < 2 ^ 31) (hdg : decode cc pc = .ok (.ifCond .ne off, 3)) (ht : (pc : Int) + off = (tgt : Int)) (k1 : ¬ a = 0 → W p l e R s m args below meth c H locs cells slots Q (F0 m tgt ls rest)) (k2 : a = 0 → W p l e R s m args below meth c H locs cells slots Q (F0 m (pc + 3) ls rest)) : W p l e R s m args below meth c H locs cells slots Q (F0 m pc ls (.int (nI a) :: rest)) := by
  have h0 : (0 : Nat) < 2 ^ 31 := by decide
  refine lv_if_ne C.x C.b hdg ht (fun q => k1 ?_) (fun q => k2 ?_)
  · simp only [← nI_0, nI_eq ha h0, nI_eq h0 ha, nI_ltI ha h0, nI_ltI h0 ha, nI_leI ha h0, nI_leI h0 ha, ne_eq, Decidable.not_not, Nat.not_lt, Nat.not_le] at q; first | trivial | exact q | omega
  · simp only [← nI_0, nI_eq ha h0, nI_eq h0 ha, nI_ltI ha h0, nI_ltI h0 ha, nI_leI ha h0, nI_leI h0 ha, ne_eq, Decidable.not_not, Nat.not_lt, Nat.not_le] at q; first | trivial | exact q | omega
theorem bz_lt {a tgt : Nat} {off : Int} (C : cX Γ p s m args meth c cc ret own nL) (ha : a < 2 ^ 31) (hdg : decode cc pc = .ok (.ifCond .lt off, 3)) (ht : (pc : Int) + off = (tgt : Int)) (k1 : False → W p l e R s m args below meth c H locs cells slots Q (F0 m tgt ls rest)) (k2 : True → W p l e R s m args below meth c H locs cells slots Q (F0 m (pc + 3) ls rest)) : W p l e R s m args below meth c H locs cells slots Q (F0 m pc ls (.int (nI a) :: rest)) := by
  have h0 : (0 : Nat) < 2 ^ 31 := by decide
  refine lv_if_lt C.x C.b hdg ht (fun q => k1 ?_) (fun q => k2 ?_)
  · simp only [← nI_0, nI_eq ha h0, nI_eq h0 ha, nI_ltI ha h0, nI_ltI h0 ha, nI_leI ha h0, nI_leI h0 ha, ne_eq, Decidable.not_not, Nat.not_lt, Nat.not_le] at q; first | trivial | exact q | omega
  · simp only [← nI_0, nI_eq ha h0, nI_eq h0 ha, nI_ltI ha h0, nI_ltI h0 ha, nI_leI ha h0, nI_leI h0 ha, ne_eq, Decidable.not_not, Nat.not_lt, Nat.not_le] at q; first | trivial | exact q | omega
theorem bz_ge {a tgt : Nat} {off : Int} (C : cX Γ p s m args meth c cc ret own nL) (ha : a < 2 ^ 31) (hdg : decode cc pc = .ok (.ifCond .ge off, 3)) (ht : (pc : Int) + off = (tgt : Int)) (k1 : True → W p l e R s m args below meth c H locs cells slots Q (F0 m tgt ls rest)) (k2 : False → W p l e R s m args below meth c H locs cells slots Q (F0 m (pc + 3) ls rest)) : W p l e R s m args below meth c H locs cells slots Q (F0 m pc ls (.int (nI a) :: rest)) := by
  have h0 : (0 : Nat) < 2 ^ 31 := by decide
  refine lv_if_ge C.x C.b hdg ht (fun q => k1 ?_) (fun q => k2 ?_)
  · simp only [← nI_0, nI_eq ha h0, nI_eq h0 ha, nI_ltI ha h0, nI_ltI h0 ha, nI_leI ha h0, nI_leI h0 ha, ne_eq, Decidable.not_not, Nat.not_lt, Nat.not_le] at q; first | trivial | exact q | omega
  · simp only [← nI_0, nI_eq ha h0, nI_eq h0 ha, nI_ltI ha h0, nI_ltI h0 ha, nI_leI ha h0, nI_leI h0 ha, ne_eq, Decidable.not_not, Nat.not_lt, Nat.not_le] at q; first | trivial | exact q | omega
theorem bz_gt {a tgt : Nat} {off : Int} (C : cX Γ p s m args meth c cc ret own nL) (ha : a < 2 ^ 31) (hdg : decode cc pc = .ok (.ifCond .gt off, 3)) (ht : (pc : Int) + off = (tgt : Int)) (k1 : ¬ a = 0 → W p l e R s m args below meth c H locs cells slots Q (F0 m tgt ls rest)) (k2 : a = 0 → W p l e R s m args below meth c H locs cells slots Q (F0 m (pc + 3) ls rest)) : W p l e R s m args below meth c H locs cells slots Q (F0 m pc ls (.int (nI a) :: rest)) := by
  have h0 : (0 : Nat) < 2 ^ 31 := by decide
  refine lv_if_gt C.x C.b hdg ht (fun q => k1 ?_) (fun q => k2 ?_)
  · simp only [← nI_0, nI_eq ha h0, nI_eq h0 ha, nI_ltI ha h0, nI_ltI h0 ha, nI_leI ha h0, nI_leI h0 ha, ne_eq, Decidable.not_not, Nat.not_lt, Nat.not_le] at q; first | trivial | exact q | omega
  · simp only [← nI_0, nI_eq ha h0, nI_eq h0 ha, nI_ltI ha h0, nI_ltI h0 ha, nI_leI ha h0, nI_leI h0 ha, ne_eq, Decidable.not_not, Nat.not_lt, Nat.not_le] at q; first | trivial | exact q | omega
theorem bz_le {a tgt : Nat} {off : Int} (C : cX Γ p s m args meth c cc ret own nL) (ha : a < 2 ^ 31) (hdg : decode cc pc = .ok (.ifCond .le off, 3)) (ht : (pc : Int) + off = (tgt : Int)) (k1 : a = 0 → W p l e R s m args below meth c H locs cells slots Q (F0 m tgt ls rest)) (k2 : ¬ a = 0 → W p l e R s m args below meth c H locs cells slots Q (F0 m (pc + 3) ls rest)) : W p l e R s m args below meth c H locs cells slots Q (F0 m pc ls (.int (nI a) :: rest)) := by
  have h0 : (0 : Nat) < 2 ^ 31 := by decide
  refine lv_if_le C.x C.b hdg ht (fun q => k1 ?_) (fun q => k2 ?_)
  · simp only [← nI_0, nI_eq ha h0, nI_eq h0 ha, nI_ltI ha h0, nI_ltI h0 ha, nI_leI ha h0, nI_leI h0 ha, ne_eq, Decidable.not_not, Nat.not_lt, Nat.not_le] at q; first | trivial | exact q | omega
  · simp only [← nI_0, nI_eq ha h0, nI_eq h0 ha, nI_ltI ha h0, nI_ltI h0 ha, nI_leI ha h0, nI_leI h0 ha, ne_eq, Decidable.not_not, Nat.not_lt, Nat.not_le] at q; first | trivial | exact q | omega
theorem bb_eq {b : Bool} {tgt : Nat} {off : Int} (C : cX Γ p s m args meth c cc ret own nL) (hdg : decode cc pc = .ok (.ifCond .eq off, 3)) (ht : (pc : Int) + off = (tgt : Int)) (k1 : b = false → W p l e R s m args below meth c H locs cells slots Q (F0 m tgt ls rest)) (k2 : b = true → W p l e R s m args below meth c H locs cells slots Q (F0 m (pc + 3) ls rest)) : W p l e R s m args below meth c H locs cells slots Q (F0 m pc ls (.int (bI b) :: rest)) := by
  refine lv_if_eq C.x C.b hdg ht (fun q => k1 ?_) (fun q => k2 ?_)
  · cases b <;> first | rfl | (exact absurd q (by decide +kernel)) | (exact absurd (by decide +kernel) q)
  · cases b <;> first | rfl | (exact absurd q (by decide +kernel)) | (exact absurd (by decide +kernel) q)
theorem bb_ne {b : Bool} {tgt : Nat} {off : Int} (C : cX Γ p s m args meth c cc ret own nL) (hdg : decode cc pc = .ok (.ifCond .ne off, 3)) (ht : (pc : Int) + off = (tgt : Int)) (k1 : b = true → W p l e R s m args below meth c H locs cells slots Q (F0 m tgt ls rest)) (k2 : b = false → W p l e R s m args below meth c H locs cells slots Q (F0 m (pc + 3) ls rest)) : W p l e R s m args below meth c H locs cells slots Q (F0 m pc ls (.int (bI b) :: rest)) := by
  refine lv_if_ne C.x C.b hdg ht (fun q => k1 ?_) (fun q => k2 ?_)
  · cases b <;> first | rfl | (exact absurd q (by decide +kernel)) | (exact absurd (by decide +kernel) q)
  · cases b <;> first | rfl | (exact absurd q (by decide +kernel)) | (exact absurd (by decide +kernel) q)
theorem bm_lt {a tgt : Nat} {off : Int} (C : cX Γ p s m args meth c cc ret own nL) (ha : a < 2 ^ 31) (hdg : decode cc pc = .ok (.ifCond .lt off, 3)) (ht : (pc : Int) + off = (tgt : Int)) (k1 : a = 0 → W p l e R s m args below meth c H locs cells slots Q (F0 m tgt ls rest)) (k2 : ¬ a = 0 → W p l e R s m args below meth c H locs cells slots Q (F0 m (pc + 3) ls rest)) : W p l e R s m args below meth c H locs cells slots Q (F0 m pc ls (.int (mI a) :: rest)) := by
  refine lv_if_lt C.x C.b hdg ht (fun q => k1 ?_) (fun q => k2 ?_)
  · simp only [Int32.lt_iff_toInt_lt, Int32.le_iff_toInt_le, mI_toInt ha, Int32.toInt_zero] at q; omega
  · simp only [Int32.lt_iff_toInt_lt, Int32.le_iff_toInt_le, mI_toInt ha, Int32.toInt_zero] at q; omega
theorem bm_ge {a tgt : Nat} {off : Int} (C : cX Γ p s m args meth c cc ret own nL) (ha : a < 2 ^ 31) (hdg : decode cc pc = .ok (.ifCond .ge off, 3)) (ht : (pc : Int) + off = (tgt : Int)) (k1 : ¬ a = 0 → W p l e R s m args below meth c H locs cells slots Q (F0 m tgt ls rest)) (k2 : a = 0 → W p l e R s m args below meth c H locs cells slots Q (F0 m (pc + 3) ls rest)) : W p l e R s m args below meth c H locs cells slots Q (F0 m pc ls (.int (mI a) :: rest)) := by
  refine lv_if_ge C.x C.b hdg ht (fun q => k1 ?_) (fun q => k2 ?_)
  · simp only [Int32.lt_iff_toInt_lt, Int32.le_iff_toInt_le, mI_toInt ha, Int32.toInt_zero] at q; omega
  · simp only [Int32.lt_iff_toInt_lt, Int32.le_iff_toInt_le, mI_toInt ha, Int32.toInt_zero] at q; omega
theorem bn_eq {a b tgt : Nat} {off : Int} (C : cX Γ p s m args meth c cc ret own nL) (ha : a < 2 ^ 31) (hb : b < 2 ^ 31) (hdg : decode cc pc = .ok (.if_icmp .eq off, 3)) (ht : (pc : Int) + off = (tgt : Int)) (k1 : a = b → W p l e R s m args below meth c H locs cells slots Q (F0 m tgt ls rest)) (k2 : ¬ a = b → W p l e R s m args below meth c H locs cells slots Q (F0 m (pc + 3) ls rest)) : W p l e R s m args below meth c H locs cells slots Q (F0 m pc ls (.int (mI b) :: .int (mI a) :: rest)) := by
  refine lv_icmp_eq C.x C.b hdg ht (fun q => k1 ?_) (fun q => k2 ?_)
  · simp only [mI_eqm ha hb, ne_eq, Decidable.not_not] at q; first | exact q | omega
  · simp only [mI_eqm ha hb, ne_eq, Decidable.not_not] at q; first | exact q | omega
theorem bn_ne {a b tgt : Nat} {off : Int} (C : cX Γ p s m args meth c cc ret own nL) (ha : a < 2 ^ 31) (hb : b < 2 ^ 31) (hdg : decode cc pc = .ok (.if_icmp .ne off, 3)) (ht : (pc : Int) + off = (tgt : Int)) (k1 : ¬ a = b → W p l e R s m args below meth c H locs cells slots Q (F0 m tgt ls rest)) (k2 : a = b → W p l e R s m args below meth c H locs cells slots Q (F0 m (pc + 3) ls rest)) : W p l e R s m args below meth c H locs cells slots Q (F0 m pc ls (.int (mI b) :: .int (mI a) :: rest)) := by
  refine lv_icmp_ne C.x C.b hdg ht (fun q => k1 ?_) (fun q => k2 ?_)
  · simp only [mI_eqm ha hb, ne_eq, Decidable.not_not] at q; first | exact q | omega
  · simp only [mI_eqm ha hb, ne_eq, Decidable.not_not] at q; first | exact q | omega
end RW
