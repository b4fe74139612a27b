/-- what stays while the law runs -/
def lwC (l : Launch) (Γ : gG) (p : Program) (s : State) (m : MethodId) (meth : Method) (c : Code) (b L : Nat) (xs : Nat → Int32) : Prop :=
  cX Γ p s m #[Value.ref b] meth c code ret rn_L 8 ∧ nwX Γ s ∧ ncN s ∧ (va_X b L xs s s.heap ∧ b < s.heap.size ∧ ¬ aA Γ b) ∧ L ≤ 2560 ∧ l.stackTraces = false
set_option maxRecDepth 100000 in
set_option maxHeartbeats 4000000 in
theorem law_letters {p : Program} {l : Launch} {e : Env} {s : State} {m : MethodId} {below : List Frame} {meth : Method} {c : Code} {Q : State → Prop} {Γ : gG} {b L : Nat} {xs : Nat → Int32} {d : Nat → Nat} {hm : Nat} {mc : va_E} {so : Nat → Nat → Nat} {tl : Nat → Nat → Int64} {tb : Nat → Nat → Nat → Nat} {r : Nat → Nat} {ri : Nat → Nat → Nat} {rl : Nat → Nat → Int64} {o : Nat} {g : Nat → Int64} {i cells slots : Nat} {H : Heap} {locs : List Loc} {ls : Array Slot} (C0 : lwC l Γ p s m meth c b L xs) (hi : i + 5 ≤ L) (hc : cells + 20 ≤ 601024) (hsl : slots + 200 ≤ 7293034) (hJ : JS so tb ri) (h : sT Γ s (jW Γ d hm mc so tl tb r ri rl o g) H locs) (hl : lv_has ls 8 [(0, .ref b), (1, .ref (d 0)), (2, .ref (r 0)), (3, .ref o), (4, .int (nI i))]) (hk : ∀ (hm : Nat) (mc : va_E) (so : Nat → Nat → Nat) (tl : Nat → Nat → Int64) (tb : Nat → Nat → Nat → Nat) (ri : Nat → Nat → Nat) (rl : Nat → Nat → Int64) (g : Nat → Int64) (H : Heap) (locs : List Loc) (ls : Array Slot), JS so tb ri → sT Γ s (jW Γ d hm mc so tl tb r ri rl o g) H locs → lv_has ls 8 [(0, .ref b), (1, .ref (d 0)), (2, .ref (r 0)), (3, .ref o), (4, .int (nI i))] → W p l e room_1 s m #[Value.ref b] below meth c H locs (cells + 20) (slots + 200) Q (F0 m 1249 ls [])) : W p l e room_1 s m #[Value.ref b] below meth c H locs cells slots Q (F0 m 124 ls []) := by
  obtain ⟨C, hX, hN, hS, hL, hst⟩ := C0
  refine lv_aload_n C.x C.b dc_L_law_124 rfl (lv_at hl 1 rfl) ?_
  refine lv_aload_n C.x C.b dc_L_law_125 rfl (lv_at hl 0 rfl) ?_
  refine lv_iload C.x C.b dc_L_law_126 (lv_at hl 4 rfl) ?_
  refine lv_iconst (v := (nI 1)) C.x C.b dc_L_law_128 (by decide +kernel) ?_
  refine lv_iadd C.x C.b dc_L_law_129 ?_
  refine tp_i (nI_add i 1) ?_
  refine rg_sld C h hS  (by omega) (by omega) dc_L_law_130 ?_
  refine lv_aload_n C.x C.b dc_L_law_131 rfl (lv_at hl 3 rfl) ?_
  refine kv_SW (n := 3) (As := [.ref (d 0), .int (xs (i + 1)), .ref o]) (rest := []) C hX hN h hl.1 (c_L_letters l Γ d hm mc so tl tb _ o g (xs (i + 1)) hJ.1 hst) mc_L_letters ms_L_letters in_L lk_L_77 (by decide +kernel) rfl (by decide) (by show cells + 8 ≤ 601024 ∧ slots + 48 ≤ 7293034; omega) (Nat.le_of_ble_eq_true rfl) dc_L_law_132 (fun v u H locs hp h => ?_)
  obtain ⟨k, u, tl2, g2⟩ := u
  obtain ⟨rfl, hk3, hp⟩ := hp
  replace hk3 : k ≤ 2 := hk3
  replace h : sT Γ s (jW Γ d u.1 u.2.1 u.2.2.1 tl2 u.2.2.2 r ri rl o g2) _ _ := h
  refine W.eq (g2 := F0 m 135 ls [.int (nI k)]) rfl ?_
  refine lv_istore (lv' := [(5, .int (nI k)), (0, .ref b), (1, .ref (d 0)), (2, .ref (r 0)), (3, .ref o), (4, .int (nI i))]) C.x C.b dc_L_law_135 hl (by decide) rfl (fun ls hl => ?_)
  refine lv_aload_n C.x C.b dc_L_law_137 rfl (lv_at hl 3 rfl) ?_
  refine lv_aload_n C.x C.b dc_L_law_138 rfl (lv_at hl 1 rfl) ?_
  refine lv_iload C.x C.b dc_L_law_139 (lv_at hl 5 rfl) ?_
  refine lv_iconst (v := (nI 1)) C.x C.b dc_L_law_141 (by decide +kernel) ?_
  refine lv_iadd C.x C.b dc_L_law_142 ?_
  refine tp_i (nI_add i 1) ?_
  refine rg_sld C h hS  (by omega) (by omega) dc_L_law_143 ?_
  replace h := jw_r h
  refine kv_V (As := [.int (xs (i + 1))]) (rest := []) C h hl.1 (c_M_letters l Γ r ri rl _ (xs (i + 1)) hJ.2.1) mw_M_letters lk_L_82 (q0 := 0) rfl rfl rfl (by decide) (by show cells + 8 + 0 ≤ 601024 ∧ slots + 48 + 0 ≤ 7293034; omega) (Nat.le_of_ble_eq_true rfl) dc_L_law_144 (fun v u2 H locs hp2 h => ?_)
  have J := jn_letters hJ hp hp2
  obtain ⟨hJ2, J2, x, rfl, J3⟩ := J
  replace J2 : u2 20 0 = k := J2
  replace J3 : k = 0 → g2 0 = x.toInt64 := J3
  replace h : sT Γ s (rW Γ r u2 rl (xW Γ d u.1 u.2.1 u.2.2.1 tl2 u.2.2.2 [(o, oE Γ g2)])) _ _ := h
  refine W.eq (g2 := F0 m 147 ls [.int x]) rfl ?_
  refine lv_istore (lv' := [(6, .int x), (5, .int (nI k)), (0, .ref b), (1, .ref (d 0)), (2, .ref (r 0)), (3, .ref o), (4, .int (nI i))]) C.x C.b dc_L_law_147 hl (by decide) rfl (fun ls hl => ?_)
  refine lv_aload_n C.x C.b dc_L_law_149 rfl (lv_at hl 4 rfl) ?_
  refine kv_V (As := []) (rest := []) C h hl.1 (c_M_thrown l Γ r u2 rl _) mw_M_thrown lk_L_83 (q0 := 0) rfl rfl rfl (by decide) (by show cells + 8 + 0 + 0 ≤ 601024 ∧ slots + 48 + 0 + 0 ≤ 7293034; omega) (Nat.le_of_ble_eq_true rfl) dc_L_law_150 (fun v _ H locs hp3 h => ?_)
  obtain rfl := hp3
  replace h : sT Γ s (rW Γ r u2 rl (xW Γ d u.1 u.2.1 u.2.2.1 tl2 u.2.2.2 [(o, oE Γ g2)])) _ _ := h
  refine W.eq (g2 := F0 m 153 ls [.int (nI (u2 20 0))]) rfl ?_
  refine lv_iload C.x C.b dc_L_law_153 (lv_at hl 1 rfl) ?_
  refine bc_eq (tgt := 160) C (by omega) (by omega) dc_L_law_155 (by decide) (fun q155 => ?_) (fun q155 => ?_)
  · refine lv_iload C.x C.b dc_L_law_160 (lv_at hl 1 rfl) ?_
    refine bz_ne (tgt := 177) C (by omega) dc_L_law_162 (by decide) (fun q162 => ?_) (fun q162 => ?_)
    · refine lv_goto (tgt := 1249) C.x C.b dc_L_law_177 (by decide) ?_
      replace h := jr_w h
      refine W.widen (k := cells + 20) (n := slots + 200) (by show cells + 8 + 0 + 0 ≤ cells + 20; omega) (by show slots + 48 + 0 + 0 ≤ slots + 200; omega) ?_
      exact hk _ _ _ _ _ _ _ _ _ _ _ hJ2 h (lv_sub hl [2, 3, 4, 5, 6] rfl)
    · refine lv_aload_n C.x C.b dc_L_law_165 rfl (lv_at hl 5 rfl) ?_
      refine lv_iconst (v := (nI 0)) C.x C.b dc_L_law_166 (by decide +kernel) ?_
      replace h := jr_w h
      refine rg_lld C h 257 lk_o (by omega) (by decide) dc_L_law_167 ?_
      refine lv_iload C.x C.b dc_L_law_168 (lv_at hl 0 rfl) ?_
      refine lv_i2l C.x C.b dc_L_law_170 rfl ?_
      refine W.lcmp C.x C.b dc_L_law_171 ?_
      refine lv_if_eq (tgt := 177) C.x C.b dc_L_law_172 (by decide) (fun q172 => ?_) (fun q172 => ?_)
      · refine lv_goto (tgt := 1249) C.x C.b dc_L_law_177 (by decide) ?_
        refine W.widen (k := cells + 20) (n := slots + 200) (by show cells + 8 + 0 + 0 ≤ cells + 20; omega) (by show slots + 48 + 0 + 0 ≤ slots + 200; omega) ?_
        exact hk _ _ _ _ _ _ _ _ _ _ _ hJ2 h (lv_sub hl [2, 3, 4, 5, 6] rfl)
      · exact absurd (by rw [J3 q162]; exact lg_rf _) q172
  · exact absurd J2 q155

set_option maxRecDepth 100000 in
set_option maxHeartbeats 4000000 in
theorem law_empty {p : Program} {l : Launch} {e : Env} {s : State} {m : MethodId} {below : List Frame} {meth : Method} {c : Code} {Q : State → Prop} {Γ : gG} {b L : Nat} {xs : Nat → Int32} {d : Nat → Nat} {hm : Nat} {mc : va_E} {so : Nat → Nat → Nat} {tl : Nat → Nat → Int64} {tb : Nat → Nat → Nat → Nat} {r : Nat → Nat} {ri : Nat → Nat → Nat} {rl : Nat → Nat → Int64} {o : Nat} {g : Nat → Int64} {i cells slots : Nat} {H : Heap} {locs : List Loc} {ls : Array Slot} (C0 : lwC l Γ p s m meth c b L xs) (hi : i + 5 ≤ L) (hc : cells + 20 ≤ 601024) (hsl : slots + 200 ≤ 7293034) (hJ : JS so tb ri) (h : sT Γ s (jW Γ d hm mc so tl tb r ri rl o g) H locs) (hl : lv_has ls 8 [(0, .ref b), (1, .ref (d 0)), (2, .ref (r 0)), (3, .ref o), (4, .int (nI i))]) (hk : ∀ (hm : Nat) (mc : va_E) (so : Nat → Nat → Nat) (tl : Nat → Nat → Int64) (tb : Nat → Nat → Nat → Nat) (ri : Nat → Nat → Nat) (rl : Nat → Nat → Int64) (g : Nat → Int64) (H : Heap) (locs : List Loc) (ls : Array Slot), JS so tb ri → sT Γ s (jW Γ d hm mc so tl tb r ri rl o g) H locs → lv_has ls 8 [(0, .ref b), (1, .ref (d 0)), (2, .ref (r 0)), (3, .ref o), (4, .int (nI i))] → W p l e room_1 s m #[Value.ref b] below meth c H locs (cells + 20) (slots + 200) Q (F0 m 1249 ls [])) : W p l e room_1 s m #[Value.ref b] below meth c H locs cells slots Q (F0 m 180 ls []) := by
  obtain ⟨C, hX, hN, hS, hL, hst⟩ := C0
  refine lv_aload_n C.x C.b dc_L_law_180 rfl (lv_at hl 1 rfl) ?_
  refine lv_aload_n C.x C.b dc_L_law_181 rfl (lv_at hl 3 rfl) ?_
  refine kv_SW (n := 2) (As := [.ref (d 0), .ref o]) (rest := []) C hX hN h hl.1 (c_L_empty l Γ d hm mc so tl tb _ o g  hJ.1 hst) mc_L_empty ms_L_empty in_L lk_L_86 (by decide +kernel) rfl (by decide) (by show cells + 8 ≤ 601024 ∧ slots + 48 ≤ 7293034; omega) (Nat.le_of_ble_eq_true rfl) dc_L_law_182 (fun v u H locs hp h => ?_)
  obtain ⟨k, u, tl2, g2⟩ := u
  obtain ⟨rfl, hk3, hp⟩ := hp
  replace hk3 : k ≤ 2 := hk3
  replace h : sT Γ s (jW Γ d u.1 u.2.1 u.2.2.1 tl2 u.2.2.2 r ri rl o g2) _ _ := h
  refine W.eq (g2 := F0 m 185 ls [.int (nI k)]) rfl ?_
  refine lv_istore (lv' := [(5, .int (nI k)), (0, .ref b), (1, .ref (d 0)), (2, .ref (r 0)), (3, .ref o), (4, .int (nI i))]) C.x C.b dc_L_law_185 hl (by decide) rfl (fun ls hl => ?_)
  refine lv_aload_n C.x C.b dc_L_law_187 rfl (lv_at hl 3 rfl) ?_
  replace h := jw_r h
  refine kv_V (As := []) (rest := []) C h hl.1 (c_M_empty l Γ r ri rl _  hJ.2.1) mw_M_empty lk_L_89 (q0 := 0) rfl rfl rfl (by decide) (by show cells + 8 + 0 ≤ 601024 ∧ slots + 48 + 0 ≤ 7293034; omega) (Nat.le_of_ble_eq_true rfl) dc_L_law_188 (fun v u2 H locs hp2 h => ?_)
  have J := jn_empty hJ hp hp2
  obtain ⟨hJ2, J2, x, rfl, J3⟩ := J
  replace J2 : u2 20 0 = k := J2
  replace J3 : k = 0 → g2 0 = x.toInt64 := J3
  replace h : sT Γ s (rW Γ r u2 rl (xW Γ d u.1 u.2.1 u.2.2.1 tl2 u.2.2.2 [(o, oE Γ g2)])) _ _ := h
  refine W.eq (g2 := F0 m 191 ls [.int x]) rfl ?_
  refine lv_istore (lv' := [(6, .int x), (5, .int (nI k)), (0, .ref b), (1, .ref (d 0)), (2, .ref (r 0)), (3, .ref o), (4, .int (nI i))]) C.x C.b dc_L_law_191 hl (by decide) rfl (fun ls hl => ?_)
  refine lv_aload_n C.x C.b dc_L_law_193 rfl (lv_at hl 4 rfl) ?_
  refine kv_V (As := []) (rest := []) C h hl.1 (c_M_thrown l Γ r u2 rl _) mw_M_thrown lk_L_83 (q0 := 0) rfl rfl rfl (by decide) (by show cells + 8 + 0 + 0 ≤ 601024 ∧ slots + 48 + 0 + 0 ≤ 7293034; omega) (Nat.le_of_ble_eq_true rfl) dc_L_law_194 (fun v _ H locs hp3 h => ?_)
  obtain rfl := hp3
  replace h : sT Γ s (rW Γ r u2 rl (xW Γ d u.1 u.2.1 u.2.2.1 tl2 u.2.2.2 [(o, oE Γ g2)])) _ _ := h
  refine W.eq (g2 := F0 m 197 ls [.int (nI (u2 20 0))]) rfl ?_
  refine lv_iload C.x C.b dc_L_law_197 (lv_at hl 1 rfl) ?_
  refine bc_eq (tgt := 204) C (by omega) (by omega) dc_L_law_199 (by decide) (fun q199 => ?_) (fun q199 => ?_)
  · refine lv_iload C.x C.b dc_L_law_204 (lv_at hl 1 rfl) ?_
    refine bz_ne (tgt := 221) C (by omega) dc_L_law_206 (by decide) (fun q206 => ?_) (fun q206 => ?_)
    · refine lv_goto (tgt := 1249) C.x C.b dc_L_law_221 (by decide) ?_
      replace h := jr_w h
      refine W.widen (k := cells + 20) (n := slots + 200) (by show cells + 8 + 0 + 0 ≤ cells + 20; omega) (by show slots + 48 + 0 + 0 ≤ slots + 200; omega) ?_
      exact hk _ _ _ _ _ _ _ _ _ _ _ hJ2 h (lv_sub hl [2, 3, 4, 5, 6] rfl)
    · refine lv_aload_n C.x C.b dc_L_law_209 rfl (lv_at hl 5 rfl) ?_
      refine lv_iconst (v := (nI 0)) C.x C.b dc_L_law_210 (by decide +kernel) ?_
      replace h := jr_w h
      refine rg_lld C h 257 lk_o (by omega) (by decide) dc_L_law_211 ?_
      refine lv_iload C.x C.b dc_L_law_212 (lv_at hl 0 rfl) ?_
      refine lv_i2l C.x C.b dc_L_law_214 rfl ?_
      refine W.lcmp C.x C.b dc_L_law_215 ?_
      refine lv_if_eq (tgt := 221) C.x C.b dc_L_law_216 (by decide) (fun q216 => ?_) (fun q216 => ?_)
      · refine lv_goto (tgt := 1249) C.x C.b dc_L_law_221 (by decide) ?_
        refine W.widen (k := cells + 20) (n := slots + 200) (by show cells + 8 + 0 + 0 ≤ cells + 20; omega) (by show slots + 48 + 0 + 0 ≤ slots + 200; omega) ?_
        exact hk _ _ _ _ _ _ _ _ _ _ _ hJ2 h (lv_sub hl [2, 3, 4, 5, 6] rfl)
      · exact absurd (by rw [J3 q206]; exact lg_rf _) q216
  · exact absurd J2 q199

set_option maxRecDepth 100000 in
set_option maxHeartbeats 4000000 in
theorem law_then {p : Program} {l : Launch} {e : Env} {s : State} {m : MethodId} {below : List Frame} {meth : Method} {c : Code} {Q : State → Prop} {Γ : gG} {b L : Nat} {xs : Nat → Int32} {d : Nat → Nat} {hm : Nat} {mc : va_E} {so : Nat → Nat → Nat} {tl : Nat → Nat → Int64} {tb : Nat → Nat → Nat → Nat} {r : Nat → Nat} {ri : Nat → Nat → Nat} {rl : Nat → Nat → Int64} {o : Nat} {g : Nat → Int64} {i cells slots : Nat} {H : Heap} {locs : List Loc} {ls : Array Slot} (C0 : lwC l Γ p s m meth c b L xs) (hi : i + 5 ≤ L) (hc : cells + 20 ≤ 601024) (hsl : slots + 200 ≤ 7293034) (hJ : JS so tb ri) (h : sT Γ s (jW Γ d hm mc so tl tb r ri rl o g) H locs) (hl : lv_has ls 8 [(0, .ref b), (1, .ref (d 0)), (2, .ref (r 0)), (3, .ref o), (4, .int (nI i))]) (hk : ∀ (hm : Nat) (mc : va_E) (so : Nat → Nat → Nat) (tl : Nat → Nat → Int64) (tb : Nat → Nat → Nat → Nat) (ri : Nat → Nat → Nat) (rl : Nat → Nat → Int64) (g : Nat → Int64) (H : Heap) (locs : List Loc) (ls : Array Slot), JS so tb ri → sT Γ s (jW Γ d hm mc so tl tb r ri rl o g) H locs → lv_has ls 8 [(0, .ref b), (1, .ref (d 0)), (2, .ref (r 0)), (3, .ref o), (4, .int (nI i))] → W p l e room_1 s m #[Value.ref b] below meth c H locs (cells + 20) (slots + 200) Q (F0 m 1249 ls [])) : W p l e room_1 s m #[Value.ref b] below meth c H locs cells slots Q (F0 m 224 ls []) := by
  obtain ⟨C, hX, hN, hS, hL, hst⟩ := C0
  refine lv_aload_n C.x C.b dc_L_law_224 rfl (lv_at hl 1 rfl) ?_
  refine lv_aload_n C.x C.b dc_L_law_225 rfl (lv_at hl 0 rfl) ?_
  refine lv_iload C.x C.b dc_L_law_226 (lv_at hl 4 rfl) ?_
  refine lv_iconst (v := (nI 1)) C.x C.b dc_L_law_228 (by decide +kernel) ?_
  refine lv_iadd C.x C.b dc_L_law_229 ?_
  refine tp_i (nI_add i 1) ?_
  refine rg_sld C h hS  (by omega) (by omega) dc_L_law_230 ?_
  refine lv_aload_n C.x C.b dc_L_law_231 rfl (lv_at hl 0 rfl) ?_
  refine lv_iload C.x C.b dc_L_law_232 (lv_at hl 4 rfl) ?_
  refine lv_iconst (v := (nI 2)) C.x C.b dc_L_law_234 (by decide +kernel) ?_
  refine lv_iadd C.x C.b dc_L_law_235 ?_
  refine tp_i (nI_add i 2) ?_
  refine rg_sld C h hS  (by omega) (by omega) dc_L_law_236 ?_
  refine lv_aload_n C.x C.b dc_L_law_237 rfl (lv_at hl 3 rfl) ?_
  refine kv_SW (n := 4) (As := [.ref (d 0), .int (xs (i + 1)), .int (xs (i + 2)), .ref o]) (rest := []) C hX hN h hl.1 (c_L_then l Γ d hm mc so tl tb _ o g (xs (i + 1)) (xs (i + 2)) hJ.1 hst) mc_L_then ms_L_then in_L lk_L_90 (by decide +kernel) rfl (by decide) (by show cells + 8 ≤ 601024 ∧ slots + 48 ≤ 7293034; omega) (Nat.le_of_ble_eq_true rfl) dc_L_law_238 (fun v u H locs hp h => ?_)
  obtain ⟨k, u, tl2, g2⟩ := u
  obtain ⟨rfl, hk3, hp⟩ := hp
  replace hk3 : k ≤ 2 := hk3
  replace h : sT Γ s (jW Γ d u.1 u.2.1 u.2.2.1 tl2 u.2.2.2 r ri rl o g2) _ _ := h
  refine W.eq (g2 := F0 m 241 ls [.int (nI k)]) rfl ?_
  refine lv_istore (lv' := [(5, .int (nI k)), (0, .ref b), (1, .ref (d 0)), (2, .ref (r 0)), (3, .ref o), (4, .int (nI i))]) C.x C.b dc_L_law_241 hl (by decide) rfl (fun ls hl => ?_)
  refine lv_aload_n C.x C.b dc_L_law_243 rfl (lv_at hl 3 rfl) ?_
  refine lv_aload_n C.x C.b dc_L_law_244 rfl (lv_at hl 1 rfl) ?_
  refine lv_iload C.x C.b dc_L_law_245 (lv_at hl 5 rfl) ?_
  refine lv_iconst (v := (nI 1)) C.x C.b dc_L_law_247 (by decide +kernel) ?_
  refine lv_iadd C.x C.b dc_L_law_248 ?_
  refine tp_i (nI_add i 1) ?_
  refine rg_sld C h hS  (by omega) (by omega) dc_L_law_249 ?_
  refine lv_aload_n C.x C.b dc_L_law_250 rfl (lv_at hl 1 rfl) ?_
  refine lv_iload C.x C.b dc_L_law_251 (lv_at hl 5 rfl) ?_
  refine lv_iconst (v := (nI 2)) C.x C.b dc_L_law_253 (by decide +kernel) ?_
  refine lv_iadd C.x C.b dc_L_law_254 ?_
  refine tp_i (nI_add i 2) ?_
  refine rg_sld C h hS  (by omega) (by omega) dc_L_law_255 ?_
  replace h := jw_r h
  refine kv_V (As := [.int (xs (i + 1)), .int (xs (i + 2))]) (rest := []) C h hl.1 (c_M_then l Γ r ri rl _ (xs (i + 1)) (xs (i + 2)) hJ.2.1) mw_M_then lk_L_93 (q0 := 0) rfl rfl rfl (by decide) (by show cells + 8 + 0 ≤ 601024 ∧ slots + 48 + 0 ≤ 7293034; omega) (Nat.le_of_ble_eq_true rfl) dc_L_law_256 (fun v u2 H locs hp2 h => ?_)
  have J := jn_then hJ hp hp2
  obtain ⟨hJ2, J2, x, rfl, J3⟩ := J
  replace J2 : u2 20 0 = k := J2
  replace J3 : k = 0 → g2 0 = x.toInt64 := J3
  replace h : sT Γ s (rW Γ r u2 rl (xW Γ d u.1 u.2.1 u.2.2.1 tl2 u.2.2.2 [(o, oE Γ g2)])) _ _ := h
  refine W.eq (g2 := F0 m 259 ls [.int x]) rfl ?_
  refine lv_istore (lv' := [(6, .int x), (5, .int (nI k)), (0, .ref b), (1, .ref (d 0)), (2, .ref (r 0)), (3, .ref o), (4, .int (nI i))]) C.x C.b dc_L_law_259 hl (by decide) rfl (fun ls hl => ?_)
  refine lv_aload_n C.x C.b dc_L_law_261 rfl (lv_at hl 4 rfl) ?_
  refine kv_V (As := []) (rest := []) C h hl.1 (c_M_thrown l Γ r u2 rl _) mw_M_thrown lk_L_83 (q0 := 0) rfl rfl rfl (by decide) (by show cells + 8 + 0 + 0 ≤ 601024 ∧ slots + 48 + 0 + 0 ≤ 7293034; omega) (Nat.le_of_ble_eq_true rfl) dc_L_law_262 (fun v _ H locs hp3 h => ?_)
  obtain rfl := hp3
  replace h : sT Γ s (rW Γ r u2 rl (xW Γ d u.1 u.2.1 u.2.2.1 tl2 u.2.2.2 [(o, oE Γ g2)])) _ _ := h
  refine W.eq (g2 := F0 m 265 ls [.int (nI (u2 20 0))]) rfl ?_
  refine lv_iload C.x C.b dc_L_law_265 (lv_at hl 1 rfl) ?_
  refine bc_eq (tgt := 272) C (by omega) (by omega) dc_L_law_267 (by decide) (fun q267 => ?_) (fun q267 => ?_)
  · refine lv_iload C.x C.b dc_L_law_272 (lv_at hl 1 rfl) ?_
    refine bz_ne (tgt := 289) C (by omega) dc_L_law_274 (by decide) (fun q274 => ?_) (fun q274 => ?_)
    · refine lv_goto (tgt := 1249) C.x C.b dc_L_law_289 (by decide) ?_
      replace h := jr_w h
      refine W.widen (k := cells + 20) (n := slots + 200) (by show cells + 8 + 0 + 0 ≤ cells + 20; omega) (by show slots + 48 + 0 + 0 ≤ slots + 200; omega) ?_
      exact hk _ _ _ _ _ _ _ _ _ _ _ hJ2 h (lv_sub hl [2, 3, 4, 5, 6] rfl)
    · refine lv_aload_n C.x C.b dc_L_law_277 rfl (lv_at hl 5 rfl) ?_
      refine lv_iconst (v := (nI 0)) C.x C.b dc_L_law_278 (by decide +kernel) ?_
      replace h := jr_w h
      refine rg_lld C h 257 lk_o (by omega) (by decide) dc_L_law_279 ?_
      refine lv_iload C.x C.b dc_L_law_280 (lv_at hl 0 rfl) ?_
      refine lv_i2l C.x C.b dc_L_law_282 rfl ?_
      refine W.lcmp C.x C.b dc_L_law_283 ?_
      refine lv_if_eq (tgt := 289) C.x C.b dc_L_law_284 (by decide) (fun q284 => ?_) (fun q284 => ?_)
      · refine lv_goto (tgt := 1249) C.x C.b dc_L_law_289 (by decide) ?_
        refine W.widen (k := cells + 20) (n := slots + 200) (by show cells + 8 + 0 + 0 ≤ cells + 20; omega) (by show slots + 48 + 0 + 0 ≤ slots + 200; omega) ?_
        exact hk _ _ _ _ _ _ _ _ _ _ _ hJ2 h (lv_sub hl [2, 3, 4, 5, 6] rfl)
      · exact absurd (by rw [J3 q274]; exact lg_rf _) q284
  · exact absurd J2 q267

set_option maxRecDepth 100000 in
set_option maxHeartbeats 4000000 in
theorem law_both {p : Program} {l : Launch} {e : Env} {s : State} {m : MethodId} {below : List Frame} {meth : Method} {c : Code} {Q : State → Prop} {Γ : gG} {b L : Nat} {xs : Nat → Int32} {d : Nat → Nat} {hm : Nat} {mc : va_E} {so : Nat → Nat → Nat} {tl : Nat → Nat → Int64} {tb : Nat → Nat → Nat → Nat} {r : Nat → Nat} {ri : Nat → Nat → Nat} {rl : Nat → Nat → Int64} {o : Nat} {g : Nat → Int64} {i cells slots : Nat} {H : Heap} {locs : List Loc} {ls : Array Slot} (C0 : lwC l Γ p s m meth c b L xs) (hi : i + 5 ≤ L) (hc : cells + 20 ≤ 601024) (hsl : slots + 200 ≤ 7293034) (hJ : JS so tb ri) (h : sT Γ s (jW Γ d hm mc so tl tb r ri rl o g) H locs) (hl : lv_has ls 8 [(0, .ref b), (1, .ref (d 0)), (2, .ref (r 0)), (3, .ref o), (4, .int (nI i))]) (hk : ∀ (hm : Nat) (mc : va_E) (so : Nat → Nat → Nat) (tl : Nat → Nat → Int64) (tb : Nat → Nat → Nat → Nat) (ri : Nat → Nat → Nat) (rl : Nat → Nat → Int64) (g : Nat → Int64) (H : Heap) (locs : List Loc) (ls : Array Slot), JS so tb ri → sT Γ s (jW Γ d hm mc so tl tb r ri rl o g) H locs → lv_has ls 8 [(0, .ref b), (1, .ref (d 0)), (2, .ref (r 0)), (3, .ref o), (4, .int (nI i))] → W p l e room_1 s m #[Value.ref b] below meth c H locs (cells + 20) (slots + 200) Q (F0 m 1249 ls [])) : W p l e room_1 s m #[Value.ref b] below meth c H locs cells slots Q (F0 m 292 ls []) := by
  obtain ⟨C, hX, hN, hS, hL, hst⟩ := C0
  refine lv_aload_n C.x C.b dc_L_law_292 rfl (lv_at hl 1 rfl) ?_
  refine lv_aload_n C.x C.b dc_L_law_293 rfl (lv_at hl 0 rfl) ?_
  refine lv_iload C.x C.b dc_L_law_294 (lv_at hl 4 rfl) ?_
  refine lv_iconst (v := (nI 1)) C.x C.b dc_L_law_296 (by decide +kernel) ?_
  refine lv_iadd C.x C.b dc_L_law_297 ?_
  refine tp_i (nI_add i 1) ?_
  refine rg_sld C h hS  (by omega) (by omega) dc_L_law_298 ?_
  refine lv_aload_n C.x C.b dc_L_law_299 rfl (lv_at hl 0 rfl) ?_
  refine lv_iload C.x C.b dc_L_law_300 (lv_at hl 4 rfl) ?_
  refine lv_iconst (v := (nI 2)) C.x C.b dc_L_law_302 (by decide +kernel) ?_
  refine lv_iadd C.x C.b dc_L_law_303 ?_
  refine tp_i (nI_add i 2) ?_
  refine rg_sld C h hS  (by omega) (by omega) dc_L_law_304 ?_
  refine lv_aload_n C.x C.b dc_L_law_305 rfl (lv_at hl 0 rfl) ?_
  refine lv_iload C.x C.b dc_L_law_306 (lv_at hl 4 rfl) ?_
  refine lv_iconst (v := (nI 3)) C.x C.b dc_L_law_308 (by decide +kernel) ?_
  refine lv_iadd C.x C.b dc_L_law_309 ?_
  refine tp_i (nI_add i 3) ?_
  refine rg_sld C h hS  (by omega) (by omega) dc_L_law_310 ?_
  refine lv_aload_n C.x C.b dc_L_law_311 rfl (lv_at hl 3 rfl) ?_
  refine kv_SW (n := 5) (As := [.ref (d 0), .int (xs (i + 1)), .int (xs (i + 2)), .int (xs (i + 3)), .ref o]) (rest := []) C hX hN h hl.1 (c_L_both l Γ d hm mc so tl tb _ o g (xs (i + 1)) (xs (i + 2)) (xs (i + 3)) hJ.1 hst) mc_L_both ms_L_both in_L lk_L_94 (by decide +kernel) rfl (by decide) (by show cells + 8 ≤ 601024 ∧ slots + 48 ≤ 7293034; omega) (Nat.le_of_ble_eq_true rfl) dc_L_law_312 (fun v u H locs hp h => ?_)
  obtain ⟨k, u, tl2, g2⟩ := u
  obtain ⟨rfl, hk3, hp⟩ := hp
  replace hk3 : k ≤ 2 := hk3
  replace h : sT Γ s (jW Γ d u.1 u.2.1 u.2.2.1 tl2 u.2.2.2 r ri rl o g2) _ _ := h
  refine W.eq (g2 := F0 m 315 ls [.int (nI k)]) rfl ?_
  refine lv_istore (lv' := [(5, .int (nI k)), (0, .ref b), (1, .ref (d 0)), (2, .ref (r 0)), (3, .ref o), (4, .int (nI i))]) C.x C.b dc_L_law_315 hl (by decide) rfl (fun ls hl => ?_)
  refine lv_aload_n C.x C.b dc_L_law_317 rfl (lv_at hl 3 rfl) ?_
  refine lv_aload_n C.x C.b dc_L_law_318 rfl (lv_at hl 1 rfl) ?_
  refine lv_iload C.x C.b dc_L_law_319 (lv_at hl 5 rfl) ?_
  refine lv_iconst (v := (nI 1)) C.x C.b dc_L_law_321 (by decide +kernel) ?_
  refine lv_iadd C.x C.b dc_L_law_322 ?_
  refine tp_i (nI_add i 1) ?_
  refine rg_sld C h hS  (by omega) (by omega) dc_L_law_323 ?_
  refine lv_aload_n C.x C.b dc_L_law_324 rfl (lv_at hl 1 rfl) ?_
  refine lv_iload C.x C.b dc_L_law_325 (lv_at hl 5 rfl) ?_
  refine lv_iconst (v := (nI 2)) C.x C.b dc_L_law_327 (by decide +kernel) ?_
  refine lv_iadd C.x C.b dc_L_law_328 ?_
  refine tp_i (nI_add i 2) ?_
  refine rg_sld C h hS  (by omega) (by omega) dc_L_law_329 ?_
  refine lv_aload_n C.x C.b dc_L_law_330 rfl (lv_at hl 1 rfl) ?_
  refine lv_iload C.x C.b dc_L_law_331 (lv_at hl 5 rfl) ?_
  refine lv_iconst (v := (nI 3)) C.x C.b dc_L_law_333 (by decide +kernel) ?_
  refine lv_iadd C.x C.b dc_L_law_334 ?_
  refine tp_i (nI_add i 3) ?_
  refine rg_sld C h hS  (by omega) (by omega) dc_L_law_335 ?_
  replace h := jw_r h
  refine kv_V (As := [.int (xs (i + 1)), .int (xs (i + 2)), .int (xs (i + 3))]) (rest := []) C h hl.1 (c_M_both l Γ r ri rl _ (xs (i + 1)) (xs (i + 2)) (xs (i + 3)) hJ.2.1) mw_M_both lk_L_97 (q0 := 0) rfl rfl rfl (by decide) (by show cells + 8 + 0 ≤ 601024 ∧ slots + 48 + 0 ≤ 7293034; omega) (Nat.le_of_ble_eq_true rfl) dc_L_law_336 (fun v u2 H locs hp2 h => ?_)
  have J := jn_both hJ hp hp2
  obtain ⟨hJ2, J2, x, rfl, J3⟩ := J
  replace J2 : u2 20 0 = k := J2
  replace J3 : k = 0 → g2 0 = x.toInt64 := J3
  replace h : sT Γ s (rW Γ r u2 rl (xW Γ d u.1 u.2.1 u.2.2.1 tl2 u.2.2.2 [(o, oE Γ g2)])) _ _ := h
  refine W.eq (g2 := F0 m 339 ls [.int x]) rfl ?_
  refine lv_istore (lv' := [(6, .int x), (5, .int (nI k)), (0, .ref b), (1, .ref (d 0)), (2, .ref (r 0)), (3, .ref o), (4, .int (nI i))]) C.x C.b dc_L_law_339 hl (by decide) rfl (fun ls hl => ?_)
  refine lv_aload_n C.x C.b dc_L_law_341 rfl (lv_at hl 4 rfl) ?_
  refine kv_V (As := []) (rest := []) C h hl.1 (c_M_thrown l Γ r u2 rl _) mw_M_thrown lk_L_83 (q0 := 0) rfl rfl rfl (by decide) (by show cells + 8 + 0 + 0 ≤ 601024 ∧ slots + 48 + 0 + 0 ≤ 7293034; omega) (Nat.le_of_ble_eq_true rfl) dc_L_law_342 (fun v _ H locs hp3 h => ?_)
  obtain rfl := hp3
  replace h : sT Γ s (rW Γ r u2 rl (xW Γ d u.1 u.2.1 u.2.2.1 tl2 u.2.2.2 [(o, oE Γ g2)])) _ _ := h
  refine W.eq (g2 := F0 m 345 ls [.int (nI (u2 20 0))]) rfl ?_
  refine lv_iload C.x C.b dc_L_law_345 (lv_at hl 1 rfl) ?_
  refine bc_eq (tgt := 352) C (by omega) (by omega) dc_L_law_347 (by decide) (fun q347 => ?_) (fun q347 => ?_)
  · refine lv_iload C.x C.b dc_L_law_352 (lv_at hl 1 rfl) ?_
    refine bz_ne (tgt := 369) C (by omega) dc_L_law_354 (by decide) (fun q354 => ?_) (fun q354 => ?_)
    · refine lv_goto (tgt := 1249) C.x C.b dc_L_law_369 (by decide) ?_
      replace h := jr_w h
      refine W.widen (k := cells + 20) (n := slots + 200) (by show cells + 8 + 0 + 0 ≤ cells + 20; omega) (by show slots + 48 + 0 + 0 ≤ slots + 200; omega) ?_
      exact hk _ _ _ _ _ _ _ _ _ _ _ hJ2 h (lv_sub hl [2, 3, 4, 5, 6] rfl)
    · refine lv_aload_n C.x C.b dc_L_law_357 rfl (lv_at hl 5 rfl) ?_
      refine lv_iconst (v := (nI 0)) C.x C.b dc_L_law_358 (by decide +kernel) ?_
      replace h := jr_w h
      refine rg_lld C h 257 lk_o (by omega) (by decide) dc_L_law_359 ?_
      refine lv_iload C.x C.b dc_L_law_360 (lv_at hl 0 rfl) ?_
      refine lv_i2l C.x C.b dc_L_law_362 rfl ?_
      refine W.lcmp C.x C.b dc_L_law_363 ?_
      refine lv_if_eq (tgt := 369) C.x C.b dc_L_law_364 (by decide) (fun q364 => ?_) (fun q364 => ?_)
      · refine lv_goto (tgt := 1249) C.x C.b dc_L_law_369 (by decide) ?_
        refine W.widen (k := cells + 20) (n := slots + 200) (by show cells + 8 + 0 + 0 ≤ cells + 20; omega) (by show slots + 48 + 0 + 0 ≤ slots + 200; omega) ?_
        exact hk _ _ _ _ _ _ _ _ _ _ _ hJ2 h (lv_sub hl [2, 3, 4, 5, 6] rfl)
      · exact absurd (by rw [J3 q354]; exact lg_rf _) q364
  · exact absurd J2 q347

set_option maxRecDepth 100000 in
set_option maxHeartbeats 4000000 in
theorem law_many {p : Program} {l : Launch} {e : Env} {s : State} {m : MethodId} {below : List Frame} {meth : Method} {c : Code} {Q : State → Prop} {Γ : gG} {b L : Nat} {xs : Nat → Int32} {d : Nat → Nat} {hm : Nat} {mc : va_E} {so : Nat → Nat → Nat} {tl : Nat → Nat → Int64} {tb : Nat → Nat → Nat → Nat} {r : Nat → Nat} {ri : Nat → Nat → Nat} {rl : Nat → Nat → Int64} {o : Nat} {g : Nat → Int64} {i cells slots : Nat} {H : Heap} {locs : List Loc} {ls : Array Slot} (C0 : lwC l Γ p s m meth c b L xs) (hi : i + 5 ≤ L) (hc : cells + 20 ≤ 601024) (hsl : slots + 200 ≤ 7293034) (hJ : JS so tb ri) (h : sT Γ s (jW Γ d hm mc so tl tb r ri rl o g) H locs) (hl : lv_has ls 8 [(0, .ref b), (1, .ref (d 0)), (2, .ref (r 0)), (3, .ref o), (4, .int (nI i))]) (hk : ∀ (hm : Nat) (mc : va_E) (so : Nat → Nat → Nat) (tl : Nat → Nat → Int64) (tb : Nat → Nat → Nat → Nat) (ri : Nat → Nat → Nat) (rl : Nat → Nat → Int64) (g : Nat → Int64) (H : Heap) (locs : List Loc) (ls : Array Slot), JS so tb ri → sT Γ s (jW Γ d hm mc so tl tb r ri rl o g) H locs → lv_has ls 8 [(0, .ref b), (1, .ref (d 0)), (2, .ref (r 0)), (3, .ref o), (4, .int (nI i))] → W p l e room_1 s m #[Value.ref b] below meth c H locs (cells + 20) (slots + 200) Q (F0 m 1249 ls [])) : W p l e room_1 s m #[Value.ref b] below meth c H locs cells slots Q (F0 m 372 ls []) := by
  obtain ⟨C, hX, hN, hS, hL, hst⟩ := C0
  refine lv_aload_n C.x C.b dc_L_law_372 rfl (lv_at hl 1 rfl) ?_
  refine lv_aload_n C.x C.b dc_L_law_373 rfl (lv_at hl 0 rfl) ?_
  refine lv_iload C.x C.b dc_L_law_374 (lv_at hl 4 rfl) ?_
  refine lv_iconst (v := (nI 1)) C.x C.b dc_L_law_376 (by decide +kernel) ?_
  refine lv_iadd C.x C.b dc_L_law_377 ?_
  refine tp_i (nI_add i 1) ?_
  refine rg_sld C h hS  (by omega) (by omega) dc_L_law_378 ?_
  refine lv_aload_n C.x C.b dc_L_law_379 rfl (lv_at hl 3 rfl) ?_
  refine kv_SW (n := 3) (As := [.ref (d 0), .int (xs (i + 1)), .ref o]) (rest := []) C hX hN h hl.1 (c_L_many l Γ d hm mc so tl tb _ o g (xs (i + 1)) hJ.1 hst) mc_L_many ms_L_many in_L lk_L_98 (by decide +kernel) rfl (by decide) (by show cells + 8 ≤ 601024 ∧ slots + 48 ≤ 7293034; omega) (Nat.le_of_ble_eq_true rfl) dc_L_law_380 (fun v u H locs hp h => ?_)
  obtain ⟨k, u, tl2, g2⟩ := u
  obtain ⟨rfl, hk3, hp⟩ := hp
  replace hk3 : k ≤ 2 := hk3
  replace h : sT Γ s (jW Γ d u.1 u.2.1 u.2.2.1 tl2 u.2.2.2 r ri rl o g2) _ _ := h
  refine W.eq (g2 := F0 m 383 ls [.int (nI k)]) rfl ?_
  refine lv_istore (lv' := [(5, .int (nI k)), (0, .ref b), (1, .ref (d 0)), (2, .ref (r 0)), (3, .ref o), (4, .int (nI i))]) C.x C.b dc_L_law_383 hl (by decide) rfl (fun ls hl => ?_)
  refine lv_aload_n C.x C.b dc_L_law_385 rfl (lv_at hl 3 rfl) ?_
  refine lv_aload_n C.x C.b dc_L_law_386 rfl (lv_at hl 1 rfl) ?_
  refine lv_iload C.x C.b dc_L_law_387 (lv_at hl 5 rfl) ?_
  refine lv_iconst (v := (nI 1)) C.x C.b dc_L_law_389 (by decide +kernel) ?_
  refine lv_iadd C.x C.b dc_L_law_390 ?_
  refine tp_i (nI_add i 1) ?_
  refine rg_sld C h hS  (by omega) (by omega) dc_L_law_391 ?_
  replace h := jw_r h
  refine kv_V (As := [.int (xs (i + 1))]) (rest := []) C h hl.1 (c_M_many l Γ r ri rl _ (xs (i + 1)) hJ.2.1) mw_M_many lk_L_100 (q0 := 0) rfl rfl rfl (by decide) (by show cells + 8 + 0 ≤ 601024 ∧ slots + 48 + 0 ≤ 7293034; omega) (Nat.le_of_ble_eq_true rfl) dc_L_law_392 (fun v u2 H locs hp2 h => ?_)
  have J := jn_many hJ hp hp2
  obtain ⟨hJ2, J2, x, rfl, J3⟩ := J
  replace J2 : u2 20 0 = k := J2
  replace J3 : k = 0 → g2 0 = x.toInt64 := J3
  replace h : sT Γ s (rW Γ r u2 rl (xW Γ d u.1 u.2.1 u.2.2.1 tl2 u.2.2.2 [(o, oE Γ g2)])) _ _ := h
  refine W.eq (g2 := F0 m 395 ls [.int x]) rfl ?_
  refine lv_istore (lv' := [(6, .int x), (5, .int (nI k)), (0, .ref b), (1, .ref (d 0)), (2, .ref (r 0)), (3, .ref o), (4, .int (nI i))]) C.x C.b dc_L_law_395 hl (by decide) rfl (fun ls hl => ?_)
  refine lv_aload_n C.x C.b dc_L_law_397 rfl (lv_at hl 4 rfl) ?_
  refine kv_V (As := []) (rest := []) C h hl.1 (c_M_thrown l Γ r u2 rl _) mw_M_thrown lk_L_83 (q0 := 0) rfl rfl rfl (by decide) (by show cells + 8 + 0 + 0 ≤ 601024 ∧ slots + 48 + 0 + 0 ≤ 7293034; omega) (Nat.le_of_ble_eq_true rfl) dc_L_law_398 (fun v _ H locs hp3 h => ?_)
  obtain rfl := hp3
  replace h : sT Γ s (rW Γ r u2 rl (xW Γ d u.1 u.2.1 u.2.2.1 tl2 u.2.2.2 [(o, oE Γ g2)])) _ _ := h
  refine W.eq (g2 := F0 m 401 ls [.int (nI (u2 20 0))]) rfl ?_
  refine lv_iload C.x C.b dc_L_law_401 (lv_at hl 1 rfl) ?_
  refine bc_eq (tgt := 408) C (by omega) (by omega) dc_L_law_403 (by decide) (fun q403 => ?_) (fun q403 => ?_)
  · refine lv_iload C.x C.b dc_L_law_408 (lv_at hl 1 rfl) ?_
    refine bz_ne (tgt := 425) C (by omega) dc_L_law_410 (by decide) (fun q410 => ?_) (fun q410 => ?_)
    · refine lv_goto (tgt := 1249) C.x C.b dc_L_law_425 (by decide) ?_
      replace h := jr_w h
      refine W.widen (k := cells + 20) (n := slots + 200) (by show cells + 8 + 0 + 0 ≤ cells + 20; omega) (by show slots + 48 + 0 + 0 ≤ slots + 200; omega) ?_
      exact hk _ _ _ _ _ _ _ _ _ _ _ hJ2 h (lv_sub hl [2, 3, 4, 5, 6] rfl)
    · refine lv_aload_n C.x C.b dc_L_law_413 rfl (lv_at hl 5 rfl) ?_
      refine lv_iconst (v := (nI 0)) C.x C.b dc_L_law_414 (by decide +kernel) ?_
      replace h := jr_w h
      refine rg_lld C h 257 lk_o (by omega) (by decide) dc_L_law_415 ?_
      refine lv_iload C.x C.b dc_L_law_416 (lv_at hl 0 rfl) ?_
      refine lv_i2l C.x C.b dc_L_law_418 rfl ?_
      refine W.lcmp C.x C.b dc_L_law_419 ?_
      refine lv_if_eq (tgt := 425) C.x C.b dc_L_law_420 (by decide) (fun q420 => ?_) (fun q420 => ?_)
      · refine lv_goto (tgt := 1249) C.x C.b dc_L_law_425 (by decide) ?_
        refine W.widen (k := cells + 20) (n := slots + 200) (by show cells + 8 + 0 + 0 ≤ cells + 20; omega) (by show slots + 48 + 0 + 0 ≤ slots + 200; omega) ?_
        exact hk _ _ _ _ _ _ _ _ _ _ _ hJ2 h (lv_sub hl [2, 3, 4, 5, 6] rfl)
      · exact absurd (by rw [J3 q410]; exact lg_rf _) q420
  · exact absurd J2 q403

set_option maxRecDepth 100000 in
set_option maxHeartbeats 4000000 in
theorem law_contrary {p : Program} {l : Launch} {e : Env} {s : State} {m : MethodId} {below : List Frame} {meth : Method} {c : Code} {Q : State → Prop} {Γ : gG} {b L : Nat} {xs : Nat → Int32} {d : Nat → Nat} {hm : Nat} {mc : va_E} {so : Nat → Nat → Nat} {tl : Nat → Nat → Int64} {tb : Nat → Nat → Nat → Nat} {r : Nat → Nat} {ri : Nat → Nat → Nat} {rl : Nat → Nat → Int64} {o : Nat} {g : Nat → Int64} {i cells slots : Nat} {H : Heap} {locs : List Loc} {ls : Array Slot} (C0 : lwC l Γ p s m meth c b L xs) (hi : i + 5 ≤ L) (hc : cells + 20 ≤ 601024) (hsl : slots + 200 ≤ 7293034) (hJ : JS so tb ri) (h : sT Γ s (jW Γ d hm mc so tl tb r ri rl o g) H locs) (hl : lv_has ls 8 [(0, .ref b), (1, .ref (d 0)), (2, .ref (r 0)), (3, .ref o), (4, .int (nI i))]) (hk : ∀ (hm : Nat) (mc : va_E) (so : Nat → Nat → Nat) (tl : Nat → Nat → Int64) (tb : Nat → Nat → Nat → Nat) (ri : Nat → Nat → Nat) (rl : Nat → Nat → Int64) (g : Nat → Int64) (H : Heap) (locs : List Loc) (ls : Array Slot), JS so tb ri → sT Γ s (jW Γ d hm mc so tl tb r ri rl o g) H locs → lv_has ls 8 [(0, .ref b), (1, .ref (d 0)), (2, .ref (r 0)), (3, .ref o), (4, .int (nI i))] → W p l e room_1 s m #[Value.ref b] below meth c H locs (cells + 20) (slots + 200) Q (F0 m 1249 ls [])) : W p l e room_1 s m #[Value.ref b] below meth c H locs cells slots Q (F0 m 428 ls []) := by
  obtain ⟨C, hX, hN, hS, hL, hst⟩ := C0
  refine lv_aload_n C.x C.b dc_L_law_428 rfl (lv_at hl 1 rfl) ?_
  refine lv_aload_n C.x C.b dc_L_law_429 rfl (lv_at hl 0 rfl) ?_
  refine lv_iload C.x C.b dc_L_law_430 (lv_at hl 4 rfl) ?_
  refine lv_iconst (v := (nI 1)) C.x C.b dc_L_law_432 (by decide +kernel) ?_
  refine lv_iadd C.x C.b dc_L_law_433 ?_
  refine tp_i (nI_add i 1) ?_
  refine rg_sld C h hS  (by omega) (by omega) dc_L_law_434 ?_
  refine lv_aload_n C.x C.b dc_L_law_435 rfl (lv_at hl 3 rfl) ?_
  refine kv_SW (n := 3) (As := [.ref (d 0), .int (xs (i + 1)), .ref o]) (rest := []) C hX hN h hl.1 (c_L_contrary l Γ d hm mc so tl tb _ o g (xs (i + 1)) hJ.1 hst) mc_L_contrary ms_L_contrary in_L lk_L_101 (by decide +kernel) rfl (by decide) (by show cells + 8 ≤ 601024 ∧ slots + 48 ≤ 7293034; omega) (Nat.le_of_ble_eq_true rfl) dc_L_law_436 (fun v u H locs hp h => ?_)
  obtain ⟨k, u, tl2, g2⟩ := u
  obtain ⟨rfl, hk3, hp⟩ := hp
  replace hk3 : k ≤ 2 := hk3
  replace h : sT Γ s (jW Γ d u.1 u.2.1 u.2.2.1 tl2 u.2.2.2 r ri rl o g2) _ _ := h
  refine W.eq (g2 := F0 m 439 ls [.int (nI k)]) rfl ?_
  refine lv_istore (lv' := [(5, .int (nI k)), (0, .ref b), (1, .ref (d 0)), (2, .ref (r 0)), (3, .ref o), (4, .int (nI i))]) C.x C.b dc_L_law_439 hl (by decide) rfl (fun ls hl => ?_)
  refine lv_aload_n C.x C.b dc_L_law_441 rfl (lv_at hl 3 rfl) ?_
  refine lv_aload_n C.x C.b dc_L_law_442 rfl (lv_at hl 1 rfl) ?_
  refine lv_iload C.x C.b dc_L_law_443 (lv_at hl 5 rfl) ?_
  refine lv_iconst (v := (nI 1)) C.x C.b dc_L_law_445 (by decide +kernel) ?_
  refine lv_iadd C.x C.b dc_L_law_446 ?_
  refine tp_i (nI_add i 1) ?_
  refine rg_sld C h hS  (by omega) (by omega) dc_L_law_447 ?_
  replace h := jw_r h
  refine kv_V (As := [.int (xs (i + 1))]) (rest := []) C h hl.1 (c_M_contrary l Γ r ri rl _ (xs (i + 1)) hJ.2.1) mw_M_contrary lk_L_103 (q0 := 0) rfl rfl rfl (by decide) (by show cells + 8 + 0 ≤ 601024 ∧ slots + 48 + 0 ≤ 7293034; omega) (Nat.le_of_ble_eq_true rfl) dc_L_law_448 (fun v u2 H locs hp2 h => ?_)
  have J := jn_contrary hJ hp hp2
  obtain ⟨hJ2, J2, x, rfl, J3⟩ := J
  replace J2 : u2 20 0 = k := J2
  replace J3 : k = 0 → g2 0 = x.toInt64 := J3
  replace h : sT Γ s (rW Γ r u2 rl (xW Γ d u.1 u.2.1 u.2.2.1 tl2 u.2.2.2 [(o, oE Γ g2)])) _ _ := h
  refine W.eq (g2 := F0 m 451 ls [.int x]) rfl ?_
  refine lv_istore (lv' := [(6, .int x), (5, .int (nI k)), (0, .ref b), (1, .ref (d 0)), (2, .ref (r 0)), (3, .ref o), (4, .int (nI i))]) C.x C.b dc_L_law_451 hl (by decide) rfl (fun ls hl => ?_)
  refine lv_aload_n C.x C.b dc_L_law_453 rfl (lv_at hl 4 rfl) ?_
  refine kv_V (As := []) (rest := []) C h hl.1 (c_M_thrown l Γ r u2 rl _) mw_M_thrown lk_L_83 (q0 := 0) rfl rfl rfl (by decide) (by show cells + 8 + 0 + 0 ≤ 601024 ∧ slots + 48 + 0 + 0 ≤ 7293034; omega) (Nat.le_of_ble_eq_true rfl) dc_L_law_454 (fun v _ H locs hp3 h => ?_)
  obtain rfl := hp3
  replace h : sT Γ s (rW Γ r u2 rl (xW Γ d u.1 u.2.1 u.2.2.1 tl2 u.2.2.2 [(o, oE Γ g2)])) _ _ := h
  refine W.eq (g2 := F0 m 457 ls [.int (nI (u2 20 0))]) rfl ?_
  refine lv_iload C.x C.b dc_L_law_457 (lv_at hl 1 rfl) ?_
  refine bc_eq (tgt := 464) C (by omega) (by omega) dc_L_law_459 (by decide) (fun q459 => ?_) (fun q459 => ?_)
  · refine lv_iload C.x C.b dc_L_law_464 (lv_at hl 1 rfl) ?_
    refine bz_ne (tgt := 481) C (by omega) dc_L_law_466 (by decide) (fun q466 => ?_) (fun q466 => ?_)
    · refine lv_goto (tgt := 1249) C.x C.b dc_L_law_481 (by decide) ?_
      replace h := jr_w h
      refine W.widen (k := cells + 20) (n := slots + 200) (by show cells + 8 + 0 + 0 ≤ cells + 20; omega) (by show slots + 48 + 0 + 0 ≤ slots + 200; omega) ?_
      exact hk _ _ _ _ _ _ _ _ _ _ _ hJ2 h (lv_sub hl [2, 3, 4, 5, 6] rfl)
    · refine lv_aload_n C.x C.b dc_L_law_469 rfl (lv_at hl 5 rfl) ?_
      refine lv_iconst (v := (nI 0)) C.x C.b dc_L_law_470 (by decide +kernel) ?_
      replace h := jr_w h
      refine rg_lld C h 257 lk_o (by omega) (by decide) dc_L_law_471 ?_
      refine lv_iload C.x C.b dc_L_law_472 (lv_at hl 0 rfl) ?_
      refine lv_i2l C.x C.b dc_L_law_474 rfl ?_
      refine W.lcmp C.x C.b dc_L_law_475 ?_
      refine lv_if_eq (tgt := 481) C.x C.b dc_L_law_476 (by decide) (fun q476 => ?_) (fun q476 => ?_)
      · refine lv_goto (tgt := 1249) C.x C.b dc_L_law_481 (by decide) ?_
        refine W.widen (k := cells + 20) (n := slots + 200) (by show cells + 8 + 0 + 0 ≤ cells + 20; omega) (by show slots + 48 + 0 + 0 ≤ slots + 200; omega) ?_
        exact hk _ _ _ _ _ _ _ _ _ _ _ hJ2 h (lv_sub hl [2, 3, 4, 5, 6] rfl)
      · exact absurd (by rw [J3 q466]; exact lg_rf _) q476
  · exact absurd J2 q459
