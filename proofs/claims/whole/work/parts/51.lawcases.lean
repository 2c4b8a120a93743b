set_option maxHeartbeats 4000000 in
set_option maxRecDepth 100000 in
theorem lc_part {p : Program} {l : Launch} {e : Env} {s : State} {m : MethodId} {below : List Frame} {meth : Method} {c : Code} {b N : Nat} {xs : Nat → Int32} {g : wG} {L bx bm cells slots : Nat} {Q : State → Prop} (C1 : lw_C p s m meth c b N xs g L bx bm) {t : Nat} (ht : t < 512) (htN : 1 + 4 * t + 3 < N) {x : xS} (hI : x_inv L t x) {H : Heap} {locs : List Loc} (hc9 : cells ≤ room_1.cells) (hs9 : slots ≤ room_1.slots) (hPx : va_P g.1 vwCl (wo (16 + 2 * L) (adl bx) (xE g (adl bx) L x)) H) (hPm : va_P g.1 vwCl (wo 14 (adl bm) (mE g (adl bm) L x)) H) (hS : va_S (fun q => s.heap.size ≤ q) s.heap H locs) {ls : Array Slot} (hl : lv_has ls 4 [(3, .int (nI (1 + 4 * t))), (2, .ref (adl bm 0)), (1, .ref (adl bx 0)), (0, .ref b)])
    (kk : ∀ (y : xS) (H1 : Heap) (locs1 : List Loc), x_inv L (t + 1) y → va_P g.1 vwCl (wo (16 + 2 * L) (adl bx) (xE g (adl bx) L y)) H1 → va_P g.1 vwCl (wo 14 (adl bm) (mE g (adl bm) L y)) H1 → va_S (fun q => s.heap.size ≤ q) s.heap H1 locs1 → W p l e room_1 s m #[Value.ref b] below meth c H1 locs1 cells slots Q (F0 m 675 ls [])) : W p l e room_1 s m #[Value.ref b] below meth c H locs cells slots Q (F0 m 132 ls []) := by
  obtain ⟨hx, hb, hml, hown, hts, hX, hbl, hN9, hK, hN, hL, hbx, hbm⟩ := C1
  have hrow := hI.1
  refine lv_aload_n hx hb d_L_law_132 rfl (lv_at hl 2 rfl) ?_
  refine lv_aload_n hx hb d_L_law_133 rfl (lv_at hl 3 rfl) ?_
  refine lv_iload_n hx hb d_L_law_134 rfl (lv_at hl 0 rfl) ?_
  refine lv_iconst (v := 1) hx hb d_L_law_135 (by decide) ?_
  refine lv_iadd hx hb d_L_law_136 ?_
  refine ws_ld hx hb hX hbl hS (1 + 4 * t + 1) (nI_add (1 + 4 * t) 1) (by omega) hN9 d_L_law_137 ?_
  refine lv_aload_n hx hb d_L_law_138 rfl (lv_at hl 3 rfl) ?_
  refine lv_iload_n hx hb d_L_law_139 rfl (lv_at hl 0 rfl) ?_
  refine lv_iconst (v := 2) hx hb d_L_law_140 (by decide) ?_
  refine lv_iadd hx hb d_L_law_141 ?_
  refine ws_ld hx hb hX hbl hS (1 + 4 * t + 2) (nI_add (1 + 4 * t) 2) (by omega) hN9 d_L_law_142 ?_
  refine lv_aload_n hx hb d_L_law_143 rfl (lv_at hl 3 rfl) ?_
  refine lv_iload_n hx hb d_L_law_144 rfl (lv_at hl 0 rfl) ?_
  refine lv_iconst (v := 3) hx hb d_L_law_145 (by decide) ?_
  refine lv_iadd hx hb d_L_law_146 ?_
  refine ws_ld hx hb hX hbl hS (1 + 4 * t + 3) (nI_add (1 + 4 * t) 3) (by omega) hN9 d_L_law_147 ?_
  refine wl_i (va_runV (As := [.int (xs (1 + 4 * t + 1)), .int (xs (1 + 4 * t + 2)), .int (xs (1 + 4 * t + 3))]) (rest := []) ⟨hx, hb, hml, hown, hts⟩ (c_X_part l g (adl bx) hL x (xs (1 + 4 * t + 1)) (xs (1 + 4 * t + 2)) (xs (1 + 4 * t + 3)) _) (cwV 3 hts (gd_V tw_147 tw_148 tw_149 tw_24 tw_150) rfl rfl rfl (by decide +kernel) ⟨Nat.le_of_ble_eq_true rfl, Nat.le_of_ble_eq_true rfl⟩) (wp_V hK hN hPx (wJ_adl _ _) 0 (by omega) rfl rfl) rfl rfl hl.1 rfl (lv_room (Nat.le_of_ble_eq_true rfl)) d_L_law_148 ⟨hc9, hs9⟩) hS (lw_lo hbx) hPm (lw_dx hbm) (fun H locs hPx hPm hS => ?_)
  refine lv_aload_n hx hb d_L_law_151 rfl (lv_at hl 1 rfl) ?_
  refine lv_aload_n hx hb d_L_law_152 rfl (lv_at hl 3 rfl) ?_
  refine lv_iload_n hx hb d_L_law_153 rfl (lv_at hl 0 rfl) ?_
  refine lv_iconst (v := 1) hx hb d_L_law_154 (by decide) ?_
  refine lv_iadd hx hb d_L_law_155 ?_
  refine ws_ld hx hb hX hbl hS (1 + 4 * t + 1) (nI_add (1 + 4 * t) 1) (by omega) hN9 d_L_law_156 ?_
  refine lv_aload_n hx hb d_L_law_157 rfl (lv_at hl 3 rfl) ?_
  refine lv_iload_n hx hb d_L_law_158 rfl (lv_at hl 0 rfl) ?_
  refine lv_iconst (v := 2) hx hb d_L_law_159 (by decide) ?_
  refine lv_iadd hx hb d_L_law_160 ?_
  refine ws_ld hx hb hX hbl hS (1 + 4 * t + 2) (nI_add (1 + 4 * t) 2) (by omega) hN9 d_L_law_161 ?_
  refine lv_aload_n hx hb d_L_law_162 rfl (lv_at hl 3 rfl) ?_
  refine lv_iload_n hx hb d_L_law_163 rfl (lv_at hl 0 rfl) ?_
  refine lv_iconst (v := 3) hx hb d_L_law_164 (by decide) ?_
  refine lv_iadd hx hb d_L_law_165 ?_
  refine ws_ld hx hb hX hbl hS (1 + 4 * t + 3) (nI_add (1 + 4 * t) 3) (by omega) hN9 d_L_law_166 ?_
  refine wl_i (va_runV (As := [.int (xs (1 + 4 * t + 1)), .int (xs (1 + 4 * t + 2)), .int (xs (1 + 4 * t + 3))]) (rest := [.int ((x_part L x (xs (1 + 4 * t + 1)) (xs (1 + 4 * t + 2)) (xs (1 + 4 * t + 3))).1)]) ⟨hx, hb, hml, hown, hts⟩ (c_M_part l g (adl bm) hL x (xs (1 + 4 * t + 1)) (xs (1 + 4 * t + 2)) (xs (1 + 4 * t + 3)) _) (cwV 3 hts (gd_V tw_414 tw_415 tw_416 tw_28 tw_417) rfl rfl rfl (by decide +kernel) ⟨Nat.le_of_ble_eq_true rfl, Nat.le_of_ble_eq_true rfl⟩) (wp_V hK hN hPm (wJ_adl _ _) 0 (by omega) rfl rfl) rfl rfl hl.1 rfl (lv_room (Nat.le_of_ble_eq_true rfl)) d_L_law_167 ⟨hc9, hs9⟩) hS (lw_lo (Nat.le_trans hbx (by omega))) hPx (lw_dm hbm) (fun H locs hPm hPx hS => ?_)
  refine lv_icmp_eq (tgt := 675) hx hb d_L_law_170 (by decide) (fun c_1 => ?_) (fun c_1 => absurd rfl c_1)
  exact kk ((x_part L x (xs (1 + 4 * t + 1)) (xs (1 + 4 * t + 2)) (xs (1 + 4 * t + 3))).2) H locs (inv_part hL hI ht (xs (1 + 4 * t + 1)) (xs (1 + 4 * t + 2)) (xs (1 + 4 * t + 3))) hPx hPm hS
set_option maxHeartbeats 4000000 in
set_option maxRecDepth 100000 in
theorem lc_water {p : Program} {l : Launch} {e : Env} {s : State} {m : MethodId} {below : List Frame} {meth : Method} {c : Code} {b N : Nat} {xs : Nat → Int32} {g : wG} {L bx bm cells slots : Nat} {Q : State → Prop} (C1 : lw_C p s m meth c b N xs g L bx bm) {t : Nat} (ht : t < 512) (htN : 1 + 4 * t + 3 < N) {x : xS} (hI : x_inv L t x) {H : Heap} {locs : List Loc} (hc9 : cells ≤ room_1.cells) (hs9 : slots ≤ room_1.slots) (hPx : va_P g.1 vwCl (wo (16 + 2 * L) (adl bx) (xE g (adl bx) L x)) H) (hPm : va_P g.1 vwCl (wo 14 (adl bm) (mE g (adl bm) L x)) H) (hS : va_S (fun q => s.heap.size ≤ q) s.heap H locs) {ls : Array Slot} (hl : lv_has ls 4 [(3, .int (nI (1 + 4 * t))), (2, .ref (adl bm 0)), (1, .ref (adl bx 0)), (0, .ref b)])
    (kk : ∀ (y : xS) (H1 : Heap) (locs1 : List Loc), x_inv L (t + 1) y → va_P g.1 vwCl (wo (16 + 2 * L) (adl bx) (xE g (adl bx) L y)) H1 → va_P g.1 vwCl (wo 14 (adl bm) (mE g (adl bm) L y)) H1 → va_S (fun q => s.heap.size ≤ q) s.heap H1 locs1 → W p l e room_1 s m #[Value.ref b] below meth c H1 locs1 cells slots Q (F0 m 675 ls [])) : W p l e room_1 s m #[Value.ref b] below meth c H locs cells slots Q (F0 m 175 ls []) := by
  obtain ⟨hx, hb, hml, hown, hts, hX, hbl, hN9, hK, hN, hL, hbx, hbm⟩ := C1
  have hrow := hI.1
  refine lv_aload_n hx hb d_L_law_175 rfl (lv_at hl 2 rfl) ?_
  refine lv_aload_n hx hb d_L_law_176 rfl (lv_at hl 3 rfl) ?_
  refine lv_iload_n hx hb d_L_law_177 rfl (lv_at hl 0 rfl) ?_
  refine lv_iconst (v := 1) hx hb d_L_law_178 (by decide) ?_
  refine lv_iadd hx hb d_L_law_179 ?_
  refine ws_ld hx hb hX hbl hS (1 + 4 * t + 1) (nI_add (1 + 4 * t) 1) (by omega) hN9 d_L_law_180 ?_
  refine lv_aload_n hx hb d_L_law_181 rfl (lv_at hl 3 rfl) ?_
  refine lv_iload_n hx hb d_L_law_182 rfl (lv_at hl 0 rfl) ?_
  refine lv_iconst (v := 2) hx hb d_L_law_183 (by decide) ?_
  refine lv_iadd hx hb d_L_law_184 ?_
  refine ws_ld hx hb hX hbl hS (1 + 4 * t + 2) (nI_add (1 + 4 * t) 2) (by omega) hN9 d_L_law_185 ?_
  refine wl_i (va_runV (As := [.int (xs (1 + 4 * t + 1)), .int (xs (1 + 4 * t + 2))]) (rest := []) ⟨hx, hb, hml, hown, hts⟩ (c_X_water l g (adl bx) hL x (xs (1 + 4 * t + 1)) (xs (1 + 4 * t + 2)) _) (cwV 2 hts (gd_V tw_164 tw_165 tw_166 tw_24 tw_167) rfl rfl rfl (by decide +kernel) ⟨Nat.le_of_ble_eq_true rfl, Nat.le_of_ble_eq_true rfl⟩) (wp_V hK hN hPx (wJ_adl _ _) 0 (by omega) rfl rfl) rfl rfl hl.1 rfl (lv_room (Nat.le_of_ble_eq_true rfl)) d_L_law_186 ⟨hc9, hs9⟩) hS (lw_lo hbx) hPm (lw_dx hbm) (fun H locs hPx hPm hS => ?_)
  refine lv_aload_n hx hb d_L_law_189 rfl (lv_at hl 1 rfl) ?_
  refine lv_aload_n hx hb d_L_law_190 rfl (lv_at hl 3 rfl) ?_
  refine lv_iload_n hx hb d_L_law_191 rfl (lv_at hl 0 rfl) ?_
  refine lv_iconst (v := 1) hx hb d_L_law_192 (by decide) ?_
  refine lv_iadd hx hb d_L_law_193 ?_
  refine ws_ld hx hb hX hbl hS (1 + 4 * t + 1) (nI_add (1 + 4 * t) 1) (by omega) hN9 d_L_law_194 ?_
  refine lv_aload_n hx hb d_L_law_195 rfl (lv_at hl 3 rfl) ?_
  refine lv_iload_n hx hb d_L_law_196 rfl (lv_at hl 0 rfl) ?_
  refine lv_iconst (v := 2) hx hb d_L_law_197 (by decide) ?_
  refine lv_iadd hx hb d_L_law_198 ?_
  refine ws_ld hx hb hX hbl hS (1 + 4 * t + 2) (nI_add (1 + 4 * t) 2) (by omega) hN9 d_L_law_199 ?_
  refine wl_i (va_runV (As := [.int (xs (1 + 4 * t + 1)), .int (xs (1 + 4 * t + 2))]) (rest := [.int ((x_water L x (xs (1 + 4 * t + 1)) (xs (1 + 4 * t + 2))).1)]) ⟨hx, hb, hml, hown, hts⟩ (c_M_water l g (adl bm) hL x (xs (1 + 4 * t + 1)) (xs (1 + 4 * t + 2)) _) (cwV 2 hts (gd_V tw_429 tw_430 tw_431 tw_28 tw_432) rfl rfl rfl (by decide +kernel) ⟨Nat.le_of_ble_eq_true rfl, Nat.le_of_ble_eq_true rfl⟩) (wp_V hK hN hPm (wJ_adl _ _) 0 (by omega) rfl rfl) rfl rfl hl.1 rfl (lv_room (Nat.le_of_ble_eq_true rfl)) d_L_law_200 ⟨hc9, hs9⟩) hS (lw_lo (Nat.le_trans hbx (by omega))) hPx (lw_dm hbm) (fun H locs hPm hPx hS => ?_)
  refine lv_icmp_eq (tgt := 675) hx hb d_L_law_203 (by decide) (fun c_1 => ?_) (fun c_1 => absurd rfl c_1)
  exact kk ((x_water L x (xs (1 + 4 * t + 1)) (xs (1 + 4 * t + 2))).2) H locs (inv_water hL hI ht (xs (1 + 4 * t + 1)) (xs (1 + 4 * t + 2))) hPx hPm hS
set_option maxHeartbeats 4000000 in
set_option maxRecDepth 100000 in
theorem lc_heat {p : Program} {l : Launch} {e : Env} {s : State} {m : MethodId} {below : List Frame} {meth : Method} {c : Code} {b N : Nat} {xs : Nat → Int32} {g : wG} {L bx bm cells slots : Nat} {Q : State → Prop} (C1 : lw_C p s m meth c b N xs g L bx bm) {t : Nat} (ht : t < 512) (htN : 1 + 4 * t + 3 < N) {x : xS} (hI : x_inv L t x) {H : Heap} {locs : List Loc} (hc9 : cells ≤ room_1.cells) (hs9 : slots ≤ room_1.slots) (hPx : va_P g.1 vwCl (wo (16 + 2 * L) (adl bx) (xE g (adl bx) L x)) H) (hPm : va_P g.1 vwCl (wo 14 (adl bm) (mE g (adl bm) L x)) H) (hS : va_S (fun q => s.heap.size ≤ q) s.heap H locs) {ls : Array Slot} (hl : lv_has ls 4 [(3, .int (nI (1 + 4 * t))), (2, .ref (adl bm 0)), (1, .ref (adl bx 0)), (0, .ref b)])
    (kk : ∀ (y : xS) (H1 : Heap) (locs1 : List Loc), x_inv L (t + 1) y → va_P g.1 vwCl (wo (16 + 2 * L) (adl bx) (xE g (adl bx) L y)) H1 → va_P g.1 vwCl (wo 14 (adl bm) (mE g (adl bm) L y)) H1 → va_S (fun q => s.heap.size ≤ q) s.heap H1 locs1 → W p l e room_1 s m #[Value.ref b] below meth c H1 locs1 cells slots Q (F0 m 675 ls [])) : W p l e room_1 s m #[Value.ref b] below meth c H locs cells slots Q (F0 m 208 ls []) := by
  obtain ⟨hx, hb, hml, hown, hts, hX, hbl, hN9, hK, hN, hL, hbx, hbm⟩ := C1
  have hrow := hI.1
  refine lv_aload_n hx hb d_L_law_208 rfl (lv_at hl 2 rfl) ?_
  refine lv_aload_n hx hb d_L_law_209 rfl (lv_at hl 3 rfl) ?_
  refine lv_iload_n hx hb d_L_law_210 rfl (lv_at hl 0 rfl) ?_
  refine lv_iconst (v := 1) hx hb d_L_law_211 (by decide) ?_
  refine lv_iadd hx hb d_L_law_212 ?_
  refine ws_ld hx hb hX hbl hS (1 + 4 * t + 1) (nI_add (1 + 4 * t) 1) (by omega) hN9 d_L_law_213 ?_
  refine lv_aload_n hx hb d_L_law_214 rfl (lv_at hl 3 rfl) ?_
  refine lv_iload_n hx hb d_L_law_215 rfl (lv_at hl 0 rfl) ?_
  refine lv_iconst (v := 2) hx hb d_L_law_216 (by decide) ?_
  refine lv_iadd hx hb d_L_law_217 ?_
  refine ws_ld hx hb hX hbl hS (1 + 4 * t + 2) (nI_add (1 + 4 * t) 2) (by omega) hN9 d_L_law_218 ?_
  refine wl_i (va_runV (As := [.int (xs (1 + 4 * t + 1)), .int (xs (1 + 4 * t + 2))]) (rest := []) ⟨hx, hb, hml, hown, hts⟩ (c_X_heat l g (adl bx) hL x (xs (1 + 4 * t + 1)) (xs (1 + 4 * t + 2)) _) (cwV 2 hts (gd_V tw_168 tw_169 tw_170 tw_24 tw_171) rfl rfl rfl (by decide +kernel) ⟨Nat.le_of_ble_eq_true rfl, Nat.le_of_ble_eq_true rfl⟩) (wp_V hK hN hPx (wJ_adl _ _) 0 (by omega) rfl rfl) rfl rfl hl.1 rfl (lv_room (Nat.le_of_ble_eq_true rfl)) d_L_law_219 ⟨hc9, hs9⟩) hS (lw_lo hbx) hPm (lw_dx hbm) (fun H locs hPx hPm hS => ?_)
  refine lv_aload_n hx hb d_L_law_222 rfl (lv_at hl 1 rfl) ?_
  refine lv_aload_n hx hb d_L_law_223 rfl (lv_at hl 3 rfl) ?_
  refine lv_iload_n hx hb d_L_law_224 rfl (lv_at hl 0 rfl) ?_
  refine lv_iconst (v := 1) hx hb d_L_law_225 (by decide) ?_
  refine lv_iadd hx hb d_L_law_226 ?_
  refine ws_ld hx hb hX hbl hS (1 + 4 * t + 1) (nI_add (1 + 4 * t) 1) (by omega) hN9 d_L_law_227 ?_
  refine lv_aload_n hx hb d_L_law_228 rfl (lv_at hl 3 rfl) ?_
  refine lv_iload_n hx hb d_L_law_229 rfl (lv_at hl 0 rfl) ?_
  refine lv_iconst (v := 2) hx hb d_L_law_230 (by decide) ?_
  refine lv_iadd hx hb d_L_law_231 ?_
  refine ws_ld hx hb hX hbl hS (1 + 4 * t + 2) (nI_add (1 + 4 * t) 2) (by omega) hN9 d_L_law_232 ?_
  refine wl_i (va_runV (As := [.int (xs (1 + 4 * t + 1)), .int (xs (1 + 4 * t + 2))]) (rest := [.int ((x_heat L x (xs (1 + 4 * t + 1)) (xs (1 + 4 * t + 2))).1)]) ⟨hx, hb, hml, hown, hts⟩ (c_M_heat l g (adl bm) hL x (xs (1 + 4 * t + 1)) (xs (1 + 4 * t + 2)) _) (cwV 2 hts (gd_V tw_433 tw_434 tw_435 tw_28 tw_436) rfl rfl rfl (by decide +kernel) ⟨Nat.le_of_ble_eq_true rfl, Nat.le_of_ble_eq_true rfl⟩) (wp_V hK hN hPm (wJ_adl _ _) 0 (by omega) rfl rfl) rfl rfl hl.1 rfl (lv_room (Nat.le_of_ble_eq_true rfl)) d_L_law_233 ⟨hc9, hs9⟩) hS (lw_lo (Nat.le_trans hbx (by omega))) hPx (lw_dm hbm) (fun H locs hPm hPx hS => ?_)
  refine lv_icmp_eq (tgt := 675) hx hb d_L_law_236 (by decide) (fun c_1 => ?_) (fun c_1 => absurd rfl c_1)
  exact kk ((x_heat L x (xs (1 + 4 * t + 1)) (xs (1 + 4 * t + 2))).2) H locs (inv_heat hL hI ht (xs (1 + 4 * t + 1)) (xs (1 + 4 * t + 2))) hPx hPm hS
set_option maxHeartbeats 4000000 in
set_option maxRecDepth 100000 in
theorem lc_rate {p : Program} {l : Launch} {e : Env} {s : State} {m : MethodId} {below : List Frame} {meth : Method} {c : Code} {b N : Nat} {xs : Nat → Int32} {g : wG} {L bx bm cells slots : Nat} {Q : State → Prop} (C1 : lw_C p s m meth c b N xs g L bx bm) {t : Nat} (ht : t < 512) (htN : 1 + 4 * t + 3 < N) {x : xS} (hI : x_inv L t x) {H : Heap} {locs : List Loc} (hc9 : cells ≤ room_1.cells) (hs9 : slots ≤ room_1.slots) (hPx : va_P g.1 vwCl (wo (16 + 2 * L) (adl bx) (xE g (adl bx) L x)) H) (hPm : va_P g.1 vwCl (wo 14 (adl bm) (mE g (adl bm) L x)) H) (hS : va_S (fun q => s.heap.size ≤ q) s.heap H locs) {ls : Array Slot} (hl : lv_has ls 4 [(3, .int (nI (1 + 4 * t))), (2, .ref (adl bm 0)), (1, .ref (adl bx 0)), (0, .ref b)])
    (kk : ∀ (y : xS) (H1 : Heap) (locs1 : List Loc), x_inv L (t + 1) y → va_P g.1 vwCl (wo (16 + 2 * L) (adl bx) (xE g (adl bx) L y)) H1 → va_P g.1 vwCl (wo 14 (adl bm) (mE g (adl bm) L y)) H1 → va_S (fun q => s.heap.size ≤ q) s.heap H1 locs1 → W p l e room_1 s m #[Value.ref b] below meth c H1 locs1 cells slots Q (F0 m 675 ls [])) : W p l e room_1 s m #[Value.ref b] below meth c H locs cells slots Q (F0 m 241 ls []) := by
  obtain ⟨hx, hb, hml, hown, hts, hX, hbl, hN9, hK, hN, hL, hbx, hbm⟩ := C1
  have hrow := hI.1
  refine lv_aload_n hx hb d_L_law_241 rfl (lv_at hl 2 rfl) ?_
  refine lv_aload_n hx hb d_L_law_242 rfl (lv_at hl 3 rfl) ?_
  refine lv_iload_n hx hb d_L_law_243 rfl (lv_at hl 0 rfl) ?_
  refine lv_iconst (v := 1) hx hb d_L_law_244 (by decide) ?_
  refine lv_iadd hx hb d_L_law_245 ?_
  refine ws_ld hx hb hX hbl hS (1 + 4 * t + 1) (nI_add (1 + 4 * t) 1) (by omega) hN9 d_L_law_246 ?_
  refine lv_aload_n hx hb d_L_law_247 rfl (lv_at hl 3 rfl) ?_
  refine lv_iload_n hx hb d_L_law_248 rfl (lv_at hl 0 rfl) ?_
  refine lv_iconst (v := 2) hx hb d_L_law_249 (by decide) ?_
  refine lv_iadd hx hb d_L_law_250 ?_
  refine ws_ld hx hb hX hbl hS (1 + 4 * t + 2) (nI_add (1 + 4 * t) 2) (by omega) hN9 d_L_law_251 ?_
  refine lv_aload_n hx hb d_L_law_252 rfl (lv_at hl 3 rfl) ?_
  refine lv_iload_n hx hb d_L_law_253 rfl (lv_at hl 0 rfl) ?_
  refine lv_iconst (v := 3) hx hb d_L_law_254 (by decide) ?_
  refine lv_iadd hx hb d_L_law_255 ?_
  refine ws_ld hx hb hX hbl hS (1 + 4 * t + 3) (nI_add (1 + 4 * t) 3) (by omega) hN9 d_L_law_256 ?_
  refine wl_i (va_runV (As := [.int (xs (1 + 4 * t + 1)), .int (xs (1 + 4 * t + 2)), .int (xs (1 + 4 * t + 3))]) (rest := []) ⟨hx, hb, hml, hown, hts⟩ (c_X_rate l g (adl bx) hL x hrow (xs (1 + 4 * t + 1)) (xs (1 + 4 * t + 2)) (xs (1 + 4 * t + 3)) _) (cwV 3 hts (gd_V tw_173 tw_174 tw_175 tw_24 tw_176) rfl rfl rfl (by decide +kernel) ⟨Nat.le_of_ble_eq_true rfl, Nat.le_of_ble_eq_true rfl⟩) (wp_V hK hN hPx (wJ_adl _ _) 0 (by omega) rfl rfl) rfl rfl hl.1 rfl (lv_room (Nat.le_of_ble_eq_true rfl)) d_L_law_257 ⟨hc9, hs9⟩) hS (lw_lo hbx) hPm (lw_dx hbm) (fun H locs hPx hPm hS => ?_)
  refine lv_aload_n hx hb d_L_law_260 rfl (lv_at hl 1 rfl) ?_
  refine lv_aload_n hx hb d_L_law_261 rfl (lv_at hl 3 rfl) ?_
  refine lv_iload_n hx hb d_L_law_262 rfl (lv_at hl 0 rfl) ?_
  refine lv_iconst (v := 1) hx hb d_L_law_263 (by decide) ?_
  refine lv_iadd hx hb d_L_law_264 ?_
  refine ws_ld hx hb hX hbl hS (1 + 4 * t + 1) (nI_add (1 + 4 * t) 1) (by omega) hN9 d_L_law_265 ?_
  refine lv_aload_n hx hb d_L_law_266 rfl (lv_at hl 3 rfl) ?_
  refine lv_iload_n hx hb d_L_law_267 rfl (lv_at hl 0 rfl) ?_
  refine lv_iconst (v := 2) hx hb d_L_law_268 (by decide) ?_
  refine lv_iadd hx hb d_L_law_269 ?_
  refine ws_ld hx hb hX hbl hS (1 + 4 * t + 2) (nI_add (1 + 4 * t) 2) (by omega) hN9 d_L_law_270 ?_
  refine lv_aload_n hx hb d_L_law_271 rfl (lv_at hl 3 rfl) ?_
  refine lv_iload_n hx hb d_L_law_272 rfl (lv_at hl 0 rfl) ?_
  refine lv_iconst (v := 3) hx hb d_L_law_273 (by decide) ?_
  refine lv_iadd hx hb d_L_law_274 ?_
  refine ws_ld hx hb hX hbl hS (1 + 4 * t + 3) (nI_add (1 + 4 * t) 3) (by omega) hN9 d_L_law_275 ?_
  refine wl_i (va_runV (As := [.int (xs (1 + 4 * t + 1)), .int (xs (1 + 4 * t + 2)), .int (xs (1 + 4 * t + 3))]) (rest := [.int ((x_rate x (xs (1 + 4 * t + 1)) (xs (1 + 4 * t + 2)) (xs (1 + 4 * t + 3))).1)]) ⟨hx, hb, hml, hown, hts⟩ (c_M_rate l g (adl bm) hL x hrow (xs (1 + 4 * t + 1)) (xs (1 + 4 * t + 2)) (xs (1 + 4 * t + 3)) _) (cwV 3 hts (gd_V tw_438 tw_439 tw_440 tw_28 tw_441) rfl rfl rfl (by decide +kernel) ⟨Nat.le_of_ble_eq_true rfl, Nat.le_of_ble_eq_true rfl⟩) (wp_V hK hN hPm (wJ_adl _ _) 0 (by omega) rfl rfl) rfl rfl hl.1 rfl (lv_room (Nat.le_of_ble_eq_true rfl)) d_L_law_276 ⟨hc9, hs9⟩) hS (lw_lo (Nat.le_trans hbx (by omega))) hPx (lw_dm hbm) (fun H locs hPm hPx hS => ?_)
  refine lv_icmp_eq (tgt := 675) hx hb d_L_law_279 (by decide) (fun c_1 => ?_) (fun c_1 => absurd rfl c_1)
  exact kk ((x_rate x (xs (1 + 4 * t + 1)) (xs (1 + 4 * t + 2)) (xs (1 + 4 * t + 3))).2) H locs (inv_rate hL hI ht (xs (1 + 4 * t + 1)) (xs (1 + 4 * t + 2)) (xs (1 + 4 * t + 3))) hPx hPm hS
set_option maxHeartbeats 4000000 in
set_option maxRecDepth 100000 in
theorem lc_yields {p : Program} {l : Launch} {e : Env} {s : State} {m : MethodId} {below : List Frame} {meth : Method} {c : Code} {b N : Nat} {xs : Nat → Int32} {g : wG} {L bx bm cells slots : Nat} {Q : State → Prop} (C1 : lw_C p s m meth c b N xs g L bx bm) {t : Nat} (ht : t < 512) (htN : 1 + 4 * t + 3 < N) {x : xS} (hI : x_inv L t x) {H : Heap} {locs : List Loc} (hc9 : cells ≤ room_1.cells) (hs9 : slots ≤ room_1.slots) (hPx : va_P g.1 vwCl (wo (16 + 2 * L) (adl bx) (xE g (adl bx) L x)) H) (hPm : va_P g.1 vwCl (wo 14 (adl bm) (mE g (adl bm) L x)) H) (hS : va_S (fun q => s.heap.size ≤ q) s.heap H locs) {ls : Array Slot} (hl : lv_has ls 4 [(3, .int (nI (1 + 4 * t))), (2, .ref (adl bm 0)), (1, .ref (adl bx 0)), (0, .ref b)])
    (kk : ∀ (y : xS) (H1 : Heap) (locs1 : List Loc), x_inv L (t + 1) y → va_P g.1 vwCl (wo (16 + 2 * L) (adl bx) (xE g (adl bx) L y)) H1 → va_P g.1 vwCl (wo 14 (adl bm) (mE g (adl bm) L y)) H1 → va_S (fun q => s.heap.size ≤ q) s.heap H1 locs1 → W p l e room_1 s m #[Value.ref b] below meth c H1 locs1 cells slots Q (F0 m 675 ls [])) : W p l e room_1 s m #[Value.ref b] below meth c H locs cells slots Q (F0 m 284 ls []) := by
  obtain ⟨hx, hb, hml, hown, hts, hX, hbl, hN9, hK, hN, hL, hbx, hbm⟩ := C1
  have hrow := hI.1
  refine lv_aload_n hx hb d_L_law_284 rfl (lv_at hl 2 rfl) ?_
  refine lv_aload_n hx hb d_L_law_285 rfl (lv_at hl 3 rfl) ?_
  refine lv_iload_n hx hb d_L_law_286 rfl (lv_at hl 0 rfl) ?_
  refine lv_iconst (v := 1) hx hb d_L_law_287 (by decide) ?_
  refine lv_iadd hx hb d_L_law_288 ?_
  refine ws_ld hx hb hX hbl hS (1 + 4 * t + 1) (nI_add (1 + 4 * t) 1) (by omega) hN9 d_L_law_289 ?_
  refine lv_aload_n hx hb d_L_law_290 rfl (lv_at hl 3 rfl) ?_
  refine lv_iload_n hx hb d_L_law_291 rfl (lv_at hl 0 rfl) ?_
  refine lv_iconst (v := 2) hx hb d_L_law_292 (by decide) ?_
  refine lv_iadd hx hb d_L_law_293 ?_
  refine ws_ld hx hb hX hbl hS (1 + 4 * t + 2) (nI_add (1 + 4 * t) 2) (by omega) hN9 d_L_law_294 ?_
  refine lv_aload_n hx hb d_L_law_295 rfl (lv_at hl 3 rfl) ?_
  refine lv_iload_n hx hb d_L_law_296 rfl (lv_at hl 0 rfl) ?_
  refine lv_iconst (v := 3) hx hb d_L_law_297 (by decide) ?_
  refine lv_iadd hx hb d_L_law_298 ?_
  refine ws_ld hx hb hX hbl hS (1 + 4 * t + 3) (nI_add (1 + 4 * t) 3) (by omega) hN9 d_L_law_299 ?_
  refine wl_i (va_runV (As := [.int (xs (1 + 4 * t + 1)), .int (xs (1 + 4 * t + 2)), .int (xs (1 + 4 * t + 3))]) (rest := []) ⟨hx, hb, hml, hown, hts⟩ (c_X_yields l g (adl bx) hL x (xs (1 + 4 * t + 1)) (xs (1 + 4 * t + 2)) (xs (1 + 4 * t + 3)) _) (cwV 3 hts (gd_V tw_182 tw_183 tw_184 tw_24 tw_185) rfl rfl rfl (by decide +kernel) ⟨Nat.le_of_ble_eq_true rfl, Nat.le_of_ble_eq_true rfl⟩) (wp_V hK hN hPx (wJ_adl _ _) 0 (by omega) rfl rfl) rfl rfl hl.1 rfl (lv_room (Nat.le_of_ble_eq_true rfl)) d_L_law_300 ⟨hc9, hs9⟩) hS (lw_lo hbx) hPm (lw_dx hbm) (fun H locs hPx hPm hS => ?_)
  refine lv_aload_n hx hb d_L_law_303 rfl (lv_at hl 1 rfl) ?_
  refine lv_aload_n hx hb d_L_law_304 rfl (lv_at hl 3 rfl) ?_
  refine lv_iload_n hx hb d_L_law_305 rfl (lv_at hl 0 rfl) ?_
  refine lv_iconst (v := 1) hx hb d_L_law_306 (by decide) ?_
  refine lv_iadd hx hb d_L_law_307 ?_
  refine ws_ld hx hb hX hbl hS (1 + 4 * t + 1) (nI_add (1 + 4 * t) 1) (by omega) hN9 d_L_law_308 ?_
  refine lv_aload_n hx hb d_L_law_309 rfl (lv_at hl 3 rfl) ?_
  refine lv_iload_n hx hb d_L_law_310 rfl (lv_at hl 0 rfl) ?_
  refine lv_iconst (v := 2) hx hb d_L_law_311 (by decide) ?_
  refine lv_iadd hx hb d_L_law_312 ?_
  refine ws_ld hx hb hX hbl hS (1 + 4 * t + 2) (nI_add (1 + 4 * t) 2) (by omega) hN9 d_L_law_313 ?_
  refine lv_aload_n hx hb d_L_law_314 rfl (lv_at hl 3 rfl) ?_
  refine lv_iload_n hx hb d_L_law_315 rfl (lv_at hl 0 rfl) ?_
  refine lv_iconst (v := 3) hx hb d_L_law_316 (by decide) ?_
  refine lv_iadd hx hb d_L_law_317 ?_
  refine ws_ld hx hb hX hbl hS (1 + 4 * t + 3) (nI_add (1 + 4 * t) 3) (by omega) hN9 d_L_law_318 ?_
  refine wl_i (va_runV (As := [.int (xs (1 + 4 * t + 1)), .int (xs (1 + 4 * t + 2)), .int (xs (1 + 4 * t + 3))]) (rest := [.int ((x_yields x (xs (1 + 4 * t + 1)) (xs (1 + 4 * t + 2)) (xs (1 + 4 * t + 3))).1)]) ⟨hx, hb, hml, hown, hts⟩ (c_M_yields l g (adl bm) hL x (xs (1 + 4 * t + 1)) (xs (1 + 4 * t + 2)) (xs (1 + 4 * t + 3)) _) (cwV 3 hts (gd_V tw_443 tw_444 tw_445 tw_28 tw_446) rfl rfl rfl (by decide +kernel) ⟨Nat.le_of_ble_eq_true rfl, Nat.le_of_ble_eq_true rfl⟩) (wp_V hK hN hPm (wJ_adl _ _) 0 (by omega) rfl rfl) rfl rfl hl.1 rfl (lv_room (Nat.le_of_ble_eq_true rfl)) d_L_law_319 ⟨hc9, hs9⟩) hS (lw_lo (Nat.le_trans hbx (by omega))) hPx (lw_dm hbm) (fun H locs hPm hPx hS => ?_)
  refine lv_icmp_eq (tgt := 675) hx hb d_L_law_322 (by decide) (fun c_1 => ?_) (fun c_1 => absurd rfl c_1)
  exact kk ((x_yields x (xs (1 + 4 * t + 1)) (xs (1 + 4 * t + 2)) (xs (1 + 4 * t + 3))).2) H locs (inv_yields hL hI ht (xs (1 + 4 * t + 1)) (xs (1 + 4 * t + 2)) (xs (1 + 4 * t + 3))) hPx hPm hS
set_option maxHeartbeats 4000000 in
set_option maxRecDepth 100000 in
theorem lc_bounds {p : Program} {l : Launch} {e : Env} {s : State} {m : MethodId} {below : List Frame} {meth : Method} {c : Code} {b N : Nat} {xs : Nat → Int32} {g : wG} {L bx bm cells slots : Nat} {Q : State → Prop} (C1 : lw_C p s m meth c b N xs g L bx bm) {t : Nat} (ht : t < 512) (htN : 1 + 4 * t + 3 < N) {x : xS} (hI : x_inv L t x) {H : Heap} {locs : List Loc} (hc9 : cells ≤ room_1.cells) (hs9 : slots ≤ room_1.slots) (hPx : va_P g.1 vwCl (wo (16 + 2 * L) (adl bx) (xE g (adl bx) L x)) H) (hPm : va_P g.1 vwCl (wo 14 (adl bm) (mE g (adl bm) L x)) H) (hS : va_S (fun q => s.heap.size ≤ q) s.heap H locs) {ls : Array Slot} (hl : lv_has ls 4 [(3, .int (nI (1 + 4 * t))), (2, .ref (adl bm 0)), (1, .ref (adl bx 0)), (0, .ref b)])
    (kk : ∀ (y : xS) (H1 : Heap) (locs1 : List Loc), x_inv L (t + 1) y → va_P g.1 vwCl (wo (16 + 2 * L) (adl bx) (xE g (adl bx) L y)) H1 → va_P g.1 vwCl (wo 14 (adl bm) (mE g (adl bm) L y)) H1 → va_S (fun q => s.heap.size ≤ q) s.heap H1 locs1 → W p l e room_1 s m #[Value.ref b] below meth c H1 locs1 cells slots Q (F0 m 675 ls [])) : W p l e room_1 s m #[Value.ref b] below meth c H locs cells slots Q (F0 m 327 ls []) := by
  obtain ⟨hx, hb, hml, hown, hts, hX, hbl, hN9, hK, hN, hL, hbx, hbm⟩ := C1
  have hrow := hI.1
  refine lv_aload_n hx hb d_L_law_327 rfl (lv_at hl 2 rfl) ?_
  refine lv_aload_n hx hb d_L_law_328 rfl (lv_at hl 3 rfl) ?_
  refine lv_iload_n hx hb d_L_law_329 rfl (lv_at hl 0 rfl) ?_
  refine lv_iconst (v := 1) hx hb d_L_law_330 (by decide) ?_
  refine lv_iadd hx hb d_L_law_331 ?_
  refine ws_ld hx hb hX hbl hS (1 + 4 * t + 1) (nI_add (1 + 4 * t) 1) (by omega) hN9 d_L_law_332 ?_
  refine lv_aload_n hx hb d_L_law_333 rfl (lv_at hl 3 rfl) ?_
  refine lv_iload_n hx hb d_L_law_334 rfl (lv_at hl 0 rfl) ?_
  refine lv_iconst (v := 2) hx hb d_L_law_335 (by decide) ?_
  refine lv_iadd hx hb d_L_law_336 ?_
  refine ws_ld hx hb hX hbl hS (1 + 4 * t + 2) (nI_add (1 + 4 * t) 2) (by omega) hN9 d_L_law_337 ?_
  refine lv_aload_n hx hb d_L_law_338 rfl (lv_at hl 3 rfl) ?_
  refine lv_iload_n hx hb d_L_law_339 rfl (lv_at hl 0 rfl) ?_
  refine lv_iconst (v := 3) hx hb d_L_law_340 (by decide) ?_
  refine lv_iadd hx hb d_L_law_341 ?_
  refine ws_ld hx hb hX hbl hS (1 + 4 * t + 3) (nI_add (1 + 4 * t) 3) (by omega) hN9 d_L_law_342 ?_
  refine wl_i (va_runV (As := [.int (xs (1 + 4 * t + 1)), .int (xs (1 + 4 * t + 2)), .int (xs (1 + 4 * t + 3))]) (rest := []) ⟨hx, hb, hml, hown, hts⟩ (c_X_bounds l g (adl bx) hL x (xs (1 + 4 * t + 1)) (xs (1 + 4 * t + 2)) (xs (1 + 4 * t + 3)) _) (cwV 3 hts (gd_V tw_186 tw_187 tw_188 tw_24 tw_189) rfl rfl rfl (by decide +kernel) ⟨Nat.le_of_ble_eq_true rfl, Nat.le_of_ble_eq_true rfl⟩) (wp_V hK hN hPx (wJ_adl _ _) 0 (by omega) rfl rfl) rfl rfl hl.1 rfl (lv_room (Nat.le_of_ble_eq_true rfl)) d_L_law_343 ⟨hc9, hs9⟩) hS (lw_lo hbx) hPm (lw_dx hbm) (fun H locs hPx hPm hS => ?_)
  refine lv_aload_n hx hb d_L_law_346 rfl (lv_at hl 1 rfl) ?_
  refine lv_aload_n hx hb d_L_law_347 rfl (lv_at hl 3 rfl) ?_
  refine lv_iload_n hx hb d_L_law_348 rfl (lv_at hl 0 rfl) ?_
  refine lv_iconst (v := 1) hx hb d_L_law_349 (by decide) ?_
  refine lv_iadd hx hb d_L_law_350 ?_
  refine ws_ld hx hb hX hbl hS (1 + 4 * t + 1) (nI_add (1 + 4 * t) 1) (by omega) hN9 d_L_law_351 ?_
  refine lv_aload_n hx hb d_L_law_352 rfl (lv_at hl 3 rfl) ?_
  refine lv_iload_n hx hb d_L_law_353 rfl (lv_at hl 0 rfl) ?_
  refine lv_iconst (v := 2) hx hb d_L_law_354 (by decide) ?_
  refine lv_iadd hx hb d_L_law_355 ?_
  refine ws_ld hx hb hX hbl hS (1 + 4 * t + 2) (nI_add (1 + 4 * t) 2) (by omega) hN9 d_L_law_356 ?_
  refine lv_aload_n hx hb d_L_law_357 rfl (lv_at hl 3 rfl) ?_
  refine lv_iload_n hx hb d_L_law_358 rfl (lv_at hl 0 rfl) ?_
  refine lv_iconst (v := 3) hx hb d_L_law_359 (by decide) ?_
  refine lv_iadd hx hb d_L_law_360 ?_
  refine ws_ld hx hb hX hbl hS (1 + 4 * t + 3) (nI_add (1 + 4 * t) 3) (by omega) hN9 d_L_law_361 ?_
  refine wl_i (va_runV (As := [.int (xs (1 + 4 * t + 1)), .int (xs (1 + 4 * t + 2)), .int (xs (1 + 4 * t + 3))]) (rest := [.int ((x_bounds L x (xs (1 + 4 * t + 1)) (xs (1 + 4 * t + 2)) (xs (1 + 4 * t + 3))).1)]) ⟨hx, hb, hml, hown, hts⟩ (c_M_bounds l g (adl bm) hL x (xs (1 + 4 * t + 1)) (xs (1 + 4 * t + 2)) (xs (1 + 4 * t + 3)) _) (cwV 3 hts (gd_V tw_448 tw_449 tw_450 tw_28 tw_451) rfl rfl rfl (by decide +kernel) ⟨Nat.le_of_ble_eq_true rfl, Nat.le_of_ble_eq_true rfl⟩) (wp_V hK hN hPm (wJ_adl _ _) 0 (by omega) rfl rfl) rfl rfl hl.1 rfl (lv_room (Nat.le_of_ble_eq_true rfl)) d_L_law_362 ⟨hc9, hs9⟩) hS (lw_lo (Nat.le_trans hbx (by omega))) hPx (lw_dm hbm) (fun H locs hPm hPx hS => ?_)
  refine lv_icmp_eq (tgt := 675) hx hb d_L_law_365 (by decide) (fun c_1 => ?_) (fun c_1 => absurd rfl c_1)
  exact kk ((x_bounds L x (xs (1 + 4 * t + 1)) (xs (1 + 4 * t + 2)) (xs (1 + 4 * t + 3))).2) H locs (inv_bounds hL hI ht (xs (1 + 4 * t + 1)) (xs (1 + 4 * t + 2)) (xs (1 + 4 * t + 3))) hPx hPm hS
set_option maxHeartbeats 4000000 in
set_option maxRecDepth 100000 in
theorem lc_rain {p : Program} {l : Launch} {e : Env} {s : State} {m : MethodId} {below : List Frame} {meth : Method} {c : Code} {b N : Nat} {xs : Nat → Int32} {g : wG} {L bx bm cells slots : Nat} {Q : State → Prop} (C1 : lw_C p s m meth c b N xs g L bx bm) {t : Nat} (ht : t < 512) (htN : 1 + 4 * t + 3 < N) {x : xS} (hI : x_inv L t x) {H : Heap} {locs : List Loc} (hc9 : cells ≤ room_1.cells) (hs9 : slots ≤ room_1.slots) (hPx : va_P g.1 vwCl (wo (16 + 2 * L) (adl bx) (xE g (adl bx) L x)) H) (hPm : va_P g.1 vwCl (wo 14 (adl bm) (mE g (adl bm) L x)) H) (hS : va_S (fun q => s.heap.size ≤ q) s.heap H locs) {ls : Array Slot} (hl : lv_has ls 4 [(3, .int (nI (1 + 4 * t))), (2, .ref (adl bm 0)), (1, .ref (adl bx 0)), (0, .ref b)])
    (kk : ∀ (y : xS) (H1 : Heap) (locs1 : List Loc), x_inv L (t + 1) y → va_P g.1 vwCl (wo (16 + 2 * L) (adl bx) (xE g (adl bx) L y)) H1 → va_P g.1 vwCl (wo 14 (adl bm) (mE g (adl bm) L y)) H1 → va_S (fun q => s.heap.size ≤ q) s.heap H1 locs1 → W p l e room_1 s m #[Value.ref b] below meth c H1 locs1 cells slots Q (F0 m 675 ls [])) : W p l e room_1 s m #[Value.ref b] below meth c H locs cells slots Q (F0 m 370 ls []) := by
  obtain ⟨hx, hb, hml, hown, hts, hX, hbl, hN9, hK, hN, hL, hbx, hbm⟩ := C1
  have hrow := hI.1
  refine lv_aload_n hx hb d_L_law_370 rfl (lv_at hl 2 rfl) ?_
  refine lv_aload_n hx hb d_L_law_371 rfl (lv_at hl 3 rfl) ?_
  refine lv_iload_n hx hb d_L_law_372 rfl (lv_at hl 0 rfl) ?_
  refine lv_iconst (v := 1) hx hb d_L_law_373 (by decide) ?_
  refine lv_iadd hx hb d_L_law_374 ?_
  refine ws_ld hx hb hX hbl hS (1 + 4 * t + 1) (nI_add (1 + 4 * t) 1) (by omega) hN9 d_L_law_375 ?_
  refine wl_i (va_runV (As := [.int (xs (1 + 4 * t + 1))]) (rest := []) ⟨hx, hb, hml, hown, hts⟩ (c_X_rain l g (adl bx) hL x (xs (1 + 4 * t + 1)) _) (cwV 1 hts (gd_V tw_190 tw_191 tw_192 tw_24 tw_193) rfl rfl rfl (by decide +kernel) ⟨Nat.le_of_ble_eq_true rfl, Nat.le_of_ble_eq_true rfl⟩) (wp_V hK hN hPx (wJ_adl _ _) 0 (by omega) rfl rfl) rfl rfl hl.1 rfl (lv_room (Nat.le_of_ble_eq_true rfl)) d_L_law_376 ⟨hc9, hs9⟩) hS (lw_lo hbx) hPm (lw_dx hbm) (fun H locs hPx hPm hS => ?_)
  refine lv_aload_n hx hb d_L_law_379 rfl (lv_at hl 1 rfl) ?_
  refine lv_aload_n hx hb d_L_law_380 rfl (lv_at hl 3 rfl) ?_
  refine lv_iload_n hx hb d_L_law_381 rfl (lv_at hl 0 rfl) ?_
  refine lv_iconst (v := 1) hx hb d_L_law_382 (by decide) ?_
  refine lv_iadd hx hb d_L_law_383 ?_
  refine ws_ld hx hb hX hbl hS (1 + 4 * t + 1) (nI_add (1 + 4 * t) 1) (by omega) hN9 d_L_law_384 ?_
  refine wl_i (va_runV (As := [.int (xs (1 + 4 * t + 1))]) (rest := [.int ((x_rain x (xs (1 + 4 * t + 1))).1)]) ⟨hx, hb, hml, hown, hts⟩ (c_M_rain l g (adl bm) hL x (xs (1 + 4 * t + 1)) _) (cwV 1 hts (gd_V tw_452 tw_453 tw_454 tw_28 tw_455) rfl rfl rfl (by decide +kernel) ⟨Nat.le_of_ble_eq_true rfl, Nat.le_of_ble_eq_true rfl⟩) (wp_V hK hN hPm (wJ_adl _ _) 0 (by omega) rfl rfl) rfl rfl hl.1 rfl (lv_room (Nat.le_of_ble_eq_true rfl)) d_L_law_385 ⟨hc9, hs9⟩) hS (lw_lo (Nat.le_trans hbx (by omega))) hPx (lw_dm hbm) (fun H locs hPm hPx hS => ?_)
  refine lv_icmp_eq (tgt := 675) hx hb d_L_law_388 (by decide) (fun c_1 => ?_) (fun c_1 => absurd rfl c_1)
  exact kk ((x_rain x (xs (1 + 4 * t + 1))).2) H locs (inv_rain hL hI ht (xs (1 + 4 * t + 1))) hPx hPm hS
set_option maxHeartbeats 4000000 in
set_option maxRecDepth 100000 in
theorem lc_loss {p : Program} {l : Launch} {e : Env} {s : State} {m : MethodId} {below : List Frame} {meth : Method} {c : Code} {b N : Nat} {xs : Nat → Int32} {g : wG} {L bx bm cells slots : Nat} {Q : State → Prop} (C1 : lw_C p s m meth c b N xs g L bx bm) {t : Nat} (ht : t < 512) (htN : 1 + 4 * t + 3 < N) {x : xS} (hI : x_inv L t x) {H : Heap} {locs : List Loc} (hc9 : cells ≤ room_1.cells) (hs9 : slots ≤ room_1.slots) (hPx : va_P g.1 vwCl (wo (16 + 2 * L) (adl bx) (xE g (adl bx) L x)) H) (hPm : va_P g.1 vwCl (wo 14 (adl bm) (mE g (adl bm) L x)) H) (hS : va_S (fun q => s.heap.size ≤ q) s.heap H locs) {ls : Array Slot} (hl : lv_has ls 4 [(3, .int (nI (1 + 4 * t))), (2, .ref (adl bm 0)), (1, .ref (adl bx 0)), (0, .ref b)])
    (kk : ∀ (y : xS) (H1 : Heap) (locs1 : List Loc), x_inv L (t + 1) y → va_P g.1 vwCl (wo (16 + 2 * L) (adl bx) (xE g (adl bx) L y)) H1 → va_P g.1 vwCl (wo 14 (adl bm) (mE g (adl bm) L y)) H1 → va_S (fun q => s.heap.size ≤ q) s.heap H1 locs1 → W p l e room_1 s m #[Value.ref b] below meth c H1 locs1 cells slots Q (F0 m 675 ls [])) : W p l e room_1 s m #[Value.ref b] below meth c H locs cells slots Q (F0 m 393 ls []) := by
  obtain ⟨hx, hb, hml, hown, hts, hX, hbl, hN9, hK, hN, hL, hbx, hbm⟩ := C1
  have hrow := hI.1
  refine lv_aload_n hx hb d_L_law_393 rfl (lv_at hl 2 rfl) ?_
  refine lv_aload_n hx hb d_L_law_394 rfl (lv_at hl 3 rfl) ?_
  refine lv_iload_n hx hb d_L_law_395 rfl (lv_at hl 0 rfl) ?_
  refine lv_iconst (v := 1) hx hb d_L_law_396 (by decide) ?_
  refine lv_iadd hx hb d_L_law_397 ?_
  refine ws_ld hx hb hX hbl hS (1 + 4 * t + 1) (nI_add (1 + 4 * t) 1) (by omega) hN9 d_L_law_398 ?_
  refine wl_i (va_runV (As := [.int (xs (1 + 4 * t + 1))]) (rest := []) ⟨hx, hb, hml, hown, hts⟩ (c_X_loss l g (adl bx) hL x (xs (1 + 4 * t + 1)) _) (cwV 1 hts (gd_V tw_194 tw_195 tw_196 tw_24 tw_197) rfl rfl rfl (by decide +kernel) ⟨Nat.le_of_ble_eq_true rfl, Nat.le_of_ble_eq_true rfl⟩) (wp_V hK hN hPx (wJ_adl _ _) 0 (by omega) rfl rfl) rfl rfl hl.1 rfl (lv_room (Nat.le_of_ble_eq_true rfl)) d_L_law_399 ⟨hc9, hs9⟩) hS (lw_lo hbx) hPm (lw_dx hbm) (fun H locs hPx hPm hS => ?_)
  refine lv_aload_n hx hb d_L_law_402 rfl (lv_at hl 1 rfl) ?_
  refine lv_aload_n hx hb d_L_law_403 rfl (lv_at hl 3 rfl) ?_
  refine lv_iload_n hx hb d_L_law_404 rfl (lv_at hl 0 rfl) ?_
  refine lv_iconst (v := 1) hx hb d_L_law_405 (by decide) ?_
  refine lv_iadd hx hb d_L_law_406 ?_
  refine ws_ld hx hb hX hbl hS (1 + 4 * t + 1) (nI_add (1 + 4 * t) 1) (by omega) hN9 d_L_law_407 ?_
  refine wl_i (va_runV (As := [.int (xs (1 + 4 * t + 1))]) (rest := [.int ((x_loss x (xs (1 + 4 * t + 1))).1)]) ⟨hx, hb, hml, hown, hts⟩ (c_M_loss l g (adl bm) hL x (xs (1 + 4 * t + 1)) _) (cwV 1 hts (gd_V tw_456 tw_457 tw_458 tw_28 tw_459) rfl rfl rfl (by decide +kernel) ⟨Nat.le_of_ble_eq_true rfl, Nat.le_of_ble_eq_true rfl⟩) (wp_V hK hN hPm (wJ_adl _ _) 0 (by omega) rfl rfl) rfl rfl hl.1 rfl (lv_room (Nat.le_of_ble_eq_true rfl)) d_L_law_408 ⟨hc9, hs9⟩) hS (lw_lo (Nat.le_trans hbx (by omega))) hPx (lw_dm hbm) (fun H locs hPm hPx hS => ?_)
  refine lv_icmp_eq (tgt := 675) hx hb d_L_law_411 (by decide) (fun c_1 => ?_) (fun c_1 => absurd rfl c_1)
  exact kk ((x_loss x (xs (1 + 4 * t + 1))).2) H locs (inv_loss hL hI ht (xs (1 + 4 * t + 1))) hPx hPm hS
set_option maxHeartbeats 4000000 in
set_option maxRecDepth 100000 in
theorem lc_fan {p : Program} {l : Launch} {e : Env} {s : State} {m : MethodId} {below : List Frame} {meth : Method} {c : Code} {b N : Nat} {xs : Nat → Int32} {g : wG} {L bx bm cells slots : Nat} {Q : State → Prop} (C1 : lw_C p s m meth c b N xs g L bx bm) {t : Nat} (ht : t < 512) (htN : 1 + 4 * t + 3 < N) {x : xS} (hI : x_inv L t x) {H : Heap} {locs : List Loc} (hc9 : cells ≤ room_1.cells) (hs9 : slots ≤ room_1.slots) (hPx : va_P g.1 vwCl (wo (16 + 2 * L) (adl bx) (xE g (adl bx) L x)) H) (hPm : va_P g.1 vwCl (wo 14 (adl bm) (mE g (adl bm) L x)) H) (hS : va_S (fun q => s.heap.size ≤ q) s.heap H locs) {ls : Array Slot} (hl : lv_has ls 4 [(3, .int (nI (1 + 4 * t))), (2, .ref (adl bm 0)), (1, .ref (adl bx 0)), (0, .ref b)])
    (kk : ∀ (y : xS) (H1 : Heap) (locs1 : List Loc), x_inv L (t + 1) y → va_P g.1 vwCl (wo (16 + 2 * L) (adl bx) (xE g (adl bx) L y)) H1 → va_P g.1 vwCl (wo 14 (adl bm) (mE g (adl bm) L y)) H1 → va_S (fun q => s.heap.size ≤ q) s.heap H1 locs1 → W p l e room_1 s m #[Value.ref b] below meth c H1 locs1 cells slots Q (F0 m 675 ls [])) : W p l e room_1 s m #[Value.ref b] below meth c H locs cells slots Q (F0 m 416 ls []) := by
  obtain ⟨hx, hb, hml, hown, hts, hX, hbl, hN9, hK, hN, hL, hbx, hbm⟩ := C1
  have hrow := hI.1
  refine lv_aload_n hx hb d_L_law_416 rfl (lv_at hl 2 rfl) ?_
  refine lv_aload_n hx hb d_L_law_417 rfl (lv_at hl 3 rfl) ?_
  refine lv_iload_n hx hb d_L_law_418 rfl (lv_at hl 0 rfl) ?_
  refine lv_iconst (v := 1) hx hb d_L_law_419 (by decide) ?_
  refine lv_iadd hx hb d_L_law_420 ?_
  refine ws_ld hx hb hX hbl hS (1 + 4 * t + 1) (nI_add (1 + 4 * t) 1) (by omega) hN9 d_L_law_421 ?_
  refine lv_aload_n hx hb d_L_law_422 rfl (lv_at hl 3 rfl) ?_
  refine lv_iload_n hx hb d_L_law_423 rfl (lv_at hl 0 rfl) ?_
  refine lv_iconst (v := 2) hx hb d_L_law_424 (by decide) ?_
  refine lv_iadd hx hb d_L_law_425 ?_
  refine ws_ld hx hb hX hbl hS (1 + 4 * t + 2) (nI_add (1 + 4 * t) 2) (by omega) hN9 d_L_law_426 ?_
  refine lv_aload_n hx hb d_L_law_427 rfl (lv_at hl 3 rfl) ?_
  refine lv_iload_n hx hb d_L_law_428 rfl (lv_at hl 0 rfl) ?_
  refine lv_iconst (v := 3) hx hb d_L_law_429 (by decide) ?_
  refine lv_iadd hx hb d_L_law_430 ?_
  refine ws_ld hx hb hX hbl hS (1 + 4 * t + 3) (nI_add (1 + 4 * t) 3) (by omega) hN9 d_L_law_431 ?_
  refine wl_i (va_runV (As := [.int (xs (1 + 4 * t + 1)), .int (xs (1 + 4 * t + 2)), .int (xs (1 + 4 * t + 3))]) (rest := []) ⟨hx, hb, hml, hown, hts⟩ (c_X_fan l g (adl bx) hL x (xs (1 + 4 * t + 1)) (xs (1 + 4 * t + 2)) (xs (1 + 4 * t + 3)) _) (cwV 3 hts (gd_V tw_198 tw_199 tw_200 tw_24 tw_201) rfl rfl rfl (by decide +kernel) ⟨Nat.le_of_ble_eq_true rfl, Nat.le_of_ble_eq_true rfl⟩) (wp_V hK hN hPx (wJ_adl _ _) 0 (by omega) rfl rfl) rfl rfl hl.1 rfl (lv_room (Nat.le_of_ble_eq_true rfl)) d_L_law_432 ⟨hc9, hs9⟩) hS (lw_lo hbx) hPm (lw_dx hbm) (fun H locs hPx hPm hS => ?_)
  refine lv_aload_n hx hb d_L_law_435 rfl (lv_at hl 1 rfl) ?_
  refine lv_aload_n hx hb d_L_law_436 rfl (lv_at hl 3 rfl) ?_
  refine lv_iload_n hx hb d_L_law_437 rfl (lv_at hl 0 rfl) ?_
  refine lv_iconst (v := 1) hx hb d_L_law_438 (by decide) ?_
  refine lv_iadd hx hb d_L_law_439 ?_
  refine ws_ld hx hb hX hbl hS (1 + 4 * t + 1) (nI_add (1 + 4 * t) 1) (by omega) hN9 d_L_law_440 ?_
  refine lv_aload_n hx hb d_L_law_441 rfl (lv_at hl 3 rfl) ?_
  refine lv_iload_n hx hb d_L_law_442 rfl (lv_at hl 0 rfl) ?_
  refine lv_iconst (v := 2) hx hb d_L_law_443 (by decide) ?_
  refine lv_iadd hx hb d_L_law_444 ?_
  refine ws_ld hx hb hX hbl hS (1 + 4 * t + 2) (nI_add (1 + 4 * t) 2) (by omega) hN9 d_L_law_445 ?_
  refine lv_aload_n hx hb d_L_law_446 rfl (lv_at hl 3 rfl) ?_
  refine lv_iload_n hx hb d_L_law_447 rfl (lv_at hl 0 rfl) ?_
  refine lv_iconst (v := 3) hx hb d_L_law_448 (by decide) ?_
  refine lv_iadd hx hb d_L_law_449 ?_
  refine ws_ld hx hb hX hbl hS (1 + 4 * t + 3) (nI_add (1 + 4 * t) 3) (by omega) hN9 d_L_law_450 ?_
  refine wl_i (va_runV (As := [.int (xs (1 + 4 * t + 1)), .int (xs (1 + 4 * t + 2)), .int (xs (1 + 4 * t + 3))]) (rest := [.int ((x_fan x (xs (1 + 4 * t + 1)) (xs (1 + 4 * t + 2)) (xs (1 + 4 * t + 3))).1)]) ⟨hx, hb, hml, hown, hts⟩ (c_M_fan l g (adl bm) hL x (xs (1 + 4 * t + 1)) (xs (1 + 4 * t + 2)) (xs (1 + 4 * t + 3)) _) (cwV 3 hts (gd_V tw_460 tw_461 tw_462 tw_28 tw_463) rfl rfl rfl (by decide +kernel) ⟨Nat.le_of_ble_eq_true rfl, Nat.le_of_ble_eq_true rfl⟩) (wp_V hK hN hPm (wJ_adl _ _) 0 (by omega) rfl rfl) rfl rfl hl.1 rfl (lv_room (Nat.le_of_ble_eq_true rfl)) d_L_law_451 ⟨hc9, hs9⟩) hS (lw_lo (Nat.le_trans hbx (by omega))) hPx (lw_dm hbm) (fun H locs hPm hPx hS => ?_)
  refine lv_icmp_eq (tgt := 675) hx hb d_L_law_454 (by decide) (fun c_1 => ?_) (fun c_1 => absurd rfl c_1)
  exact kk ((x_fan x (xs (1 + 4 * t + 1)) (xs (1 + 4 * t + 2)) (xs (1 + 4 * t + 3))).2) H locs (inv_fan hL hI ht (xs (1 + 4 * t + 1)) (xs (1 + 4 * t + 2)) (xs (1 + 4 * t + 3))) hPx hPm hS
set_option maxHeartbeats 4000000 in
set_option maxRecDepth 100000 in
theorem lc_limit {p : Program} {l : Launch} {e : Env} {s : State} {m : MethodId} {below : List Frame} {meth : Method} {c : Code} {b N : Nat} {xs : Nat → Int32} {g : wG} {L bx bm cells slots : Nat} {Q : State → Prop} (C1 : lw_C p s m meth c b N xs g L bx bm) {t : Nat} (ht : t < 512) (htN : 1 + 4 * t + 3 < N) {x : xS} (hI : x_inv L t x) {H : Heap} {locs : List Loc} (hc9 : cells ≤ room_1.cells) (hs9 : slots ≤ room_1.slots) (hPx : va_P g.1 vwCl (wo (16 + 2 * L) (adl bx) (xE g (adl bx) L x)) H) (hPm : va_P g.1 vwCl (wo 14 (adl bm) (mE g (adl bm) L x)) H) (hS : va_S (fun q => s.heap.size ≤ q) s.heap H locs) {ls : Array Slot} (hl : lv_has ls 4 [(3, .int (nI (1 + 4 * t))), (2, .ref (adl bm 0)), (1, .ref (adl bx 0)), (0, .ref b)])
    (kk : ∀ (y : xS) (H1 : Heap) (locs1 : List Loc), x_inv L (t + 1) y → va_P g.1 vwCl (wo (16 + 2 * L) (adl bx) (xE g (adl bx) L y)) H1 → va_P g.1 vwCl (wo 14 (adl bm) (mE g (adl bm) L y)) H1 → va_S (fun q => s.heap.size ≤ q) s.heap H1 locs1 → W p l e room_1 s m #[Value.ref b] below meth c H1 locs1 cells slots Q (F0 m 675 ls [])) : W p l e room_1 s m #[Value.ref b] below meth c H locs cells slots Q (F0 m 459 ls []) := by
  obtain ⟨hx, hb, hml, hown, hts, hX, hbl, hN9, hK, hN, hL, hbx, hbm⟩ := C1
  have hrow := hI.1
  refine lv_aload_n hx hb d_L_law_459 rfl (lv_at hl 2 rfl) ?_
  refine lv_aload_n hx hb d_L_law_460 rfl (lv_at hl 3 rfl) ?_
  refine lv_iload_n hx hb d_L_law_461 rfl (lv_at hl 0 rfl) ?_
  refine lv_iconst (v := 1) hx hb d_L_law_462 (by decide) ?_
  refine lv_iadd hx hb d_L_law_463 ?_
  refine ws_ld hx hb hX hbl hS (1 + 4 * t + 1) (nI_add (1 + 4 * t) 1) (by omega) hN9 d_L_law_464 ?_
  refine wl_i (va_runV (As := [.int (xs (1 + 4 * t + 1))]) (rest := []) ⟨hx, hb, hml, hown, hts⟩ (c_X_limit l g (adl bx) hL x (xs (1 + 4 * t + 1)) _) (cwV 1 hts (gd_V tw_206 tw_207 tw_208 tw_24 tw_209) rfl rfl rfl (by decide +kernel) ⟨Nat.le_of_ble_eq_true rfl, Nat.le_of_ble_eq_true rfl⟩) (wp_V hK hN hPx (wJ_adl _ _) 0 (by omega) rfl rfl) rfl rfl hl.1 rfl (lv_room (Nat.le_of_ble_eq_true rfl)) d_L_law_465 ⟨hc9, hs9⟩) hS (lw_lo hbx) hPm (lw_dx hbm) (fun H locs hPx hPm hS => ?_)
  refine lv_aload_n hx hb d_L_law_468 rfl (lv_at hl 1 rfl) ?_
  refine lv_aload_n hx hb d_L_law_469 rfl (lv_at hl 3 rfl) ?_
  refine lv_iload_n hx hb d_L_law_470 rfl (lv_at hl 0 rfl) ?_
  refine lv_iconst (v := 1) hx hb d_L_law_471 (by decide) ?_
  refine lv_iadd hx hb d_L_law_472 ?_
  refine ws_ld hx hb hX hbl hS (1 + 4 * t + 1) (nI_add (1 + 4 * t) 1) (by omega) hN9 d_L_law_473 ?_
  refine wl_i (va_runV (As := [.int (xs (1 + 4 * t + 1))]) (rest := [.int ((x_limit x (xs (1 + 4 * t + 1))).1)]) ⟨hx, hb, hml, hown, hts⟩ (c_M_limit l g (adl bm) hL x (xs (1 + 4 * t + 1)) _) (cwV 1 hts (gd_V tw_465 tw_466 tw_467 tw_28 tw_468) rfl rfl rfl (by decide +kernel) ⟨Nat.le_of_ble_eq_true rfl, Nat.le_of_ble_eq_true rfl⟩) (wp_V hK hN hPm (wJ_adl _ _) 0 (by omega) rfl rfl) rfl rfl hl.1 rfl (lv_room (Nat.le_of_ble_eq_true rfl)) d_L_law_474 ⟨hc9, hs9⟩) hS (lw_lo (Nat.le_trans hbx (by omega))) hPx (lw_dm hbm) (fun H locs hPm hPx hS => ?_)
  refine lv_icmp_eq (tgt := 675) hx hb d_L_law_477 (by decide) (fun c_1 => ?_) (fun c_1 => absurd rfl c_1)
  exact kk ((x_limit x (xs (1 + 4 * t + 1))).2) H locs (inv_limit hL hI ht (xs (1 + 4 * t + 1))) hPx hPm hS
set_option maxHeartbeats 4000000 in
set_option maxRecDepth 100000 in
theorem lc_run {p : Program} {l : Launch} {e : Env} {s : State} {m : MethodId} {below : List Frame} {meth : Method} {c : Code} {b N : Nat} {xs : Nat → Int32} {g : wG} {L bx bm cells slots : Nat} {Q : State → Prop} (C1 : lw_C p s m meth c b N xs g L bx bm) {t : Nat} (ht : t < 512) (htN : 1 + 4 * t + 3 < N) {x : xS} (hI : x_inv L t x) {H : Heap} {locs : List Loc} (hc9 : cells ≤ room_1.cells) (hs9 : slots ≤ room_1.slots) (hPx : va_P g.1 vwCl (wo (16 + 2 * L) (adl bx) (xE g (adl bx) L x)) H) (hPm : va_P g.1 vwCl (wo 14 (adl bm) (mE g (adl bm) L x)) H) (hS : va_S (fun q => s.heap.size ≤ q) s.heap H locs) {ls : Array Slot} (hl : lv_has ls 4 [(3, .int (nI (1 + 4 * t))), (2, .ref (adl bm 0)), (1, .ref (adl bx 0)), (0, .ref b)])
    (kk : ∀ (y : xS) (H1 : Heap) (locs1 : List Loc), x_inv L (t + 1) y → va_P g.1 vwCl (wo (16 + 2 * L) (adl bx) (xE g (adl bx) L y)) H1 → va_P g.1 vwCl (wo 14 (adl bm) (mE g (adl bm) L y)) H1 → va_S (fun q => s.heap.size ≤ q) s.heap H1 locs1 → W p l e room_1 s m #[Value.ref b] below meth c H1 locs1 cells slots Q (F0 m 675 ls [])) : W p l e room_1 s m #[Value.ref b] below meth c H locs cells slots Q (F0 m 482 ls []) := by
  obtain ⟨hx, hb, hml, hown, hts, hX, hbl, hN9, hK, hN, hL, hbx, hbm⟩ := C1
  have hrow := hI.1
  refine lv_aload_n hx hb d_L_law_482 rfl (lv_at hl 2 rfl) ?_
  refine lv_aload_n hx hb d_L_law_483 rfl (lv_at hl 3 rfl) ?_
  refine lv_iload_n hx hb d_L_law_484 rfl (lv_at hl 0 rfl) ?_
  refine lv_iconst (v := 1) hx hb d_L_law_485 (by decide) ?_
  refine lv_iadd hx hb d_L_law_486 ?_
  refine ws_ld hx hb hX hbl hS (1 + 4 * t + 1) (nI_add (1 + 4 * t) 1) (by omega) hN9 d_L_law_487 ?_
  refine wl_i (va_runV (As := [.int (xs (1 + 4 * t + 1))]) (rest := []) ⟨hx, hb, hml, hown, hts⟩ (c_X_run l g (adl bx) hL x hrow (xs (1 + 4 * t + 1)) _) (cwV 1 hts (gd_V tw_210 tw_211 tw_212 tw_24 tw_213) rfl rfl rfl (by decide +kernel) ⟨Nat.le_of_ble_eq_true rfl, Nat.le_of_ble_eq_true rfl⟩) (wp_V hK hN hPx (wJ_adl _ _) 0 (by omega) rfl rfl) rfl rfl hl.1 rfl (lv_room (Nat.le_of_ble_eq_true rfl)) d_L_law_488 ⟨hc9, hs9⟩) hS (lw_lo hbx) hPm (lw_dx hbm) (fun H locs hPx hPm hS => ?_)
  refine lv_aload_n hx hb d_L_law_491 rfl (lv_at hl 1 rfl) ?_
  refine lv_aload_n hx hb d_L_law_492 rfl (lv_at hl 3 rfl) ?_
  refine lv_iload_n hx hb d_L_law_493 rfl (lv_at hl 0 rfl) ?_
  refine lv_iconst (v := 1) hx hb d_L_law_494 (by decide) ?_
  refine lv_iadd hx hb d_L_law_495 ?_
  refine ws_ld hx hb hX hbl hS (1 + 4 * t + 1) (nI_add (1 + 4 * t) 1) (by omega) hN9 d_L_law_496 ?_
  refine wl_i (va_runV (As := [.int (xs (1 + 4 * t + 1))]) (rest := [.int ((x_run L x (xs (1 + 4 * t + 1))).1)]) ⟨hx, hb, hml, hown, hts⟩ (c_M_run l g (adl bm) hL x hrow (xs (1 + 4 * t + 1)) _) (cwV 1 hts (gd_V tw_469 tw_470 tw_471 tw_28 tw_472) rfl rfl rfl (by decide +kernel) ⟨Nat.le_of_ble_eq_true rfl, Nat.le_of_ble_eq_true rfl⟩) (wp_V hK hN hPm (wJ_adl _ _) 0 (by omega) rfl rfl) rfl rfl hl.1 rfl (lv_room (Nat.le_of_ble_eq_true rfl)) d_L_law_497 ⟨hc9, hs9⟩) hS (lw_lo (Nat.le_trans hbx (by omega))) hPx (lw_dm hbm) (fun H locs hPm hPx hS => ?_)
  refine lv_icmp_eq (tgt := 675) hx hb d_L_law_500 (by decide) (fun c_1 => ?_) (fun c_1 => absurd (by rw [eq_run hL hI ht (xs (1 + 4 * t + 1))]) c_1)
  rw [eq_run hL hI ht (xs (1 + 4 * t + 1))] at hPm
  exact kk ((x_run L x (xs (1 + 4 * t + 1))).2) H locs (inv_run hL hI ht (xs (1 + 4 * t + 1))) hPx hPm hS
set_option maxHeartbeats 4000000 in
set_option maxRecDepth 100000 in
theorem lc_left {p : Program} {l : Launch} {e : Env} {s : State} {m : MethodId} {below : List Frame} {meth : Method} {c : Code} {b N : Nat} {xs : Nat → Int32} {g : wG} {L bx bm cells slots : Nat} {Q : State → Prop} (C1 : lw_C p s m meth c b N xs g L bx bm) {t : Nat} (ht : t < 512) (htN : 1 + 4 * t + 3 < N) {x : xS} (hI : x_inv L t x) {H : Heap} {locs : List Loc} (hc9 : cells ≤ room_1.cells) (hs9 : slots ≤ room_1.slots) (hPx : va_P g.1 vwCl (wo (16 + 2 * L) (adl bx) (xE g (adl bx) L x)) H) (hPm : va_P g.1 vwCl (wo 14 (adl bm) (mE g (adl bm) L x)) H) (hS : va_S (fun q => s.heap.size ≤ q) s.heap H locs) {ls : Array Slot} (hl : lv_has ls 4 [(3, .int (nI (1 + 4 * t))), (2, .ref (adl bm 0)), (1, .ref (adl bx 0)), (0, .ref b)])
    (kk : ∀ (y : xS) (H1 : Heap) (locs1 : List Loc), x_inv L (t + 1) y → va_P g.1 vwCl (wo (16 + 2 * L) (adl bx) (xE g (adl bx) L y)) H1 → va_P g.1 vwCl (wo 14 (adl bm) (mE g (adl bm) L y)) H1 → va_S (fun q => s.heap.size ≤ q) s.heap H1 locs1 → W p l e room_1 s m #[Value.ref b] below meth c H1 locs1 cells slots Q (F0 m 675 ls [])) : W p l e room_1 s m #[Value.ref b] below meth c H locs cells slots Q (F0 m 505 ls []) := by
  obtain ⟨hx, hb, hml, hown, hts, hX, hbl, hN9, hK, hN, hL, hbx, hbm⟩ := C1
  have hrow := hI.1
  refine lv_aload_n hx hb d_L_law_505 rfl (lv_at hl 2 rfl) ?_
  refine lv_aload_n hx hb d_L_law_506 rfl (lv_at hl 3 rfl) ?_
  refine lv_iload_n hx hb d_L_law_507 rfl (lv_at hl 0 rfl) ?_
  refine lv_iconst (v := 1) hx hb d_L_law_508 (by decide) ?_
  refine lv_iadd hx hb d_L_law_509 ?_
  refine ws_ld hx hb hX hbl hS (1 + 4 * t + 1) (nI_add (1 + 4 * t) 1) (by omega) hN9 d_L_law_510 ?_
  refine lv_aload_n hx hb d_L_law_511 rfl (lv_at hl 3 rfl) ?_
  refine lv_iload_n hx hb d_L_law_512 rfl (lv_at hl 0 rfl) ?_
  refine lv_iconst (v := 2) hx hb d_L_law_513 (by decide) ?_
  refine lv_iadd hx hb d_L_law_514 ?_
  refine ws_ld hx hb hX hbl hS (1 + 4 * t + 2) (nI_add (1 + 4 * t) 2) (by omega) hN9 d_L_law_515 ?_
  refine wl_l (va_runV (As := [.int (xs (1 + 4 * t + 1)), .int (xs (1 + 4 * t + 2))]) (rest := []) ⟨hx, hb, hml, hown, hts⟩ (c_X_left l g (adl bx) hL x (xs (1 + 4 * t + 1)) (xs (1 + 4 * t + 2)) _) (cwV 2 hts (gd_V tw_285 tw_286 tw_287 tw_24 tw_288) rfl rfl rfl (by decide +kernel) ⟨Nat.le_of_ble_eq_true rfl, Nat.le_of_ble_eq_true rfl⟩) (wp_V hK hN hPx (wJ_adl _ _) 0 (by omega) rfl rfl) rfl rfl hl.1 rfl (lv_room (Nat.le_of_ble_eq_true rfl)) d_L_law_516 ⟨hc9, hs9⟩) hS (lw_lo hbx) hPm (lw_dx hbm) (fun H locs hPx hPm hS => ?_)
  refine lv_aload_n hx hb d_L_law_519 rfl (lv_at hl 1 rfl) ?_
  refine lv_aload_n hx hb d_L_law_520 rfl (lv_at hl 3 rfl) ?_
  refine lv_iload_n hx hb d_L_law_521 rfl (lv_at hl 0 rfl) ?_
  refine lv_iconst (v := 1) hx hb d_L_law_522 (by decide) ?_
  refine lv_iadd hx hb d_L_law_523 ?_
  refine ws_ld hx hb hX hbl hS (1 + 4 * t + 1) (nI_add (1 + 4 * t) 1) (by omega) hN9 d_L_law_524 ?_
  refine lv_aload_n hx hb d_L_law_525 rfl (lv_at hl 3 rfl) ?_
  refine lv_iload_n hx hb d_L_law_526 rfl (lv_at hl 0 rfl) ?_
  refine lv_iconst (v := 2) hx hb d_L_law_527 (by decide) ?_
  refine lv_iadd hx hb d_L_law_528 ?_
  refine ws_ld hx hb hX hbl hS (1 + 4 * t + 2) (nI_add (1 + 4 * t) 2) (by omega) hN9 d_L_law_529 ?_
  refine wl_l (va_runV (As := [.int (xs (1 + 4 * t + 1)), .int (xs (1 + 4 * t + 2))]) (rest := [.long (x_left L x (xs (1 + 4 * t + 1)) (xs (1 + 4 * t + 2)))]) ⟨hx, hb, hml, hown, hts⟩ (c_M_left l g (adl bm) hL x (xs (1 + 4 * t + 1)) (xs (1 + 4 * t + 2)) _) (cwV 2 hts (gd_V tw_514 tw_515 tw_516 tw_28 tw_517) rfl rfl rfl (by decide +kernel) ⟨Nat.le_of_ble_eq_true rfl, Nat.le_of_ble_eq_true rfl⟩) (wp_V hK hN hPm (wJ_adl _ _) 0 (by omega) rfl rfl) rfl rfl hl.1 rfl (lv_room (Nat.le_of_ble_eq_true rfl)) d_L_law_530 ⟨hc9, hs9⟩) hS (lw_lo (Nat.le_trans hbx (by omega))) hPx (lw_dm hbm) (fun H locs hPm hPx hS => ?_)
  refine W.lcmp hx hb d_L_law_533 ?_
  refine lv_if_eq (tgt := 675) hx hb d_L_law_534 (by decide) (fun c_1 => ?_) (fun c_1 => absurd ((lg_cmp_eq _ _).mpr rfl) c_1)
  exact kk x H locs (inv_next hI) hPx hPm hS
set_option maxHeartbeats 4000000 in
set_option maxRecDepth 100000 in
theorem lc_wet {p : Program} {l : Launch} {e : Env} {s : State} {m : MethodId} {below : List Frame} {meth : Method} {c : Code} {b N : Nat} {xs : Nat → Int32} {g : wG} {L bx bm cells slots : Nat} {Q : State → Prop} (C1 : lw_C p s m meth c b N xs g L bx bm) {t : Nat} (ht : t < 512) (htN : 1 + 4 * t + 3 < N) {x : xS} (hI : x_inv L t x) {H : Heap} {locs : List Loc} (hc9 : cells ≤ room_1.cells) (hs9 : slots ≤ room_1.slots) (hPx : va_P g.1 vwCl (wo (16 + 2 * L) (adl bx) (xE g (adl bx) L x)) H) (hPm : va_P g.1 vwCl (wo 14 (adl bm) (mE g (adl bm) L x)) H) (hS : va_S (fun q => s.heap.size ≤ q) s.heap H locs) {ls : Array Slot} (hl : lv_has ls 4 [(3, .int (nI (1 + 4 * t))), (2, .ref (adl bm 0)), (1, .ref (adl bx 0)), (0, .ref b)])
    (kk : ∀ (y : xS) (H1 : Heap) (locs1 : List Loc), x_inv L (t + 1) y → va_P g.1 vwCl (wo (16 + 2 * L) (adl bx) (xE g (adl bx) L y)) H1 → va_P g.1 vwCl (wo 14 (adl bm) (mE g (adl bm) L y)) H1 → va_S (fun q => s.heap.size ≤ q) s.heap H1 locs1 → W p l e room_1 s m #[Value.ref b] below meth c H1 locs1 cells slots Q (F0 m 675 ls [])) : W p l e room_1 s m #[Value.ref b] below meth c H locs cells slots Q (F0 m 539 ls []) := by
  obtain ⟨hx, hb, hml, hown, hts, hX, hbl, hN9, hK, hN, hL, hbx, hbm⟩ := C1
  have hrow := hI.1
  refine lv_aload_n hx hb d_L_law_539 rfl (lv_at hl 2 rfl) ?_
  refine lv_aload_n hx hb d_L_law_540 rfl (lv_at hl 3 rfl) ?_
  refine lv_iload_n hx hb d_L_law_541 rfl (lv_at hl 0 rfl) ?_
  refine lv_iconst (v := 1) hx hb d_L_law_542 (by decide) ?_
  refine lv_iadd hx hb d_L_law_543 ?_
  refine ws_ld hx hb hX hbl hS (1 + 4 * t + 1) (nI_add (1 + 4 * t) 1) (by omega) hN9 d_L_law_544 ?_
  refine wl_l (va_runV (As := [.int (xs (1 + 4 * t + 1))]) (rest := []) ⟨hx, hb, hml, hown, hts⟩ (c_X_wet l g (adl bx) hL x (xs (1 + 4 * t + 1)) _) (cwV 1 hts (gd_V tw_290 tw_291 tw_292 tw_24 tw_293) rfl rfl rfl (by decide +kernel) ⟨Nat.le_of_ble_eq_true rfl, Nat.le_of_ble_eq_true rfl⟩) (wp_V hK hN hPx (wJ_adl _ _) 0 (by omega) rfl rfl) rfl rfl hl.1 rfl (lv_room (Nat.le_of_ble_eq_true rfl)) d_L_law_545 ⟨hc9, hs9⟩) hS (lw_lo hbx) hPm (lw_dx hbm) (fun H locs hPx hPm hS => ?_)
  refine lv_aload_n hx hb d_L_law_548 rfl (lv_at hl 1 rfl) ?_
  refine lv_aload_n hx hb d_L_law_549 rfl (lv_at hl 3 rfl) ?_
  refine lv_iload_n hx hb d_L_law_550 rfl (lv_at hl 0 rfl) ?_
  refine lv_iconst (v := 1) hx hb d_L_law_551 (by decide) ?_
  refine lv_iadd hx hb d_L_law_552 ?_
  refine ws_ld hx hb hX hbl hS (1 + 4 * t + 1) (nI_add (1 + 4 * t) 1) (by omega) hN9 d_L_law_553 ?_
  refine wl_l (va_runV (As := [.int (xs (1 + 4 * t + 1))]) (rest := [.long (x_wet L x (xs (1 + 4 * t + 1)))]) ⟨hx, hb, hml, hown, hts⟩ (c_M_wet l g (adl bm) hL x (xs (1 + 4 * t + 1)) _) (cwV 1 hts (gd_V tw_519 tw_520 tw_521 tw_28 tw_522) rfl rfl rfl (by decide +kernel) ⟨Nat.le_of_ble_eq_true rfl, Nat.le_of_ble_eq_true rfl⟩) (wp_V hK hN hPm (wJ_adl _ _) 0 (by omega) rfl rfl) rfl rfl hl.1 rfl (lv_room (Nat.le_of_ble_eq_true rfl)) d_L_law_554 ⟨hc9, hs9⟩) hS (lw_lo (Nat.le_trans hbx (by omega))) hPx (lw_dm hbm) (fun H locs hPm hPx hS => ?_)
  refine W.lcmp hx hb d_L_law_557 ?_
  refine lv_if_eq (tgt := 675) hx hb d_L_law_558 (by decide) (fun c_1 => ?_) (fun c_1 => absurd ((lg_cmp_eq _ _).mpr rfl) c_1)
  exact kk x H locs (inv_next hI) hPx hPm hS
set_option maxHeartbeats 4000000 in
set_option maxRecDepth 100000 in
theorem lc_warmth {p : Program} {l : Launch} {e : Env} {s : State} {m : MethodId} {below : List Frame} {meth : Method} {c : Code} {b N : Nat} {xs : Nat → Int32} {g : wG} {L bx bm cells slots : Nat} {Q : State → Prop} (C1 : lw_C p s m meth c b N xs g L bx bm) {t : Nat} (ht : t < 512) (htN : 1 + 4 * t + 3 < N) {x : xS} (hI : x_inv L t x) {H : Heap} {locs : List Loc} (hc9 : cells ≤ room_1.cells) (hs9 : slots ≤ room_1.slots) (hPx : va_P g.1 vwCl (wo (16 + 2 * L) (adl bx) (xE g (adl bx) L x)) H) (hPm : va_P g.1 vwCl (wo 14 (adl bm) (mE g (adl bm) L x)) H) (hS : va_S (fun q => s.heap.size ≤ q) s.heap H locs) {ls : Array Slot} (hl : lv_has ls 4 [(3, .int (nI (1 + 4 * t))), (2, .ref (adl bm 0)), (1, .ref (adl bx 0)), (0, .ref b)])
    (kk : ∀ (y : xS) (H1 : Heap) (locs1 : List Loc), x_inv L (t + 1) y → va_P g.1 vwCl (wo (16 + 2 * L) (adl bx) (xE g (adl bx) L y)) H1 → va_P g.1 vwCl (wo 14 (adl bm) (mE g (adl bm) L y)) H1 → va_S (fun q => s.heap.size ≤ q) s.heap H1 locs1 → W p l e room_1 s m #[Value.ref b] below meth c H1 locs1 cells slots Q (F0 m 675 ls [])) : W p l e room_1 s m #[Value.ref b] below meth c H locs cells slots Q (F0 m 563 ls []) := by
  obtain ⟨hx, hb, hml, hown, hts, hX, hbl, hN9, hK, hN, hL, hbx, hbm⟩ := C1
  have hrow := hI.1
  refine lv_aload_n hx hb d_L_law_563 rfl (lv_at hl 2 rfl) ?_
  refine lv_aload_n hx hb d_L_law_564 rfl (lv_at hl 3 rfl) ?_
  refine lv_iload_n hx hb d_L_law_565 rfl (lv_at hl 0 rfl) ?_
  refine lv_iconst (v := 1) hx hb d_L_law_566 (by decide) ?_
  refine lv_iadd hx hb d_L_law_567 ?_
  refine ws_ld hx hb hX hbl hS (1 + 4 * t + 1) (nI_add (1 + 4 * t) 1) (by omega) hN9 d_L_law_568 ?_
  refine wl_l (va_runV (As := [.int (xs (1 + 4 * t + 1))]) (rest := []) ⟨hx, hb, hml, hown, hts⟩ (c_X_warmth l g (adl bx) hL x (xs (1 + 4 * t + 1)) _) (cwV 1 hts (gd_V tw_294 tw_295 tw_296 tw_24 tw_297) rfl rfl rfl (by decide +kernel) ⟨Nat.le_of_ble_eq_true rfl, Nat.le_of_ble_eq_true rfl⟩) (wp_V hK hN hPx (wJ_adl _ _) 0 (by omega) rfl rfl) rfl rfl hl.1 rfl (lv_room (Nat.le_of_ble_eq_true rfl)) d_L_law_569 ⟨hc9, hs9⟩) hS (lw_lo hbx) hPm (lw_dx hbm) (fun H locs hPx hPm hS => ?_)
  refine lv_aload_n hx hb d_L_law_572 rfl (lv_at hl 1 rfl) ?_
  refine lv_aload_n hx hb d_L_law_573 rfl (lv_at hl 3 rfl) ?_
  refine lv_iload_n hx hb d_L_law_574 rfl (lv_at hl 0 rfl) ?_
  refine lv_iconst (v := 1) hx hb d_L_law_575 (by decide) ?_
  refine lv_iadd hx hb d_L_law_576 ?_
  refine ws_ld hx hb hX hbl hS (1 + 4 * t + 1) (nI_add (1 + 4 * t) 1) (by omega) hN9 d_L_law_577 ?_
  refine wl_l (va_runV (As := [.int (xs (1 + 4 * t + 1))]) (rest := [.long (x_warmth L x (xs (1 + 4 * t + 1)))]) ⟨hx, hb, hml, hown, hts⟩ (c_M_warmth l g (adl bm) hL x (xs (1 + 4 * t + 1)) _) (cwV 1 hts (gd_V tw_523 tw_524 tw_525 tw_28 tw_526) rfl rfl rfl (by decide +kernel) ⟨Nat.le_of_ble_eq_true rfl, Nat.le_of_ble_eq_true rfl⟩) (wp_V hK hN hPm (wJ_adl _ _) 0 (by omega) rfl rfl) rfl rfl hl.1 rfl (lv_room (Nat.le_of_ble_eq_true rfl)) d_L_law_578 ⟨hc9, hs9⟩) hS (lw_lo (Nat.le_trans hbx (by omega))) hPx (lw_dm hbm) (fun H locs hPm hPx hS => ?_)
  refine W.lcmp hx hb d_L_law_581 ?_
  refine lv_if_eq (tgt := 675) hx hb d_L_law_582 (by decide) (fun c_1 => ?_) (fun c_1 => absurd ((lg_cmp_eq _ _).mpr (eq_warmth hL hI ht (xs (1 + 4 * t + 1))).symm) c_1)
  exact kk x H locs (inv_next hI) hPx hPm hS
set_option maxHeartbeats 4000000 in
set_option maxRecDepth 100000 in
theorem lc_air {p : Program} {l : Launch} {e : Env} {s : State} {m : MethodId} {below : List Frame} {meth : Method} {c : Code} {b N : Nat} {xs : Nat → Int32} {g : wG} {L bx bm cells slots : Nat} {Q : State → Prop} (C1 : lw_C p s m meth c b N xs g L bx bm) {t : Nat} (ht : t < 512) (htN : 1 + 4 * t + 3 < N) {x : xS} (hI : x_inv L t x) {H : Heap} {locs : List Loc} (hc9 : cells ≤ room_1.cells) (hs9 : slots ≤ room_1.slots) (hPx : va_P g.1 vwCl (wo (16 + 2 * L) (adl bx) (xE g (adl bx) L x)) H) (hPm : va_P g.1 vwCl (wo 14 (adl bm) (mE g (adl bm) L x)) H) (hS : va_S (fun q => s.heap.size ≤ q) s.heap H locs) {ls : Array Slot} (hl : lv_has ls 4 [(3, .int (nI (1 + 4 * t))), (2, .ref (adl bm 0)), (1, .ref (adl bx 0)), (0, .ref b)])
    (kk : ∀ (y : xS) (H1 : Heap) (locs1 : List Loc), x_inv L (t + 1) y → va_P g.1 vwCl (wo (16 + 2 * L) (adl bx) (xE g (adl bx) L y)) H1 → va_P g.1 vwCl (wo 14 (adl bm) (mE g (adl bm) L y)) H1 → va_S (fun q => s.heap.size ≤ q) s.heap H1 locs1 → W p l e room_1 s m #[Value.ref b] below meth c H1 locs1 cells slots Q (F0 m 675 ls [])) : W p l e room_1 s m #[Value.ref b] below meth c H locs cells slots Q (F0 m 587 ls []) := by
  obtain ⟨hx, hb, hml, hown, hts, hX, hbl, hN9, hK, hN, hL, hbx, hbm⟩ := C1
  have hrow := hI.1
  refine lv_aload_n hx hb d_L_law_587 rfl (lv_at hl 2 rfl) ?_
  refine wl_i (va_runV (As := []) (rest := []) ⟨hx, hb, hml, hown, hts⟩ (c_X_air l g (adl bx) hL x  _) (cwV 0 hts (gd_V tw_298 tw_299 tw_300 tw_24 tw_301) rfl rfl rfl (by decide +kernel) ⟨Nat.le_of_ble_eq_true rfl, Nat.le_of_ble_eq_true rfl⟩) (wp_V hK hN hPx (wJ_adl _ _) 0 (by omega) rfl rfl) rfl rfl hl.1 rfl (lv_room (Nat.le_of_ble_eq_true rfl)) d_L_law_588 ⟨hc9, hs9⟩) hS (lw_lo hbx) hPm (lw_dx hbm) (fun H locs hPx hPm hS => ?_)
  refine lv_aload_n hx hb d_L_law_591 rfl (lv_at hl 1 rfl) ?_
  refine wl_i (va_runV (As := []) (rest := [.int (xI x 8)]) ⟨hx, hb, hml, hown, hts⟩ (c_M_air l g (adl bm) hL x  _) (cwV 0 hts (gd_V tw_527 tw_528 tw_529 tw_28 tw_530) rfl rfl rfl (by decide +kernel) ⟨Nat.le_of_ble_eq_true rfl, Nat.le_of_ble_eq_true rfl⟩) (wp_V hK hN hPm (wJ_adl _ _) 0 (by omega) rfl rfl) rfl rfl hl.1 rfl (lv_room (Nat.le_of_ble_eq_true rfl)) d_L_law_592 ⟨hc9, hs9⟩) hS (lw_lo (Nat.le_trans hbx (by omega))) hPx (lw_dm hbm) (fun H locs hPm hPx hS => ?_)
  refine lv_icmp_eq (tgt := 675) hx hb d_L_law_595 (by decide) (fun c_1 => ?_) (fun c_1 => absurd rfl c_1)
  exact kk x H locs (inv_next hI) hPx hPm hS
set_option maxHeartbeats 4000000 in
set_option maxRecDepth 100000 in
theorem lc_turn {p : Program} {l : Launch} {e : Env} {s : State} {m : MethodId} {below : List Frame} {meth : Method} {c : Code} {b N : Nat} {xs : Nat → Int32} {g : wG} {L bx bm cells slots : Nat} {Q : State → Prop} (C1 : lw_C p s m meth c b N xs g L bx bm) {t : Nat} (ht : t < 512) (htN : 1 + 4 * t + 3 < N) {x : xS} (hI : x_inv L t x) {H : Heap} {locs : List Loc} (hc9 : cells ≤ room_1.cells) (hs9 : slots ≤ room_1.slots) (hPx : va_P g.1 vwCl (wo (16 + 2 * L) (adl bx) (xE g (adl bx) L x)) H) (hPm : va_P g.1 vwCl (wo 14 (adl bm) (mE g (adl bm) L x)) H) (hS : va_S (fun q => s.heap.size ≤ q) s.heap H locs) {ls : Array Slot} (hl : lv_has ls 4 [(3, .int (nI (1 + 4 * t))), (2, .ref (adl bm 0)), (1, .ref (adl bx 0)), (0, .ref b)])
    (kk : ∀ (y : xS) (H1 : Heap) (locs1 : List Loc), x_inv L (t + 1) y → va_P g.1 vwCl (wo (16 + 2 * L) (adl bx) (xE g (adl bx) L y)) H1 → va_P g.1 vwCl (wo 14 (adl bm) (mE g (adl bm) L y)) H1 → va_S (fun q => s.heap.size ≤ q) s.heap H1 locs1 → W p l e room_1 s m #[Value.ref b] below meth c H1 locs1 cells slots Q (F0 m 675 ls [])) : W p l e room_1 s m #[Value.ref b] below meth c H locs cells slots Q (F0 m 600 ls []) := by
  obtain ⟨hx, hb, hml, hown, hts, hX, hbl, hN9, hK, hN, hL, hbx, hbm⟩ := C1
  have hrow := hI.1
  refine lv_aload_n hx hb d_L_law_600 rfl (lv_at hl 2 rfl) ?_
  refine wl_i (va_runV (As := []) (rest := []) ⟨hx, hb, hml, hown, hts⟩ (c_X_turn l g (adl bx) hL x  _) (cwV 0 hts (gd_V tw_302 tw_303 tw_304 tw_24 tw_305) rfl rfl rfl (by decide +kernel) ⟨Nat.le_of_ble_eq_true rfl, Nat.le_of_ble_eq_true rfl⟩) (wp_V hK hN hPx (wJ_adl _ _) 0 (by omega) rfl rfl) rfl rfl hl.1 rfl (lv_room (Nat.le_of_ble_eq_true rfl)) d_L_law_601 ⟨hc9, hs9⟩) hS (lw_lo hbx) hPm (lw_dx hbm) (fun H locs hPx hPm hS => ?_)
  refine lv_aload_n hx hb d_L_law_604 rfl (lv_at hl 1 rfl) ?_
  refine wl_i (va_runV (As := []) (rest := [.int ((x_turn L x).1)]) ⟨hx, hb, hml, hown, hts⟩ (c_M_turn l g (adl bm) hL x  _) (cwV 0 hts (gd_V tw_531 tw_532 tw_533 tw_28 tw_534) rfl rfl rfl (by decide +kernel) ⟨Nat.le_of_ble_eq_true rfl, Nat.le_of_ble_eq_true rfl⟩) (wp_V hK hN hPm (wJ_adl _ _) 0 (by omega) rfl rfl) rfl rfl hl.1 rfl (lv_room (Nat.le_of_ble_eq_true rfl)) d_L_law_605 ⟨hc9, hs9⟩) hS (lw_lo (Nat.le_trans hbx (by omega))) hPx (lw_dm hbm) (fun H locs hPm hPx hS => ?_)
  refine lv_icmp_eq (tgt := 675) hx hb d_L_law_608 (by decide) (fun c_1 => ?_) (fun c_1 => absurd (by rw [eq_turn hL x]) c_1)
  rw [eq_turn hL x] at hPm
  exact kk ((x_turn L x).2) H locs (inv_turn hL hI ht) hPx hPm hS
set_option maxHeartbeats 4000000 in
set_option maxRecDepth 100000 in
theorem lc_gone {p : Program} {l : Launch} {e : Env} {s : State} {m : MethodId} {below : List Frame} {meth : Method} {c : Code} {b N : Nat} {xs : Nat → Int32} {g : wG} {L bx bm cells slots : Nat} {Q : State → Prop} (C1 : lw_C p s m meth c b N xs g L bx bm) {t : Nat} (ht : t < 512) (htN : 1 + 4 * t + 3 < N) {x : xS} (hI : x_inv L t x) {H : Heap} {locs : List Loc} (hc9 : cells ≤ room_1.cells) (hs9 : slots ≤ room_1.slots) (hPx : va_P g.1 vwCl (wo (16 + 2 * L) (adl bx) (xE g (adl bx) L x)) H) (hPm : va_P g.1 vwCl (wo 14 (adl bm) (mE g (adl bm) L x)) H) (hS : va_S (fun q => s.heap.size ≤ q) s.heap H locs) {ls : Array Slot} (hl : lv_has ls 4 [(3, .int (nI (1 + 4 * t))), (2, .ref (adl bm 0)), (1, .ref (adl bx 0)), (0, .ref b)])
    (kk : ∀ (y : xS) (H1 : Heap) (locs1 : List Loc), x_inv L (t + 1) y → va_P g.1 vwCl (wo (16 + 2 * L) (adl bx) (xE g (adl bx) L y)) H1 → va_P g.1 vwCl (wo 14 (adl bm) (mE g (adl bm) L y)) H1 → va_S (fun q => s.heap.size ≤ q) s.heap H1 locs1 → W p l e room_1 s m #[Value.ref b] below meth c H1 locs1 cells slots Q (F0 m 675 ls [])) : W p l e room_1 s m #[Value.ref b] below meth c H locs cells slots Q (F0 m 613 ls []) := by
  obtain ⟨hx, hb, hml, hown, hts, hX, hbl, hN9, hK, hN, hL, hbx, hbm⟩ := C1
  have hrow := hI.1
  refine lv_aload_n hx hb d_L_law_613 rfl (lv_at hl 2 rfl) ?_
  refine lv_aload_n hx hb d_L_law_614 rfl (lv_at hl 3 rfl) ?_
  refine lv_iload_n hx hb d_L_law_615 rfl (lv_at hl 0 rfl) ?_
  refine lv_iconst (v := 1) hx hb d_L_law_616 (by decide) ?_
  refine lv_iadd hx hb d_L_law_617 ?_
  refine ws_ld hx hb hX hbl hS (1 + 4 * t + 1) (nI_add (1 + 4 * t) 1) (by omega) hN9 d_L_law_618 ?_
  refine wl_l (va_runV (As := [.int (xs (1 + 4 * t + 1))]) (rest := []) ⟨hx, hb, hml, hown, hts⟩ (c_X_gone l g (adl bx) hL x (xs (1 + 4 * t + 1)) _) (cwV 1 hts (gd_V tw_314 tw_315 tw_316 tw_24 tw_317) rfl rfl rfl (by decide +kernel) ⟨Nat.le_of_ble_eq_true rfl, Nat.le_of_ble_eq_true rfl⟩) (wp_V hK hN hPx (wJ_adl _ _) 0 (by omega) rfl rfl) rfl rfl hl.1 rfl (lv_room (Nat.le_of_ble_eq_true rfl)) d_L_law_619 ⟨hc9, hs9⟩) hS (lw_lo hbx) hPm (lw_dx hbm) (fun H locs hPx hPm hS => ?_)
  refine lv_aload_n hx hb d_L_law_622 rfl (lv_at hl 1 rfl) ?_
  refine lv_aload_n hx hb d_L_law_623 rfl (lv_at hl 3 rfl) ?_
  refine lv_iload_n hx hb d_L_law_624 rfl (lv_at hl 0 rfl) ?_
  refine lv_iconst (v := 1) hx hb d_L_law_625 (by decide) ?_
  refine lv_iadd hx hb d_L_law_626 ?_
  refine ws_ld hx hb hX hbl hS (1 + 4 * t + 1) (nI_add (1 + 4 * t) 1) (by omega) hN9 d_L_law_627 ?_
  refine wl_l (va_runV (As := [.int (xs (1 + 4 * t + 1))]) (rest := [.long (x_gone x (xs (1 + 4 * t + 1)))]) ⟨hx, hb, hml, hown, hts⟩ (c_M_gone l g (adl bm) hL x (xs (1 + 4 * t + 1)) _) (cwV 1 hts (gd_V tw_539 tw_540 tw_541 tw_28 tw_542) rfl rfl rfl (by decide +kernel) ⟨Nat.le_of_ble_eq_true rfl, Nat.le_of_ble_eq_true rfl⟩) (wp_V hK hN hPm (wJ_adl _ _) 0 (by omega) rfl rfl) rfl rfl hl.1 rfl (lv_room (Nat.le_of_ble_eq_true rfl)) d_L_law_628 ⟨hc9, hs9⟩) hS (lw_lo (Nat.le_trans hbx (by omega))) hPx (lw_dm hbm) (fun H locs hPm hPx hS => ?_)
  refine W.lcmp hx hb d_L_law_631 ?_
  refine lv_if_eq (tgt := 675) hx hb d_L_law_632 (by decide) (fun c_1 => ?_) (fun c_1 => absurd ((lg_cmp_eq _ _).mpr rfl) c_1)
  exact kk x H locs (inv_next hI) hPx hPm hS
set_option maxHeartbeats 4000000 in
set_option maxRecDepth 100000 in
theorem lc_balance {p : Program} {l : Launch} {e : Env} {s : State} {m : MethodId} {below : List Frame} {meth : Method} {c : Code} {b N : Nat} {xs : Nat → Int32} {g : wG} {L bx bm cells slots : Nat} {Q : State → Prop} (C1 : lw_C p s m meth c b N xs g L bx bm) {t : Nat} (ht : t < 512) (htN : 1 + 4 * t + 3 < N) {x : xS} (hI : x_inv L t x) {H : Heap} {locs : List Loc} (hc9 : cells ≤ room_1.cells) (hs9 : slots ≤ room_1.slots) (hPx : va_P g.1 vwCl (wo (16 + 2 * L) (adl bx) (xE g (adl bx) L x)) H) (hPm : va_P g.1 vwCl (wo 14 (adl bm) (mE g (adl bm) L x)) H) (hS : va_S (fun q => s.heap.size ≤ q) s.heap H locs) {ls : Array Slot} (hl : lv_has ls 4 [(3, .int (nI (1 + 4 * t))), (2, .ref (adl bm 0)), (1, .ref (adl bx 0)), (0, .ref b)])
    (kk : ∀ (y : xS) (H1 : Heap) (locs1 : List Loc), x_inv L (t + 1) y → va_P g.1 vwCl (wo (16 + 2 * L) (adl bx) (xE g (adl bx) L y)) H1 → va_P g.1 vwCl (wo 14 (adl bm) (mE g (adl bm) L y)) H1 → va_S (fun q => s.heap.size ≤ q) s.heap H1 locs1 → W p l e room_1 s m #[Value.ref b] below meth c H1 locs1 cells slots Q (F0 m 675 ls [])) : W p l e room_1 s m #[Value.ref b] below meth c H locs cells slots Q (F0 m 637 ls []) := by
  obtain ⟨hx, hb, hml, hown, hts, hX, hbl, hN9, hK, hN, hL, hbx, hbm⟩ := C1
  have hrow := hI.1
  refine lv_aload_n hx hb d_L_law_637 rfl (lv_at hl 2 rfl) ?_
  refine lv_aload_n hx hb d_L_law_638 rfl (lv_at hl 3 rfl) ?_
  refine lv_iload_n hx hb d_L_law_639 rfl (lv_at hl 0 rfl) ?_
  refine lv_iconst (v := 1) hx hb d_L_law_640 (by decide) ?_
  refine lv_iadd hx hb d_L_law_641 ?_
  refine ws_ld hx hb hX hbl hS (1 + 4 * t + 1) (nI_add (1 + 4 * t) 1) (by omega) hN9 d_L_law_642 ?_
  refine wl_l (va_runV (As := [.int (xs (1 + 4 * t + 1))]) (rest := []) ⟨hx, hb, hml, hown, hts⟩ (c_X_balance l g (adl bx) hL x (xs (1 + 4 * t + 1)) _) (cwV 1 hts (gd_V tw_318 tw_319 tw_320 tw_24 tw_321) rfl rfl rfl (by decide +kernel) ⟨Nat.le_of_ble_eq_true rfl, Nat.le_of_ble_eq_true rfl⟩) (wp_V hK hN hPx (wJ_adl _ _) 0 (by omega) rfl rfl) rfl rfl hl.1 rfl (lv_room (Nat.le_of_ble_eq_true rfl)) d_L_law_643 ⟨hc9, hs9⟩) hS (lw_lo hbx) hPm (lw_dx hbm) (fun H locs hPx hPm hS => ?_)
  refine lv_aload_n hx hb d_L_law_646 rfl (lv_at hl 1 rfl) ?_
  refine lv_aload_n hx hb d_L_law_647 rfl (lv_at hl 3 rfl) ?_
  refine lv_iload_n hx hb d_L_law_648 rfl (lv_at hl 0 rfl) ?_
  refine lv_iconst (v := 1) hx hb d_L_law_649 (by decide) ?_
  refine lv_iadd hx hb d_L_law_650 ?_
  refine ws_ld hx hb hX hbl hS (1 + 4 * t + 1) (nI_add (1 + 4 * t) 1) (by omega) hN9 d_L_law_651 ?_
  refine wl_l (va_runV (As := [.int (xs (1 + 4 * t + 1))]) (rest := [.long (x_balance L x (xs (1 + 4 * t + 1)))]) ⟨hx, hb, hml, hown, hts⟩ (c_M_balance l g (adl bm) hL x (xs (1 + 4 * t + 1)) _) (cwV 1 hts (gd_V tw_544 tw_545 tw_546 tw_28 tw_547) rfl rfl rfl (by decide +kernel) ⟨Nat.le_of_ble_eq_true rfl, Nat.le_of_ble_eq_true rfl⟩) (wp_V hK hN hPm (wJ_adl _ _) 0 (by omega) rfl rfl) rfl rfl hl.1 rfl (lv_room (Nat.le_of_ble_eq_true rfl)) d_L_law_652 ⟨hc9, hs9⟩) hS (lw_lo (Nat.le_trans hbx (by omega))) hPx (lw_dm hbm) (fun H locs hPm hPx hS => ?_)
  refine W.lcmp hx hb d_L_law_655 ?_
  refine lv_if_eq (tgt := 675) hx hb d_L_law_656 (by decide) (fun c_1 => ?_) (fun c_1 => absurd ((lg_cmp_eq _ _).mpr (eq_balance hL x (xs (1 + 4 * t + 1))).symm) c_1)
  exact kk x H locs (inv_next hI) hPx hPm hS
set_option maxHeartbeats 4000000 in
set_option maxRecDepth 100000 in
theorem lc_batch {p : Program} {l : Launch} {e : Env} {s : State} {m : MethodId} {below : List Frame} {meth : Method} {c : Code} {b N : Nat} {xs : Nat → Int32} {g : wG} {L bx bm cells slots : Nat} {Q : State → Prop} (C1 : lw_C p s m meth c b N xs g L bx bm) {t : Nat} (ht : t < 512) (htN : 1 + 4 * t + 3 < N) {x : xS} (hI : x_inv L t x) {H : Heap} {locs : List Loc} (hc9 : cells ≤ room_1.cells) (hs9 : slots ≤ room_1.slots) (hPx : va_P g.1 vwCl (wo (16 + 2 * L) (adl bx) (xE g (adl bx) L x)) H) (hPm : va_P g.1 vwCl (wo 14 (adl bm) (mE g (adl bm) L x)) H) (hS : va_S (fun q => s.heap.size ≤ q) s.heap H locs) {ls : Array Slot} (hl : lv_has ls 4 [(3, .int (nI (1 + 4 * t))), (2, .ref (adl bm 0)), (1, .ref (adl bx 0)), (0, .ref b)])
    (kk : ∀ (y : xS) (H1 : Heap) (locs1 : List Loc), x_inv L (t + 1) y → va_P g.1 vwCl (wo (16 + 2 * L) (adl bx) (xE g (adl bx) L y)) H1 → va_P g.1 vwCl (wo 14 (adl bm) (mE g (adl bm) L y)) H1 → va_S (fun q => s.heap.size ≤ q) s.heap H1 locs1 → W p l e room_1 s m #[Value.ref b] below meth c H1 locs1 cells slots Q (F0 m 675 ls [])) : W p l e room_1 s m #[Value.ref b] below meth c H locs cells slots Q (F0 m 661 ls []) := by
  obtain ⟨hx, hb, hml, hown, hts, hX, hbl, hN9, hK, hN, hL, hbx, hbm⟩ := C1
  have hrow := hI.1
  refine lv_aload_n hx hb d_L_law_661 rfl (lv_at hl 2 rfl) ?_
  refine wl_l (va_runV (As := []) (rest := []) ⟨hx, hb, hml, hown, hts⟩ (c_X_batch l g (adl bx) hL x  _) (cwV 0 hts (gd_V tw_326 tw_327 tw_328 tw_24 tw_329) rfl rfl rfl (by decide +kernel) ⟨Nat.le_of_ble_eq_true rfl, Nat.le_of_ble_eq_true rfl⟩) (wp_V hK hN hPx (wJ_adl _ _) 0 (by omega) rfl rfl) rfl rfl hl.1 rfl (lv_room (Nat.le_of_ble_eq_true rfl)) d_L_law_662 ⟨hc9, hs9⟩) hS (lw_lo hbx) hPm (lw_dx hbm) (fun H locs hPx hPm hS => ?_)
  refine lv_aload_n hx hb d_L_law_665 rfl (lv_at hl 1 rfl) ?_
  refine wl_l (va_runV (As := []) (rest := [.long ((x_batchN x L).1)]) ⟨hx, hb, hml, hown, hts⟩ (c_M_batch l g (adl bm) hL x  _) (cwV 0 hts (gd_V tw_553 tw_554 tw_555 tw_28 tw_556) rfl rfl rfl (by decide +kernel) ⟨Nat.le_of_ble_eq_true rfl, Nat.le_of_ble_eq_true rfl⟩) (wp_V hK hN hPm (wJ_adl _ _) 0 (by omega) rfl rfl) rfl rfl hl.1 rfl (lv_room (Nat.le_of_ble_eq_true rfl)) d_L_law_666 ⟨hc9, hs9⟩) hS (lw_lo (Nat.le_trans hbx (by omega))) hPx (lw_dm hbm) (fun H locs hPm hPx hS => ?_)
  refine W.lcmp hx hb d_L_law_669 ?_
  refine lv_if_eq (tgt := 675) hx hb d_L_law_670 (by decide) (fun c_1 => ?_) (fun c_1 => absurd ((lg_cmp_eq _ _).mpr (eq_batch1 hL x).symm) c_1)
  rw [eq_batch2 hL] at hPm
  exact kk ((x_batchN x L).2) H locs (inv_batch hL hI ht) hPx hPm hS
