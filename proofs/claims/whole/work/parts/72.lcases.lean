/-! ## the law: the cases of its switch -/
section LAWCASES
variable {p : Program} {l : Launch} {e : Env} {s : State} {m : MethodId} {below : List Frame} {meth : Method} {c : Code} {dC : Nat → ClassId} {dI : Nat → Nat → Nat} {cI cB : ClassId} {bs L : Nat} {xs : Nat → Int32} {Q : State → Prop}
set_option maxRecDepth 100000 in
set_option maxHeartbeats 4000000 in
theorem wlaw_0 (C : lw_C p s m meth c bs) (hK : va_K (dC, dI) vwCl [(cI, .int), (cB, .object "DiceRoads$Board")] s) (hX : va_X bs L xs s s.heap) (hbl : bs < s.heap.size) {t1 t2 t3 : Nat} (hF : sn_W t1 t2 t3 (fun q => s.heap.size ≤ q) s s.heap) {b : Nat → Nat → Nat} {a : Nat → Nat} {X : xs_T} {S : ms_T} (hR : RR X S) {k : Nat} (hk : 4 * k + 4 ≤ L) (hL : L ≤ 2048) {H : Heap} {locs : List Loc} {ls : Array Slot} {cells slots : Nat} (hf : cells + 27 ≤ room_1.cells ∧ slots + 150 ≤ room_1.slots) (hG : gd_W (dC, dI) (fun q => s.heap.size ≤ q) s (gL cI cB b a X S).flatten H locs) (hl : lv_has ls 4 [(3, .int (nI (4 * k))), (2, .ref (a 0)), (1, .ref (b 0 0)), (0, .ref bs)])
    (kk : ∀ (b' : Nat → Nat → Nat) (X' : xs_T) (S' : ms_T) (H1 : Heap) (locs1 : List Loc), b' 0 0 = b 0 0 → RR X' S' → gd_W (dC, dI) (fun q => s.heap.size ≤ q) s (gL cI cB b' a X' S').flatten H1 locs1 → W p l e room_1 s m #[.ref bs] below meth c H1 locs1 (cells + 27) (slots + 150) Q (F0 m 685 ls [])) : W p l e room_1 s m #[.ref bs] below meth c H locs cells slots Q (F0 m 132 ls []) := by
  obtain ⟨hx, hb, hts, hown, hml⟩ := C
  have hA : ∀ q, s.heap.size ≤ q → (fun q => s.heap.size ≤ q) q := fun _ h => h
  have hf0 : cells ≤ room_1.cells ∧ slots ≤ room_1.slots := ⟨by omega, by omega⟩
  obtain ⟨r, X', S', e7, e8, hR'⟩ := lb_set hR (xs (4 * k + 1)) (xs (4 * k + 2))
  refine lv_aload_n hx hb dL_law_132 rfl (lv_at hl 2 rfl) ?_
  refine lv_aload_n hx hb dL_law_133 rfl (lv_at hl 3 rfl) ?_
  refine lv_iload_n hx hb dL_law_134 rfl (lv_at hl 0 rfl) ?_
  refine lv_iconst (v := (1 : Int32)) hx hb dL_law_135 (by decide) ?_
  refine lv_iadd hx hb dL_law_136 ?_
  refine gl_ld hx hb hX hbl (i := 4 * k + 1) (by omega) hL hG.2.2 dL_law_137 (lb_add (4 * k) 1) ?_
  refine lv_aload_n hx hb dL_law_138 rfl (lv_at hl 3 rfl) ?_
  refine lv_iload_n hx hb dL_law_139 rfl (lv_at hl 0 rfl) ?_
  refine lv_iconst (v := (2 : Int32)) hx hb dL_law_140 (by decide) ?_
  refine lv_iadd hx hb dL_law_141 ?_
  refine gl_ld hx hb hX hbl (i := 4 * k + 2) (by omega) hL hG.2.2 dL_law_142 (lb_add (4 * k) 2) ?_
  refine gn_iV (gs := gL cI cB b a X S) (gs' := gL cI cB b a X' S) (As := [.int (xs (4 * k + 1)), .int (xs (4 * k + 2))]) (rest := []) (wc := (gX cI cB b X).flatten) (w1 := (gX cI cB b X').flatten) (b := b 0 0) (C := RX7) (ci := 6) (q0 := 0) ⟨hx, hb, hml, hown, hts⟩ hF (c7_set l e7) (cwV 2 hts gv_L_13 rfl rfl rfl hd7_set ⟨Nat.le_of_ble_eq_true rfl, Nat.le_of_ble_eq_true rfl⟩) hK [0, 1] rfl hA hG [0] [1, 2] pl_0 pl_0 (List.append_nil _) (List.append_nil _) rfl rfl rfl rfl hl.1 rfl (Nat.le_of_ble_eq_true rfl) dL_law_143 hf0 (fun H locs hG9 => ?_)
  have hG : gd_W (dC, dI) (fun q => s.heap.size ≤ q) s (gL cI cB b a X' S).flatten H locs := hG9
  refine lv_aload_n hx hb dL_law_146 rfl (lv_at hl 1 rfl) ?_
  refine lv_aload_n hx hb dL_law_147 rfl (lv_at hl 3 rfl) ?_
  refine lv_iload_n hx hb dL_law_148 rfl (lv_at hl 0 rfl) ?_
  refine lv_iconst (v := (1 : Int32)) hx hb dL_law_149 (by decide) ?_
  refine lv_iadd hx hb dL_law_150 ?_
  refine gl_ld hx hb hX hbl (i := 4 * k + 1) (by omega) hL hG.2.2 dL_law_151 (lb_add (4 * k) 1) ?_
  refine lv_aload_n hx hb dL_law_152 rfl (lv_at hl 3 rfl) ?_
  refine lv_iload_n hx hb dL_law_153 rfl (lv_at hl 0 rfl) ?_
  refine lv_iconst (v := (2 : Int32)) hx hb dL_law_154 (by decide) ?_
  refine lv_iadd hx hb dL_law_155 ?_
  refine gl_ld hx hb hX hbl (i := 4 * k + 2) (by omega) hL hG.2.2 dL_law_156 (lb_add (4 * k) 2) ?_
  refine gq_iV (gs := gL cI cB b a X' S) (gs' := gL cI cB b a X' S') (As := [.int (xs (4 * k + 1)), .int (xs (4 * k + 2))]) (rest := [.int r]) (wc := wd_M cI a S) (w1 := wd_M cI a S') (b := a 0) (C := RX8) (ci := 7) (q0 := 0) ⟨hx, hb, hml, hown, hts⟩ (c8_set l e8) (cwV 2 hts gv_L_17 rfl rfl rfl hd8_set ⟨Nat.le_of_ble_eq_true rfl, Nat.le_of_ble_eq_true rfl⟩) hK [0] rfl hA hG [1, 2] [0] pl_2 pl_2 rfl rfl rfl rfl rfl rfl hl.1 rfl (Nat.le_of_ble_eq_true rfl) dL_law_157 hf0 (fun H locs hG9 => ?_)
  have hG : gd_W (dC, dI) (fun q => s.heap.size ≤ q) s (gL cI cB b a X' S').flatten H locs := hG9
  refine lv_icmp_eq (tgt := 685) hx hb dL_law_160 (by decide) (fun hc => ?_) (fun hc => ?_)
  · exact W.widen (Nat.le_add_right _ _) (Nat.le_add_right _ _) (kk b X' S' H locs rfl hR' hG)
  · exact absurd rfl hc
set_option maxRecDepth 100000 in
set_option maxHeartbeats 4000000 in
theorem wlaw_1 (C : lw_C p s m meth c bs) (hK : va_K (dC, dI) vwCl [(cI, .int), (cB, .object "DiceRoads$Board")] s) (hX : va_X bs L xs s s.heap) (hbl : bs < s.heap.size) {t1 t2 t3 : Nat} (hF : sn_W t1 t2 t3 (fun q => s.heap.size ≤ q) s s.heap) {b : Nat → Nat → Nat} {a : Nat → Nat} {X : xs_T} {S : ms_T} (hR : RR X S) {k : Nat} (hk : 4 * k + 4 ≤ L) (hL : L ≤ 2048) {H : Heap} {locs : List Loc} {ls : Array Slot} {cells slots : Nat} (hf : cells + 27 ≤ room_1.cells ∧ slots + 150 ≤ room_1.slots) (hG : gd_W (dC, dI) (fun q => s.heap.size ≤ q) s (gL cI cB b a X S).flatten H locs) (hl : lv_has ls 4 [(3, .int (nI (4 * k))), (2, .ref (a 0)), (1, .ref (b 0 0)), (0, .ref bs)])
    (kk : ∀ (b' : Nat → Nat → Nat) (X' : xs_T) (S' : ms_T) (H1 : Heap) (locs1 : List Loc), b' 0 0 = b 0 0 → RR X' S' → gd_W (dC, dI) (fun q => s.heap.size ≤ q) s (gL cI cB b' a X' S').flatten H1 locs1 → W p l e room_1 s m #[.ref bs] below meth c H1 locs1 (cells + 27) (slots + 150) Q (F0 m 685 ls [])) : W p l e room_1 s m #[.ref bs] below meth c H locs cells slots Q (F0 m 165 ls []) := by
  obtain ⟨hx, hb, hts, hown, hml⟩ := C
  have hA : ∀ q, s.heap.size ≤ q → (fun q => s.heap.size ≤ q) q := fun _ h => h
  have hf0 : cells ≤ room_1.cells ∧ slots ≤ room_1.slots := ⟨by omega, by omega⟩
  obtain ⟨r, X', S', e7, e8, hR'⟩ := lb_player hR (xs (4 * k + 1))
  refine lv_aload_n hx hb dL_law_165 rfl (lv_at hl 2 rfl) ?_
  refine lv_aload_n hx hb dL_law_166 rfl (lv_at hl 3 rfl) ?_
  refine lv_iload_n hx hb dL_law_167 rfl (lv_at hl 0 rfl) ?_
  refine lv_iconst (v := (1 : Int32)) hx hb dL_law_168 (by decide) ?_
  refine lv_iadd hx hb dL_law_169 ?_
  refine gl_ld hx hb hX hbl (i := 4 * k + 1) (by omega) hL hG.2.2 dL_law_170 (lb_add (4 * k) 1) ?_
  refine gq_iV (gs := gL cI cB b a X S) (gs' := gL cI cB b a X' S) (As := [.int (xs (4 * k + 1))]) (rest := []) (wc := (gX cI cB b X).flatten) (w1 := (gX cI cB b X').flatten) (b := b 0 0) (C := RX7) (ci := 6) (q0 := 0) ⟨hx, hb, hml, hown, hts⟩ (c7_player l e7) (cwV 1 hts gv_L_18 rfl rfl rfl hd7_player ⟨Nat.le_of_ble_eq_true rfl, Nat.le_of_ble_eq_true rfl⟩) hK [0, 1] rfl hA hG [0] [1, 2] pl_0 pl_0 (List.append_nil _) (List.append_nil _) rfl rfl rfl rfl hl.1 rfl (Nat.le_of_ble_eq_true rfl) dL_law_171 hf0 (fun H locs hG9 => ?_)
  have hG : gd_W (dC, dI) (fun q => s.heap.size ≤ q) s (gL cI cB b a X' S).flatten H locs := hG9
  refine lv_aload_n hx hb dL_law_174 rfl (lv_at hl 1 rfl) ?_
  refine lv_aload_n hx hb dL_law_175 rfl (lv_at hl 3 rfl) ?_
  refine lv_iload_n hx hb dL_law_176 rfl (lv_at hl 0 rfl) ?_
  refine lv_iconst (v := (1 : Int32)) hx hb dL_law_177 (by decide) ?_
  refine lv_iadd hx hb dL_law_178 ?_
  refine gl_ld hx hb hX hbl (i := 4 * k + 1) (by omega) hL hG.2.2 dL_law_179 (lb_add (4 * k) 1) ?_
  refine gq_iV (gs := gL cI cB b a X' S) (gs' := gL cI cB b a X' S') (As := [.int (xs (4 * k + 1))]) (rest := [.int r]) (wc := wd_M cI a S) (w1 := wd_M cI a S') (b := a 0) (C := RX8) (ci := 7) (q0 := 0) ⟨hx, hb, hml, hown, hts⟩ (c8_player l e8) (cwV 1 hts gv_L_22 rfl rfl rfl hd8_player ⟨Nat.le_of_ble_eq_true rfl, Nat.le_of_ble_eq_true rfl⟩) hK [0] rfl hA hG [1, 2] [0] pl_2 pl_2 rfl rfl rfl rfl rfl rfl hl.1 rfl (Nat.le_of_ble_eq_true rfl) dL_law_180 hf0 (fun H locs hG9 => ?_)
  have hG : gd_W (dC, dI) (fun q => s.heap.size ≤ q) s (gL cI cB b a X' S').flatten H locs := hG9
  refine lv_icmp_eq (tgt := 685) hx hb dL_law_183 (by decide) (fun hc => ?_) (fun hc => ?_)
  · exact W.widen (Nat.le_add_right _ _) (Nat.le_add_right _ _) (kk b X' S' H locs rfl hR' hG)
  · exact absurd rfl hc
set_option maxRecDepth 100000 in
set_option maxHeartbeats 4000000 in
theorem wlaw_2 (C : lw_C p s m meth c bs) (hK : va_K (dC, dI) vwCl [(cI, .int), (cB, .object "DiceRoads$Board")] s) (hX : va_X bs L xs s s.heap) (hbl : bs < s.heap.size) {t1 t2 t3 : Nat} (hF : sn_W t1 t2 t3 (fun q => s.heap.size ≤ q) s s.heap) {b : Nat → Nat → Nat} {a : Nat → Nat} {X : xs_T} {S : ms_T} (hR : RR X S) {k : Nat} (hk : 4 * k + 4 ≤ L) (hL : L ≤ 2048) {H : Heap} {locs : List Loc} {ls : Array Slot} {cells slots : Nat} (hf : cells + 27 ≤ room_1.cells ∧ slots + 150 ≤ room_1.slots) (hG : gd_W (dC, dI) (fun q => s.heap.size ≤ q) s (gL cI cB b a X S).flatten H locs) (hl : lv_has ls 4 [(3, .int (nI (4 * k))), (2, .ref (a 0)), (1, .ref (b 0 0)), (0, .ref bs)])
    (kk : ∀ (b' : Nat → Nat → Nat) (X' : xs_T) (S' : ms_T) (H1 : Heap) (locs1 : List Loc), b' 0 0 = b 0 0 → RR X' S' → gd_W (dC, dI) (fun q => s.heap.size ≤ q) s (gL cI cB b' a X' S').flatten H1 locs1 → W p l e room_1 s m #[.ref bs] below meth c H1 locs1 (cells + 27) (slots + 150) Q (F0 m 685 ls [])) : W p l e room_1 s m #[.ref bs] below meth c H locs cells slots Q (F0 m 188 ls []) := by
  obtain ⟨hx, hb, hts, hown, hml⟩ := C
  have hA : ∀ q, s.heap.size ≤ q → (fun q => s.heap.size ≤ q) q := fun _ h => h
  have hf0 : cells ≤ room_1.cells ∧ slots ≤ room_1.slots := ⟨by omega, by omega⟩
  obtain ⟨r, X', S', e7, e8, hR'⟩ := lb_seed hR (xs (4 * k + 1))
  refine lv_aload_n hx hb dL_law_188 rfl (lv_at hl 2 rfl) ?_
  refine lv_aload_n hx hb dL_law_189 rfl (lv_at hl 3 rfl) ?_
  refine lv_iload_n hx hb dL_law_190 rfl (lv_at hl 0 rfl) ?_
  refine lv_iconst (v := (1 : Int32)) hx hb dL_law_191 (by decide) ?_
  refine lv_iadd hx hb dL_law_192 ?_
  refine gl_ld hx hb hX hbl (i := 4 * k + 1) (by omega) hL hG.2.2 dL_law_193 (lb_add (4 * k) 1) ?_
  refine gq_iV (gs := gL cI cB b a X S) (gs' := gL cI cB b a X' S) (As := [.int (xs (4 * k + 1))]) (rest := []) (wc := (gX cI cB b X).flatten) (w1 := (gX cI cB b X').flatten) (b := b 0 0) (C := RX7) (ci := 6) (q0 := 0) ⟨hx, hb, hml, hown, hts⟩ (c7_seed l e7) (cwV 1 hts gv_L_23 rfl rfl rfl hd7_seed ⟨Nat.le_of_ble_eq_true rfl, Nat.le_of_ble_eq_true rfl⟩) hK [0, 1] rfl hA hG [0] [1, 2] pl_0 pl_0 (List.append_nil _) (List.append_nil _) rfl rfl rfl rfl hl.1 rfl (Nat.le_of_ble_eq_true rfl) dL_law_194 hf0 (fun H locs hG9 => ?_)
  have hG : gd_W (dC, dI) (fun q => s.heap.size ≤ q) s (gL cI cB b a X' S).flatten H locs := hG9
  refine lv_aload_n hx hb dL_law_197 rfl (lv_at hl 1 rfl) ?_
  refine lv_aload_n hx hb dL_law_198 rfl (lv_at hl 3 rfl) ?_
  refine lv_iload_n hx hb dL_law_199 rfl (lv_at hl 0 rfl) ?_
  refine lv_iconst (v := (1 : Int32)) hx hb dL_law_200 (by decide) ?_
  refine lv_iadd hx hb dL_law_201 ?_
  refine gl_ld hx hb hX hbl (i := 4 * k + 1) (by omega) hL hG.2.2 dL_law_202 (lb_add (4 * k) 1) ?_
  refine gq_iV (gs := gL cI cB b a X' S) (gs' := gL cI cB b a X' S') (As := [.int (xs (4 * k + 1))]) (rest := [.int r]) (wc := wd_M cI a S) (w1 := wd_M cI a S') (b := a 0) (C := RX8) (ci := 7) (q0 := 0) ⟨hx, hb, hml, hown, hts⟩ (c8_seed l e8) (cwV 1 hts gv_L_26 rfl rfl rfl hd8_seed ⟨Nat.le_of_ble_eq_true rfl, Nat.le_of_ble_eq_true rfl⟩) hK [0] rfl hA hG [1, 2] [0] pl_2 pl_2 rfl rfl rfl rfl rfl rfl hl.1 rfl (Nat.le_of_ble_eq_true rfl) dL_law_203 hf0 (fun H locs hG9 => ?_)
  have hG : gd_W (dC, dI) (fun q => s.heap.size ≤ q) s (gL cI cB b a X' S').flatten H locs := hG9
  refine lv_icmp_eq (tgt := 685) hx hb dL_law_206 (by decide) (fun hc => ?_) (fun hc => ?_)
  · exact W.widen (Nat.le_add_right _ _) (Nat.le_add_right _ _) (kk b X' S' H locs rfl hR' hG)
  · exact absurd rfl hc
set_option maxRecDepth 100000 in
set_option maxHeartbeats 4000000 in
theorem wlaw_3 (C : lw_C p s m meth c bs) (hK : va_K (dC, dI) vwCl [(cI, .int), (cB, .object "DiceRoads$Board")] s) (hX : va_X bs L xs s s.heap) (hbl : bs < s.heap.size) {t1 t2 t3 : Nat} (hF : sn_W t1 t2 t3 (fun q => s.heap.size ≤ q) s s.heap) {b : Nat → Nat → Nat} {a : Nat → Nat} {X : xs_T} {S : ms_T} (hR : RR X S) {k : Nat} (hk : 4 * k + 4 ≤ L) (hL : L ≤ 2048) {H : Heap} {locs : List Loc} {ls : Array Slot} {cells slots : Nat} (hf : cells + 27 ≤ room_1.cells ∧ slots + 150 ≤ room_1.slots) (hG : gd_W (dC, dI) (fun q => s.heap.size ≤ q) s (gL cI cB b a X S).flatten H locs) (hl : lv_has ls 4 [(3, .int (nI (4 * k))), (2, .ref (a 0)), (1, .ref (b 0 0)), (0, .ref bs)])
    (kk : ∀ (b' : Nat → Nat → Nat) (X' : xs_T) (S' : ms_T) (H1 : Heap) (locs1 : List Loc), b' 0 0 = b 0 0 → RR X' S' → gd_W (dC, dI) (fun q => s.heap.size ≤ q) s (gL cI cB b' a X' S').flatten H1 locs1 → W p l e room_1 s m #[.ref bs] below meth c H1 locs1 (cells + 27) (slots + 150) Q (F0 m 685 ls [])) : W p l e room_1 s m #[.ref bs] below meth c H locs cells slots Q (F0 m 211 ls []) := by
  obtain ⟨hx, hb, hts, hown, hml⟩ := C
  have hA : ∀ q, s.heap.size ≤ q → (fun q => s.heap.size ≤ q) q := fun _ h => h
  have hf0 : cells ≤ room_1.cells ∧ slots ≤ room_1.slots := ⟨by omega, by omega⟩
  obtain ⟨r, X', S', e7, e8, hR'⟩ := lb_go hR (xs (4 * k + 1))
  refine lv_aload_n hx hb dL_law_211 rfl (lv_at hl 2 rfl) ?_
  refine lv_aload_n hx hb dL_law_212 rfl (lv_at hl 3 rfl) ?_
  refine lv_iload_n hx hb dL_law_213 rfl (lv_at hl 0 rfl) ?_
  refine lv_iconst (v := (1 : Int32)) hx hb dL_law_214 (by decide) ?_
  refine lv_iadd hx hb dL_law_215 ?_
  refine gl_ld hx hb hX hbl (i := 4 * k + 1) (by omega) hL hG.2.2 dL_law_216 (lb_add (4 * k) 1) ?_
  refine gq_iV (gs := gL cI cB b a X S) (gs' := gL cI cB b a X' S) (As := [.int (xs (4 * k + 1))]) (rest := []) (wc := (gX cI cB b X).flatten) (w1 := (gX cI cB b X').flatten) (b := b 0 0) (C := RX7) (ci := 6) (q0 := 0) ⟨hx, hb, hml, hown, hts⟩ (c7_go l e7) (cwV 1 hts gv_L_27 rfl rfl rfl hd7_go ⟨Nat.le_of_ble_eq_true rfl, Nat.le_of_ble_eq_true rfl⟩) hK [0, 1] rfl hA hG [0] [1, 2] pl_0 pl_0 (List.append_nil _) (List.append_nil _) rfl rfl rfl rfl hl.1 rfl (Nat.le_of_ble_eq_true rfl) dL_law_217 hf0 (fun H locs hG9 => ?_)
  have hG : gd_W (dC, dI) (fun q => s.heap.size ≤ q) s (gL cI cB b a X' S).flatten H locs := hG9
  refine lv_aload_n hx hb dL_law_220 rfl (lv_at hl 1 rfl) ?_
  refine lv_aload_n hx hb dL_law_221 rfl (lv_at hl 3 rfl) ?_
  refine lv_iload_n hx hb dL_law_222 rfl (lv_at hl 0 rfl) ?_
  refine lv_iconst (v := (1 : Int32)) hx hb dL_law_223 (by decide) ?_
  refine lv_iadd hx hb dL_law_224 ?_
  refine gl_ld hx hb hX hbl (i := 4 * k + 1) (by omega) hL hG.2.2 dL_law_225 (lb_add (4 * k) 1) ?_
  refine gq_iV (gs := gL cI cB b a X' S) (gs' := gL cI cB b a X' S') (As := [.int (xs (4 * k + 1))]) (rest := [.int r]) (wc := wd_M cI a S) (w1 := wd_M cI a S') (b := a 0) (C := RX8) (ci := 7) (q0 := 0) ⟨hx, hb, hml, hown, hts⟩ (c8_go l e8) (cwV 1 hts gv_L_30 rfl rfl rfl hd8_go ⟨Nat.le_of_ble_eq_true rfl, Nat.le_of_ble_eq_true rfl⟩) hK [0] rfl hA hG [1, 2] [0] pl_2 pl_2 rfl rfl rfl rfl rfl rfl hl.1 rfl (Nat.le_of_ble_eq_true rfl) dL_law_226 hf0 (fun H locs hG9 => ?_)
  have hG : gd_W (dC, dI) (fun q => s.heap.size ≤ q) s (gL cI cB b a X' S').flatten H locs := hG9
  refine lv_icmp_eq (tgt := 685) hx hb dL_law_229 (by decide) (fun hc => ?_) (fun hc => ?_)
  · exact W.widen (Nat.le_add_right _ _) (Nat.le_add_right _ _) (kk b X' S' H locs rfl hR' hG)
  · exact absurd rfl hc
set_option maxRecDepth 100000 in
set_option maxHeartbeats 4000000 in
theorem wlaw_4 (C : lw_C p s m meth c bs) (hK : va_K (dC, dI) vwCl [(cI, .int), (cB, .object "DiceRoads$Board")] s) (hX : va_X bs L xs s s.heap) (hbl : bs < s.heap.size) {t1 t2 t3 : Nat} (hF : sn_W t1 t2 t3 (fun q => s.heap.size ≤ q) s s.heap) {b : Nat → Nat → Nat} {a : Nat → Nat} {X : xs_T} {S : ms_T} (hR : RR X S) {k : Nat} (hk : 4 * k + 4 ≤ L) (hL : L ≤ 2048) {H : Heap} {locs : List Loc} {ls : Array Slot} {cells slots : Nat} (hf : cells + 27 ≤ room_1.cells ∧ slots + 150 ≤ room_1.slots) (hG : gd_W (dC, dI) (fun q => s.heap.size ≤ q) s (gL cI cB b a X S).flatten H locs) (hl : lv_has ls 4 [(3, .int (nI (4 * k))), (2, .ref (a 0)), (1, .ref (b 0 0)), (0, .ref bs)])
    (kk : ∀ (b' : Nat → Nat → Nat) (X' : xs_T) (S' : ms_T) (H1 : Heap) (locs1 : List Loc), b' 0 0 = b 0 0 → RR X' S' → gd_W (dC, dI) (fun q => s.heap.size ≤ q) s (gL cI cB b' a X' S').flatten H1 locs1 → W p l e room_1 s m #[.ref bs] below meth c H1 locs1 (cells + 27) (slots + 150) Q (F0 m 685 ls [])) : W p l e room_1 s m #[.ref bs] below meth c H locs cells slots Q (F0 m 234 ls []) := by
  obtain ⟨hx, hb, hts, hown, hml⟩ := C
  have hA : ∀ q, s.heap.size ≤ q → (fun q => s.heap.size ≤ q) q := fun _ h => h
  have hf0 : cells ≤ room_1.cells ∧ slots ≤ room_1.slots := ⟨by omega, by omega⟩
  obtain ⟨r, X', S', e7, e8, hR'⟩ := lb_clear hR (xs (4 * k + 1))
  refine lv_aload_n hx hb dL_law_234 rfl (lv_at hl 2 rfl) ?_
  refine lv_aload_n hx hb dL_law_235 rfl (lv_at hl 3 rfl) ?_
  refine lv_iload_n hx hb dL_law_236 rfl (lv_at hl 0 rfl) ?_
  refine lv_iconst (v := (1 : Int32)) hx hb dL_law_237 (by decide) ?_
  refine lv_iadd hx hb dL_law_238 ?_
  refine gl_ld hx hb hX hbl (i := 4 * k + 1) (by omega) hL hG.2.2 dL_law_239 (lb_add (4 * k) 1) ?_
  refine gq_iV (gs := gL cI cB b a X S) (gs' := gL cI cB b a X' S) (As := [.int (xs (4 * k + 1))]) (rest := []) (wc := (gX cI cB b X).flatten) (w1 := (gX cI cB b X').flatten) (b := b 0 0) (C := RX7) (ci := 6) (q0 := 0) ⟨hx, hb, hml, hown, hts⟩ (c7_clear l e7) (cwV 1 hts gv_L_31 rfl rfl rfl hd7_clear ⟨Nat.le_of_ble_eq_true rfl, Nat.le_of_ble_eq_true rfl⟩) hK [0, 1] rfl hA hG [0] [1, 2] pl_0 pl_0 (List.append_nil _) (List.append_nil _) rfl rfl rfl rfl hl.1 rfl (Nat.le_of_ble_eq_true rfl) dL_law_240 hf0 (fun H locs hG9 => ?_)
  have hG : gd_W (dC, dI) (fun q => s.heap.size ≤ q) s (gL cI cB b a X' S).flatten H locs := hG9
  refine lv_aload_n hx hb dL_law_243 rfl (lv_at hl 1 rfl) ?_
  refine lv_aload_n hx hb dL_law_244 rfl (lv_at hl 3 rfl) ?_
  refine lv_iload_n hx hb dL_law_245 rfl (lv_at hl 0 rfl) ?_
  refine lv_iconst (v := (1 : Int32)) hx hb dL_law_246 (by decide) ?_
  refine lv_iadd hx hb dL_law_247 ?_
  refine gl_ld hx hb hX hbl (i := 4 * k + 1) (by omega) hL hG.2.2 dL_law_248 (lb_add (4 * k) 1) ?_
  refine gq_iV (gs := gL cI cB b a X' S) (gs' := gL cI cB b a X' S') (As := [.int (xs (4 * k + 1))]) (rest := [.int r]) (wc := wd_M cI a S) (w1 := wd_M cI a S') (b := a 0) (C := RX8) (ci := 7) (q0 := 0) ⟨hx, hb, hml, hown, hts⟩ (c8_clear l e8) (cwV 1 hts gv_L_34 rfl rfl rfl hd8_clear ⟨Nat.le_of_ble_eq_true rfl, Nat.le_of_ble_eq_true rfl⟩) hK [0] rfl hA hG [1, 2] [0] pl_2 pl_2 rfl rfl rfl rfl rfl rfl hl.1 rfl (Nat.le_of_ble_eq_true rfl) dL_law_249 hf0 (fun H locs hG9 => ?_)
  have hG : gd_W (dC, dI) (fun q => s.heap.size ≤ q) s (gL cI cB b a X' S').flatten H locs := hG9
  refine lv_icmp_eq (tgt := 685) hx hb dL_law_252 (by decide) (fun hc => ?_) (fun hc => ?_)
  · exact W.widen (Nat.le_add_right _ _) (Nat.le_add_right _ _) (kk b X' S' H locs rfl hR' hG)
  · exact absurd rfl hc
set_option maxRecDepth 100000 in
set_option maxHeartbeats 4000000 in
theorem wlaw_5 (C : lw_C p s m meth c bs) (hK : va_K (dC, dI) vwCl [(cI, .int), (cB, .object "DiceRoads$Board")] s) (hX : va_X bs L xs s s.heap) (hbl : bs < s.heap.size) {t1 t2 t3 : Nat} (hF : sn_W t1 t2 t3 (fun q => s.heap.size ≤ q) s s.heap) {b : Nat → Nat → Nat} {a : Nat → Nat} {X : xs_T} {S : ms_T} (hR : RR X S) {k : Nat} (hk : 4 * k + 4 ≤ L) (hL : L ≤ 2048) {H : Heap} {locs : List Loc} {ls : Array Slot} {cells slots : Nat} (hf : cells + 27 ≤ room_1.cells ∧ slots + 150 ≤ room_1.slots) (hG : gd_W (dC, dI) (fun q => s.heap.size ≤ q) s (gL cI cB b a X S).flatten H locs) (hl : lv_has ls 4 [(3, .int (nI (4 * k))), (2, .ref (a 0)), (1, .ref (b 0 0)), (0, .ref bs)])
    (kk : ∀ (b' : Nat → Nat → Nat) (X' : xs_T) (S' : ms_T) (H1 : Heap) (locs1 : List Loc), b' 0 0 = b 0 0 → RR X' S' → gd_W (dC, dI) (fun q => s.heap.size ≤ q) s (gL cI cB b' a X' S').flatten H1 locs1 → W p l e room_1 s m #[.ref bs] below meth c H1 locs1 (cells + 27) (slots + 150) Q (F0 m 685 ls [])) : W p l e room_1 s m #[.ref bs] below meth c H locs cells slots Q (F0 m 257 ls []) := by
  obtain ⟨hx, hb, hts, hown, hml⟩ := C
  have hA : ∀ q, s.heap.size ≤ q → (fun q => s.heap.size ≤ q) q := fun _ h => h
  have hf0 : cells ≤ room_1.cells ∧ slots ≤ room_1.slots := ⟨by omega, by omega⟩
  obtain ⟨⟨P9, t9, ht9, hJ9, hB9⟩, -⟩ := id hR
  obtain ⟨r, e7, e8⟩ := lb_of hJ9 hB9 (xs (4 * k + 1)) (xs (4 * k + 2))
  refine lv_aload_n hx hb dL_law_257 rfl (lv_at hl 2 rfl) ?_
  refine lv_aload_n hx hb dL_law_258 rfl (lv_at hl 3 rfl) ?_
  refine lv_iload_n hx hb dL_law_259 rfl (lv_at hl 0 rfl) ?_
  refine lv_iconst (v := (1 : Int32)) hx hb dL_law_260 (by decide) ?_
  refine lv_iadd hx hb dL_law_261 ?_
  refine gl_ld hx hb hX hbl (i := 4 * k + 1) (by omega) hL hG.2.2 dL_law_262 (lb_add (4 * k) 1) ?_
  refine lv_aload_n hx hb dL_law_263 rfl (lv_at hl 3 rfl) ?_
  refine lv_iload_n hx hb dL_law_264 rfl (lv_at hl 0 rfl) ?_
  refine lv_iconst (v := (2 : Int32)) hx hb dL_law_265 (by decide) ?_
  refine lv_iadd hx hb dL_law_266 ?_
  refine gl_ld hx hb hX hbl (i := 4 * k + 2) (by omega) hL hG.2.2 dL_law_267 (lb_add (4 * k) 2) ?_
  refine gq_iV (gs := gL cI cB b a X S) (gs' := gL cI cB b a X S) (As := [.int (xs (4 * k + 1)), .int (xs (4 * k + 2))]) (rest := []) (wc := (gX cI cB b X).flatten) (w1 := (gX cI cB b X).flatten) (b := b 0 0) (C := RX7) (ci := 6) (q0 := 0) ⟨hx, hb, hml, hown, hts⟩ (c7_of l e7) (cwV 2 hts gv_L_35 rfl rfl rfl hd7_of ⟨Nat.le_of_ble_eq_true rfl, Nat.le_of_ble_eq_true rfl⟩) hK [0, 1] rfl hA hG [0] [1, 2] pl_0 pl_0 (List.append_nil _) (List.append_nil _) rfl rfl rfl rfl hl.1 rfl (Nat.le_of_ble_eq_true rfl) dL_law_268 hf0 (fun H locs hG9 => ?_)
  have hG : gd_W (dC, dI) (fun q => s.heap.size ≤ q) s (gL cI cB b a X S).flatten H locs := hG9
  refine lv_aload_n hx hb dL_law_271 rfl (lv_at hl 1 rfl) ?_
  refine lv_aload_n hx hb dL_law_272 rfl (lv_at hl 3 rfl) ?_
  refine lv_iload_n hx hb dL_law_273 rfl (lv_at hl 0 rfl) ?_
  refine lv_iconst (v := (1 : Int32)) hx hb dL_law_274 (by decide) ?_
  refine lv_iadd hx hb dL_law_275 ?_
  refine gl_ld hx hb hX hbl (i := 4 * k + 1) (by omega) hL hG.2.2 dL_law_276 (lb_add (4 * k) 1) ?_
  refine lv_aload_n hx hb dL_law_277 rfl (lv_at hl 3 rfl) ?_
  refine lv_iload_n hx hb dL_law_278 rfl (lv_at hl 0 rfl) ?_
  refine lv_iconst (v := (2 : Int32)) hx hb dL_law_279 (by decide) ?_
  refine lv_iadd hx hb dL_law_280 ?_
  refine gl_ld hx hb hX hbl (i := 4 * k + 2) (by omega) hL hG.2.2 dL_law_281 (lb_add (4 * k) 2) ?_
  refine gq_iV (gs := gL cI cB b a X S) (gs' := gL cI cB b a X S) (As := [.int (xs (4 * k + 1)), .int (xs (4 * k + 2))]) (rest := [.int r]) (wc := wd_M0 cI a (S 8) (S 0)) (w1 := wd_M0 cI a (S 8) (S 0)) (b := a 0) (C := RX8) (ci := 7) (q0 := 0) ⟨hx, hb, hml, hown, hts⟩ (c8_of l (X := S 8) e8) (cwV 2 hts gv_L_38 rfl rfl rfl hd8_of ⟨Nat.le_of_ble_eq_true rfl, Nat.le_of_ble_eq_true rfl⟩) hK [0] rfl hA hG [1] [0, 2] pl_1 pl_1 rfl rfl rfl rfl rfl rfl hl.1 rfl (Nat.le_of_ble_eq_true rfl) dL_law_282 hf0 (fun H locs hG9 => ?_)
  have hG : gd_W (dC, dI) (fun q => s.heap.size ≤ q) s (gL cI cB b a X S).flatten H locs := hG9
  refine lv_icmp_eq (tgt := 685) hx hb dL_law_285 (by decide) (fun hc => ?_) (fun hc => ?_)
  · exact W.widen (Nat.le_add_right _ _) (Nat.le_add_right _ _) (kk b X S H locs rfl hR hG)
  · exact absurd rfl hc
set_option maxRecDepth 100000 in
set_option maxHeartbeats 4000000 in
theorem wlaw_6 (C : lw_C p s m meth c bs) (hK : va_K (dC, dI) vwCl [(cI, .int), (cB, .object "DiceRoads$Board")] s) (hX : va_X bs L xs s s.heap) (hbl : bs < s.heap.size) {t1 t2 t3 : Nat} (hF : sn_W t1 t2 t3 (fun q => s.heap.size ≤ q) s s.heap) {b : Nat → Nat → Nat} {a : Nat → Nat} {X : xs_T} {S : ms_T} (hR : RR X S) {k : Nat} (hk : 4 * k + 4 ≤ L) (hL : L ≤ 2048) {H : Heap} {locs : List Loc} {ls : Array Slot} {cells slots : Nat} (hf : cells + 27 ≤ room_1.cells ∧ slots + 150 ≤ room_1.slots) (hG : gd_W (dC, dI) (fun q => s.heap.size ≤ q) s (gL cI cB b a X S).flatten H locs) (hl : lv_has ls 4 [(3, .int (nI (4 * k))), (2, .ref (a 0)), (1, .ref (b 0 0)), (0, .ref bs)])
    (kk : ∀ (b' : Nat → Nat → Nat) (X' : xs_T) (S' : ms_T) (H1 : Heap) (locs1 : List Loc), b' 0 0 = b 0 0 → RR X' S' → gd_W (dC, dI) (fun q => s.heap.size ≤ q) s (gL cI cB b' a X' S').flatten H1 locs1 → W p l e room_1 s m #[.ref bs] below meth c H1 locs1 (cells + 27) (slots + 150) Q (F0 m 685 ls [])) : W p l e room_1 s m #[.ref bs] below meth c H locs cells slots Q (F0 m 290 ls []) := by
  obtain ⟨hx, hb, hts, hown, hml⟩ := C
  have hA : ∀ q, s.heap.size ≤ q → (fun q => s.heap.size ≤ q) q := fun _ h => h
  have hf0 : cells ≤ room_1.cells ∧ slots ≤ room_1.slots := ⟨by omega, by omega⟩
  obtain ⟨⟨P9, t9, ht9, hJ9, hB9⟩, -⟩ := id hR
  obtain ⟨r, e7, e8⟩ := lb_ofSquare hJ9 hB9 (xs (4 * k + 1)) (xs (4 * k + 2))
  refine lv_aload_n hx hb dL_law_290 rfl (lv_at hl 2 rfl) ?_
  refine lv_aload_n hx hb dL_law_291 rfl (lv_at hl 3 rfl) ?_
  refine lv_iload_n hx hb dL_law_292 rfl (lv_at hl 0 rfl) ?_
  refine lv_iconst (v := (1 : Int32)) hx hb dL_law_293 (by decide) ?_
  refine lv_iadd hx hb dL_law_294 ?_
  refine gl_ld hx hb hX hbl (i := 4 * k + 1) (by omega) hL hG.2.2 dL_law_295 (lb_add (4 * k) 1) ?_
  refine lv_aload_n hx hb dL_law_296 rfl (lv_at hl 3 rfl) ?_
  refine lv_iload_n hx hb dL_law_297 rfl (lv_at hl 0 rfl) ?_
  refine lv_iconst (v := (2 : Int32)) hx hb dL_law_298 (by decide) ?_
  refine lv_iadd hx hb dL_law_299 ?_
  refine gl_ld hx hb hX hbl (i := 4 * k + 2) (by omega) hL hG.2.2 dL_law_300 (lb_add (4 * k) 2) ?_
  refine gq_iV (gs := gL cI cB b a X S) (gs' := gL cI cB b a X S) (As := [.int (xs (4 * k + 1)), .int (xs (4 * k + 2))]) (rest := []) (wc := (gX cI cB b X).flatten) (w1 := (gX cI cB b X).flatten) (b := b 0 0) (C := RX7) (ci := 6) (q0 := 0) ⟨hx, hb, hml, hown, hts⟩ (c7_ofSquare l e7) (cwV 2 hts gv_L_39 rfl rfl rfl hd7_ofSquare ⟨Nat.le_of_ble_eq_true rfl, Nat.le_of_ble_eq_true rfl⟩) hK [0, 1] rfl hA hG [0] [1, 2] pl_0 pl_0 (List.append_nil _) (List.append_nil _) rfl rfl rfl rfl hl.1 rfl (Nat.le_of_ble_eq_true rfl) dL_law_301 hf0 (fun H locs hG9 => ?_)
  have hG : gd_W (dC, dI) (fun q => s.heap.size ≤ q) s (gL cI cB b a X S).flatten H locs := hG9
  refine lv_aload_n hx hb dL_law_304 rfl (lv_at hl 1 rfl) ?_
  refine lv_aload_n hx hb dL_law_305 rfl (lv_at hl 3 rfl) ?_
  refine lv_iload_n hx hb dL_law_306 rfl (lv_at hl 0 rfl) ?_
  refine lv_iconst (v := (1 : Int32)) hx hb dL_law_307 (by decide) ?_
  refine lv_iadd hx hb dL_law_308 ?_
  refine gl_ld hx hb hX hbl (i := 4 * k + 1) (by omega) hL hG.2.2 dL_law_309 (lb_add (4 * k) 1) ?_
  refine lv_aload_n hx hb dL_law_310 rfl (lv_at hl 3 rfl) ?_
  refine lv_iload_n hx hb dL_law_311 rfl (lv_at hl 0 rfl) ?_
  refine lv_iconst (v := (2 : Int32)) hx hb dL_law_312 (by decide) ?_
  refine lv_iadd hx hb dL_law_313 ?_
  refine gl_ld hx hb hX hbl (i := 4 * k + 2) (by omega) hL hG.2.2 dL_law_314 (lb_add (4 * k) 2) ?_
  refine gq_iV (gs := gL cI cB b a X S) (gs' := gL cI cB b a X S) (As := [.int (xs (4 * k + 1)), .int (xs (4 * k + 2))]) (rest := [.int r]) (wc := wd_M0 cI a (S 8) (S 0)) (w1 := wd_M0 cI a (S 8) (S 0)) (b := a 0) (C := RX8) (ci := 7) (q0 := 0) ⟨hx, hb, hml, hown, hts⟩ (c8_ofSquare l (X := S 8) e8) (cwV 2 hts gv_L_42 rfl rfl rfl hd8_ofSquare ⟨Nat.le_of_ble_eq_true rfl, Nat.le_of_ble_eq_true rfl⟩) hK [0] rfl hA hG [1] [0, 2] pl_1 pl_1 rfl rfl rfl rfl rfl rfl hl.1 rfl (Nat.le_of_ble_eq_true rfl) dL_law_315 hf0 (fun H locs hG9 => ?_)
  have hG : gd_W (dC, dI) (fun q => s.heap.size ≤ q) s (gL cI cB b a X S).flatten H locs := hG9
  refine lv_icmp_eq (tgt := 685) hx hb dL_law_318 (by decide) (fun hc => ?_) (fun hc => ?_)
  · exact W.widen (Nat.le_add_right _ _) (Nat.le_add_right _ _) (kk b X S H locs rfl hR hG)
  · exact absurd rfl hc
set_option maxRecDepth 100000 in
set_option maxHeartbeats 4000000 in
theorem wlaw_7 (C : lw_C p s m meth c bs) (hK : va_K (dC, dI) vwCl [(cI, .int), (cB, .object "DiceRoads$Board")] s) (hX : va_X bs L xs s s.heap) (hbl : bs < s.heap.size) {t1 t2 t3 : Nat} (hF : sn_W t1 t2 t3 (fun q => s.heap.size ≤ q) s s.heap) {b : Nat → Nat → Nat} {a : Nat → Nat} {X : xs_T} {S : ms_T} (hR : RR X S) {k : Nat} (hk : 4 * k + 4 ≤ L) (hL : L ≤ 2048) {H : Heap} {locs : List Loc} {ls : Array Slot} {cells slots : Nat} (hf : cells + 27 ≤ room_1.cells ∧ slots + 150 ≤ room_1.slots) (hG : gd_W (dC, dI) (fun q => s.heap.size ≤ q) s (gL cI cB b a X S).flatten H locs) (hl : lv_has ls 4 [(3, .int (nI (4 * k))), (2, .ref (a 0)), (1, .ref (b 0 0)), (0, .ref bs)])
    (kk : ∀ (b' : Nat → Nat → Nat) (X' : xs_T) (S' : ms_T) (H1 : Heap) (locs1 : List Loc), b' 0 0 = b 0 0 → RR X' S' → gd_W (dC, dI) (fun q => s.heap.size ≤ q) s (gL cI cB b' a X' S').flatten H1 locs1 → W p l e room_1 s m #[.ref bs] below meth c H1 locs1 (cells + 27) (slots + 150) Q (F0 m 685 ls [])) : W p l e room_1 s m #[.ref bs] below meth c H locs cells slots Q (F0 m 323 ls []) := by
  obtain ⟨hx, hb, hts, hown, hml⟩ := C
  have hA : ∀ q, s.heap.size ≤ q → (fun q => s.heap.size ≤ q) q := fun _ h => h
  have hf0 : cells ≤ room_1.cells ∧ slots ≤ room_1.slots := ⟨by omega, by omega⟩
  obtain ⟨⟨P9, t9, ht9, hJ9, hB9⟩, -⟩ := id hR
  obtain ⟨r, e7, e8⟩ := lb_owes hJ9 hB9 (xs (4 * k + 1)) (xs (4 * k + 2)) (xs (4 * k + 3))
  refine lv_aload_n hx hb dL_law_323 rfl (lv_at hl 2 rfl) ?_
  refine lv_aload_n hx hb dL_law_324 rfl (lv_at hl 3 rfl) ?_
  refine lv_iload_n hx hb dL_law_325 rfl (lv_at hl 0 rfl) ?_
  refine lv_iconst (v := (1 : Int32)) hx hb dL_law_326 (by decide) ?_
  refine lv_iadd hx hb dL_law_327 ?_
  refine gl_ld hx hb hX hbl (i := 4 * k + 1) (by omega) hL hG.2.2 dL_law_328 (lb_add (4 * k) 1) ?_
  refine lv_aload_n hx hb dL_law_329 rfl (lv_at hl 3 rfl) ?_
  refine lv_iload_n hx hb dL_law_330 rfl (lv_at hl 0 rfl) ?_
  refine lv_iconst (v := (2 : Int32)) hx hb dL_law_331 (by decide) ?_
  refine lv_iadd hx hb dL_law_332 ?_
  refine gl_ld hx hb hX hbl (i := 4 * k + 2) (by omega) hL hG.2.2 dL_law_333 (lb_add (4 * k) 2) ?_
  refine lv_aload_n hx hb dL_law_334 rfl (lv_at hl 3 rfl) ?_
  refine lv_iload_n hx hb dL_law_335 rfl (lv_at hl 0 rfl) ?_
  refine lv_iconst (v := (3 : Int32)) hx hb dL_law_336 (by decide) ?_
  refine lv_iadd hx hb dL_law_337 ?_
  refine gl_ld hx hb hX hbl (i := 4 * k + 3) (by omega) hL hG.2.2 dL_law_338 (lb_add (4 * k) 3) ?_
  refine gq_iV (gs := gL cI cB b a X S) (gs' := gL cI cB b a X S) (As := [.int (xs (4 * k + 1)), .int (xs (4 * k + 2)), .int (xs (4 * k + 3))]) (rest := []) (wc := (gX cI cB b X).flatten) (w1 := (gX cI cB b X).flatten) (b := b 0 0) (C := RX7) (ci := 6) (q0 := 0) ⟨hx, hb, hml, hown, hts⟩ (c7_owes l e7) (cwV 3 hts gv_L_43 rfl rfl rfl hd7_owes ⟨Nat.le_of_ble_eq_true rfl, Nat.le_of_ble_eq_true rfl⟩) hK [0, 1] rfl hA hG [0] [1, 2] pl_0 pl_0 (List.append_nil _) (List.append_nil _) rfl rfl rfl rfl hl.1 rfl (Nat.le_of_ble_eq_true rfl) dL_law_339 hf0 (fun H locs hG9 => ?_)
  have hG : gd_W (dC, dI) (fun q => s.heap.size ≤ q) s (gL cI cB b a X S).flatten H locs := hG9
  refine lv_aload_n hx hb dL_law_342 rfl (lv_at hl 1 rfl) ?_
  refine lv_aload_n hx hb dL_law_343 rfl (lv_at hl 3 rfl) ?_
  refine lv_iload_n hx hb dL_law_344 rfl (lv_at hl 0 rfl) ?_
  refine lv_iconst (v := (1 : Int32)) hx hb dL_law_345 (by decide) ?_
  refine lv_iadd hx hb dL_law_346 ?_
  refine gl_ld hx hb hX hbl (i := 4 * k + 1) (by omega) hL hG.2.2 dL_law_347 (lb_add (4 * k) 1) ?_
  refine lv_aload_n hx hb dL_law_348 rfl (lv_at hl 3 rfl) ?_
  refine lv_iload_n hx hb dL_law_349 rfl (lv_at hl 0 rfl) ?_
  refine lv_iconst (v := (2 : Int32)) hx hb dL_law_350 (by decide) ?_
  refine lv_iadd hx hb dL_law_351 ?_
  refine gl_ld hx hb hX hbl (i := 4 * k + 2) (by omega) hL hG.2.2 dL_law_352 (lb_add (4 * k) 2) ?_
  refine lv_aload_n hx hb dL_law_353 rfl (lv_at hl 3 rfl) ?_
  refine lv_iload_n hx hb dL_law_354 rfl (lv_at hl 0 rfl) ?_
  refine lv_iconst (v := (3 : Int32)) hx hb dL_law_355 (by decide) ?_
  refine lv_iadd hx hb dL_law_356 ?_
  refine gl_ld hx hb hX hbl (i := 4 * k + 3) (by omega) hL hG.2.2 dL_law_357 (lb_add (4 * k) 3) ?_
  refine gq_iV (gs := gL cI cB b a X S) (gs' := gL cI cB b a X S) (As := [.int (xs (4 * k + 1)), .int (xs (4 * k + 2)), .int (xs (4 * k + 3))]) (rest := [.int r]) (wc := wd_M0 cI a (S 8) (S 0)) (w1 := wd_M0 cI a (S 8) (S 0)) (b := a 0) (C := RX8) (ci := 7) (q0 := 0) ⟨hx, hb, hml, hown, hts⟩ (c8_owes l (X := S 8) e8) (cwV 3 hts gv_L_47 rfl rfl rfl hd8_owes ⟨Nat.le_of_ble_eq_true rfl, Nat.le_of_ble_eq_true rfl⟩) hK [0] rfl hA hG [1] [0, 2] pl_1 pl_1 rfl rfl rfl rfl rfl rfl hl.1 rfl (Nat.le_of_ble_eq_true rfl) dL_law_358 hf0 (fun H locs hG9 => ?_)
  have hG : gd_W (dC, dI) (fun q => s.heap.size ≤ q) s (gL cI cB b a X S).flatten H locs := hG9
  refine lv_icmp_eq (tgt := 685) hx hb dL_law_361 (by decide) (fun hc => ?_) (fun hc => ?_)
  · exact W.widen (Nat.le_add_right _ _) (Nat.le_add_right _ _) (kk b X S H locs rfl hR hG)
  · exact absurd rfl hc
set_option maxRecDepth 100000 in
set_option maxHeartbeats 4000000 in
theorem wlaw_8 (C : lw_C p s m meth c bs) (hK : va_K (dC, dI) vwCl [(cI, .int), (cB, .object "DiceRoads$Board")] s) (hX : va_X bs L xs s s.heap) (hbl : bs < s.heap.size) {t1 t2 t3 : Nat} (hF : sn_W t1 t2 t3 (fun q => s.heap.size ≤ q) s s.heap) {b : Nat → Nat → Nat} {a : Nat → Nat} {X : xs_T} {S : ms_T} (hR : RR X S) {k : Nat} (hk : 4 * k + 4 ≤ L) (hL : L ≤ 2048) {H : Heap} {locs : List Loc} {ls : Array Slot} {cells slots : Nat} (hf : cells + 27 ≤ room_1.cells ∧ slots + 150 ≤ room_1.slots) (hG : gd_W (dC, dI) (fun q => s.heap.size ≤ q) s (gL cI cB b a X S).flatten H locs) (hl : lv_has ls 4 [(3, .int (nI (4 * k))), (2, .ref (a 0)), (1, .ref (b 0 0)), (0, .ref bs)])
    (kk : ∀ (b' : Nat → Nat → Nat) (X' : xs_T) (S' : ms_T) (H1 : Heap) (locs1 : List Loc), b' 0 0 = b 0 0 → RR X' S' → gd_W (dC, dI) (fun q => s.heap.size ≤ q) s (gL cI cB b' a X' S').flatten H1 locs1 → W p l e room_1 s m #[.ref bs] below meth c H1 locs1 (cells + 27) (slots + 150) Q (F0 m 685 ls [])) : W p l e room_1 s m #[.ref bs] below meth c H locs cells slots Q (F0 m 366 ls []) := by
  obtain ⟨hx, hb, hts, hown, hml⟩ := C
  have hA : ∀ q, s.heap.size ≤ q → (fun q => s.heap.size ≤ q) q := fun _ h => h
  have hf0 : cells ≤ room_1.cells ∧ slots ≤ room_1.slots := ⟨by omega, by omega⟩
  obtain ⟨r, X', S', e7, e8, hR'⟩ := lb_count hR (xs (4 * k + 1))
  refine lv_aload_n hx hb dL_law_366 rfl (lv_at hl 2 rfl) ?_
  refine lv_aload_n hx hb dL_law_367 rfl (lv_at hl 3 rfl) ?_
  refine lv_iload_n hx hb dL_law_368 rfl (lv_at hl 0 rfl) ?_
  refine lv_iconst (v := (1 : Int32)) hx hb dL_law_369 (by decide) ?_
  refine lv_iadd hx hb dL_law_370 ?_
  refine gl_ld hx hb hX hbl (i := 4 * k + 1) (by omega) hL hG.2.2 dL_law_371 (lb_add (4 * k) 1) ?_
  refine gq_iV (gs := gL cI cB b a X S) (gs' := gL cI cB b a X' S) (As := [.int (xs (4 * k + 1))]) (rest := []) (wc := (gX cI cB b X).flatten) (w1 := (gX cI cB b X').flatten) (b := b 0 0) (C := RX7) (ci := 6) (q0 := 0) ⟨hx, hb, hml, hown, hts⟩ (c7_count l e7) (cwV 1 hts gv_L_48 rfl rfl rfl hd7_count ⟨Nat.le_of_ble_eq_true rfl, Nat.le_of_ble_eq_true rfl⟩) hK [0, 1] rfl hA hG [0] [1, 2] pl_0 pl_0 (List.append_nil _) (List.append_nil _) rfl rfl rfl rfl hl.1 rfl (Nat.le_of_ble_eq_true rfl) dL_law_372 hf0 (fun H locs hG9 => ?_)
  have hG : gd_W (dC, dI) (fun q => s.heap.size ≤ q) s (gL cI cB b a X' S).flatten H locs := hG9
  refine lv_aload_n hx hb dL_law_375 rfl (lv_at hl 1 rfl) ?_
  refine lv_aload_n hx hb dL_law_376 rfl (lv_at hl 3 rfl) ?_
  refine lv_iload_n hx hb dL_law_377 rfl (lv_at hl 0 rfl) ?_
  refine lv_iconst (v := (1 : Int32)) hx hb dL_law_378 (by decide) ?_
  refine lv_iadd hx hb dL_law_379 ?_
  refine gl_ld hx hb hX hbl (i := 4 * k + 1) (by omega) hL hG.2.2 dL_law_380 (lb_add (4 * k) 1) ?_
  refine gq_iV (gs := gL cI cB b a X' S) (gs' := gL cI cB b a X' S') (As := [.int (xs (4 * k + 1))]) (rest := [.int r]) (wc := wd_M cI a S) (w1 := wd_M cI a S') (b := a 0) (C := RX8) (ci := 7) (q0 := 0) ⟨hx, hb, hml, hown, hts⟩ (c8_count l e8) (cwV 1 hts gv_L_51 rfl rfl rfl hd8_count ⟨Nat.le_of_ble_eq_true rfl, Nat.le_of_ble_eq_true rfl⟩) hK [0] rfl hA hG [1, 2] [0] pl_2 pl_2 rfl rfl rfl rfl rfl rfl hl.1 rfl (Nat.le_of_ble_eq_true rfl) dL_law_381 hf0 (fun H locs hG9 => ?_)
  have hG : gd_W (dC, dI) (fun q => s.heap.size ≤ q) s (gL cI cB b a X' S').flatten H locs := hG9
  refine lv_icmp_eq (tgt := 685) hx hb dL_law_384 (by decide) (fun hc => ?_) (fun hc => ?_)
  · exact W.widen (Nat.le_add_right _ _) (Nat.le_add_right _ _) (kk b X' S' H locs rfl hR' hG)
  · exact absurd rfl hc
set_option maxRecDepth 100000 in
set_option maxHeartbeats 4000000 in
theorem wlaw_9 (C : lw_C p s m meth c bs) (hK : va_K (dC, dI) vwCl [(cI, .int), (cB, .object "DiceRoads$Board")] s) (hX : va_X bs L xs s s.heap) (hbl : bs < s.heap.size) {t1 t2 t3 : Nat} (hF : sn_W t1 t2 t3 (fun q => s.heap.size ≤ q) s s.heap) {b : Nat → Nat → Nat} {a : Nat → Nat} {X : xs_T} {S : ms_T} (hR : RR X S) {k : Nat} (hk : 4 * k + 4 ≤ L) (hL : L ≤ 2048) {H : Heap} {locs : List Loc} {ls : Array Slot} {cells slots : Nat} (hf : cells + 27 ≤ room_1.cells ∧ slots + 150 ≤ room_1.slots) (hG : gd_W (dC, dI) (fun q => s.heap.size ≤ q) s (gL cI cB b a X S).flatten H locs) (hl : lv_has ls 4 [(3, .int (nI (4 * k))), (2, .ref (a 0)), (1, .ref (b 0 0)), (0, .ref bs)])
    (kk : ∀ (b' : Nat → Nat → Nat) (X' : xs_T) (S' : ms_T) (H1 : Heap) (locs1 : List Loc), b' 0 0 = b 0 0 → RR X' S' → gd_W (dC, dI) (fun q => s.heap.size ≤ q) s (gL cI cB b' a X' S').flatten H1 locs1 → W p l e room_1 s m #[.ref bs] below meth c H1 locs1 (cells + 27) (slots + 150) Q (F0 m 685 ls [])) : W p l e room_1 s m #[.ref bs] below meth c H locs cells slots Q (F0 m 389 ls []) := by
  obtain ⟨hx, hb, hts, hown, hml⟩ := C
  have hA : ∀ q, s.heap.size ≤ q → (fun q => s.heap.size ≤ q) q := fun _ h => h
  have hf0 : cells ≤ room_1.cells ∧ slots ≤ room_1.slots := ⟨by omega, by omega⟩
  obtain ⟨r, X', S', e7, e8, hR'⟩ := lb_sign hR (xs (4 * k + 1))
  refine lv_aload_n hx hb dL_law_389 rfl (lv_at hl 2 rfl) ?_
  refine lv_aload_n hx hb dL_law_390 rfl (lv_at hl 3 rfl) ?_
  refine lv_iload_n hx hb dL_law_391 rfl (lv_at hl 0 rfl) ?_
  refine lv_iconst (v := (1 : Int32)) hx hb dL_law_392 (by decide) ?_
  refine lv_iadd hx hb dL_law_393 ?_
  refine gl_ld hx hb hX hbl (i := 4 * k + 1) (by omega) hL hG.2.2 dL_law_394 (lb_add (4 * k) 1) ?_
  refine gq_iV (gs := gL cI cB b a X S) (gs' := gL cI cB b a X' S) (As := [.int (xs (4 * k + 1))]) (rest := []) (wc := (gX cI cB b X).flatten) (w1 := (gX cI cB b X').flatten) (b := b 0 0) (C := RX7) (ci := 6) (q0 := 0) ⟨hx, hb, hml, hown, hts⟩ (c7_sign l e7) (cwV 1 hts gv_L_52 rfl rfl rfl hd7_sign ⟨Nat.le_of_ble_eq_true rfl, Nat.le_of_ble_eq_true rfl⟩) hK [0, 1] rfl hA hG [0] [1, 2] pl_0 pl_0 (List.append_nil _) (List.append_nil _) rfl rfl rfl rfl hl.1 rfl (Nat.le_of_ble_eq_true rfl) dL_law_395 hf0 (fun H locs hG9 => ?_)
  have hG : gd_W (dC, dI) (fun q => s.heap.size ≤ q) s (gL cI cB b a X' S).flatten H locs := hG9
  refine lv_aload_n hx hb dL_law_398 rfl (lv_at hl 1 rfl) ?_
  refine lv_aload_n hx hb dL_law_399 rfl (lv_at hl 3 rfl) ?_
  refine lv_iload_n hx hb dL_law_400 rfl (lv_at hl 0 rfl) ?_
  refine lv_iconst (v := (1 : Int32)) hx hb dL_law_401 (by decide) ?_
  refine lv_iadd hx hb dL_law_402 ?_
  refine gl_ld hx hb hX hbl (i := 4 * k + 1) (by omega) hL hG.2.2 dL_law_403 (lb_add (4 * k) 1) ?_
  refine gq_iV (gs := gL cI cB b a X' S) (gs' := gL cI cB b a X' S') (As := [.int (xs (4 * k + 1))]) (rest := [.int r]) (wc := wd_M cI a S) (w1 := wd_M cI a S') (b := a 0) (C := RX8) (ci := 7) (q0 := 0) ⟨hx, hb, hml, hown, hts⟩ (c8_sign l e8) (cwV 1 hts gv_L_55 rfl rfl rfl hd8_sign ⟨Nat.le_of_ble_eq_true rfl, Nat.le_of_ble_eq_true rfl⟩) hK [0] rfl hA hG [1, 2] [0] pl_2 pl_2 rfl rfl rfl rfl rfl rfl hl.1 rfl (Nat.le_of_ble_eq_true rfl) dL_law_404 hf0 (fun H locs hG9 => ?_)
  have hG : gd_W (dC, dI) (fun q => s.heap.size ≤ q) s (gL cI cB b a X' S').flatten H locs := hG9
  refine lv_icmp_eq (tgt := 685) hx hb dL_law_407 (by decide) (fun hc => ?_) (fun hc => ?_)
  · exact W.widen (Nat.le_add_right _ _) (Nat.le_add_right _ _) (kk b X' S' H locs rfl hR' hG)
  · exact absurd rfl hc
set_option maxRecDepth 100000 in
set_option maxHeartbeats 4000000 in
theorem wlaw_10 (C : lw_C p s m meth c bs) (hK : va_K (dC, dI) vwCl [(cI, .int), (cB, .object "DiceRoads$Board")] s) (hX : va_X bs L xs s s.heap) (hbl : bs < s.heap.size) {t1 t2 t3 : Nat} (hF : sn_W t1 t2 t3 (fun q => s.heap.size ≤ q) s s.heap) {b : Nat → Nat → Nat} {a : Nat → Nat} {X : xs_T} {S : ms_T} (hR : RR X S) {k : Nat} (hk : 4 * k + 4 ≤ L) (hL : L ≤ 2048) {H : Heap} {locs : List Loc} {ls : Array Slot} {cells slots : Nat} (hf : cells + 27 ≤ room_1.cells ∧ slots + 150 ≤ room_1.slots) (hG : gd_W (dC, dI) (fun q => s.heap.size ≤ q) s (gL cI cB b a X S).flatten H locs) (hl : lv_has ls 4 [(3, .int (nI (4 * k))), (2, .ref (a 0)), (1, .ref (b 0 0)), (0, .ref bs)])
    (kk : ∀ (b' : Nat → Nat → Nat) (X' : xs_T) (S' : ms_T) (H1 : Heap) (locs1 : List Loc), b' 0 0 = b 0 0 → RR X' S' → gd_W (dC, dI) (fun q => s.heap.size ≤ q) s (gL cI cB b' a X' S').flatten H1 locs1 → W p l e room_1 s m #[.ref bs] below meth c H1 locs1 (cells + 27) (slots + 150) Q (F0 m 685 ls [])) : W p l e room_1 s m #[.ref bs] below meth c H locs cells slots Q (F0 m 412 ls []) := by
  obtain ⟨hx, hb, hts, hown, hml⟩ := C
  have hA : ∀ q, s.heap.size ≤ q → (fun q => s.heap.size ≤ q) q := fun _ h => h
  have hf0 : cells ≤ room_1.cells ∧ slots ≤ room_1.slots := ⟨by omega, by omega⟩
  obtain ⟨r, S', e7, e8, hR'⟩ := lb_chain hR (xs (4 * k + 1)) (xs (4 * k + 2))
  refine lv_aload_n hx hb dL_law_412 rfl (lv_at hl 2 rfl) ?_
  refine lv_aload_n hx hb dL_law_413 rfl (lv_at hl 3 rfl) ?_
  refine lv_iload_n hx hb dL_law_414 rfl (lv_at hl 0 rfl) ?_
  refine lv_iconst (v := (1 : Int32)) hx hb dL_law_415 (by decide) ?_
  refine lv_iadd hx hb dL_law_416 ?_
  refine gl_ld hx hb hX hbl (i := 4 * k + 1) (by omega) hL hG.2.2 dL_law_417 (lb_add (4 * k) 1) ?_
  refine lv_aload_n hx hb dL_law_418 rfl (lv_at hl 3 rfl) ?_
  refine lv_iload_n hx hb dL_law_419 rfl (lv_at hl 0 rfl) ?_
  refine lv_iconst (v := (2 : Int32)) hx hb dL_law_420 (by decide) ?_
  refine lv_iadd hx hb dL_law_421 ?_
  refine gl_ld hx hb hX hbl (i := 4 * k + 2) (by omega) hL hG.2.2 dL_law_422 (lb_add (4 * k) 2) ?_
  refine gq_iV (gs := gL cI cB b a X S) (gs' := gL cI cB b a X S) (As := [.int (xs (4 * k + 1)), .int (xs (4 * k + 2))]) (rest := []) (wc := (gX cI cB b X).flatten) (w1 := (gX cI cB b X).flatten) (b := b 0 0) (C := RX7) (ci := 6) (q0 := 0) ⟨hx, hb, hml, hown, hts⟩ (c7_chain l e7) (cwV 2 hts gv_L_56 rfl rfl rfl hd7_chain ⟨Nat.le_of_ble_eq_true rfl, Nat.le_of_ble_eq_true rfl⟩) hK [0, 1] rfl hA hG [0] [1, 2] pl_0 pl_0 (List.append_nil _) (List.append_nil _) rfl rfl rfl rfl hl.1 rfl (Nat.le_of_ble_eq_true rfl) dL_law_423 hf0 (fun H locs hG9 => ?_)
  have hG : gd_W (dC, dI) (fun q => s.heap.size ≤ q) s (gL cI cB b a X S).flatten H locs := hG9
  refine lv_aload_n hx hb dL_law_426 rfl (lv_at hl 1 rfl) ?_
  refine lv_aload_n hx hb dL_law_427 rfl (lv_at hl 3 rfl) ?_
  refine lv_iload_n hx hb dL_law_428 rfl (lv_at hl 0 rfl) ?_
  refine lv_iconst (v := (1 : Int32)) hx hb dL_law_429 (by decide) ?_
  refine lv_iadd hx hb dL_law_430 ?_
  refine gl_ld hx hb hX hbl (i := 4 * k + 1) (by omega) hL hG.2.2 dL_law_431 (lb_add (4 * k) 1) ?_
  refine lv_aload_n hx hb dL_law_432 rfl (lv_at hl 3 rfl) ?_
  refine lv_iload_n hx hb dL_law_433 rfl (lv_at hl 0 rfl) ?_
  refine lv_iconst (v := (2 : Int32)) hx hb dL_law_434 (by decide) ?_
  refine lv_iadd hx hb dL_law_435 ?_
  refine gl_ld hx hb hX hbl (i := 4 * k + 2) (by omega) hL hG.2.2 dL_law_436 (lb_add (4 * k) 2) ?_
  refine gq_iV (gs := gL cI cB b a X S) (gs' := gL cI cB b a X S') (As := [.int (xs (4 * k + 1)), .int (xs (4 * k + 2))]) (rest := [.int r]) (wc := wd_M cI a S) (w1 := wd_M cI a S') (b := a 0) (C := RX8) (ci := 7) (q0 := 0) ⟨hx, hb, hml, hown, hts⟩ (c8_chain l e8) (cwV 2 hts gv_L_59 rfl rfl rfl hd8_chain ⟨Nat.le_of_ble_eq_true rfl, Nat.le_of_ble_eq_true rfl⟩) hK [0] rfl hA hG [1, 2] [0] pl_2 pl_2 rfl rfl rfl rfl rfl rfl hl.1 rfl (Nat.le_of_ble_eq_true rfl) dL_law_437 hf0 (fun H locs hG9 => ?_)
  have hG : gd_W (dC, dI) (fun q => s.heap.size ≤ q) s (gL cI cB b a X S').flatten H locs := hG9
  refine lv_icmp_eq (tgt := 685) hx hb dL_law_440 (by decide) (fun hc => ?_) (fun hc => ?_)
  · exact W.widen (Nat.le_add_right _ _) (Nat.le_add_right _ _) (kk b X S' H locs rfl hR' hG)
  · exact absurd rfl hc
set_option maxRecDepth 100000 in
set_option maxHeartbeats 4000000 in
theorem wlaw_11 (C : lw_C p s m meth c bs) (hK : va_K (dC, dI) vwCl [(cI, .int), (cB, .object "DiceRoads$Board")] s) (hX : va_X bs L xs s s.heap) (hbl : bs < s.heap.size) {t1 t2 t3 : Nat} (hF : sn_W t1 t2 t3 (fun q => s.heap.size ≤ q) s s.heap) {b : Nat → Nat → Nat} {a : Nat → Nat} {X : xs_T} {S : ms_T} (hR : RR X S) {k : Nat} (hk : 4 * k + 4 ≤ L) (hL : L ≤ 2048) {H : Heap} {locs : List Loc} {ls : Array Slot} {cells slots : Nat} (hf : cells + 27 ≤ room_1.cells ∧ slots + 150 ≤ room_1.slots) (hG : gd_W (dC, dI) (fun q => s.heap.size ≤ q) s (gL cI cB b a X S).flatten H locs) (hl : lv_has ls 4 [(3, .int (nI (4 * k))), (2, .ref (a 0)), (1, .ref (b 0 0)), (0, .ref bs)])
    (kk : ∀ (b' : Nat → Nat → Nat) (X' : xs_T) (S' : ms_T) (H1 : Heap) (locs1 : List Loc), b' 0 0 = b 0 0 → RR X' S' → gd_W (dC, dI) (fun q => s.heap.size ≤ q) s (gL cI cB b' a X' S').flatten H1 locs1 → W p l e room_1 s m #[.ref bs] below meth c H1 locs1 (cells + 27) (slots + 150) Q (F0 m 685 ls [])) : W p l e room_1 s m #[.ref bs] below meth c H locs cells slots Q (F0 m 445 ls []) := by
  obtain ⟨hx, hb, hts, hown, hml⟩ := C
  have hA : ∀ q, s.heap.size ≤ q → (fun q => s.heap.size ≤ q) q := fun _ h => h
  have hf0 : cells ≤ room_1.cells ∧ slots ≤ room_1.slots := ⟨by omega, by omega⟩
  obtain ⟨r, X', S', e7, e8, hR'⟩ := lb_emptyIn hR (xs (4 * k + 1))
  refine lv_aload_n hx hb dL_law_445 rfl (lv_at hl 2 rfl) ?_
  refine lv_aload_n hx hb dL_law_446 rfl (lv_at hl 3 rfl) ?_
  refine lv_iload_n hx hb dL_law_447 rfl (lv_at hl 0 rfl) ?_
  refine lv_iconst (v := (1 : Int32)) hx hb dL_law_448 (by decide) ?_
  refine lv_iadd hx hb dL_law_449 ?_
  refine gl_ld hx hb hX hbl (i := 4 * k + 1) (by omega) hL hG.2.2 dL_law_450 (lb_add (4 * k) 1) ?_
  refine gq_iV (gs := gL cI cB b a X S) (gs' := gL cI cB b a X' S) (As := [.int (xs (4 * k + 1))]) (rest := []) (wc := (gX cI cB b X).flatten) (w1 := (gX cI cB b X').flatten) (b := b 0 0) (C := RX7) (ci := 6) (q0 := 0) ⟨hx, hb, hml, hown, hts⟩ (c7_emptyIn l e7) (cwV 1 hts gv_L_60 rfl rfl rfl hd7_emptyIn ⟨Nat.le_of_ble_eq_true rfl, Nat.le_of_ble_eq_true rfl⟩) hK [0, 1] rfl hA hG [0] [1, 2] pl_0 pl_0 (List.append_nil _) (List.append_nil _) rfl rfl rfl rfl hl.1 rfl (Nat.le_of_ble_eq_true rfl) dL_law_451 hf0 (fun H locs hG9 => ?_)
  have hG : gd_W (dC, dI) (fun q => s.heap.size ≤ q) s (gL cI cB b a X' S).flatten H locs := hG9
  refine lv_aload_n hx hb dL_law_454 rfl (lv_at hl 1 rfl) ?_
  refine lv_aload_n hx hb dL_law_455 rfl (lv_at hl 3 rfl) ?_
  refine lv_iload_n hx hb dL_law_456 rfl (lv_at hl 0 rfl) ?_
  refine lv_iconst (v := (1 : Int32)) hx hb dL_law_457 (by decide) ?_
  refine lv_iadd hx hb dL_law_458 ?_
  refine gl_ld hx hb hX hbl (i := 4 * k + 1) (by omega) hL hG.2.2 dL_law_459 (lb_add (4 * k) 1) ?_
  refine gq_iV (gs := gL cI cB b a X' S) (gs' := gL cI cB b a X' S') (As := [.int (xs (4 * k + 1))]) (rest := [.int r]) (wc := wd_M cI a S) (w1 := wd_M cI a S') (b := a 0) (C := RX8) (ci := 7) (q0 := 0) ⟨hx, hb, hml, hown, hts⟩ (c8_emptyIn l e8) (cwV 1 hts gv_L_63 rfl rfl rfl hd8_emptyIn ⟨Nat.le_of_ble_eq_true rfl, Nat.le_of_ble_eq_true rfl⟩) hK [0] rfl hA hG [1, 2] [0] pl_2 pl_2 rfl rfl rfl rfl rfl rfl hl.1 rfl (Nat.le_of_ble_eq_true rfl) dL_law_460 hf0 (fun H locs hG9 => ?_)
  have hG : gd_W (dC, dI) (fun q => s.heap.size ≤ q) s (gL cI cB b a X' S').flatten H locs := hG9
  refine lv_icmp_eq (tgt := 685) hx hb dL_law_463 (by decide) (fun hc => ?_) (fun hc => ?_)
  · exact W.widen (Nat.le_add_right _ _) (Nat.le_add_right _ _) (kk b X' S' H locs rfl hR' hG)
  · exact absurd rfl hc
set_option maxRecDepth 100000 in
set_option maxHeartbeats 4000000 in
theorem wlaw_12 (C : lw_C p s m meth c bs) (hK : va_K (dC, dI) vwCl [(cI, .int), (cB, .object "DiceRoads$Board")] s) (hX : va_X bs L xs s s.heap) (hbl : bs < s.heap.size) {t1 t2 t3 : Nat} (hF : sn_W t1 t2 t3 (fun q => s.heap.size ≤ q) s s.heap) {b : Nat → Nat → Nat} {a : Nat → Nat} {X : xs_T} {S : ms_T} (hR : RR X S) {k : Nat} (hk : 4 * k + 4 ≤ L) (hL : L ≤ 2048) {H : Heap} {locs : List Loc} {ls : Array Slot} {cells slots : Nat} (hf : cells + 27 ≤ room_1.cells ∧ slots + 150 ≤ room_1.slots) (hG : gd_W (dC, dI) (fun q => s.heap.size ≤ q) s (gL cI cB b a X S).flatten H locs) (hl : lv_has ls 4 [(3, .int (nI (4 * k))), (2, .ref (a 0)), (1, .ref (b 0 0)), (0, .ref bs)])
    (kk : ∀ (b' : Nat → Nat → Nat) (X' : xs_T) (S' : ms_T) (H1 : Heap) (locs1 : List Loc), b' 0 0 = b 0 0 → RR X' S' → gd_W (dC, dI) (fun q => s.heap.size ≤ q) s (gL cI cB b' a X' S').flatten H1 locs1 → W p l e room_1 s m #[.ref bs] below meth c H1 locs1 (cells + 27) (slots + 150) Q (F0 m 685 ls [])) : W p l e room_1 s m #[.ref bs] below meth c H locs cells slots Q (F0 m 468 ls []) := by
  obtain ⟨hx, hb, hts, hown, hml⟩ := C
  have hA : ∀ q, s.heap.size ≤ q → (fun q => s.heap.size ≤ q) q := fun _ h => h
  have hf0 : cells ≤ room_1.cells ∧ slots ≤ room_1.slots := ⟨by omega, by omega⟩
  obtain ⟨r, X', S', e7, e8, hR'⟩ := lb_purseIn hR (xs (4 * k + 1)) (xs (4 * k + 2))
  refine lv_aload_n hx hb dL_law_468 rfl (lv_at hl 2 rfl) ?_
  refine lv_aload_n hx hb dL_law_469 rfl (lv_at hl 3 rfl) ?_
  refine lv_iload_n hx hb dL_law_470 rfl (lv_at hl 0 rfl) ?_
  refine lv_iconst (v := (1 : Int32)) hx hb dL_law_471 (by decide) ?_
  refine lv_iadd hx hb dL_law_472 ?_
  refine gl_ld hx hb hX hbl (i := 4 * k + 1) (by omega) hL hG.2.2 dL_law_473 (lb_add (4 * k) 1) ?_
  refine lv_aload_n hx hb dL_law_474 rfl (lv_at hl 3 rfl) ?_
  refine lv_iload_n hx hb dL_law_475 rfl (lv_at hl 0 rfl) ?_
  refine lv_iconst (v := (2 : Int32)) hx hb dL_law_476 (by decide) ?_
  refine lv_iadd hx hb dL_law_477 ?_
  refine gl_ld hx hb hX hbl (i := 4 * k + 2) (by omega) hL hG.2.2 dL_law_478 (lb_add (4 * k) 2) ?_
  refine gq_iV (gs := gL cI cB b a X S) (gs' := gL cI cB b a X' S) (As := [.int (xs (4 * k + 1)), .int (xs (4 * k + 2))]) (rest := []) (wc := (gX cI cB b X).flatten) (w1 := (gX cI cB b X').flatten) (b := b 0 0) (C := RX7) (ci := 6) (q0 := 0) ⟨hx, hb, hml, hown, hts⟩ (c7_purseIn l e7) (cwV 2 hts gv_L_64 rfl rfl rfl hd7_purseIn ⟨Nat.le_of_ble_eq_true rfl, Nat.le_of_ble_eq_true rfl⟩) hK [0, 1] rfl hA hG [0] [1, 2] pl_0 pl_0 (List.append_nil _) (List.append_nil _) rfl rfl rfl rfl hl.1 rfl (Nat.le_of_ble_eq_true rfl) dL_law_479 hf0 (fun H locs hG9 => ?_)
  have hG : gd_W (dC, dI) (fun q => s.heap.size ≤ q) s (gL cI cB b a X' S).flatten H locs := hG9
  refine lv_aload_n hx hb dL_law_482 rfl (lv_at hl 1 rfl) ?_
  refine lv_aload_n hx hb dL_law_483 rfl (lv_at hl 3 rfl) ?_
  refine lv_iload_n hx hb dL_law_484 rfl (lv_at hl 0 rfl) ?_
  refine lv_iconst (v := (1 : Int32)) hx hb dL_law_485 (by decide) ?_
  refine lv_iadd hx hb dL_law_486 ?_
  refine gl_ld hx hb hX hbl (i := 4 * k + 1) (by omega) hL hG.2.2 dL_law_487 (lb_add (4 * k) 1) ?_
  refine lv_aload_n hx hb dL_law_488 rfl (lv_at hl 3 rfl) ?_
  refine lv_iload_n hx hb dL_law_489 rfl (lv_at hl 0 rfl) ?_
  refine lv_iconst (v := (2 : Int32)) hx hb dL_law_490 (by decide) ?_
  refine lv_iadd hx hb dL_law_491 ?_
  refine gl_ld hx hb hX hbl (i := 4 * k + 2) (by omega) hL hG.2.2 dL_law_492 (lb_add (4 * k) 2) ?_
  refine gq_iV (gs := gL cI cB b a X' S) (gs' := gL cI cB b a X' S') (As := [.int (xs (4 * k + 1)), .int (xs (4 * k + 2))]) (rest := [.int r]) (wc := wd_M cI a S) (w1 := wd_M cI a S') (b := a 0) (C := RX8) (ci := 7) (q0 := 0) ⟨hx, hb, hml, hown, hts⟩ (c8_purseIn l e8) (cwV 2 hts gv_L_67 rfl rfl rfl hd8_purseIn ⟨Nat.le_of_ble_eq_true rfl, Nat.le_of_ble_eq_true rfl⟩) hK [0] rfl hA hG [1, 2] [0] pl_2 pl_2 rfl rfl rfl rfl rfl rfl hl.1 rfl (Nat.le_of_ble_eq_true rfl) dL_law_493 hf0 (fun H locs hG9 => ?_)
  have hG : gd_W (dC, dI) (fun q => s.heap.size ≤ q) s (gL cI cB b a X' S').flatten H locs := hG9
  refine lv_icmp_eq (tgt := 685) hx hb dL_law_496 (by decide) (fun hc => ?_) (fun hc => ?_)
  · exact W.widen (Nat.le_add_right _ _) (Nat.le_add_right _ _) (kk b X' S' H locs rfl hR' hG)
  · exact absurd rfl hc
set_option maxRecDepth 100000 in
set_option maxHeartbeats 4000000 in
theorem wlaw_13 (C : lw_C p s m meth c bs) (hK : va_K (dC, dI) vwCl [(cI, .int), (cB, .object "DiceRoads$Board")] s) (hX : va_X bs L xs s s.heap) (hbl : bs < s.heap.size) {t1 t2 t3 : Nat} (hF : sn_W t1 t2 t3 (fun q => s.heap.size ≤ q) s s.heap) {b : Nat → Nat → Nat} {a : Nat → Nat} {X : xs_T} {S : ms_T} (hR : RR X S) {k : Nat} (hk : 4 * k + 4 ≤ L) (hL : L ≤ 2048) {H : Heap} {locs : List Loc} {ls : Array Slot} {cells slots : Nat} (hf : cells + 27 ≤ room_1.cells ∧ slots + 150 ≤ room_1.slots) (hG : gd_W (dC, dI) (fun q => s.heap.size ≤ q) s (gL cI cB b a X S).flatten H locs) (hl : lv_has ls 4 [(3, .int (nI (4 * k))), (2, .ref (a 0)), (1, .ref (b 0 0)), (0, .ref bs)])
    (kk : ∀ (b' : Nat → Nat → Nat) (X' : xs_T) (S' : ms_T) (H1 : Heap) (locs1 : List Loc), b' 0 0 = b 0 0 → RR X' S' → gd_W (dC, dI) (fun q => s.heap.size ≤ q) s (gL cI cB b' a X' S').flatten H1 locs1 → W p l e room_1 s m #[.ref bs] below meth c H1 locs1 (cells + 27) (slots + 150) Q (F0 m 685 ls [])) : W p l e room_1 s m #[.ref bs] below meth c H locs cells slots Q (F0 m 501 ls []) := by
  obtain ⟨hx, hb, hts, hown, hml⟩ := C
  have hA : ∀ q, s.heap.size ≤ q → (fun q => s.heap.size ≤ q) q := fun _ h => h
  have hf0 : cells ≤ room_1.cells ∧ slots ≤ room_1.slots := ⟨by omega, by omega⟩
  obtain ⟨r, X', S', e7, e8, hR'⟩ := lb_bestSeed hR (xs (4 * k + 1)) (xs (4 * k + 2))
  refine lv_aload_n hx hb dL_law_501 rfl (lv_at hl 2 rfl) ?_
  refine lv_aload_n hx hb dL_law_502 rfl (lv_at hl 3 rfl) ?_
  refine lv_iload_n hx hb dL_law_503 rfl (lv_at hl 0 rfl) ?_
  refine lv_iconst (v := (1 : Int32)) hx hb dL_law_504 (by decide) ?_
  refine lv_iadd hx hb dL_law_505 ?_
  refine gl_ld hx hb hX hbl (i := 4 * k + 1) (by omega) hL hG.2.2 dL_law_506 (lb_add (4 * k) 1) ?_
  refine lv_aload_n hx hb dL_law_507 rfl (lv_at hl 3 rfl) ?_
  refine lv_iload_n hx hb dL_law_508 rfl (lv_at hl 0 rfl) ?_
  refine lv_iconst (v := (2 : Int32)) hx hb dL_law_509 (by decide) ?_
  refine lv_iadd hx hb dL_law_510 ?_
  refine gl_ld hx hb hX hbl (i := 4 * k + 2) (by omega) hL hG.2.2 dL_law_511 (lb_add (4 * k) 2) ?_
  refine gq_iV (gs := gL cI cB b a X S) (gs' := gL cI cB b a X' S) (As := [.int (xs (4 * k + 1)), .int (xs (4 * k + 2))]) (rest := []) (wc := (gX cI cB b X).flatten) (w1 := (gX cI cB b X').flatten) (b := b 0 0) (C := RX7) (ci := 6) (q0 := 0) ⟨hx, hb, hml, hown, hts⟩ (c7_bestSeed l e7) (cwV 2 hts gv_L_68 rfl rfl rfl hd7_bestSeed ⟨Nat.le_of_ble_eq_true rfl, Nat.le_of_ble_eq_true rfl⟩) hK [0, 1] rfl hA hG [0] [1, 2] pl_0 pl_0 (List.append_nil _) (List.append_nil _) rfl rfl rfl rfl hl.1 rfl (Nat.le_of_ble_eq_true rfl) dL_law_512 hf0 (fun H locs hG9 => ?_)
  have hG : gd_W (dC, dI) (fun q => s.heap.size ≤ q) s (gL cI cB b a X' S).flatten H locs := hG9
  refine lv_aload_n hx hb dL_law_515 rfl (lv_at hl 1 rfl) ?_
  refine lv_aload_n hx hb dL_law_516 rfl (lv_at hl 3 rfl) ?_
  refine lv_iload_n hx hb dL_law_517 rfl (lv_at hl 0 rfl) ?_
  refine lv_iconst (v := (1 : Int32)) hx hb dL_law_518 (by decide) ?_
  refine lv_iadd hx hb dL_law_519 ?_
  refine gl_ld hx hb hX hbl (i := 4 * k + 1) (by omega) hL hG.2.2 dL_law_520 (lb_add (4 * k) 1) ?_
  refine lv_aload_n hx hb dL_law_521 rfl (lv_at hl 3 rfl) ?_
  refine lv_iload_n hx hb dL_law_522 rfl (lv_at hl 0 rfl) ?_
  refine lv_iconst (v := (2 : Int32)) hx hb dL_law_523 (by decide) ?_
  refine lv_iadd hx hb dL_law_524 ?_
  refine gl_ld hx hb hX hbl (i := 4 * k + 2) (by omega) hL hG.2.2 dL_law_525 (lb_add (4 * k) 2) ?_
  refine gq_iV (gs := gL cI cB b a X' S) (gs' := gL cI cB b a X' S') (As := [.int (xs (4 * k + 1)), .int (xs (4 * k + 2))]) (rest := [.int r]) (wc := wd_M cI a S) (w1 := wd_M cI a S') (b := a 0) (C := RX8) (ci := 7) (q0 := 0) ⟨hx, hb, hml, hown, hts⟩ (c8_bestSeed l e8) (cwV 2 hts gv_L_71 rfl rfl rfl hd8_bestSeed ⟨Nat.le_of_ble_eq_true rfl, Nat.le_of_ble_eq_true rfl⟩) hK [0] rfl hA hG [1, 2] [0] pl_2 pl_2 rfl rfl rfl rfl rfl rfl hl.1 rfl (Nat.le_of_ble_eq_true rfl) dL_law_526 hf0 (fun H locs hG9 => ?_)
  have hG : gd_W (dC, dI) (fun q => s.heap.size ≤ q) s (gL cI cB b a X' S').flatten H locs := hG9
  refine lv_icmp_eq (tgt := 685) hx hb dL_law_529 (by decide) (fun hc => ?_) (fun hc => ?_)
  · exact W.widen (Nat.le_add_right _ _) (Nat.le_add_right _ _) (kk b X' S' H locs rfl hR' hG)
  · exact absurd rfl hc
set_option maxRecDepth 100000 in
set_option maxHeartbeats 4000000 in
theorem wlaw_14 (C : lw_C p s m meth c bs) (hK : va_K (dC, dI) vwCl [(cI, .int), (cB, .object "DiceRoads$Board")] s) (hX : va_X bs L xs s s.heap) (hbl : bs < s.heap.size) {t1 t2 t3 : Nat} (hF : sn_W t1 t2 t3 (fun q => s.heap.size ≤ q) s s.heap) {b : Nat → Nat → Nat} {a : Nat → Nat} {X : xs_T} {S : ms_T} (hR : RR X S) {k : Nat} (hk : 4 * k + 4 ≤ L) (hL : L ≤ 2048) {H : Heap} {locs : List Loc} {ls : Array Slot} {cells slots : Nat} (hf : cells + 27 ≤ room_1.cells ∧ slots + 150 ≤ room_1.slots) (hG : gd_W (dC, dI) (fun q => s.heap.size ≤ q) s (gL cI cB b a X S).flatten H locs) (hl : lv_has ls 4 [(3, .int (nI (4 * k))), (2, .ref (a 0)), (1, .ref (b 0 0)), (0, .ref bs)])
    (kk : ∀ (b' : Nat → Nat → Nat) (X' : xs_T) (S' : ms_T) (H1 : Heap) (locs1 : List Loc), b' 0 0 = b 0 0 → RR X' S' → gd_W (dC, dI) (fun q => s.heap.size ≤ q) s (gL cI cB b' a X' S').flatten H1 locs1 → W p l e room_1 s m #[.ref bs] below meth c H1 locs1 (cells + 27) (slots + 150) Q (F0 m 685 ls [])) : W p l e room_1 s m #[.ref bs] below meth c H locs cells slots Q (F0 m 534 ls []) := by
  obtain ⟨hx, hb, hts, hown, hml⟩ := C
  have hA : ∀ q, s.heap.size ≤ q → (fun q => s.heap.size ≤ q) q := fun _ h => h
  have hf0 : cells ≤ room_1.cells ∧ slots ≤ room_1.slots := ⟨by omega, by omega⟩
  obtain ⟨r, X', S', e7, e8, hR'⟩ := lb_put hR (lw_V (xs (4 * k + 1)) (xs (4 * k + 2)))
  refine lv_aload_n hx hb dL_law_534 rfl (lv_at hl 2 rfl) ?_
  refine lv_aload_n hx hb dL_law_535 rfl (lv_at hl 3 rfl) ?_
  refine lv_iload_n hx hb dL_law_536 rfl (lv_at hl 0 rfl) ?_
  refine lv_iconst (v := (1 : Int32)) hx hb dL_law_537 (by decide) ?_
  refine lv_iadd hx hb dL_law_538 ?_
  refine gl_ld hx hb hX hbl (i := 4 * k + 1) (by omega) hL hG.2.2 dL_law_539 (lb_add (4 * k) 1) ?_
  refine lv_i2l (v := (xs (4 * k + 1)).toInt64) hx hb dL_law_540 rfl ?_
  refine lv_bipush (v := (32 : Int32)) hx hb dL_law_541 (by decide) ?_
  refine lv_lshl (v := (xs (4 * k + 1)).toInt64 <<< ((32 : Int32).toInt64 &&& 63)) hx hb dL_law_543 rfl ?_
  refine lv_aload_n hx hb dL_law_544 rfl (lv_at hl 3 rfl) ?_
  refine lv_iload_n hx hb dL_law_545 rfl (lv_at hl 0 rfl) ?_
  refine lv_iconst (v := (2 : Int32)) hx hb dL_law_546 (by decide) ?_
  refine lv_iadd hx hb dL_law_547 ?_
  refine gl_ld hx hb hX hbl (i := 4 * k + 2) (by omega) hL hG.2.2 dL_law_548 (lb_add (4 * k) 2) ?_
  refine lv_i2l (v := (xs (4 * k + 2)).toInt64) hx hb dL_law_549 rfl ?_
  refine lv_ldc2 (v := (4294967295 : Int64)) hx hb hown (hts (Cond.constantLong RL 72 (4294967295)) wl_982) dL_law_550 ?_
  refine lv_land hx hb dL_law_553 ?_
  refine lv_lor hx hb dL_law_554 ?_
  refine gq_iV (gs := gL cI cB b a X S) (gs' := gL cI cB b a X' S) (As := [.long (lw_V (xs (4 * k + 1)) (xs (4 * k + 2)))]) (rest := []) (wc := (gX cI cB b X).flatten) (w1 := (gX cI cB b X').flatten) (b := b 0 0) (C := RX7) (ci := 6) (q0 := 0) ⟨hx, hb, hml, hown, hts⟩ (c7_put l e7) (cwV 1 hts gv_L_74 rfl rfl rfl hd7_put ⟨Nat.le_of_ble_eq_true rfl, Nat.le_of_ble_eq_true rfl⟩) hK [0, 1] rfl hA hG [0] [1, 2] pl_0 pl_0 (List.append_nil _) (List.append_nil _) rfl rfl rfl rfl hl.1 rfl (Nat.le_of_ble_eq_true rfl) dL_law_555 hf0 (fun H locs hG9 => ?_)
  have hG : gd_W (dC, dI) (fun q => s.heap.size ≤ q) s (gL cI cB b a X' S).flatten H locs := hG9
  refine lv_aload_n hx hb dL_law_558 rfl (lv_at hl 1 rfl) ?_
  refine lv_aload_n hx hb dL_law_559 rfl (lv_at hl 3 rfl) ?_
  refine lv_iload_n hx hb dL_law_560 rfl (lv_at hl 0 rfl) ?_
  refine lv_iconst (v := (1 : Int32)) hx hb dL_law_561 (by decide) ?_
  refine lv_iadd hx hb dL_law_562 ?_
  refine gl_ld hx hb hX hbl (i := 4 * k + 1) (by omega) hL hG.2.2 dL_law_563 (lb_add (4 * k) 1) ?_
  refine lv_i2l (v := (xs (4 * k + 1)).toInt64) hx hb dL_law_564 rfl ?_
  refine lv_bipush (v := (32 : Int32)) hx hb dL_law_565 (by decide) ?_
  refine lv_lshl (v := (xs (4 * k + 1)).toInt64 <<< ((32 : Int32).toInt64 &&& 63)) hx hb dL_law_567 rfl ?_
  refine lv_aload_n hx hb dL_law_568 rfl (lv_at hl 3 rfl) ?_
  refine lv_iload_n hx hb dL_law_569 rfl (lv_at hl 0 rfl) ?_
  refine lv_iconst (v := (2 : Int32)) hx hb dL_law_570 (by decide) ?_
  refine lv_iadd hx hb dL_law_571 ?_
  refine gl_ld hx hb hX hbl (i := 4 * k + 2) (by omega) hL hG.2.2 dL_law_572 (lb_add (4 * k) 2) ?_
  refine lv_i2l (v := (xs (4 * k + 2)).toInt64) hx hb dL_law_573 rfl ?_
  refine lv_ldc2 (v := (4294967295 : Int64)) hx hb hown (hts (Cond.constantLong RL 72 (4294967295)) wl_982) dL_law_574 ?_
  refine lv_land hx hb dL_law_577 ?_
  refine lv_lor hx hb dL_law_578 ?_
  refine gq_iV (gs := gL cI cB b a X' S) (gs' := gL cI cB b a X' S') (As := [.long (lw_V (xs (4 * k + 1)) (xs (4 * k + 2)))]) (rest := [.int r]) (wc := wd_M cI a S) (w1 := wd_M cI a S') (b := a 0) (C := RX8) (ci := 7) (q0 := 0) ⟨hx, hb, hml, hown, hts⟩ (c8_put l e8) (cwV 1 hts gv_L_78 rfl rfl rfl hd8_put ⟨Nat.le_of_ble_eq_true rfl, Nat.le_of_ble_eq_true rfl⟩) hK [0] rfl hA hG [1, 2] [0] pl_2 pl_2 rfl rfl rfl rfl rfl rfl hl.1 rfl (Nat.le_of_ble_eq_true rfl) dL_law_579 hf0 (fun H locs hG9 => ?_)
  have hG : gd_W (dC, dI) (fun q => s.heap.size ≤ q) s (gL cI cB b a X' S').flatten H locs := hG9
  refine lv_icmp_eq (tgt := 685) hx hb dL_law_582 (by decide) (fun hc => ?_) (fun hc => ?_)
  · exact W.widen (Nat.le_add_right _ _) (Nat.le_add_right _ _) (kk b X' S' H locs rfl hR' hG)
  · exact absurd rfl hc
set_option maxRecDepth 100000 in
set_option maxHeartbeats 4000000 in
theorem wlaw_15 (C : lw_C p s m meth c bs) (hK : va_K (dC, dI) vwCl [(cI, .int), (cB, .object "DiceRoads$Board")] s) (hX : va_X bs L xs s s.heap) (hbl : bs < s.heap.size) {t1 t2 t3 : Nat} (hF : sn_W t1 t2 t3 (fun q => s.heap.size ≤ q) s s.heap) {b : Nat → Nat → Nat} {a : Nat → Nat} {X : xs_T} {S : ms_T} (hR : RR X S) {k : Nat} (hk : 4 * k + 4 ≤ L) (hL : L ≤ 2048) {H : Heap} {locs : List Loc} {ls : Array Slot} {cells slots : Nat} (hf : cells + 27 ≤ room_1.cells ∧ slots + 150 ≤ room_1.slots) (hG : gd_W (dC, dI) (fun q => s.heap.size ≤ q) s (gL cI cB b a X S).flatten H locs) (hl : lv_has ls 4 [(3, .int (nI (4 * k))), (2, .ref (a 0)), (1, .ref (b 0 0)), (0, .ref bs)])
    (kk : ∀ (b' : Nat → Nat → Nat) (X' : xs_T) (S' : ms_T) (H1 : Heap) (locs1 : List Loc), b' 0 0 = b 0 0 → RR X' S' → gd_W (dC, dI) (fun q => s.heap.size ≤ q) s (gL cI cB b' a X' S').flatten H1 locs1 → W p l e room_1 s m #[.ref bs] below meth c H1 locs1 (cells + 27) (slots + 150) Q (F0 m 685 ls [])) : W p l e room_1 s m #[.ref bs] below meth c H locs cells slots Q (F0 m 587 ls []) := by
  obtain ⟨hx, hb, hts, hown, hml⟩ := C
  have hA : ∀ q, s.heap.size ≤ q → (fun q => s.heap.size ≤ q) q := fun _ h => h
  have hf0 : cells ≤ room_1.cells ∧ slots ≤ room_1.slots := ⟨by omega, by omega⟩
  obtain ⟨r, X', S', e7, e8, hR'⟩ := lb_wipe hR 
  refine lv_aload_n hx hb dL_law_587 rfl (lv_at hl 2 rfl) ?_
  refine gq_iV (gs := gL cI cB b a X S) (gs' := gL cI cB b a X' S) (As := []) (rest := []) (wc := (gX cI cB b X).flatten) (w1 := (gX cI cB b X').flatten) (b := b 0 0) (C := RX7) (ci := 6) (q0 := 0) ⟨hx, hb, hml, hown, hts⟩ (c7_wipe l e7) (cwV 0 hts gv_L_79 rfl rfl rfl hd7_wipe ⟨Nat.le_of_ble_eq_true rfl, Nat.le_of_ble_eq_true rfl⟩) hK [0, 1] rfl hA hG [0] [1, 2] pl_0 pl_0 (List.append_nil _) (List.append_nil _) rfl rfl rfl rfl hl.1 rfl (Nat.le_of_ble_eq_true rfl) dL_law_588 hf0 (fun H locs hG9 => ?_)
  have hG : gd_W (dC, dI) (fun q => s.heap.size ≤ q) s (gL cI cB b a X' S).flatten H locs := hG9
  refine lv_aload_n hx hb dL_law_591 rfl (lv_at hl 1 rfl) ?_
  refine gq_iV (gs := gL cI cB b a X' S) (gs' := gL cI cB b a X' S') (As := []) (rest := [.int r]) (wc := wd_M cI a S) (w1 := wd_M cI a S') (b := a 0) (C := RX8) (ci := 7) (q0 := 0) ⟨hx, hb, hml, hown, hts⟩ (c8_wipe l e8) (cwV 0 hts gv_L_83 rfl rfl rfl hd8_wipe ⟨Nat.le_of_ble_eq_true rfl, Nat.le_of_ble_eq_true rfl⟩) hK [0] rfl hA hG [1, 2] [0] pl_2 pl_2 rfl rfl rfl rfl rfl rfl hl.1 rfl (Nat.le_of_ble_eq_true rfl) dL_law_592 hf0 (fun H locs hG9 => ?_)
  have hG : gd_W (dC, dI) (fun q => s.heap.size ≤ q) s (gL cI cB b a X' S').flatten H locs := hG9
  refine lv_icmp_eq (tgt := 685) hx hb dL_law_595 (by decide) (fun hc => ?_) (fun hc => ?_)
  · exact W.widen (Nat.le_add_right _ _) (Nat.le_add_right _ _) (kk b X' S' H locs rfl hR' hG)
  · exact absurd rfl hc
set_option maxRecDepth 100000 in
set_option maxHeartbeats 4000000 in
theorem wlaw_16 (C : lw_C p s m meth c bs) (hK : va_K (dC, dI) vwCl [(cI, .int), (cB, .object "DiceRoads$Board")] s) (hX : va_X bs L xs s s.heap) (hbl : bs < s.heap.size) {t1 t2 t3 : Nat} (hF : sn_W t1 t2 t3 (fun q => s.heap.size ≤ q) s s.heap) {b : Nat → Nat → Nat} {a : Nat → Nat} {X : xs_T} {S : ms_T} (hR : RR X S) {k : Nat} (hk : 4 * k + 4 ≤ L) (hL : L ≤ 2048) {H : Heap} {locs : List Loc} {ls : Array Slot} {cells slots : Nat} (hf : cells + 27 ≤ room_1.cells ∧ slots + 150 ≤ room_1.slots) (hG : gd_W (dC, dI) (fun q => s.heap.size ≤ q) s (gL cI cB b a X S).flatten H locs) (hl : lv_has ls 4 [(3, .int (nI (4 * k))), (2, .ref (a 0)), (1, .ref (b 0 0)), (0, .ref bs)])
    (kk : ∀ (b' : Nat → Nat → Nat) (X' : xs_T) (S' : ms_T) (H1 : Heap) (locs1 : List Loc), b' 0 0 = b 0 0 → RR X' S' → gd_W (dC, dI) (fun q => s.heap.size ≤ q) s (gL cI cB b' a X' S').flatten H1 locs1 → W p l e room_1 s m #[.ref bs] below meth c H1 locs1 (cells + 27) (slots + 150) Q (F0 m 685 ls [])) : W p l e room_1 s m #[.ref bs] below meth c H locs cells slots Q (F0 m 600 ls []) := by
  obtain ⟨hx, hb, hts, hown, hml⟩ := C
  have hA : ∀ q, s.heap.size ≤ q → (fun q => s.heap.size ≤ q) q := fun _ h => h
  have hf0 : cells ≤ room_1.cells ∧ slots ≤ room_1.slots := ⟨by omega, by omega⟩
  obtain ⟨r, S', e7, e8, hR'⟩ := lb_fault hR 
  refine lv_aload_n hx hb dL_law_600 rfl (lv_at hl 2 rfl) ?_
  refine gq_iV (gs := gL cI cB b a X S) (gs' := gL cI cB b a X S) (As := []) (rest := []) (wc := (gX cI cB b X).flatten) (w1 := (gX cI cB b X).flatten) (b := b 0 0) (C := RX7) (ci := 6) (q0 := 0) ⟨hx, hb, hml, hown, hts⟩ (c7_fault l e7) (cwV 0 hts gv_L_84 rfl rfl rfl hd7_fault ⟨Nat.le_of_ble_eq_true rfl, Nat.le_of_ble_eq_true rfl⟩) hK [0, 1] rfl hA hG [0] [1, 2] pl_0 pl_0 (List.append_nil _) (List.append_nil _) rfl rfl rfl rfl hl.1 rfl (Nat.le_of_ble_eq_true rfl) dL_law_601 hf0 (fun H locs hG9 => ?_)
  have hG : gd_W (dC, dI) (fun q => s.heap.size ≤ q) s (gL cI cB b a X S).flatten H locs := hG9
  refine lv_aload_n hx hb dL_law_604 rfl (lv_at hl 1 rfl) ?_
  refine gq_iV (gs := gL cI cB b a X S) (gs' := gL cI cB b a X S') (As := []) (rest := [.int r]) (wc := wd_M cI a S) (w1 := wd_M cI a S') (b := a 0) (C := RX8) (ci := 7) (q0 := 0) ⟨hx, hb, hml, hown, hts⟩ (c8_fault l e8) (cwV 0 hts gv_L_87 rfl rfl rfl hd8_fault ⟨Nat.le_of_ble_eq_true rfl, Nat.le_of_ble_eq_true rfl⟩) hK [0] rfl hA hG [1, 2] [0] pl_2 pl_2 rfl rfl rfl rfl rfl rfl hl.1 rfl (Nat.le_of_ble_eq_true rfl) dL_law_605 hf0 (fun H locs hG9 => ?_)
  have hG : gd_W (dC, dI) (fun q => s.heap.size ≤ q) s (gL cI cB b a X S').flatten H locs := hG9
  refine lv_icmp_eq (tgt := 685) hx hb dL_law_608 (by decide) (fun hc => ?_) (fun hc => ?_)
  · exact W.widen (Nat.le_add_right _ _) (Nat.le_add_right _ _) (kk b X S' H locs rfl hR' hG)
  · exact absurd rfl hc
set_option maxRecDepth 100000 in
set_option maxHeartbeats 4000000 in
theorem wlaw_17 (C : lw_C p s m meth c bs) (hK : va_K (dC, dI) vwCl [(cI, .int), (cB, .object "DiceRoads$Board")] s) (hX : va_X bs L xs s s.heap) (hbl : bs < s.heap.size) {t1 t2 t3 : Nat} (hF : sn_W t1 t2 t3 (fun q => s.heap.size ≤ q) s s.heap) {b : Nat → Nat → Nat} {a : Nat → Nat} {X : xs_T} {S : ms_T} (hR : RR X S) {k : Nat} (hk : 4 * k + 4 ≤ L) (hL : L ≤ 2048) {H : Heap} {locs : List Loc} {ls : Array Slot} {cells slots : Nat} (hf : cells + 27 ≤ room_1.cells ∧ slots + 150 ≤ room_1.slots) (hG : gd_W (dC, dI) (fun q => s.heap.size ≤ q) s (gL cI cB b a X S).flatten H locs) (hl : lv_has ls 4 [(3, .int (nI (4 * k))), (2, .ref (a 0)), (1, .ref (b 0 0)), (0, .ref bs)])
    (kk : ∀ (b' : Nat → Nat → Nat) (X' : xs_T) (S' : ms_T) (H1 : Heap) (locs1 : List Loc), b' 0 0 = b 0 0 → RR X' S' → gd_W (dC, dI) (fun q => s.heap.size ≤ q) s (gL cI cB b' a X' S').flatten H1 locs1 → W p l e room_1 s m #[.ref bs] below meth c H1 locs1 (cells + 27) (slots + 150) Q (F0 m 685 ls [])) : W p l e room_1 s m #[.ref bs] below meth c H locs cells slots Q (F0 m 613 ls []) := by
  obtain ⟨hx, hb, hts, hown, hml⟩ := C
  have hA : ∀ q, s.heap.size ≤ q → (fun q => s.heap.size ≤ q) q := fun _ h => h
  have hf0 : cells ≤ room_1.cells ∧ slots ≤ room_1.slots := ⟨by omega, by omega⟩
  obtain ⟨r, X', S', e7, e8, hR'⟩ := lb_carryOut hR 
  refine lv_aload_n hx hb dL_law_613 rfl (lv_at hl 2 rfl) ?_
  refine gq_iV (gs := gL cI cB b a X S) (gs' := gL cI cB b a X' S) (As := []) (rest := []) (wc := (gX cI cB b X).flatten) (w1 := (gX cI cB b X').flatten) (b := b 0 0) (C := RX7) (ci := 6) (q0 := 0) ⟨hx, hb, hml, hown, hts⟩ (c7_carryOut l e7) (cwV 0 hts gv_L_88 rfl rfl rfl hd7_carryOut ⟨Nat.le_of_ble_eq_true rfl, Nat.le_of_ble_eq_true rfl⟩) hK [0, 1] rfl hA hG [0] [1, 2] pl_0 pl_0 (List.append_nil _) (List.append_nil _) rfl rfl rfl rfl hl.1 rfl (Nat.le_of_ble_eq_true rfl) dL_law_614 hf0 (fun H locs hG9 => ?_)
  have hG : gd_W (dC, dI) (fun q => s.heap.size ≤ q) s (gL cI cB b a X' S).flatten H locs := hG9
  refine lv_aload_n hx hb dL_law_617 rfl (lv_at hl 1 rfl) ?_
  refine gq_iV (gs := gL cI cB b a X' S) (gs' := gL cI cB b a X' S') (As := []) (rest := [.int r]) (wc := wd_M cI a S) (w1 := wd_M cI a S') (b := a 0) (C := RX8) (ci := 7) (q0 := 0) ⟨hx, hb, hml, hown, hts⟩ (c8_carryOut l e8) (cwV 0 hts gv_L_91 rfl rfl rfl hd8_carryOut ⟨Nat.le_of_ble_eq_true rfl, Nat.le_of_ble_eq_true rfl⟩) hK [0] rfl hA hG [1, 2] [0] pl_2 pl_2 rfl rfl rfl rfl rfl rfl hl.1 rfl (Nat.le_of_ble_eq_true rfl) dL_law_618 hf0 (fun H locs hG9 => ?_)
  have hG : gd_W (dC, dI) (fun q => s.heap.size ≤ q) s (gL cI cB b a X' S').flatten H locs := hG9
  refine lv_icmp_eq (tgt := 685) hx hb dL_law_621 (by decide) (fun hc => ?_) (fun hc => ?_)
  · exact W.widen (Nat.le_add_right _ _) (Nat.le_add_right _ _) (kk b X' S' H locs rfl hR' hG)
  · exact absurd rfl hc
set_option maxRecDepth 100000 in
set_option maxHeartbeats 4000000 in
theorem wlaw_18 (C : lw_C p s m meth c bs) (hK : va_K (dC, dI) vwCl [(cI, .int), (cB, .object "DiceRoads$Board")] s) (hX : va_X bs L xs s s.heap) (hbl : bs < s.heap.size) {t1 t2 t3 : Nat} (hF : sn_W t1 t2 t3 (fun q => s.heap.size ≤ q) s s.heap) {b : Nat → Nat → Nat} {a : Nat → Nat} {X : xs_T} {S : ms_T} (hR : RR X S) {k : Nat} (hk : 4 * k + 4 ≤ L) (hL : L ≤ 2048) {H : Heap} {locs : List Loc} {ls : Array Slot} {cells slots : Nat} (hf : cells + 27 ≤ room_1.cells ∧ slots + 150 ≤ room_1.slots) (hG : gd_W (dC, dI) (fun q => s.heap.size ≤ q) s (gL cI cB b a X S).flatten H locs) (hl : lv_has ls 4 [(3, .int (nI (4 * k))), (2, .ref (a 0)), (1, .ref (b 0 0)), (0, .ref bs)])
    (kk : ∀ (b' : Nat → Nat → Nat) (X' : xs_T) (S' : ms_T) (H1 : Heap) (locs1 : List Loc), b' 0 0 = b 0 0 → RR X' S' → gd_W (dC, dI) (fun q => s.heap.size ≤ q) s (gL cI cB b' a X' S').flatten H1 locs1 → W p l e room_1 s m #[.ref bs] below meth c H1 locs1 (cells + 27) (slots + 150) Q (F0 m 685 ls [])) : W p l e room_1 s m #[.ref bs] below meth c H locs cells slots Q (F0 m 626 ls []) := by
  obtain ⟨hx, hb, hts, hown, hml⟩ := C
  have hA : ∀ q, s.heap.size ≤ q → (fun q => s.heap.size ≤ q) q := fun _ h => h
  have hf0 : cells ≤ room_1.cells ∧ slots ≤ room_1.slots := ⟨by omega, by omega⟩
  obtain ⟨r, X', S', e7, e8, hR'⟩ := lb_undo hR 
  refine lv_aload_n hx hb dL_law_626 rfl (lv_at hl 2 rfl) ?_
  refine gq_iV (gs := gL cI cB b a X S) (gs' := gL cI cB b a X' S) (As := []) (rest := []) (wc := (gX cI cB b X).flatten) (w1 := (gX cI cB b X').flatten) (b := b 0 0) (C := RX7) (ci := 6) (q0 := 0) ⟨hx, hb, hml, hown, hts⟩ (c7_undo l e7) (cwV 0 hts gv_L_92 rfl rfl rfl hd7_undo ⟨Nat.le_of_ble_eq_true rfl, Nat.le_of_ble_eq_true rfl⟩) hK [0, 1] rfl hA hG [0] [1, 2] pl_0 pl_0 (List.append_nil _) (List.append_nil _) rfl rfl rfl rfl hl.1 rfl (Nat.le_of_ble_eq_true rfl) dL_law_627 hf0 (fun H locs hG9 => ?_)
  have hG : gd_W (dC, dI) (fun q => s.heap.size ≤ q) s (gL cI cB b a X' S).flatten H locs := hG9
  refine lv_aload_n hx hb dL_law_630 rfl (lv_at hl 1 rfl) ?_
  refine gq_iV (gs := gL cI cB b a X' S) (gs' := gL cI cB b a X' S') (As := []) (rest := [.int r]) (wc := wd_M cI a S) (w1 := wd_M cI a S') (b := a 0) (C := RX8) (ci := 7) (q0 := 0) ⟨hx, hb, hml, hown, hts⟩ (c8_undo l e8) (cwV 0 hts gv_L_95 rfl rfl rfl hd8_undo ⟨Nat.le_of_ble_eq_true rfl, Nat.le_of_ble_eq_true rfl⟩) hK [0] rfl hA hG [1, 2] [0] pl_2 pl_2 rfl rfl rfl rfl rfl rfl hl.1 rfl (Nat.le_of_ble_eq_true rfl) dL_law_631 hf0 (fun H locs hG9 => ?_)
  have hG : gd_W (dC, dI) (fun q => s.heap.size ≤ q) s (gL cI cB b a X' S').flatten H locs := hG9
  refine lv_icmp_eq (tgt := 685) hx hb dL_law_634 (by decide) (fun hc => ?_) (fun hc => ?_)
  · exact W.widen (Nat.le_add_right _ _) (Nat.le_add_right _ _) (kk b X' S' H locs rfl hR' hG)
  · exact absurd rfl hc
set_option maxRecDepth 100000 in
set_option maxHeartbeats 4000000 in
theorem wlaw_19 (C : lw_C p s m meth c bs) (hK : va_K (dC, dI) vwCl [(cI, .int), (cB, .object "DiceRoads$Board")] s) (hX : va_X bs L xs s s.heap) (hbl : bs < s.heap.size) {t1 t2 t3 : Nat} (hF : sn_W t1 t2 t3 (fun q => s.heap.size ≤ q) s s.heap) {b : Nat → Nat → Nat} {a : Nat → Nat} {X : xs_T} {S : ms_T} (hR : RR X S) {k : Nat} (hk : 4 * k + 4 ≤ L) (hL : L ≤ 2048) {H : Heap} {locs : List Loc} {ls : Array Slot} {cells slots : Nat} (hf : cells + 27 ≤ room_1.cells ∧ slots + 150 ≤ room_1.slots) (hG : gd_W (dC, dI) (fun q => s.heap.size ≤ q) s (gL cI cB b a X S).flatten H locs) (hl : lv_has ls 4 [(3, .int (nI (4 * k))), (2, .ref (a 0)), (1, .ref (b 0 0)), (0, .ref bs)])
    (kk : ∀ (b' : Nat → Nat → Nat) (X' : xs_T) (S' : ms_T) (H1 : Heap) (locs1 : List Loc), b' 0 0 = b 0 0 → RR X' S' → gd_W (dC, dI) (fun q => s.heap.size ≤ q) s (gL cI cB b' a X' S').flatten H1 locs1 → W p l e room_1 s m #[.ref bs] below meth c H1 locs1 (cells + 27) (slots + 150) Q (F0 m 685 ls [])) : W p l e room_1 s m #[.ref bs] below meth c H locs cells slots Q (F0 m 639 ls []) := by
  obtain ⟨hx, hb, hts, hown, hml⟩ := C
  have hA : ∀ q, s.heap.size ≤ q → (fun q => s.heap.size ≤ q) q := fun _ h => h
  have hf0 : cells ≤ room_1.cells ∧ slots ≤ room_1.slots := ⟨by omega, by omega⟩
  obtain ⟨r, X', S', e7, e8, hR'⟩ := lb_save hR (xs (4 * k + 1))
  refine lv_aload_n hx hb dL_law_639 rfl (lv_at hl 2 rfl) ?_
  refine lv_aload_n hx hb dL_law_640 rfl (lv_at hl 3 rfl) ?_
  refine lv_iload_n hx hb dL_law_641 rfl (lv_at hl 0 rfl) ?_
  refine lv_iconst (v := (1 : Int32)) hx hb dL_law_642 (by decide) ?_
  refine lv_iadd hx hb dL_law_643 ?_
  refine gl_ld hx hb hX hbl (i := 4 * k + 1) (by omega) hL hG.2.2 dL_law_644 (lb_add (4 * k) 1) ?_
  refine gn_nV (gs := gL cI cB b a X S) (As := [.int (xs (4 * k + 1))]) (rest := []) (wc := (gX cI cB b X).flatten) (w1 := fun b9 => (gX cI cB b9 X').flatten) (ok := fun b9 => b9 0 0 = b 0 0) (b := b 0 0) (C := RX7) (ci := 6) (q0 := 0) ⟨hx, hb, hml, hown, hts⟩ hF (c7_save l e7) (cwV 1 hts gv_L_96 rfl rfl rfl hd7_save ⟨Nat.le_of_ble_eq_true rfl, Nat.le_of_ble_eq_true rfl⟩) hK [0, 1] rfl hA hG [0] [1, 2] pl_0 (List.append_nil _) rfl rfl rfl hl.1 rfl (Nat.le_of_ble_eq_true rfl) dL_law_645 hf (fun b9 H locs hb9 hG9 => ?_)
  have hG : gd_W (dC, dI) (fun q => s.heap.size ≤ q) s (gL cI cB b9 a X' S).flatten H locs := hG9
  refine lv_aload_n hx hb dL_law_648 rfl (lv_at hl 1 rfl) ?_
  refine lv_aload_n hx hb dL_law_649 rfl (lv_at hl 3 rfl) ?_
  refine lv_iload_n hx hb dL_law_650 rfl (lv_at hl 0 rfl) ?_
  refine lv_iconst (v := (1 : Int32)) hx hb dL_law_651 (by decide) ?_
  refine lv_iadd hx hb dL_law_652 ?_
  refine gl_ld hx hb hX hbl (i := 4 * k + 1) (by omega) hL hG.2.2 dL_law_653 (lb_add (4 * k) 1) ?_
  refine gq_iV (gs := gL cI cB b9 a X' S) (gs' := gL cI cB b9 a X' S') (As := [.int (xs (4 * k + 1))]) (rest := [.int r]) (wc := wd_M cI a S) (w1 := wd_M cI a S') (b := a 0) (C := RX8) (ci := 7) (q0 := 0) ⟨hx, hb, hml, hown, hts⟩ (c8_save l e8) (cwV 1 hts gv_L_99 rfl rfl rfl hd8_save ⟨Nat.le_of_ble_eq_true rfl, Nat.le_of_ble_eq_true rfl⟩) hK [0] rfl hA hG [1, 2] [0] pl_2 pl_2 rfl rfl rfl rfl rfl rfl hl.1 rfl (Nat.le_of_ble_eq_true rfl) dL_law_654 hf (fun H locs hG9 => ?_)
  have hG : gd_W (dC, dI) (fun q => s.heap.size ≤ q) s (gL cI cB b9 a X' S').flatten H locs := hG9
  refine lv_icmp_eq (tgt := 685) hx hb dL_law_657 (by decide) (fun hc => ?_) (fun hc => ?_)
  · exact kk b9 X' S' H locs hb9 hR' hG
  · exact absurd rfl hc
set_option maxRecDepth 100000 in
set_option maxHeartbeats 4000000 in
theorem wlaw_20 (C : lw_C p s m meth c bs) (hK : va_K (dC, dI) vwCl [(cI, .int), (cB, .object "DiceRoads$Board")] s) (hX : va_X bs L xs s s.heap) (hbl : bs < s.heap.size) {t1 t2 t3 : Nat} (hF : sn_W t1 t2 t3 (fun q => s.heap.size ≤ q) s s.heap) {b : Nat → Nat → Nat} {a : Nat → Nat} {X : xs_T} {S : ms_T} (hR : RR X S) {k : Nat} (hk : 4 * k + 4 ≤ L) (hL : L ≤ 2048) {H : Heap} {locs : List Loc} {ls : Array Slot} {cells slots : Nat} (hf : cells + 27 ≤ room_1.cells ∧ slots + 150 ≤ room_1.slots) (hG : gd_W (dC, dI) (fun q => s.heap.size ≤ q) s (gL cI cB b a X S).flatten H locs) (hl : lv_has ls 4 [(3, .int (nI (4 * k))), (2, .ref (a 0)), (1, .ref (b 0 0)), (0, .ref bs)])
    (kk : ∀ (b' : Nat → Nat → Nat) (X' : xs_T) (S' : ms_T) (H1 : Heap) (locs1 : List Loc), b' 0 0 = b 0 0 → RR X' S' → gd_W (dC, dI) (fun q => s.heap.size ≤ q) s (gL cI cB b' a X' S').flatten H1 locs1 → W p l e room_1 s m #[.ref bs] below meth c H1 locs1 (cells + 27) (slots + 150) Q (F0 m 685 ls [])) : W p l e room_1 s m #[.ref bs] below meth c H locs cells slots Q (F0 m 662 ls []) := by
  obtain ⟨hx, hb, hts, hown, hml⟩ := C
  have hA : ∀ q, s.heap.size ≤ q → (fun q => s.heap.size ≤ q) q := fun _ h => h
  have hf0 : cells ≤ room_1.cells ∧ slots ≤ room_1.slots := ⟨by omega, by omega⟩
  obtain ⟨r, X', S', e7, e8, hR'⟩ := lb_restore hR (xs (4 * k + 1))
  refine lv_aload_n hx hb dL_law_662 rfl (lv_at hl 2 rfl) ?_
  refine lv_aload_n hx hb dL_law_663 rfl (lv_at hl 3 rfl) ?_
  refine lv_iload_n hx hb dL_law_664 rfl (lv_at hl 0 rfl) ?_
  refine lv_iconst (v := (1 : Int32)) hx hb dL_law_665 (by decide) ?_
  refine lv_iadd hx hb dL_law_666 ?_
  refine gl_ld hx hb hX hbl (i := 4 * k + 1) (by omega) hL hG.2.2 dL_law_667 (lb_add (4 * k) 1) ?_
  refine gq_iV (gs := gL cI cB b a X S) (gs' := gL cI cB b a X' S) (As := [.int (xs (4 * k + 1))]) (rest := []) (wc := (gX cI cB b X).flatten) (w1 := (gX cI cB b X').flatten) (b := b 0 0) (C := RX7) (ci := 6) (q0 := 0) ⟨hx, hb, hml, hown, hts⟩ (c7_restore l e7) (cwV 1 hts gv_L_100 rfl rfl rfl hd7_restore ⟨Nat.le_of_ble_eq_true rfl, Nat.le_of_ble_eq_true rfl⟩) hK [0, 1] rfl hA hG [0] [1, 2] pl_0 pl_0 (List.append_nil _) (List.append_nil _) rfl rfl rfl rfl hl.1 rfl (Nat.le_of_ble_eq_true rfl) dL_law_668 hf0 (fun H locs hG9 => ?_)
  have hG : gd_W (dC, dI) (fun q => s.heap.size ≤ q) s (gL cI cB b a X' S).flatten H locs := hG9
  refine lv_aload_n hx hb dL_law_671 rfl (lv_at hl 1 rfl) ?_
  refine lv_aload_n hx hb dL_law_672 rfl (lv_at hl 3 rfl) ?_
  refine lv_iload_n hx hb dL_law_673 rfl (lv_at hl 0 rfl) ?_
  refine lv_iconst (v := (1 : Int32)) hx hb dL_law_674 (by decide) ?_
  refine lv_iadd hx hb dL_law_675 ?_
  refine gl_ld hx hb hX hbl (i := 4 * k + 1) (by omega) hL hG.2.2 dL_law_676 (lb_add (4 * k) 1) ?_
  refine gq_iV (gs := gL cI cB b a X' S) (gs' := gL cI cB b a X' S') (As := [.int (xs (4 * k + 1))]) (rest := [.int r]) (wc := wd_M cI a S) (w1 := wd_M cI a S') (b := a 0) (C := RX8) (ci := 7) (q0 := 0) ⟨hx, hb, hml, hown, hts⟩ (c8_restore l e8) (cwV 1 hts gv_L_103 rfl rfl rfl hd8_restore ⟨Nat.le_of_ble_eq_true rfl, Nat.le_of_ble_eq_true rfl⟩) hK [0] rfl hA hG [1, 2] [0] pl_2 pl_2 rfl rfl rfl rfl rfl rfl hl.1 rfl (Nat.le_of_ble_eq_true rfl) dL_law_677 hf0 (fun H locs hG9 => ?_)
  have hG : gd_W (dC, dI) (fun q => s.heap.size ≤ q) s (gL cI cB b a X' S').flatten H locs := hG9
  refine lv_icmp_eq (tgt := 685) hx hb dL_law_680 (by decide) (fun hc => ?_) (fun hc => ?_)
  · exact W.widen (Nat.le_add_right _ _) (Nat.le_add_right _ _) (kk b X' S' H locs rfl hR' hG)
  · exact absurd rfl hc
end LAWCASES
