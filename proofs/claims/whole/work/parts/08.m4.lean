/-! ## DiceRoadsModel.chain(II)I -/
section
variable {p : Program} {l : Launch} {e : Env} {s : State} {m : MethodId} {args : Array Value} {below : List Frame} {meth : Method} {c : Code} {dC : Nat → ClassId} {dI : Nat → Nat → Nat} {cI : ClassId} {A : Nat → Prop}
set_option maxRecDepth 100000 in
set_option maxHeartbeats 4000000 in
theorem w8_chain_b184 (C : cx_M p s m args meth c RX8 cX8_chain (some .int) 7) (hK : va_K (dC, dI) vwCl [(cI, .int)] s) (hA : ∀ q, s.heap.size ≤ q → A q) {a : Nat → Nat} {q : (Int32 × ms_T)} {rec65 : Int32 → Int32 → ms_T → Option (Int32 × ms_T)} (hrec65 : ∀ {v2 : Int32} {v3 : Int32} {S : ms_T} , rec65 v2 v3 S = some q → ∀ {H : Heap} {locs : List Loc} {ls : Array Slot}, gd_W (dC, dI) A s (wd_M cI a S) H locs → lv_has ls 7 [(0, .ref (a 0)), (2, .int v2), (3, .int v3)] → W p l e RM8_chain s m args below meth c H locs 0 0 (MQ below (qi_W (dC, dI) [(cI, .int)] A q.1 (wd_M cI a q.2)) args s 0 0 A) (F0 m 65 ls [])) {rec73 : Int32 → Int32 → Int32 → ms_T → Option (Int32 × ms_T)} (hrec73 : ∀ {v2 : Int32} {v3 : Int32} {v4 : Int32} {S : ms_T} , rec73 v2 v3 v4 S = some q → ∀ {H : Heap} {locs : List Loc} {ls : Array Slot}, gd_W (dC, dI) A s (wd_M cI a S) H locs → lv_has ls 7 [(0, .ref (a 0)), (2, .int v2), (3, .int v3), (4, .int v4)] → W p l e RM8_chain s m args below meth c H locs 0 0 (MQ below (qi_W (dC, dI) [(cI, .int)] A q.1 (wd_M cI a q.2)) args s 0 0 A) (F0 m 73 ls [])) {v2 : Int32} {v3 : Int32} {v4 : Int32} {S : ms_T} (h : f8_chain_b184 rec65 rec73 v2 v3 v4 S = some q) {H : Heap} {locs : List Loc} {ls : Array Slot} (hG : gd_W (dC, dI) A s (wd_M cI a S) H locs) (hl : lv_has ls 7 [(0, .ref (a 0)), (2, .int v2), (3, .int v3), (4, .int v4)]) : W p l e RM8_chain s m args below meth c H locs 0 0 (MQ below (qi_W (dC, dI) [(cI, .int)] A q.1 (wd_M cI a q.2)) args s 0 0 A) (F0 m 184 ls []) := by
  unfold f8_chain_b184 at h
  obtain ⟨hx, hb, hr, hts, hown, hlocks, hml⟩ := id C
  refine lv_iinc (v := (v4 + (1 : Int32))) (lv' := [(4, .int (v4 + (1 : Int32))), (0, .ref (a 0)), (2, .int v2), (3, .int v3)]) hx hb dX8_chain_184 hl (k := 3) rfl rfl (by decide) rfl (fun ls hl => ?_)
  refine lv_goto (tgt := 73) hx hb dX8_chain_187 (by decide) ?_
  exact hrec73 h hG (lv_sub hl [1, 2, 3, 0] rfl)
set_option maxRecDepth 100000 in
set_option maxHeartbeats 4000000 in
theorem w8_chain_b177 (C : cx_M p s m args meth c RX8 cX8_chain (some .int) 7) (hK : va_K (dC, dI) vwCl [(cI, .int)] s) (hA : ∀ q, s.heap.size ≤ q → A q) {a : Nat → Nat} {q : (Int32 × ms_T)} {rec65 : Int32 → Int32 → ms_T → Option (Int32 × ms_T)} (hrec65 : ∀ {v2 : Int32} {v3 : Int32} {S : ms_T} , rec65 v2 v3 S = some q → ∀ {H : Heap} {locs : List Loc} {ls : Array Slot}, gd_W (dC, dI) A s (wd_M cI a S) H locs → lv_has ls 7 [(0, .ref (a 0)), (2, .int v2), (3, .int v3)] → W p l e RM8_chain s m args below meth c H locs 0 0 (MQ below (qi_W (dC, dI) [(cI, .int)] A q.1 (wd_M cI a q.2)) args s 0 0 A) (F0 m 65 ls [])) {rec73 : Int32 → Int32 → Int32 → ms_T → Option (Int32 × ms_T)} (hrec73 : ∀ {v2 : Int32} {v3 : Int32} {v4 : Int32} {S : ms_T} , rec73 v2 v3 v4 S = some q → ∀ {H : Heap} {locs : List Loc} {ls : Array Slot}, gd_W (dC, dI) A s (wd_M cI a S) H locs → lv_has ls 7 [(0, .ref (a 0)), (2, .int v2), (3, .int v3), (4, .int v4)] → W p l e RM8_chain s m args below meth c H locs 0 0 (MQ below (qi_W (dC, dI) [(cI, .int)] A q.1 (wd_M cI a q.2)) args s 0 0 A) (F0 m 73 ls [])) {rec82 : Int32 → Int32 → Int32 → Int32 → ms_T → Option (Int32 × ms_T)} (hrec82 : ∀ {v2 : Int32} {v3 : Int32} {v4 : Int32} {v5 : Int32} {S : ms_T} , rec82 v2 v3 v4 v5 S = some q → ∀ {H : Heap} {locs : List Loc} {ls : Array Slot}, gd_W (dC, dI) A s (wd_M cI a S) H locs → lv_has ls 7 [(0, .ref (a 0)), (2, .int v2), (3, .int v3), (4, .int v4), (5, .int v5)] → W p l e RM8_chain s m args below meth c H locs 0 0 (MQ below (qi_W (dC, dI) [(cI, .int)] A q.1 (wd_M cI a q.2)) args s 0 0 A) (F0 m 82 ls [])) {v2 : Int32} {v3 : Int32} {v4 : Int32} {v5 : Int32} {t1 : Int32} {t2 : Int32} {S : ms_T} (h : f8_chain_b177 rec65 rec73 rec82 v2 v3 v4 v5 t1 t2 S = some q) {H : Heap} {locs : List Loc} {ls : Array Slot} (hG : gd_W (dC, dI) A s (wd_M cI a S) H locs) (hl : lv_has ls 7 [(0, .ref (a 0)), (2, .int v2), (3, .int v3), (4, .int v4), (5, .int v5)]) : W p l e RM8_chain s m args below meth c H locs 0 0 (MQ below (qi_W (dC, dI) [(cI, .int)] A q.1 (wd_M cI a q.2)) args s 0 0 A) (F0 m 177 ls [.int t2, .int t1, .ref (a 8)]) := by
  unfold f8_chain_b177 at h
  obtain ⟨hx, hb, hr, hts, hown, hlocks, hml⟩ := id C
  obtain ⟨hi, h⟩ := fo_ck_some h
  refine va_iast hx hb hK hG.1 hG.2.1 hG.2.2 8 0 rfl rfl hi dX8_chain_177 (fun H locs hP9 hD9 hS9 => ?_)
  have hG : gd_W (dC, dI) A s (wd_M cI a (ms_set S 7 (upd (S 7) t1.toNatClampNeg t2))) H locs := ⟨hP9, hD9, hS9⟩
  refine lv_iinc (v := (v5 + (1 : Int32))) (lv' := [(5, .int (v5 + (1 : Int32))), (0, .ref (a 0)), (2, .int v2), (3, .int v3), (4, .int v4)]) hx hb dX8_chain_178 hl (k := 4) rfl rfl (by decide) rfl (fun ls hl => ?_)
  refine lv_goto (tgt := 82) hx hb dX8_chain_181 (by decide) ?_
  exact hrec82 h hG (lv_sub hl [1, 2, 3, 4, 0] rfl)
set_option maxRecDepth 100000 in
set_option maxHeartbeats 4000000 in
theorem w8_chain_b145 (C : cx_M p s m args meth c RX8 cX8_chain (some .int) 7) (hK : va_K (dC, dI) vwCl [(cI, .int)] s) (hA : ∀ q, s.heap.size ≤ q → A q) {a : Nat → Nat} {q : (Int32 × ms_T)} {rec65 : Int32 → Int32 → ms_T → Option (Int32 × ms_T)} (hrec65 : ∀ {v2 : Int32} {v3 : Int32} {S : ms_T} , rec65 v2 v3 S = some q → ∀ {H : Heap} {locs : List Loc} {ls : Array Slot}, gd_W (dC, dI) A s (wd_M cI a S) H locs → lv_has ls 7 [(0, .ref (a 0)), (2, .int v2), (3, .int v3)] → W p l e RM8_chain s m args below meth c H locs 0 0 (MQ below (qi_W (dC, dI) [(cI, .int)] A q.1 (wd_M cI a q.2)) args s 0 0 A) (F0 m 65 ls [])) {rec73 : Int32 → Int32 → Int32 → ms_T → Option (Int32 × ms_T)} (hrec73 : ∀ {v2 : Int32} {v3 : Int32} {v4 : Int32} {S : ms_T} , rec73 v2 v3 v4 S = some q → ∀ {H : Heap} {locs : List Loc} {ls : Array Slot}, gd_W (dC, dI) A s (wd_M cI a S) H locs → lv_has ls 7 [(0, .ref (a 0)), (2, .int v2), (3, .int v3), (4, .int v4)] → W p l e RM8_chain s m args below meth c H locs 0 0 (MQ below (qi_W (dC, dI) [(cI, .int)] A q.1 (wd_M cI a q.2)) args s 0 0 A) (F0 m 73 ls [])) {rec82 : Int32 → Int32 → Int32 → Int32 → ms_T → Option (Int32 × ms_T)} (hrec82 : ∀ {v2 : Int32} {v3 : Int32} {v4 : Int32} {v5 : Int32} {S : ms_T} , rec82 v2 v3 v4 v5 S = some q → ∀ {H : Heap} {locs : List Loc} {ls : Array Slot}, gd_W (dC, dI) A s (wd_M cI a S) H locs → lv_has ls 7 [(0, .ref (a 0)), (2, .int v2), (3, .int v3), (4, .int v4), (5, .int v5)] → W p l e RM8_chain s m args below meth c H locs 0 0 (MQ below (qi_W (dC, dI) [(cI, .int)] A q.1 (wd_M cI a q.2)) args s 0 0 A) (F0 m 82 ls [])) {v2 : Int32} {v3 : Int32} {v4 : Int32} {v5 : Int32} {t0 : Int32} {S : ms_T} (h : f8_chain_b145 rec65 rec73 rec82 v2 v3 v4 v5 t0 S = some q) {H : Heap} {locs : List Loc} {ls : Array Slot} (hG : gd_W (dC, dI) A s (wd_M cI a S) H locs) (hl : lv_has ls 7 [(0, .ref (a 0)), (2, .int v2), (3, .int v3), (4, .int v4), (5, .int v5)]) : W p l e RM8_chain s m args below meth c H locs 0 0 (MQ below (qi_W (dC, dI) [(cI, .int)] A q.1 (wd_M cI a q.2)) args s 0 0 A) (F0 m 145 ls [.int t0]) := by
  unfold f8_chain_b145 at h
  obtain ⟨hx, hb, hr, hts, hown, hlocks, hml⟩ := id C
  refine lv_istore (lv' := [(6, .int t0), (0, .ref (a 0)), (2, .int v2), (3, .int v3), (4, .int v4), (5, .int v5)]) hx hb dX8_chain_145 hl (by decide) rfl (fun ls hl => ?_)
  refine lv_aload_n hx hb dX8_chain_147 rfl (lv_at hl 1 rfl) ?_
  refine va_get (D := (dC, dI)) (ci := 7) (v := .ref (a 8)) (C := RX8) (T := TX8) (N := 17) hx hb hts inlX8 hown hK hG.1 0 rfl rfl 13 (by decide) (hts (Cond.fieldLink RX8 31 "DiceRoadsModel" "by" "[I") wq_650) (fun _ h9 => h9) rfl dX8_chain_148 ?_
  refine lv_iload hx hb dX8_chain_151 (lv_at hl 5 rfl) ?_
  refine lv_iload hx hb dX8_chain_153 (lv_at hl 0 rfl) ?_
  refine lv_if_eq (tgt := 170) hx hb dX8_chain_155 (by decide) (fun hc => ?_) (fun hc => ?_)
  · have h := fo_it h hc
    refine lv_aload_n hx hb dX8_chain_170 rfl (lv_at hl 1 rfl) ?_
    refine va_get (D := (dC, dI)) (ci := 7) (v := .ref (a 8)) (C := RX8) (T := TX8) (N := 17) hx hb hts inlX8 hown hK hG.1 0 rfl rfl 13 (by decide) (hts (Cond.fieldLink RX8 31 "DiceRoadsModel" "by" "[I") wq_650) (fun _ h9 => h9) rfl dX8_chain_171 ?_
    refine lv_iload hx hb dX8_chain_174 (lv_at hl 5 rfl) ?_
    obtain ⟨hi, h⟩ := fo_ck_some h
    refine va_iald hx hb hK hG.1 8 0 rfl rfl hi dX8_chain_176 ?_
    exact w8_chain_b177 C hK hA (fun h => hrec65 h) (fun h => hrec73 h) (fun h => hrec82 h) h hG (lv_sub hl [1, 2, 3, 4, 5] rfl)
  · have h := fo_if h hc
    refine lv_aload_n hx hb dX8_chain_158 rfl (lv_at hl 1 rfl) ?_
    refine va_get (D := (dC, dI)) (ci := 7) (v := .ref (a 8)) (C := RX8) (T := TX8) (N := 17) hx hb hts inlX8 hown hK hG.1 0 rfl rfl 13 (by decide) (hts (Cond.fieldLink RX8 31 "DiceRoadsModel" "by" "[I") wq_650) (fun _ h9 => h9) rfl dX8_chain_159 ?_
    refine lv_iload hx hb dX8_chain_162 (lv_at hl 4 rfl) ?_
    obtain ⟨hi, h⟩ := fo_ck_some h
    refine va_iald hx hb hK hG.1 8 0 rfl rfl hi dX8_chain_164 ?_
    refine lv_iconst (v := (1 : Int32)) hx hb dX8_chain_165 (by decide) ?_
    refine lv_iadd hx hb dX8_chain_166 ?_
    refine lv_goto (tgt := 177) hx hb dX8_chain_167 (by decide) ?_
    exact w8_chain_b177 C hK hA (fun h => hrec65 h) (fun h => hrec73 h) (fun h => hrec82 h) h hG (lv_sub hl [1, 2, 3, 4, 5] rfl)
set_option maxRecDepth 100000 in
set_option maxHeartbeats 4000000 in
theorem w8_chain_b144 (C : cx_M p s m args meth c RX8 cX8_chain (some .int) 7) (hK : va_K (dC, dI) vwCl [(cI, .int)] s) (hA : ∀ q, s.heap.size ≤ q → A q) {a : Nat → Nat} {q : (Int32 × ms_T)} {rec65 : Int32 → Int32 → ms_T → Option (Int32 × ms_T)} (hrec65 : ∀ {v2 : Int32} {v3 : Int32} {S : ms_T} , rec65 v2 v3 S = some q → ∀ {H : Heap} {locs : List Loc} {ls : Array Slot}, gd_W (dC, dI) A s (wd_M cI a S) H locs → lv_has ls 7 [(0, .ref (a 0)), (2, .int v2), (3, .int v3)] → W p l e RM8_chain s m args below meth c H locs 0 0 (MQ below (qi_W (dC, dI) [(cI, .int)] A q.1 (wd_M cI a q.2)) args s 0 0 A) (F0 m 65 ls [])) {rec73 : Int32 → Int32 → Int32 → ms_T → Option (Int32 × ms_T)} (hrec73 : ∀ {v2 : Int32} {v3 : Int32} {v4 : Int32} {S : ms_T} , rec73 v2 v3 v4 S = some q → ∀ {H : Heap} {locs : List Loc} {ls : Array Slot}, gd_W (dC, dI) A s (wd_M cI a S) H locs → lv_has ls 7 [(0, .ref (a 0)), (2, .int v2), (3, .int v3), (4, .int v4)] → W p l e RM8_chain s m args below meth c H locs 0 0 (MQ below (qi_W (dC, dI) [(cI, .int)] A q.1 (wd_M cI a q.2)) args s 0 0 A) (F0 m 73 ls [])) {rec82 : Int32 → Int32 → Int32 → Int32 → ms_T → Option (Int32 × ms_T)} (hrec82 : ∀ {v2 : Int32} {v3 : Int32} {v4 : Int32} {v5 : Int32} {S : ms_T} , rec82 v2 v3 v4 v5 S = some q → ∀ {H : Heap} {locs : List Loc} {ls : Array Slot}, gd_W (dC, dI) A s (wd_M cI a S) H locs → lv_has ls 7 [(0, .ref (a 0)), (2, .int v2), (3, .int v3), (4, .int v4), (5, .int v5)] → W p l e RM8_chain s m args below meth c H locs 0 0 (MQ below (qi_W (dC, dI) [(cI, .int)] A q.1 (wd_M cI a q.2)) args s 0 0 A) (F0 m 82 ls [])) {v2 : Int32} {v3 : Int32} {v4 : Int32} {v5 : Int32} {S : ms_T} (h : f8_chain_b144 rec65 rec73 rec82 v2 v3 v4 v5 S = some q) {H : Heap} {locs : List Loc} {ls : Array Slot} (hG : gd_W (dC, dI) A s (wd_M cI a S) H locs) (hl : lv_has ls 7 [(0, .ref (a 0)), (2, .int v2), (3, .int v3), (4, .int v4), (5, .int v5)]) : W p l e RM8_chain s m args below meth c H locs 0 0 (MQ below (qi_W (dC, dI) [(cI, .int)] A q.1 (wd_M cI a q.2)) args s 0 0 A) (F0 m 144 ls []) := by
  unfold f8_chain_b144 at h
  obtain ⟨hx, hb, hr, hts, hown, hlocks, hml⟩ := id C
  refine lv_iconst (v := (0 : Int32)) hx hb dX8_chain_144 (by decide) ?_
  exact w8_chain_b145 C hK hA (fun h => hrec65 h) (fun h => hrec73 h) (fun h => hrec82 h) h hG (lv_sub hl [0, 1, 2, 3, 4] rfl)
set_option maxRecDepth 100000 in
set_option maxHeartbeats 4000000 in
theorem w8_chain_b140 (C : cx_M p s m args meth c RX8 cX8_chain (some .int) 7) (hK : va_K (dC, dI) vwCl [(cI, .int)] s) (hA : ∀ q, s.heap.size ≤ q → A q) {a : Nat → Nat} {q : (Int32 × ms_T)} {rec65 : Int32 → Int32 → ms_T → Option (Int32 × ms_T)} (hrec65 : ∀ {v2 : Int32} {v3 : Int32} {S : ms_T} , rec65 v2 v3 S = some q → ∀ {H : Heap} {locs : List Loc} {ls : Array Slot}, gd_W (dC, dI) A s (wd_M cI a S) H locs → lv_has ls 7 [(0, .ref (a 0)), (2, .int v2), (3, .int v3)] → W p l e RM8_chain s m args below meth c H locs 0 0 (MQ below (qi_W (dC, dI) [(cI, .int)] A q.1 (wd_M cI a q.2)) args s 0 0 A) (F0 m 65 ls [])) {rec73 : Int32 → Int32 → Int32 → ms_T → Option (Int32 × ms_T)} (hrec73 : ∀ {v2 : Int32} {v3 : Int32} {v4 : Int32} {S : ms_T} , rec73 v2 v3 v4 S = some q → ∀ {H : Heap} {locs : List Loc} {ls : Array Slot}, gd_W (dC, dI) A s (wd_M cI a S) H locs → lv_has ls 7 [(0, .ref (a 0)), (2, .int v2), (3, .int v3), (4, .int v4)] → W p l e RM8_chain s m args below meth c H locs 0 0 (MQ below (qi_W (dC, dI) [(cI, .int)] A q.1 (wd_M cI a q.2)) args s 0 0 A) (F0 m 73 ls [])) {rec82 : Int32 → Int32 → Int32 → Int32 → ms_T → Option (Int32 × ms_T)} (hrec82 : ∀ {v2 : Int32} {v3 : Int32} {v4 : Int32} {v5 : Int32} {S : ms_T} , rec82 v2 v3 v4 v5 S = some q → ∀ {H : Heap} {locs : List Loc} {ls : Array Slot}, gd_W (dC, dI) A s (wd_M cI a S) H locs → lv_has ls 7 [(0, .ref (a 0)), (2, .int v2), (3, .int v3), (4, .int v4), (5, .int v5)] → W p l e RM8_chain s m args below meth c H locs 0 0 (MQ below (qi_W (dC, dI) [(cI, .int)] A q.1 (wd_M cI a q.2)) args s 0 0 A) (F0 m 82 ls [])) {v2 : Int32} {v3 : Int32} {v4 : Int32} {v5 : Int32} {S : ms_T} (h : f8_chain_b140 rec65 rec73 rec82 v2 v3 v4 v5 S = some q) {H : Heap} {locs : List Loc} {ls : Array Slot} (hG : gd_W (dC, dI) A s (wd_M cI a S) H locs) (hl : lv_has ls 7 [(0, .ref (a 0)), (2, .int v2), (3, .int v3), (4, .int v4), (5, .int v5)]) : W p l e RM8_chain s m args below meth c H locs 0 0 (MQ below (qi_W (dC, dI) [(cI, .int)] A q.1 (wd_M cI a q.2)) args s 0 0 A) (F0 m 140 ls []) := by
  unfold f8_chain_b140 at h
  obtain ⟨hx, hb, hr, hts, hown, hlocks, hml⟩ := id C
  refine lv_iconst (v := (1 : Int32)) hx hb dX8_chain_140 (by decide) ?_
  refine lv_goto (tgt := 145) hx hb dX8_chain_141 (by decide) ?_
  exact w8_chain_b145 C hK hA (fun h => hrec65 h) (fun h => hrec73 h) (fun h => hrec82 h) h hG (lv_sub hl [0, 1, 2, 3, 4] rfl)
set_option maxRecDepth 100000 in
set_option maxHeartbeats 4000000 in
theorem w8_chain_b82 (C : cx_M p s m args meth c RX8 cX8_chain (some .int) 7) (hK : va_K (dC, dI) vwCl [(cI, .int)] s) (hA : ∀ q, s.heap.size ≤ q → A q) {a : Nat → Nat} {q : (Int32 × ms_T)} {rec65 : Int32 → Int32 → ms_T → Option (Int32 × ms_T)} (hrec65 : ∀ {v2 : Int32} {v3 : Int32} {S : ms_T} , rec65 v2 v3 S = some q → ∀ {H : Heap} {locs : List Loc} {ls : Array Slot}, gd_W (dC, dI) A s (wd_M cI a S) H locs → lv_has ls 7 [(0, .ref (a 0)), (2, .int v2), (3, .int v3)] → W p l e RM8_chain s m args below meth c H locs 0 0 (MQ below (qi_W (dC, dI) [(cI, .int)] A q.1 (wd_M cI a q.2)) args s 0 0 A) (F0 m 65 ls [])) {rec73 : Int32 → Int32 → Int32 → ms_T → Option (Int32 × ms_T)} (hrec73 : ∀ {v2 : Int32} {v3 : Int32} {v4 : Int32} {S : ms_T} , rec73 v2 v3 v4 S = some q → ∀ {H : Heap} {locs : List Loc} {ls : Array Slot}, gd_W (dC, dI) A s (wd_M cI a S) H locs → lv_has ls 7 [(0, .ref (a 0)), (2, .int v2), (3, .int v3), (4, .int v4)] → W p l e RM8_chain s m args below meth c H locs 0 0 (MQ below (qi_W (dC, dI) [(cI, .int)] A q.1 (wd_M cI a q.2)) args s 0 0 A) (F0 m 73 ls [])) {rec82 : Int32 → Int32 → Int32 → Int32 → ms_T → Option (Int32 × ms_T)} (hrec82 : ∀ {v2 : Int32} {v3 : Int32} {v4 : Int32} {v5 : Int32} {S : ms_T} , rec82 v2 v3 v4 v5 S = some q → ∀ {H : Heap} {locs : List Loc} {ls : Array Slot}, gd_W (dC, dI) A s (wd_M cI a S) H locs → lv_has ls 7 [(0, .ref (a 0)), (2, .int v2), (3, .int v3), (4, .int v4), (5, .int v5)] → W p l e RM8_chain s m args below meth c H locs 0 0 (MQ below (qi_W (dC, dI) [(cI, .int)] A q.1 (wd_M cI a q.2)) args s 0 0 A) (F0 m 82 ls [])) {v2 : Int32} {v3 : Int32} {v4 : Int32} {v5 : Int32} {S : ms_T} (h : f8_chain_b82 rec65 rec73 rec82 v2 v3 v4 v5 S = some q) {H : Heap} {locs : List Loc} {ls : Array Slot} (hG : gd_W (dC, dI) A s (wd_M cI a S) H locs) (hl : lv_has ls 7 [(0, .ref (a 0)), (2, .int v2), (3, .int v3), (4, .int v4), (5, .int v5)]) : W p l e RM8_chain s m args below meth c H locs 0 0 (MQ below (qi_W (dC, dI) [(cI, .int)] A q.1 (wd_M cI a q.2)) args s 0 0 A) (F0 m 82 ls []) := by
  unfold f8_chain_b82 at h
  obtain ⟨hx, hb, hr, hts, hown, hlocks, hml⟩ := id C
  refine lv_iload hx hb dX8_chain_82 (lv_at hl 4 rfl) ?_
  refine lv_iconst (v := (4 : Int32)) hx hb dX8_chain_84 (by decide) ?_
  refine lv_icmp_ge (tgt := 184) hx hb dX8_chain_85 (by decide) (fun hc => ?_) (fun hc => ?_)
  · have h := fo_it h hc
    exact w8_chain_b184 C hK hA (fun h => hrec65 h) (fun h => hrec73 h) h hG (lv_sub hl [0, 1, 2, 3] rfl)
  · have h := fo_if h hc
    refine lv_aload_n hx hb dX8_chain_88 rfl (lv_at hl 0 rfl) ?_
    refine va_get (D := (dC, dI)) (ci := 7) (v := .ref (a 8)) (C := RX8) (T := TX8) (N := 17) hx hb hts inlX8 hown hK hG.1 0 rfl rfl 13 (by decide) (hts (Cond.fieldLink RX8 31 "DiceRoadsModel" "by" "[I") wq_650) (fun _ h9 => h9) rfl dX8_chain_89 ?_
    refine lv_iload hx hb dX8_chain_92 (lv_at hl 3 rfl) ?_
    obtain ⟨hi, h⟩ := fo_ck_some h
    refine va_iald hx hb hK hG.1 8 0 rfl rfl hi dX8_chain_94 ?_
    refine lv_if_le (tgt := 184) hx hb dX8_chain_95 (by decide) (fun hc => ?_) (fun hc => ?_)
    · have h := fo_it h hc
      exact w8_chain_b184 C hK hA (fun h => hrec65 h) (fun h => hrec73 h) h hG (lv_sub hl [0, 1, 2, 3] rfl)
    · have h := fo_if h hc
      refine lv_aload_n hx hb dX8_chain_98 rfl (lv_at hl 0 rfl) ?_
      refine lv_iload hx hb dX8_chain_99 (lv_at hl 3 rfl) ?_
      refine lv_iload hx hb dX8_chain_101 (lv_at hl 4 rfl) ?_
      obtain ⟨q103, hq103, h⟩ := fo_bd_some h
      refine gc_iV (b := a 0) (C := RX8) (As := [.int v4, .int v5]) (rest := []) (wc := (wd_M0 cI a (S 8) (S 0))) (w1 := (wd_M0 cI a (S 8) (S 0))) (ci := 7) (q0 := 0) ⟨hx, hb, hml, hown, hts⟩ (c8_debtOf l (a := a) (X := (S 8)) hq103) (cwV 2 hts gv_X8_46 rfl rfl rfl hd8_debtOf ⟨Nat.le_of_ble_eq_true rfl, Nat.le_of_ble_eq_true rfl⟩) hK [0] rfl hA hG [0, 1] rfl rfl rfl rfl rfl rfl hl.1 rfl (Nat.le_of_ble_eq_true rfl) dX8_chain_103 ⟨Nat.zero_le _, Nat.zero_le _⟩ (fun H locs hG9 => ?_)
      have hG : gd_W (dC, dI) A s (wd_M cI a S) H locs := hG9
      refine lv_if_le (tgt := 144) hx hb dX8_chain_106 (by decide) (fun hc => ?_) (fun hc => ?_)
      · have h := fo_it h hc
        exact w8_chain_b144 C hK hA (fun h => hrec65 h) (fun h => hrec73 h) (fun h => hrec82 h) h hG (lv_sub hl [0, 1, 2, 3, 4] rfl)
      · have h := fo_if h hc
        refine lv_aload_n hx hb dX8_chain_109 rfl (lv_at hl 0 rfl) ?_
        refine va_get (D := (dC, dI)) (ci := 7) (v := .ref (a 8)) (C := RX8) (T := TX8) (N := 17) hx hb hts inlX8 hown hK hG.1 0 rfl rfl 13 (by decide) (hts (Cond.fieldLink RX8 31 "DiceRoadsModel" "by" "[I") wq_650) (fun _ h9 => h9) rfl dX8_chain_110 ?_
        refine lv_iload hx hb dX8_chain_113 (lv_at hl 4 rfl) ?_
        obtain ⟨hi, h⟩ := fo_ck_some h
        refine va_iald hx hb hK hG.1 8 0 rfl rfl hi dX8_chain_115 ?_
        refine lv_bipush (v := (-6 : Int32)) hx hb dX8_chain_116 (by decide) ?_
        refine lv_icmp_eq (tgt := 140) hx hb dX8_chain_118 (by decide) (fun hc => ?_) (fun hc => ?_)
        · have h := fo_it h hc
          exact w8_chain_b140 C hK hA (fun h => hrec65 h) (fun h => hrec73 h) (fun h => hrec82 h) h hG (lv_sub hl [0, 1, 2, 3, 4] rfl)
        · have h := fo_if h hc
          refine lv_aload_n hx hb dX8_chain_121 rfl (lv_at hl 0 rfl) ?_
          refine va_get (D := (dC, dI)) (ci := 7) (v := .ref (a 8)) (C := RX8) (T := TX8) (N := 17) hx hb hts inlX8 hown hK hG.1 0 rfl rfl 13 (by decide) (hts (Cond.fieldLink RX8 31 "DiceRoadsModel" "by" "[I") wq_650) (fun _ h9 => h9) rfl dX8_chain_122 ?_
          refine lv_iload hx hb dX8_chain_125 (lv_at hl 3 rfl) ?_
          obtain ⟨hi, h⟩ := fo_ck_some h
          refine va_iald hx hb hK hG.1 8 0 rfl rfl hi dX8_chain_127 ?_
          refine lv_iconst (v := (1 : Int32)) hx hb dX8_chain_128 (by decide) ?_
          refine lv_iadd hx hb dX8_chain_129 ?_
          refine lv_aload_n hx hb dX8_chain_130 rfl (lv_at hl 0 rfl) ?_
          refine va_get (D := (dC, dI)) (ci := 7) (v := .ref (a 8)) (C := RX8) (T := TX8) (N := 17) hx hb hts inlX8 hown hK hG.1 0 rfl rfl 13 (by decide) (hts (Cond.fieldLink RX8 31 "DiceRoadsModel" "by" "[I") wq_650) (fun _ h9 => h9) rfl dX8_chain_131 ?_
          refine lv_iload hx hb dX8_chain_134 (lv_at hl 4 rfl) ?_
          obtain ⟨hi, h⟩ := fo_ck_some h
          refine va_iald hx hb hK hG.1 8 0 rfl rfl hi dX8_chain_136 ?_
          refine lv_icmp_ge (tgt := 144) hx hb dX8_chain_137 (by decide) (fun hc => ?_) (fun hc => ?_)
          · have h := fo_it h hc
            exact w8_chain_b144 C hK hA (fun h => hrec65 h) (fun h => hrec73 h) (fun h => hrec82 h) h hG (lv_sub hl [0, 1, 2, 3, 4] rfl)
          · have h := fo_if h hc
            exact w8_chain_b140 C hK hA (fun h => hrec65 h) (fun h => hrec73 h) (fun h => hrec82 h) h hG (lv_sub hl [0, 1, 2, 3, 4] rfl)
set_option maxRecDepth 100000 in
set_option maxHeartbeats 4000000 in
theorem w8_chain_L82 (C : cx_M p s m args meth c RX8 cX8_chain (some .int) 7) (hK : va_K (dC, dI) vwCl [(cI, .int)] s) (hA : ∀ q, s.heap.size ≤ q → A q) {a : Nat → Nat} {q : (Int32 × ms_T)} {rec65 : Int32 → Int32 → ms_T → Option (Int32 × ms_T)} (hrec65 : ∀ {v2 : Int32} {v3 : Int32} {S : ms_T} , rec65 v2 v3 S = some q → ∀ {H : Heap} {locs : List Loc} {ls : Array Slot}, gd_W (dC, dI) A s (wd_M cI a S) H locs → lv_has ls 7 [(0, .ref (a 0)), (2, .int v2), (3, .int v3)] → W p l e RM8_chain s m args below meth c H locs 0 0 (MQ below (qi_W (dC, dI) [(cI, .int)] A q.1 (wd_M cI a q.2)) args s 0 0 A) (F0 m 65 ls [])) {rec73 : Int32 → Int32 → Int32 → ms_T → Option (Int32 × ms_T)} (hrec73 : ∀ {v2 : Int32} {v3 : Int32} {v4 : Int32} {S : ms_T} , rec73 v2 v3 v4 S = some q → ∀ {H : Heap} {locs : List Loc} {ls : Array Slot}, gd_W (dC, dI) A s (wd_M cI a S) H locs → lv_has ls 7 [(0, .ref (a 0)), (2, .int v2), (3, .int v3), (4, .int v4)] → W p l e RM8_chain s m args below meth c H locs 0 0 (MQ below (qi_W (dC, dI) [(cI, .int)] A q.1 (wd_M cI a q.2)) args s 0 0 A) (F0 m 73 ls [])) : ∀ (n : Nat) {v2 : Int32} {v3 : Int32} {v4 : Int32} {v5 : Int32} {S : ms_T}, f8_chain_L82 rec65 rec73 n v2 v3 v4 v5 S = some q → ∀ {H : Heap} {locs : List Loc} {ls : Array Slot}, gd_W (dC, dI) A s (wd_M cI a S) H locs → lv_has ls 7 [(0, .ref (a 0)), (2, .int v2), (3, .int v3), (4, .int v4), (5, .int v5)] → W p l e RM8_chain s m args below meth c H locs 0 0 (MQ below (qi_W (dC, dI) [(cI, .int)] A q.1 (wd_M cI a q.2)) args s 0 0 A) (F0 m 82 ls []) := by
  intro n
  induction n with
  | zero => intro _ _ _ _ _ h; exact nomatch h
  | succ n ih => intro v2 v3 v4 v5 S h H locs ls hG hl; exact w8_chain_b82 C hK hA (fun h => hrec65 h) (fun h => hrec73 h) (fun h => ih h) (show f8_chain_b82 rec65 rec73 (f8_chain_L82 rec65 rec73 n) v2 v3 v4 v5 S = some q from h) hG hl
set_option maxRecDepth 100000 in
set_option maxHeartbeats 4000000 in
theorem w8_chain_b73 (C : cx_M p s m args meth c RX8 cX8_chain (some .int) 7) (hK : va_K (dC, dI) vwCl [(cI, .int)] s) (hA : ∀ q, s.heap.size ≤ q → A q) {a : Nat → Nat} {q : (Int32 × ms_T)} {rec65 : Int32 → Int32 → ms_T → Option (Int32 × ms_T)} (hrec65 : ∀ {v2 : Int32} {v3 : Int32} {S : ms_T} , rec65 v2 v3 S = some q → ∀ {H : Heap} {locs : List Loc} {ls : Array Slot}, gd_W (dC, dI) A s (wd_M cI a S) H locs → lv_has ls 7 [(0, .ref (a 0)), (2, .int v2), (3, .int v3)] → W p l e RM8_chain s m args below meth c H locs 0 0 (MQ below (qi_W (dC, dI) [(cI, .int)] A q.1 (wd_M cI a q.2)) args s 0 0 A) (F0 m 65 ls [])) {rec73 : Int32 → Int32 → Int32 → ms_T → Option (Int32 × ms_T)} (hrec73 : ∀ {v2 : Int32} {v3 : Int32} {v4 : Int32} {S : ms_T} , rec73 v2 v3 v4 S = some q → ∀ {H : Heap} {locs : List Loc} {ls : Array Slot}, gd_W (dC, dI) A s (wd_M cI a S) H locs → lv_has ls 7 [(0, .ref (a 0)), (2, .int v2), (3, .int v3), (4, .int v4)] → W p l e RM8_chain s m args below meth c H locs 0 0 (MQ below (qi_W (dC, dI) [(cI, .int)] A q.1 (wd_M cI a q.2)) args s 0 0 A) (F0 m 73 ls [])) {v2 : Int32} {v3 : Int32} {v4 : Int32} {S : ms_T} (h : f8_chain_b73 rec65 rec73 v2 v3 v4 S = some q) {H : Heap} {locs : List Loc} {ls : Array Slot} (hG : gd_W (dC, dI) A s (wd_M cI a S) H locs) (hl : lv_has ls 7 [(0, .ref (a 0)), (2, .int v2), (3, .int v3), (4, .int v4)]) : W p l e RM8_chain s m args below meth c H locs 0 0 (MQ below (qi_W (dC, dI) [(cI, .int)] A q.1 (wd_M cI a q.2)) args s 0 0 A) (F0 m 73 ls []) := by
  unfold f8_chain_b73 at h
  obtain ⟨hx, hb, hr, hts, hown, hlocks, hml⟩ := id C
  refine lv_iload hx hb dX8_chain_73 (lv_at hl 3 rfl) ?_
  refine lv_iconst (v := (4 : Int32)) hx hb dX8_chain_75 (by decide) ?_
  refine lv_icmp_ge (tgt := 190) hx hb dX8_chain_76 (by decide) (fun hc => ?_) (fun hc => ?_)
  · have h := fo_it h hc
    refine lv_iinc (v := (v3 + (1 : Int32))) (lv' := [(3, .int (v3 + (1 : Int32))), (0, .ref (a 0)), (2, .int v2), (4, .int v4)]) hx hb dX8_chain_190 hl (k := 2) rfl rfl (by decide) rfl (fun ls hl => ?_)
    refine lv_goto (tgt := 65) hx hb dX8_chain_193 (by decide) ?_
    exact hrec65 h hG (lv_sub hl [1, 2, 0] rfl)
  · have h := fo_if h hc
    refine lv_iconst (v := (0 : Int32)) hx hb dX8_chain_79 (by decide) ?_
    refine lv_istore (lv' := [(5, .int (0 : Int32)), (0, .ref (a 0)), (2, .int v2), (3, .int v3), (4, .int v4)]) hx hb dX8_chain_80 hl (by decide) rfl (fun ls hl => ?_)
    exact w8_chain_L82 C hK hA (fun h => hrec65 h) (fun h => hrec73 h) fo_fu h hG (lv_sub hl [1, 2, 3, 4, 0] rfl)
set_option maxRecDepth 100000 in
set_option maxHeartbeats 4000000 in
theorem w8_chain_L73 (C : cx_M p s m args meth c RX8 cX8_chain (some .int) 7) (hK : va_K (dC, dI) vwCl [(cI, .int)] s) (hA : ∀ q, s.heap.size ≤ q → A q) {a : Nat → Nat} {q : (Int32 × ms_T)} {rec65 : Int32 → Int32 → ms_T → Option (Int32 × ms_T)} (hrec65 : ∀ {v2 : Int32} {v3 : Int32} {S : ms_T} , rec65 v2 v3 S = some q → ∀ {H : Heap} {locs : List Loc} {ls : Array Slot}, gd_W (dC, dI) A s (wd_M cI a S) H locs → lv_has ls 7 [(0, .ref (a 0)), (2, .int v2), (3, .int v3)] → W p l e RM8_chain s m args below meth c H locs 0 0 (MQ below (qi_W (dC, dI) [(cI, .int)] A q.1 (wd_M cI a q.2)) args s 0 0 A) (F0 m 65 ls [])) : ∀ (n : Nat) {v2 : Int32} {v3 : Int32} {v4 : Int32} {S : ms_T}, f8_chain_L73 rec65 n v2 v3 v4 S = some q → ∀ {H : Heap} {locs : List Loc} {ls : Array Slot}, gd_W (dC, dI) A s (wd_M cI a S) H locs → lv_has ls 7 [(0, .ref (a 0)), (2, .int v2), (3, .int v3), (4, .int v4)] → W p l e RM8_chain s m args below meth c H locs 0 0 (MQ below (qi_W (dC, dI) [(cI, .int)] A q.1 (wd_M cI a q.2)) args s 0 0 A) (F0 m 73 ls []) := by
  intro n
  induction n with
  | zero => intro _ _ _ _ h; exact nomatch h
  | succ n ih => intro v2 v3 v4 S h H locs ls hG hl; exact w8_chain_b73 C hK hA (fun h => hrec65 h) (fun h => ih h) (show f8_chain_b73 rec65 (f8_chain_L73 rec65 n) v2 v3 v4 S = some q from h) hG hl
set_option maxRecDepth 100000 in
set_option maxHeartbeats 4000000 in
theorem w8_chain_b65 (C : cx_M p s m args meth c RX8 cX8_chain (some .int) 7) (hK : va_K (dC, dI) vwCl [(cI, .int)] s) (hA : ∀ q, s.heap.size ≤ q → A q) {a : Nat → Nat} {q : (Int32 × ms_T)} {rec65 : Int32 → Int32 → ms_T → Option (Int32 × ms_T)} (hrec65 : ∀ {v2 : Int32} {v3 : Int32} {S : ms_T} , rec65 v2 v3 S = some q → ∀ {H : Heap} {locs : List Loc} {ls : Array Slot}, gd_W (dC, dI) A s (wd_M cI a S) H locs → lv_has ls 7 [(0, .ref (a 0)), (2, .int v2), (3, .int v3)] → W p l e RM8_chain s m args below meth c H locs 0 0 (MQ below (qi_W (dC, dI) [(cI, .int)] A q.1 (wd_M cI a q.2)) args s 0 0 A) (F0 m 65 ls [])) {v2 : Int32} {v3 : Int32} {S : ms_T} (h : f8_chain_b65 rec65 v2 v3 S = some q) {H : Heap} {locs : List Loc} {ls : Array Slot} (hG : gd_W (dC, dI) A s (wd_M cI a S) H locs) (hl : lv_has ls 7 [(0, .ref (a 0)), (2, .int v2), (3, .int v3)]) : W p l e RM8_chain s m args below meth c H locs 0 0 (MQ below (qi_W (dC, dI) [(cI, .int)] A q.1 (wd_M cI a q.2)) args s 0 0 A) (F0 m 65 ls []) := by
  unfold f8_chain_b65 at h
  obtain ⟨hx, hb, hr, hts, hown, hlocks, hml⟩ := id C
  refine lv_iload_n hx hb dX8_chain_65 rfl (lv_at hl 2 rfl) ?_
  refine lv_iconst (v := (4 : Int32)) hx hb dX8_chain_66 (by decide) ?_
  refine lv_icmp_ge (tgt := 196) hx hb dX8_chain_67 (by decide) (fun hc => ?_) (fun hc => ?_)
  · have h := fo_it h hc
    refine lv_aload_n hx hb dX8_chain_196 rfl (lv_at hl 0 rfl) ?_
    refine va_get (D := (dC, dI)) (ci := 7) (v := .ref (a 8)) (C := RX8) (T := TX8) (N := 17) hx hb hts inlX8 hown hK hG.1 0 rfl rfl 13 (by decide) (hts (Cond.fieldLink RX8 31 "DiceRoadsModel" "by" "[I") wq_650) (fun _ h9 => h9) rfl dX8_chain_197 ?_
    refine lv_iload_n hx hb dX8_chain_200 rfl (lv_at hl 1 rfl) ?_
    obtain ⟨hi, h⟩ := fo_ck_some h
    refine va_iald hx hb hK hG.1 8 0 rfl rfl hi dX8_chain_201 ?_
    obtain rfl := Option.some.inj h
    exact gr_i hx hb hr hlocks hK hG rfl dX8_chain_202
  · have h := fo_if h hc
    refine lv_iconst (v := (0 : Int32)) hx hb dX8_chain_70 (by decide) ?_
    refine lv_istore (lv' := [(4, .int (0 : Int32)), (0, .ref (a 0)), (2, .int v2), (3, .int v3)]) hx hb dX8_chain_71 hl (by decide) rfl (fun ls hl => ?_)
    exact w8_chain_L73 C hK hA (fun h => hrec65 h) fo_fu h hG (lv_sub hl [1, 2, 3, 0] rfl)
set_option maxRecDepth 100000 in
set_option maxHeartbeats 4000000 in
theorem w8_chain_L65 (C : cx_M p s m args meth c RX8 cX8_chain (some .int) 7) (hK : va_K (dC, dI) vwCl [(cI, .int)] s) (hA : ∀ q, s.heap.size ≤ q → A q) {a : Nat → Nat} {q : (Int32 × ms_T)} : ∀ (n : Nat) {v2 : Int32} {v3 : Int32} {S : ms_T}, f8_chain_L65 n v2 v3 S = some q → ∀ {H : Heap} {locs : List Loc} {ls : Array Slot}, gd_W (dC, dI) A s (wd_M cI a S) H locs → lv_has ls 7 [(0, .ref (a 0)), (2, .int v2), (3, .int v3)] → W p l e RM8_chain s m args below meth c H locs 0 0 (MQ below (qi_W (dC, dI) [(cI, .int)] A q.1 (wd_M cI a q.2)) args s 0 0 A) (F0 m 65 ls []) := by
  intro n
  induction n with
  | zero => intro _ _ _ h; exact nomatch h
  | succ n ih => intro v2 v3 S h H locs ls hG hl; exact w8_chain_b65 C hK hA (fun h => ih h) (show f8_chain_b65 (f8_chain_L65 n) v2 v3 S = some q from h) hG hl
set_option maxRecDepth 100000 in
set_option maxHeartbeats 4000000 in
theorem w8_chain_b56 (C : cx_M p s m args meth c RX8 cX8_chain (some .int) 7) (hK : va_K (dC, dI) vwCl [(cI, .int)] s) (hA : ∀ q, s.heap.size ≤ q → A q) {a : Nat → Nat} {q : (Int32 × ms_T)} {rec20 : Int32 → Int32 → Int32 → ms_T → Option (Int32 × ms_T)} (hrec20 : ∀ {v1 : Int32} {v2 : Int32} {v3 : Int32} {S : ms_T} , rec20 v1 v2 v3 S = some q → ∀ {H : Heap} {locs : List Loc} {ls : Array Slot}, gd_W (dC, dI) A s (wd_M cI a S) H locs → lv_has ls 7 [(0, .ref (a 0)), (1, .int v1), (2, .int v2), (3, .int v3)] → W p l e RM8_chain s m args below meth c H locs 0 0 (MQ below (qi_W (dC, dI) [(cI, .int)] A q.1 (wd_M cI a q.2)) args s 0 0 A) (F0 m 20 ls [])) {v1 : Int32} {v2 : Int32} {v3 : Int32} {t1 : Int32} {t2 : Int32} {S : ms_T} (h : f8_chain_b56 rec20 v1 v2 v3 t1 t2 S = some q) {H : Heap} {locs : List Loc} {ls : Array Slot} (hG : gd_W (dC, dI) A s (wd_M cI a S) H locs) (hl : lv_has ls 7 [(0, .ref (a 0)), (1, .int v1), (2, .int v2), (3, .int v3)]) : W p l e RM8_chain s m args below meth c H locs 0 0 (MQ below (qi_W (dC, dI) [(cI, .int)] A q.1 (wd_M cI a q.2)) args s 0 0 A) (F0 m 56 ls [.int t2, .int t1, .ref (a 8)]) := by
  unfold f8_chain_b56 at h
  obtain ⟨hx, hb, hr, hts, hown, hlocks, hml⟩ := id C
  obtain ⟨hi, h⟩ := fo_ck_some h
  refine va_iast hx hb hK hG.1 hG.2.1 hG.2.2 8 0 rfl rfl hi dX8_chain_56 (fun H locs hP9 hD9 hS9 => ?_)
  have hG : gd_W (dC, dI) A s (wd_M cI a (ms_set S 7 (upd (S 7) t1.toNatClampNeg t2))) H locs := ⟨hP9, hD9, hS9⟩
  refine lv_iinc (v := (v3 + (1 : Int32))) (lv' := [(3, .int (v3 + (1 : Int32))), (0, .ref (a 0)), (1, .int v1), (2, .int v2)]) hx hb dX8_chain_57 hl (k := 3) rfl rfl (by decide) rfl (fun ls hl => ?_)
  refine lv_goto (tgt := 20) hx hb dX8_chain_60 (by decide) ?_
  exact hrec20 h hG (lv_sub hl [1, 2, 3, 0] rfl)
set_option maxRecDepth 100000 in
set_option maxHeartbeats 4000000 in
theorem w8_chain_b54 (C : cx_M p s m args meth c RX8 cX8_chain (some .int) 7) (hK : va_K (dC, dI) vwCl [(cI, .int)] s) (hA : ∀ q, s.heap.size ≤ q → A q) {a : Nat → Nat} {q : (Int32 × ms_T)} {rec20 : Int32 → Int32 → Int32 → ms_T → Option (Int32 × ms_T)} (hrec20 : ∀ {v1 : Int32} {v2 : Int32} {v3 : Int32} {S : ms_T} , rec20 v1 v2 v3 S = some q → ∀ {H : Heap} {locs : List Loc} {ls : Array Slot}, gd_W (dC, dI) A s (wd_M cI a S) H locs → lv_has ls 7 [(0, .ref (a 0)), (1, .int v1), (2, .int v2), (3, .int v3)] → W p l e RM8_chain s m args below meth c H locs 0 0 (MQ below (qi_W (dC, dI) [(cI, .int)] A q.1 (wd_M cI a q.2)) args s 0 0 A) (F0 m 20 ls [])) {v1 : Int32} {v2 : Int32} {v3 : Int32} {t1 : Int32} {S : ms_T} (h : f8_chain_b54 rec20 v1 v2 v3 t1 S = some q) {H : Heap} {locs : List Loc} {ls : Array Slot} (hG : gd_W (dC, dI) A s (wd_M cI a S) H locs) (hl : lv_has ls 7 [(0, .ref (a 0)), (1, .int v1), (2, .int v2), (3, .int v3)]) : W p l e RM8_chain s m args below meth c H locs 0 0 (MQ below (qi_W (dC, dI) [(cI, .int)] A q.1 (wd_M cI a q.2)) args s 0 0 A) (F0 m 54 ls [.int t1, .ref (a 8)]) := by
  unfold f8_chain_b54 at h
  obtain ⟨hx, hb, hr, hts, hown, hlocks, hml⟩ := id C
  refine lv_bipush (v := (-6 : Int32)) hx hb dX8_chain_54 (by decide) ?_
  exact w8_chain_b56 C hK hA (fun h => hrec20 h) h hG (lv_sub hl [0, 1, 2, 3] rfl)
set_option maxRecDepth 100000 in
set_option maxHeartbeats 4000000 in
theorem w8_chain_b20 (C : cx_M p s m args meth c RX8 cX8_chain (some .int) 7) (hK : va_K (dC, dI) vwCl [(cI, .int)] s) (hA : ∀ q, s.heap.size ≤ q → A q) {a : Nat → Nat} {q : (Int32 × ms_T)} {rec20 : Int32 → Int32 → Int32 → ms_T → Option (Int32 × ms_T)} (hrec20 : ∀ {v1 : Int32} {v2 : Int32} {v3 : Int32} {S : ms_T} , rec20 v1 v2 v3 S = some q → ∀ {H : Heap} {locs : List Loc} {ls : Array Slot}, gd_W (dC, dI) A s (wd_M cI a S) H locs → lv_has ls 7 [(0, .ref (a 0)), (1, .int v1), (2, .int v2), (3, .int v3)] → W p l e RM8_chain s m args below meth c H locs 0 0 (MQ below (qi_W (dC, dI) [(cI, .int)] A q.1 (wd_M cI a q.2)) args s 0 0 A) (F0 m 20 ls [])) {v1 : Int32} {v2 : Int32} {v3 : Int32} {S : ms_T} (h : f8_chain_b20 rec20 v1 v2 v3 S = some q) {H : Heap} {locs : List Loc} {ls : Array Slot} (hG : gd_W (dC, dI) A s (wd_M cI a S) H locs) (hl : lv_has ls 7 [(0, .ref (a 0)), (1, .int v1), (2, .int v2), (3, .int v3)]) : W p l e RM8_chain s m args below meth c H locs 0 0 (MQ below (qi_W (dC, dI) [(cI, .int)] A q.1 (wd_M cI a q.2)) args s 0 0 A) (F0 m 20 ls []) := by
  unfold f8_chain_b20 at h
  obtain ⟨hx, hb, hr, hts, hown, hlocks, hml⟩ := id C
  refine lv_iload_n hx hb dX8_chain_20 rfl (lv_at hl 3 rfl) ?_
  refine lv_iconst (v := (4 : Int32)) hx hb dX8_chain_21 (by decide) ?_
  refine lv_icmp_ge (tgt := 63) hx hb dX8_chain_22 (by decide) (fun hc => ?_) (fun hc => ?_)
  · have h := fo_it h hc
    refine lv_iconst (v := (0 : Int32)) hx hb dX8_chain_63 (by decide) ?_
    refine lv_istore_n (lv' := [(3, .int (0 : Int32)), (0, .ref (a 0)), (1, .int v1), (2, .int v2)]) hx hb dX8_chain_64 rfl hl (by decide) rfl (fun ls hl => ?_)
    exact w8_chain_L65 C hK hA fo_fu h hG (lv_sub hl [1, 3, 0] rfl)
  · have h := fo_if h hc
    refine lv_aload_n hx hb dX8_chain_25 rfl (lv_at hl 0 rfl) ?_
    refine va_get (D := (dC, dI)) (ci := 7) (v := .ref (a 8)) (C := RX8) (T := TX8) (N := 17) hx hb hts inlX8 hown hK hG.1 0 rfl rfl 13 (by decide) (hts (Cond.fieldLink RX8 31 "DiceRoadsModel" "by" "[I") wq_650) (fun _ h9 => h9) rfl dX8_chain_26 ?_
    refine lv_iload_n hx hb dX8_chain_29 rfl (lv_at hl 3 rfl) ?_
    refine lv_iload_n hx hb dX8_chain_30 rfl (lv_at hl 3 rfl) ?_
    refine lv_aload_n hx hb dX8_chain_31 rfl (lv_at hl 0 rfl) ?_
    refine va_get (D := (dC, dI)) (ci := 7) (v := .ref (a 1)) (C := RX8) (T := TX8) (N := 17) hx hb hts inlX8 hown hK hG.1 0 rfl rfl 0 (by decide) (hts (Cond.fieldLink RX8 7 "DiceRoadsModel" "state" "[I") wq_637) (fun _ h9 => h9) rfl dX8_chain_32 ?_
    refine lv_bipush (v := (6 : Int32)) hx hb dX8_chain_35 (by decide) ?_
    obtain ⟨hi, h⟩ := fo_ck_some h
    refine va_iald hx hb hK hG.1 1 0 rfl rfl hi dX8_chain_37 ?_
    refine lv_icmp_ge (tgt := 54) hx hb dX8_chain_38 (by decide) (fun hc => ?_) (fun hc => ?_)
    · have h := fo_it h hc
      exact w8_chain_b54 C hK hA (fun h => hrec20 h) h hG (lv_sub hl [0, 1, 2, 3] rfl)
    · have h := fo_if h hc
      refine lv_aload_n hx hb dX8_chain_41 rfl (lv_at hl 0 rfl) ?_
      refine lv_iload_n hx hb dX8_chain_42 rfl (lv_at hl 1 rfl) ?_
      refine lv_iload_n hx hb dX8_chain_43 rfl (lv_at hl 3 rfl) ?_
      obtain ⟨q44, hq44, h⟩ := fo_bd_some h
      refine gc_iV (b := a 0) (C := RX8) (As := [.int v1, .int v3]) (rest := [.int v3, .ref (a 8)]) (wc := (wd_M0 cI a (S 8) (S 0))) (w1 := (wd_M0 cI a (S 8) (S 0))) (ci := 7) (q0 := 0) ⟨hx, hb, hml, hown, hts⟩ (c8_debtOf l (a := a) (X := (S 8)) hq44) (cwV 2 hts gv_X8_46 rfl rfl rfl hd8_debtOf ⟨Nat.le_of_ble_eq_true rfl, Nat.le_of_ble_eq_true rfl⟩) hK [0] rfl hA hG [0, 1] rfl rfl rfl rfl rfl rfl hl.1 rfl (Nat.le_of_ble_eq_true rfl) dX8_chain_44 ⟨Nat.zero_le _, Nat.zero_le _⟩ (fun H locs hG9 => ?_)
      have hG : gd_W (dC, dI) A s (wd_M cI a S) H locs := hG9
      refine lv_if_le (tgt := 54) hx hb dX8_chain_47 (by decide) (fun hc => ?_) (fun hc => ?_)
      · have h := fo_it h hc
        exact w8_chain_b54 C hK hA (fun h => hrec20 h) h hG (lv_sub hl [0, 1, 2, 3] rfl)
      · have h := fo_if h hc
        refine lv_iconst (v := (1 : Int32)) hx hb dX8_chain_50 (by decide) ?_
        refine lv_goto (tgt := 56) hx hb dX8_chain_51 (by decide) ?_
        exact w8_chain_b56 C hK hA (fun h => hrec20 h) h hG (lv_sub hl [0, 1, 2, 3] rfl)
set_option maxRecDepth 100000 in
set_option maxHeartbeats 4000000 in
theorem w8_chain_L20 (C : cx_M p s m args meth c RX8 cX8_chain (some .int) 7) (hK : va_K (dC, dI) vwCl [(cI, .int)] s) (hA : ∀ q, s.heap.size ≤ q → A q) {a : Nat → Nat} {q : (Int32 × ms_T)} : ∀ (n : Nat) {v1 : Int32} {v2 : Int32} {v3 : Int32} {S : ms_T}, f8_chain_L20 n v1 v2 v3 S = some q → ∀ {H : Heap} {locs : List Loc} {ls : Array Slot}, gd_W (dC, dI) A s (wd_M cI a S) H locs → lv_has ls 7 [(0, .ref (a 0)), (1, .int v1), (2, .int v2), (3, .int v3)] → W p l e RM8_chain s m args below meth c H locs 0 0 (MQ below (qi_W (dC, dI) [(cI, .int)] A q.1 (wd_M cI a q.2)) args s 0 0 A) (F0 m 20 ls []) := by
  intro n
  induction n with
  | zero => intro _ _ _ _ h; exact nomatch h
  | succ n ih => intro v1 v2 v3 S h H locs ls hG hl; exact w8_chain_b20 C hK hA (fun h => ih h) (show f8_chain_b20 (f8_chain_L20 n) v1 v2 v3 S = some q from h) hG hl
set_option maxRecDepth 100000 in
set_option maxHeartbeats 4000000 in
theorem w8_chain (C : cx_M p s m args meth c RX8 cX8_chain (some .int) 7) (hK : va_K (dC, dI) vwCl [(cI, .int)] s) (hA : ∀ q, s.heap.size ≤ q → A q) {a : Nat → Nat} {q : (Int32 × ms_T)} {v1 : Int32} {v2 : Int32} {S : ms_T} (h : f8_chain v1 v2 S = some q) {H : Heap} {locs : List Loc} {ls : Array Slot} (hG : gd_W (dC, dI) A s (wd_M cI a S) H locs) (hl : lv_has ls 7 [(0, .ref (a 0)), (1, .int v1), (2, .int v2)]) : W p l e RM8_chain s m args below meth c H locs 0 0 (MQ below (qi_W (dC, dI) [(cI, .int)] A q.1 (wd_M cI a q.2)) args s 0 0 A) (F0 m 0 ls []) := by
  unfold f8_chain at h
  obtain ⟨hx, hb, hr, hts, hown, hlocks, hml⟩ := id C
  refine lv_aload_n hx hb dX8_chain_0 rfl (lv_at hl 0 rfl) ?_
  refine lv_iload_n hx hb dX8_chain_1 rfl (lv_at hl 1 rfl) ?_
  obtain ⟨q2, hq2, h⟩ := fo_bd_some h
  refine gc_iV (b := a 0) (C := RX8) (As := [.int v1]) (rest := []) (wc := (wd_M0 cI a (S 8) (S 0))) (w1 := (wd_M0 cI a (S 8) (S 0))) (ci := 7) (q0 := 0) ⟨hx, hb, hml, hown, hts⟩ (c8_isPlayer l (a := a) (X := (S 8)) hq2) (cwV 1 hts gv_X8_156 rfl rfl rfl hd8_isPlayer ⟨Nat.le_of_ble_eq_true rfl, Nat.le_of_ble_eq_true rfl⟩) hK [0] rfl hA hG [0, 1] rfl rfl rfl rfl rfl rfl hl.1 rfl (Nat.le_of_ble_eq_true rfl) dX8_chain_2 ⟨Nat.zero_le _, Nat.zero_le _⟩ (fun H locs hG9 => ?_)
  have hG : gd_W (dC, dI) A s (wd_M cI a S) H locs := hG9
  refine lv_if_eq (tgt := 16) hx hb dX8_chain_5 (by decide) (fun hc => ?_) (fun hc => ?_)
  · have h := fo_it h hc
    refine lv_iconst (v := (-1 : Int32)) hx hb dX8_chain_16 (by decide) ?_
    obtain rfl := Option.some.inj h
    exact gr_i hx hb hr hlocks hK hG rfl dX8_chain_17
  · have h := fo_if h hc
    refine lv_aload_n hx hb dX8_chain_8 rfl (lv_at hl 0 rfl) ?_
    refine lv_iload_n hx hb dX8_chain_9 rfl (lv_at hl 2 rfl) ?_
    obtain ⟨q10, hq10, h⟩ := fo_bd_some h
    refine gc_iV (b := a 0) (C := RX8) (As := [.int v2]) (rest := []) (wc := (wd_M0 cI a (S 8) (S 0))) (w1 := (wd_M0 cI a (S 8) (S 0))) (ci := 7) (q0 := 0) ⟨hx, hb, hml, hown, hts⟩ (c8_isPlayer l (a := a) (X := (S 8)) hq10) (cwV 1 hts gv_X8_156 rfl rfl rfl hd8_isPlayer ⟨Nat.le_of_ble_eq_true rfl, Nat.le_of_ble_eq_true rfl⟩) hK [0] rfl hA hG [0, 1] rfl rfl rfl rfl rfl rfl hl.1 rfl (Nat.le_of_ble_eq_true rfl) dX8_chain_10 ⟨Nat.zero_le _, Nat.zero_le _⟩ (fun H locs hG9 => ?_)
    have hG : gd_W (dC, dI) A s (wd_M cI a S) H locs := hG9
    refine lv_if_ne (tgt := 18) hx hb dX8_chain_13 (by decide) (fun hc => ?_) (fun hc => ?_)
    · have h := fo_if h hc
      refine lv_iconst (v := (0 : Int32)) hx hb dX8_chain_18 (by decide) ?_
      refine lv_istore_n (lv' := [(3, .int (0 : Int32)), (0, .ref (a 0)), (1, .int v1), (2, .int v2)]) hx hb dX8_chain_19 rfl hl (by decide) rfl (fun ls hl => ?_)
      exact w8_chain_L20 C hK hA fo_fu h hG (lv_sub hl [1, 2, 3, 0] rfl)
    · have h := fo_it h hc
      refine lv_iconst (v := (-1 : Int32)) hx hb dX8_chain_16 (by decide) ?_
      obtain rfl := Option.some.inj h
      exact gr_i hx hb hr hlocks hK hG rfl dX8_chain_17
set_option maxRecDepth 100000 in
set_option maxHeartbeats 4000000 in
theorem c8_chain (l : Launch) {dC : Nat → ClassId} {dI : Nat → Nat → Nat} {cI : ClassId} {a : Nat → Nat} {v1 : Int32} {v2 : Int32} {S : ms_T} {q : (Int32 × ms_T)} (h : f8_chain v1 v2 S = some q) : mi_M l yX8_chain wm8_chain RM8_chain (dC, dI) [(cI, .int)] [.ref (a 0), .int v1, .int v2] (wd_M cI a S) q.1 (wd_M cI a q.2) := by
  intro sz
  refine Met.ofW (cc := cX8_chain) (maxL := 7) (ret := (some .int)) (by decide) rfl ?_
  intro p e s m args below meth c s₁ B hml hv
  obtain ⟨rfl, hsz, hP, hK, hD0⟩ := hv
  subst hsz
  have hl := lv_entry ([.ref (a 0), .int v1, .int v2] : List Value) (n := 7) (Nat.le_of_ble_eq_true rfl)
  rw [lg_entry_eq]
  generalize (lg_sl ([.ref (a 0), .int v1, .int v2] : List Value) ++ List.replicate (7 - (lg_sl ([.ref (a 0), .int v1, .int v2] : List Value)).length) Slot.unset).toArray = ls at hl ⊢
  exact w8_chain (a := a) ⟨B.exec, B.bytes, B.returns, fun w hw => atoms_spec (ws := wm8_chain) B.pre w (List.mem_cons_of_mem _ hw), findClass_of_methodNamed B.named, B.notSynchronized, hml⟩ hK (fun _ h => Or.inr h) h ⟨hP, hD0.self, va_S.rf⟩ hl
end
/-! ## DiceRoadsModel.emptyIn(I)I -/
section
variable {p : Program} {l : Launch} {e : Env} {s : State} {m : MethodId} {args : Array Value} {below : List Frame} {meth : Method} {c : Code} {dC : Nat → ClassId} {dI : Nat → Nat → Nat} {cI : ClassId} {A : Nat → Prop}
set_option maxRecDepth 100000 in
set_option maxHeartbeats 4000000 in
theorem w8_emptyIn_b66 (C : cx_M p s m args meth c RX8 cX8_emptyIn (some .int) 4) (hK : va_K (dC, dI) vwCl [(cI, .int)] s) (hA : ∀ q, s.heap.size ≤ q → A q) {a : Nat → Nat} {q : (Int32 × ms_T)} {t0 : Int32} {S : ms_T} (h : f8_emptyIn_b66 t0 S = some q) {H : Heap} {locs : List Loc} {ls : Array Slot} (hG : gd_W (dC, dI) A s (wd_M cI a S) H locs) (hl : lv_has ls 4 [(0, .ref (a 0))]) : W p l e RM8_emptyIn s m args below meth c H locs 0 0 (MQ below (qi_W (dC, dI) [(cI, .int)] A q.1 (wd_M cI a q.2)) args s 0 0 A) (F0 m 66 ls [.int t0]) := by
  unfold f8_emptyIn_b66 at h
  obtain ⟨hx, hb, hr, hts, hown, hlocks, hml⟩ := id C
  refine lv_istore_n (lv' := [(3, .int t0), (0, .ref (a 0))]) hx hb dX8_emptyIn_66 rfl hl (by decide) rfl (fun ls hl => ?_)
  refine lv_aload_n hx hb dX8_emptyIn_67 rfl (lv_at hl 1 rfl) ?_
  refine va_get (D := (dC, dI)) (ci := 7) (v := .ref (a 2)) (C := RX8) (T := TX8) (N := 17) hx hb hts inlX8 hown hK hG.1 0 rfl rfl 1 (by decide) (hts (Cond.fieldLink RX8 13 "DiceRoadsModel" "kept" "[I") wq_638) (fun _ h9 => h9) rfl dX8_emptyIn_68 ?_
  refine lv_iconst (v := (0 : Int32)) hx hb dX8_emptyIn_71 (by decide) ?_
  refine lv_aload_n hx hb dX8_emptyIn_72 rfl (lv_at hl 1 rfl) ?_
  refine va_get (D := (dC, dI)) (ci := 7) (v := .ref (a 1)) (C := RX8) (T := TX8) (N := 17) hx hb hts inlX8 hown hK hG.1 0 rfl rfl 0 (by decide) (hts (Cond.fieldLink RX8 7 "DiceRoadsModel" "state" "[I") wq_637) (fun _ h9 => h9) rfl dX8_emptyIn_73 ?_
  refine lv_iconst (v := (0 : Int32)) hx hb dX8_emptyIn_76 (by decide) ?_
  obtain ⟨q77, hq77, h⟩ := fo_bd_some h
  refine gc_vS (As := [.ref (a 2), .int (0 : Int32), .ref (a 1), .int (0 : Int32)]) (rest := []) (wc := (wd_MV cI (fun k => match k with | 0 => a 2 | _ => a 1) 107 107 (S 1) (S 0))) (w1 := (wd_MV cI (fun k => match k with | 0 => a 2 | _ => a 1) 107 107 (S 1) q77)) ⟨hx, hb, hml, hown, hts⟩ (c8_moves l (a := (fun k => match k with | 0 => a 2 | _ => a 1)) (z := 107) (g := 107) (F := (S 1)) hq77) (va_cwS 4 hts gv_X8_38 rfl rfl rfl hd8_moves ⟨Nat.le_of_ble_eq_true rfl, Nat.le_of_ble_eq_true rfl⟩) hK [0] rfl hA hG [2, 1] rfl rfl rfl rfl hl.1 rfl (Nat.le_of_ble_eq_true rfl) dX8_emptyIn_77 ⟨Nat.zero_le _, Nat.zero_le _⟩ (fun H locs hG9 => ?_)
  have hG : gd_W (dC, dI) A s (wd_M cI a (ms_set S 0 q77)) H locs := hG9
  refine lv_iload_n hx hb dX8_emptyIn_80 rfl (lv_at hl 0 rfl) ?_
  obtain rfl := Option.some.inj h
  exact gr_i hx hb hr hlocks hK hG rfl dX8_emptyIn_81
set_option maxRecDepth 100000 in
set_option maxHeartbeats 4000000 in
theorem w8_emptyIn_b51 (C : cx_M p s m args meth c RX8 cX8_emptyIn (some .int) 4) (hK : va_K (dC, dI) vwCl [(cI, .int)] s) (hA : ∀ q, s.heap.size ≤ q → A q) {a : Nat → Nat} {q : (Int32 × ms_T)} {v1 : Int32} {v2 : Int32} {S : ms_T} (h : f8_emptyIn_b51 v1 v2 S = some q) {H : Heap} {locs : List Loc} {ls : Array Slot} (hG : gd_W (dC, dI) A s (wd_M cI a S) H locs) (hl : lv_has ls 4 [(0, .ref (a 0)), (1, .int v1), (2, .int v2)]) : W p l e RM8_emptyIn s m args below meth c H locs 0 0 (MQ below (qi_W (dC, dI) [(cI, .int)] A q.1 (wd_M cI a q.2)) args s 0 0 A) (F0 m 51 ls []) := by
  unfold f8_emptyIn_b51 at h
  obtain ⟨hx, hb, hr, hts, hown, hlocks, hml⟩ := id C
  refine lv_aload_n hx hb dX8_emptyIn_51 rfl (lv_at hl 0 rfl) ?_
  refine lv_iload_n hx hb dX8_emptyIn_52 rfl (lv_at hl 1 rfl) ?_
  refine lv_iconst (v := (0 : Int32)) hx hb dX8_emptyIn_53 (by decide) ?_
  obtain ⟨q54, hq54, h⟩ := fo_bd_some h
  refine gc_iV (b := a 0) (C := RX8) (As := [.int v1, .int (0 : Int32)]) (rest := []) (wc := (wd_M0 cI a (S 8) (S 0))) (w1 := (wd_M0 cI a (S 8) (S 0))) (ci := 7) (q0 := 0) ⟨hx, hb, hml, hown, hts⟩ (c8_playerPart l (a := a) (X := (S 8)) hq54) (cwV 2 hts gv_X8_54 rfl rfl rfl hd8_playerPart ⟨Nat.le_of_ble_eq_true rfl, Nat.le_of_ble_eq_true rfl⟩) hK [0] rfl hA hG [0, 1] rfl rfl rfl rfl rfl rfl hl.1 rfl (Nat.le_of_ble_eq_true rfl) dX8_emptyIn_54 ⟨Nat.zero_le _, Nat.zero_le _⟩ (fun H locs hG9 => ?_)
  have hG : gd_W (dC, dI) A s (wd_M cI a S) H locs := hG9
  refine lv_if_ne (tgt := 64) hx hb dX8_emptyIn_57 (by decide) (fun hc => ?_) (fun hc => ?_)
  · have h := fo_if h hc
    refine lv_bipush (v := (-6 : Int32)) hx hb dX8_emptyIn_64 (by decide) ?_
    exact w8_emptyIn_b66 C hK hA h hG (lv_sub hl [0] rfl)
  · have h := fo_it h hc
    refine lv_iload_n hx hb dX8_emptyIn_60 rfl (lv_at hl 2 rfl) ?_
    refine lv_goto (tgt := 66) hx hb dX8_emptyIn_61 (by decide) ?_
    exact w8_emptyIn_b66 C hK hA h hG (lv_sub hl [0] rfl)
set_option maxRecDepth 100000 in
set_option maxHeartbeats 4000000 in
theorem w8_emptyIn_b25 (C : cx_M p s m args meth c RX8 cX8_emptyIn (some .int) 4) (hK : va_K (dC, dI) vwCl [(cI, .int)] s) (hA : ∀ q, s.heap.size ≤ q → A q) {a : Nat → Nat} {q : (Int32 × ms_T)} {rec25 : Int32 → Int32 → ms_T → Option (Int32 × ms_T)} (hrec25 : ∀ {v1 : Int32} {v2 : Int32} {S : ms_T} , rec25 v1 v2 S = some q → ∀ {H : Heap} {locs : List Loc} {ls : Array Slot}, gd_W (dC, dI) A s (wd_M cI a S) H locs → lv_has ls 4 [(0, .ref (a 0)), (1, .int v1), (2, .int v2)] → W p l e RM8_emptyIn s m args below meth c H locs 0 0 (MQ below (qi_W (dC, dI) [(cI, .int)] A q.1 (wd_M cI a q.2)) args s 0 0 A) (F0 m 25 ls [])) {v1 : Int32} {v2 : Int32} {S : ms_T} (h : f8_emptyIn_b25 rec25 v1 v2 S = some q) {H : Heap} {locs : List Loc} {ls : Array Slot} (hG : gd_W (dC, dI) A s (wd_M cI a S) H locs) (hl : lv_has ls 4 [(0, .ref (a 0)), (1, .int v1), (2, .int v2)]) : W p l e RM8_emptyIn s m args below meth c H locs 0 0 (MQ below (qi_W (dC, dI) [(cI, .int)] A q.1 (wd_M cI a q.2)) args s 0 0 A) (F0 m 25 ls []) := by
  unfold f8_emptyIn_b25 at h
  obtain ⟨hx, hb, hr, hts, hown, hlocks, hml⟩ := id C
  refine lv_aload_n hx hb dX8_emptyIn_25 rfl (lv_at hl 0 rfl) ?_
  refine lv_iload_n hx hb dX8_emptyIn_26 rfl (lv_at hl 1 rfl) ?_
  refine lv_iconst (v := (0 : Int32)) hx hb dX8_emptyIn_27 (by decide) ?_
  obtain ⟨q28, hq28, h⟩ := fo_bd_some h
  refine gc_iV (b := a 0) (C := RX8) (As := [.int v1, .int (0 : Int32)]) (rest := []) (wc := (wd_M0 cI a (S 8) (S 0))) (w1 := (wd_M0 cI a (S 8) (S 0))) (ci := 7) (q0 := 0) ⟨hx, hb, hml, hown, hts⟩ (c8_playerPart l (a := a) (X := (S 8)) hq28) (cwV 2 hts gv_X8_54 rfl rfl rfl hd8_playerPart ⟨Nat.le_of_ble_eq_true rfl, Nat.le_of_ble_eq_true rfl⟩) hK [0] rfl hA hG [0, 1] rfl rfl rfl rfl rfl rfl hl.1 rfl (Nat.le_of_ble_eq_true rfl) dX8_emptyIn_28 ⟨Nat.zero_le _, Nat.zero_le _⟩ (fun H locs hG9 => ?_)
  have hG : gd_W (dC, dI) A s (wd_M cI a S) H locs := hG9
  refine lv_if_le (tgt := 51) hx hb dX8_emptyIn_31 (by decide) (fun hc => ?_) (fun hc => ?_)
  · have h := fo_it h hc
    exact w8_emptyIn_b51 C hK hA h hG (lv_sub hl [0, 1, 2] rfl)
  · have h := fo_if h hc
    refine lv_iload_n hx hb dX8_emptyIn_34 rfl (lv_at hl 2 rfl) ?_
    refine lv_sipush (v := (400 : Int32)) hx hb dX8_emptyIn_35 (by decide) ?_
    refine lv_icmp_ge (tgt := 51) hx hb dX8_emptyIn_38 (by decide) (fun hc => ?_) (fun hc => ?_)
    · have h := fo_it h hc
      exact w8_emptyIn_b51 C hK hA h hG (lv_sub hl [0, 1, 2] rfl)
    · have h := fo_if h hc
      refine lv_aload_n hx hb dX8_emptyIn_41 rfl (lv_at hl 0 rfl) ?_
      obtain ⟨q42, hq42, h⟩ := fo_bd_some h
      refine gc_vV (b := a 0) (C := RX8) (As := []) (rest := []) (wc := (wd_M0 cI a (S 8) (S 0))) (w1 := (wd_M0 cI a (S 8) q42)) (ci := 7) (q0 := 0) ⟨hx, hb, hml, hown, hts⟩ (c8_turn l (a := a) (X := (S 8)) hq42) (cwV 0 hts gv_X8_122 rfl rfl rfl hd8_turn ⟨Nat.le_of_ble_eq_true rfl, Nat.le_of_ble_eq_true rfl⟩) hK [0] rfl hA hG [0, 1] rfl rfl rfl rfl rfl rfl hl.1 rfl (Nat.le_of_ble_eq_true rfl) dX8_emptyIn_42 ⟨Nat.zero_le _, Nat.zero_le _⟩ (fun H locs hG9 => ?_)
      have hG : gd_W (dC, dI) A s (wd_M cI a (ms_set S 0 q42)) H locs := hG9
      refine lv_iinc (v := (v2 + (1 : Int32))) (lv' := [(2, .int (v2 + (1 : Int32))), (0, .ref (a 0)), (1, .int v1)]) hx hb dX8_emptyIn_45 hl (k := 2) rfl rfl (by decide) rfl (fun ls hl => ?_)
      refine lv_goto (tgt := 25) hx hb dX8_emptyIn_48 (by decide) ?_
      exact hrec25 h hG (lv_sub hl [1, 2, 0] rfl)
set_option maxRecDepth 100000 in
set_option maxHeartbeats 4000000 in
theorem w8_emptyIn_L25 (C : cx_M p s m args meth c RX8 cX8_emptyIn (some .int) 4) (hK : va_K (dC, dI) vwCl [(cI, .int)] s) (hA : ∀ q, s.heap.size ≤ q → A q) {a : Nat → Nat} {q : (Int32 × ms_T)} : ∀ (n : Nat) {v1 : Int32} {v2 : Int32} {S : ms_T}, f8_emptyIn_L25 n v1 v2 S = some q → ∀ {H : Heap} {locs : List Loc} {ls : Array Slot}, gd_W (dC, dI) A s (wd_M cI a S) H locs → lv_has ls 4 [(0, .ref (a 0)), (1, .int v1), (2, .int v2)] → W p l e RM8_emptyIn s m args below meth c H locs 0 0 (MQ below (qi_W (dC, dI) [(cI, .int)] A q.1 (wd_M cI a q.2)) args s 0 0 A) (F0 m 25 ls []) := by
  intro n
  induction n with
  | zero => intro _ _ _ h; exact nomatch h
  | succ n ih => intro v1 v2 S h H locs ls hG hl; exact w8_emptyIn_b25 C hK hA (fun h => ih h) (show f8_emptyIn_b25 (f8_emptyIn_L25 n) v1 v2 S = some q from h) hG hl
set_option maxRecDepth 100000 in
set_option maxHeartbeats 4000000 in
theorem w8_emptyIn (C : cx_M p s m args meth c RX8 cX8_emptyIn (some .int) 4) (hK : va_K (dC, dI) vwCl [(cI, .int)] s) (hA : ∀ q, s.heap.size ≤ q → A q) {a : Nat → Nat} {q : (Int32 × ms_T)} {v1 : Int32} {S : ms_T} (h : f8_emptyIn v1 S = some q) {H : Heap} {locs : List Loc} {ls : Array Slot} (hG : gd_W (dC, dI) A s (wd_M cI a S) H locs) (hl : lv_has ls 4 [(0, .ref (a 0)), (1, .int v1)]) : W p l e RM8_emptyIn s m args below meth c H locs 0 0 (MQ below (qi_W (dC, dI) [(cI, .int)] A q.1 (wd_M cI a q.2)) args s 0 0 A) (F0 m 0 ls []) := by
  unfold f8_emptyIn at h
  obtain ⟨hx, hb, hr, hts, hown, hlocks, hml⟩ := id C
  refine lv_aload_n hx hb dX8_emptyIn_0 rfl (lv_at hl 0 rfl) ?_
  refine lv_iload_n hx hb dX8_emptyIn_1 rfl (lv_at hl 1 rfl) ?_
  obtain ⟨q2, hq2, h⟩ := fo_bd_some h
  refine gc_iV (b := a 0) (C := RX8) (As := [.int v1]) (rest := []) (wc := (wd_M0 cI a (S 8) (S 0))) (w1 := (wd_M0 cI a (S 8) (S 0))) (ci := 7) (q0 := 0) ⟨hx, hb, hml, hown, hts⟩ (c8_isPlayer l (a := a) (X := (S 8)) hq2) (cwV 1 hts gv_X8_156 rfl rfl rfl hd8_isPlayer ⟨Nat.le_of_ble_eq_true rfl, Nat.le_of_ble_eq_true rfl⟩) hK [0] rfl hA hG [0, 1] rfl rfl rfl rfl rfl rfl hl.1 rfl (Nat.le_of_ble_eq_true rfl) dX8_emptyIn_2 ⟨Nat.zero_le _, Nat.zero_le _⟩ (fun H locs hG9 => ?_)
  have hG : gd_W (dC, dI) A s (wd_M cI a S) H locs := hG9
  refine lv_if_ne (tgt := 10) hx hb dX8_emptyIn_5 (by decide) (fun hc => ?_) (fun hc => ?_)
  · have h := fo_if h hc
    refine lv_aload_n hx hb dX8_emptyIn_10 rfl (lv_at hl 0 rfl) ?_
    refine va_get (D := (dC, dI)) (ci := 7) (v := .ref (a 1)) (C := RX8) (T := TX8) (N := 17) hx hb hts inlX8 hown hK hG.1 0 rfl rfl 0 (by decide) (hts (Cond.fieldLink RX8 7 "DiceRoadsModel" "state" "[I") wq_637) (fun _ h9 => h9) rfl dX8_emptyIn_11 ?_
    refine lv_iconst (v := (0 : Int32)) hx hb dX8_emptyIn_14 (by decide) ?_
    refine lv_aload_n hx hb dX8_emptyIn_15 rfl (lv_at hl 0 rfl) ?_
    refine va_get (D := (dC, dI)) (ci := 7) (v := .ref (a 2)) (C := RX8) (T := TX8) (N := 17) hx hb hts inlX8 hown hK hG.1 0 rfl rfl 1 (by decide) (hts (Cond.fieldLink RX8 13 "DiceRoadsModel" "kept" "[I") wq_638) (fun _ h9 => h9) rfl dX8_emptyIn_16 ?_
    refine lv_iconst (v := (0 : Int32)) hx hb dX8_emptyIn_19 (by decide) ?_
    obtain ⟨q20, hq20, h⟩ := fo_bd_some h
    refine gc_vS (As := [.ref (a 1), .int (0 : Int32), .ref (a 2), .int (0 : Int32)]) (rest := []) (wc := (wd_MV cI (fun k => match k with | 0 => a 1 | _ => a 2) 107 107 (S 0) (S 1))) (w1 := (wd_MV cI (fun k => match k with | 0 => a 1 | _ => a 2) 107 107 (S 0) q20)) ⟨hx, hb, hml, hown, hts⟩ (c8_moves l (a := (fun k => match k with | 0 => a 1 | _ => a 2)) (z := 107) (g := 107) (F := (S 0)) hq20) (va_cwS 4 hts gv_X8_38 rfl rfl rfl hd8_moves ⟨Nat.le_of_ble_eq_true rfl, Nat.le_of_ble_eq_true rfl⟩) hK [0] rfl hA hG [1, 2] rfl rfl rfl rfl hl.1 rfl (Nat.le_of_ble_eq_true rfl) dX8_emptyIn_20 ⟨Nat.zero_le _, Nat.zero_le _⟩ (fun H locs hG9 => ?_)
    have hG : gd_W (dC, dI) A s (wd_M cI a (ms_set S 1 q20)) H locs := hG9
    refine lv_iconst (v := (0 : Int32)) hx hb dX8_emptyIn_23 (by decide) ?_
    refine lv_istore_n (lv' := [(2, .int (0 : Int32)), (0, .ref (a 0)), (1, .int v1)]) hx hb dX8_emptyIn_24 rfl hl (by decide) rfl (fun ls hl => ?_)
    exact w8_emptyIn_L25 C hK hA fo_fu h hG (lv_sub hl [1, 2, 0] rfl)
  · have h := fo_it h hc
    refine lv_iconst (v := (-1 : Int32)) hx hb dX8_emptyIn_8 (by decide) ?_
    obtain rfl := Option.some.inj h
    exact gr_i hx hb hr hlocks hK hG rfl dX8_emptyIn_9
set_option maxRecDepth 100000 in
set_option maxHeartbeats 4000000 in
theorem c8_emptyIn (l : Launch) {dC : Nat → ClassId} {dI : Nat → Nat → Nat} {cI : ClassId} {a : Nat → Nat} {v1 : Int32} {S : ms_T} {q : (Int32 × ms_T)} (h : f8_emptyIn v1 S = some q) : mi_M l yX8_emptyIn wm8_emptyIn RM8_emptyIn (dC, dI) [(cI, .int)] [.ref (a 0), .int v1] (wd_M cI a S) q.1 (wd_M cI a q.2) := by
  intro sz
  refine Met.ofW (cc := cX8_emptyIn) (maxL := 4) (ret := (some .int)) (by decide) rfl ?_
  intro p e s m args below meth c s₁ B hml hv
  obtain ⟨rfl, hsz, hP, hK, hD0⟩ := hv
  subst hsz
  have hl := lv_entry ([.ref (a 0), .int v1] : List Value) (n := 4) (Nat.le_of_ble_eq_true rfl)
  rw [lg_entry_eq]
  generalize (lg_sl ([.ref (a 0), .int v1] : List Value) ++ List.replicate (4 - (lg_sl ([.ref (a 0), .int v1] : List Value)).length) Slot.unset).toArray = ls at hl ⊢
  exact w8_emptyIn (a := a) ⟨B.exec, B.bytes, B.returns, fun w hw => atoms_spec (ws := wm8_emptyIn) B.pre w (List.mem_cons_of_mem _ hw), findClass_of_methodNamed B.named, B.notSynchronized, hml⟩ hK (fun _ h => Or.inr h) h ⟨hP, hD0.self, va_S.rf⟩ hl
end
/-! ## DiceRoadsModel.purseIn(II)I -/
section
variable {p : Program} {l : Launch} {e : Env} {s : State} {m : MethodId} {args : Array Value} {below : List Frame} {meth : Method} {c : Code} {dC : Nat → ClassId} {dI : Nat → Nat → Nat} {cI : ClassId} {A : Nat → Prop}
set_option maxRecDepth 100000 in
set_option maxHeartbeats 4000000 in
theorem w8_purseIn (C : cx_M p s m args meth c RX8 cX8_purseIn (some .int) 4) (hK : va_K (dC, dI) vwCl [(cI, .int)] s) (hA : ∀ q, s.heap.size ≤ q → A q) {a : Nat → Nat} {q : (Int32 × ms_T)} {v1 : Int32} {v2 : Int32} {S : ms_T} (h : f8_purseIn v1 v2 S = some q) {H : Heap} {locs : List Loc} {ls : Array Slot} (hG : gd_W (dC, dI) A s (wd_M cI a S) H locs) (hl : lv_has ls 4 [(0, .ref (a 0)), (1, .int v1), (2, .int v2)]) : W p l e RM8_purseIn s m args below meth c H locs 0 0 (MQ below (qi_W (dC, dI) [(cI, .int)] A q.1 (wd_M cI a q.2)) args s 0 0 A) (F0 m 0 ls []) := by
  unfold f8_purseIn at h
  obtain ⟨hx, hb, hr, hts, hown, hlocks, hml⟩ := id C
  refine lv_aload_n hx hb dX8_purseIn_0 rfl (lv_at hl 0 rfl) ?_
  refine lv_iload_n hx hb dX8_purseIn_1 rfl (lv_at hl 1 rfl) ?_
  obtain ⟨q2, hq2, h⟩ := fo_bd_some h
  refine gc_iV (b := a 0) (C := RX8) (As := [.int v1]) (rest := []) (wc := (wd_M0 cI a (S 8) (S 0))) (w1 := (wd_M0 cI a (S 8) (S 0))) (ci := 7) (q0 := 0) ⟨hx, hb, hml, hown, hts⟩ (c8_isPlayer l (a := a) (X := (S 8)) hq2) (cwV 1 hts gv_X8_156 rfl rfl rfl hd8_isPlayer ⟨Nat.le_of_ble_eq_true rfl, Nat.le_of_ble_eq_true rfl⟩) hK [0] rfl hA hG [0, 1] rfl rfl rfl rfl rfl rfl hl.1 rfl (Nat.le_of_ble_eq_true rfl) dX8_purseIn_2 ⟨Nat.zero_le _, Nat.zero_le _⟩ (fun H locs hG9 => ?_)
  have hG : gd_W (dC, dI) A s (wd_M cI a S) H locs := hG9
  refine lv_if_ne (tgt := 10) hx hb dX8_purseIn_5 (by decide) (fun hc => ?_) (fun hc => ?_)
  · have h := fo_if h hc
    refine lv_iload_n hx hb dX8_purseIn_10 rfl (lv_at hl 2 rfl) ?_
    refine lv_iconst (v := (1 : Int32)) hx hb dX8_purseIn_11 (by decide) ?_
    refine lv_bipush (v := (99 : Int32)) hx hb dX8_purseIn_12 (by decide) ?_
    obtain ⟨q14, hq14, h⟩ := fo_bd_some h
    refine gc_iS (As := [.int v2, .int (1 : Int32), .int (99 : Int32)]) (rest := []) (wc := ([] : va_W)) (w1 := ([] : va_W)) ⟨hx, hb, hml, hown, hts⟩ (c8_within l (a := a) hq14) (va_cwS 3 hts gv_X8_42 rfl rfl rfl hd8_within ⟨Nat.le_of_ble_eq_true rfl, Nat.le_of_ble_eq_true rfl⟩) hK [] rfl hA hG [] rfl rfl rfl rfl hl.1 rfl (Nat.le_of_ble_eq_true rfl) dX8_purseIn_14 ⟨Nat.zero_le _, Nat.zero_le _⟩ (fun H locs hG9 => ?_)
    have hG : gd_W (dC, dI) A s (wd_M cI a S) H locs := hG9
    refine lv_if_ne (tgt := 23) hx hb dX8_purseIn_17 (by decide) (fun hc => ?_) (fun hc => ?_)
    · have h := fo_if h hc
      refine lv_aload_n hx hb dX8_purseIn_23 rfl (lv_at hl 0 rfl) ?_
      refine va_get (D := (dC, dI)) (ci := 7) (v := .ref (a 1)) (C := RX8) (T := TX8) (N := 17) hx hb hts inlX8 hown hK hG.1 0 rfl rfl 0 (by decide) (hts (Cond.fieldLink RX8 7 "DiceRoadsModel" "state" "[I") wq_637) (fun _ h9 => h9) rfl dX8_purseIn_24 ?_
      refine lv_iconst (v := (0 : Int32)) hx hb dX8_purseIn_27 (by decide) ?_
      refine lv_aload_n hx hb dX8_purseIn_28 rfl (lv_at hl 0 rfl) ?_
      refine va_get (D := (dC, dI)) (ci := 7) (v := .ref (a 2)) (C := RX8) (T := TX8) (N := 17) hx hb hts inlX8 hown hK hG.1 0 rfl rfl 1 (by decide) (hts (Cond.fieldLink RX8 13 "DiceRoadsModel" "kept" "[I") wq_638) (fun _ h9 => h9) rfl dX8_purseIn_29 ?_
      refine lv_iconst (v := (0 : Int32)) hx hb dX8_purseIn_32 (by decide) ?_
      obtain ⟨q33, hq33, h⟩ := fo_bd_some h
      refine gc_vS (As := [.ref (a 1), .int (0 : Int32), .ref (a 2), .int (0 : Int32)]) (rest := []) (wc := (wd_MV cI (fun k => match k with | 0 => a 1 | _ => a 2) 107 107 (S 0) (S 1))) (w1 := (wd_MV cI (fun k => match k with | 0 => a 1 | _ => a 2) 107 107 (S 0) q33)) ⟨hx, hb, hml, hown, hts⟩ (c8_moves l (a := (fun k => match k with | 0 => a 1 | _ => a 2)) (z := 107) (g := 107) (F := (S 0)) hq33) (va_cwS 4 hts gv_X8_38 rfl rfl rfl hd8_moves ⟨Nat.le_of_ble_eq_true rfl, Nat.le_of_ble_eq_true rfl⟩) hK [0] rfl hA hG [1, 2] rfl rfl rfl rfl hl.1 rfl (Nat.le_of_ble_eq_true rfl) dX8_purseIn_33 ⟨Nat.zero_le _, Nat.zero_le _⟩ (fun H locs hG9 => ?_)
      have hG : gd_W (dC, dI) A s (wd_M cI a (ms_set S 1 q33)) H locs := hG9
      refine lv_aload_n hx hb dX8_purseIn_36 rfl (lv_at hl 0 rfl) ?_
      refine lv_iload_n hx hb dX8_purseIn_37 rfl (lv_at hl 2 rfl) ?_
      obtain ⟨q38, hq38, h⟩ := fo_bd_some h
      refine gc_iV (b := a 0) (C := RX8) (As := [.int v2]) (rest := []) (wc := (wd_M0 cI a ((ms_set S 1 q33) 8) ((ms_set S 1 q33) 0))) (w1 := (wd_M0 cI a ((ms_set S 1 q33) 8) q38.2)) (ci := 7) (q0 := 0) ⟨hx, hb, hml, hown, hts⟩ (c8_doTurns l (a := a) (X := ((ms_set S 1 q33) 8)) hq38) (cwV 1 hts gv_X8_140 rfl rfl rfl hd8_doTurns ⟨Nat.le_of_ble_eq_true rfl, Nat.le_of_ble_eq_true rfl⟩) hK [0] rfl hA hG [0, 1] rfl rfl rfl rfl rfl rfl hl.1 rfl (Nat.le_of_ble_eq_true rfl) dX8_purseIn_38 ⟨Nat.zero_le _, Nat.zero_le _⟩ (fun H locs hG9 => ?_)
      have hG : gd_W (dC, dI) A s (wd_M cI a (ms_set (ms_set S 1 q33) 0 q38.2)) H locs := hG9
      refine lv_pop hx hb dX8_purseIn_41 rfl ?_
      refine lv_aload_n hx hb dX8_purseIn_42 rfl (lv_at hl 0 rfl) ?_
      refine lv_iload_n hx hb dX8_purseIn_43 rfl (lv_at hl 1 rfl) ?_
      refine lv_iconst (v := (0 : Int32)) hx hb dX8_purseIn_44 (by decide) ?_
      obtain ⟨q45, hq45, h⟩ := fo_bd_some h
      refine gc_iV (b := a 0) (C := RX8) (As := [.int v1, .int (0 : Int32)]) (rest := []) (wc := (wd_M0 cI a ((ms_set (ms_set S 1 q33) 0 q38.2) 8) ((ms_set (ms_set S 1 q33) 0 q38.2) 0))) (w1 := (wd_M0 cI a ((ms_set (ms_set S 1 q33) 0 q38.2) 8) ((ms_set (ms_set S 1 q33) 0 q38.2) 0))) (ci := 7) (q0 := 0) ⟨hx, hb, hml, hown, hts⟩ (c8_playerPart l (a := a) (X := ((ms_set (ms_set S 1 q33) 0 q38.2) 8)) hq45) (cwV 2 hts gv_X8_54 rfl rfl rfl hd8_playerPart ⟨Nat.le_of_ble_eq_true rfl, Nat.le_of_ble_eq_true rfl⟩) hK [0] rfl hA hG [0, 1] rfl rfl rfl rfl rfl rfl hl.1 rfl (Nat.le_of_ble_eq_true rfl) dX8_purseIn_45 ⟨Nat.zero_le _, Nat.zero_le _⟩ (fun H locs hG9 => ?_)
      have hG : gd_W (dC, dI) A s (wd_M cI a (ms_set (ms_set S 1 q33) 0 q38.2)) H locs := hG9
      refine lv_istore_n (lv' := [(3, .int q45), (0, .ref (a 0)), (1, .int v1), (2, .int v2)]) hx hb dX8_purseIn_48 rfl hl (by decide) rfl (fun ls hl => ?_)
      refine lv_aload_n hx hb dX8_purseIn_49 rfl (lv_at hl 1 rfl) ?_
      refine va_get (D := (dC, dI)) (ci := 7) (v := .ref (a 2)) (C := RX8) (T := TX8) (N := 17) hx hb hts inlX8 hown hK hG.1 0 rfl rfl 1 (by decide) (hts (Cond.fieldLink RX8 13 "DiceRoadsModel" "kept" "[I") wq_638) (fun _ h9 => h9) rfl dX8_purseIn_50 ?_
      refine lv_iconst (v := (0 : Int32)) hx hb dX8_purseIn_53 (by decide) ?_
      refine lv_aload_n hx hb dX8_purseIn_54 rfl (lv_at hl 1 rfl) ?_
      refine va_get (D := (dC, dI)) (ci := 7) (v := .ref (a 1)) (C := RX8) (T := TX8) (N := 17) hx hb hts inlX8 hown hK hG.1 0 rfl rfl 0 (by decide) (hts (Cond.fieldLink RX8 7 "DiceRoadsModel" "state" "[I") wq_637) (fun _ h9 => h9) rfl dX8_purseIn_55 ?_
      refine lv_iconst (v := (0 : Int32)) hx hb dX8_purseIn_58 (by decide) ?_
      obtain ⟨q59, hq59, h⟩ := fo_bd_some h
      refine gc_vS (As := [.ref (a 2), .int (0 : Int32), .ref (a 1), .int (0 : Int32)]) (rest := []) (wc := (wd_MV cI (fun k => match k with | 0 => a 2 | _ => a 1) 107 107 ((ms_set (ms_set S 1 q33) 0 q38.2) 1) ((ms_set (ms_set S 1 q33) 0 q38.2) 0))) (w1 := (wd_MV cI (fun k => match k with | 0 => a 2 | _ => a 1) 107 107 ((ms_set (ms_set S 1 q33) 0 q38.2) 1) q59)) ⟨hx, hb, hml, hown, hts⟩ (c8_moves l (a := (fun k => match k with | 0 => a 2 | _ => a 1)) (z := 107) (g := 107) (F := ((ms_set (ms_set S 1 q33) 0 q38.2) 1)) hq59) (va_cwS 4 hts gv_X8_38 rfl rfl rfl hd8_moves ⟨Nat.le_of_ble_eq_true rfl, Nat.le_of_ble_eq_true rfl⟩) hK [0] rfl hA hG [2, 1] rfl rfl rfl rfl hl.1 rfl (Nat.le_of_ble_eq_true rfl) dX8_purseIn_59 ⟨Nat.zero_le _, Nat.zero_le _⟩ (fun H locs hG9 => ?_)
      have hG : gd_W (dC, dI) A s (wd_M cI a (ms_set (ms_set (ms_set S 1 q33) 0 q38.2) 0 q59)) H locs := hG9
      refine lv_iload_n hx hb dX8_purseIn_62 rfl (lv_at hl 0 rfl) ?_
      obtain rfl := Option.some.inj h
      exact gr_i hx hb hr hlocks hK hG rfl dX8_purseIn_63
    · have h := fo_it h hc
      refine lv_bipush (v := (-2 : Int32)) hx hb dX8_purseIn_20 (by decide) ?_
      obtain rfl := Option.some.inj h
      exact gr_i hx hb hr hlocks hK hG rfl dX8_purseIn_22
  · have h := fo_it h hc
    refine lv_iconst (v := (-1 : Int32)) hx hb dX8_purseIn_8 (by decide) ?_
    obtain rfl := Option.some.inj h
    exact gr_i hx hb hr hlocks hK hG rfl dX8_purseIn_9
set_option maxRecDepth 100000 in
set_option maxHeartbeats 4000000 in
theorem c8_purseIn (l : Launch) {dC : Nat → ClassId} {dI : Nat → Nat → Nat} {cI : ClassId} {a : Nat → Nat} {v1 : Int32} {v2 : Int32} {S : ms_T} {q : (Int32 × ms_T)} (h : f8_purseIn v1 v2 S = some q) : mi_M l yX8_purseIn wm8_purseIn RM8_purseIn (dC, dI) [(cI, .int)] [.ref (a 0), .int v1, .int v2] (wd_M cI a S) q.1 (wd_M cI a q.2) := by
  intro sz
  refine Met.ofW (cc := cX8_purseIn) (maxL := 4) (ret := (some .int)) (by decide) rfl ?_
  intro p e s m args below meth c s₁ B hml hv
  obtain ⟨rfl, hsz, hP, hK, hD0⟩ := hv
  subst hsz
  have hl := lv_entry ([.ref (a 0), .int v1, .int v2] : List Value) (n := 4) (Nat.le_of_ble_eq_true rfl)
  rw [lg_entry_eq]
  generalize (lg_sl ([.ref (a 0), .int v1, .int v2] : List Value) ++ List.replicate (4 - (lg_sl ([.ref (a 0), .int v1, .int v2] : List Value)).length) Slot.unset).toArray = ls at hl ⊢
  exact w8_purseIn (a := a) ⟨B.exec, B.bytes, B.returns, fun w hw => atoms_spec (ws := wm8_purseIn) B.pre w (List.mem_cons_of_mem _ hw), findClass_of_methodNamed B.named, B.notSynchronized, hml⟩ hK (fun _ h => Or.inr h) h ⟨hP, hD0.self, va_S.rf⟩ hl
end
/-! ## DiceRoadsModel.bestSeed(II)I -/
section
variable {p : Program} {l : Launch} {e : Env} {s : State} {m : MethodId} {args : Array Value} {below : List Frame} {meth : Method} {c : Code} {dC : Nat → ClassId} {dI : Nat → Nat → Nat} {cI : ClassId} {A : Nat → Prop}
set_option maxRecDepth 100000 in
set_option maxHeartbeats 4000000 in
theorem w8_bestSeed_b144 (C : cx_M p s m args meth c RX8 cX8_bestSeed (some .int) 8) (hK : va_K (dC, dI) vwCl [(cI, .int)] s) (hA : ∀ q, s.heap.size ≤ q → A q) {a : Nat → Nat} {q : (Int32 × ms_T)} {rec45 : Int32 → Int32 → Int32 → Int32 → Int32 → ms_T → Option (Int32 × ms_T)} (hrec45 : ∀ {v1 : Int32} {v2 : Int32} {v3 : Int32} {v4 : Int32} {v5 : Int32} {S : ms_T} , rec45 v1 v2 v3 v4 v5 S = some q → ∀ {H : Heap} {locs : List Loc} {ls : Array Slot}, gd_W (dC, dI) A s (wd_M cI a S) H locs → lv_has ls 8 [(0, .ref (a 0)), (1, .int v1), (2, .int v2), (3, .int v3), (4, .int v4), (5, .int v5)] → W p l e RM8_bestSeed s m args below meth c H locs 0 0 (MQ below (qi_W (dC, dI) [(cI, .int)] A q.1 (wd_M cI a q.2)) args s 0 0 A) (F0 m 45 ls [])) {v1 : Int32} {v2 : Int32} {v3 : Int32} {v5 : Int32} {t0 : Int32} {S : ms_T} (h : f8_bestSeed_b144 rec45 v1 v2 v3 v5 t0 S = some q) {H : Heap} {locs : List Loc} {ls : Array Slot} (hG : gd_W (dC, dI) A s (wd_M cI a S) H locs) (hl : lv_has ls 8 [(0, .ref (a 0)), (1, .int v1), (2, .int v2), (3, .int v3), (5, .int v5)]) : W p l e RM8_bestSeed s m args below meth c H locs 0 0 (MQ below (qi_W (dC, dI) [(cI, .int)] A q.1 (wd_M cI a q.2)) args s 0 0 A) (F0 m 144 ls [.int t0]) := by
  unfold f8_bestSeed_b144 at h
  obtain ⟨hx, hb, hr, hts, hown, hlocks, hml⟩ := id C
  refine lv_istore (lv' := [(4, .int t0), (0, .ref (a 0)), (1, .int v1), (2, .int v2), (3, .int v3), (5, .int v5)]) hx hb dX8_bestSeed_144 hl (by decide) rfl (fun ls hl => ?_)
  refine lv_iinc (v := (v5 + (1 : Int32))) (lv' := [(5, .int (v5 + (1 : Int32))), (4, .int t0), (0, .ref (a 0)), (1, .int v1), (2, .int v2), (3, .int v3)]) hx hb dX8_bestSeed_146 hl (k := 5) rfl rfl (by decide) rfl (fun ls hl => ?_)
  refine lv_goto (tgt := 45) hx hb dX8_bestSeed_149 (by decide) ?_
  exact hrec45 h hG (lv_sub hl [2, 3, 4, 5, 1, 0] rfl)
set_option maxRecDepth 100000 in
set_option maxHeartbeats 4000000 in
theorem w8_bestSeed_b131 (C : cx_M p s m args meth c RX8 cX8_bestSeed (some .int) 8) (hK : va_K (dC, dI) vwCl [(cI, .int)] s) (hA : ∀ q, s.heap.size ≤ q → A q) {a : Nat → Nat} {q : (Int32 × ms_T)} {rec45 : Int32 → Int32 → Int32 → Int32 → Int32 → ms_T → Option (Int32 × ms_T)} (hrec45 : ∀ {v1 : Int32} {v2 : Int32} {v3 : Int32} {v4 : Int32} {v5 : Int32} {S : ms_T} , rec45 v1 v2 v3 v4 v5 S = some q → ∀ {H : Heap} {locs : List Loc} {ls : Array Slot}, gd_W (dC, dI) A s (wd_M cI a S) H locs → lv_has ls 8 [(0, .ref (a 0)), (1, .int v1), (2, .int v2), (3, .int v3), (4, .int v4), (5, .int v5)] → W p l e RM8_bestSeed s m args below meth c H locs 0 0 (MQ below (qi_W (dC, dI) [(cI, .int)] A q.1 (wd_M cI a q.2)) args s 0 0 A) (F0 m 45 ls [])) {v1 : Int32} {v2 : Int32} {v4 : Int32} {v5 : Int32} {v6 : Int32} {v7 : Int32} {t0 : Int32} {S : ms_T} (h : f8_bestSeed_b131 rec45 v1 v2 v4 v5 v6 v7 t0 S = some q) {H : Heap} {locs : List Loc} {ls : Array Slot} (hG : gd_W (dC, dI) A s (wd_M cI a S) H locs) (hl : lv_has ls 8 [(0, .ref (a 0)), (1, .int v1), (2, .int v2), (4, .int v4), (5, .int v5), (6, .int v6), (7, .int v7)]) : W p l e RM8_bestSeed s m args below meth c H locs 0 0 (MQ below (qi_W (dC, dI) [(cI, .int)] A q.1 (wd_M cI a q.2)) args s 0 0 A) (F0 m 131 ls [.int t0]) := by
  unfold f8_bestSeed_b131 at h
  obtain ⟨hx, hb, hr, hts, hown, hlocks, hml⟩ := id C
  refine lv_istore_n (lv' := [(3, .int t0), (0, .ref (a 0)), (1, .int v1), (2, .int v2), (4, .int v4), (5, .int v5), (6, .int v6), (7, .int v7)]) hx hb dX8_bestSeed_131 rfl hl (by decide) rfl (fun ls hl => ?_)
  refine lv_iload hx hb dX8_bestSeed_132 (lv_at hl 7 rfl) ?_
  refine lv_if_eq (tgt := 142) hx hb dX8_bestSeed_134 (by decide) (fun hc => ?_) (fun hc => ?_)
  · have h := fo_it h hc
    refine lv_iload hx hb dX8_bestSeed_142 (lv_at hl 4 rfl) ?_
    exact w8_bestSeed_b144 C hK hA (fun h => hrec45 h) h hG (lv_sub hl [1, 2, 3, 0, 5] rfl)
  · have h := fo_if h hc
    refine lv_iload hx hb dX8_bestSeed_137 (lv_at hl 6 rfl) ?_
    refine lv_goto (tgt := 144) hx hb dX8_bestSeed_139 (by decide) ?_
    exact w8_bestSeed_b144 C hK hA (fun h => hrec45 h) h hG (lv_sub hl [1, 2, 3, 0, 5] rfl)
set_option maxRecDepth 100000 in
set_option maxHeartbeats 4000000 in
theorem w8_bestSeed_b118 (C : cx_M p s m args meth c RX8 cX8_bestSeed (some .int) 8) (hK : va_K (dC, dI) vwCl [(cI, .int)] s) (hA : ∀ q, s.heap.size ≤ q → A q) {a : Nat → Nat} {q : (Int32 × ms_T)} {rec45 : Int32 → Int32 → Int32 → Int32 → Int32 → ms_T → Option (Int32 × ms_T)} (hrec45 : ∀ {v1 : Int32} {v2 : Int32} {v3 : Int32} {v4 : Int32} {v5 : Int32} {S : ms_T} , rec45 v1 v2 v3 v4 v5 S = some q → ∀ {H : Heap} {locs : List Loc} {ls : Array Slot}, gd_W (dC, dI) A s (wd_M cI a S) H locs → lv_has ls 8 [(0, .ref (a 0)), (1, .int v1), (2, .int v2), (3, .int v3), (4, .int v4), (5, .int v5)] → W p l e RM8_bestSeed s m args below meth c H locs 0 0 (MQ below (qi_W (dC, dI) [(cI, .int)] A q.1 (wd_M cI a q.2)) args s 0 0 A) (F0 m 45 ls [])) {v1 : Int32} {v2 : Int32} {v3 : Int32} {v4 : Int32} {v5 : Int32} {v6 : Int32} {t0 : Int32} {S : ms_T} (h : f8_bestSeed_b118 rec45 v1 v2 v3 v4 v5 v6 t0 S = some q) {H : Heap} {locs : List Loc} {ls : Array Slot} (hG : gd_W (dC, dI) A s (wd_M cI a S) H locs) (hl : lv_has ls 8 [(0, .ref (a 0)), (1, .int v1), (2, .int v2), (3, .int v3), (4, .int v4), (5, .int v5), (6, .int v6)]) : W p l e RM8_bestSeed s m args below meth c H locs 0 0 (MQ below (qi_W (dC, dI) [(cI, .int)] A q.1 (wd_M cI a q.2)) args s 0 0 A) (F0 m 118 ls [.int t0]) := by
  unfold f8_bestSeed_b118 at h
  obtain ⟨hx, hb, hr, hts, hown, hlocks, hml⟩ := id C
  refine lv_istore (lv' := [(7, .int t0), (0, .ref (a 0)), (1, .int v1), (2, .int v2), (3, .int v3), (4, .int v4), (5, .int v5), (6, .int v6)]) hx hb dX8_bestSeed_118 hl (by decide) rfl (fun ls hl => ?_)
  refine lv_iload hx hb dX8_bestSeed_120 (lv_at hl 0 rfl) ?_
  refine lv_if_eq (tgt := 130) hx hb dX8_bestSeed_122 (by decide) (fun hc => ?_) (fun hc => ?_)
  · have h := fo_it h hc
    refine lv_iload_n hx hb dX8_bestSeed_130 rfl (lv_at hl 4 rfl) ?_
    exact w8_bestSeed_b131 C hK hA (fun h => hrec45 h) h hG (lv_sub hl [1, 2, 3, 5, 6, 7, 0] rfl)
  · have h := fo_if h hc
    refine lv_iload hx hb dX8_bestSeed_125 (lv_at hl 6 rfl) ?_
    refine lv_goto (tgt := 131) hx hb dX8_bestSeed_127 (by decide) ?_
    exact w8_bestSeed_b131 C hK hA (fun h => hrec45 h) h hG (lv_sub hl [1, 2, 3, 5, 6, 7, 0] rfl)
set_option maxRecDepth 100000 in
set_option maxHeartbeats 4000000 in
theorem w8_bestSeed_b113 (C : cx_M p s m args meth c RX8 cX8_bestSeed (some .int) 8) (hK : va_K (dC, dI) vwCl [(cI, .int)] s) (hA : ∀ q, s.heap.size ≤ q → A q) {a : Nat → Nat} {q : (Int32 × ms_T)} {rec45 : Int32 → Int32 → Int32 → Int32 → Int32 → ms_T → Option (Int32 × ms_T)} (hrec45 : ∀ {v1 : Int32} {v2 : Int32} {v3 : Int32} {v4 : Int32} {v5 : Int32} {S : ms_T} , rec45 v1 v2 v3 v4 v5 S = some q → ∀ {H : Heap} {locs : List Loc} {ls : Array Slot}, gd_W (dC, dI) A s (wd_M cI a S) H locs → lv_has ls 8 [(0, .ref (a 0)), (1, .int v1), (2, .int v2), (3, .int v3), (4, .int v4), (5, .int v5)] → W p l e RM8_bestSeed s m args below meth c H locs 0 0 (MQ below (qi_W (dC, dI) [(cI, .int)] A q.1 (wd_M cI a q.2)) args s 0 0 A) (F0 m 45 ls [])) {v1 : Int32} {v2 : Int32} {v3 : Int32} {v4 : Int32} {v5 : Int32} {v6 : Int32} {S : ms_T} (h : f8_bestSeed_b113 rec45 v1 v2 v3 v4 v5 v6 S = some q) {H : Heap} {locs : List Loc} {ls : Array Slot} (hG : gd_W (dC, dI) A s (wd_M cI a S) H locs) (hl : lv_has ls 8 [(0, .ref (a 0)), (1, .int v1), (2, .int v2), (3, .int v3), (4, .int v4), (5, .int v5), (6, .int v6)]) : W p l e RM8_bestSeed s m args below meth c H locs 0 0 (MQ below (qi_W (dC, dI) [(cI, .int)] A q.1 (wd_M cI a q.2)) args s 0 0 A) (F0 m 113 ls []) := by
  unfold f8_bestSeed_b113 at h
  obtain ⟨hx, hb, hr, hts, hown, hlocks, hml⟩ := id C
  refine lv_iconst (v := (1 : Int32)) hx hb dX8_bestSeed_113 (by decide) ?_
  refine lv_goto (tgt := 118) hx hb dX8_bestSeed_114 (by decide) ?_
  exact w8_bestSeed_b118 C hK hA (fun h => hrec45 h) h hG (lv_sub hl [0, 1, 2, 3, 4, 5, 6] rfl)
set_option maxRecDepth 100000 in
set_option maxHeartbeats 4000000 in
theorem w8_bestSeed_b45 (C : cx_M p s m args meth c RX8 cX8_bestSeed (some .int) 8) (hK : va_K (dC, dI) vwCl [(cI, .int)] s) (hA : ∀ q, s.heap.size ≤ q → A q) {a : Nat → Nat} {q : (Int32 × ms_T)} {rec45 : Int32 → Int32 → Int32 → Int32 → Int32 → ms_T → Option (Int32 × ms_T)} (hrec45 : ∀ {v1 : Int32} {v2 : Int32} {v3 : Int32} {v4 : Int32} {v5 : Int32} {S : ms_T} , rec45 v1 v2 v3 v4 v5 S = some q → ∀ {H : Heap} {locs : List Loc} {ls : Array Slot}, gd_W (dC, dI) A s (wd_M cI a S) H locs → lv_has ls 8 [(0, .ref (a 0)), (1, .int v1), (2, .int v2), (3, .int v3), (4, .int v4), (5, .int v5)] → W p l e RM8_bestSeed s m args below meth c H locs 0 0 (MQ below (qi_W (dC, dI) [(cI, .int)] A q.1 (wd_M cI a q.2)) args s 0 0 A) (F0 m 45 ls [])) {v1 : Int32} {v2 : Int32} {v3 : Int32} {v4 : Int32} {v5 : Int32} {S : ms_T} (h : f8_bestSeed_b45 rec45 v1 v2 v3 v4 v5 S = some q) {H : Heap} {locs : List Loc} {ls : Array Slot} (hG : gd_W (dC, dI) A s (wd_M cI a S) H locs) (hl : lv_has ls 8 [(0, .ref (a 0)), (1, .int v1), (2, .int v2), (3, .int v3), (4, .int v4), (5, .int v5)]) : W p l e RM8_bestSeed s m args below meth c H locs 0 0 (MQ below (qi_W (dC, dI) [(cI, .int)] A q.1 (wd_M cI a q.2)) args s 0 0 A) (F0 m 45 ls []) := by
  unfold f8_bestSeed_b45 at h
  obtain ⟨hx, hb, hr, hts, hown, hlocks, hml⟩ := id C
  refine lv_iload hx hb dX8_bestSeed_45 (lv_at hl 5 rfl) ?_
  refine lv_bipush (v := (50 : Int32)) hx hb dX8_bestSeed_47 (by decide) ?_
  refine lv_icmp_ge (tgt := 152) hx hb dX8_bestSeed_49 (by decide) (fun hc => ?_) (fun hc => ?_)
  · have h := fo_it h hc
    refine lv_iload_n hx hb dX8_bestSeed_152 rfl (lv_at hl 3 rfl) ?_
    obtain rfl := Option.some.inj h
    exact gr_i hx hb hr hlocks hK hG rfl dX8_bestSeed_153
  · have h := fo_if h hc
    refine lv_aload_n hx hb dX8_bestSeed_52 rfl (lv_at hl 0 rfl) ?_
    refine va_get (D := (dC, dI)) (ci := 7) (v := .ref (a 1)) (C := RX8) (T := TX8) (N := 17) hx hb hts inlX8 hown hK hG.1 0 rfl rfl 0 (by decide) (hts (Cond.fieldLink RX8 7 "DiceRoadsModel" "state" "[I") wq_637) (fun _ h9 => h9) rfl dX8_bestSeed_53 ?_
    refine lv_bipush (v := (8 : Int32)) hx hb dX8_bestSeed_56 (by decide) ?_
    refine lv_iload hx hb dX8_bestSeed_58 (lv_at hl 5 rfl) ?_
    obtain ⟨hi, h⟩ := fo_ck_some h
    refine va_iast hx hb hK hG.1 hG.2.1 hG.2.2 1 0 rfl rfl hi dX8_bestSeed_60 (fun H locs hP9 hD9 hS9 => ?_)
    have hG : gd_W (dC, dI) A s (wd_M cI a (ms_set S 0 (upd (S 0) (8 : Int32).toNatClampNeg v5))) H locs := ⟨hP9, hD9, hS9⟩
    refine lv_aload_n hx hb dX8_bestSeed_61 rfl (lv_at hl 0 rfl) ?_
    refine lv_iload_n hx hb dX8_bestSeed_62 rfl (lv_at hl 2 rfl) ?_
    obtain ⟨q63, hq63, h⟩ := fo_bd_some h
    refine gc_iV (b := a 0) (C := RX8) (As := [.int v2]) (rest := []) (wc := (wd_M0 cI a ((ms_set S 0 (upd (S 0) (8 : Int32).toNatClampNeg v5)) 8) ((ms_set S 0 (upd (S 0) (8 : Int32).toNatClampNeg v5)) 0))) (w1 := (wd_M0 cI a ((ms_set S 0 (upd (S 0) (8 : Int32).toNatClampNeg v5)) 8) q63.2)) (ci := 7) (q0 := 0) ⟨hx, hb, hml, hown, hts⟩ (c8_doTurns l (a := a) (X := ((ms_set S 0 (upd (S 0) (8 : Int32).toNatClampNeg v5)) 8)) hq63) (cwV 1 hts gv_X8_140 rfl rfl rfl hd8_doTurns ⟨Nat.le_of_ble_eq_true rfl, Nat.le_of_ble_eq_true rfl⟩) hK [0] rfl hA hG [0, 1] rfl rfl rfl rfl rfl rfl hl.1 rfl (Nat.le_of_ble_eq_true rfl) dX8_bestSeed_63 ⟨Nat.zero_le _, Nat.zero_le _⟩ (fun H locs hG9 => ?_)
    have hG : gd_W (dC, dI) A s (wd_M cI a (ms_set (ms_set S 0 (upd (S 0) (8 : Int32).toNatClampNeg v5)) 0 q63.2)) H locs := hG9
    refine lv_pop hx hb dX8_bestSeed_66 rfl ?_
    refine lv_aload_n hx hb dX8_bestSeed_67 rfl (lv_at hl 0 rfl) ?_
    refine lv_iload_n hx hb dX8_bestSeed_68 rfl (lv_at hl 1 rfl) ?_
    refine lv_iconst (v := (0 : Int32)) hx hb dX8_bestSeed_69 (by decide) ?_
    obtain ⟨q70, hq70, h⟩ := fo_bd_some h
    refine gc_iV (b := a 0) (C := RX8) (As := [.int v1, .int (0 : Int32)]) (rest := []) (wc := (wd_M0 cI a ((ms_set (ms_set S 0 (upd (S 0) (8 : Int32).toNatClampNeg v5)) 0 q63.2) 8) ((ms_set (ms_set S 0 (upd (S 0) (8 : Int32).toNatClampNeg v5)) 0 q63.2) 0))) (w1 := (wd_M0 cI a ((ms_set (ms_set S 0 (upd (S 0) (8 : Int32).toNatClampNeg v5)) 0 q63.2) 8) ((ms_set (ms_set S 0 (upd (S 0) (8 : Int32).toNatClampNeg v5)) 0 q63.2) 0))) (ci := 7) (q0 := 0) ⟨hx, hb, hml, hown, hts⟩ (c8_playerPart l (a := a) (X := ((ms_set (ms_set S 0 (upd (S 0) (8 : Int32).toNatClampNeg v5)) 0 q63.2) 8)) hq70) (cwV 2 hts gv_X8_54 rfl rfl rfl hd8_playerPart ⟨Nat.le_of_ble_eq_true rfl, Nat.le_of_ble_eq_true rfl⟩) hK [0] rfl hA hG [0, 1] rfl rfl rfl rfl rfl rfl hl.1 rfl (Nat.le_of_ble_eq_true rfl) dX8_bestSeed_70 ⟨Nat.zero_le _, Nat.zero_le _⟩ (fun H locs hG9 => ?_)
    have hG : gd_W (dC, dI) A s (wd_M cI a (ms_set (ms_set S 0 (upd (S 0) (8 : Int32).toNatClampNeg v5)) 0 q63.2)) H locs := hG9
    refine lv_aload_n hx hb dX8_bestSeed_73 rfl (lv_at hl 0 rfl) ?_
    refine lv_iload_n hx hb dX8_bestSeed_74 rfl (lv_at hl 1 rfl) ?_
    obtain ⟨q75, hq75, h⟩ := fo_bd_some h
    refine gc_iV (b := a 0) (C := RX8) (As := [.int v1]) (rest := [.int q70]) (wc := (wd_M0 cI a ((ms_set (ms_set S 0 (upd (S 0) (8 : Int32).toNatClampNeg v5)) 0 q63.2) 8) ((ms_set (ms_set S 0 (upd (S 0) (8 : Int32).toNatClampNeg v5)) 0 q63.2) 0))) (w1 := (wd_M0 cI a ((ms_set (ms_set S 0 (upd (S 0) (8 : Int32).toNatClampNeg v5)) 0 q63.2) 8) ((ms_set (ms_set S 0 (upd (S 0) (8 : Int32).toNatClampNeg v5)) 0 q63.2) 0))) (ci := 7) (q0 := 0) ⟨hx, hb, hml, hown, hts⟩ (c8_owedTo l (a := a) (X := ((ms_set (ms_set S 0 (upd (S 0) (8 : Int32).toNatClampNeg v5)) 0 q63.2) 8)) hq75) (cwV 1 hts gv_X8_165 rfl rfl rfl hd8_owedTo ⟨Nat.le_of_ble_eq_true rfl, Nat.le_of_ble_eq_true rfl⟩) hK [0] rfl hA hG [0, 1] rfl rfl rfl rfl rfl rfl hl.1 rfl (Nat.le_of_ble_eq_true rfl) dX8_bestSeed_75 ⟨Nat.zero_le _, Nat.zero_le _⟩ (fun H locs hG9 => ?_)
    have hG : gd_W (dC, dI) A s (wd_M cI a (ms_set (ms_set S 0 (upd (S 0) (8 : Int32).toNatClampNeg v5)) 0 q63.2)) H locs := hG9
    refine lv_iadd hx hb dX8_bestSeed_78 ?_
    refine lv_aload_n hx hb dX8_bestSeed_79 rfl (lv_at hl 0 rfl) ?_
    refine lv_iload_n hx hb dX8_bestSeed_80 rfl (lv_at hl 1 rfl) ?_
    obtain ⟨q81, hq81, h⟩ := fo_bd_some h
    refine gc_iV (b := a 0) (C := RX8) (As := [.int v1]) (rest := [.int (q70 + q75)]) (wc := (wd_M0 cI a ((ms_set (ms_set S 0 (upd (S 0) (8 : Int32).toNatClampNeg v5)) 0 q63.2) 8) ((ms_set (ms_set S 0 (upd (S 0) (8 : Int32).toNatClampNeg v5)) 0 q63.2) 0))) (w1 := (wd_M0 cI a ((ms_set (ms_set S 0 (upd (S 0) (8 : Int32).toNatClampNeg v5)) 0 q63.2) 8) ((ms_set (ms_set S 0 (upd (S 0) (8 : Int32).toNatClampNeg v5)) 0 q63.2) 0))) (ci := 7) (q0 := 0) ⟨hx, hb, hml, hown, hts⟩ (c8_owedBy l (a := a) (X := ((ms_set (ms_set S 0 (upd (S 0) (8 : Int32).toNatClampNeg v5)) 0 q63.2) 8)) hq81) (cwV 1 hts gv_X8_61 rfl rfl rfl hd8_owedBy ⟨Nat.le_of_ble_eq_true rfl, Nat.le_of_ble_eq_true rfl⟩) hK [0] rfl hA hG [0, 1] rfl rfl rfl rfl rfl rfl hl.1 rfl (Nat.le_of_ble_eq_true rfl) dX8_bestSeed_81 ⟨Nat.zero_le _, Nat.zero_le _⟩ (fun H locs hG9 => ?_)
    have hG : gd_W (dC, dI) A s (wd_M cI a (ms_set (ms_set S 0 (upd (S 0) (8 : Int32).toNatClampNeg v5)) 0 q63.2)) H locs := hG9
    refine lv_isub hx hb dX8_bestSeed_84 ?_
    refine lv_istore (lv' := [(6, .int ((q70 + q75) - q81)), (0, .ref (a 0)), (1, .int v1), (2, .int v2), (3, .int v3), (4, .int v4), (5, .int v5)]) hx hb dX8_bestSeed_85 hl (by decide) rfl (fun ls hl => ?_)
    refine lv_aload_n hx hb dX8_bestSeed_87 rfl (lv_at hl 1 rfl) ?_
    refine va_get (D := (dC, dI)) (ci := 7) (v := .ref (a 2)) (C := RX8) (T := TX8) (N := 17) hx hb hts inlX8 hown hK hG.1 0 rfl rfl 1 (by decide) (hts (Cond.fieldLink RX8 13 "DiceRoadsModel" "kept" "[I") wq_638) (fun _ h9 => h9) rfl dX8_bestSeed_88 ?_
    refine lv_iconst (v := (0 : Int32)) hx hb dX8_bestSeed_91 (by decide) ?_
    refine lv_aload_n hx hb dX8_bestSeed_92 rfl (lv_at hl 1 rfl) ?_
    refine va_get (D := (dC, dI)) (ci := 7) (v := .ref (a 1)) (C := RX8) (T := TX8) (N := 17) hx hb hts inlX8 hown hK hG.1 0 rfl rfl 0 (by decide) (hts (Cond.fieldLink RX8 7 "DiceRoadsModel" "state" "[I") wq_637) (fun _ h9 => h9) rfl dX8_bestSeed_93 ?_
    refine lv_iconst (v := (0 : Int32)) hx hb dX8_bestSeed_96 (by decide) ?_
    obtain ⟨q97, hq97, h⟩ := fo_bd_some h
    refine gc_vS (As := [.ref (a 2), .int (0 : Int32), .ref (a 1), .int (0 : Int32)]) (rest := []) (wc := (wd_MV cI (fun k => match k with | 0 => a 2 | _ => a 1) 107 107 ((ms_set (ms_set S 0 (upd (S 0) (8 : Int32).toNatClampNeg v5)) 0 q63.2) 1) ((ms_set (ms_set S 0 (upd (S 0) (8 : Int32).toNatClampNeg v5)) 0 q63.2) 0))) (w1 := (wd_MV cI (fun k => match k with | 0 => a 2 | _ => a 1) 107 107 ((ms_set (ms_set S 0 (upd (S 0) (8 : Int32).toNatClampNeg v5)) 0 q63.2) 1) q97)) ⟨hx, hb, hml, hown, hts⟩ (c8_moves l (a := (fun k => match k with | 0 => a 2 | _ => a 1)) (z := 107) (g := 107) (F := ((ms_set (ms_set S 0 (upd (S 0) (8 : Int32).toNatClampNeg v5)) 0 q63.2) 1)) hq97) (va_cwS 4 hts gv_X8_38 rfl rfl rfl hd8_moves ⟨Nat.le_of_ble_eq_true rfl, Nat.le_of_ble_eq_true rfl⟩) hK [0] rfl hA hG [2, 1] rfl rfl rfl rfl hl.1 rfl (Nat.le_of_ble_eq_true rfl) dX8_bestSeed_97 ⟨Nat.zero_le _, Nat.zero_le _⟩ (fun H locs hG9 => ?_)
    have hG : gd_W (dC, dI) A s (wd_M cI a (ms_set (ms_set (ms_set S 0 (upd (S 0) (8 : Int32).toNatClampNeg v5)) 0 q63.2) 0 q97)) H locs := hG9
    refine lv_iload_n hx hb dX8_bestSeed_100 rfl (lv_at hl 4 rfl) ?_
    refine lv_bipush (v := (-6 : Int32)) hx hb dX8_bestSeed_101 (by decide) ?_
    refine lv_icmp_eq (tgt := 113) hx hb dX8_bestSeed_103 (by decide) (fun hc => ?_) (fun hc => ?_)
    · have h := fo_it h hc
      exact w8_bestSeed_b113 C hK hA (fun h => hrec45 h) h hG (lv_sub hl [1, 2, 3, 4, 5, 6, 0] rfl)
    · have h := fo_if h hc
      refine lv_iload hx hb dX8_bestSeed_106 (lv_at hl 0 rfl) ?_
      refine lv_iload hx hb dX8_bestSeed_108 (lv_at hl 5 rfl) ?_
      refine lv_icmp_le (tgt := 117) hx hb dX8_bestSeed_110 (by decide) (fun hc => ?_) (fun hc => ?_)
      · have h := fo_it h hc
        refine lv_iconst (v := (0 : Int32)) hx hb dX8_bestSeed_117 (by decide) ?_
        exact w8_bestSeed_b118 C hK hA (fun h => hrec45 h) h hG (lv_sub hl [1, 2, 3, 4, 5, 6, 0] rfl)
      · have h := fo_if h hc
        exact w8_bestSeed_b113 C hK hA (fun h => hrec45 h) h hG (lv_sub hl [1, 2, 3, 4, 5, 6, 0] rfl)
set_option maxRecDepth 100000 in
set_option maxHeartbeats 4000000 in
theorem w8_bestSeed_L45 (C : cx_M p s m args meth c RX8 cX8_bestSeed (some .int) 8) (hK : va_K (dC, dI) vwCl [(cI, .int)] s) (hA : ∀ q, s.heap.size ≤ q → A q) {a : Nat → Nat} {q : (Int32 × ms_T)} : ∀ (n : Nat) {v1 : Int32} {v2 : Int32} {v3 : Int32} {v4 : Int32} {v5 : Int32} {S : ms_T}, f8_bestSeed_L45 n v1 v2 v3 v4 v5 S = some q → ∀ {H : Heap} {locs : List Loc} {ls : Array Slot}, gd_W (dC, dI) A s (wd_M cI a S) H locs → lv_has ls 8 [(0, .ref (a 0)), (1, .int v1), (2, .int v2), (3, .int v3), (4, .int v4), (5, .int v5)] → W p l e RM8_bestSeed s m args below meth c H locs 0 0 (MQ below (qi_W (dC, dI) [(cI, .int)] A q.1 (wd_M cI a q.2)) args s 0 0 A) (F0 m 45 ls []) := by
  intro n
  induction n with
  | zero => intro _ _ _ _ _ _ h; exact nomatch h
  | succ n ih => intro v1 v2 v3 v4 v5 S h H locs ls hG hl; exact w8_bestSeed_b45 C hK hA (fun h => ih h) (show f8_bestSeed_b45 (f8_bestSeed_L45 n) v1 v2 v3 v4 v5 S = some q from h) hG hl
set_option maxRecDepth 100000 in
set_option maxHeartbeats 4000000 in
theorem w8_bestSeed (C : cx_M p s m args meth c RX8 cX8_bestSeed (some .int) 8) (hK : va_K (dC, dI) vwCl [(cI, .int)] s) (hA : ∀ q, s.heap.size ≤ q → A q) {a : Nat → Nat} {q : (Int32 × ms_T)} {v1 : Int32} {v2 : Int32} {S : ms_T} (h : f8_bestSeed v1 v2 S = some q) {H : Heap} {locs : List Loc} {ls : Array Slot} (hG : gd_W (dC, dI) A s (wd_M cI a S) H locs) (hl : lv_has ls 8 [(0, .ref (a 0)), (1, .int v1), (2, .int v2)]) : W p l e RM8_bestSeed s m args below meth c H locs 0 0 (MQ below (qi_W (dC, dI) [(cI, .int)] A q.1 (wd_M cI a q.2)) args s 0 0 A) (F0 m 0 ls []) := by
  unfold f8_bestSeed at h
  obtain ⟨hx, hb, hr, hts, hown, hlocks, hml⟩ := id C
  refine lv_aload_n hx hb dX8_bestSeed_0 rfl (lv_at hl 0 rfl) ?_
  refine lv_iload_n hx hb dX8_bestSeed_1 rfl (lv_at hl 1 rfl) ?_
  obtain ⟨q2, hq2, h⟩ := fo_bd_some h
  refine gc_iV (b := a 0) (C := RX8) (As := [.int v1]) (rest := []) (wc := (wd_M0 cI a (S 8) (S 0))) (w1 := (wd_M0 cI a (S 8) (S 0))) (ci := 7) (q0 := 0) ⟨hx, hb, hml, hown, hts⟩ (c8_isPlayer l (a := a) (X := (S 8)) hq2) (cwV 1 hts gv_X8_156 rfl rfl rfl hd8_isPlayer ⟨Nat.le_of_ble_eq_true rfl, Nat.le_of_ble_eq_true rfl⟩) hK [0] rfl hA hG [0, 1] rfl rfl rfl rfl rfl rfl hl.1 rfl (Nat.le_of_ble_eq_true rfl) dX8_bestSeed_2 ⟨Nat.zero_le _, Nat.zero_le _⟩ (fun H locs hG9 => ?_)
  have hG : gd_W (dC, dI) A s (wd_M cI a S) H locs := hG9
  refine lv_if_ne (tgt := 10) hx hb dX8_bestSeed_5 (by decide) (fun hc => ?_) (fun hc => ?_)
  · have h := fo_if h hc
    refine lv_iload_n hx hb dX8_bestSeed_10 rfl (lv_at hl 2 rfl) ?_
    refine lv_iconst (v := (1 : Int32)) hx hb dX8_bestSeed_11 (by decide) ?_
    refine lv_bipush (v := (60 : Int32)) hx hb dX8_bestSeed_12 (by decide) ?_
    obtain ⟨q14, hq14, h⟩ := fo_bd_some h
    refine gc_iS (As := [.int v2, .int (1 : Int32), .int (60 : Int32)]) (rest := []) (wc := ([] : va_W)) (w1 := ([] : va_W)) ⟨hx, hb, hml, hown, hts⟩ (c8_within l (a := a) hq14) (va_cwS 3 hts gv_X8_42 rfl rfl rfl hd8_within ⟨Nat.le_of_ble_eq_true rfl, Nat.le_of_ble_eq_true rfl⟩) hK [] rfl hA hG [] rfl rfl rfl rfl hl.1 rfl (Nat.le_of_ble_eq_true rfl) dX8_bestSeed_14 ⟨Nat.zero_le _, Nat.zero_le _⟩ (fun H locs hG9 => ?_)
    have hG : gd_W (dC, dI) A s (wd_M cI a S) H locs := hG9
    refine lv_if_ne (tgt := 23) hx hb dX8_bestSeed_17 (by decide) (fun hc => ?_) (fun hc => ?_)
    · have h := fo_if h hc
      refine lv_aload_n hx hb dX8_bestSeed_23 rfl (lv_at hl 0 rfl) ?_
      refine va_get (D := (dC, dI)) (ci := 7) (v := .ref (a 1)) (C := RX8) (T := TX8) (N := 17) hx hb hts inlX8 hown hK hG.1 0 rfl rfl 0 (by decide) (hts (Cond.fieldLink RX8 7 "DiceRoadsModel" "state" "[I") wq_637) (fun _ h9 => h9) rfl dX8_bestSeed_24 ?_
      refine lv_iconst (v := (0 : Int32)) hx hb dX8_bestSeed_27 (by decide) ?_
      refine lv_aload_n hx hb dX8_bestSeed_28 rfl (lv_at hl 0 rfl) ?_
      refine va_get (D := (dC, dI)) (ci := 7) (v := .ref (a 2)) (C := RX8) (T := TX8) (N := 17) hx hb hts inlX8 hown hK hG.1 0 rfl rfl 1 (by decide) (hts (Cond.fieldLink RX8 13 "DiceRoadsModel" "kept" "[I") wq_638) (fun _ h9 => h9) rfl dX8_bestSeed_29 ?_
      refine lv_iconst (v := (0 : Int32)) hx hb dX8_bestSeed_32 (by decide) ?_
      obtain ⟨q33, hq33, h⟩ := fo_bd_some h
      refine gc_vS (As := [.ref (a 1), .int (0 : Int32), .ref (a 2), .int (0 : Int32)]) (rest := []) (wc := (wd_MV cI (fun k => match k with | 0 => a 1 | _ => a 2) 107 107 (S 0) (S 1))) (w1 := (wd_MV cI (fun k => match k with | 0 => a 1 | _ => a 2) 107 107 (S 0) q33)) ⟨hx, hb, hml, hown, hts⟩ (c8_moves l (a := (fun k => match k with | 0 => a 1 | _ => a 2)) (z := 107) (g := 107) (F := (S 0)) hq33) (va_cwS 4 hts gv_X8_38 rfl rfl rfl hd8_moves ⟨Nat.le_of_ble_eq_true rfl, Nat.le_of_ble_eq_true rfl⟩) hK [0] rfl hA hG [1, 2] rfl rfl rfl rfl hl.1 rfl (Nat.le_of_ble_eq_true rfl) dX8_bestSeed_33 ⟨Nat.zero_le _, Nat.zero_le _⟩ (fun H locs hG9 => ?_)
      have hG : gd_W (dC, dI) A s (wd_M cI a (ms_set S 1 q33)) H locs := hG9
      refine lv_bipush (v := (-6 : Int32)) hx hb dX8_bestSeed_36 (by decide) ?_
      refine lv_istore_n (lv' := [(3, .int (-6 : Int32)), (0, .ref (a 0)), (1, .int v1), (2, .int v2)]) hx hb dX8_bestSeed_38 rfl hl (by decide) rfl (fun ls hl => ?_)
      refine lv_iconst (v := (0 : Int32)) hx hb dX8_bestSeed_39 (by decide) ?_
      refine lv_istore (lv' := [(4, .int (0 : Int32)), (3, .int (-6 : Int32)), (0, .ref (a 0)), (1, .int v1), (2, .int v2)]) hx hb dX8_bestSeed_40 hl (by decide) rfl (fun ls hl => ?_)
      refine lv_iconst (v := (0 : Int32)) hx hb dX8_bestSeed_42 (by decide) ?_
      refine lv_istore (lv' := [(5, .int (0 : Int32)), (4, .int (0 : Int32)), (3, .int (-6 : Int32)), (0, .ref (a 0)), (1, .int v1), (2, .int v2)]) hx hb dX8_bestSeed_43 hl (by decide) rfl (fun ls hl => ?_)
      exact w8_bestSeed_L45 C hK hA fo_fu h hG (lv_sub hl [3, 4, 5, 2, 1, 0] rfl)
    · have h := fo_it h hc
      refine lv_bipush (v := (-2 : Int32)) hx hb dX8_bestSeed_20 (by decide) ?_
      obtain rfl := Option.some.inj h
      exact gr_i hx hb hr hlocks hK hG rfl dX8_bestSeed_22
  · have h := fo_it h hc
    refine lv_iconst (v := (-1 : Int32)) hx hb dX8_bestSeed_8 (by decide) ?_
    obtain rfl := Option.some.inj h
    exact gr_i hx hb hr hlocks hK hG rfl dX8_bestSeed_9
set_option maxRecDepth 100000 in
set_option maxHeartbeats 4000000 in
theorem c8_bestSeed (l : Launch) {dC : Nat → ClassId} {dI : Nat → Nat → Nat} {cI : ClassId} {a : Nat → Nat} {v1 : Int32} {v2 : Int32} {S : ms_T} {q : (Int32 × ms_T)} (h : f8_bestSeed v1 v2 S = some q) : mi_M l yX8_bestSeed wm8_bestSeed RM8_bestSeed (dC, dI) [(cI, .int)] [.ref (a 0), .int v1, .int v2] (wd_M cI a S) q.1 (wd_M cI a q.2) := by
  intro sz
  refine Met.ofW (cc := cX8_bestSeed) (maxL := 8) (ret := (some .int)) (by decide) rfl ?_
  intro p e s m args below meth c s₁ B hml hv
  obtain ⟨rfl, hsz, hP, hK, hD0⟩ := hv
  subst hsz
  have hl := lv_entry ([.ref (a 0), .int v1, .int v2] : List Value) (n := 8) (Nat.le_of_ble_eq_true rfl)
  rw [lg_entry_eq]
  generalize (lg_sl ([.ref (a 0), .int v1, .int v2] : List Value) ++ List.replicate (8 - (lg_sl ([.ref (a 0), .int v1, .int v2] : List Value)).length) Slot.unset).toArray = ls at hl ⊢
  exact w8_bestSeed (a := a) ⟨B.exec, B.bytes, B.returns, fun w hw => atoms_spec (ws := wm8_bestSeed) B.pre w (List.mem_cons_of_mem _ hw), findClass_of_methodNamed B.named, B.notSynchronized, hml⟩ hK (fun _ h => Or.inr h) h ⟨hP, hD0.self, va_S.rf⟩ hl
end
/-! ## DiceRoadsModel.put(J)I -/
section
variable {p : Program} {l : Launch} {e : Env} {s : State} {m : MethodId} {args : Array Value} {below : List Frame} {meth : Method} {c : Code} {dC : Nat → ClassId} {dI : Nat → Nat → Nat} {cI : ClassId} {A : Nat → Prop}
set_option maxRecDepth 100000 in
set_option maxHeartbeats 4000000 in
theorem w8_put_b105 (C : cx_M p s m args meth c RX8 cX8_put (some .int) 8) (hK : va_K (dC, dI) vwCl [(cI, .int)] s) (hA : ∀ q, s.heap.size ≤ q → A q) {a : Nat → Nat} {q : (Int32 × ms_T)} {rec105 : Int64 → Int32 → ms_T → Option (Int32 × ms_T)} (hrec105 : ∀ {v1 : Int64} {v7 : Int32} {S : ms_T} , rec105 v1 v7 S = some q → ∀ {H : Heap} {locs : List Loc} {ls : Array Slot}, gd_W (dC, dI) A s (wd_M cI a S) H locs → lv_has ls 8 [(0, .ref (a 0)), (1, .long v1), (7, .int v7)] → W p l e RM8_put s m args below meth c H locs 0 0 (MQ below (qi_W (dC, dI) [(cI, .int)] A q.1 (wd_M cI a q.2)) args s 0 0 A) (F0 m 105 ls [])) {v1 : Int64} {v7 : Int32} {S : ms_T} (h : f8_put_b105 rec105 v1 v7 S = some q) {H : Heap} {locs : List Loc} {ls : Array Slot} (hG : gd_W (dC, dI) A s (wd_M cI a S) H locs) (hl : lv_has ls 8 [(0, .ref (a 0)), (1, .long v1), (7, .int v7)]) : W p l e RM8_put s m args below meth c H locs 0 0 (MQ below (qi_W (dC, dI) [(cI, .int)] A q.1 (wd_M cI a q.2)) args s 0 0 A) (F0 m 105 ls []) := by
  unfold f8_put_b105 at h
  obtain ⟨hx, hb, hr, hts, hown, hlocks, hml⟩ := id C
  refine lv_iload hx hb dX8_put_105 (lv_at hl 2 rfl) ?_
  refine lv_if_lt (tgt := 147) hx hb dX8_put_107 (by decide) (fun hc => ?_) (fun hc => ?_)
  · have h := fo_it h hc
    refine lv_aload_n hx hb dX8_put_147 rfl (lv_at hl 0 rfl) ?_
    refine va_get (D := (dC, dI)) (ci := 7) (v := .int (S 8 1)) (C := RX8) (T := TX8) (N := 17) hx hb hts inlX8 hown hK hG.1 0 rfl rfl 7 (by decide) (hts (Cond.fieldLink RX8 186 "DiceRoadsModel" "padLength" "I") wq_644) (fun _ h9 => h9) rfl dX8_put_148 ?_
    obtain rfl := Option.some.inj h
    exact gr_i hx hb hr hlocks hK hG rfl dX8_put_151
  · have h := fo_if h hc
    refine lv_aload_n hx hb dX8_put_110 rfl (lv_at hl 0 rfl) ?_
    refine va_get (D := (dC, dI)) (ci := 7) (v := .ref (a 6)) (C := RX8) (T := TX8) (N := 17) hx hb hts inlX8 hown hK hG.1 0 rfl rfl 6 (by decide) (hts (Cond.fieldLink RX8 25 "DiceRoadsModel" "pad" "[I") wq_643) (fun _ h9 => h9) rfl dX8_put_111 ?_
    refine lv_aload_n hx hb dX8_put_114 rfl (lv_at hl 0 rfl) ?_
    refine va_get (D := (dC, dI)) (ci := 7) (v := .int (S 8 1)) (C := RX8) (T := TX8) (N := 17) hx hb hts inlX8 hown hK hG.1 0 rfl rfl 7 (by decide) (hts (Cond.fieldLink RX8 186 "DiceRoadsModel" "padLength" "I") wq_644) (fun _ h9 => h9) rfl dX8_put_115 ?_
    refine lv_lload_n hx hb dX8_put_118 rfl (lv_at hl 1 rfl) ?_
    refine lv_bipush (v := (8 : Int32)) hx hb dX8_put_119 (by decide) ?_
    refine lv_iload hx hb dX8_put_121 (lv_at hl 2 rfl) ?_
    refine lv_imul hx hb dX8_put_123 ?_
    refine lv_lushr (v := ((v1.toUInt64 >>> (((8 : Int32) * v7).toInt64.toUInt64 &&& Int64.toUInt64 63)).toInt64)) hx hb dX8_put_124 rfl ?_
    refine lv_ldc2 (v := (255 : Int64)) hx hb hown (hts (Cond.constantLong RX8 201 (255)) wq_925) dX8_put_125 ?_
    refine lv_land hx hb dX8_put_128 ?_
    refine lv_l2i (v := ((((v1.toUInt64 >>> (((8 : Int32) * v7).toInt64.toUInt64 &&& Int64.toUInt64 63)).toInt64) &&& (255 : Int64)).toInt32)) hx hb dX8_put_129 rfl ?_
    obtain ⟨hi, h⟩ := fo_ck_some h
    refine va_iast hx hb hK hG.1 hG.2.1 hG.2.2 6 0 rfl rfl hi dX8_put_130 (fun H locs hP9 hD9 hS9 => ?_)
    have hG : gd_W (dC, dI) A s (wd_M cI a (ms_set S 5 (upd (S 5) (S 8 1).toNatClampNeg ((((v1.toUInt64 >>> (((8 : Int32) * v7).toInt64.toUInt64 &&& Int64.toUInt64 63)).toInt64) &&& (255 : Int64)).toInt32)))) H locs := ⟨hP9, hD9, hS9⟩
    refine lv_aload_n hx hb dX8_put_131 rfl (lv_at hl 0 rfl) ?_
    refine lv_dup hx hb dX8_put_132 rfl ?_
    refine va_get (D := (dC, dI)) (ci := 7) (v := .int ((ms_set S 5 (upd (S 5) (S 8 1).toNatClampNeg ((((v1.toUInt64 >>> (((8 : Int32) * v7).toInt64.toUInt64 &&& Int64.toUInt64 63)).toInt64) &&& (255 : Int64)).toInt32))) 8 1)) (C := RX8) (T := TX8) (N := 17) hx hb hts inlX8 hown hK hG.1 0 rfl rfl 7 (by decide) (hts (Cond.fieldLink RX8 186 "DiceRoadsModel" "padLength" "I") wq_644) (fun _ h9 => h9) rfl dX8_put_133 ?_
    refine lv_iconst (v := (1 : Int32)) hx hb dX8_put_136 (by decide) ?_
    refine lv_iadd hx hb dX8_put_137 ?_
    refine va_put (D := (dC, dI)) (ci := 7) (v := .int (((ms_set S 5 (upd (S 5) (S 8 1).toNatClampNeg ((((v1.toUInt64 >>> (((8 : Int32) * v7).toInt64.toUInt64 &&& Int64.toUInt64 63)).toInt64) &&& (255 : Int64)).toInt32))) 8 1) + (1 : Int32))) (ty := .int) (C := RX8) (T := TX8) (N := 17) hx hb hts inlX8 tyX8 tyX8_ok nmX8 hown hK hG.1 hG.2.1 hG.2.2 0 rfl rfl 7 (by decide) (hts (Cond.fieldLink RX8 186 "DiceRoadsModel" "padLength" "I") wq_644) (fun _ h9 => h9) rfl (by decide +kernel) rfl rfl (Nat.le_of_ble_eq_true rfl) dX8_put_138 (fun H locs hP9 hD9 hS9 => ?_)
    have hG : gd_W (dC, dI) A s (wd_M cI a (ms_set (ms_set S 5 (upd (S 5) (S 8 1).toNatClampNeg ((((v1.toUInt64 >>> (((8 : Int32) * v7).toInt64.toUInt64 &&& Int64.toUInt64 63)).toInt64) &&& (255 : Int64)).toInt32))) 8 (upd ((ms_set S 5 (upd (S 5) (S 8 1).toNatClampNeg ((((v1.toUInt64 >>> (((8 : Int32) * v7).toInt64.toUInt64 &&& Int64.toUInt64 63)).toInt64) &&& (255 : Int64)).toInt32))) 8) 1 (((ms_set S 5 (upd (S 5) (S 8 1).toNatClampNeg ((((v1.toUInt64 >>> (((8 : Int32) * v7).toInt64.toUInt64 &&& Int64.toUInt64 63)).toInt64) &&& (255 : Int64)).toInt32))) 8 1) + (1 : Int32))))) H locs := ⟨hP9, hD9, hS9⟩
    refine lv_iinc (v := (v7 + (-1 : Int32))) (lv' := [(7, .int (v7 + (-1 : Int32))), (0, .ref (a 0)), (1, .long v1)]) hx hb dX8_put_141 hl (k := 2) rfl rfl (by decide) rfl (fun ls hl => ?_)
    refine lv_goto (tgt := 105) hx hb dX8_put_144 (by decide) ?_
    exact hrec105 h hG (lv_sub hl [1, 2, 0] rfl)
set_option maxRecDepth 100000 in
set_option maxHeartbeats 4000000 in
theorem w8_put_L105 (C : cx_M p s m args meth c RX8 cX8_put (some .int) 8) (hK : va_K (dC, dI) vwCl [(cI, .int)] s) (hA : ∀ q, s.heap.size ≤ q → A q) {a : Nat → Nat} {q : (Int32 × ms_T)} : ∀ (n : Nat) {v1 : Int64} {v7 : Int32} {S : ms_T}, f8_put_L105 n v1 v7 S = some q → ∀ {H : Heap} {locs : List Loc} {ls : Array Slot}, gd_W (dC, dI) A s (wd_M cI a S) H locs → lv_has ls 8 [(0, .ref (a 0)), (1, .long v1), (7, .int v7)] → W p l e RM8_put s m args below meth c H locs 0 0 (MQ below (qi_W (dC, dI) [(cI, .int)] A q.1 (wd_M cI a q.2)) args s 0 0 A) (F0 m 105 ls []) := by
  intro n
  induction n with
  | zero => intro _ _ _ h; exact nomatch h
  | succ n ih => intro v1 v7 S h H locs ls hG hl; exact w8_put_b105 C hK hA (fun h => ih h) (show f8_put_b105 (f8_put_L105 n) v1 v7 S = some q from h) hG hl
set_option maxRecDepth 100000 in
set_option maxHeartbeats 4000000 in
theorem w8_put_b67 (C : cx_M p s m args meth c RX8 cX8_put (some .int) 8) (hK : va_K (dC, dI) vwCl [(cI, .int)] s) (hA : ∀ q, s.heap.size ≤ q → A q) {a : Nat → Nat} {q : (Int32 × ms_T)} {v1 : Int64} {v3 : Int32} {v4 : Int64} {v6 : Int32} {S : ms_T} (h : f8_put_b67 v1 v3 v4 v6 S = some q) {H : Heap} {locs : List Loc} {ls : Array Slot} (hG : gd_W (dC, dI) A s (wd_M cI a S) H locs) (hl : lv_has ls 8 [(0, .ref (a 0)), (1, .long v1), (3, .int v3), (4, .long v4), (6, .int v6)]) : W p l e RM8_put s m args below meth c H locs 0 0 (MQ below (qi_W (dC, dI) [(cI, .int)] A q.1 (wd_M cI a q.2)) args s 0 0 A) (F0 m 67 ls []) := by
  unfold f8_put_b67 at h
  obtain ⟨hx, hb, hr, hts, hown, hlocks, hml⟩ := id C
  refine lv_iload_n hx hb dX8_put_67 rfl (lv_at hl 2 rfl) ?_
  refine lv_if_eq (tgt := 83) hx hb dX8_put_68 (by decide) (fun hc => ?_) (fun hc => ?_)
  · have h := fo_it h hc
    refine lv_bipush (v := (-2 : Int32)) hx hb dX8_put_83 (by decide) ?_
    obtain rfl := Option.some.inj h
    exact gr_i hx hb hr hlocks hK hG rfl dX8_put_85
  · have h := fo_if h hc
    refine lv_iload hx hb dX8_put_71 (lv_at hl 4 rfl) ?_
    refine lv_if_eq (tgt := 83) hx hb dX8_put_73 (by decide) (fun hc => ?_) (fun hc => ?_)
    · have h := fo_it h hc
      refine lv_bipush (v := (-2 : Int32)) hx hb dX8_put_83 (by decide) ?_
      obtain rfl := Option.some.inj h
      exact gr_i hx hb hr hlocks hK hG rfl dX8_put_85
    · have h := fo_if h hc
      refine lv_lload hx hb dX8_put_76 (lv_at hl 3 rfl) ?_
      refine lv_lconst (v := (0 : Int64)) hx hb dX8_put_78 (by decide) ?_
      refine W.lcmp hx hb dX8_put_79 ?_
      refine lv_if_eq (tgt := 86) hx hb dX8_put_80 (by decide) (fun hc => ?_) (fun hc => ?_)
      · have h := fo_it h hc
        refine lv_aload_n hx hb dX8_put_86 rfl (lv_at hl 0 rfl) ?_
        refine va_get (D := (dC, dI)) (ci := 7) (v := .int (S 8 1)) (C := RX8) (T := TX8) (N := 17) hx hb hts inlX8 hown hK hG.1 0 rfl rfl 7 (by decide) (hts (Cond.fieldLink RX8 186 "DiceRoadsModel" "padLength" "I") wq_644) (fun _ h9 => h9) rfl dX8_put_87 ?_
        refine lv_iload_n hx hb dX8_put_90 rfl (lv_at hl 2 rfl) ?_
        refine lv_iadd hx hb dX8_put_91 ?_
        refine lv_bipush (v := (80 : Int32)) hx hb dX8_put_92 (by decide) ?_
        refine lv_icmp_le (tgt := 100) hx hb dX8_put_94 (by decide) (fun hc => ?_) (fun hc => ?_)
        · have h := fo_it h hc
          refine lv_iload_n hx hb dX8_put_100 rfl (lv_at hl 2 rfl) ?_
          refine lv_iconst (v := (1 : Int32)) hx hb dX8_put_101 (by decide) ?_
          refine lv_isub hx hb dX8_put_102 ?_
          refine lv_istore (lv' := [(7, .int (v3 - (1 : Int32))), (0, .ref (a 0)), (1, .long v1), (3, .int v3), (4, .long v4), (6, .int v6)]) hx hb dX8_put_103 hl (by decide) rfl (fun ls hl => ?_)
          exact w8_put_L105 C hK hA fo_fu h hG (lv_sub hl [1, 2, 0] rfl)
        · have h := fo_if h hc
          refine lv_bipush (v := (-4 : Int32)) hx hb dX8_put_97 (by decide) ?_
          obtain rfl := Option.some.inj h
          exact gr_i hx hb hr hlocks hK hG rfl dX8_put_99
      · have h := fo_if h hc
        refine lv_bipush (v := (-2 : Int32)) hx hb dX8_put_83 (by decide) ?_
        obtain rfl := Option.some.inj h
        exact gr_i hx hb hr hlocks hK hG rfl dX8_put_85
set_option maxRecDepth 100000 in
set_option maxHeartbeats 4000000 in
theorem w8_put_b52 (C : cx_M p s m args meth c RX8 cX8_put (some .int) 8) (hK : va_K (dC, dI) vwCl [(cI, .int)] s) (hA : ∀ q, s.heap.size ≤ q → A q) {a : Nat → Nat} {q : (Int32 × ms_T)} {rec8 : Int64 → Int32 → Int64 → Int32 → ms_T → Option (Int32 × ms_T)} (hrec8 : ∀ {v1 : Int64} {v3 : Int32} {v4 : Int64} {v6 : Int32} {S : ms_T} , rec8 v1 v3 v4 v6 S = some q → ∀ {H : Heap} {locs : List Loc} {ls : Array Slot}, gd_W (dC, dI) A s (wd_M cI a S) H locs → lv_has ls 8 [(0, .ref (a 0)), (1, .long v1), (3, .int v3), (4, .long v4), (6, .int v6)] → W p l e RM8_put s m args below meth c H locs 0 0 (MQ below (qi_W (dC, dI) [(cI, .int)] A q.1 (wd_M cI a q.2)) args s 0 0 A) (F0 m 8 ls [])) {v1 : Int64} {v3 : Int32} {v4 : Int64} {t0 : Int32} {S : ms_T} (h : f8_put_b52 rec8 v1 v3 v4 t0 S = some q) {H : Heap} {locs : List Loc} {ls : Array Slot} (hG : gd_W (dC, dI) A s (wd_M cI a S) H locs) (hl : lv_has ls 8 [(0, .ref (a 0)), (1, .long v1), (3, .int v3), (4, .long v4)]) : W p l e RM8_put s m args below meth c H locs 0 0 (MQ below (qi_W (dC, dI) [(cI, .int)] A q.1 (wd_M cI a q.2)) args s 0 0 A) (F0 m 52 ls [.int t0]) := by
  unfold f8_put_b52 at h
  obtain ⟨hx, hb, hr, hts, hown, hlocks, hml⟩ := id C
  refine lv_istore (lv' := [(6, .int t0), (0, .ref (a 0)), (1, .long v1), (3, .int v3), (4, .long v4)]) hx hb dX8_put_52 hl (by decide) rfl (fun ls hl => ?_)
  refine lv_lload hx hb dX8_put_54 (lv_at hl 4 rfl) ?_
  refine lv_bipush (v := (8 : Int32)) hx hb dX8_put_56 (by decide) ?_
  refine lv_lushr (v := ((v4.toUInt64 >>> ((8 : Int32).toInt64.toUInt64 &&& Int64.toUInt64 63)).toInt64)) hx hb dX8_put_58 rfl ?_
  refine lv_lstore (lv' := [(4, .long ((v4.toUInt64 >>> ((8 : Int32).toInt64.toUInt64 &&& Int64.toUInt64 63)).toInt64)), (6, .int t0), (0, .ref (a 0)), (1, .long v1), (3, .int v3)]) hx hb dX8_put_59 hl (by decide) rfl (fun ls hl => ?_)
  refine lv_iinc (v := (v3 + (1 : Int32))) (lv' := [(3, .int (v3 + (1 : Int32))), (4, .long ((v4.toUInt64 >>> ((8 : Int32).toInt64.toUInt64 &&& Int64.toUInt64 63)).toInt64)), (6, .int t0), (0, .ref (a 0)), (1, .long v1)]) hx hb dX8_put_61 hl (k := 4) rfl rfl (by decide) rfl (fun ls hl => ?_)
  refine lv_goto (tgt := 8) hx hb dX8_put_64 (by decide) ?_
  exact hrec8 h hG (lv_sub hl [3, 4, 0, 1, 2] rfl)
set_option maxRecDepth 100000 in
set_option maxHeartbeats 4000000 in
theorem w8_put_b51 (C : cx_M p s m args meth c RX8 cX8_put (some .int) 8) (hK : va_K (dC, dI) vwCl [(cI, .int)] s) (hA : ∀ q, s.heap.size ≤ q → A q) {a : Nat → Nat} {q : (Int32 × ms_T)} {rec8 : Int64 → Int32 → Int64 → Int32 → ms_T → Option (Int32 × ms_T)} (hrec8 : ∀ {v1 : Int64} {v3 : Int32} {v4 : Int64} {v6 : Int32} {S : ms_T} , rec8 v1 v3 v4 v6 S = some q → ∀ {H : Heap} {locs : List Loc} {ls : Array Slot}, gd_W (dC, dI) A s (wd_M cI a S) H locs → lv_has ls 8 [(0, .ref (a 0)), (1, .long v1), (3, .int v3), (4, .long v4), (6, .int v6)] → W p l e RM8_put s m args below meth c H locs 0 0 (MQ below (qi_W (dC, dI) [(cI, .int)] A q.1 (wd_M cI a q.2)) args s 0 0 A) (F0 m 8 ls [])) {v1 : Int64} {v3 : Int32} {v4 : Int64} {S : ms_T} (h : f8_put_b51 rec8 v1 v3 v4 S = some q) {H : Heap} {locs : List Loc} {ls : Array Slot} (hG : gd_W (dC, dI) A s (wd_M cI a S) H locs) (hl : lv_has ls 8 [(0, .ref (a 0)), (1, .long v1), (3, .int v3), (4, .long v4)]) : W p l e RM8_put s m args below meth c H locs 0 0 (MQ below (qi_W (dC, dI) [(cI, .int)] A q.1 (wd_M cI a q.2)) args s 0 0 A) (F0 m 51 ls []) := by
  unfold f8_put_b51 at h
  obtain ⟨hx, hb, hr, hts, hown, hlocks, hml⟩ := id C
  refine lv_iconst (v := (0 : Int32)) hx hb dX8_put_51 (by decide) ?_
  exact w8_put_b52 C hK hA (fun h => hrec8 h) h hG (lv_sub hl [0, 1, 2, 3] rfl)
set_option maxRecDepth 100000 in
set_option maxHeartbeats 4000000 in
theorem w8_put_b8 (C : cx_M p s m args meth c RX8 cX8_put (some .int) 8) (hK : va_K (dC, dI) vwCl [(cI, .int)] s) (hA : ∀ q, s.heap.size ≤ q → A q) {a : Nat → Nat} {q : (Int32 × ms_T)} {rec8 : Int64 → Int32 → Int64 → Int32 → ms_T → Option (Int32 × ms_T)} (hrec8 : ∀ {v1 : Int64} {v3 : Int32} {v4 : Int64} {v6 : Int32} {S : ms_T} , rec8 v1 v3 v4 v6 S = some q → ∀ {H : Heap} {locs : List Loc} {ls : Array Slot}, gd_W (dC, dI) A s (wd_M cI a S) H locs → lv_has ls 8 [(0, .ref (a 0)), (1, .long v1), (3, .int v3), (4, .long v4), (6, .int v6)] → W p l e RM8_put s m args below meth c H locs 0 0 (MQ below (qi_W (dC, dI) [(cI, .int)] A q.1 (wd_M cI a q.2)) args s 0 0 A) (F0 m 8 ls [])) {v1 : Int64} {v3 : Int32} {v4 : Int64} {v6 : Int32} {S : ms_T} (h : f8_put_b8 rec8 v1 v3 v4 v6 S = some q) {H : Heap} {locs : List Loc} {ls : Array Slot} (hG : gd_W (dC, dI) A s (wd_M cI a S) H locs) (hl : lv_has ls 8 [(0, .ref (a 0)), (1, .long v1), (3, .int v3), (4, .long v4), (6, .int v6)]) : W p l e RM8_put s m args below meth c H locs 0 0 (MQ below (qi_W (dC, dI) [(cI, .int)] A q.1 (wd_M cI a q.2)) args s 0 0 A) (F0 m 8 ls []) := by
  unfold f8_put_b8 at h
  obtain ⟨hx, hb, hr, hts, hown, hlocks, hml⟩ := id C
  refine lv_iload_n hx hb dX8_put_8 rfl (lv_at hl 2 rfl) ?_
  refine lv_bipush (v := (8 : Int32)) hx hb dX8_put_9 (by decide) ?_
  refine lv_icmp_ge (tgt := 67) hx hb dX8_put_11 (by decide) (fun hc => ?_) (fun hc => ?_)
  · have h := fo_it h hc
    exact w8_put_b67 C hK hA h hG (lv_sub hl [0, 1, 2, 3, 4] rfl)
  · have h := fo_if h hc
    refine lv_lload hx hb dX8_put_14 (lv_at hl 3 rfl) ?_
    refine lv_ldc2 (v := (255 : Int64)) hx hb hown (hts (Cond.constantLong RX8 201 (255)) wq_925) dX8_put_16 ?_
    refine lv_land hx hb dX8_put_19 ?_
    refine lv_lconst (v := (0 : Int64)) hx hb dX8_put_20 (by decide) ?_
    refine W.lcmp hx hb dX8_put_21 ?_
    refine lv_if_eq (tgt := 67) hx hb dX8_put_22 (by decide) (fun hc => ?_) (fun hc => ?_)
    · have h := fo_it h hc
      exact w8_put_b67 C hK hA h hG (lv_sub hl [0, 1, 2, 3, 4] rfl)
    · have h := fo_if h hc
      refine lv_iload hx hb dX8_put_25 (lv_at hl 4 rfl) ?_
      refine lv_if_eq (tgt := 51) hx hb dX8_put_27 (by decide) (fun hc => ?_) (fun hc => ?_)
      · have h := fo_it h hc
        exact w8_put_b51 C hK hA (fun h => hrec8 h) h hG (lv_sub hl [0, 1, 2, 3] rfl)
      · have h := fo_if h hc
        refine lv_lload hx hb dX8_put_30 (lv_at hl 3 rfl) ?_
        refine lv_ldc2 (v := (255 : Int64)) hx hb hown (hts (Cond.constantLong RX8 201 (255)) wq_925) dX8_put_32 ?_
        refine lv_land hx hb dX8_put_35 ?_
        refine lv_l2i (v := ((v4 &&& (255 : Int64)).toInt32)) hx hb dX8_put_36 rfl ?_
        refine lv_bipush (v := (33 : Int32)) hx hb dX8_put_37 (by decide) ?_
        refine lv_bipush (v := (126 : Int32)) hx hb dX8_put_39 (by decide) ?_
        obtain ⟨q41, hq41, h⟩ := fo_bd_some h
        refine gc_iS (As := [.int ((v4 &&& (255 : Int64)).toInt32), .int (33 : Int32), .int (126 : Int32)]) (rest := []) (wc := ([] : va_W)) (w1 := ([] : va_W)) ⟨hx, hb, hml, hown, hts⟩ (c8_within l (a := a) hq41) (va_cwS 3 hts gv_X8_42 rfl rfl rfl hd8_within ⟨Nat.le_of_ble_eq_true rfl, Nat.le_of_ble_eq_true rfl⟩) hK [] rfl hA hG [] rfl rfl rfl rfl hl.1 rfl (Nat.le_of_ble_eq_true rfl) dX8_put_41 ⟨Nat.zero_le _, Nat.zero_le _⟩ (fun H locs hG9 => ?_)
        have hG : gd_W (dC, dI) A s (wd_M cI a S) H locs := hG9
        refine lv_if_eq (tgt := 51) hx hb dX8_put_44 (by decide) (fun hc => ?_) (fun hc => ?_)
        · have h := fo_it h hc
          exact w8_put_b51 C hK hA (fun h => hrec8 h) h hG (lv_sub hl [0, 1, 2, 3] rfl)
        · have h := fo_if h hc
          refine lv_iconst (v := (1 : Int32)) hx hb dX8_put_47 (by decide) ?_
          refine lv_goto (tgt := 52) hx hb dX8_put_48 (by decide) ?_
          exact w8_put_b52 C hK hA (fun h => hrec8 h) h hG (lv_sub hl [0, 1, 2, 3] rfl)
set_option maxRecDepth 100000 in
set_option maxHeartbeats 4000000 in
theorem w8_put_L8 (C : cx_M p s m args meth c RX8 cX8_put (some .int) 8) (hK : va_K (dC, dI) vwCl [(cI, .int)] s) (hA : ∀ q, s.heap.size ≤ q → A q) {a : Nat → Nat} {q : (Int32 × ms_T)} : ∀ (n : Nat) {v1 : Int64} {v3 : Int32} {v4 : Int64} {v6 : Int32} {S : ms_T}, f8_put_L8 n v1 v3 v4 v6 S = some q → ∀ {H : Heap} {locs : List Loc} {ls : Array Slot}, gd_W (dC, dI) A s (wd_M cI a S) H locs → lv_has ls 8 [(0, .ref (a 0)), (1, .long v1), (3, .int v3), (4, .long v4), (6, .int v6)] → W p l e RM8_put s m args below meth c H locs 0 0 (MQ below (qi_W (dC, dI) [(cI, .int)] A q.1 (wd_M cI a q.2)) args s 0 0 A) (F0 m 8 ls []) := by
  intro n
  induction n with
  | zero => intro _ _ _ _ _ h; exact nomatch h
  | succ n ih => intro v1 v3 v4 v6 S h H locs ls hG hl; exact w8_put_b8 C hK hA (fun h => ih h) (show f8_put_b8 (f8_put_L8 n) v1 v3 v4 v6 S = some q from h) hG hl
set_option maxRecDepth 100000 in
set_option maxHeartbeats 4000000 in
theorem w8_put (C : cx_M p s m args meth c RX8 cX8_put (some .int) 8) (hK : va_K (dC, dI) vwCl [(cI, .int)] s) (hA : ∀ q, s.heap.size ≤ q → A q) {a : Nat → Nat} {q : (Int32 × ms_T)} {v1 : Int64} {S : ms_T} (h : f8_put v1 S = some q) {H : Heap} {locs : List Loc} {ls : Array Slot} (hG : gd_W (dC, dI) A s (wd_M cI a S) H locs) (hl : lv_has ls 8 [(0, .ref (a 0)), (1, .long v1)]) : W p l e RM8_put s m args below meth c H locs 0 0 (MQ below (qi_W (dC, dI) [(cI, .int)] A q.1 (wd_M cI a q.2)) args s 0 0 A) (F0 m 0 ls []) := by
  unfold f8_put at h
  obtain ⟨hx, hb, hr, hts, hown, hlocks, hml⟩ := id C
  refine lv_iconst (v := (0 : Int32)) hx hb dX8_put_0 (by decide) ?_
  refine lv_istore_n (lv' := [(3, .int (0 : Int32)), (0, .ref (a 0)), (1, .long v1)]) hx hb dX8_put_1 rfl hl (by decide) rfl (fun ls hl => ?_)
  refine lv_lload_n hx hb dX8_put_2 rfl (lv_at hl 2 rfl) ?_
  refine lv_lstore (lv' := [(4, .long v1), (3, .int (0 : Int32)), (0, .ref (a 0)), (1, .long v1)]) hx hb dX8_put_3 hl (by decide) rfl (fun ls hl => ?_)
  refine lv_iconst (v := (1 : Int32)) hx hb dX8_put_5 (by decide) ?_
  refine lv_istore (lv' := [(6, .int (1 : Int32)), (4, .long v1), (3, .int (0 : Int32)), (0, .ref (a 0)), (1, .long v1)]) hx hb dX8_put_6 hl (by decide) rfl (fun ls hl => ?_)
  exact w8_put_L8 C hK hA fo_fu h hG (lv_sub hl [3, 4, 2, 1, 0] rfl)
set_option maxRecDepth 100000 in
set_option maxHeartbeats 4000000 in
theorem c8_put (l : Launch) {dC : Nat → ClassId} {dI : Nat → Nat → Nat} {cI : ClassId} {a : Nat → Nat} {v1 : Int64} {S : ms_T} {q : (Int32 × ms_T)} (h : f8_put v1 S = some q) : mi_M l yX8_put wm8_put RM8_put (dC, dI) [(cI, .int)] [.ref (a 0), .long v1] (wd_M cI a S) q.1 (wd_M cI a q.2) := by
  intro sz
  refine Met.ofW (cc := cX8_put) (maxL := 8) (ret := (some .int)) (by decide) rfl ?_
  intro p e s m args below meth c s₁ B hml hv
  obtain ⟨rfl, hsz, hP, hK, hD0⟩ := hv
  subst hsz
  have hl := lv_entry ([.ref (a 0), .long v1] : List Value) (n := 8) (Nat.le_of_ble_eq_true rfl)
  rw [lg_entry_eq]
  generalize (lg_sl ([.ref (a 0), .long v1] : List Value) ++ List.replicate (8 - (lg_sl ([.ref (a 0), .long v1] : List Value)).length) Slot.unset).toArray = ls at hl ⊢
  exact w8_put (a := a) ⟨B.exec, B.bytes, B.returns, fun w hw => atoms_spec (ws := wm8_put) B.pre w (List.mem_cons_of_mem _ hw), findClass_of_methodNamed B.named, B.notSynchronized, hml⟩ hK (fun _ h => Or.inr h) h ⟨hP, hD0.self, va_S.rf⟩ hl
end
/-! ## DiceRoadsModel.wipe()I -/
section
variable {p : Program} {l : Launch} {e : Env} {s : State} {m : MethodId} {args : Array Value} {below : List Frame} {meth : Method} {c : Code} {dC : Nat → ClassId} {dI : Nat → Nat → Nat} {cI : ClassId} {A : Nat → Prop}
set_option maxRecDepth 100000 in
set_option maxHeartbeats 4000000 in
theorem w8_wipe (C : cx_M p s m args meth c RX8 cX8_wipe (some .int) 2) (hK : va_K (dC, dI) vwCl [(cI, .int)] s) (hA : ∀ q, s.heap.size ≤ q → A q) {a : Nat → Nat} {q : (Int32 × ms_T)} {S : ms_T} (h : f8_wipe S = some q) {H : Heap} {locs : List Loc} {ls : Array Slot} (hG : gd_W (dC, dI) A s (wd_M cI a S) H locs) (hl : lv_has ls 2 [(0, .ref (a 0))]) : W p l e RM8_wipe s m args below meth c H locs 0 0 (MQ below (qi_W (dC, dI) [(cI, .int)] A q.1 (wd_M cI a q.2)) args s 0 0 A) (F0 m 0 ls []) := by
  unfold f8_wipe at h
  obtain ⟨hx, hb, hr, hts, hown, hlocks, hml⟩ := id C
  refine lv_aload_n hx hb dX8_wipe_0 rfl (lv_at hl 0 rfl) ?_
  refine va_get (D := (dC, dI)) (ci := 7) (v := .int (S 8 1)) (C := RX8) (T := TX8) (N := 17) hx hb hts inlX8 hown hK hG.1 0 rfl rfl 7 (by decide) (hts (Cond.fieldLink RX8 186 "DiceRoadsModel" "padLength" "I") wq_644) (fun _ h9 => h9) rfl dX8_wipe_1 ?_
  refine lv_istore_n (lv' := [(1, .int (S 8 1)), (0, .ref (a 0))]) hx hb dX8_wipe_4 rfl hl (by decide) rfl (fun ls hl => ?_)
  refine lv_aload_n hx hb dX8_wipe_5 rfl (lv_at hl 1 rfl) ?_
  refine lv_iconst (v := (0 : Int32)) hx hb dX8_wipe_6 (by decide) ?_
  refine va_put (D := (dC, dI)) (ci := 7) (v := .int (0 : Int32)) (ty := .int) (C := RX8) (T := TX8) (N := 17) hx hb hts inlX8 tyX8 tyX8_ok nmX8 hown hK hG.1 hG.2.1 hG.2.2 0 rfl rfl 7 (by decide) (hts (Cond.fieldLink RX8 186 "DiceRoadsModel" "padLength" "I") wq_644) (fun _ h9 => h9) rfl (by decide +kernel) rfl rfl (Nat.le_of_ble_eq_true rfl) dX8_wipe_7 (fun H locs hP9 hD9 hS9 => ?_)
  have hG : gd_W (dC, dI) A s (wd_M cI a (ms_set S 8 (upd (S 8) 1 (0 : Int32)))) H locs := ⟨hP9, hD9, hS9⟩
  refine lv_iload_n hx hb dX8_wipe_10 rfl (lv_at hl 0 rfl) ?_
  obtain rfl := Option.some.inj h
  exact gr_i hx hb hr hlocks hK hG rfl dX8_wipe_11
set_option maxRecDepth 100000 in
set_option maxHeartbeats 4000000 in
theorem c8_wipe (l : Launch) {dC : Nat → ClassId} {dI : Nat → Nat → Nat} {cI : ClassId} {a : Nat → Nat} {S : ms_T} {q : (Int32 × ms_T)} (h : f8_wipe S = some q) : mi_M l yX8_wipe wm8_wipe RM8_wipe (dC, dI) [(cI, .int)] [.ref (a 0)] (wd_M cI a S) q.1 (wd_M cI a q.2) := by
  intro sz
  refine Met.ofW (cc := cX8_wipe) (maxL := 2) (ret := (some .int)) (by decide) rfl ?_
  intro p e s m args below meth c s₁ B hml hv
  obtain ⟨rfl, hsz, hP, hK, hD0⟩ := hv
  subst hsz
  have hl := lv_entry ([.ref (a 0)] : List Value) (n := 2) (Nat.le_of_ble_eq_true rfl)
  rw [lg_entry_eq]
  generalize (lg_sl ([.ref (a 0)] : List Value) ++ List.replicate (2 - (lg_sl ([.ref (a 0)] : List Value)).length) Slot.unset).toArray = ls at hl ⊢
  exact w8_wipe (a := a) ⟨B.exec, B.bytes, B.returns, fun w hw => atoms_spec (ws := wm8_wipe) B.pre w (List.mem_cons_of_mem _ hw), findClass_of_methodNamed B.named, B.notSynchronized, hml⟩ hK (fun _ h => Or.inr h) h ⟨hP, hD0.self, va_S.rf⟩ hl
end
/-! ## DiceRoadsModel.character(I)I -/
section
variable {p : Program} {l : Launch} {e : Env} {s : State} {m : MethodId} {args : Array Value} {below : List Frame} {meth : Method} {c : Code} {dC : Nat → ClassId} {dI : Nat → Nat → Nat} {cI : ClassId} {A : Nat → Prop}
set_option maxRecDepth 100000 in
set_option maxHeartbeats 4000000 in
theorem w8_character (C : cx_M p s m args meth c RX8 cX8_character (some .int) 2) (hK : va_K (dC, dI) vwCl [(cI, .int)] s) (hA : ∀ q, s.heap.size ≤ q → A q) {a : Nat → Nat} {q : Int32} {v1 : Int32} {S : ms_T} (h : f8_character v1 S = some q) {H : Heap} {locs : List Loc} {ls : Array Slot} (hG : gd_W (dC, dI) A s (wd_M cI a S) H locs) (hl : lv_has ls 2 [(0, .ref (a 0)), (1, .int v1)]) : W p l e RM8_character s m args below meth c H locs 0 0 (MQ below (qi_W (dC, dI) [(cI, .int)] A q (wd_M cI a S)) args s 0 0 A) (F0 m 0 ls []) := by
  unfold f8_character at h
  obtain ⟨hx, hb, hr, hts, hown, hlocks, hml⟩ := id C
  refine lv_iload_n hx hb dX8_character_0 rfl (lv_at hl 1 rfl) ?_
  refine lv_aload_n hx hb dX8_character_1 rfl (lv_at hl 0 rfl) ?_
  refine va_get (D := (dC, dI)) (ci := 7) (v := .int (S 8 1)) (C := RX8) (T := TX8) (N := 17) hx hb hts inlX8 hown hK hG.1 0 rfl rfl 7 (by decide) (hts (Cond.fieldLink RX8 186 "DiceRoadsModel" "padLength" "I") wq_644) (fun _ h9 => h9) rfl dX8_character_2 ?_
  refine lv_icmp_ge (tgt := 17) hx hb dX8_character_5 (by decide) (fun hc => ?_) (fun hc => ?_)
  · have h := fo_it h hc
    refine lv_iconst (v := (-1 : Int32)) hx hb dX8_character_17 (by decide) ?_
    exact gr_i hx hb hr hlocks hK hG (Option.some.inj h) dX8_character_18
  · have h := fo_if h hc
    refine lv_aload_n hx hb dX8_character_8 rfl (lv_at hl 0 rfl) ?_
    refine va_get (D := (dC, dI)) (ci := 7) (v := .ref (a 6)) (C := RX8) (T := TX8) (N := 17) hx hb hts inlX8 hown hK hG.1 0 rfl rfl 6 (by decide) (hts (Cond.fieldLink RX8 25 "DiceRoadsModel" "pad" "[I") wq_643) (fun _ h9 => h9) rfl dX8_character_9 ?_
    refine lv_iload_n hx hb dX8_character_12 rfl (lv_at hl 1 rfl) ?_
    obtain ⟨hi, h⟩ := fo_ck_some h
    refine va_iald hx hb hK hG.1 6 0 rfl rfl hi dX8_character_13 ?_
    refine lv_goto (tgt := 18) hx hb dX8_character_14 (by decide) ?_
    exact gr_i hx hb hr hlocks hK hG (Option.some.inj h) dX8_character_18
set_option maxRecDepth 100000 in
set_option maxHeartbeats 4000000 in
theorem c8_character (l : Launch) {dC : Nat → ClassId} {dI : Nat → Nat → Nat} {cI : ClassId} {a : Nat → Nat} {v1 : Int32} {S : ms_T} {q : Int32} (h : f8_character v1 S = some q) : mi_M l yX8_character wm8_character RM8_character (dC, dI) [(cI, .int)] [.ref (a 0), .int v1] (wd_M cI a S) q (wd_M cI a S) := by
  intro sz
  refine Met.ofW (cc := cX8_character) (maxL := 2) (ret := (some .int)) (by decide) rfl ?_
  intro p e s m args below meth c s₁ B hml hv
  obtain ⟨rfl, hsz, hP, hK, hD0⟩ := hv
  subst hsz
  have hl := lv_entry ([.ref (a 0), .int v1] : List Value) (n := 2) (Nat.le_of_ble_eq_true rfl)
  rw [lg_entry_eq]
  generalize (lg_sl ([.ref (a 0), .int v1] : List Value) ++ List.replicate (2 - (lg_sl ([.ref (a 0), .int v1] : List Value)).length) Slot.unset).toArray = ls at hl ⊢
  exact w8_character (a := a) ⟨B.exec, B.bytes, B.returns, fun w hw => atoms_spec (ws := wm8_character) B.pre w (List.mem_cons_of_mem _ hw), findClass_of_methodNamed B.named, B.notSynchronized, hml⟩ hK (fun _ h => Or.inr h) h ⟨hP, hD0.self, va_S.rf⟩ hl
end
/-! ## DiceRoadsModel.isNext(I)Z -/
section
variable {p : Program} {l : Launch} {e : Env} {s : State} {m : MethodId} {args : Array Value} {below : List Frame} {meth : Method} {c : Code} {dC : Nat → ClassId} {dI : Nat → Nat → Nat} {cI : ClassId} {A : Nat → Prop}
set_option maxRecDepth 100000 in
set_option maxHeartbeats 4000000 in
theorem w8_isNext_b32 (C : cx_M p s m args meth c RX8 cX8_isNext (some .boolean) 3) (hK : va_K (dC, dI) vwCl [(cI, .int)] s) (hA : ∀ q, s.heap.size ≤ q → A q) {a : Nat → Nat} {q : (Int32 × ms_T)} {v2 : Int32} {t1 : Int32} {t2 : Int32} {S : ms_T} (h : f8_isNext_b32 v2 t1 t2 S = some q) {H : Heap} {locs : List Loc} {ls : Array Slot} (hG : gd_W (dC, dI) A s (wd_M cI a S) H locs) (hl : lv_has ls 3 [(2, .int v2)]) : W p l e RM8_isNext s m args below meth c H locs 0 0 (MQ below (qi_W (dC, dI) [(cI, .int)] A q.1 (wd_M cI a q.2)) args s 0 0 A) (F0 m 32 ls [.int t2, .int t1, .ref (a 0)]) := by
  unfold f8_isNext_b32 at h
  obtain ⟨hx, hb, hr, hts, hown, hlocks, hml⟩ := id C
  refine lv_iadd hx hb dX8_isNext_32 ?_
  refine va_put (D := (dC, dI)) (ci := 7) (v := .int (t1 + t2)) (ty := .int) (C := RX8) (T := TX8) (N := 17) hx hb hts inlX8 tyX8 tyX8_ok nmX8 hown hK hG.1 hG.2.1 hG.2.2 0 rfl rfl 14 (by decide) (hts (Cond.fieldLink RX8 203 "DiceRoadsModel" "at" "I") wq_651) (fun _ h9 => h9) rfl (by decide +kernel) rfl rfl (Nat.le_of_ble_eq_true rfl) dX8_isNext_33 (fun H locs hP9 hD9 hS9 => ?_)
  have hG : gd_W (dC, dI) A s (wd_M cI a (ms_set S 8 (upd (S 8) 6 (t1 + t2)))) H locs := ⟨hP9, hD9, hS9⟩
  refine lv_iload_n hx hb dX8_isNext_36 rfl (lv_at hl 0 rfl) ?_
  obtain ⟨hz, h⟩ := fo_zz_some h
  obtain rfl := Option.some.inj h
  exact gr_z hx hb hr hlocks hK hG rfl (nar_b hz) dX8_isNext_37
set_option maxRecDepth 100000 in
set_option maxHeartbeats 4000000 in
theorem w8_isNext_b17 (C : cx_M p s m args meth c RX8 cX8_isNext (some .boolean) 3) (hK : va_K (dC, dI) vwCl [(cI, .int)] s) (hA : ∀ q, s.heap.size ≤ q → A q) {a : Nat → Nat} {q : (Int32 × ms_T)} {t0 : Int32} {S : ms_T} (h : f8_isNext_b17 t0 S = some q) {H : Heap} {locs : List Loc} {ls : Array Slot} (hG : gd_W (dC, dI) A s (wd_M cI a S) H locs) (hl : lv_has ls 3 [(0, .ref (a 0))]) : W p l e RM8_isNext s m args below meth c H locs 0 0 (MQ below (qi_W (dC, dI) [(cI, .int)] A q.1 (wd_M cI a q.2)) args s 0 0 A) (F0 m 17 ls [.int t0]) := by
  unfold f8_isNext_b17 at h
  obtain ⟨hx, hb, hr, hts, hown, hlocks, hml⟩ := id C
  refine lv_istore_n (lv' := [(2, .int t0), (0, .ref (a 0))]) hx hb dX8_isNext_17 rfl hl (by decide) rfl (fun ls hl => ?_)
  refine lv_aload_n hx hb dX8_isNext_18 rfl (lv_at hl 1 rfl) ?_
  refine lv_dup hx hb dX8_isNext_19 rfl ?_
  refine va_get (D := (dC, dI)) (ci := 7) (v := .int (S 8 6)) (C := RX8) (T := TX8) (N := 17) hx hb hts inlX8 hown hK hG.1 0 rfl rfl 14 (by decide) (hts (Cond.fieldLink RX8 203 "DiceRoadsModel" "at" "I") wq_651) (fun _ h9 => h9) rfl dX8_isNext_20 ?_
  refine lv_iload_n hx hb dX8_isNext_23 rfl (lv_at hl 0 rfl) ?_
  refine lv_if_eq (tgt := 31) hx hb dX8_isNext_24 (by decide) (fun hc => ?_) (fun hc => ?_)
  · have h := fo_it h hc
    refine lv_iconst (v := (0 : Int32)) hx hb dX8_isNext_31 (by decide) ?_
    exact w8_isNext_b32 C hK hA h hG (lv_sub hl [0] rfl)
  · have h := fo_if h hc
    refine lv_iconst (v := (1 : Int32)) hx hb dX8_isNext_27 (by decide) ?_
    refine lv_goto (tgt := 32) hx hb dX8_isNext_28 (by decide) ?_
    exact w8_isNext_b32 C hK hA h hG (lv_sub hl [0] rfl)
set_option maxRecDepth 100000 in
set_option maxHeartbeats 4000000 in
theorem w8_isNext (C : cx_M p s m args meth c RX8 cX8_isNext (some .boolean) 3) (hK : va_K (dC, dI) vwCl [(cI, .int)] s) (hA : ∀ q, s.heap.size ≤ q → A q) {a : Nat → Nat} {q : (Int32 × ms_T)} {v1 : Int32} {S : ms_T} (h : f8_isNext v1 S = some q) {H : Heap} {locs : List Loc} {ls : Array Slot} (hG : gd_W (dC, dI) A s (wd_M cI a S) H locs) (hl : lv_has ls 3 [(0, .ref (a 0)), (1, .int v1)]) : W p l e RM8_isNext s m args below meth c H locs 0 0 (MQ below (qi_W (dC, dI) [(cI, .int)] A q.1 (wd_M cI a q.2)) args s 0 0 A) (F0 m 0 ls []) := by
  unfold f8_isNext at h
  obtain ⟨hx, hb, hr, hts, hown, hlocks, hml⟩ := id C
  refine lv_aload_n hx hb dX8_isNext_0 rfl (lv_at hl 0 rfl) ?_
  refine lv_aload_n hx hb dX8_isNext_1 rfl (lv_at hl 0 rfl) ?_
  refine va_get (D := (dC, dI)) (ci := 7) (v := .int (S 8 6)) (C := RX8) (T := TX8) (N := 17) hx hb hts inlX8 hown hK hG.1 0 rfl rfl 14 (by decide) (hts (Cond.fieldLink RX8 203 "DiceRoadsModel" "at" "I") wq_651) (fun _ h9 => h9) rfl dX8_isNext_2 ?_
  obtain ⟨q5, hq5, h⟩ := fo_bd_some h
  refine gc_iV (b := a 0) (C := RX8) (As := [.int (S 8 6)]) (rest := []) (wc := (wd_M cI a S)) (w1 := (wd_M cI a S)) (ci := 7) (q0 := 0) ⟨hx, hb, hml, hown, hts⟩ (c8_character l (a := a) hq5) (cwV 1 hts gv_X8_206 rfl rfl rfl hd8_character ⟨Nat.le_of_ble_eq_true rfl, Nat.le_of_ble_eq_true rfl⟩) hK [0] rfl hA hG [0, 1, 2, 3, 4, 5, 6, 7, 8] rfl rfl rfl rfl rfl rfl hl.1 rfl (Nat.le_of_ble_eq_true rfl) dX8_isNext_5 ⟨Nat.zero_le _, Nat.zero_le _⟩ (fun H locs hG9 => ?_)
  have hG : gd_W (dC, dI) A s (wd_M cI a S) H locs := hG9
  refine lv_iload_n hx hb dX8_isNext_8 rfl (lv_at hl 1 rfl) ?_
  refine lv_icmp_ne (tgt := 16) hx hb dX8_isNext_9 (by decide) (fun hc => ?_) (fun hc => ?_)
  · have h := fo_if h hc
    refine lv_iconst (v := (0 : Int32)) hx hb dX8_isNext_16 (by decide) ?_
    exact w8_isNext_b17 C hK hA h hG (lv_sub hl [0] rfl)
  · have h := fo_it h hc
    refine lv_iconst (v := (1 : Int32)) hx hb dX8_isNext_12 (by decide) ?_
    refine lv_goto (tgt := 17) hx hb dX8_isNext_13 (by decide) ?_
    exact w8_isNext_b17 C hK hA h hG (lv_sub hl [0] rfl)
set_option maxRecDepth 100000 in
set_option maxHeartbeats 4000000 in
theorem c8_isNext (l : Launch) {dC : Nat → ClassId} {dI : Nat → Nat → Nat} {cI : ClassId} {a : Nat → Nat} {v1 : Int32} {S : ms_T} {q : (Int32 × ms_T)} (h : f8_isNext v1 S = some q) : mi_M l yX8_isNext wm8_isNext RM8_isNext (dC, dI) [(cI, .int)] [.ref (a 0), .int v1] (wd_M cI a S) q.1 (wd_M cI a q.2) := by
  intro sz
  refine Met.ofW (cc := cX8_isNext) (maxL := 3) (ret := (some .boolean)) (by decide) rfl ?_
  intro p e s m args below meth c s₁ B hml hv
  obtain ⟨rfl, hsz, hP, hK, hD0⟩ := hv
  subst hsz
  have hl := lv_entry ([.ref (a 0), .int v1] : List Value) (n := 3) (Nat.le_of_ble_eq_true rfl)
  rw [lg_entry_eq]
  generalize (lg_sl ([.ref (a 0), .int v1] : List Value) ++ List.replicate (3 - (lg_sl ([.ref (a 0), .int v1] : List Value)).length) Slot.unset).toArray = ls at hl ⊢
  exact w8_isNext (a := a) ⟨B.exec, B.bytes, B.returns, fun w hw => atoms_spec (ws := wm8_isNext) B.pre w (List.mem_cons_of_mem _ hw), findClass_of_methodNamed B.named, B.notSynchronized, hml⟩ hK (fun _ h => Or.inr h) h ⟨hP, hD0.self, va_S.rf⟩ hl
end
/-! ## DiceRoadsModel.isDigit()Z -/
section
variable {p : Program} {l : Launch} {e : Env} {s : State} {m : MethodId} {args : Array Value} {below : List Frame} {meth : Method} {c : Code} {dC : Nat → ClassId} {dI : Nat → Nat → Nat} {cI : ClassId} {A : Nat → Prop}
set_option maxRecDepth 100000 in
set_option maxHeartbeats 4000000 in
theorem w8_isDigit (C : cx_M p s m args meth c RX8 cX8_isDigit (some .boolean) 1) (hK : va_K (dC, dI) vwCl [(cI, .int)] s) (hA : ∀ q, s.heap.size ≤ q → A q) {a : Nat → Nat} {q : Int32} {S : ms_T} (h : f8_isDigit S = some q) {H : Heap} {locs : List Loc} {ls : Array Slot} (hG : gd_W (dC, dI) A s (wd_M cI a S) H locs) (hl : lv_has ls 1 [(0, .ref (a 0))]) : W p l e RM8_isDigit s m args below meth c H locs 0 0 (MQ below (qi_W (dC, dI) [(cI, .int)] A q (wd_M cI a S)) args s 0 0 A) (F0 m 0 ls []) := by
  unfold f8_isDigit at h
  obtain ⟨hx, hb, hr, hts, hown, hlocks, hml⟩ := id C
  refine lv_aload_n hx hb dX8_isDigit_0 rfl (lv_at hl 0 rfl) ?_
  refine lv_aload_n hx hb dX8_isDigit_1 rfl (lv_at hl 0 rfl) ?_
  refine va_get (D := (dC, dI)) (ci := 7) (v := .int (S 8 6)) (C := RX8) (T := TX8) (N := 17) hx hb hts inlX8 hown hK hG.1 0 rfl rfl 14 (by decide) (hts (Cond.fieldLink RX8 203 "DiceRoadsModel" "at" "I") wq_651) (fun _ h9 => h9) rfl dX8_isDigit_2 ?_
  obtain ⟨q5, hq5, h⟩ := fo_bd_some h
  refine gc_iV (b := a 0) (C := RX8) (As := [.int (S 8 6)]) (rest := []) (wc := (wd_M cI a S)) (w1 := (wd_M cI a S)) (ci := 7) (q0 := 0) ⟨hx, hb, hml, hown, hts⟩ (c8_character l (a := a) hq5) (cwV 1 hts gv_X8_206 rfl rfl rfl hd8_character ⟨Nat.le_of_ble_eq_true rfl, Nat.le_of_ble_eq_true rfl⟩) hK [0] rfl hA hG [0, 1, 2, 3, 4, 5, 6, 7, 8] rfl rfl rfl rfl rfl rfl hl.1 rfl (Nat.le_of_ble_eq_true rfl) dX8_isDigit_5 ⟨Nat.zero_le _, Nat.zero_le _⟩ (fun H locs hG9 => ?_)
  have hG : gd_W (dC, dI) A s (wd_M cI a S) H locs := hG9
  refine lv_bipush (v := (48 : Int32)) hx hb dX8_isDigit_8 (by decide) ?_
  refine lv_bipush (v := (57 : Int32)) hx hb dX8_isDigit_10 (by decide) ?_
  obtain ⟨q12, hq12, h⟩ := fo_bd_some h
  refine gc_iS (As := [.int q5, .int (48 : Int32), .int (57 : Int32)]) (rest := []) (wc := ([] : va_W)) (w1 := ([] : va_W)) ⟨hx, hb, hml, hown, hts⟩ (c8_within l (a := a) hq12) (va_cwS 3 hts gv_X8_42 rfl rfl rfl hd8_within ⟨Nat.le_of_ble_eq_true rfl, Nat.le_of_ble_eq_true rfl⟩) hK [] rfl hA hG [] rfl rfl rfl rfl hl.1 rfl (Nat.le_of_ble_eq_true rfl) dX8_isDigit_12 ⟨Nat.zero_le _, Nat.zero_le _⟩ (fun H locs hG9 => ?_)
  have hG : gd_W (dC, dI) A s (wd_M cI a S) H locs := hG9
  obtain ⟨hz, h⟩ := fo_zz_some h
  exact gr_z hx hb hr hlocks hK hG (Option.some.inj h) (nar_b hz) dX8_isDigit_15
set_option maxRecDepth 100000 in
set_option maxHeartbeats 4000000 in
theorem c8_isDigit (l : Launch) {dC : Nat → ClassId} {dI : Nat → Nat → Nat} {cI : ClassId} {a : Nat → Nat} {S : ms_T} {q : Int32} (h : f8_isDigit S = some q) : mi_M l yX8_isDigit wm8_isDigit RM8_isDigit (dC, dI) [(cI, .int)] [.ref (a 0)] (wd_M cI a S) q (wd_M cI a S) := by
  intro sz
  refine Met.ofW (cc := cX8_isDigit) (maxL := 1) (ret := (some .boolean)) (by decide) rfl ?_
  intro p e s m args below meth c s₁ B hml hv
  obtain ⟨rfl, hsz, hP, hK, hD0⟩ := hv
  subst hsz
  have hl := lv_entry ([.ref (a 0)] : List Value) (n := 1) (Nat.le_of_ble_eq_true rfl)
  rw [lg_entry_eq]
  generalize (lg_sl ([.ref (a 0)] : List Value) ++ List.replicate (1 - (lg_sl ([.ref (a 0)] : List Value)).length) Slot.unset).toArray = ls at hl ⊢
  exact w8_isDigit (a := a) ⟨B.exec, B.bytes, B.returns, fun w hw => atoms_spec (ws := wm8_isDigit) B.pre w (List.mem_cons_of_mem _ hw), findClass_of_methodNamed B.named, B.notSynchronized, hml⟩ hK (fun _ h => Or.inr h) h ⟨hP, hD0.self, va_S.rf⟩ hl
end
/-! ## DiceRoadsModel.takesNumber(I)Z -/
section
variable {p : Program} {l : Launch} {e : Env} {s : State} {m : MethodId} {args : Array Value} {below : List Frame} {meth : Method} {c : Code} {dC : Nat → ClassId} {dI : Nat → Nat → Nat} {cI : ClassId} {A : Nat → Prop}
set_option maxRecDepth 100000 in
set_option maxHeartbeats 4000000 in
theorem w8_takesNumber_b34 (C : cx_M p s m args meth c RX8 cX8_takesNumber (some .boolean) 2) (hK : va_K (dC, dI) vwCl [(cI, .int)] s) (hA : ∀ q, s.heap.size ≤ q → A q) {a : Nat → Nat} {q : (Int32 × ms_T)} {rec34 : Int32 → ms_T → Option (Int32 × ms_T)} (hrec34 : ∀ {v1 : Int32} {S : ms_T} , rec34 v1 S = some q → ∀ {H : Heap} {locs : List Loc} {ls : Array Slot}, gd_W (dC, dI) A s (wd_M cI a S) H locs → lv_has ls 2 [(0, .ref (a 0)), (1, .int v1)] → W p l e RM8_takesNumber s m args below meth c H locs 0 0 (MQ below (qi_W (dC, dI) [(cI, .int)] A q.1 (wd_M cI a q.2)) args s 0 0 A) (F0 m 34 ls [])) {v1 : Int32} {S : ms_T} (h : f8_takesNumber_b34 rec34 v1 S = some q) {H : Heap} {locs : List Loc} {ls : Array Slot} (hG : gd_W (dC, dI) A s (wd_M cI a S) H locs) (hl : lv_has ls 2 [(0, .ref (a 0)), (1, .int v1)]) : W p l e RM8_takesNumber s m args below meth c H locs 0 0 (MQ below (qi_W (dC, dI) [(cI, .int)] A q.1 (wd_M cI a q.2)) args s 0 0 A) (F0 m 34 ls []) := by
  unfold f8_takesNumber_b34 at h
  obtain ⟨hx, hb, hr, hts, hown, hlocks, hml⟩ := id C
  refine lv_aload_n hx hb dX8_takesNumber_34 rfl (lv_at hl 0 rfl) ?_
  refine va_get (D := (dC, dI)) (ci := 7) (v := .int (S 8 8)) (C := RX8) (T := TX8) (N := 17) hx hb hts inlX8 hown hK hG.1 0 rfl rfl 16 (by decide) (hts (Cond.fieldLink RX8 213 "DiceRoadsModel" "number" "I") wq_653) (fun _ h9 => h9) rfl dX8_takesNumber_35 ?_
  refine lv_if_le (tgt := 95) hx hb dX8_takesNumber_38 (by decide) (fun hc => ?_) (fun hc => ?_)
  · have h := fo_it h hc
    refine lv_iconst (v := (1 : Int32)) hx hb dX8_takesNumber_95 (by decide) ?_
    obtain rfl := Option.some.inj h
    exact gr_z hx hb hr hlocks hK hG rfl rfl dX8_takesNumber_96
  · have h := fo_if h hc
    refine lv_bipush (v := (10 : Int32)) hx hb dX8_takesNumber_41 (by decide) ?_
    refine lv_aload_n hx hb dX8_takesNumber_43 rfl (lv_at hl 0 rfl) ?_
    refine va_get (D := (dC, dI)) (ci := 7) (v := .int (S 8 8)) (C := RX8) (T := TX8) (N := 17) hx hb hts inlX8 hown hK hG.1 0 rfl rfl 16 (by decide) (hts (Cond.fieldLink RX8 213 "DiceRoadsModel" "number" "I") wq_653) (fun _ h9 => h9) rfl dX8_takesNumber_44 ?_
    refine lv_imul hx hb dX8_takesNumber_47 ?_
    refine lv_iload_n hx hb dX8_takesNumber_48 rfl (lv_at hl 1 rfl) ?_
    refine lv_icmp_ge (tgt := 95) hx hb dX8_takesNumber_49 (by decide) (fun hc => ?_) (fun hc => ?_)
    · have h := fo_it h hc
      refine lv_iconst (v := (1 : Int32)) hx hb dX8_takesNumber_95 (by decide) ?_
      obtain rfl := Option.some.inj h
      exact gr_z hx hb hr hlocks hK hG rfl rfl dX8_takesNumber_96
    · have h := fo_if h hc
      refine lv_aload_n hx hb dX8_takesNumber_52 rfl (lv_at hl 0 rfl) ?_
      obtain ⟨q53, hq53, h⟩ := fo_bd_some h
      refine gc_iV (b := a 0) (C := RX8) (As := []) (rest := []) (wc := (wd_M cI a S)) (w1 := (wd_M cI a S)) (ci := 7) (q0 := 0) ⟨hx, hb, hml, hown, hts⟩ (c8_isDigit l (a := a) hq53) (cwV 0 hts gv_X8_209 rfl rfl rfl hd8_isDigit ⟨Nat.le_of_ble_eq_true rfl, Nat.le_of_ble_eq_true rfl⟩) hK [0] rfl hA hG [0, 1, 2, 3, 4, 5, 6, 7, 8] rfl rfl rfl rfl rfl rfl hl.1 rfl (Nat.le_of_ble_eq_true rfl) dX8_takesNumber_53 ⟨Nat.zero_le _, Nat.zero_le _⟩ (fun H locs hG9 => ?_)
      have hG : gd_W (dC, dI) A s (wd_M cI a S) H locs := hG9
      refine lv_if_eq (tgt := 95) hx hb dX8_takesNumber_56 (by decide) (fun hc => ?_) (fun hc => ?_)
      · have h := fo_it h hc
        refine lv_iconst (v := (1 : Int32)) hx hb dX8_takesNumber_95 (by decide) ?_
        obtain rfl := Option.some.inj h
        exact gr_z hx hb hr hlocks hK hG rfl rfl dX8_takesNumber_96
      · have h := fo_if h hc
        refine lv_aload_n hx hb dX8_takesNumber_59 rfl (lv_at hl 0 rfl) ?_
        refine lv_bipush (v := (10 : Int32)) hx hb dX8_takesNumber_60 (by decide) ?_
        refine lv_aload_n hx hb dX8_takesNumber_62 rfl (lv_at hl 0 rfl) ?_
        refine va_get (D := (dC, dI)) (ci := 7) (v := .int (S 8 8)) (C := RX8) (T := TX8) (N := 17) hx hb hts inlX8 hown hK hG.1 0 rfl rfl 16 (by decide) (hts (Cond.fieldLink RX8 213 "DiceRoadsModel" "number" "I") wq_653) (fun _ h9 => h9) rfl dX8_takesNumber_63 ?_
        refine lv_imul hx hb dX8_takesNumber_66 ?_
        refine lv_aload_n hx hb dX8_takesNumber_67 rfl (lv_at hl 0 rfl) ?_
        refine lv_aload_n hx hb dX8_takesNumber_68 rfl (lv_at hl 0 rfl) ?_
        refine va_get (D := (dC, dI)) (ci := 7) (v := .int (S 8 6)) (C := RX8) (T := TX8) (N := 17) hx hb hts inlX8 hown hK hG.1 0 rfl rfl 14 (by decide) (hts (Cond.fieldLink RX8 203 "DiceRoadsModel" "at" "I") wq_651) (fun _ h9 => h9) rfl dX8_takesNumber_69 ?_
        obtain ⟨q72, hq72, h⟩ := fo_bd_some h
        refine gc_iV (b := a 0) (C := RX8) (As := [.int (S 8 6)]) (rest := [.int ((10 : Int32) * (S 8 8)), .ref (a 0)]) (wc := (wd_M cI a S)) (w1 := (wd_M cI a S)) (ci := 7) (q0 := 0) ⟨hx, hb, hml, hown, hts⟩ (c8_character l (a := a) hq72) (cwV 1 hts gv_X8_206 rfl rfl rfl hd8_character ⟨Nat.le_of_ble_eq_true rfl, Nat.le_of_ble_eq_true rfl⟩) hK [0] rfl hA hG [0, 1, 2, 3, 4, 5, 6, 7, 8] rfl rfl rfl rfl rfl rfl hl.1 rfl (Nat.le_of_ble_eq_true rfl) dX8_takesNumber_72 ⟨Nat.zero_le _, Nat.zero_le _⟩ (fun H locs hG9 => ?_)
        have hG : gd_W (dC, dI) A s (wd_M cI a S) H locs := hG9
        refine lv_iadd hx hb dX8_takesNumber_75 ?_
        refine lv_bipush (v := (48 : Int32)) hx hb dX8_takesNumber_76 (by decide) ?_
        refine lv_isub hx hb dX8_takesNumber_78 ?_
        refine va_put (D := (dC, dI)) (ci := 7) (v := .int ((((10 : Int32) * (S 8 8)) + q72) - (48 : Int32))) (ty := .int) (C := RX8) (T := TX8) (N := 17) hx hb hts inlX8 tyX8 tyX8_ok nmX8 hown hK hG.1 hG.2.1 hG.2.2 0 rfl rfl 16 (by decide) (hts (Cond.fieldLink RX8 213 "DiceRoadsModel" "number" "I") wq_653) (fun _ h9 => h9) rfl (by decide +kernel) rfl rfl (Nat.le_of_ble_eq_true rfl) dX8_takesNumber_79 (fun H locs hP9 hD9 hS9 => ?_)
        have hG : gd_W (dC, dI) A s (wd_M cI a (ms_set S 8 (upd (S 8) 8 ((((10 : Int32) * (S 8 8)) + q72) - (48 : Int32))))) H locs := ⟨hP9, hD9, hS9⟩
        refine lv_aload_n hx hb dX8_takesNumber_82 rfl (lv_at hl 0 rfl) ?_
        refine lv_dup hx hb dX8_takesNumber_83 rfl ?_
        refine va_get (D := (dC, dI)) (ci := 7) (v := .int ((ms_set S 8 (upd (S 8) 8 ((((10 : Int32) * (S 8 8)) + q72) - (48 : Int32)))) 8 6)) (C := RX8) (T := TX8) (N := 17) hx hb hts inlX8 hown hK hG.1 0 rfl rfl 14 (by decide) (hts (Cond.fieldLink RX8 203 "DiceRoadsModel" "at" "I") wq_651) (fun _ h9 => h9) rfl dX8_takesNumber_84 ?_
        refine lv_iconst (v := (1 : Int32)) hx hb dX8_takesNumber_87 (by decide) ?_
        refine lv_iadd hx hb dX8_takesNumber_88 ?_
        refine va_put (D := (dC, dI)) (ci := 7) (v := .int (((ms_set S 8 (upd (S 8) 8 ((((10 : Int32) * (S 8 8)) + q72) - (48 : Int32)))) 8 6) + (1 : Int32))) (ty := .int) (C := RX8) (T := TX8) (N := 17) hx hb hts inlX8 tyX8 tyX8_ok nmX8 hown hK hG.1 hG.2.1 hG.2.2 0 rfl rfl 14 (by decide) (hts (Cond.fieldLink RX8 203 "DiceRoadsModel" "at" "I") wq_651) (fun _ h9 => h9) rfl (by decide +kernel) rfl rfl (Nat.le_of_ble_eq_true rfl) dX8_takesNumber_89 (fun H locs hP9 hD9 hS9 => ?_)
        have hG : gd_W (dC, dI) A s (wd_M cI a (ms_set (ms_set S 8 (upd (S 8) 8 ((((10 : Int32) * (S 8 8)) + q72) - (48 : Int32)))) 8 (upd ((ms_set S 8 (upd (S 8) 8 ((((10 : Int32) * (S 8 8)) + q72) - (48 : Int32)))) 8) 6 (((ms_set S 8 (upd (S 8) 8 ((((10 : Int32) * (S 8 8)) + q72) - (48 : Int32)))) 8 6) + (1 : Int32))))) H locs := ⟨hP9, hD9, hS9⟩
        refine lv_goto (tgt := 34) hx hb dX8_takesNumber_92 (by decide) ?_
        exact hrec34 h hG (lv_sub hl [0, 1] rfl)
set_option maxRecDepth 100000 in
set_option maxHeartbeats 4000000 in
theorem w8_takesNumber_L34 (C : cx_M p s m args meth c RX8 cX8_takesNumber (some .boolean) 2) (hK : va_K (dC, dI) vwCl [(cI, .int)] s) (hA : ∀ q, s.heap.size ≤ q → A q) {a : Nat → Nat} {q : (Int32 × ms_T)} : ∀ (n : Nat) {v1 : Int32} {S : ms_T}, f8_takesNumber_L34 n v1 S = some q → ∀ {H : Heap} {locs : List Loc} {ls : Array Slot}, gd_W (dC, dI) A s (wd_M cI a S) H locs → lv_has ls 2 [(0, .ref (a 0)), (1, .int v1)] → W p l e RM8_takesNumber s m args below meth c H locs 0 0 (MQ below (qi_W (dC, dI) [(cI, .int)] A q.1 (wd_M cI a q.2)) args s 0 0 A) (F0 m 34 ls []) := by
  intro n
  induction n with
  | zero => intro _ _ h; exact nomatch h
  | succ n ih => intro v1 S h H locs ls hG hl; exact w8_takesNumber_b34 C hK hA (fun h => ih h) (show f8_takesNumber_b34 (f8_takesNumber_L34 n) v1 S = some q from h) hG hl
set_option maxRecDepth 100000 in
set_option maxHeartbeats 4000000 in
theorem w8_takesNumber (C : cx_M p s m args meth c RX8 cX8_takesNumber (some .boolean) 2) (hK : va_K (dC, dI) vwCl [(cI, .int)] s) (hA : ∀ q, s.heap.size ≤ q → A q) {a : Nat → Nat} {q : (Int32 × ms_T)} {v1 : Int32} {S : ms_T} (h : f8_takesNumber v1 S = some q) {H : Heap} {locs : List Loc} {ls : Array Slot} (hG : gd_W (dC, dI) A s (wd_M cI a S) H locs) (hl : lv_has ls 2 [(0, .ref (a 0)), (1, .int v1)]) : W p l e RM8_takesNumber s m args below meth c H locs 0 0 (MQ below (qi_W (dC, dI) [(cI, .int)] A q.1 (wd_M cI a q.2)) args s 0 0 A) (F0 m 0 ls []) := by
  unfold f8_takesNumber at h
  obtain ⟨hx, hb, hr, hts, hown, hlocks, hml⟩ := id C
  refine lv_aload_n hx hb dX8_takesNumber_0 rfl (lv_at hl 0 rfl) ?_
  obtain ⟨q1, hq1, h⟩ := fo_bd_some h
  refine gc_iV (b := a 0) (C := RX8) (As := []) (rest := []) (wc := (wd_M cI a S)) (w1 := (wd_M cI a S)) (ci := 7) (q0 := 0) ⟨hx, hb, hml, hown, hts⟩ (c8_isDigit l (a := a) hq1) (cwV 0 hts gv_X8_209 rfl rfl rfl hd8_isDigit ⟨Nat.le_of_ble_eq_true rfl, Nat.le_of_ble_eq_true rfl⟩) hK [0] rfl hA hG [0, 1, 2, 3, 4, 5, 6, 7, 8] rfl rfl rfl rfl rfl rfl hl.1 rfl (Nat.le_of_ble_eq_true rfl) dX8_takesNumber_1 ⟨Nat.zero_le _, Nat.zero_le _⟩ (fun H locs hG9 => ?_)
  have hG : gd_W (dC, dI) A s (wd_M cI a S) H locs := hG9
  refine lv_if_ne (tgt := 9) hx hb dX8_takesNumber_4 (by decide) (fun hc => ?_) (fun hc => ?_)
  · have h := fo_if h hc
    refine lv_aload_n hx hb dX8_takesNumber_9 rfl (lv_at hl 0 rfl) ?_
    refine lv_aload_n hx hb dX8_takesNumber_10 rfl (lv_at hl 0 rfl) ?_
    refine lv_aload_n hx hb dX8_takesNumber_11 rfl (lv_at hl 0 rfl) ?_
    refine va_get (D := (dC, dI)) (ci := 7) (v := .int (S 8 6)) (C := RX8) (T := TX8) (N := 17) hx hb hts inlX8 hown hK hG.1 0 rfl rfl 14 (by decide) (hts (Cond.fieldLink RX8 203 "DiceRoadsModel" "at" "I") wq_651) (fun _ h9 => h9) rfl dX8_takesNumber_12 ?_
    obtain ⟨q15, hq15, h⟩ := fo_bd_some h
    refine gc_iV (b := a 0) (C := RX8) (As := [.int (S 8 6)]) (rest := [.ref (a 0)]) (wc := (wd_M cI a S)) (w1 := (wd_M cI a S)) (ci := 7) (q0 := 0) ⟨hx, hb, hml, hown, hts⟩ (c8_character l (a := a) hq15) (cwV 1 hts gv_X8_206 rfl rfl rfl hd8_character ⟨Nat.le_of_ble_eq_true rfl, Nat.le_of_ble_eq_true rfl⟩) hK [0] rfl hA hG [0, 1, 2, 3, 4, 5, 6, 7, 8] rfl rfl rfl rfl rfl rfl hl.1 rfl (Nat.le_of_ble_eq_true rfl) dX8_takesNumber_15 ⟨Nat.zero_le _, Nat.zero_le _⟩ (fun H locs hG9 => ?_)
    have hG : gd_W (dC, dI) A s (wd_M cI a S) H locs := hG9
    refine lv_bipush (v := (48 : Int32)) hx hb dX8_takesNumber_18 (by decide) ?_
    refine lv_isub hx hb dX8_takesNumber_20 ?_
    refine va_put (D := (dC, dI)) (ci := 7) (v := .int (q15 - (48 : Int32))) (ty := .int) (C := RX8) (T := TX8) (N := 17) hx hb hts inlX8 tyX8 tyX8_ok nmX8 hown hK hG.1 hG.2.1 hG.2.2 0 rfl rfl 16 (by decide) (hts (Cond.fieldLink RX8 213 "DiceRoadsModel" "number" "I") wq_653) (fun _ h9 => h9) rfl (by decide +kernel) rfl rfl (Nat.le_of_ble_eq_true rfl) dX8_takesNumber_21 (fun H locs hP9 hD9 hS9 => ?_)
    have hG : gd_W (dC, dI) A s (wd_M cI a (ms_set S 8 (upd (S 8) 8 (q15 - (48 : Int32))))) H locs := ⟨hP9, hD9, hS9⟩
    refine lv_aload_n hx hb dX8_takesNumber_24 rfl (lv_at hl 0 rfl) ?_
    refine lv_dup hx hb dX8_takesNumber_25 rfl ?_
    refine va_get (D := (dC, dI)) (ci := 7) (v := .int ((ms_set S 8 (upd (S 8) 8 (q15 - (48 : Int32)))) 8 6)) (C := RX8) (T := TX8) (N := 17) hx hb hts inlX8 hown hK hG.1 0 rfl rfl 14 (by decide) (hts (Cond.fieldLink RX8 203 "DiceRoadsModel" "at" "I") wq_651) (fun _ h9 => h9) rfl dX8_takesNumber_26 ?_
    refine lv_iconst (v := (1 : Int32)) hx hb dX8_takesNumber_29 (by decide) ?_
    refine lv_iadd hx hb dX8_takesNumber_30 ?_
    refine va_put (D := (dC, dI)) (ci := 7) (v := .int (((ms_set S 8 (upd (S 8) 8 (q15 - (48 : Int32)))) 8 6) + (1 : Int32))) (ty := .int) (C := RX8) (T := TX8) (N := 17) hx hb hts inlX8 tyX8 tyX8_ok nmX8 hown hK hG.1 hG.2.1 hG.2.2 0 rfl rfl 14 (by decide) (hts (Cond.fieldLink RX8 203 "DiceRoadsModel" "at" "I") wq_651) (fun _ h9 => h9) rfl (by decide +kernel) rfl rfl (Nat.le_of_ble_eq_true rfl) dX8_takesNumber_31 (fun H locs hP9 hD9 hS9 => ?_)
    have hG : gd_W (dC, dI) A s (wd_M cI a (ms_set (ms_set S 8 (upd (S 8) 8 (q15 - (48 : Int32)))) 8 (upd ((ms_set S 8 (upd (S 8) 8 (q15 - (48 : Int32)))) 8) 6 (((ms_set S 8 (upd (S 8) 8 (q15 - (48 : Int32)))) 8 6) + (1 : Int32))))) H locs := ⟨hP9, hD9, hS9⟩
    exact w8_takesNumber_L34 C hK hA fo_fu h hG (lv_sub hl [0, 1] rfl)
  · have h := fo_it h hc
    refine lv_iconst (v := (0 : Int32)) hx hb dX8_takesNumber_7 (by decide) ?_
    obtain rfl := Option.some.inj h
    exact gr_z hx hb hr hlocks hK hG rfl rfl dX8_takesNumber_8
set_option maxRecDepth 100000 in
set_option maxHeartbeats 4000000 in
theorem c8_takesNumber (l : Launch) {dC : Nat → ClassId} {dI : Nat → Nat → Nat} {cI : ClassId} {a : Nat → Nat} {v1 : Int32} {S : ms_T} {q : (Int32 × ms_T)} (h : f8_takesNumber v1 S = some q) : mi_M l yX8_takesNumber wm8_takesNumber RM8_takesNumber (dC, dI) [(cI, .int)] [.ref (a 0), .int v1] (wd_M cI a S) q.1 (wd_M cI a q.2) := by
  intro sz
  refine Met.ofW (cc := cX8_takesNumber) (maxL := 2) (ret := (some .boolean)) (by decide) rfl ?_
  intro p e s m args below meth c s₁ B hml hv
  obtain ⟨rfl, hsz, hP, hK, hD0⟩ := hv
  subst hsz
  have hl := lv_entry ([.ref (a 0), .int v1] : List Value) (n := 2) (Nat.le_of_ble_eq_true rfl)
  rw [lg_entry_eq]
  generalize (lg_sl ([.ref (a 0), .int v1] : List Value) ++ List.replicate (2 - (lg_sl ([.ref (a 0), .int v1] : List Value)).length) Slot.unset).toArray = ls at hl ⊢
  exact w8_takesNumber (a := a) ⟨B.exec, B.bytes, B.returns, fun w hw => atoms_spec (ws := wm8_takesNumber) B.pre w (List.mem_cons_of_mem _ hw), findClass_of_methodNamed B.named, B.notSynchronized, hml⟩ hK (fun _ h => Or.inr h) h ⟨hP, hD0.self, va_S.rf⟩ hl
end
/-! ## DiceRoadsModel.readsOrder()Z -/
section
variable {p : Program} {l : Launch} {e : Env} {s : State} {m : MethodId} {args : Array Value} {below : List Frame} {meth : Method} {c : Code} {dC : Nat → ClassId} {dI : Nat → Nat → Nat} {cI : ClassId} {A : Nat → Prop}
set_option maxRecDepth 100000 in
set_option maxHeartbeats 4000000 in
theorem w8_readsOrder (C : cx_M p s m args meth c RX8 cX8_readsOrder (some .boolean) 1) (hK : va_K (dC, dI) vwCl [(cI, .int)] s) (hA : ∀ q, s.heap.size ≤ q → A q) {a : Nat → Nat} {q : (Int32 × ms_T)} {S : ms_T} (h : f8_readsOrder S = some q) {H : Heap} {locs : List Loc} {ls : Array Slot} (hG : gd_W (dC, dI) A s (wd_M cI a S) H locs) (hl : lv_has ls 1 [(0, .ref (a 0))]) : W p l e RM8_readsOrder s m args below meth c H locs 0 0 (MQ below (qi_W (dC, dI) [(cI, .int)] A q.1 (wd_M cI a q.2)) args s 0 0 A) (F0 m 0 ls []) := by
  unfold f8_readsOrder at h
  obtain ⟨hx, hb, hr, hts, hown, hlocks, hml⟩ := id C
  refine lv_aload_n hx hb dX8_readsOrder_0 rfl (lv_at hl 0 rfl) ?_
  refine lv_aload_n hx hb dX8_readsOrder_1 rfl (lv_at hl 0 rfl) ?_
  refine lv_aload_n hx hb dX8_readsOrder_2 rfl (lv_at hl 0 rfl) ?_
  refine va_get (D := (dC, dI)) (ci := 7) (v := .int (S 8 6)) (C := RX8) (T := TX8) (N := 17) hx hb hts inlX8 hown hK hG.1 0 rfl rfl 14 (by decide) (hts (Cond.fieldLink RX8 203 "DiceRoadsModel" "at" "I") wq_651) (fun _ h9 => h9) rfl dX8_readsOrder_3 ?_
  obtain ⟨q6, hq6, h⟩ := fo_bd_some h
  refine gc_iV (b := a 0) (C := RX8) (As := [.int (S 8 6)]) (rest := [.ref (a 0)]) (wc := (wd_M cI a S)) (w1 := (wd_M cI a S)) (ci := 7) (q0 := 0) ⟨hx, hb, hml, hown, hts⟩ (c8_character l (a := a) hq6) (cwV 1 hts gv_X8_206 rfl rfl rfl hd8_character ⟨Nat.le_of_ble_eq_true rfl, Nat.le_of_ble_eq_true rfl⟩) hK [0] rfl hA hG [0, 1, 2, 3, 4, 5, 6, 7, 8] rfl rfl rfl rfl rfl rfl hl.1 rfl (Nat.le_of_ble_eq_true rfl) dX8_readsOrder_6 ⟨Nat.zero_le _, Nat.zero_le _⟩ (fun H locs hG9 => ?_)
  have hG : gd_W (dC, dI) A s (wd_M cI a S) H locs := hG9
  refine va_put (D := (dC, dI)) (ci := 7) (v := .int q6) (ty := .int) (C := RX8) (T := TX8) (N := 17) hx hb hts inlX8 tyX8 tyX8_ok nmX8 hown hK hG.1 hG.2.1 hG.2.2 0 rfl rfl 15 (by decide) (hts (Cond.fieldLink RX8 216 "DiceRoadsModel" "letter" "I") wq_652) (fun _ h9 => h9) rfl (by decide +kernel) rfl rfl (Nat.le_of_ble_eq_true rfl) dX8_readsOrder_9 (fun H locs hP9 hD9 hS9 => ?_)
  have hG : gd_W (dC, dI) A s (wd_M cI a (ms_set S 8 (upd (S 8) 7 q6))) H locs := ⟨hP9, hD9, hS9⟩
  refine lv_aload_n hx hb dX8_readsOrder_12 rfl (lv_at hl 0 rfl) ?_
  refine lv_dup hx hb dX8_readsOrder_13 rfl ?_
  refine va_get (D := (dC, dI)) (ci := 7) (v := .int ((ms_set S 8 (upd (S 8) 7 q6)) 8 6)) (C := RX8) (T := TX8) (N := 17) hx hb hts inlX8 hown hK hG.1 0 rfl rfl 14 (by decide) (hts (Cond.fieldLink RX8 203 "DiceRoadsModel" "at" "I") wq_651) (fun _ h9 => h9) rfl dX8_readsOrder_14 ?_
  refine lv_iconst (v := (1 : Int32)) hx hb dX8_readsOrder_17 (by decide) ?_
  refine lv_iadd hx hb dX8_readsOrder_18 ?_
  refine va_put (D := (dC, dI)) (ci := 7) (v := .int (((ms_set S 8 (upd (S 8) 7 q6)) 8 6) + (1 : Int32))) (ty := .int) (C := RX8) (T := TX8) (N := 17) hx hb hts inlX8 tyX8 tyX8_ok nmX8 hown hK hG.1 hG.2.1 hG.2.2 0 rfl rfl 14 (by decide) (hts (Cond.fieldLink RX8 203 "DiceRoadsModel" "at" "I") wq_651) (fun _ h9 => h9) rfl (by decide +kernel) rfl rfl (Nat.le_of_ble_eq_true rfl) dX8_readsOrder_19 (fun H locs hP9 hD9 hS9 => ?_)
  have hG : gd_W (dC, dI) A s (wd_M cI a (ms_set (ms_set S 8 (upd (S 8) 7 q6)) 8 (upd ((ms_set S 8 (upd (S 8) 7 q6)) 8) 6 (((ms_set S 8 (upd (S 8) 7 q6)) 8 6) + (1 : Int32))))) H locs := ⟨hP9, hD9, hS9⟩
  refine lv_aload_n hx hb dX8_readsOrder_22 rfl (lv_at hl 0 rfl) ?_
  refine va_get (D := (dC, dI)) (ci := 7) (v := .int ((ms_set (ms_set S 8 (upd (S 8) 7 q6)) 8 (upd ((ms_set S 8 (upd (S 8) 7 q6)) 8) 6 (((ms_set S 8 (upd (S 8) 7 q6)) 8 6) + (1 : Int32)))) 8 7)) (C := RX8) (T := TX8) (N := 17) hx hb hts inlX8 hown hK hG.1 0 rfl rfl 15 (by decide) (hts (Cond.fieldLink RX8 216 "DiceRoadsModel" "letter" "I") wq_652) (fun _ h9 => h9) rfl dX8_readsOrder_23 ?_
  by_cases hc : ((ms_set (ms_set S 8 (upd (S 8) 7 q6)) 8 (upd ((ms_set S 8 (upd (S 8) 7 q6)) 8) 6 (((ms_set S 8 (upd (S 8) 7 q6)) 8 6) + (1 : Int32)))) 8 7) = (99 : Int32)
  · have h := fo_it h hc
    refine W.eq (g2 := F0 m 26 ls [.int (99 : Int32)]) (by rw [hc]) ?_
    refine lv_lookup (tgt := 76) hx hb dX8_readsOrder_26 (by decide) rfl (by decide) ?_
    refine lv_aload_n hx hb dX8_readsOrder_76 rfl (lv_at hl 0 rfl) ?_
    refine lv_bipush (v := (10 : Int32)) hx hb dX8_readsOrder_77 (by decide) ?_
    obtain ⟨q79, hq79, h⟩ := fo_bd_some h
    refine gc_iV (b := a 0) (C := RX8) (As := [.int (10 : Int32)]) (rest := []) (wc := (wd_M cI a (ms_set (ms_set S 8 (upd (S 8) 7 q6)) 8 (upd ((ms_set S 8 (upd (S 8) 7 q6)) 8) 6 (((ms_set S 8 (upd (S 8) 7 q6)) 8 6) + (1 : Int32)))))) (w1 := (wd_M cI a q79.2)) (ci := 7) (q0 := 0) ⟨hx, hb, hml, hown, hts⟩ (c8_takesNumber l (a := a) hq79) (cwV 1 hts gv_X8_219 rfl rfl rfl hd8_takesNumber ⟨Nat.le_of_ble_eq_true rfl, Nat.le_of_ble_eq_true rfl⟩) hK [0] rfl hA hG [0, 1, 2, 3, 4, 5, 6, 7, 8] rfl rfl rfl rfl rfl rfl hl.1 rfl (Nat.le_of_ble_eq_true rfl) dX8_readsOrder_79 ⟨Nat.zero_le _, Nat.zero_le _⟩ (fun H locs hG9 => ?_)
    have hG : gd_W (dC, dI) A s (wd_M cI a q79.2) H locs := hG9
    obtain ⟨hz, h⟩ := fo_zz_some h
    obtain rfl := Option.some.inj h
    exact gr_z hx hb hr hlocks hK hG rfl (nar_b hz) dX8_readsOrder_82
  replace h := fo_if h hc
  have hn99 := lv_neT (a := 99) hc (by decide)
  have hm99 := hc
  clear hc
  by_cases hc : ((ms_set (ms_set S 8 (upd (S 8) 7 q6)) 8 (upd ((ms_set S 8 (upd (S 8) 7 q6)) 8) 6 (((ms_set S 8 (upd (S 8) 7 q6)) 8 6) + (1 : Int32)))) 8 7) = (112 : Int32)
  · have h := fo_it h hc
    refine W.eq (g2 := F0 m 26 ls [.int (112 : Int32)]) (by rw [hc]) ?_
    refine lv_lookup (tgt := 68) hx hb dX8_readsOrder_26 (by decide) rfl (by decide) ?_
    refine lv_aload_n hx hb dX8_readsOrder_68 rfl (lv_at hl 0 rfl) ?_
    refine lv_sipush (v := (10000 : Int32)) hx hb dX8_readsOrder_69 (by decide) ?_
    obtain ⟨q72, hq72, h⟩ := fo_bd_some h
    refine gc_iV (b := a 0) (C := RX8) (As := [.int (10000 : Int32)]) (rest := []) (wc := (wd_M cI a (ms_set (ms_set S 8 (upd (S 8) 7 q6)) 8 (upd ((ms_set S 8 (upd (S 8) 7 q6)) 8) 6 (((ms_set S 8 (upd (S 8) 7 q6)) 8 6) + (1 : Int32)))))) (w1 := (wd_M cI a q72.2)) (ci := 7) (q0 := 0) ⟨hx, hb, hml, hown, hts⟩ (c8_takesNumber l (a := a) hq72) (cwV 1 hts gv_X8_219 rfl rfl rfl hd8_takesNumber ⟨Nat.le_of_ble_eq_true rfl, Nat.le_of_ble_eq_true rfl⟩) hK [0] rfl hA hG [0, 1, 2, 3, 4, 5, 6, 7, 8] rfl rfl rfl rfl rfl rfl hl.1 rfl (Nat.le_of_ble_eq_true rfl) dX8_readsOrder_72 ⟨Nat.zero_le _, Nat.zero_le _⟩ (fun H locs hG9 => ?_)
    have hG : gd_W (dC, dI) A s (wd_M cI a q72.2) H locs := hG9
    obtain ⟨hz, h⟩ := fo_zz_some h
    obtain rfl := Option.some.inj h
    exact gr_z hx hb hr hlocks hK hG rfl (nar_b hz) dX8_readsOrder_75
  replace h := fo_if h hc
  have hn112 := lv_neT (a := 112) hc (by decide)
  have hm112 := hc
  clear hc
  by_cases hc : ((ms_set (ms_set S 8 (upd (S 8) 7 q6)) 8 (upd ((ms_set S 8 (upd (S 8) 7 q6)) 8) 6 (((ms_set S 8 (upd (S 8) 7 q6)) 8 6) + (1 : Int32)))) 8 7) = (116 : Int32)
  · have h := fo_it h hc
    refine W.eq (g2 := F0 m 26 ls [.int (116 : Int32)]) (by rw [hc]) ?_
    refine lv_lookup (tgt := 68) hx hb dX8_readsOrder_26 (by decide) rfl (by decide) ?_
    refine lv_aload_n hx hb dX8_readsOrder_68 rfl (lv_at hl 0 rfl) ?_
    refine lv_sipush (v := (10000 : Int32)) hx hb dX8_readsOrder_69 (by decide) ?_
    obtain ⟨q72, hq72, h⟩ := fo_bd_some h
    refine gc_iV (b := a 0) (C := RX8) (As := [.int (10000 : Int32)]) (rest := []) (wc := (wd_M cI a (ms_set (ms_set S 8 (upd (S 8) 7 q6)) 8 (upd ((ms_set S 8 (upd (S 8) 7 q6)) 8) 6 (((ms_set S 8 (upd (S 8) 7 q6)) 8 6) + (1 : Int32)))))) (w1 := (wd_M cI a q72.2)) (ci := 7) (q0 := 0) ⟨hx, hb, hml, hown, hts⟩ (c8_takesNumber l (a := a) hq72) (cwV 1 hts gv_X8_219 rfl rfl rfl hd8_takesNumber ⟨Nat.le_of_ble_eq_true rfl, Nat.le_of_ble_eq_true rfl⟩) hK [0] rfl hA hG [0, 1, 2, 3, 4, 5, 6, 7, 8] rfl rfl rfl rfl rfl rfl hl.1 rfl (Nat.le_of_ble_eq_true rfl) dX8_readsOrder_72 ⟨Nat.zero_le _, Nat.zero_le _⟩ (fun H locs hG9 => ?_)
    have hG : gd_W (dC, dI) A s (wd_M cI a q72.2) H locs := hG9
    obtain ⟨hz, h⟩ := fo_zz_some h
    obtain rfl := Option.some.inj h
    exact gr_z hx hb hr hlocks hK hG rfl (nar_b hz) dX8_readsOrder_75
  replace h := fo_if h hc
  have hn116 := lv_neT (a := 116) hc (by decide)
  have hm116 := hc
  clear hc
  by_cases hc : ((ms_set (ms_set S 8 (upd (S 8) 7 q6)) 8 (upd ((ms_set S 8 (upd (S 8) 7 q6)) 8) 6 (((ms_set S 8 (upd (S 8) 7 q6)) 8 6) + (1 : Int32)))) 8 7) = (120 : Int32)
  · have h := fo_it h hc
    refine W.eq (g2 := F0 m 26 ls [.int (120 : Int32)]) (by rw [hc]) ?_
    refine lv_lookup (tgt := 68) hx hb dX8_readsOrder_26 (by decide) rfl (by decide) ?_
    refine lv_aload_n hx hb dX8_readsOrder_68 rfl (lv_at hl 0 rfl) ?_
    refine lv_sipush (v := (10000 : Int32)) hx hb dX8_readsOrder_69 (by decide) ?_
    obtain ⟨q72, hq72, h⟩ := fo_bd_some h
    refine gc_iV (b := a 0) (C := RX8) (As := [.int (10000 : Int32)]) (rest := []) (wc := (wd_M cI a (ms_set (ms_set S 8 (upd (S 8) 7 q6)) 8 (upd ((ms_set S 8 (upd (S 8) 7 q6)) 8) 6 (((ms_set S 8 (upd (S 8) 7 q6)) 8 6) + (1 : Int32)))))) (w1 := (wd_M cI a q72.2)) (ci := 7) (q0 := 0) ⟨hx, hb, hml, hown, hts⟩ (c8_takesNumber l (a := a) hq72) (cwV 1 hts gv_X8_219 rfl rfl rfl hd8_takesNumber ⟨Nat.le_of_ble_eq_true rfl, Nat.le_of_ble_eq_true rfl⟩) hK [0] rfl hA hG [0, 1, 2, 3, 4, 5, 6, 7, 8] rfl rfl rfl rfl rfl rfl hl.1 rfl (Nat.le_of_ble_eq_true rfl) dX8_readsOrder_72 ⟨Nat.zero_le _, Nat.zero_le _⟩ (fun H locs hG9 => ?_)
    have hG : gd_W (dC, dI) A s (wd_M cI a q72.2) H locs := hG9
    obtain ⟨hz, h⟩ := fo_zz_some h
    obtain rfl := Option.some.inj h
    exact gr_z hx hb hr hlocks hK hG rfl (nar_b hz) dX8_readsOrder_75
  replace h := fo_if h hc
  have hn120 := lv_neT (a := 120) hc (by decide)
  have hm120 := hc
  clear hc
  refine lv_lookup (off := 57) (tgt := 83) hx hb dX8_readsOrder_26 (by decide) ((lv_osw hm99 (by decide)).trans ((lv_osw hm112 (by decide)).trans ((lv_osw hm116 (by decide)).trans ((lv_osw hm120 (by decide)).trans (rfl))))) (by decide) ?_
  refine lv_aload_n hx hb dX8_readsOrder_83 rfl (lv_at hl 0 rfl) ?_
  refine lv_dup hx hb dX8_readsOrder_84 rfl ?_
  refine va_get (D := (dC, dI)) (ci := 7) (v := .int ((ms_set (ms_set S 8 (upd (S 8) 7 q6)) 8 (upd ((ms_set S 8 (upd (S 8) 7 q6)) 8) 6 (((ms_set S 8 (upd (S 8) 7 q6)) 8 6) + (1 : Int32)))) 8 6)) (C := RX8) (T := TX8) (N := 17) hx hb hts inlX8 hown hK hG.1 0 rfl rfl 14 (by decide) (hts (Cond.fieldLink RX8 203 "DiceRoadsModel" "at" "I") wq_651) (fun _ h9 => h9) rfl dX8_readsOrder_85 ?_
  refine lv_iconst (v := (1 : Int32)) hx hb dX8_readsOrder_88 (by decide) ?_
  refine lv_isub hx hb dX8_readsOrder_89 ?_
  refine va_put (D := (dC, dI)) (ci := 7) (v := .int (((ms_set (ms_set S 8 (upd (S 8) 7 q6)) 8 (upd ((ms_set S 8 (upd (S 8) 7 q6)) 8) 6 (((ms_set S 8 (upd (S 8) 7 q6)) 8 6) + (1 : Int32)))) 8 6) - (1 : Int32))) (ty := .int) (C := RX8) (T := TX8) (N := 17) hx hb hts inlX8 tyX8 tyX8_ok nmX8 hown hK hG.1 hG.2.1 hG.2.2 0 rfl rfl 14 (by decide) (hts (Cond.fieldLink RX8 203 "DiceRoadsModel" "at" "I") wq_651) (fun _ h9 => h9) rfl (by decide +kernel) rfl rfl (Nat.le_of_ble_eq_true rfl) dX8_readsOrder_90 (fun H locs hP9 hD9 hS9 => ?_)
  have hG : gd_W (dC, dI) A s (wd_M cI a (ms_set (ms_set (ms_set S 8 (upd (S 8) 7 q6)) 8 (upd ((ms_set S 8 (upd (S 8) 7 q6)) 8) 6 (((ms_set S 8 (upd (S 8) 7 q6)) 8 6) + (1 : Int32)))) 8 (upd ((ms_set (ms_set S 8 (upd (S 8) 7 q6)) 8 (upd ((ms_set S 8 (upd (S 8) 7 q6)) 8) 6 (((ms_set S 8 (upd (S 8) 7 q6)) 8 6) + (1 : Int32)))) 8) 6 (((ms_set (ms_set S 8 (upd (S 8) 7 q6)) 8 (upd ((ms_set S 8 (upd (S 8) 7 q6)) 8) 6 (((ms_set S 8 (upd (S 8) 7 q6)) 8 6) + (1 : Int32)))) 8 6) - (1 : Int32))))) H locs := ⟨hP9, hD9, hS9⟩
  refine lv_iconst (v := (0 : Int32)) hx hb dX8_readsOrder_93 (by decide) ?_
  obtain rfl := Option.some.inj h
  exact gr_z hx hb hr hlocks hK hG rfl rfl dX8_readsOrder_94
set_option maxRecDepth 100000 in
set_option maxHeartbeats 4000000 in
theorem c8_readsOrder (l : Launch) {dC : Nat → ClassId} {dI : Nat → Nat → Nat} {cI : ClassId} {a : Nat → Nat} {S : ms_T} {q : (Int32 × ms_T)} (h : f8_readsOrder S = some q) : mi_M l yX8_readsOrder wm8_readsOrder RM8_readsOrder (dC, dI) [(cI, .int)] [.ref (a 0)] (wd_M cI a S) q.1 (wd_M cI a q.2) := by
  intro sz
  refine Met.ofW (cc := cX8_readsOrder) (maxL := 1) (ret := (some .boolean)) (by decide) rfl ?_
  intro p e s m args below meth c s₁ B hml hv
  obtain ⟨rfl, hsz, hP, hK, hD0⟩ := hv
  subst hsz
  have hl := lv_entry ([.ref (a 0)] : List Value) (n := 1) (Nat.le_of_ble_eq_true rfl)
  rw [lg_entry_eq]
  generalize (lg_sl ([.ref (a 0)] : List Value) ++ List.replicate (1 - (lg_sl ([.ref (a 0)] : List Value)).length) Slot.unset).toArray = ls at hl ⊢
  exact w8_readsOrder (a := a) ⟨B.exec, B.bytes, B.returns, fun w hw => atoms_spec (ws := wm8_readsOrder) B.pre w (List.mem_cons_of_mem _ hw), findClass_of_methodNamed B.named, B.notSynchronized, hml⟩ hK (fun _ h => Or.inr h) h ⟨hP, hD0.self, va_S.rf⟩ hl
end
/-! ## DiceRoadsModel.findFault()I -/
section
variable {p : Program} {l : Launch} {e : Env} {s : State} {m : MethodId} {args : Array Value} {below : List Frame} {meth : Method} {c : Code} {dC : Nat → ClassId} {dI : Nat → Nat → Nat} {cI : ClassId} {A : Nat → Prop}
set_option maxRecDepth 100000 in
set_option maxHeartbeats 4000000 in
theorem w8_findFault_b5 (C : cx_M p s m args meth c RX8 cX8_findFault (some .int) 1) (hK : va_K (dC, dI) vwCl [(cI, .int)] s) (hA : ∀ q, s.heap.size ≤ q → A q) {a : Nat → Nat} {q : (Int32 × ms_T)} {rec5 : ms_T → Option (Int32 × ms_T)} (hrec5 : ∀ {S : ms_T} , rec5 S = some q → ∀ {H : Heap} {locs : List Loc} {ls : Array Slot}, gd_W (dC, dI) A s (wd_M cI a S) H locs → lv_has ls 1 [(0, .ref (a 0))] → W p l e RM8_findFault s m args below meth c H locs 0 0 (MQ below (qi_W (dC, dI) [(cI, .int)] A q.1 (wd_M cI a q.2)) args s 0 0 A) (F0 m 5 ls [])) {S : ms_T} (h : f8_findFault_b5 rec5 S = some q) {H : Heap} {locs : List Loc} {ls : Array Slot} (hG : gd_W (dC, dI) A s (wd_M cI a S) H locs) (hl : lv_has ls 1 [(0, .ref (a 0))]) : W p l e RM8_findFault s m args below meth c H locs 0 0 (MQ below (qi_W (dC, dI) [(cI, .int)] A q.1 (wd_M cI a q.2)) args s 0 0 A) (F0 m 5 ls []) := by
  unfold f8_findFault_b5 at h
  obtain ⟨hx, hb, hr, hts, hown, hlocks, hml⟩ := id C
  refine lv_aload_n hx hb dX8_findFault_5 rfl (lv_at hl 0 rfl) ?_
  obtain ⟨q6, hq6, h⟩ := fo_bd_some h
  refine gc_iV (b := a 0) (C := RX8) (As := []) (rest := []) (wc := (wd_M cI a S)) (w1 := (wd_M cI a q6.2)) (ci := 7) (q0 := 0) ⟨hx, hb, hml, hown, hts⟩ (c8_readsOrder l (a := a) hq6) (cwV 0 hts gv_X8_222 rfl rfl rfl hd8_readsOrder ⟨Nat.le_of_ble_eq_true rfl, Nat.le_of_ble_eq_true rfl⟩) hK [0] rfl hA hG [0, 1, 2, 3, 4, 5, 6, 7, 8] rfl rfl rfl rfl rfl rfl hl.1 rfl (Nat.le_of_ble_eq_true rfl) dX8_findFault_6 ⟨Nat.zero_le _, Nat.zero_le _⟩ (fun H locs hG9 => ?_)
  have hG : gd_W (dC, dI) A s (wd_M cI a q6.2) H locs := hG9
  refine lv_if_ne (tgt := 17) hx hb dX8_findFault_9 (by decide) (fun hc => ?_) (fun hc => ?_)
  · have h := fo_if h hc
    refine lv_aload_n hx hb dX8_findFault_17 rfl (lv_at hl 0 rfl) ?_
    refine va_get (D := (dC, dI)) (ci := 7) (v := .int (q6.2 8 6)) (C := RX8) (T := TX8) (N := 17) hx hb hts inlX8 hown hK hG.1 0 rfl rfl 14 (by decide) (hts (Cond.fieldLink RX8 203 "DiceRoadsModel" "at" "I") wq_651) (fun _ h9 => h9) rfl dX8_findFault_18 ?_
    refine lv_aload_n hx hb dX8_findFault_21 rfl (lv_at hl 0 rfl) ?_
    refine va_get (D := (dC, dI)) (ci := 7) (v := .int (q6.2 8 1)) (C := RX8) (T := TX8) (N := 17) hx hb hts inlX8 hown hK hG.1 0 rfl rfl 7 (by decide) (hts (Cond.fieldLink RX8 186 "DiceRoadsModel" "padLength" "I") wq_644) (fun _ h9 => h9) rfl dX8_findFault_22 ?_
    refine lv_icmp_ne (tgt := 31) hx hb dX8_findFault_25 (by decide) (fun hc => ?_) (fun hc => ?_)
    · have h := fo_if h hc
      refine lv_aload_n hx hb dX8_findFault_31 rfl (lv_at hl 0 rfl) ?_
      refine lv_bipush (v := (59 : Int32)) hx hb dX8_findFault_32 (by decide) ?_
      obtain ⟨q34, hq34, h⟩ := fo_bd_some h
      refine gc_iV (b := a 0) (C := RX8) (As := [.int (59 : Int32)]) (rest := []) (wc := (wd_M cI a q6.2)) (w1 := (wd_M cI a q34.2)) (ci := 7) (q0 := 0) ⟨hx, hb, hml, hown, hts⟩ (c8_isNext l (a := a) hq34) (cwV 1 hts gv_X8_225 rfl rfl rfl hd8_isNext ⟨Nat.le_of_ble_eq_true rfl, Nat.le_of_ble_eq_true rfl⟩) hK [0] rfl hA hG [0, 1, 2, 3, 4, 5, 6, 7, 8] rfl rfl rfl rfl rfl rfl hl.1 rfl (Nat.le_of_ble_eq_true rfl) dX8_findFault_34 ⟨Nat.zero_le _, Nat.zero_le _⟩ (fun H locs hG9 => ?_)
      have hG : gd_W (dC, dI) A s (wd_M cI a q34.2) H locs := hG9
      refine lv_if_ne (tgt := 5) hx hb dX8_findFault_37 (by decide) (fun hc => ?_) (fun hc => ?_)
      · have h := fo_if h hc
        exact hrec5 h hG (lv_sub hl [0] rfl)
      · have h := fo_it h hc
        refine lv_aload_n hx hb dX8_findFault_40 rfl (lv_at hl 0 rfl) ?_
        refine va_get (D := (dC, dI)) (ci := 7) (v := .int (q34.2 8 6)) (C := RX8) (T := TX8) (N := 17) hx hb hts inlX8 hown hK hG.1 0 rfl rfl 14 (by decide) (hts (Cond.fieldLink RX8 203 "DiceRoadsModel" "at" "I") wq_651) (fun _ h9 => h9) rfl dX8_findFault_41 ?_
        obtain rfl := Option.some.inj h
        exact gr_i hx hb hr hlocks hK hG rfl dX8_findFault_44
    · have h := fo_it h hc
      refine lv_bipush (v := (-6 : Int32)) hx hb dX8_findFault_28 (by decide) ?_
      obtain rfl := Option.some.inj h
      exact gr_i hx hb hr hlocks hK hG rfl dX8_findFault_30
  · have h := fo_it h hc
    refine lv_aload_n hx hb dX8_findFault_12 rfl (lv_at hl 0 rfl) ?_
    refine va_get (D := (dC, dI)) (ci := 7) (v := .int (q6.2 8 6)) (C := RX8) (T := TX8) (N := 17) hx hb hts inlX8 hown hK hG.1 0 rfl rfl 14 (by decide) (hts (Cond.fieldLink RX8 203 "DiceRoadsModel" "at" "I") wq_651) (fun _ h9 => h9) rfl dX8_findFault_13 ?_
    obtain rfl := Option.some.inj h
    exact gr_i hx hb hr hlocks hK hG rfl dX8_findFault_16
set_option maxRecDepth 100000 in
set_option maxHeartbeats 4000000 in
theorem w8_findFault_L5 (C : cx_M p s m args meth c RX8 cX8_findFault (some .int) 1) (hK : va_K (dC, dI) vwCl [(cI, .int)] s) (hA : ∀ q, s.heap.size ≤ q → A q) {a : Nat → Nat} {q : (Int32 × ms_T)} : ∀ (n : Nat) {S : ms_T}, f8_findFault_L5 n S = some q → ∀ {H : Heap} {locs : List Loc} {ls : Array Slot}, gd_W (dC, dI) A s (wd_M cI a S) H locs → lv_has ls 1 [(0, .ref (a 0))] → W p l e RM8_findFault s m args below meth c H locs 0 0 (MQ below (qi_W (dC, dI) [(cI, .int)] A q.1 (wd_M cI a q.2)) args s 0 0 A) (F0 m 5 ls []) := by
  intro n
  induction n with
  | zero => intro _ h; exact nomatch h
  | succ n ih => intro S h H locs ls hG hl; exact w8_findFault_b5 C hK hA (fun h => ih h) (show f8_findFault_b5 (f8_findFault_L5 n) S = some q from h) hG hl
set_option maxRecDepth 100000 in
set_option maxHeartbeats 4000000 in
theorem w8_findFault (C : cx_M p s m args meth c RX8 cX8_findFault (some .int) 1) (hK : va_K (dC, dI) vwCl [(cI, .int)] s) (hA : ∀ q, s.heap.size ≤ q → A q) {a : Nat → Nat} {q : (Int32 × ms_T)} {S : ms_T} (h : f8_findFault S = some q) {H : Heap} {locs : List Loc} {ls : Array Slot} (hG : gd_W (dC, dI) A s (wd_M cI a S) H locs) (hl : lv_has ls 1 [(0, .ref (a 0))]) : W p l e RM8_findFault s m args below meth c H locs 0 0 (MQ below (qi_W (dC, dI) [(cI, .int)] A q.1 (wd_M cI a q.2)) args s 0 0 A) (F0 m 0 ls []) := by
  unfold f8_findFault at h
  obtain ⟨hx, hb, hr, hts, hown, hlocks, hml⟩ := id C
  refine lv_aload_n hx hb dX8_findFault_0 rfl (lv_at hl 0 rfl) ?_
  refine lv_iconst (v := (0 : Int32)) hx hb dX8_findFault_1 (by decide) ?_
  refine va_put (D := (dC, dI)) (ci := 7) (v := .int (0 : Int32)) (ty := .int) (C := RX8) (T := TX8) (N := 17) hx hb hts inlX8 tyX8 tyX8_ok nmX8 hown hK hG.1 hG.2.1 hG.2.2 0 rfl rfl 14 (by decide) (hts (Cond.fieldLink RX8 203 "DiceRoadsModel" "at" "I") wq_651) (fun _ h9 => h9) rfl (by decide +kernel) rfl rfl (Nat.le_of_ble_eq_true rfl) dX8_findFault_2 (fun H locs hP9 hD9 hS9 => ?_)
  have hG : gd_W (dC, dI) A s (wd_M cI a (ms_set S 8 (upd (S 8) 6 (0 : Int32)))) H locs := ⟨hP9, hD9, hS9⟩
  exact w8_findFault_L5 C hK hA fo_fu h hG (lv_sub hl [0] rfl)
set_option maxRecDepth 100000 in
set_option maxHeartbeats 4000000 in
theorem c8_findFault (l : Launch) {dC : Nat → ClassId} {dI : Nat → Nat → Nat} {cI : ClassId} {a : Nat → Nat} {S : ms_T} {q : (Int32 × ms_T)} (h : f8_findFault S = some q) : mi_M l yX8_findFault wm8_findFault RM8_findFault (dC, dI) [(cI, .int)] [.ref (a 0)] (wd_M cI a S) q.1 (wd_M cI a q.2) := by
  intro sz
  refine Met.ofW (cc := cX8_findFault) (maxL := 1) (ret := (some .int)) (by decide) rfl ?_
  intro p e s m args below meth c s₁ B hml hv
  obtain ⟨rfl, hsz, hP, hK, hD0⟩ := hv
  subst hsz
  have hl := lv_entry ([.ref (a 0)] : List Value) (n := 1) (Nat.le_of_ble_eq_true rfl)
  rw [lg_entry_eq]
  generalize (lg_sl ([.ref (a 0)] : List Value) ++ List.replicate (1 - (lg_sl ([.ref (a 0)] : List Value)).length) Slot.unset).toArray = ls at hl ⊢
  exact w8_findFault (a := a) ⟨B.exec, B.bytes, B.returns, fun w hw => atoms_spec (ws := wm8_findFault) B.pre w (List.mem_cons_of_mem _ hw), findClass_of_methodNamed B.named, B.notSynchronized, hml⟩ hK (fun _ h => Or.inr h) h ⟨hP, hD0.self, va_S.rf⟩ hl
end
/-! ## DiceRoadsModel.fault()I -/
section
variable {p : Program} {l : Launch} {e : Env} {s : State} {m : MethodId} {args : Array Value} {below : List Frame} {meth : Method} {c : Code} {dC : Nat → ClassId} {dI : Nat → Nat → Nat} {cI : ClassId} {A : Nat → Prop}
set_option maxRecDepth 100000 in
set_option maxHeartbeats 4000000 in
theorem w8_fault (C : cx_M p s m args meth c RX8 cX8_fault (some .int) 1) (hK : va_K (dC, dI) vwCl [(cI, .int)] s) (hA : ∀ q, s.heap.size ≤ q → A q) {a : Nat → Nat} {q : (Int32 × ms_T)} {S : ms_T} (h : f8_fault S = some q) {H : Heap} {locs : List Loc} {ls : Array Slot} (hG : gd_W (dC, dI) A s (wd_M cI a S) H locs) (hl : lv_has ls 1 [(0, .ref (a 0))]) : W p l e RM8_fault s m args below meth c H locs 0 0 (MQ below (qi_W (dC, dI) [(cI, .int)] A q.1 (wd_M cI a q.2)) args s 0 0 A) (F0 m 0 ls []) := by
  unfold f8_fault at h
  obtain ⟨hx, hb, hr, hts, hown, hlocks, hml⟩ := id C
  refine lv_aload_n hx hb dX8_fault_0 rfl (lv_at hl 0 rfl) ?_
  obtain ⟨q1, hq1, h⟩ := fo_bd_some h
  refine gc_iV (b := a 0) (C := RX8) (As := []) (rest := []) (wc := (wd_M cI a S)) (w1 := (wd_M cI a q1.2)) (ci := 7) (q0 := 0) ⟨hx, hb, hml, hown, hts⟩ (c8_findFault l (a := a) hq1) (cwV 0 hts gv_X8_228 rfl rfl rfl hd8_findFault ⟨Nat.le_of_ble_eq_true rfl, Nat.le_of_ble_eq_true rfl⟩) hK [0] rfl hA hG [0, 1, 2, 3, 4, 5, 6, 7, 8] rfl rfl rfl rfl rfl rfl hl.1 rfl (Nat.le_of_ble_eq_true rfl) dX8_fault_1 ⟨Nat.zero_le _, Nat.zero_le _⟩ (fun H locs hG9 => ?_)
  have hG : gd_W (dC, dI) A s (wd_M cI a q1.2) H locs := hG9
  obtain rfl := Option.some.inj h
  exact gr_i hx hb hr hlocks hK hG rfl dX8_fault_4
set_option maxRecDepth 100000 in
set_option maxHeartbeats 4000000 in
theorem c8_fault (l : Launch) {dC : Nat → ClassId} {dI : Nat → Nat → Nat} {cI : ClassId} {a : Nat → Nat} {S : ms_T} {q : (Int32 × ms_T)} (h : f8_fault S = some q) : mi_M l yX8_fault wm8_fault RM8_fault (dC, dI) [(cI, .int)] [.ref (a 0)] (wd_M cI a S) q.1 (wd_M cI a q.2) := by
  intro sz
  refine Met.ofW (cc := cX8_fault) (maxL := 1) (ret := (some .int)) (by decide) rfl ?_
  intro p e s m args below meth c s₁ B hml hv
  obtain ⟨rfl, hsz, hP, hK, hD0⟩ := hv
  subst hsz
  have hl := lv_entry ([.ref (a 0)] : List Value) (n := 1) (Nat.le_of_ble_eq_true rfl)
  rw [lg_entry_eq]
  generalize (lg_sl ([.ref (a 0)] : List Value) ++ List.replicate (1 - (lg_sl ([.ref (a 0)] : List Value)).length) Slot.unset).toArray = ls at hl ⊢
  exact w8_fault (a := a) ⟨B.exec, B.bytes, B.returns, fun w hw => atoms_spec (ws := wm8_fault) B.pre w (List.mem_cons_of_mem _ hw), findClass_of_methodNamed B.named, B.notSynchronized, hml⟩ hK (fun _ h => Or.inr h) h ⟨hP, hD0.self, va_S.rf⟩ hl
end
/-! ## DiceRoadsModel.whyNotDone()I -/
section
variable {p : Program} {l : Launch} {e : Env} {s : State} {m : MethodId} {args : Array Value} {below : List Frame} {meth : Method} {c : Code} {dC : Nat → ClassId} {dI : Nat → Nat → Nat} {cI : ClassId} {A : Nat → Prop}
set_option maxRecDepth 100000 in
set_option maxHeartbeats 4000000 in
theorem w8_whyNotDone (C : cx_M p s m args meth c RX8 cX8_whyNotDone (some .int) 1) (hK : va_K (dC, dI) vwCl [(cI, .int)] s) (hA : ∀ q, s.heap.size ≤ q → A q) {a : Nat → Nat} {q : Int32} {S : ms_T} (h : f8_whyNotDone S = some q) {H : Heap} {locs : List Loc} {ls : Array Slot} (hG : gd_W (dC, dI) A s (wd_M cI a S) H locs) (hl : lv_has ls 1 [(0, .ref (a 0))]) : W p l e RM8_whyNotDone s m args below meth c H locs 0 0 (MQ below (qi_W (dC, dI) [(cI, .int)] A q (wd_M cI a S)) args s 0 0 A) (F0 m 0 ls []) := by
  unfold f8_whyNotDone at h
  obtain ⟨hx, hb, hr, hts, hown, hlocks, hml⟩ := id C
  refine lv_aload_n hx hb dX8_whyNotDone_0 rfl (lv_at hl 0 rfl) ?_
  refine va_get (D := (dC, dI)) (ci := 7) (v := .int (S 8 7)) (C := RX8) (T := TX8) (N := 17) hx hb hts inlX8 hown hK hG.1 0 rfl rfl 15 (by decide) (hts (Cond.fieldLink RX8 216 "DiceRoadsModel" "letter" "I") wq_652) (fun _ h9 => h9) rfl dX8_whyNotDone_1 ?_
  by_cases hc : (S 8 7) = (99 : Int32)
  · have h := fo_it h hc
    refine W.eq (g2 := F0 m 4 ls [.int (99 : Int32)]) (by rw [hc]) ?_
    refine lv_lookup (tgt := 58) hx hb dX8_whyNotDone_4 (by decide) rfl (by decide) ?_
    refine lv_aload_n hx hb dX8_whyNotDone_58 rfl (lv_at hl 0 rfl) ?_
    refine lv_aload_n hx hb dX8_whyNotDone_59 rfl (lv_at hl 0 rfl) ?_
    refine va_get (D := (dC, dI)) (ci := 7) (v := .int (S 8 8)) (C := RX8) (T := TX8) (N := 17) hx hb hts inlX8 hown hK hG.1 0 rfl rfl 16 (by decide) (hts (Cond.fieldLink RX8 213 "DiceRoadsModel" "number" "I") wq_653) (fun _ h9 => h9) rfl dX8_whyNotDone_60 ?_
    obtain ⟨q63, hq63, h⟩ := fo_bd_some h
    refine gc_iV (b := a 0) (C := RX8) (As := [.int (S 8 8)]) (rest := []) (wc := (wd_M0 cI a (S 8) (S 0))) (w1 := (wd_M0 cI a (S 8) (S 0))) (ci := 7) (q0 := 0) ⟨hx, hb, hml, hown, hts⟩ (c8_isPlayer l (a := a) (X := (S 8)) hq63) (cwV 1 hts gv_X8_156 rfl rfl rfl hd8_isPlayer ⟨Nat.le_of_ble_eq_true rfl, Nat.le_of_ble_eq_true rfl⟩) hK [0] rfl hA hG [0, 1] rfl rfl rfl rfl rfl rfl hl.1 rfl (Nat.le_of_ble_eq_true rfl) dX8_whyNotDone_63 ⟨Nat.zero_le _, Nat.zero_le _⟩ (fun H locs hG9 => ?_)
    have hG : gd_W (dC, dI) A s (wd_M cI a S) H locs := hG9
    refine lv_if_eq (tgt := 73) hx hb dX8_whyNotDone_66 (by decide) (fun hc => ?_) (fun hc => ?_)
    · have h := fo_it h hc
      refine lv_iconst (v := (-1 : Int32)) hx hb dX8_whyNotDone_73 (by decide) ?_
      exact gr_i hx hb hr hlocks hK hG (Option.some.inj h) dX8_whyNotDone_74
    · have h := fo_if h hc
      refine lv_iconst (v := (0 : Int32)) hx hb dX8_whyNotDone_69 (by decide) ?_
      refine lv_goto (tgt := 74) hx hb dX8_whyNotDone_70 (by decide) ?_
      exact gr_i hx hb hr hlocks hK hG (Option.some.inj h) dX8_whyNotDone_74
  replace h := fo_if h hc
  have hn99 := lv_neT (a := 99) hc (by decide)
  have hm99 := hc
  clear hc
  by_cases hc : (S 8 7) = (112 : Int32)
  · have h := fo_it h hc
    refine W.eq (g2 := F0 m 4 ls [.int (112 : Int32)]) (by rw [hc]) ?_
    refine lv_lookup (tgt := 40) hx hb dX8_whyNotDone_4 (by decide) rfl (by decide) ?_
    refine lv_aload_n hx hb dX8_whyNotDone_40 rfl (lv_at hl 0 rfl) ?_
    refine lv_aload_n hx hb dX8_whyNotDone_41 rfl (lv_at hl 0 rfl) ?_
    refine va_get (D := (dC, dI)) (ci := 7) (v := .int (S 8 8)) (C := RX8) (T := TX8) (N := 17) hx hb hts inlX8 hown hK hG.1 0 rfl rfl 16 (by decide) (hts (Cond.fieldLink RX8 213 "DiceRoadsModel" "number" "I") wq_653) (fun _ h9 => h9) rfl dX8_whyNotDone_42 ?_
    obtain ⟨q45, hq45, h⟩ := fo_bd_some h
    refine gc_iV (b := a 0) (C := RX8) (As := [.int (S 8 8)]) (rest := []) (wc := (wd_M0 cI a (S 8) (S 0))) (w1 := (wd_M0 cI a (S 8) (S 0))) (ci := 7) (q0 := 0) ⟨hx, hb, hml, hown, hts⟩ (c8_whyNoPlayer l (a := a) (X := (S 8)) hq45) (cwV 1 hts gv_X8_131 rfl rfl rfl hd8_whyNoPlayer ⟨Nat.le_of_ble_eq_true rfl, Nat.le_of_ble_eq_true rfl⟩) hK [0] rfl hA hG [0, 1] rfl rfl rfl rfl rfl rfl hl.1 rfl (Nat.le_of_ble_eq_true rfl) dX8_whyNotDone_45 ⟨Nat.zero_le _, Nat.zero_le _⟩ (fun H locs hG9 => ?_)
    have hG : gd_W (dC, dI) A s (wd_M cI a S) H locs := hG9
    exact gr_i hx hb hr hlocks hK hG (Option.some.inj h) dX8_whyNotDone_48
  replace h := fo_if h hc
  have hn112 := lv_neT (a := 112) hc (by decide)
  have hm112 := hc
  clear hc
  by_cases hc : (S 8 7) = (116 : Int32)
  · have h := fo_it h hc
    refine W.eq (g2 := F0 m 4 ls [.int (116 : Int32)]) (by rw [hc]) ?_
    refine lv_lookup (tgt := 49) hx hb dX8_whyNotDone_4 (by decide) rfl (by decide) ?_
    refine lv_aload_n hx hb dX8_whyNotDone_49 rfl (lv_at hl 0 rfl) ?_
    refine lv_aload_n hx hb dX8_whyNotDone_50 rfl (lv_at hl 0 rfl) ?_
    refine va_get (D := (dC, dI)) (ci := 7) (v := .int (S 8 8)) (C := RX8) (T := TX8) (N := 17) hx hb hts inlX8 hown hK hG.1 0 rfl rfl 16 (by decide) (hts (Cond.fieldLink RX8 213 "DiceRoadsModel" "number" "I") wq_653) (fun _ h9 => h9) rfl dX8_whyNotDone_51 ?_
    obtain ⟨q54, hq54, h⟩ := fo_bd_some h
    refine gc_iV (b := a 0) (C := RX8) (As := [.int (S 8 8)]) (rest := []) (wc := (wd_M0 cI a (S 8) (S 0))) (w1 := (wd_M0 cI a (S 8) (S 0))) (ci := 7) (q0 := 0) ⟨hx, hb, hml, hown, hts⟩ (c8_whyNoTurns l (a := a) (X := (S 8)) hq54) (cwV 1 hts gv_X8_137 rfl rfl rfl hd8_whyNoTurns ⟨Nat.le_of_ble_eq_true rfl, Nat.le_of_ble_eq_true rfl⟩) hK [0] rfl hA hG [0, 1] rfl rfl rfl rfl rfl rfl hl.1 rfl (Nat.le_of_ble_eq_true rfl) dX8_whyNotDone_54 ⟨Nat.zero_le _, Nat.zero_le _⟩ (fun H locs hG9 => ?_)
    have hG : gd_W (dC, dI) A s (wd_M cI a S) H locs := hG9
    exact gr_i hx hb hr hlocks hK hG (Option.some.inj h) dX8_whyNotDone_57
  replace h := fo_if h hc
  have hn116 := lv_neT (a := 116) hc (by decide)
  have hm116 := hc
  clear hc
  refine lv_lookup (off := 71) (tgt := 75) hx hb dX8_whyNotDone_4 (by decide) ((lv_osw hm99 (by decide)).trans ((lv_osw hm112 (by decide)).trans ((lv_osw hm116 (by decide)).trans (rfl)))) (by decide) ?_
  refine lv_iconst (v := (0 : Int32)) hx hb dX8_whyNotDone_75 (by decide) ?_
  exact gr_i hx hb hr hlocks hK hG (Option.some.inj h) dX8_whyNotDone_76
set_option maxRecDepth 100000 in
set_option maxHeartbeats 4000000 in
theorem c8_whyNotDone (l : Launch) {dC : Nat → ClassId} {dI : Nat → Nat → Nat} {cI : ClassId} {a : Nat → Nat} {S : ms_T} {q : Int32} (h : f8_whyNotDone S = some q) : mi_M l yX8_whyNotDone wm8_whyNotDone RM8_whyNotDone (dC, dI) [(cI, .int)] [.ref (a 0)] (wd_M cI a S) q (wd_M cI a S) := by
  intro sz
  refine Met.ofW (cc := cX8_whyNotDone) (maxL := 1) (ret := (some .int)) (by decide) rfl ?_
  intro p e s m args below meth c s₁ B hml hv
  obtain ⟨rfl, hsz, hP, hK, hD0⟩ := hv
  subst hsz
  have hl := lv_entry ([.ref (a 0)] : List Value) (n := 1) (Nat.le_of_ble_eq_true rfl)
  rw [lg_entry_eq]
  generalize (lg_sl ([.ref (a 0)] : List Value) ++ List.replicate (1 - (lg_sl ([.ref (a 0)] : List Value)).length) Slot.unset).toArray = ls at hl ⊢
  exact w8_whyNotDone (a := a) ⟨B.exec, B.bytes, B.returns, fun w hw => atoms_spec (ws := wm8_whyNotDone) B.pre w (List.mem_cons_of_mem _ hw), findClass_of_methodNamed B.named, B.notSynchronized, hml⟩ hK (fun _ h => Or.inr h) h ⟨hP, hD0.self, va_S.rf⟩ hl
end
/-! ## DiceRoadsModel.does()V -/
section
variable {p : Program} {l : Launch} {e : Env} {s : State} {m : MethodId} {args : Array Value} {below : List Frame} {meth : Method} {c : Code} {dC : Nat → ClassId} {dI : Nat → Nat → Nat} {cI : ClassId} {A : Nat → Prop}
set_option maxRecDepth 100000 in
set_option maxHeartbeats 4000000 in
theorem w8_does (C : cx_M p s m args meth c RX8 cX8_does none 1) (hK : va_K (dC, dI) vwCl [(cI, .int)] s) (hA : ∀ q, s.heap.size ≤ q → A q) {a : Nat → Nat} {q : ms_T} {S : ms_T} (h : f8_does S = some q) {H : Heap} {locs : List Loc} {ls : Array Slot} (hG : gd_W (dC, dI) A s (wd_M cI a S) H locs) (hl : lv_has ls 1 [(0, .ref (a 0))]) : W p l e RM8_does s m args below meth c H locs 0 0 (MQ below (qv_W (dC, dI) [(cI, .int)] A (wd_M cI a q)) args s 0 0 A) (F0 m 0 ls []) := by
  unfold f8_does at h
  obtain ⟨hx, hb, hr, hts, hown, hlocks, hml⟩ := id C
  refine lv_aload_n hx hb dX8_does_0 rfl (lv_at hl 0 rfl) ?_
  refine va_get (D := (dC, dI)) (ci := 7) (v := .int (S 8 7)) (C := RX8) (T := TX8) (N := 17) hx hb hts inlX8 hown hK hG.1 0 rfl rfl 15 (by decide) (hts (Cond.fieldLink RX8 216 "DiceRoadsModel" "letter" "I") wq_652) (fun _ h9 => h9) rfl dX8_does_1 ?_
  by_cases hc : (S 8 7) = (99 : Int32)
  · have h := fo_it h hc
    refine W.eq (g2 := F0 m 4 ls [.int (99 : Int32)]) (by rw [hc]) ?_
    refine lv_lookup (tgt := 64) hx hb dX8_does_4 (by decide) rfl (by decide) ?_
    refine lv_aload_n hx hb dX8_does_64 rfl (lv_at hl 0 rfl) ?_
    refine lv_aload_n hx hb dX8_does_65 rfl (lv_at hl 0 rfl) ?_
    refine va_get (D := (dC, dI)) (ci := 7) (v := .int (S 8 8)) (C := RX8) (T := TX8) (N := 17) hx hb hts inlX8 hown hK hG.1 0 rfl rfl 16 (by decide) (hts (Cond.fieldLink RX8 213 "DiceRoadsModel" "number" "I") wq_653) (fun _ h9 => h9) rfl dX8_does_66 ?_
    obtain ⟨q69, hq69, h⟩ := fo_bd_some h
    refine gc_iV (b := a 0) (C := RX8) (As := [.int (S 8 8)]) (rest := []) (wc := (wd_M cI a S)) (w1 := (wd_M cI a q69.2)) (ci := 7) (q0 := 0) ⟨hx, hb, hml, hown, hts⟩ (c8_clears l (a := a) hq69) (cwV 1 hts gv_X8_159 rfl rfl rfl hd8_clears ⟨Nat.le_of_ble_eq_true rfl, Nat.le_of_ble_eq_true rfl⟩) hK [0] rfl hA hG [0, 1, 2, 3, 4, 5, 6, 7, 8] rfl rfl rfl rfl rfl rfl hl.1 rfl (Nat.le_of_ble_eq_true rfl) dX8_does_69 ⟨Nat.zero_le _, Nat.zero_le _⟩ (fun H locs hG9 => ?_)
    have hG : gd_W (dC, dI) A s (wd_M cI a q69.2) H locs := hG9
    refine lv_pop hx hb dX8_does_72 rfl ?_
    refine lv_goto (tgt := 87) hx hb dX8_does_73 (by decide) ?_
    obtain rfl := Option.some.inj h
    exact gr_v hx hb hr hlocks hK hG dX8_does_87
  replace h := fo_if h hc
  have hn99 := lv_neT (a := 99) hc (by decide)
  have hm99 := hc
  clear hc
  by_cases hc : (S 8 7) = (112 : Int32)
  · have h := fo_it h hc
    refine W.eq (g2 := F0 m 4 ls [.int (112 : Int32)]) (by rw [hc]) ?_
    refine lv_lookup (tgt := 40) hx hb dX8_does_4 (by decide) rfl (by decide) ?_
    refine lv_aload_n hx hb dX8_does_40 rfl (lv_at hl 0 rfl) ?_
    refine lv_aload_n hx hb dX8_does_41 rfl (lv_at hl 0 rfl) ?_
    refine va_get (D := (dC, dI)) (ci := 7) (v := .int (S 8 8)) (C := RX8) (T := TX8) (N := 17) hx hb hts inlX8 hown hK hG.1 0 rfl rfl 16 (by decide) (hts (Cond.fieldLink RX8 213 "DiceRoadsModel" "number" "I") wq_653) (fun _ h9 => h9) rfl dX8_does_42 ?_
    obtain ⟨q45, hq45, h⟩ := fo_bd_some h
    refine gc_iV (b := a 0) (C := RX8) (As := [.int (S 8 8)]) (rest := []) (wc := (wd_M0 cI a (S 8) (S 0))) (w1 := (wd_M0 cI a (S 8) q45.2)) (ci := 7) (q0 := 0) ⟨hx, hb, hml, hown, hts⟩ (c8_comes l (a := a) (X := (S 8)) hq45) (cwV 1 hts gv_X8_134 rfl rfl rfl hd8_comes ⟨Nat.le_of_ble_eq_true rfl, Nat.le_of_ble_eq_true rfl⟩) hK [0] rfl hA hG [0, 1] rfl rfl rfl rfl rfl rfl hl.1 rfl (Nat.le_of_ble_eq_true rfl) dX8_does_45 ⟨Nat.zero_le _, Nat.zero_le _⟩ (fun H locs hG9 => ?_)
    have hG : gd_W (dC, dI) A s (wd_M cI a (ms_set S 0 q45.2)) H locs := hG9
    refine lv_pop hx hb dX8_does_48 rfl ?_
    refine lv_goto (tgt := 87) hx hb dX8_does_49 (by decide) ?_
    obtain rfl := Option.some.inj h
    exact gr_v hx hb hr hlocks hK hG dX8_does_87
  replace h := fo_if h hc
  have hn112 := lv_neT (a := 112) hc (by decide)
  have hm112 := hc
  clear hc
  by_cases hc : (S 8 7) = (116 : Int32)
  · have h := fo_it h hc
    refine W.eq (g2 := F0 m 4 ls [.int (116 : Int32)]) (by rw [hc]) ?_
    refine lv_lookup (tgt := 52) hx hb dX8_does_4 (by decide) rfl (by decide) ?_
    refine lv_aload_n hx hb dX8_does_52 rfl (lv_at hl 0 rfl) ?_
    refine lv_aload_n hx hb dX8_does_53 rfl (lv_at hl 0 rfl) ?_
    refine va_get (D := (dC, dI)) (ci := 7) (v := .int (S 8 8)) (C := RX8) (T := TX8) (N := 17) hx hb hts inlX8 hown hK hG.1 0 rfl rfl 16 (by decide) (hts (Cond.fieldLink RX8 213 "DiceRoadsModel" "number" "I") wq_653) (fun _ h9 => h9) rfl dX8_does_54 ?_
    obtain ⟨q57, hq57, h⟩ := fo_bd_some h
    refine gc_iV (b := a 0) (C := RX8) (As := [.int (S 8 8)]) (rest := []) (wc := (wd_M0 cI a (S 8) (S 0))) (w1 := (wd_M0 cI a (S 8) q57.2)) (ci := 7) (q0 := 0) ⟨hx, hb, hml, hown, hts⟩ (c8_doTurns l (a := a) (X := (S 8)) hq57) (cwV 1 hts gv_X8_140 rfl rfl rfl hd8_doTurns ⟨Nat.le_of_ble_eq_true rfl, Nat.le_of_ble_eq_true rfl⟩) hK [0] rfl hA hG [0, 1] rfl rfl rfl rfl rfl rfl hl.1 rfl (Nat.le_of_ble_eq_true rfl) dX8_does_57 ⟨Nat.zero_le _, Nat.zero_le _⟩ (fun H locs hG9 => ?_)
    have hG : gd_W (dC, dI) A s (wd_M cI a (ms_set S 0 q57.2)) H locs := hG9
    refine lv_pop hx hb dX8_does_60 rfl ?_
    refine lv_goto (tgt := 87) hx hb dX8_does_61 (by decide) ?_
    obtain rfl := Option.some.inj h
    exact gr_v hx hb hr hlocks hK hG dX8_does_87
  replace h := fo_if h hc
  have hn116 := lv_neT (a := 116) hc (by decide)
  have hm116 := hc
  clear hc
  refine lv_lookup (off := 72) (tgt := 76) hx hb dX8_does_4 (by decide) ((lv_osw hm99 (by decide)).trans ((lv_osw hm112 (by decide)).trans ((lv_osw hm116 (by decide)).trans (rfl)))) (by decide) ?_
  refine lv_aload_n hx hb dX8_does_76 rfl (lv_at hl 0 rfl) ?_
  refine va_get (D := (dC, dI)) (ci := 7) (v := .ref (a 1)) (C := RX8) (T := TX8) (N := 17) hx hb hts inlX8 hown hK hG.1 0 rfl rfl 0 (by decide) (hts (Cond.fieldLink RX8 7 "DiceRoadsModel" "state" "[I") wq_637) (fun _ h9 => h9) rfl dX8_does_77 ?_
  refine lv_bipush (v := (8 : Int32)) hx hb dX8_does_80 (by decide) ?_
  refine lv_aload_n hx hb dX8_does_82 rfl (lv_at hl 0 rfl) ?_
  refine va_get (D := (dC, dI)) (ci := 7) (v := .int (S 8 8)) (C := RX8) (T := TX8) (N := 17) hx hb hts inlX8 hown hK hG.1 0 rfl rfl 16 (by decide) (hts (Cond.fieldLink RX8 213 "DiceRoadsModel" "number" "I") wq_653) (fun _ h9 => h9) rfl dX8_does_83 ?_
  obtain ⟨hi, h⟩ := fo_ck_some h
  refine va_iast hx hb hK hG.1 hG.2.1 hG.2.2 1 0 rfl rfl hi dX8_does_86 (fun H locs hP9 hD9 hS9 => ?_)
  have hG : gd_W (dC, dI) A s (wd_M cI a (ms_set S 0 (upd (S 0) (8 : Int32).toNatClampNeg (S 8 8)))) H locs := ⟨hP9, hD9, hS9⟩
  obtain rfl := Option.some.inj h
  exact gr_v hx hb hr hlocks hK hG dX8_does_87
set_option maxRecDepth 100000 in
set_option maxHeartbeats 4000000 in
theorem c8_does (l : Launch) {dC : Nat → ClassId} {dI : Nat → Nat → Nat} {cI : ClassId} {a : Nat → Nat} {S : ms_T} {q : ms_T} (h : f8_does S = some q) : mv_M l yX8_does wm8_does RM8_does (dC, dI) [(cI, .int)] [.ref (a 0)] (wd_M cI a S) (wd_M cI a q) := by
  intro sz
  refine Met.ofW (cc := cX8_does) (maxL := 1) (ret := none) (by decide) rfl ?_
  intro p e s m args below meth c s₁ B hml hv
  obtain ⟨rfl, hsz, hP, hK, hD0⟩ := hv
  subst hsz
  have hl := lv_entry ([.ref (a 0)] : List Value) (n := 1) (Nat.le_of_ble_eq_true rfl)
  rw [lg_entry_eq]
  generalize (lg_sl ([.ref (a 0)] : List Value) ++ List.replicate (1 - (lg_sl ([.ref (a 0)] : List Value)).length) Slot.unset).toArray = ls at hl ⊢
  exact w8_does (a := a) ⟨B.exec, B.bytes, B.returns, fun w hw => atoms_spec (ws := wm8_does) B.pre w (List.mem_cons_of_mem _ hw), findClass_of_methodNamed B.named, B.notSynchronized, hml⟩ hK (fun _ h => Or.inr h) h ⟨hP, hD0.self, va_S.rf⟩ hl
end
