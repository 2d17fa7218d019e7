/-! ## DiceRoadsModel.carryOut()I -/
section
variable {p : Program} {l : Launch} {e : Env} {s : State} {m : MethodId} {args : Array Value} {below : List Frame} {meth : Method} {c : Code} {dC : Nat → ClassId} {dI : Nat → Nat → Nat} {cI : ClassId} {A : Nat → Prop}
set_option maxRecDepth 100000 in
set_option maxHeartbeats 4000000 in
theorem w8_carryOut_b79 (C : cx_M p s m args meth c RX8 cX8_carryOut (some .int) 3) (hK : va_K (dC, dI) vwCl [(cI, .int)] s) (hA : ∀ q, s.heap.size ≤ q → A q) {a : Nat → Nat} {q : (Int32 × ms_T)} {v1 : Int32} {S : ms_T} (h : f8_carryOut_b79 v1 S = some q) {H : Heap} {locs : List Loc} {ls : Array Slot} (hG : gd_W (dC, dI) A s (wd_M cI a S) H locs) (hl : lv_has ls 3 [(0, .ref (a 0)), (1, .int v1)]) : W p l e RM8_carryOut s m args below meth c H locs 0 0 (MQ below (qi_W (dC, dI) [(cI, .int)] A q.1 (wd_M cI a q.2)) args s 0 0 A) (F0 m 79 ls []) := by
  unfold f8_carryOut_b79 at h
  obtain ⟨hx, hb, hr, hts, hown, hlocks, hml⟩ := id C
  refine lv_aload_n hx hb dX8_carryOut_79 rfl (lv_at hl 0 rfl) ?_
  refine lv_iconst (v := (0 : Int32)) hx hb dX8_carryOut_80 (by decide) ?_
  refine va_put (D := (dC, dI)) (ci := 7) (v := .int (0 : Int32)) (ty := .int) (C := RX8) (T := TX8) (N := 17) hx hb hts inlX8 tyX8 tyX8_ok nmX8 hown hK hG.1 hG.2.1 hG.2.2 0 rfl rfl 7 (by decide) (hts (Cond.fieldLink RX8 186 "DiceRoadsModel" "padLength" "I") wq_644) (fun _ h9 => h9) rfl (by decide +kernel) rfl rfl (Nat.le_of_ble_eq_true rfl) dX8_carryOut_81 (fun H locs hP9 hD9 hS9 => ?_)
  have hG : gd_W (dC, dI) A s (wd_M cI a (ms_set S 8 (upd (S 8) 1 (0 : Int32)))) H locs := ⟨hP9, hD9, hS9⟩
  refine lv_iload_n hx hb dX8_carryOut_84 rfl (lv_at hl 1 rfl) ?_
  obtain rfl := Option.some.inj h
  exact gr_i hx hb hr hlocks hK hG rfl dX8_carryOut_85
set_option maxRecDepth 100000 in
set_option maxHeartbeats 4000000 in
theorem w8_carryOut_b64 (C : cx_M p s m args meth c RX8 cX8_carryOut (some .int) 3) (hK : va_K (dC, dI) vwCl [(cI, .int)] s) (hA : ∀ q, s.heap.size ≤ q → A q) {a : Nat → Nat} {q : (Int32 × ms_T)} {rec25 : Int32 → Int32 → ms_T → Option (Int32 × ms_T)} (hrec25 : ∀ {v1 : Int32} {v2 : Int32} {S : ms_T} , rec25 v1 v2 S = some q → ∀ {H : Heap} {locs : List Loc} {ls : Array Slot}, gd_W (dC, dI) A s (wd_M cI a S) H locs → lv_has ls 3 [(0, .ref (a 0)), (1, .int v1), (2, .int v2)] → W p l e RM8_carryOut s m args below meth c H locs 0 0 (MQ below (qi_W (dC, dI) [(cI, .int)] A q.1 (wd_M cI a q.2)) args s 0 0 A) (F0 m 25 ls [])) {v1 : Int32} {t0 : Int32} {S : ms_T} (h : f8_carryOut_b64 rec25 v1 t0 S = some q) {H : Heap} {locs : List Loc} {ls : Array Slot} (hG : gd_W (dC, dI) A s (wd_M cI a S) H locs) (hl : lv_has ls 3 [(0, .ref (a 0)), (1, .int v1)]) : W p l e RM8_carryOut s m args below meth c H locs 0 0 (MQ below (qi_W (dC, dI) [(cI, .int)] A q.1 (wd_M cI a q.2)) args s 0 0 A) (F0 m 64 ls [.int t0]) := by
  unfold f8_carryOut_b64 at h
  obtain ⟨hx, hb, hr, hts, hown, hlocks, hml⟩ := id C
  refine lv_istore_n (lv' := [(2, .int t0), (0, .ref (a 0)), (1, .int v1)]) hx hb dX8_carryOut_64 rfl hl (by decide) rfl (fun ls hl => ?_)
  refine lv_iload_n hx hb dX8_carryOut_65 rfl (lv_at hl 0 rfl) ?_
  refine lv_if_eq (tgt := 25) hx hb dX8_carryOut_66 (by decide) (fun hc => ?_) (fun hc => ?_)
  · have h := fo_it h hc
    exact hrec25 h hG (lv_sub hl [1, 2, 0] rfl)
  · have h := fo_if h hc
    refine lv_aload_n hx hb dX8_carryOut_69 rfl (lv_at hl 1 rfl) ?_
    obtain ⟨q70, hq70, h⟩ := fo_bd_some h
    refine gc_vV (b := a 0) (C := RX8) (As := []) (rest := []) (wc := (wd_M cI a S)) (w1 := (wd_M cI a q70)) (ci := 7) (q0 := 0) ⟨hx, hb, hml, hown, hts⟩ (c8_does l (a := a) hq70) (cwV 0 hts gv_X8_234 rfl rfl rfl hd8_does ⟨Nat.le_of_ble_eq_true rfl, Nat.le_of_ble_eq_true rfl⟩) hK [0] rfl hA hG [0, 1, 2, 3, 4, 5, 6, 7, 8] rfl rfl rfl rfl rfl rfl hl.1 rfl (Nat.le_of_ble_eq_true rfl) dX8_carryOut_70 ⟨Nat.zero_le _, Nat.zero_le _⟩ (fun H locs hG9 => ?_)
    have hG : gd_W (dC, dI) A s (wd_M cI a q70) H locs := hG9
    refine lv_iinc (v := (v1 + (1 : Int32))) (lv' := [(1, .int (v1 + (1 : Int32))), (2, .int t0), (0, .ref (a 0))]) hx hb dX8_carryOut_73 hl (k := 2) rfl rfl (by decide) rfl (fun ls hl => ?_)
    refine lv_goto (tgt := 25) hx hb dX8_carryOut_76 (by decide) ?_
    exact hrec25 h hG (lv_sub hl [2, 0, 1] rfl)
set_option maxRecDepth 100000 in
set_option maxHeartbeats 4000000 in
theorem w8_carryOut_b25 (C : cx_M p s m args meth c RX8 cX8_carryOut (some .int) 3) (hK : va_K (dC, dI) vwCl [(cI, .int)] s) (hA : ∀ q, s.heap.size ≤ q → A q) {a : Nat → Nat} {q : (Int32 × ms_T)} {rec25 : Int32 → Int32 → ms_T → Option (Int32 × ms_T)} (hrec25 : ∀ {v1 : Int32} {v2 : Int32} {S : ms_T} , rec25 v1 v2 S = some q → ∀ {H : Heap} {locs : List Loc} {ls : Array Slot}, gd_W (dC, dI) A s (wd_M cI a S) H locs → lv_has ls 3 [(0, .ref (a 0)), (1, .int v1), (2, .int v2)] → W p l e RM8_carryOut s m args below meth c H locs 0 0 (MQ below (qi_W (dC, dI) [(cI, .int)] A q.1 (wd_M cI a q.2)) args s 0 0 A) (F0 m 25 ls [])) {v1 : Int32} {v2 : Int32} {S : ms_T} (h : f8_carryOut_b25 rec25 v1 v2 S = some q) {H : Heap} {locs : List Loc} {ls : Array Slot} (hG : gd_W (dC, dI) A s (wd_M cI a S) H locs) (hl : lv_has ls 3 [(0, .ref (a 0)), (1, .int v1), (2, .int v2)]) : W p l e RM8_carryOut s m args below meth c H locs 0 0 (MQ below (qi_W (dC, dI) [(cI, .int)] A q.1 (wd_M cI a q.2)) args s 0 0 A) (F0 m 25 ls []) := by
  unfold f8_carryOut_b25 at h
  obtain ⟨hx, hb, hr, hts, hown, hlocks, hml⟩ := id C
  refine lv_iload_n hx hb dX8_carryOut_25 rfl (lv_at hl 2 rfl) ?_
  refine lv_if_eq (tgt := 79) hx hb dX8_carryOut_26 (by decide) (fun hc => ?_) (fun hc => ?_)
  · have h := fo_it h hc
    exact w8_carryOut_b79 C hK hA h hG (lv_sub hl [0, 1] rfl)
  · have h := fo_if h hc
    refine lv_aload_n hx hb dX8_carryOut_29 rfl (lv_at hl 0 rfl) ?_
    refine va_get (D := (dC, dI)) (ci := 7) (v := .int (S 8 6)) (C := RX8) (T := TX8) (N := 17) hx hb hts inlX8 hown hK hG.1 0 rfl rfl 14 (by decide) (hts (Cond.fieldLink RX8 203 "DiceRoadsModel" "at" "I") wq_651) (fun _ h9 => h9) rfl dX8_carryOut_30 ?_
    refine lv_aload_n hx hb dX8_carryOut_33 rfl (lv_at hl 0 rfl) ?_
    refine va_get (D := (dC, dI)) (ci := 7) (v := .int (S 8 1)) (C := RX8) (T := TX8) (N := 17) hx hb hts inlX8 hown hK hG.1 0 rfl rfl 7 (by decide) (hts (Cond.fieldLink RX8 186 "DiceRoadsModel" "padLength" "I") wq_644) (fun _ h9 => h9) rfl dX8_carryOut_34 ?_
    refine lv_icmp_ge (tgt := 79) hx hb dX8_carryOut_37 (by decide) (fun hc => ?_) (fun hc => ?_)
    · have h := fo_it h hc
      exact w8_carryOut_b79 C hK hA h hG (lv_sub hl [0, 1] rfl)
    · have h := fo_if h hc
      refine lv_aload_n hx hb dX8_carryOut_40 rfl (lv_at hl 0 rfl) ?_
      obtain ⟨q41, hq41, h⟩ := fo_bd_some h
      refine gc_iV (b := a 0) (C := RX8) (As := []) (rest := []) (wc := (wd_M cI a S)) (w1 := (wd_M cI a q41.2)) (ci := 7) (q0 := 0) ⟨hx, hb, hml, hown, hts⟩ (c8_readsOrder l (a := a) hq41) (cwV 0 hts gv_X8_222 rfl rfl rfl hd8_readsOrder ⟨Nat.le_of_ble_eq_true rfl, Nat.le_of_ble_eq_true rfl⟩) hK [0] rfl hA hG [0, 1, 2, 3, 4, 5, 6, 7, 8] rfl rfl rfl rfl rfl rfl hl.1 rfl (Nat.le_of_ble_eq_true rfl) dX8_carryOut_41 ⟨Nat.zero_le _, Nat.zero_le _⟩ (fun H locs hG9 => ?_)
      have hG : gd_W (dC, dI) A s (wd_M cI a q41.2) H locs := hG9
      refine lv_pop hx hb dX8_carryOut_44 rfl ?_
      refine lv_aload_n hx hb dX8_carryOut_45 rfl (lv_at hl 0 rfl) ?_
      refine lv_bipush (v := (59 : Int32)) hx hb dX8_carryOut_46 (by decide) ?_
      obtain ⟨q48, hq48, h⟩ := fo_bd_some h
      refine gc_iV (b := a 0) (C := RX8) (As := [.int (59 : Int32)]) (rest := []) (wc := (wd_M cI a q41.2)) (w1 := (wd_M cI a q48.2)) (ci := 7) (q0 := 0) ⟨hx, hb, hml, hown, hts⟩ (c8_isNext l (a := a) hq48) (cwV 1 hts gv_X8_225 rfl rfl rfl hd8_isNext ⟨Nat.le_of_ble_eq_true rfl, Nat.le_of_ble_eq_true rfl⟩) hK [0] rfl hA hG [0, 1, 2, 3, 4, 5, 6, 7, 8] rfl rfl rfl rfl rfl rfl hl.1 rfl (Nat.le_of_ble_eq_true rfl) dX8_carryOut_48 ⟨Nat.zero_le _, Nat.zero_le _⟩ (fun H locs hG9 => ?_)
      have hG : gd_W (dC, dI) A s (wd_M cI a q48.2) H locs := hG9
      refine lv_pop hx hb dX8_carryOut_51 rfl ?_
      refine lv_aload_n hx hb dX8_carryOut_52 rfl (lv_at hl 0 rfl) ?_
      obtain ⟨q53, hq53, h⟩ := fo_bd_some h
      refine gc_iV (b := a 0) (C := RX8) (As := []) (rest := []) (wc := (wd_M cI a q48.2)) (w1 := (wd_M cI a q48.2)) (ci := 7) (q0 := 0) ⟨hx, hb, hml, hown, hts⟩ (c8_whyNotDone l (a := a) hq53) (cwV 0 hts gv_X8_231 rfl rfl rfl hd8_whyNotDone ⟨Nat.le_of_ble_eq_true rfl, Nat.le_of_ble_eq_true rfl⟩) hK [0] rfl hA hG [0, 1, 2, 3, 4, 5, 6, 7, 8] rfl rfl rfl rfl rfl rfl hl.1 rfl (Nat.le_of_ble_eq_true rfl) dX8_carryOut_53 ⟨Nat.zero_le _, Nat.zero_le _⟩ (fun H locs hG9 => ?_)
      have hG : gd_W (dC, dI) A s (wd_M cI a q48.2) H locs := hG9
      refine lv_if_ne (tgt := 63) hx hb dX8_carryOut_56 (by decide) (fun hc => ?_) (fun hc => ?_)
      · have h := fo_if h hc
        refine lv_iconst (v := (0 : Int32)) hx hb dX8_carryOut_63 (by decide) ?_
        exact w8_carryOut_b64 C hK hA (fun h => hrec25 h) h hG (lv_sub hl [0, 1] rfl)
      · have h := fo_it h hc
        refine lv_iconst (v := (1 : Int32)) hx hb dX8_carryOut_59 (by decide) ?_
        refine lv_goto (tgt := 64) hx hb dX8_carryOut_60 (by decide) ?_
        exact w8_carryOut_b64 C hK hA (fun h => hrec25 h) h hG (lv_sub hl [0, 1] rfl)
set_option maxRecDepth 100000 in
set_option maxHeartbeats 4000000 in
theorem w8_carryOut_L25 (C : cx_M p s m args meth c RX8 cX8_carryOut (some .int) 3) (hK : va_K (dC, dI) vwCl [(cI, .int)] s) (hA : ∀ q, s.heap.size ≤ q → A q) {a : Nat → Nat} {q : (Int32 × ms_T)} : ∀ (n : Nat) {v1 : Int32} {v2 : Int32} {S : ms_T}, f8_carryOut_L25 n v1 v2 S = some q → ∀ {H : Heap} {locs : List Loc} {ls : Array Slot}, gd_W (dC, dI) A s (wd_M cI a S) H locs → lv_has ls 3 [(0, .ref (a 0)), (1, .int v1), (2, .int v2)] → W p l e RM8_carryOut s m args below meth c H locs 0 0 (MQ below (qi_W (dC, dI) [(cI, .int)] A q.1 (wd_M cI a q.2)) args s 0 0 A) (F0 m 25 ls []) := by
  intro n
  induction n with
  | zero => intro _ _ _ h; exact nomatch h
  | succ n ih => intro v1 v2 S h H locs ls hG hl; exact w8_carryOut_b25 C hK hA (fun h => ih h) (show f8_carryOut_b25 (f8_carryOut_L25 n) v1 v2 S = some q from h) hG hl
set_option maxRecDepth 100000 in
set_option maxHeartbeats 4000000 in
theorem w8_carryOut (C : cx_M p s m args meth c RX8 cX8_carryOut (some .int) 3) (hK : va_K (dC, dI) vwCl [(cI, .int)] s) (hA : ∀ q, s.heap.size ≤ q → A q) {a : Nat → Nat} {q : (Int32 × ms_T)} {S : ms_T} (h : f8_carryOut S = some q) {H : Heap} {locs : List Loc} {ls : Array Slot} (hG : gd_W (dC, dI) A s (wd_M cI a S) H locs) (hl : lv_has ls 3 [(0, .ref (a 0))]) : W p l e RM8_carryOut s m args below meth c H locs 0 0 (MQ below (qi_W (dC, dI) [(cI, .int)] A q.1 (wd_M cI a q.2)) args s 0 0 A) (F0 m 0 ls []) := by
  unfold f8_carryOut at h
  obtain ⟨hx, hb, hr, hts, hown, hlocks, hml⟩ := id C
  refine lv_aload_n hx hb dX8_carryOut_0 rfl (lv_at hl 0 rfl) ?_
  obtain ⟨q1, hq1, h⟩ := fo_bd_some h
  refine gc_iV (b := a 0) (C := RX8) (As := []) (rest := []) (wc := (wd_M cI a S)) (w1 := (wd_M cI a q1.2)) (ci := 7) (q0 := 0) ⟨hx, hb, hml, hown, hts⟩ (c8_findFault l (a := a) hq1) (cwV 0 hts gv_X8_228 rfl rfl rfl hd8_findFault ⟨Nat.le_of_ble_eq_true rfl, Nat.le_of_ble_eq_true rfl⟩) hK [0] rfl hA hG [0, 1, 2, 3, 4, 5, 6, 7, 8] rfl rfl rfl rfl rfl rfl hl.1 rfl (Nat.le_of_ble_eq_true rfl) dX8_carryOut_1 ⟨Nat.zero_le _, Nat.zero_le _⟩ (fun H locs hG9 => ?_)
  have hG : gd_W (dC, dI) A s (wd_M cI a q1.2) H locs := hG9
  refine lv_bipush (v := (-6 : Int32)) hx hb dX8_carryOut_4 (by decide) ?_
  refine lv_icmp_eq (tgt := 12) hx hb dX8_carryOut_6 (by decide) (fun hc => ?_) (fun hc => ?_)
  · have h := fo_it h hc
    refine lv_aload_n hx hb dX8_carryOut_12 rfl (lv_at hl 0 rfl) ?_
    obtain ⟨q13, hq13, h⟩ := fo_bd_some h
    refine gc_vV (b := a 0) (C := RX8) (As := []) (rest := []) (wc := (wd_M cI a q1.2)) (w1 := (wd_M cI a q13)) (ci := 7) (q0 := 0) ⟨hx, hb, hml, hown, hts⟩ (c8_record l (a := a) hq13) (cwV 0 hts gv_X8_128 rfl rfl rfl hd8_record ⟨Nat.le_of_ble_eq_true rfl, Nat.le_of_ble_eq_true rfl⟩) hK [0] rfl hA hG [0, 1, 2, 3, 4, 5, 6, 7, 8] rfl rfl rfl rfl rfl rfl hl.1 rfl (Nat.le_of_ble_eq_true rfl) dX8_carryOut_13 ⟨Nat.zero_le _, Nat.zero_le _⟩ (fun H locs hG9 => ?_)
    have hG : gd_W (dC, dI) A s (wd_M cI a q13) H locs := hG9
    refine lv_iconst (v := (0 : Int32)) hx hb dX8_carryOut_16 (by decide) ?_
    refine lv_istore_n (lv' := [(1, .int (0 : Int32)), (0, .ref (a 0))]) hx hb dX8_carryOut_17 rfl hl (by decide) rfl (fun ls hl => ?_)
    refine lv_aload_n hx hb dX8_carryOut_18 rfl (lv_at hl 1 rfl) ?_
    refine lv_iconst (v := (0 : Int32)) hx hb dX8_carryOut_19 (by decide) ?_
    refine va_put (D := (dC, dI)) (ci := 7) (v := .int (0 : Int32)) (ty := .int) (C := RX8) (T := TX8) (N := 17) hx hb hts inlX8 tyX8 tyX8_ok nmX8 hown hK hG.1 hG.2.1 hG.2.2 0 rfl rfl 14 (by decide) (hts (Cond.fieldLink RX8 203 "DiceRoadsModel" "at" "I") wq_651) (fun _ h9 => h9) rfl (by decide +kernel) rfl rfl (Nat.le_of_ble_eq_true rfl) dX8_carryOut_20 (fun H locs hP9 hD9 hS9 => ?_)
    have hG : gd_W (dC, dI) A s (wd_M cI a (ms_set q13 8 (upd (q13 8) 6 (0 : Int32)))) H locs := ⟨hP9, hD9, hS9⟩
    refine lv_iconst (v := (1 : Int32)) hx hb dX8_carryOut_23 (by decide) ?_
    refine lv_istore_n (lv' := [(2, .int (1 : Int32)), (1, .int (0 : Int32)), (0, .ref (a 0))]) hx hb dX8_carryOut_24 rfl hl (by decide) rfl (fun ls hl => ?_)
    exact w8_carryOut_L25 C hK hA fo_fu h hG (lv_sub hl [2, 1, 0] rfl)
  · have h := fo_if h hc
    refine lv_bipush (v := (-3 : Int32)) hx hb dX8_carryOut_9 (by decide) ?_
    obtain rfl := Option.some.inj h
    exact gr_i hx hb hr hlocks hK hG rfl dX8_carryOut_11
set_option maxRecDepth 100000 in
set_option maxHeartbeats 4000000 in
theorem c8_carryOut (l : Launch) {dC : Nat → ClassId} {dI : Nat → Nat → Nat} {cI : ClassId} {a : Nat → Nat} {S : ms_T} {q : (Int32 × ms_T)} (h : f8_carryOut S = some q) : mi_M l yX8_carryOut wm8_carryOut RM8_carryOut (dC, dI) [(cI, .int)] [.ref (a 0)] (wd_M cI a S) q.1 (wd_M cI a q.2) := by
  intro sz
  refine Met.ofW (cc := cX8_carryOut) (maxL := 3) (ret := (some .int)) (by decide) rfl ?_
  intro p e s m args below meth c s₁ B hml hv
  obtain ⟨rfl, hsz, hP, hK, hD0⟩ := hv
  subst hsz
  have hl := lv_entry ([.ref (a 0)] : List Value) (n := 3) (Nat.le_of_ble_eq_true rfl)
  rw [lg_entry_eq]
  generalize (lg_sl ([.ref (a 0)] : List Value) ++ List.replicate (3 - (lg_sl ([.ref (a 0)] : List Value)).length) Slot.unset).toArray = ls at hl ⊢
  exact w8_carryOut (a := a) ⟨B.exec, B.bytes, B.returns, fun w hw => atoms_spec (ws := wm8_carryOut) B.pre w (List.mem_cons_of_mem _ hw), findClass_of_methodNamed B.named, B.notSynchronized, hml⟩ hK (fun _ h => Or.inr h) h ⟨hP, hD0.self, va_S.rf⟩ hl
end
/-! ## DiceRoadsModel.undo()I -/
section
variable {p : Program} {l : Launch} {e : Env} {s : State} {m : MethodId} {args : Array Value} {below : List Frame} {meth : Method} {c : Code} {dC : Nat → ClassId} {dI : Nat → Nat → Nat} {cI : ClassId} {A : Nat → Prop}
set_option maxRecDepth 100000 in
set_option maxHeartbeats 4000000 in
theorem w8_undo (C : cx_M p s m args meth c RX8 cX8_undo (some .int) 1) (hK : va_K (dC, dI) vwCl [(cI, .int)] s) (hA : ∀ q, s.heap.size ≤ q → A q) {a : Nat → Nat} {q : (Int32 × ms_T)} {S : ms_T} (h : f8_undo S = some q) {H : Heap} {locs : List Loc} {ls : Array Slot} (hG : gd_W (dC, dI) A s (wd_M cI a S) H locs) (hl : lv_has ls 1 [(0, .ref (a 0))]) : W p l e RM8_undo s m args below meth c H locs 0 0 (MQ below (qi_W (dC, dI) [(cI, .int)] A q.1 (wd_M cI a q.2)) args s 0 0 A) (F0 m 0 ls []) := by
  unfold f8_undo at h
  obtain ⟨hx, hb, hr, hts, hown, hlocks, hml⟩ := id C
  refine lv_aload_n hx hb dX8_undo_0 rfl (lv_at hl 0 rfl) ?_
  refine va_get (D := (dC, dI)) (ci := 7) (v := .int (S 8 0)) (C := RX8) (T := TX8) (N := 17) hx hb hts inlX8 hown hK hG.1 0 rfl rfl 3 (by decide) (hts (Cond.fieldLink RX8 34 "DiceRoadsModel" "recorded" "I") wq_640) (fun _ h9 => h9) rfl dX8_undo_1 ?_
  refine lv_if_ne (tgt := 10) hx hb dX8_undo_4 (by decide) (fun hc => ?_) (fun hc => ?_)
  · have h := fo_if h hc
    refine lv_aload_n hx hb dX8_undo_10 rfl (lv_at hl 0 rfl) ?_
    refine lv_dup hx hb dX8_undo_11 rfl ?_
    refine va_get (D := (dC, dI)) (ci := 7) (v := .int (S 8 0)) (C := RX8) (T := TX8) (N := 17) hx hb hts inlX8 hown hK hG.1 0 rfl rfl 3 (by decide) (hts (Cond.fieldLink RX8 34 "DiceRoadsModel" "recorded" "I") wq_640) (fun _ h9 => h9) rfl dX8_undo_12 ?_
    refine lv_iconst (v := (1 : Int32)) hx hb dX8_undo_15 (by decide) ?_
    refine lv_isub hx hb dX8_undo_16 ?_
    refine va_put (D := (dC, dI)) (ci := 7) (v := .int ((S 8 0) - (1 : Int32))) (ty := .int) (C := RX8) (T := TX8) (N := 17) hx hb hts inlX8 tyX8 tyX8_ok nmX8 hown hK hG.1 hG.2.1 hG.2.2 0 rfl rfl 3 (by decide) (hts (Cond.fieldLink RX8 34 "DiceRoadsModel" "recorded" "I") wq_640) (fun _ h9 => h9) rfl (by decide +kernel) rfl rfl (Nat.le_of_ble_eq_true rfl) dX8_undo_17 (fun H locs hP9 hD9 hS9 => ?_)
    have hG : gd_W (dC, dI) A s (wd_M cI a (ms_set S 8 (upd (S 8) 0 ((S 8 0) - (1 : Int32))))) H locs := ⟨hP9, hD9, hS9⟩
    refine lv_aload_n hx hb dX8_undo_20 rfl (lv_at hl 0 rfl) ?_
    refine va_get (D := (dC, dI)) (ci := 7) (v := .ref (a 3)) (C := RX8) (T := TX8) (N := 17) hx hb hts inlX8 hown hK hG.1 0 rfl rfl 2 (by decide) (hts (Cond.fieldLink RX8 16 "DiceRoadsModel" "history" "[I") wq_639) (fun _ h9 => h9) rfl dX8_undo_21 ?_
    refine lv_aload_n hx hb dX8_undo_24 rfl (lv_at hl 0 rfl) ?_
    refine va_get (D := (dC, dI)) (ci := 7) (v := .int ((ms_set S 8 (upd (S 8) 0 ((S 8 0) - (1 : Int32)))) 8 0)) (C := RX8) (T := TX8) (N := 17) hx hb hts inlX8 hown hK hG.1 0 rfl rfl 3 (by decide) (hts (Cond.fieldLink RX8 34 "DiceRoadsModel" "recorded" "I") wq_640) (fun _ h9 => h9) rfl dX8_undo_25 ?_
    refine lv_bipush (v := (107 : Int32)) hx hb dX8_undo_28 (by decide) ?_
    refine lv_imul hx hb dX8_undo_30 ?_
    refine lv_aload_n hx hb dX8_undo_31 rfl (lv_at hl 0 rfl) ?_
    refine va_get (D := (dC, dI)) (ci := 7) (v := .ref (a 1)) (C := RX8) (T := TX8) (N := 17) hx hb hts inlX8 hown hK hG.1 0 rfl rfl 0 (by decide) (hts (Cond.fieldLink RX8 7 "DiceRoadsModel" "state" "[I") wq_637) (fun _ h9 => h9) rfl dX8_undo_32 ?_
    refine lv_iconst (v := (0 : Int32)) hx hb dX8_undo_35 (by decide) ?_
    obtain ⟨q36, hq36, h⟩ := fo_bd_some h
    refine gc_vS (As := [.ref (a 3), .int (((ms_set S 8 (upd (S 8) 0 ((S 8 0) - (1 : Int32)))) 8 0) * (107 : Int32)), .ref (a 1), .int (0 : Int32)]) (rest := []) (wc := (wd_MV cI (fun k => match k with | 0 => a 3 | _ => a 1) 642 107 ((ms_set S 8 (upd (S 8) 0 ((S 8 0) - (1 : Int32)))) 2) ((ms_set S 8 (upd (S 8) 0 ((S 8 0) - (1 : Int32)))) 0))) (w1 := (wd_MV cI (fun k => match k with | 0 => a 3 | _ => a 1) 642 107 ((ms_set S 8 (upd (S 8) 0 ((S 8 0) - (1 : Int32)))) 2) q36)) ⟨hx, hb, hml, hown, hts⟩ (c8_moves l (a := (fun k => match k with | 0 => a 3 | _ => a 1)) (z := 642) (g := 107) (F := ((ms_set S 8 (upd (S 8) 0 ((S 8 0) - (1 : Int32)))) 2)) hq36) (va_cwS 4 hts gv_X8_38 rfl rfl rfl hd8_moves ⟨Nat.le_of_ble_eq_true rfl, Nat.le_of_ble_eq_true rfl⟩) hK [0] rfl hA hG [3, 1] rfl rfl rfl rfl hl.1 rfl (Nat.le_of_ble_eq_true rfl) dX8_undo_36 ⟨Nat.zero_le _, Nat.zero_le _⟩ (fun H locs hG9 => ?_)
    have hG : gd_W (dC, dI) A s (wd_M cI a (ms_set (ms_set S 8 (upd (S 8) 0 ((S 8 0) - (1 : Int32)))) 0 q36)) H locs := hG9
    refine lv_aload_n hx hb dX8_undo_39 rfl (lv_at hl 0 rfl) ?_
    refine va_get (D := (dC, dI)) (ci := 7) (v := .int ((ms_set (ms_set S 8 (upd (S 8) 0 ((S 8 0) - (1 : Int32)))) 0 q36) 8 0)) (C := RX8) (T := TX8) (N := 17) hx hb hts inlX8 hown hK hG.1 0 rfl rfl 3 (by decide) (hts (Cond.fieldLink RX8 34 "DiceRoadsModel" "recorded" "I") wq_640) (fun _ h9 => h9) rfl dX8_undo_40 ?_
    obtain rfl := Option.some.inj h
    exact gr_i hx hb hr hlocks hK hG rfl dX8_undo_43
  · have h := fo_it h hc
    refine lv_bipush (v := (-5 : Int32)) hx hb dX8_undo_7 (by decide) ?_
    obtain rfl := Option.some.inj h
    exact gr_i hx hb hr hlocks hK hG rfl dX8_undo_9
set_option maxRecDepth 100000 in
set_option maxHeartbeats 4000000 in
theorem c8_undo (l : Launch) {dC : Nat → ClassId} {dI : Nat → Nat → Nat} {cI : ClassId} {a : Nat → Nat} {S : ms_T} {q : (Int32 × ms_T)} (h : f8_undo S = some q) : mi_M l yX8_undo wm8_undo RM8_undo (dC, dI) [(cI, .int)] [.ref (a 0)] (wd_M cI a S) q.1 (wd_M cI a q.2) := by
  intro sz
  refine Met.ofW (cc := cX8_undo) (maxL := 1) (ret := (some .int)) (by decide) rfl ?_
  intro p e s m args below meth c s₁ B hml hv
  obtain ⟨rfl, hsz, hP, hK, hD0⟩ := hv
  subst hsz
  have hl := lv_entry ([.ref (a 0)] : List Value) (n := 1) (Nat.le_of_ble_eq_true rfl)
  rw [lg_entry_eq]
  generalize (lg_sl ([.ref (a 0)] : List Value) ++ List.replicate (1 - (lg_sl ([.ref (a 0)] : List Value)).length) Slot.unset).toArray = ls at hl ⊢
  exact w8_undo (a := a) ⟨B.exec, B.bytes, B.returns, fun w hw => atoms_spec (ws := wm8_undo) B.pre w (List.mem_cons_of_mem _ hw), findClass_of_methodNamed B.named, B.notSynchronized, hml⟩ hK (fun _ h => Or.inr h) h ⟨hP, hD0.self, va_S.rf⟩ hl
end
/-! ## DiceRoadsModel.save(I)I -/
section
variable {p : Program} {l : Launch} {e : Env} {s : State} {m : MethodId} {args : Array Value} {below : List Frame} {meth : Method} {c : Code} {dC : Nat → ClassId} {dI : Nat → Nat → Nat} {cI : ClassId} {A : Nat → Prop}
set_option maxRecDepth 100000 in
set_option maxHeartbeats 4000000 in
theorem w8_save (C : cx_M p s m args meth c RX8 cX8_save (some .int) 2) (hK : va_K (dC, dI) vwCl [(cI, .int)] s) (hA : ∀ q, s.heap.size ≤ q → A q) {a : Nat → Nat} {q : (Int32 × ms_T)} {v1 : Int32} {S : ms_T} (h : f8_save v1 S = some q) {H : Heap} {locs : List Loc} {ls : Array Slot} (hG : gd_W (dC, dI) A s (wd_M cI a S) H locs) (hl : lv_has ls 2 [(0, .ref (a 0)), (1, .int v1)]) : W p l e RM8_save s m args below meth c H locs 0 0 (MQ below (qi_W (dC, dI) [(cI, .int)] A q.1 (wd_M cI a q.2)) args s 0 0 A) (F0 m 0 ls []) := by
  unfold f8_save at h
  obtain ⟨hx, hb, hr, hts, hown, hlocks, hml⟩ := id C
  refine lv_iload_n hx hb dX8_save_0 rfl (lv_at hl 1 rfl) ?_
  refine lv_iconst (v := (0 : Int32)) hx hb dX8_save_1 (by decide) ?_
  refine lv_iconst (v := (1 : Int32)) hx hb dX8_save_2 (by decide) ?_
  obtain ⟨q3, hq3, h⟩ := fo_bd_some h
  refine gc_iS (As := [.int v1, .int (0 : Int32), .int (1 : Int32)]) (rest := []) (wc := ([] : va_W)) (w1 := ([] : va_W)) ⟨hx, hb, hml, hown, hts⟩ (c8_within l (a := a) hq3) (va_cwS 3 hts gv_X8_42 rfl rfl rfl hd8_within ⟨Nat.le_of_ble_eq_true rfl, Nat.le_of_ble_eq_true rfl⟩) hK [] rfl hA hG [] rfl rfl rfl rfl hl.1 rfl (Nat.le_of_ble_eq_true rfl) dX8_save_3 ⟨Nat.zero_le _, Nat.zero_le _⟩ (fun H locs hG9 => ?_)
  have hG : gd_W (dC, dI) A s (wd_M cI a S) H locs := hG9
  refine lv_if_ne (tgt := 12) hx hb dX8_save_6 (by decide) (fun hc => ?_) (fun hc => ?_)
  · have h := fo_if h hc
    refine lv_aload_n hx hb dX8_save_12 rfl (lv_at hl 0 rfl) ?_
    refine va_get (D := (dC, dI)) (ci := 7) (v := .ref (a 1)) (C := RX8) (T := TX8) (N := 17) hx hb hts inlX8 hown hK hG.1 0 rfl rfl 0 (by decide) (hts (Cond.fieldLink RX8 7 "DiceRoadsModel" "state" "[I") wq_637) (fun _ h9 => h9) rfl dX8_save_13 ?_
    refine lv_iconst (v := (0 : Int32)) hx hb dX8_save_16 (by decide) ?_
    refine lv_aload_n hx hb dX8_save_17 rfl (lv_at hl 0 rfl) ?_
    refine va_get (D := (dC, dI)) (ci := 7) (v := .ref (a 4)) (C := RX8) (T := TX8) (N := 17) hx hb hts inlX8 hown hK hG.1 0 rfl rfl 4 (by decide) (hts (Cond.fieldLink RX8 19 "DiceRoadsModel" "slots" "[I") wq_641) (fun _ h9 => h9) rfl dX8_save_18 ?_
    refine lv_bipush (v := (107 : Int32)) hx hb dX8_save_21 (by decide) ?_
    refine lv_iload_n hx hb dX8_save_23 rfl (lv_at hl 1 rfl) ?_
    refine lv_imul hx hb dX8_save_24 ?_
    obtain ⟨q25, hq25, h⟩ := fo_bd_some h
    refine gc_vS (As := [.ref (a 1), .int (0 : Int32), .ref (a 4), .int ((107 : Int32) * v1)]) (rest := []) (wc := (wd_MV cI (fun k => match k with | 0 => a 1 | _ => a 4) 107 214 (S 0) (S 3))) (w1 := (wd_MV cI (fun k => match k with | 0 => a 1 | _ => a 4) 107 214 (S 0) q25)) ⟨hx, hb, hml, hown, hts⟩ (c8_moves l (a := (fun k => match k with | 0 => a 1 | _ => a 4)) (z := 107) (g := 214) (F := (S 0)) hq25) (va_cwS 4 hts gv_X8_38 rfl rfl rfl hd8_moves ⟨Nat.le_of_ble_eq_true rfl, Nat.le_of_ble_eq_true rfl⟩) hK [0] rfl hA hG [1, 4] rfl rfl rfl rfl hl.1 rfl (Nat.le_of_ble_eq_true rfl) dX8_save_25 ⟨Nat.zero_le _, Nat.zero_le _⟩ (fun H locs hG9 => ?_)
    have hG : gd_W (dC, dI) A s (wd_M cI a (ms_set S 3 q25)) H locs := hG9
    refine lv_aload_n hx hb dX8_save_28 rfl (lv_at hl 0 rfl) ?_
    refine va_get (D := (dC, dI)) (ci := 7) (v := .ref (a 5)) (C := RX8) (T := TX8) (N := 17) hx hb hts inlX8 hown hK hG.1 0 rfl rfl 5 (by decide) (hts (Cond.fieldLink RX8 22 "DiceRoadsModel" "isSaved" "[I") wq_642) (fun _ h9 => h9) rfl dX8_save_29 ?_
    refine lv_iload_n hx hb dX8_save_32 rfl (lv_at hl 1 rfl) ?_
    refine lv_iconst (v := (1 : Int32)) hx hb dX8_save_33 (by decide) ?_
    obtain ⟨hi, h⟩ := fo_ck_some h
    refine va_iast hx hb hK hG.1 hG.2.1 hG.2.2 5 0 rfl rfl hi dX8_save_34 (fun H locs hP9 hD9 hS9 => ?_)
    have hG : gd_W (dC, dI) A s (wd_M cI a (ms_set (ms_set S 3 q25) 4 (upd ((ms_set S 3 q25) 4) v1.toNatClampNeg (1 : Int32)))) H locs := ⟨hP9, hD9, hS9⟩
    refine lv_aload_n hx hb dX8_save_35 rfl (lv_at hl 0 rfl) ?_
    refine va_get (D := (dC, dI)) (ci := 7) (v := .ref (a 1)) (C := RX8) (T := TX8) (N := 17) hx hb hts inlX8 hown hK hG.1 0 rfl rfl 0 (by decide) (hts (Cond.fieldLink RX8 7 "DiceRoadsModel" "state" "[I") wq_637) (fun _ h9 => h9) rfl dX8_save_36 ?_
    refine lv_bipush (v := (6 : Int32)) hx hb dX8_save_39 (by decide) ?_
    obtain ⟨hi, h⟩ := fo_ck_some h
    refine va_iald hx hb hK hG.1 1 0 rfl rfl hi dX8_save_41 ?_
    obtain rfl := Option.some.inj h
    exact gr_i hx hb hr hlocks hK hG rfl dX8_save_42
  · have h := fo_it h hc
    refine lv_bipush (v := (-2 : Int32)) hx hb dX8_save_9 (by decide) ?_
    obtain rfl := Option.some.inj h
    exact gr_i hx hb hr hlocks hK hG rfl dX8_save_11
set_option maxRecDepth 100000 in
set_option maxHeartbeats 4000000 in
theorem c8_save (l : Launch) {dC : Nat → ClassId} {dI : Nat → Nat → Nat} {cI : ClassId} {a : Nat → Nat} {v1 : Int32} {S : ms_T} {q : (Int32 × ms_T)} (h : f8_save v1 S = some q) : mi_M l yX8_save wm8_save RM8_save (dC, dI) [(cI, .int)] [.ref (a 0), .int v1] (wd_M cI a S) q.1 (wd_M cI a q.2) := by
  intro sz
  refine Met.ofW (cc := cX8_save) (maxL := 2) (ret := (some .int)) (by decide) rfl ?_
  intro p e s m args below meth c s₁ B hml hv
  obtain ⟨rfl, hsz, hP, hK, hD0⟩ := hv
  subst hsz
  have hl := lv_entry ([.ref (a 0), .int v1] : List Value) (n := 2) (Nat.le_of_ble_eq_true rfl)
  rw [lg_entry_eq]
  generalize (lg_sl ([.ref (a 0), .int v1] : List Value) ++ List.replicate (2 - (lg_sl ([.ref (a 0), .int v1] : List Value)).length) Slot.unset).toArray = ls at hl ⊢
  exact w8_save (a := a) ⟨B.exec, B.bytes, B.returns, fun w hw => atoms_spec (ws := wm8_save) B.pre w (List.mem_cons_of_mem _ hw), findClass_of_methodNamed B.named, B.notSynchronized, hml⟩ hK (fun _ h => Or.inr h) h ⟨hP, hD0.self, va_S.rf⟩ hl
end
/-! ## DiceRoadsModel.restore(I)I -/
section
variable {p : Program} {l : Launch} {e : Env} {s : State} {m : MethodId} {args : Array Value} {below : List Frame} {meth : Method} {c : Code} {dC : Nat → ClassId} {dI : Nat → Nat → Nat} {cI : ClassId} {A : Nat → Prop}
set_option maxRecDepth 100000 in
set_option maxHeartbeats 4000000 in
theorem w8_restore (C : cx_M p s m args meth c RX8 cX8_restore (some .int) 2) (hK : va_K (dC, dI) vwCl [(cI, .int)] s) (hA : ∀ q, s.heap.size ≤ q → A q) {a : Nat → Nat} {q : (Int32 × ms_T)} {v1 : Int32} {S : ms_T} (h : f8_restore v1 S = some q) {H : Heap} {locs : List Loc} {ls : Array Slot} (hG : gd_W (dC, dI) A s (wd_M cI a S) H locs) (hl : lv_has ls 2 [(0, .ref (a 0)), (1, .int v1)]) : W p l e RM8_restore s m args below meth c H locs 0 0 (MQ below (qi_W (dC, dI) [(cI, .int)] A q.1 (wd_M cI a q.2)) args s 0 0 A) (F0 m 0 ls []) := by
  unfold f8_restore at h
  obtain ⟨hx, hb, hr, hts, hown, hlocks, hml⟩ := id C
  refine lv_iload_n hx hb dX8_restore_0 rfl (lv_at hl 1 rfl) ?_
  refine lv_iconst (v := (0 : Int32)) hx hb dX8_restore_1 (by decide) ?_
  refine lv_iconst (v := (1 : Int32)) hx hb dX8_restore_2 (by decide) ?_
  obtain ⟨q3, hq3, h⟩ := fo_bd_some h
  refine gc_iS (As := [.int v1, .int (0 : Int32), .int (1 : Int32)]) (rest := []) (wc := ([] : va_W)) (w1 := ([] : va_W)) ⟨hx, hb, hml, hown, hts⟩ (c8_within l (a := a) hq3) (va_cwS 3 hts gv_X8_42 rfl rfl rfl hd8_within ⟨Nat.le_of_ble_eq_true rfl, Nat.le_of_ble_eq_true rfl⟩) hK [] rfl hA hG [] rfl rfl rfl rfl hl.1 rfl (Nat.le_of_ble_eq_true rfl) dX8_restore_3 ⟨Nat.zero_le _, Nat.zero_le _⟩ (fun H locs hG9 => ?_)
  have hG : gd_W (dC, dI) A s (wd_M cI a S) H locs := hG9
  refine lv_if_ne (tgt := 12) hx hb dX8_restore_6 (by decide) (fun hc => ?_) (fun hc => ?_)
  · have h := fo_if h hc
    refine lv_aload_n hx hb dX8_restore_12 rfl (lv_at hl 0 rfl) ?_
    refine va_get (D := (dC, dI)) (ci := 7) (v := .ref (a 5)) (C := RX8) (T := TX8) (N := 17) hx hb hts inlX8 hown hK hG.1 0 rfl rfl 5 (by decide) (hts (Cond.fieldLink RX8 22 "DiceRoadsModel" "isSaved" "[I") wq_642) (fun _ h9 => h9) rfl dX8_restore_13 ?_
    refine lv_iload_n hx hb dX8_restore_16 rfl (lv_at hl 1 rfl) ?_
    obtain ⟨hi, h⟩ := fo_ck_some h
    refine va_iald hx hb hK hG.1 5 0 rfl rfl hi dX8_restore_17 ?_
    refine lv_if_ne (tgt := 24) hx hb dX8_restore_18 (by decide) (fun hc => ?_) (fun hc => ?_)
    · have h := fo_if h hc
      refine lv_aload_n hx hb dX8_restore_24 rfl (lv_at hl 0 rfl) ?_
      obtain ⟨q25, hq25, h⟩ := fo_bd_some h
      refine gc_vV (b := a 0) (C := RX8) (As := []) (rest := []) (wc := (wd_M cI a S)) (w1 := (wd_M cI a q25)) (ci := 7) (q0 := 0) ⟨hx, hb, hml, hown, hts⟩ (c8_record l (a := a) hq25) (cwV 0 hts gv_X8_128 rfl rfl rfl hd8_record ⟨Nat.le_of_ble_eq_true rfl, Nat.le_of_ble_eq_true rfl⟩) hK [0] rfl hA hG [0, 1, 2, 3, 4, 5, 6, 7, 8] rfl rfl rfl rfl rfl rfl hl.1 rfl (Nat.le_of_ble_eq_true rfl) dX8_restore_25 ⟨Nat.zero_le _, Nat.zero_le _⟩ (fun H locs hG9 => ?_)
      have hG : gd_W (dC, dI) A s (wd_M cI a q25) H locs := hG9
      refine lv_aload_n hx hb dX8_restore_28 rfl (lv_at hl 0 rfl) ?_
      refine va_get (D := (dC, dI)) (ci := 7) (v := .ref (a 4)) (C := RX8) (T := TX8) (N := 17) hx hb hts inlX8 hown hK hG.1 0 rfl rfl 4 (by decide) (hts (Cond.fieldLink RX8 19 "DiceRoadsModel" "slots" "[I") wq_641) (fun _ h9 => h9) rfl dX8_restore_29 ?_
      refine lv_bipush (v := (107 : Int32)) hx hb dX8_restore_32 (by decide) ?_
      refine lv_iload_n hx hb dX8_restore_34 rfl (lv_at hl 1 rfl) ?_
      refine lv_imul hx hb dX8_restore_35 ?_
      refine lv_aload_n hx hb dX8_restore_36 rfl (lv_at hl 0 rfl) ?_
      refine va_get (D := (dC, dI)) (ci := 7) (v := .ref (a 1)) (C := RX8) (T := TX8) (N := 17) hx hb hts inlX8 hown hK hG.1 0 rfl rfl 0 (by decide) (hts (Cond.fieldLink RX8 7 "DiceRoadsModel" "state" "[I") wq_637) (fun _ h9 => h9) rfl dX8_restore_37 ?_
      refine lv_iconst (v := (0 : Int32)) hx hb dX8_restore_40 (by decide) ?_
      obtain ⟨q41, hq41, h⟩ := fo_bd_some h
      refine gc_vS (As := [.ref (a 4), .int ((107 : Int32) * v1), .ref (a 1), .int (0 : Int32)]) (rest := []) (wc := (wd_MV cI (fun k => match k with | 0 => a 4 | _ => a 1) 214 107 (q25 3) (q25 0))) (w1 := (wd_MV cI (fun k => match k with | 0 => a 4 | _ => a 1) 214 107 (q25 3) q41)) ⟨hx, hb, hml, hown, hts⟩ (c8_moves l (a := (fun k => match k with | 0 => a 4 | _ => a 1)) (z := 214) (g := 107) (F := (q25 3)) hq41) (va_cwS 4 hts gv_X8_38 rfl rfl rfl hd8_moves ⟨Nat.le_of_ble_eq_true rfl, Nat.le_of_ble_eq_true rfl⟩) hK [0] rfl hA hG [4, 1] rfl rfl rfl rfl hl.1 rfl (Nat.le_of_ble_eq_true rfl) dX8_restore_41 ⟨Nat.zero_le _, Nat.zero_le _⟩ (fun H locs hG9 => ?_)
      have hG : gd_W (dC, dI) A s (wd_M cI a (ms_set q25 0 q41)) H locs := hG9
      refine lv_aload_n hx hb dX8_restore_44 rfl (lv_at hl 0 rfl) ?_
      refine va_get (D := (dC, dI)) (ci := 7) (v := .ref (a 1)) (C := RX8) (T := TX8) (N := 17) hx hb hts inlX8 hown hK hG.1 0 rfl rfl 0 (by decide) (hts (Cond.fieldLink RX8 7 "DiceRoadsModel" "state" "[I") wq_637) (fun _ h9 => h9) rfl dX8_restore_45 ?_
      refine lv_bipush (v := (6 : Int32)) hx hb dX8_restore_48 (by decide) ?_
      obtain ⟨hi, h⟩ := fo_ck_some h
      refine va_iald hx hb hK hG.1 1 0 rfl rfl hi dX8_restore_50 ?_
      obtain rfl := Option.some.inj h
      exact gr_i hx hb hr hlocks hK hG rfl dX8_restore_51
    · have h := fo_it h hc
      refine lv_bipush (v := (-5 : Int32)) hx hb dX8_restore_21 (by decide) ?_
      obtain rfl := Option.some.inj h
      exact gr_i hx hb hr hlocks hK hG rfl dX8_restore_23
  · have h := fo_it h hc
    refine lv_bipush (v := (-2 : Int32)) hx hb dX8_restore_9 (by decide) ?_
    obtain rfl := Option.some.inj h
    exact gr_i hx hb hr hlocks hK hG rfl dX8_restore_11
set_option maxRecDepth 100000 in
set_option maxHeartbeats 4000000 in
theorem c8_restore (l : Launch) {dC : Nat → ClassId} {dI : Nat → Nat → Nat} {cI : ClassId} {a : Nat → Nat} {v1 : Int32} {S : ms_T} {q : (Int32 × ms_T)} (h : f8_restore v1 S = some q) : mi_M l yX8_restore wm8_restore RM8_restore (dC, dI) [(cI, .int)] [.ref (a 0), .int v1] (wd_M cI a S) q.1 (wd_M cI a q.2) := by
  intro sz
  refine Met.ofW (cc := cX8_restore) (maxL := 2) (ret := (some .int)) (by decide) rfl ?_
  intro p e s m args below meth c s₁ B hml hv
  obtain ⟨rfl, hsz, hP, hK, hD0⟩ := hv
  subst hsz
  have hl := lv_entry ([.ref (a 0), .int v1] : List Value) (n := 2) (Nat.le_of_ble_eq_true rfl)
  rw [lg_entry_eq]
  generalize (lg_sl ([.ref (a 0), .int v1] : List Value) ++ List.replicate (2 - (lg_sl ([.ref (a 0), .int v1] : List Value)).length) Slot.unset).toArray = ls at hl ⊢
  exact w8_restore (a := a) ⟨B.exec, B.bytes, B.returns, fun w hw => atoms_spec (ws := wm8_restore) B.pre w (List.mem_cons_of_mem _ hw), findClass_of_methodNamed B.named, B.notSynchronized, hml⟩ hK (fun _ h => Or.inr h) h ⟨hP, hD0.self, va_S.rf⟩ hl
end
