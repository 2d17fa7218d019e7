/-! ## DiceRoads$Board.describe(LDiceRoads$Line;)V -/
section
variable {p : Program} {l : Launch} {e : Env} {s : State} {m : MethodId} {args : Array Value} {below : List Frame} {meth : Method} {c : Code} {dC : Nat → ClassId} {dI : Nat → Nat → Nat} {cI : ClassId} {A : Nat → Prop}
set_option maxRecDepth 100000 in
set_option maxHeartbeats 4000000 in
theorem w0_describe_b132 (C : cx_M p s m args meth c RX0 cX0_describe none 5) (hK : va_K (dC, dI) vwCl [(cI, .int)] s) (hA : ∀ q, s.heap.size ≤ q → A q) {a : Nat → Nat} {g : Nat} {q : ms_T} {rec6 : Int32 → ms_T → Option ms_T} (hrec6 : ∀ {v2 : Int32} {S : ms_T} , rec6 v2 S = some q → ∀ {H : Heap} {locs : List Loc} {ls : Array Slot}, gd_W (dC, dI) A s (wd_BL cI a g S) H locs → lv_has ls 5 [(0, .ref (a 0)), (1, .ref (a 27)), (2, .int v2)] → W p l e RM0_describe s m args below meth c H locs 0 0 (MQ below (qv_W (dC, dI) [(cI, .int)] A (wd_BL cI a g q)) args s 0 0 A) (F0 m 6 ls [])) {rec101 : Int32 → Int32 → ms_T → Option ms_T} (hrec101 : ∀ {v2 : Int32} {v4 : Int32} {S : ms_T} , rec101 v2 v4 S = some q → ∀ {H : Heap} {locs : List Loc} {ls : Array Slot}, gd_W (dC, dI) A s (wd_BL cI a g S) H locs → lv_has ls 5 [(0, .ref (a 0)), (1, .ref (a 27)), (2, .int v2), (4, .int v4)] → W p l e RM0_describe s m args below meth c H locs 0 0 (MQ below (qv_W (dC, dI) [(cI, .int)] A (wd_BL cI a g q)) args s 0 0 A) (F0 m 101 ls [])) {v2 : Int32} {v4 : Int32} {S : ms_T} (h : f0_describe_b132 g rec6 rec101 v2 v4 S = some q) {H : Heap} {locs : List Loc} {ls : Array Slot} (hG : gd_W (dC, dI) A s (wd_BL cI a g S) H locs) (hl : lv_has ls 5 [(0, .ref (a 0)), (1, .ref (a 27)), (2, .int v2), (4, .int v4)]) : W p l e RM0_describe s m args below meth c H locs 0 0 (MQ below (qv_W (dC, dI) [(cI, .int)] A (wd_BL cI a g q)) args s 0 0 A) (F0 m 132 ls []) := by
  unfold f0_describe_b132 at h
  obtain ⟨hx, hb, hr, hts, hown, hlocks, hml⟩ := id C
  refine lv_iinc (v := (v4 + (1 : Int32))) (lv' := [(4, .int (v4 + (1 : Int32))), (0, .ref (a 0)), (1, .ref (a 27)), (2, .int v2)]) hx hb dX0_describe_132 hl (k := 3) rfl rfl (by decide) rfl (fun ls hl => ?_)
  refine lv_goto (tgt := 101) hx hb dX0_describe_135 (by decide) ?_
  exact hrec101 h hG (lv_sub hl [1, 2, 3, 0] rfl)
set_option maxRecDepth 100000 in
set_option maxHeartbeats 4000000 in
theorem w0_describe_b101 (C : cx_M p s m args meth c RX0 cX0_describe none 5) (hK : va_K (dC, dI) vwCl [(cI, .int)] s) (hA : ∀ q, s.heap.size ≤ q → A q) {a : Nat → Nat} {g : Nat} {q : ms_T} {rec6 : Int32 → ms_T → Option ms_T} (hrec6 : ∀ {v2 : Int32} {S : ms_T} , rec6 v2 S = some q → ∀ {H : Heap} {locs : List Loc} {ls : Array Slot}, gd_W (dC, dI) A s (wd_BL cI a g S) H locs → lv_has ls 5 [(0, .ref (a 0)), (1, .ref (a 27)), (2, .int v2)] → W p l e RM0_describe s m args below meth c H locs 0 0 (MQ below (qv_W (dC, dI) [(cI, .int)] A (wd_BL cI a g q)) args s 0 0 A) (F0 m 6 ls [])) {rec101 : Int32 → Int32 → ms_T → Option ms_T} (hrec101 : ∀ {v2 : Int32} {v4 : Int32} {S : ms_T} , rec101 v2 v4 S = some q → ∀ {H : Heap} {locs : List Loc} {ls : Array Slot}, gd_W (dC, dI) A s (wd_BL cI a g S) H locs → lv_has ls 5 [(0, .ref (a 0)), (1, .ref (a 27)), (2, .int v2), (4, .int v4)] → W p l e RM0_describe s m args below meth c H locs 0 0 (MQ below (qv_W (dC, dI) [(cI, .int)] A (wd_BL cI a g q)) args s 0 0 A) (F0 m 101 ls [])) {v2 : Int32} {v4 : Int32} {S : ms_T} (h : f0_describe_b101 g rec6 rec101 v2 v4 S = some q) {H : Heap} {locs : List Loc} {ls : Array Slot} (hG : gd_W (dC, dI) A s (wd_BL cI a g S) H locs) (hl : lv_has ls 5 [(0, .ref (a 0)), (1, .ref (a 27)), (2, .int v2), (4, .int v4)]) : W p l e RM0_describe s m args below meth c H locs 0 0 (MQ below (qv_W (dC, dI) [(cI, .int)] A (wd_BL cI a g q)) args s 0 0 A) (F0 m 101 ls []) := by
  unfold f0_describe_b101 at h
  obtain ⟨hx, hb, hr, hts, hown, hlocks, hml⟩ := id C
  refine lv_iload hx hb dX0_describe_101 (lv_at hl 3 rfl) ?_
  refine lv_aload_n hx hb dX0_describe_103 rfl (lv_at hl 0 rfl) ?_
  refine va_get (D := (dC, dI)) (ci := 0) (v := .int (S 12 0)) (C := RX0) (T := TX0) (N := 15) hx hb hts inlX0 hown hK hG.1 0 rfl rfl 9 (by decide) (hts (Cond.fieldLink RX0 52 "DiceRoads$Board" "players" "I") wq_99) (fun _ h9 => h9) rfl dX0_describe_104 ?_
  refine lv_icmp_ge (tgt := 138) hx hb dX0_describe_107 (by decide) (fun hc => ?_) (fun hc => ?_)
  · have h := fo_it h hc
    refine lv_iinc (v := (v2 + (1 : Int32))) (lv' := [(2, .int (v2 + (1 : Int32))), (0, .ref (a 0)), (1, .ref (a 27)), (4, .int v4)]) hx hb dX0_describe_138 hl (k := 2) rfl rfl (by decide) rfl (fun ls hl => ?_)
    refine lv_goto (tgt := 6) hx hb dX0_describe_141 (by decide) ?_
    exact hrec6 h hG (lv_sub hl [1, 2, 0] rfl)
  · have h := fo_if h hc
    refine lv_aload_n hx hb dX0_describe_110 rfl (lv_at hl 0 rfl) ?_
    refine va_get (D := (dC, dI)) (ci := 0) (v := .ref (a 17)) (C := RX0) (T := TX0) (N := 15) hx hb hts inlX0 hown hK hG.1 0 rfl rfl 4 (by decide) (hts (Cond.fieldLink RX0 37 "DiceRoads$Board" "places" "LDiceRoads$Row;") wq_94) (fun _ h9 => h9) rfl dX0_describe_111 ?_
    refine lv_iload hx hb dX0_describe_114 (lv_at hl 3 rfl) ?_
    obtain ⟨q116, hq116, h⟩ := fo_bd_some h
    refine gc_iV (b := a 17) (C := RX6) (As := [.int v4]) (rest := []) (wc := (wd_R cI (fun k => a (k + 17)) 0 4 (S 7))) (w1 := (wd_R cI (fun k => a (k + 17)) 0 4 (S 7))) (ci := 5) (q0 := 0) ⟨hx, hb, hml, hown, hts⟩ (c6_at l (a := (fun k => a (k + 17))) (v := 0) (z := 4) hq116) (cwV 1 hts gv_X0_94 rfl rfl rfl hd6_at ⟨Nat.le_of_ble_eq_true rfl, Nat.le_of_ble_eq_true rfl⟩) hK [0] rfl hA hG [17, 18] rfl rfl rfl rfl rfl rfl hl.1 rfl (Nat.le_of_ble_eq_true rfl) dX0_describe_116 ⟨Nat.zero_le _, Nat.zero_le _⟩ (fun H locs hG9 => ?_)
    have hG : gd_W (dC, dI) A s (wd_BL cI a g S) H locs := hG9
    refine lv_iload_n hx hb dX0_describe_119 rfl (lv_at hl 2 rfl) ?_
    refine lv_icmp_ne (tgt := 132) hx hb dX0_describe_120 (by decide) (fun hc => ?_) (fun hc => ?_)
    · have h := fo_if h hc
      exact w0_describe_b132 C hK hA (fun h => hrec6 h) (fun h => hrec101 h) h hG (lv_sub hl [0, 1, 2, 3] rfl)
    · have h := fo_it h hc
      refine lv_aload_n hx hb dX0_describe_123 rfl (lv_at hl 1 rfl) ?_
      refine lv_bipush (v := (65 : Int32)) hx hb dX0_describe_124 (by decide) ?_
      refine lv_iload hx hb dX0_describe_126 (lv_at hl 3 rfl) ?_
      refine lv_iadd hx hb dX0_describe_128 ?_
      obtain ⟨q129, hq129, h⟩ := fo_bd_some h
      refine gc_vV (b := a 27) (C := RX3) (As := [.int ((65 : Int32) + v4)]) (rest := []) (wc := (wd_L cI (fun k => a (k + 27)) g (ms_from S 13))) (w1 := (wd_L cI (fun k => a (k + 27)) g q129)) (ci := 3) (q0 := 0) ⟨hx, hb, hml, hown, hts⟩ (c3_append l (a := (fun k => a (k + 27))) (g := g) hq129) (cwV 1 hts gv_X0_215 rfl rfl rfl hd3_append ⟨Nat.le_of_ble_eq_true rfl, Nat.le_of_ble_eq_true rfl⟩) hK [0] rfl hA hG [27, 28, 29] rfl rfl rfl rfl rfl rfl hl.1 rfl (Nat.le_of_ble_eq_true rfl) dX0_describe_129 ⟨Nat.zero_le _, Nat.zero_le _⟩ (fun H locs hG9 => ?_)
      have hG : gd_W (dC, dI) A s (wd_BL cI a g (ms_sub S 13 2 q129)) H locs := hG9
      exact w0_describe_b132 C hK hA (fun h => hrec6 h) (fun h => hrec101 h) h hG (lv_sub hl [0, 1, 2, 3] rfl)
set_option maxRecDepth 100000 in
set_option maxHeartbeats 4000000 in
theorem w0_describe_L101 (C : cx_M p s m args meth c RX0 cX0_describe none 5) (hK : va_K (dC, dI) vwCl [(cI, .int)] s) (hA : ∀ q, s.heap.size ≤ q → A q) {a : Nat → Nat} {g : Nat} {q : ms_T} {rec6 : Int32 → ms_T → Option ms_T} (hrec6 : ∀ {v2 : Int32} {S : ms_T} , rec6 v2 S = some q → ∀ {H : Heap} {locs : List Loc} {ls : Array Slot}, gd_W (dC, dI) A s (wd_BL cI a g S) H locs → lv_has ls 5 [(0, .ref (a 0)), (1, .ref (a 27)), (2, .int v2)] → W p l e RM0_describe s m args below meth c H locs 0 0 (MQ below (qv_W (dC, dI) [(cI, .int)] A (wd_BL cI a g q)) args s 0 0 A) (F0 m 6 ls [])) : ∀ (n : Nat) {v2 : Int32} {v4 : Int32} {S : ms_T}, f0_describe_L101 g rec6 n v2 v4 S = some q → ∀ {H : Heap} {locs : List Loc} {ls : Array Slot}, gd_W (dC, dI) A s (wd_BL cI a g S) H locs → lv_has ls 5 [(0, .ref (a 0)), (1, .ref (a 27)), (2, .int v2), (4, .int v4)] → W p l e RM0_describe s m args below meth c H locs 0 0 (MQ below (qv_W (dC, dI) [(cI, .int)] A (wd_BL cI a g q)) args s 0 0 A) (F0 m 101 ls []) := by
  intro n
  induction n with
  | zero => intro _ _ _ h; exact nomatch h
  | succ n ih => intro v2 v4 S h H locs ls hG hl; exact w0_describe_b101 C hK hA (fun h => hrec6 h) (fun h => ih h) (show f0_describe_b101 g rec6 (f0_describe_L101 g rec6 n) v2 v4 S = some q from h) hG hl
set_option maxRecDepth 100000 in
set_option maxHeartbeats 4000000 in
theorem w0_describe_b98 (C : cx_M p s m args meth c RX0 cX0_describe none 5) (hK : va_K (dC, dI) vwCl [(cI, .int)] s) (hA : ∀ q, s.heap.size ≤ q → A q) {a : Nat → Nat} {g : Nat} {q : ms_T} {rec6 : Int32 → ms_T → Option ms_T} (hrec6 : ∀ {v2 : Int32} {S : ms_T} , rec6 v2 S = some q → ∀ {H : Heap} {locs : List Loc} {ls : Array Slot}, gd_W (dC, dI) A s (wd_BL cI a g S) H locs → lv_has ls 5 [(0, .ref (a 0)), (1, .ref (a 27)), (2, .int v2)] → W p l e RM0_describe s m args below meth c H locs 0 0 (MQ below (qv_W (dC, dI) [(cI, .int)] A (wd_BL cI a g q)) args s 0 0 A) (F0 m 6 ls [])) {v2 : Int32} {S : ms_T} (h : f0_describe_b98 g rec6 v2 S = some q) {H : Heap} {locs : List Loc} {ls : Array Slot} (hG : gd_W (dC, dI) A s (wd_BL cI a g S) H locs) (hl : lv_has ls 5 [(0, .ref (a 0)), (1, .ref (a 27)), (2, .int v2)]) : W p l e RM0_describe s m args below meth c H locs 0 0 (MQ below (qv_W (dC, dI) [(cI, .int)] A (wd_BL cI a g q)) args s 0 0 A) (F0 m 98 ls []) := by
  unfold f0_describe_b98 at h
  obtain ⟨hx, hb, hr, hts, hown, hlocks, hml⟩ := id C
  refine lv_iconst (v := (0 : Int32)) hx hb dX0_describe_98 (by decide) ?_
  refine lv_istore (lv' := [(4, .int (0 : Int32)), (0, .ref (a 0)), (1, .ref (a 27)), (2, .int v2)]) hx hb dX0_describe_99 hl (by decide) rfl (fun ls hl => ?_)
  exact w0_describe_L101 C hK hA (fun h => hrec6 h) fo_fu h hG (lv_sub hl [1, 2, 3, 0] rfl)
set_option maxRecDepth 100000 in
set_option maxHeartbeats 4000000 in
theorem w0_describe_b70 (C : cx_M p s m args meth c RX0 cX0_describe none 5) (hK : va_K (dC, dI) vwCl [(cI, .int)] s) (hA : ∀ q, s.heap.size ≤ q → A q) {a : Nat → Nat} {g : Nat} {q : ms_T} {rec6 : Int32 → ms_T → Option ms_T} (hrec6 : ∀ {v2 : Int32} {S : ms_T} , rec6 v2 S = some q → ∀ {H : Heap} {locs : List Loc} {ls : Array Slot}, gd_W (dC, dI) A s (wd_BL cI a g S) H locs → lv_has ls 5 [(0, .ref (a 0)), (1, .ref (a 27)), (2, .int v2)] → W p l e RM0_describe s m args below meth c H locs 0 0 (MQ below (qv_W (dC, dI) [(cI, .int)] A (wd_BL cI a g q)) args s 0 0 A) (F0 m 6 ls [])) {v2 : Int32} {S : ms_T} (h : f0_describe_b70 g rec6 v2 S = some q) {H : Heap} {locs : List Loc} {ls : Array Slot} (hG : gd_W (dC, dI) A s (wd_BL cI a g S) H locs) (hl : lv_has ls 5 [(0, .ref (a 0)), (1, .ref (a 27)), (2, .int v2)]) : W p l e RM0_describe s m args below meth c H locs 0 0 (MQ below (qv_W (dC, dI) [(cI, .int)] A (wd_BL cI a g q)) args s 0 0 A) (F0 m 70 ls []) := by
  unfold f0_describe_b70 at h
  obtain ⟨hx, hb, hr, hts, hown, hlocks, hml⟩ := id C
  refine lv_aload_n hx hb dX0_describe_70 rfl (lv_at hl 0 rfl) ?_
  refine va_get (D := (dC, dI)) (ci := 0) (v := .ref (a 1)) (C := RX0) (T := TX0) (N := 15) hx hb hts inlX0 hown hK hG.1 0 rfl rfl 0 (by decide) (hts (Cond.fieldLink RX0 12 "DiceRoads$Board" "roads" "LDiceRoads$Roads;") wq_89) (fun _ h9 => h9) rfl dX0_describe_71 ?_
  refine lv_iload_n hx hb dX0_describe_74 rfl (lv_at hl 2 rfl) ?_
  obtain ⟨q75, hq75, h⟩ := fo_bd_some h
  refine gc_iV (b := a 1) (C := RX5) (As := [.int v2]) (rest := []) (wc := (wd_O cI (fun k => a (k + 1)) S)) (w1 := (wd_O cI (fun k => a (k + 1)) S)) (ci := 4) (q0 := 0) ⟨hx, hb, hml, hown, hts⟩ (c5_secondOwner l (a := (fun k => a (k + 1))) hq75) (cwV 1 hts gv_X0_171 rfl rfl rfl hd5_secondOwner ⟨Nat.le_of_ble_eq_true rfl, Nat.le_of_ble_eq_true rfl⟩) hK [0] rfl hA hG [1, 2, 3, 4, 5] rfl rfl rfl rfl rfl rfl hl.1 rfl (Nat.le_of_ble_eq_true rfl) dX0_describe_75 ⟨Nat.zero_le _, Nat.zero_le _⟩ (fun H locs hG9 => ?_)
  have hG : gd_W (dC, dI) A s (wd_BL cI a g S) H locs := hG9
  refine lv_bipush (v := (-6 : Int32)) hx hb dX0_describe_78 (by decide) ?_
  refine lv_icmp_eq (tgt := 98) hx hb dX0_describe_80 (by decide) (fun hc => ?_) (fun hc => ?_)
  · have h := fo_it h hc
    exact w0_describe_b98 C hK hA (fun h => hrec6 h) h hG (lv_sub hl [0, 1, 2] rfl)
  · have h := fo_if h hc
    refine lv_aload_n hx hb dX0_describe_83 rfl (lv_at hl 1 rfl) ?_
    refine lv_bipush (v := (97 : Int32)) hx hb dX0_describe_84 (by decide) ?_
    refine lv_aload_n hx hb dX0_describe_86 rfl (lv_at hl 0 rfl) ?_
    refine va_get (D := (dC, dI)) (ci := 0) (v := .ref (a 1)) (C := RX0) (T := TX0) (N := 15) hx hb hts inlX0 hown hK hG.1 0 rfl rfl 0 (by decide) (hts (Cond.fieldLink RX0 12 "DiceRoads$Board" "roads" "LDiceRoads$Roads;") wq_89) (fun _ h9 => h9) rfl dX0_describe_87 ?_
    refine lv_iload_n hx hb dX0_describe_90 rfl (lv_at hl 2 rfl) ?_
    obtain ⟨q91, hq91, h⟩ := fo_bd_some h
    refine gc_iV (b := a 1) (C := RX5) (As := [.int v2]) (rest := [.int (97 : Int32), .ref (a 27)]) (wc := (wd_O cI (fun k => a (k + 1)) S)) (w1 := (wd_O cI (fun k => a (k + 1)) S)) (ci := 4) (q0 := 0) ⟨hx, hb, hml, hown, hts⟩ (c5_secondOwner l (a := (fun k => a (k + 1))) hq91) (cwV 1 hts gv_X0_171 rfl rfl rfl hd5_secondOwner ⟨Nat.le_of_ble_eq_true rfl, Nat.le_of_ble_eq_true rfl⟩) hK [0] rfl hA hG [1, 2, 3, 4, 5] rfl rfl rfl rfl rfl rfl hl.1 rfl (Nat.le_of_ble_eq_true rfl) dX0_describe_91 ⟨Nat.zero_le _, Nat.zero_le _⟩ (fun H locs hG9 => ?_)
    have hG : gd_W (dC, dI) A s (wd_BL cI a g S) H locs := hG9
    refine lv_iadd hx hb dX0_describe_94 ?_
    obtain ⟨q95, hq95, h⟩ := fo_bd_some h
    refine gc_vV (b := a 27) (C := RX3) (As := [.int ((97 : Int32) + q91)]) (rest := []) (wc := (wd_L cI (fun k => a (k + 27)) g (ms_from S 13))) (w1 := (wd_L cI (fun k => a (k + 27)) g q95)) (ci := 3) (q0 := 0) ⟨hx, hb, hml, hown, hts⟩ (c3_append l (a := (fun k => a (k + 27))) (g := g) hq95) (cwV 1 hts gv_X0_215 rfl rfl rfl hd3_append ⟨Nat.le_of_ble_eq_true rfl, Nat.le_of_ble_eq_true rfl⟩) hK [0] rfl hA hG [27, 28, 29] rfl rfl rfl rfl rfl rfl hl.1 rfl (Nat.le_of_ble_eq_true rfl) dX0_describe_95 ⟨Nat.zero_le _, Nat.zero_le _⟩ (fun H locs hG9 => ?_)
    have hG : gd_W (dC, dI) A s (wd_BL cI a g (ms_sub S 13 2 q95)) H locs := hG9
    exact w0_describe_b98 C hK hA (fun h => hrec6 h) h hG (lv_sub hl [0, 1, 2] rfl)
set_option maxRecDepth 100000 in
set_option maxHeartbeats 4000000 in
theorem w0_describe_b39 (C : cx_M p s m args meth c RX0 cX0_describe none 5) (hK : va_K (dC, dI) vwCl [(cI, .int)] s) (hA : ∀ q, s.heap.size ≤ q → A q) {a : Nat → Nat} {g : Nat} {q : ms_T} {rec6 : Int32 → ms_T → Option ms_T} (hrec6 : ∀ {v2 : Int32} {S : ms_T} , rec6 v2 S = some q → ∀ {H : Heap} {locs : List Loc} {ls : Array Slot}, gd_W (dC, dI) A s (wd_BL cI a g S) H locs → lv_has ls 5 [(0, .ref (a 0)), (1, .ref (a 27)), (2, .int v2)] → W p l e RM0_describe s m args below meth c H locs 0 0 (MQ below (qv_W (dC, dI) [(cI, .int)] A (wd_BL cI a g q)) args s 0 0 A) (F0 m 6 ls [])) {v2 : Int32} {t1 : Int32} {S : ms_T} (h : f0_describe_b39 g rec6 v2 t1 S = some q) {H : Heap} {locs : List Loc} {ls : Array Slot} (hG : gd_W (dC, dI) A s (wd_BL cI a g S) H locs) (hl : lv_has ls 5 [(0, .ref (a 0)), (1, .ref (a 27)), (2, .int v2)]) : W p l e RM0_describe s m args below meth c H locs 0 0 (MQ below (qv_W (dC, dI) [(cI, .int)] A (wd_BL cI a g q)) args s 0 0 A) (F0 m 39 ls [.int t1, .ref (a 27)]) := by
  unfold f0_describe_b39 at h
  obtain ⟨hx, hb, hr, hts, hown, hlocks, hml⟩ := id C
  obtain ⟨q39, hq39, h⟩ := fo_bd_some h
  refine gc_vV (b := a 27) (C := RX3) (As := [.int t1]) (rest := []) (wc := (wd_L cI (fun k => a (k + 27)) g (ms_from S 13))) (w1 := (wd_L cI (fun k => a (k + 27)) g q39)) (ci := 3) (q0 := 0) ⟨hx, hb, hml, hown, hts⟩ (c3_append l (a := (fun k => a (k + 27))) (g := g) hq39) (cwV 1 hts gv_X0_215 rfl rfl rfl hd3_append ⟨Nat.le_of_ble_eq_true rfl, Nat.le_of_ble_eq_true rfl⟩) hK [0] rfl hA hG [27, 28, 29] rfl rfl rfl rfl rfl rfl hl.1 rfl (Nat.le_of_ble_eq_true rfl) dX0_describe_39 ⟨Nat.zero_le _, Nat.zero_le _⟩ (fun H locs hG9 => ?_)
  have hG : gd_W (dC, dI) A s (wd_BL cI a g (ms_sub S 13 2 q39)) H locs := hG9
  refine lv_aload_n hx hb dX0_describe_42 rfl (lv_at hl 0 rfl) ?_
  refine va_get (D := (dC, dI)) (ci := 0) (v := .ref (a 1)) (C := RX0) (T := TX0) (N := 15) hx hb hts inlX0 hown hK hG.1 0 rfl rfl 0 (by decide) (hts (Cond.fieldLink RX0 12 "DiceRoads$Board" "roads" "LDiceRoads$Roads;") wq_89) (fun _ h9 => h9) rfl dX0_describe_43 ?_
  refine lv_iload_n hx hb dX0_describe_46 rfl (lv_at hl 2 rfl) ?_
  obtain ⟨q47, hq47, h⟩ := fo_bd_some h
  refine gc_iV (b := a 1) (C := RX5) (As := [.int v2]) (rest := []) (wc := (wd_O cI (fun k => a (k + 1)) (ms_sub S 13 2 q39))) (w1 := (wd_O cI (fun k => a (k + 1)) (ms_sub S 13 2 q39))) (ci := 4) (q0 := 0) ⟨hx, hb, hml, hown, hts⟩ (c5_firstOwner l (a := (fun k => a (k + 1))) hq47) (cwV 1 hts gv_X0_165 rfl rfl rfl hd5_firstOwner ⟨Nat.le_of_ble_eq_true rfl, Nat.le_of_ble_eq_true rfl⟩) hK [0] rfl hA hG [1, 2, 3, 4, 5] rfl rfl rfl rfl rfl rfl hl.1 rfl (Nat.le_of_ble_eq_true rfl) dX0_describe_47 ⟨Nat.zero_le _, Nat.zero_le _⟩ (fun H locs hG9 => ?_)
  have hG : gd_W (dC, dI) A s (wd_BL cI a g (ms_sub S 13 2 q39)) H locs := hG9
  refine lv_bipush (v := (-6 : Int32)) hx hb dX0_describe_50 (by decide) ?_
  refine lv_icmp_eq (tgt := 70) hx hb dX0_describe_52 (by decide) (fun hc => ?_) (fun hc => ?_)
  · have h := fo_it h hc
    exact w0_describe_b70 C hK hA (fun h => hrec6 h) h hG (lv_sub hl [0, 1, 2] rfl)
  · have h := fo_if h hc
    refine lv_aload_n hx hb dX0_describe_55 rfl (lv_at hl 1 rfl) ?_
    refine lv_bipush (v := (97 : Int32)) hx hb dX0_describe_56 (by decide) ?_
    refine lv_aload_n hx hb dX0_describe_58 rfl (lv_at hl 0 rfl) ?_
    refine va_get (D := (dC, dI)) (ci := 0) (v := .ref (a 1)) (C := RX0) (T := TX0) (N := 15) hx hb hts inlX0 hown hK hG.1 0 rfl rfl 0 (by decide) (hts (Cond.fieldLink RX0 12 "DiceRoads$Board" "roads" "LDiceRoads$Roads;") wq_89) (fun _ h9 => h9) rfl dX0_describe_59 ?_
    refine lv_iload_n hx hb dX0_describe_62 rfl (lv_at hl 2 rfl) ?_
    obtain ⟨q63, hq63, h⟩ := fo_bd_some h
    refine gc_iV (b := a 1) (C := RX5) (As := [.int v2]) (rest := [.int (97 : Int32), .ref (a 27)]) (wc := (wd_O cI (fun k => a (k + 1)) (ms_sub S 13 2 q39))) (w1 := (wd_O cI (fun k => a (k + 1)) (ms_sub S 13 2 q39))) (ci := 4) (q0 := 0) ⟨hx, hb, hml, hown, hts⟩ (c5_firstOwner l (a := (fun k => a (k + 1))) hq63) (cwV 1 hts gv_X0_165 rfl rfl rfl hd5_firstOwner ⟨Nat.le_of_ble_eq_true rfl, Nat.le_of_ble_eq_true rfl⟩) hK [0] rfl hA hG [1, 2, 3, 4, 5] rfl rfl rfl rfl rfl rfl hl.1 rfl (Nat.le_of_ble_eq_true rfl) dX0_describe_63 ⟨Nat.zero_le _, Nat.zero_le _⟩ (fun H locs hG9 => ?_)
    have hG : gd_W (dC, dI) A s (wd_BL cI a g (ms_sub S 13 2 q39)) H locs := hG9
    refine lv_iadd hx hb dX0_describe_66 ?_
    obtain ⟨q67, hq67, h⟩ := fo_bd_some h
    refine gc_vV (b := a 27) (C := RX3) (As := [.int ((97 : Int32) + q63)]) (rest := []) (wc := (wd_L cI (fun k => a (k + 27)) g (ms_from (ms_sub S 13 2 q39) 13))) (w1 := (wd_L cI (fun k => a (k + 27)) g q67)) (ci := 3) (q0 := 0) ⟨hx, hb, hml, hown, hts⟩ (c3_append l (a := (fun k => a (k + 27))) (g := g) hq67) (cwV 1 hts gv_X0_215 rfl rfl rfl hd3_append ⟨Nat.le_of_ble_eq_true rfl, Nat.le_of_ble_eq_true rfl⟩) hK [0] rfl hA hG [27, 28, 29] rfl rfl rfl rfl rfl rfl hl.1 rfl (Nat.le_of_ble_eq_true rfl) dX0_describe_67 ⟨Nat.zero_le _, Nat.zero_le _⟩ (fun H locs hG9 => ?_)
    have hG : gd_W (dC, dI) A s (wd_BL cI a g (ms_sub (ms_sub S 13 2 q39) 13 2 q67)) H locs := hG9
    exact w0_describe_b70 C hK hA (fun h => hrec6 h) h hG (lv_sub hl [0, 1, 2] rfl)
set_option maxRecDepth 100000 in
set_option maxHeartbeats 4000000 in
theorem w0_describe_b6 (C : cx_M p s m args meth c RX0 cX0_describe none 5) (hK : va_K (dC, dI) vwCl [(cI, .int)] s) (hA : ∀ q, s.heap.size ≤ q → A q) {a : Nat → Nat} {g : Nat} {q : ms_T} {rec6 : Int32 → ms_T → Option ms_T} (hrec6 : ∀ {v2 : Int32} {S : ms_T} , rec6 v2 S = some q → ∀ {H : Heap} {locs : List Loc} {ls : Array Slot}, gd_W (dC, dI) A s (wd_BL cI a g S) H locs → lv_has ls 5 [(0, .ref (a 0)), (1, .ref (a 27)), (2, .int v2)] → W p l e RM0_describe s m args below meth c H locs 0 0 (MQ below (qv_W (dC, dI) [(cI, .int)] A (wd_BL cI a g q)) args s 0 0 A) (F0 m 6 ls [])) {v2 : Int32} {S : ms_T} (h : f0_describe_b6 g rec6 v2 S = some q) {H : Heap} {locs : List Loc} {ls : Array Slot} (hG : gd_W (dC, dI) A s (wd_BL cI a g S) H locs) (hl : lv_has ls 5 [(0, .ref (a 0)), (1, .ref (a 27)), (2, .int v2)]) : W p l e RM0_describe s m args below meth c H locs 0 0 (MQ below (qv_W (dC, dI) [(cI, .int)] A (wd_BL cI a g q)) args s 0 0 A) (F0 m 6 ls []) := by
  unfold f0_describe_b6 at h
  obtain ⟨hx, hb, hr, hts, hown, hlocks, hml⟩ := id C
  refine lv_iload_n hx hb dX0_describe_6 rfl (lv_at hl 2 rfl) ?_
  refine lv_bipush (v := (20 : Int32)) hx hb dX0_describe_7 (by decide) ?_
  refine lv_icmp_ge (tgt := 144) hx hb dX0_describe_9 (by decide) (fun hc => ?_) (fun hc => ?_)
  · have h := fo_it h hc
    obtain rfl := Option.some.inj h
    exact gr_v hx hb hr hlocks hK hG dX0_describe_144
  · have h := fo_if h hc
    refine lv_iload_n hx hb dX0_describe_12 rfl (lv_at hl 2 rfl) ?_
    obtain ⟨q13, hq13, h⟩ := fo_bd_some h
    refine gc_iS (As := [.int v2]) (rest := []) (wc := ([] : va_W)) (w1 := ([] : va_W)) ⟨hx, hb, hml, hown, hts⟩ (c5_sortOf l (a := a) hq13) (va_cwS 1 hts gv_X0_198 rfl rfl rfl hd5_sortOf ⟨Nat.le_of_ble_eq_true rfl, Nat.le_of_ble_eq_true rfl⟩) hK [] rfl hA hG [] rfl rfl rfl rfl hl.1 rfl (Nat.le_of_ble_eq_true rfl) dX0_describe_13 ⟨Nat.zero_le _, Nat.zero_le _⟩ (fun H locs hG9 => ?_)
    have hG : gd_W (dC, dI) A s (wd_BL cI a g S) H locs := hG9
    refine lv_istore_n (lv' := [(3, .int q13), (0, .ref (a 0)), (1, .ref (a 27)), (2, .int v2)]) hx hb dX0_describe_16 rfl hl (by decide) rfl (fun ls hl => ?_)
    refine lv_aload_n hx hb dX0_describe_17 rfl (lv_at hl 2 rfl) ?_
    refine lv_iload_n hx hb dX0_describe_18 rfl (lv_at hl 0 rfl) ?_
    refine lv_if_ne (tgt := 27) hx hb dX0_describe_19 (by decide) (fun hc => ?_) (fun hc => ?_)
    · have h := fo_if h hc
      refine lv_iload_n hx hb dX0_describe_27 rfl (lv_at hl 0 rfl) ?_
      refine lv_iconst (v := (1 : Int32)) hx hb dX0_describe_28 (by decide) ?_
      refine lv_icmp_ne (tgt := 37) hx hb dX0_describe_29 (by decide) (fun hc => ?_) (fun hc => ?_)
      · have h := fo_if h hc
        refine lv_bipush (v := (61 : Int32)) hx hb dX0_describe_37 (by decide) ?_
        exact w0_describe_b39 C hK hA (fun h => hrec6 h) h hG (lv_sub hl [1, 2, 3] rfl)
      · have h := fo_it h hc
        refine lv_bipush (v := (45 : Int32)) hx hb dX0_describe_32 (by decide) ?_
        refine lv_goto (tgt := 39) hx hb dX0_describe_34 (by decide) ?_
        exact w0_describe_b39 C hK hA (fun h => hrec6 h) h hG (lv_sub hl [1, 2, 3] rfl)
    · have h := fo_it h hc
      refine lv_bipush (v := (111 : Int32)) hx hb dX0_describe_22 (by decide) ?_
      refine lv_goto (tgt := 39) hx hb dX0_describe_24 (by decide) ?_
      exact w0_describe_b39 C hK hA (fun h => hrec6 h) h hG (lv_sub hl [1, 2, 3] rfl)
set_option maxRecDepth 100000 in
set_option maxHeartbeats 4000000 in
theorem w0_describe_L6 (C : cx_M p s m args meth c RX0 cX0_describe none 5) (hK : va_K (dC, dI) vwCl [(cI, .int)] s) (hA : ∀ q, s.heap.size ≤ q → A q) {a : Nat → Nat} {g : Nat} {q : ms_T} : ∀ (n : Nat) {v2 : Int32} {S : ms_T}, f0_describe_L6 g n v2 S = some q → ∀ {H : Heap} {locs : List Loc} {ls : Array Slot}, gd_W (dC, dI) A s (wd_BL cI a g S) H locs → lv_has ls 5 [(0, .ref (a 0)), (1, .ref (a 27)), (2, .int v2)] → W p l e RM0_describe s m args below meth c H locs 0 0 (MQ below (qv_W (dC, dI) [(cI, .int)] A (wd_BL cI a g q)) args s 0 0 A) (F0 m 6 ls []) := by
  intro n
  induction n with
  | zero => intro _ _ h; exact nomatch h
  | succ n ih => intro v2 S h H locs ls hG hl; exact w0_describe_b6 C hK hA (fun h => ih h) (show f0_describe_b6 g (f0_describe_L6 g n) v2 S = some q from h) hG hl
set_option maxRecDepth 100000 in
set_option maxHeartbeats 4000000 in
theorem w0_describe (C : cx_M p s m args meth c RX0 cX0_describe none 5) (hK : va_K (dC, dI) vwCl [(cI, .int)] s) (hA : ∀ q, s.heap.size ≤ q → A q) {a : Nat → Nat} {g : Nat} {q : ms_T} {S : ms_T} (h : f0_describe g S = some q) {H : Heap} {locs : List Loc} {ls : Array Slot} (hG : gd_W (dC, dI) A s (wd_BL cI a g S) H locs) (hl : lv_has ls 5 [(0, .ref (a 0)), (1, .ref (a 27))]) : W p l e RM0_describe s m args below meth c H locs 0 0 (MQ below (qv_W (dC, dI) [(cI, .int)] A (wd_BL cI a g q)) args s 0 0 A) (F0 m 0 ls []) := by
  unfold f0_describe at h
  obtain ⟨hx, hb, hr, hts, hown, hlocks, hml⟩ := id C
  refine lv_aload_n hx hb dX0_describe_0 rfl (lv_at hl 1 rfl) ?_
  obtain ⟨q1, hq1, h⟩ := fo_bd_some h
  refine gc_vV (b := a 27) (C := RX3) (As := []) (rest := []) (wc := (wd_L cI (fun k => a (k + 27)) g (ms_from S 13))) (w1 := (wd_L cI (fun k => a (k + 27)) g q1)) (ci := 3) (q0 := 0) ⟨hx, hb, hml, hown, hts⟩ (c3_makeEmpty l (a := (fun k => a (k + 27))) (g := g) hq1) (cwV 0 hts gv_X0_210 rfl rfl rfl hd3_makeEmpty ⟨Nat.le_of_ble_eq_true rfl, Nat.le_of_ble_eq_true rfl⟩) hK [0] rfl hA hG [27, 28, 29] rfl rfl rfl rfl rfl rfl hl.1 rfl (Nat.le_of_ble_eq_true rfl) dX0_describe_1 ⟨Nat.zero_le _, Nat.zero_le _⟩ (fun H locs hG9 => ?_)
  have hG : gd_W (dC, dI) A s (wd_BL cI a g (ms_sub S 13 2 q1)) H locs := hG9
  refine lv_iconst (v := (0 : Int32)) hx hb dX0_describe_4 (by decide) ?_
  refine lv_istore_n (lv' := [(2, .int (0 : Int32)), (0, .ref (a 0)), (1, .ref (a 27))]) hx hb dX0_describe_5 rfl hl (by decide) rfl (fun ls hl => ?_)
  exact w0_describe_L6 C hK hA fo_fu h hG (lv_sub hl [1, 2, 0] rfl)
set_option maxRecDepth 100000 in
set_option maxHeartbeats 4000000 in
theorem c0_describe (l : Launch) {dC : Nat → ClassId} {dI : Nat → Nat → Nat} {cI : ClassId} {a : Nat → Nat} {g : Nat} {S : ms_T} {q : ms_T} (h : f0_describe g S = some q) : mv_M l yX0_describe wm0_describe RM0_describe (dC, dI) [(cI, .int)] [.ref (a 0), .ref (a 27)] (wd_BL cI a g S) (wd_BL cI a g q) := by
  intro sz
  refine Met.ofW (cc := cX0_describe) (maxL := 5) (ret := none) (by decide) rfl ?_
  intro p e s m args below meth c s₁ B hml hv
  obtain ⟨rfl, hsz, hP, hK, hD0⟩ := hv
  subst hsz
  have hl := lv_entry ([.ref (a 0), .ref (a 27)] : List Value) (n := 5) (Nat.le_of_ble_eq_true rfl)
  rw [lg_entry_eq]
  generalize (lg_sl ([.ref (a 0), .ref (a 27)] : List Value) ++ List.replicate (5 - (lg_sl ([.ref (a 0), .ref (a 27)] : List Value)).length) Slot.unset).toArray = ls at hl ⊢
  exact w0_describe (a := a) ⟨B.exec, B.bytes, B.returns, fun w hw => atoms_spec (ws := wm0_describe) B.pre w (List.mem_cons_of_mem _ hw), findClass_of_methodNamed B.named, B.notSynchronized, hml⟩ hK (fun _ h => Or.inr h) h ⟨hP, hD0.self, va_S.rf⟩ hl
end
