/-! ## DiceRoads$Board.takeTurn()V -/
section
variable {p : Program} {l : Launch} {e : Env} {s : State} {m : MethodId} {args : Array Value} {below : List Frame} {meth : Method} {c : Code} {dC : Nat → ClassId} {dI : Nat → Nat → Nat} {cI : ClassId} {A : Nat → Prop}
set_option maxRecDepth 100000 in
set_option maxHeartbeats 4000000 in
theorem w0_takeTurn_b89 (C : cx_M p s m args meth c RX0 cX0_takeTurn none 2) (hK : va_K (dC, dI) vwCl [(cI, .int)] s) (hA : ∀ q, s.heap.size ≤ q → A q) {a : Nat → Nat} {q : ms_T} {t1 : Int32} {S : ms_T} (h : f0_takeTurn_b89 t1 S = some q) {H : Heap} {locs : List Loc} {ls : Array Slot} (hG : gd_W (dC, dI) A s (wd_B cI a S) H locs) (hl : lv_has ls 2 []) : W p l e RM0_takeTurn s m args below meth c H locs 0 0 (MQ below (qv_W (dC, dI) [(cI, .int)] A (wd_B cI a q)) args s 0 0 A) (F0 m 89 ls [.int t1, .ref (a 0)]) := by
  unfold f0_takeTurn_b89 at h
  obtain ⟨hx, hb, hr, hts, hown, hlocks, hml⟩ := id C
  refine va_put (D := (dC, dI)) (ci := 0) (v := .int t1) (ty := .int) (C := RX0) (T := TX0) (N := 15) hx hb hts inlX0 tyX0 tyX0_ok nmX0 hown hK hG.1 hG.2.1 hG.2.2 0 rfl rfl 10 (by decide) (hts (Cond.fieldLink RX0 56 "DiceRoads$Board" "next" "I") wq_100) (fun _ h9 => h9) rfl (by decide +kernel) rfl rfl (Nat.le_of_ble_eq_true rfl) dX0_takeTurn_89 (fun H locs hP9 hD9 hS9 => ?_)
  have hG : gd_W (dC, dI) A s (wd_B cI a (ms_set S 12 (upd (S 12) 1 t1))) H locs := ⟨hP9, hD9, hS9⟩
  obtain rfl := Option.some.inj h
  exact gr_v hx hb hr hlocks hK hG dX0_takeTurn_92
set_option maxRecDepth 100000 in
set_option maxHeartbeats 4000000 in
theorem w0_takeTurn (C : cx_M p s m args meth c RX0 cX0_takeTurn none 2) (hK : va_K (dC, dI) vwCl [(cI, .int)] s) (hA : ∀ q, s.heap.size ≤ q → A q) {a : Nat → Nat} {q : ms_T} {S : ms_T} (h : f0_takeTurn S = some q) {H : Heap} {locs : List Loc} {ls : Array Slot} (hG : gd_W (dC, dI) A s (wd_B cI a S) H locs) (hl : lv_has ls 2 [(0, .ref (a 0))]) : W p l e RM0_takeTurn s m args below meth c H locs 0 0 (MQ below (qv_W (dC, dI) [(cI, .int)] A (wd_B cI a q)) args s 0 0 A) (F0 m 0 ls []) := by
  unfold f0_takeTurn at h
  obtain ⟨hx, hb, hr, hts, hown, hlocks, hml⟩ := id C
  refine lv_aload_n hx hb dX0_takeTurn_0 rfl (lv_at hl 0 rfl) ?_
  refine va_get (D := (dC, dI)) (ci := 0) (v := .int (S 12 0)) (C := RX0) (T := TX0) (N := 15) hx hb hts inlX0 hown hK hG.1 0 rfl rfl 9 (by decide) (hts (Cond.fieldLink RX0 52 "DiceRoads$Board" "players" "I") wq_99) (fun _ h9 => h9) rfl dX0_takeTurn_1 ?_
  refine lv_if_ne (tgt := 8) hx hb dX0_takeTurn_4 (by decide) (fun hc => ?_) (fun hc => ?_)
  · have h := fo_if h hc
    refine lv_aload_n hx hb dX0_takeTurn_8 rfl (lv_at hl 0 rfl) ?_
    refine va_get (D := (dC, dI)) (ci := 0) (v := .int (S 12 1)) (C := RX0) (T := TX0) (N := 15) hx hb hts inlX0 hown hK hG.1 0 rfl rfl 10 (by decide) (hts (Cond.fieldLink RX0 56 "DiceRoads$Board" "next" "I") wq_100) (fun _ h9 => h9) rfl dX0_takeTurn_9 ?_
    refine lv_istore_n (lv' := [(1, .int (S 12 1)), (0, .ref (a 0))]) hx hb dX0_takeTurn_12 rfl hl (by decide) rfl (fun ls hl => ?_)
    refine lv_aload_n hx hb dX0_takeTurn_13 rfl (lv_at hl 1 rfl) ?_
    refine lv_iload_n hx hb dX0_takeTurn_14 rfl (lv_at hl 0 rfl) ?_
    obtain ⟨q15, hq15, h⟩ := fo_bd_some h
    refine gs_vV (b := a 0) (C := RX0) (As := [.int (S 12 1)]) (rest := []) (w1 := (wd_B cI a q15)) (ci := 0) (q0 := 0) ⟨hx, hb, hml, hown, hts⟩ (c0_payDebts l (a := a) hq15) (cwV 1 hts gv_X0_112 rfl rfl rfl hd0_payDebts ⟨Nat.le_of_ble_eq_true rfl, Nat.le_of_ble_eq_true rfl⟩) hK hA hG rfl rfl rfl hl.1 rfl (Nat.le_of_ble_eq_true rfl) dX0_takeTurn_15 ⟨Nat.zero_le _, Nat.zero_le _⟩ (fun H locs hG9 => ?_)
    have hG : gd_W (dC, dI) A s (wd_B cI a q15) H locs := hG9
    refine lv_aload_n hx hb dX0_takeTurn_18 rfl (lv_at hl 1 rfl) ?_
    refine lv_iload_n hx hb dX0_takeTurn_19 rfl (lv_at hl 0 rfl) ?_
    obtain ⟨q20, hq20, h⟩ := fo_bd_some h
    refine gs_vV (b := a 0) (C := RX0) (As := [.int (S 12 1)]) (rest := []) (w1 := (wd_B cI a q20)) (ci := 0) (q0 := 0) ⟨hx, hb, hml, hown, hts⟩ (c0_move l (a := a) hq20) (cwV 1 hts gv_X0_116 rfl rfl rfl hd0_move ⟨Nat.le_of_ble_eq_true rfl, Nat.le_of_ble_eq_true rfl⟩) hK hA hG rfl rfl rfl hl.1 rfl (Nat.le_of_ble_eq_true rfl) dX0_takeTurn_20 ⟨Nat.zero_le _, Nat.zero_le _⟩ (fun H locs hG9 => ?_)
    have hG : gd_W (dC, dI) A s (wd_B cI a q20) H locs := hG9
    refine lv_aload_n hx hb dX0_takeTurn_23 rfl (lv_at hl 1 rfl) ?_
    refine lv_iload_n hx hb dX0_takeTurn_24 rfl (lv_at hl 0 rfl) ?_
    obtain ⟨q25, hq25, h⟩ := fo_bd_some h
    refine gs_vV (b := a 0) (C := RX0) (As := [.int (S 12 1)]) (rest := []) (w1 := (wd_B cI a q25)) (ci := 0) (q0 := 0) ⟨hx, hb, hml, hown, hts⟩ (c0_tryToClaim l (a := a) hq25) (cwV 1 hts gv_X0_119 rfl rfl rfl hd0_tryToClaim ⟨Nat.le_of_ble_eq_true rfl, Nat.le_of_ble_eq_true rfl⟩) hK hA hG rfl rfl rfl hl.1 rfl (Nat.le_of_ble_eq_true rfl) dX0_takeTurn_25 ⟨Nat.zero_le _, Nat.zero_le _⟩ (fun H locs hG9 => ?_)
    have hG : gd_W (dC, dI) A s (wd_B cI a q25) H locs := hG9
    refine lv_aload_n hx hb dX0_takeTurn_28 rfl (lv_at hl 1 rfl) ?_
    refine lv_iload_n hx hb dX0_takeTurn_29 rfl (lv_at hl 0 rfl) ?_
    obtain ⟨q30, hq30, h⟩ := fo_bd_some h
    refine gs_vV (b := a 0) (C := RX0) (As := [.int (S 12 1)]) (rest := []) (w1 := (wd_B cI a q30)) (ci := 0) (q0 := 0) ⟨hx, hb, hml, hown, hts⟩ (c0_payToll l (a := a) hq30) (cwV 1 hts gv_X0_122 rfl rfl rfl hd0_payToll ⟨Nat.le_of_ble_eq_true rfl, Nat.le_of_ble_eq_true rfl⟩) hK hA hG rfl rfl rfl hl.1 rfl (Nat.le_of_ble_eq_true rfl) dX0_takeTurn_30 ⟨Nat.zero_le _, Nat.zero_le _⟩ (fun H locs hG9 => ?_)
    have hG : gd_W (dC, dI) A s (wd_B cI a q30) H locs := hG9
    refine lv_aload_n hx hb dX0_takeTurn_33 rfl (lv_at hl 1 rfl) ?_
    refine va_get (D := (dC, dI)) (ci := 0) (v := .ref (a 6)) (C := RX0) (T := TX0) (N := 15) hx hb hts inlX0 hown hK hG.1 0 rfl rfl 1 (by decide) (hts (Cond.fieldLink RX0 21 "DiceRoads$Board" "debts" "LDiceRoads$Debts;") wq_90) (fun _ h9 => h9) rfl dX0_takeTurn_34 ?_
    refine lv_iload_n hx hb dX0_takeTurn_37 rfl (lv_at hl 0 rfl) ?_
    obtain ⟨q38, hq38, h⟩ := fo_bd_some h
    refine gc_vV (b := a 6) (C := RX1) (As := [.int (S 12 1)]) (rest := []) (wc := (wd_D cI (fun k => a (k + 6)) (ms_from q30 2))) (w1 := (wd_D cI (fun k => a (k + 6)) q38)) (ci := 1) (q0 := 0) ⟨hx, hb, hml, hown, hts⟩ (c1_makeOlder l (a := (fun k => a (k + 6))) hq38) (cwV 1 hts gv_X0_125 rfl rfl rfl hd1_makeOlder ⟨Nat.le_of_ble_eq_true rfl, Nat.le_of_ble_eq_true rfl⟩) hK [0] rfl hA hG [6, 7, 8, 9, 10, 11, 12] rfl rfl rfl rfl rfl rfl hl.1 rfl (Nat.le_of_ble_eq_true rfl) dX0_takeTurn_38 ⟨Nat.zero_le _, Nat.zero_le _⟩ (fun H locs hG9 => ?_)
    have hG : gd_W (dC, dI) A s (wd_B cI a (ms_sub q30 2 3 q38)) H locs := hG9
    refine lv_aload_n hx hb dX0_takeTurn_41 rfl (lv_at hl 1 rfl) ?_
    refine lv_iload_n hx hb dX0_takeTurn_42 rfl (lv_at hl 0 rfl) ?_
    obtain ⟨q43, hq43, h⟩ := fo_bd_some h
    refine gs_vV (b := a 0) (C := RX0) (As := [.int (S 12 1)]) (rest := []) (w1 := (wd_B cI a q43)) (ci := 0) (q0 := 0) ⟨hx, hb, hml, hown, hts⟩ (c0_loseSquares l (a := a) hq43) (cwV 1 hts gv_X0_128 rfl rfl rfl hd0_loseSquares ⟨Nat.le_of_ble_eq_true rfl, Nat.le_of_ble_eq_true rfl⟩) hK hA hG rfl rfl rfl hl.1 rfl (Nat.le_of_ble_eq_true rfl) dX0_takeTurn_43 ⟨Nat.zero_le _, Nat.zero_le _⟩ (fun H locs hG9 => ?_)
    have hG : gd_W (dC, dI) A s (wd_B cI a q43) H locs := hG9
    refine lv_aload_n hx hb dX0_takeTurn_46 rfl (lv_at hl 1 rfl) ?_
    refine va_get (D := (dC, dI)) (ci := 0) (v := .ref (a 23)) (C := RX0) (T := TX0) (N := 15) hx hb hts inlX0 hown hK hG.1 0 rfl rfl 7 (by decide) (hts (Cond.fieldLink RX0 46 "DiceRoads$Board" "turnsDone" "LDiceRoads$Row;") wq_97) (fun _ h9 => h9) rfl dX0_takeTurn_47 ?_
    refine lv_iload_n hx hb dX0_takeTurn_50 rfl (lv_at hl 0 rfl) ?_
    refine lv_iconst (v := (1 : Int32)) hx hb dX0_takeTurn_51 (by decide) ?_
    obtain ⟨q52, hq52, h⟩ := fo_bd_some h
    refine gc_vV (b := a 23) (C := RX6) (As := [.int (S 12 1), .int (1 : Int32)]) (rest := []) (wc := (wd_R cI (fun k => a (k + 23)) 0 4 (q43 10))) (w1 := (wd_R cI (fun k => a (k + 23)) 0 4 q52)) (ci := 5) (q0 := 0) ⟨hx, hb, hml, hown, hts⟩ (c6_add l (a := (fun k => a (k + 23))) (v := 0) (z := 4) hq52) (cwV 2 hts gv_X0_131 rfl rfl rfl hd6_add ⟨Nat.le_of_ble_eq_true rfl, Nat.le_of_ble_eq_true rfl⟩) hK [0] rfl hA hG [23, 24] rfl rfl rfl rfl rfl rfl hl.1 rfl (Nat.le_of_ble_eq_true rfl) dX0_takeTurn_52 ⟨Nat.zero_le _, Nat.zero_le _⟩ (fun H locs hG9 => ?_)
    have hG : gd_W (dC, dI) A s (wd_B cI a (ms_set q43 10 q52)) H locs := hG9
    refine lv_aload_n hx hb dX0_takeTurn_55 rfl (lv_at hl 1 rfl) ?_
    refine lv_dup hx hb dX0_takeTurn_56 rfl ?_
    refine va_get (D := (dC, dI)) (ci := 0) (v := .int ((ms_set q43 10 q52) 12 3)) (C := RX0) (T := TX0) (N := 15) hx hb hts inlX0 hown hK hG.1 0 rfl rfl 12 (by decide) (hts (Cond.fieldLink RX0 62 "DiceRoads$Board" "turns" "I") wq_102) (fun _ h9 => h9) rfl dX0_takeTurn_57 ?_
    refine lv_iconst (v := (1 : Int32)) hx hb dX0_takeTurn_60 (by decide) ?_
    refine lv_iadd hx hb dX0_takeTurn_61 ?_
    refine va_put (D := (dC, dI)) (ci := 0) (v := .int (((ms_set q43 10 q52) 12 3) + (1 : Int32))) (ty := .int) (C := RX0) (T := TX0) (N := 15) hx hb hts inlX0 tyX0 tyX0_ok nmX0 hown hK hG.1 hG.2.1 hG.2.2 0 rfl rfl 12 (by decide) (hts (Cond.fieldLink RX0 62 "DiceRoads$Board" "turns" "I") wq_102) (fun _ h9 => h9) rfl (by decide +kernel) rfl rfl (Nat.le_of_ble_eq_true rfl) dX0_takeTurn_62 (fun H locs hP9 hD9 hS9 => ?_)
    have hG : gd_W (dC, dI) A s (wd_B cI a (ms_set (ms_set q43 10 q52) 12 (upd ((ms_set q43 10 q52) 12) 3 (((ms_set q43 10 q52) 12 3) + (1 : Int32))))) H locs := ⟨hP9, hD9, hS9⟩
    refine lv_aload_n hx hb dX0_takeTurn_65 rfl (lv_at hl 1 rfl) ?_
    refine lv_aload_n hx hb dX0_takeTurn_66 rfl (lv_at hl 1 rfl) ?_
    refine va_get (D := (dC, dI)) (ci := 0) (v := .int ((ms_set (ms_set q43 10 q52) 12 (upd ((ms_set q43 10 q52) 12) 3 (((ms_set q43 10 q52) 12 3) + (1 : Int32)))) 12 1)) (C := RX0) (T := TX0) (N := 15) hx hb hts inlX0 hown hK hG.1 0 rfl rfl 10 (by decide) (hts (Cond.fieldLink RX0 56 "DiceRoads$Board" "next" "I") wq_100) (fun _ h9 => h9) rfl dX0_takeTurn_67 ?_
    refine lv_iconst (v := (1 : Int32)) hx hb dX0_takeTurn_70 (by decide) ?_
    refine lv_iadd hx hb dX0_takeTurn_71 ?_
    refine lv_aload_n hx hb dX0_takeTurn_72 rfl (lv_at hl 1 rfl) ?_
    refine va_get (D := (dC, dI)) (ci := 0) (v := .int ((ms_set (ms_set q43 10 q52) 12 (upd ((ms_set q43 10 q52) 12) 3 (((ms_set q43 10 q52) 12 3) + (1 : Int32)))) 12 0)) (C := RX0) (T := TX0) (N := 15) hx hb hts inlX0 hown hK hG.1 0 rfl rfl 9 (by decide) (hts (Cond.fieldLink RX0 52 "DiceRoads$Board" "players" "I") wq_99) (fun _ h9 => h9) rfl dX0_takeTurn_73 ?_
    refine lv_icmp_ge (tgt := 88) hx hb dX0_takeTurn_76 (by decide) (fun hc => ?_) (fun hc => ?_)
    · have h := fo_it h hc
      refine lv_iconst (v := (0 : Int32)) hx hb dX0_takeTurn_88 (by decide) ?_
      exact w0_takeTurn_b89 C hK hA h hG (lv_sub hl [] rfl)
    · have h := fo_if h hc
      refine lv_aload_n hx hb dX0_takeTurn_79 rfl (lv_at hl 1 rfl) ?_
      refine va_get (D := (dC, dI)) (ci := 0) (v := .int ((ms_set (ms_set q43 10 q52) 12 (upd ((ms_set q43 10 q52) 12) 3 (((ms_set q43 10 q52) 12 3) + (1 : Int32)))) 12 1)) (C := RX0) (T := TX0) (N := 15) hx hb hts inlX0 hown hK hG.1 0 rfl rfl 10 (by decide) (hts (Cond.fieldLink RX0 56 "DiceRoads$Board" "next" "I") wq_100) (fun _ h9 => h9) rfl dX0_takeTurn_80 ?_
      refine lv_iconst (v := (1 : Int32)) hx hb dX0_takeTurn_83 (by decide) ?_
      refine lv_iadd hx hb dX0_takeTurn_84 ?_
      refine lv_goto (tgt := 89) hx hb dX0_takeTurn_85 (by decide) ?_
      exact w0_takeTurn_b89 C hK hA h hG (lv_sub hl [] rfl)
  · have h := fo_it h hc
    obtain rfl := Option.some.inj h
    exact gr_v hx hb hr hlocks hK hG dX0_takeTurn_7
set_option maxRecDepth 100000 in
set_option maxHeartbeats 4000000 in
theorem c0_takeTurn (l : Launch) {dC : Nat → ClassId} {dI : Nat → Nat → Nat} {cI : ClassId} {a : Nat → Nat} {S : ms_T} {q : ms_T} (h : f0_takeTurn S = some q) : mv_M l yX0_takeTurn wm0_takeTurn RM0_takeTurn (dC, dI) [(cI, .int)] [.ref (a 0)] (wd_B cI a S) (wd_B cI a q) := by
  intro sz
  refine Met.ofW (cc := cX0_takeTurn) (maxL := 2) (ret := none) (by decide) rfl ?_
  intro p e s m args below meth c s₁ B hml hv
  obtain ⟨rfl, hsz, hP, hK, hD0⟩ := hv
  subst hsz
  have hl := lv_entry ([.ref (a 0)] : List Value) (n := 2) (Nat.le_of_ble_eq_true rfl)
  rw [lg_entry_eq]
  generalize (lg_sl ([.ref (a 0)] : List Value) ++ List.replicate (2 - (lg_sl ([.ref (a 0)] : List Value)).length) Slot.unset).toArray = ls at hl ⊢
  exact w0_takeTurn (a := a) ⟨B.exec, B.bytes, B.returns, fun w hw => atoms_spec (ws := wm0_takeTurn) B.pre w (List.mem_cons_of_mem _ hw), findClass_of_methodNamed B.named, B.notSynchronized, hml⟩ hK (fun _ h => Or.inr h) h ⟨hP, hD0.self, va_S.rf⟩ hl
end
/-! ## DiceRoads$Board.doTurns(I)I -/
section
variable {p : Program} {l : Launch} {e : Env} {s : State} {m : MethodId} {args : Array Value} {below : List Frame} {meth : Method} {c : Code} {dC : Nat → ClassId} {dI : Nat → Nat → Nat} {cI : ClassId} {A : Nat → Prop}
set_option maxRecDepth 100000 in
set_option maxHeartbeats 4000000 in
theorem w0_doTurns_b46 (C : cx_M p s m args meth c RX0 cX0_doTurns (some .int) 4) (hK : va_K (dC, dI) vwCl [(cI, .int)] s) (hA : ∀ q, s.heap.size ≤ q → A q) {a : Nat → Nat} {q : (Int32 × ms_T)} {rec46 : Int32 → Int32 → Int32 → ms_T → Option (Int32 × ms_T)} (hrec46 : ∀ {v1 : Int32} {v2 : Int32} {v3 : Int32} {S : ms_T} , rec46 v1 v2 v3 S = some q → ∀ {H : Heap} {locs : List Loc} {ls : Array Slot}, gd_W (dC, dI) A s (wd_B cI a S) H locs → lv_has ls 4 [(0, .ref (a 0)), (1, .int v1), (2, .int v2), (3, .int v3)] → W p l e RM0_doTurns s m args below meth c H locs 0 0 (MQ below (qi_W (dC, dI) [(cI, .int)] A q.1 (wd_B cI a q.2)) args s 0 0 A) (F0 m 46 ls [])) {v1 : Int32} {v2 : Int32} {v3 : Int32} {S : ms_T} (h : f0_doTurns_b46 rec46 v1 v2 v3 S = some q) {H : Heap} {locs : List Loc} {ls : Array Slot} (hG : gd_W (dC, dI) A s (wd_B cI a S) H locs) (hl : lv_has ls 4 [(0, .ref (a 0)), (1, .int v1), (2, .int v2), (3, .int v3)]) : W p l e RM0_doTurns s m args below meth c H locs 0 0 (MQ below (qi_W (dC, dI) [(cI, .int)] A q.1 (wd_B cI a q.2)) args s 0 0 A) (F0 m 46 ls []) := by
  unfold f0_doTurns_b46 at h
  obtain ⟨hx, hb, hr, hts, hown, hlocks, hml⟩ := id C
  refine lv_iload_n hx hb dX0_doTurns_46 rfl (lv_at hl 3 rfl) ?_
  refine lv_iload_n hx hb dX0_doTurns_47 rfl (lv_at hl 1 rfl) ?_
  refine lv_icmp_ge (tgt := 61) hx hb dX0_doTurns_48 (by decide) (fun hc => ?_) (fun hc => ?_)
  · have h := fo_it h hc
    refine lv_aload_n hx hb dX0_doTurns_61 rfl (lv_at hl 0 rfl) ?_
    refine va_get (D := (dC, dI)) (ci := 0) (v := .ref (a 19)) (C := RX0) (T := TX0) (N := 15) hx hb hts inlX0 hown hK hG.1 0 rfl rfl 5 (by decide) (hts (Cond.fieldLink RX0 40 "DiceRoads$Board" "tollsPaid" "LDiceRoads$Row;") wq_95) (fun _ h9 => h9) rfl dX0_doTurns_62 ?_
    obtain ⟨q65, hq65, h⟩ := fo_bd_some h
    refine gc_iV (b := a 19) (C := RX6) (As := []) (rest := []) (wc := (wd_R cI (fun k => a (k + 19)) 0 4 (S 8))) (w1 := (wd_R cI (fun k => a (k + 19)) 0 4 (S 8))) (ci := 5) (q0 := 0) ⟨hx, hb, hml, hown, hts⟩ (c6_sum l (a := (fun k => a (k + 19))) (v := 0) (z := 4) hq65) (cwV 0 hts gv_X0_98 rfl rfl rfl hd6_sum ⟨Nat.le_of_ble_eq_true rfl, Nat.le_of_ble_eq_true rfl⟩) hK [0] rfl hA hG [19, 20] rfl rfl rfl rfl rfl rfl hl.1 rfl (Nat.le_of_ble_eq_true rfl) dX0_doTurns_65 ⟨Nat.zero_le _, Nat.zero_le _⟩ (fun H locs hG9 => ?_)
    have hG : gd_W (dC, dI) A s (wd_B cI a S) H locs := hG9
    refine lv_iload_n hx hb dX0_doTurns_68 rfl (lv_at hl 2 rfl) ?_
    refine lv_isub hx hb dX0_doTurns_69 ?_
    obtain rfl := Option.some.inj h
    exact gr_i hx hb hr hlocks hK hG rfl dX0_doTurns_70
  · have h := fo_if h hc
    refine lv_aload_n hx hb dX0_doTurns_51 rfl (lv_at hl 0 rfl) ?_
    obtain ⟨q52, hq52, h⟩ := fo_bd_some h
    refine gs_vV (b := a 0) (C := RX0) (As := []) (rest := []) (w1 := (wd_B cI a q52)) (ci := 0) (q0 := 0) ⟨hx, hb, hml, hown, hts⟩ (c0_takeTurn l (a := a) hq52) (cwV 0 hts gv_X0_102 rfl rfl rfl hd0_takeTurn ⟨Nat.le_of_ble_eq_true rfl, Nat.le_of_ble_eq_true rfl⟩) hK hA hG rfl rfl rfl hl.1 rfl (Nat.le_of_ble_eq_true rfl) dX0_doTurns_52 ⟨Nat.zero_le _, Nat.zero_le _⟩ (fun H locs hG9 => ?_)
    have hG : gd_W (dC, dI) A s (wd_B cI a q52) H locs := hG9
    refine lv_iinc (v := (v3 + (1 : Int32))) (lv' := [(3, .int (v3 + (1 : Int32))), (0, .ref (a 0)), (1, .int v1), (2, .int v2)]) hx hb dX0_doTurns_55 hl (k := 3) rfl rfl (by decide) rfl (fun ls hl => ?_)
    refine lv_goto (tgt := 46) hx hb dX0_doTurns_58 (by decide) ?_
    exact hrec46 h hG (lv_sub hl [1, 2, 3, 0] rfl)
set_option maxRecDepth 100000 in
set_option maxHeartbeats 4000000 in
theorem w0_doTurns_L46 (C : cx_M p s m args meth c RX0 cX0_doTurns (some .int) 4) (hK : va_K (dC, dI) vwCl [(cI, .int)] s) (hA : ∀ q, s.heap.size ≤ q → A q) {a : Nat → Nat} {q : (Int32 × ms_T)} : ∀ (n : Nat) {v1 : Int32} {v2 : Int32} {v3 : Int32} {S : ms_T}, f0_doTurns_L46 n v1 v2 v3 S = some q → ∀ {H : Heap} {locs : List Loc} {ls : Array Slot}, gd_W (dC, dI) A s (wd_B cI a S) H locs → lv_has ls 4 [(0, .ref (a 0)), (1, .int v1), (2, .int v2), (3, .int v3)] → W p l e RM0_doTurns s m args below meth c H locs 0 0 (MQ below (qi_W (dC, dI) [(cI, .int)] A q.1 (wd_B cI a q.2)) args s 0 0 A) (F0 m 46 ls []) := by
  intro n
  induction n with
  | zero => intro _ _ _ _ h; exact nomatch h
  | succ n ih => intro v1 v2 v3 S h H locs ls hG hl; exact w0_doTurns_b46 C hK hA (fun h => ih h) (show f0_doTurns_b46 (f0_doTurns_L46 n) v1 v2 v3 S = some q from h) hG hl
set_option maxRecDepth 100000 in
set_option maxHeartbeats 4000000 in
theorem w0_doTurns (C : cx_M p s m args meth c RX0 cX0_doTurns (some .int) 4) (hK : va_K (dC, dI) vwCl [(cI, .int)] s) (hA : ∀ q, s.heap.size ≤ q → A q) {a : Nat → Nat} {q : (Int32 × ms_T)} {v1 : Int32} {S : ms_T} (h : f0_doTurns v1 S = some q) {H : Heap} {locs : List Loc} {ls : Array Slot} (hG : gd_W (dC, dI) A s (wd_B cI a S) H locs) (hl : lv_has ls 4 [(0, .ref (a 0)), (1, .int v1)]) : W p l e RM0_doTurns s m args below meth c H locs 0 0 (MQ below (qi_W (dC, dI) [(cI, .int)] A q.1 (wd_B cI a q.2)) args s 0 0 A) (F0 m 0 ls []) := by
  unfold f0_doTurns at h
  obtain ⟨hx, hb, hr, hts, hown, hlocks, hml⟩ := id C
  refine lv_iload_n hx hb dX0_doTurns_0 rfl (lv_at hl 1 rfl) ?_
  refine lv_iconst (v := (1 : Int32)) hx hb dX0_doTurns_1 (by decide) ?_
  refine lv_icmp_lt (tgt := 11) hx hb dX0_doTurns_2 (by decide) (fun hc => ?_) (fun hc => ?_)
  · have h := fo_it h hc
    refine lv_bipush (v := (-2 : Int32)) hx hb dX0_doTurns_11 (by decide) ?_
    obtain rfl := Option.some.inj h
    exact gr_i hx hb hr hlocks hK hG rfl dX0_doTurns_13
  · have h := fo_if h hc
    refine lv_iload_n hx hb dX0_doTurns_5 rfl (lv_at hl 1 rfl) ?_
    refine lv_bipush (v := (99 : Int32)) hx hb dX0_doTurns_6 (by decide) ?_
    refine lv_icmp_le (tgt := 14) hx hb dX0_doTurns_8 (by decide) (fun hc => ?_) (fun hc => ?_)
    · have h := fo_it h hc
      refine lv_aload_n hx hb dX0_doTurns_14 rfl (lv_at hl 0 rfl) ?_
      refine va_get (D := (dC, dI)) (ci := 0) (v := .int (S 12 0)) (C := RX0) (T := TX0) (N := 15) hx hb hts inlX0 hown hK hG.1 0 rfl rfl 9 (by decide) (hts (Cond.fieldLink RX0 52 "DiceRoads$Board" "players" "I") wq_99) (fun _ h9 => h9) rfl dX0_doTurns_15 ?_
      refine lv_if_eq (tgt := 33) hx hb dX0_doTurns_18 (by decide) (fun hc => ?_) (fun hc => ?_)
      · have h := fo_it h hc
        refine lv_bipush (v := (-5 : Int32)) hx hb dX0_doTurns_33 (by decide) ?_
        obtain rfl := Option.some.inj h
        exact gr_i hx hb hr hlocks hK hG rfl dX0_doTurns_35
      · have h := fo_if h hc
        refine lv_aload_n hx hb dX0_doTurns_21 rfl (lv_at hl 0 rfl) ?_
        refine va_get (D := (dC, dI)) (ci := 0) (v := .int (S 12 3)) (C := RX0) (T := TX0) (N := 15) hx hb hts inlX0 hown hK hG.1 0 rfl rfl 12 (by decide) (hts (Cond.fieldLink RX0 62 "DiceRoads$Board" "turns" "I") wq_102) (fun _ h9 => h9) rfl dX0_doTurns_22 ?_
        refine lv_iload_n hx hb dX0_doTurns_25 rfl (lv_at hl 1 rfl) ?_
        refine lv_iadd hx hb dX0_doTurns_26 ?_
        refine lv_sipush (v := (9999 : Int32)) hx hb dX0_doTurns_27 (by decide) ?_
        refine lv_icmp_le (tgt := 36) hx hb dX0_doTurns_30 (by decide) (fun hc => ?_) (fun hc => ?_)
        · have h := fo_it h hc
          refine lv_aload_n hx hb dX0_doTurns_36 rfl (lv_at hl 0 rfl) ?_
          refine va_get (D := (dC, dI)) (ci := 0) (v := .ref (a 19)) (C := RX0) (T := TX0) (N := 15) hx hb hts inlX0 hown hK hG.1 0 rfl rfl 5 (by decide) (hts (Cond.fieldLink RX0 40 "DiceRoads$Board" "tollsPaid" "LDiceRoads$Row;") wq_95) (fun _ h9 => h9) rfl dX0_doTurns_37 ?_
          obtain ⟨q40, hq40, h⟩ := fo_bd_some h
          refine gc_iV (b := a 19) (C := RX6) (As := []) (rest := []) (wc := (wd_R cI (fun k => a (k + 19)) 0 4 (S 8))) (w1 := (wd_R cI (fun k => a (k + 19)) 0 4 (S 8))) (ci := 5) (q0 := 0) ⟨hx, hb, hml, hown, hts⟩ (c6_sum l (a := (fun k => a (k + 19))) (v := 0) (z := 4) hq40) (cwV 0 hts gv_X0_98 rfl rfl rfl hd6_sum ⟨Nat.le_of_ble_eq_true rfl, Nat.le_of_ble_eq_true rfl⟩) hK [0] rfl hA hG [19, 20] rfl rfl rfl rfl rfl rfl hl.1 rfl (Nat.le_of_ble_eq_true rfl) dX0_doTurns_40 ⟨Nat.zero_le _, Nat.zero_le _⟩ (fun H locs hG9 => ?_)
          have hG : gd_W (dC, dI) A s (wd_B cI a S) H locs := hG9
          refine lv_istore_n (lv' := [(2, .int q40), (0, .ref (a 0)), (1, .int v1)]) hx hb dX0_doTurns_43 rfl hl (by decide) rfl (fun ls hl => ?_)
          refine lv_iconst (v := (0 : Int32)) hx hb dX0_doTurns_44 (by decide) ?_
          refine lv_istore_n (lv' := [(3, .int (0 : Int32)), (2, .int q40), (0, .ref (a 0)), (1, .int v1)]) hx hb dX0_doTurns_45 rfl hl (by decide) rfl (fun ls hl => ?_)
          exact w0_doTurns_L46 C hK hA fo_fu h hG (lv_sub hl [2, 3, 1, 0] rfl)
        · have h := fo_if h hc
          refine lv_bipush (v := (-5 : Int32)) hx hb dX0_doTurns_33 (by decide) ?_
          obtain rfl := Option.some.inj h
          exact gr_i hx hb hr hlocks hK hG rfl dX0_doTurns_35
    · have h := fo_if h hc
      refine lv_bipush (v := (-2 : Int32)) hx hb dX0_doTurns_11 (by decide) ?_
      obtain rfl := Option.some.inj h
      exact gr_i hx hb hr hlocks hK hG rfl dX0_doTurns_13
set_option maxRecDepth 100000 in
set_option maxHeartbeats 4000000 in
theorem c0_doTurns (l : Launch) {dC : Nat → ClassId} {dI : Nat → Nat → Nat} {cI : ClassId} {a : Nat → Nat} {v1 : Int32} {S : ms_T} {q : (Int32 × ms_T)} (h : f0_doTurns v1 S = some q) : mi_M l yX0_doTurns wm0_doTurns RM0_doTurns (dC, dI) [(cI, .int)] [.ref (a 0), .int v1] (wd_B cI a S) q.1 (wd_B cI a q.2) := by
  intro sz
  refine Met.ofW (cc := cX0_doTurns) (maxL := 4) (ret := (some .int)) (by decide) rfl ?_
  intro p e s m args below meth c s₁ B hml hv
  obtain ⟨rfl, hsz, hP, hK, hD0⟩ := hv
  subst hsz
  have hl := lv_entry ([.ref (a 0), .int v1] : List Value) (n := 4) (Nat.le_of_ble_eq_true rfl)
  rw [lg_entry_eq]
  generalize (lg_sl ([.ref (a 0), .int v1] : List Value) ++ List.replicate (4 - (lg_sl ([.ref (a 0), .int v1] : List Value)).length) Slot.unset).toArray = ls at hl ⊢
  exact w0_doTurns (a := a) ⟨B.exec, B.bytes, B.returns, fun w hw => atoms_spec (ws := wm0_doTurns) B.pre w (List.mem_cons_of_mem _ hw), findClass_of_methodNamed B.named, B.notSynchronized, hml⟩ hK (fun _ h => Or.inr h) h ⟨hP, hD0.self, va_S.rf⟩ hl
end
/-! ## DiceRoads$Board.hasPlayer(I)Z -/
section
variable {p : Program} {l : Launch} {e : Env} {s : State} {m : MethodId} {args : Array Value} {below : List Frame} {meth : Method} {c : Code} {dC : Nat → ClassId} {dI : Nat → Nat → Nat} {cI : ClassId} {A : Nat → Prop}
set_option maxRecDepth 100000 in
set_option maxHeartbeats 4000000 in
theorem w0_hasPlayer (C : cx_M p s m args meth c RX0 cX0_hasPlayer (some .boolean) 2) (hK : va_K (dC, dI) vwCl [(cI, .int)] s) (hA : ∀ q, s.heap.size ≤ q → A q) {a : Nat → Nat} {q : Int32} {v1 : Int32} {S : ms_T} (h : f0_hasPlayer v1 S = some q) {H : Heap} {locs : List Loc} {ls : Array Slot} (hG : gd_W (dC, dI) A s (wd_B cI a S) H locs) (hl : lv_has ls 2 [(0, .ref (a 0)), (1, .int v1)]) : W p l e RM0_hasPlayer s m args below meth c H locs 0 0 (MQ below (qi_W (dC, dI) [(cI, .int)] A q (wd_B cI a S)) args s 0 0 A) (F0 m 0 ls []) := by
  unfold f0_hasPlayer at h
  obtain ⟨hx, hb, hr, hts, hown, hlocks, hml⟩ := id C
  refine lv_iload_n hx hb dX0_hasPlayer_0 rfl (lv_at hl 1 rfl) ?_
  refine lv_if_lt (tgt := 16) hx hb dX0_hasPlayer_1 (by decide) (fun hc => ?_) (fun hc => ?_)
  · have h := fo_it h hc
    refine lv_iconst (v := (0 : Int32)) hx hb dX0_hasPlayer_16 (by decide) ?_
    exact gr_z hx hb hr hlocks hK hG (Option.some.inj h) rfl dX0_hasPlayer_17
  · have h := fo_if h hc
    refine lv_iload_n hx hb dX0_hasPlayer_4 rfl (lv_at hl 1 rfl) ?_
    refine lv_aload_n hx hb dX0_hasPlayer_5 rfl (lv_at hl 0 rfl) ?_
    refine va_get (D := (dC, dI)) (ci := 0) (v := .int (S 12 0)) (C := RX0) (T := TX0) (N := 15) hx hb hts inlX0 hown hK hG.1 0 rfl rfl 9 (by decide) (hts (Cond.fieldLink RX0 52 "DiceRoads$Board" "players" "I") wq_99) (fun _ h9 => h9) rfl dX0_hasPlayer_6 ?_
    refine lv_icmp_ge (tgt := 16) hx hb dX0_hasPlayer_9 (by decide) (fun hc => ?_) (fun hc => ?_)
    · have h := fo_it h hc
      refine lv_iconst (v := (0 : Int32)) hx hb dX0_hasPlayer_16 (by decide) ?_
      exact gr_z hx hb hr hlocks hK hG (Option.some.inj h) rfl dX0_hasPlayer_17
    · have h := fo_if h hc
      refine lv_iconst (v := (1 : Int32)) hx hb dX0_hasPlayer_12 (by decide) ?_
      refine lv_goto (tgt := 17) hx hb dX0_hasPlayer_13 (by decide) ?_
      exact gr_z hx hb hr hlocks hK hG (Option.some.inj h) rfl dX0_hasPlayer_17
set_option maxRecDepth 100000 in
set_option maxHeartbeats 4000000 in
theorem c0_hasPlayer (l : Launch) {dC : Nat → ClassId} {dI : Nat → Nat → Nat} {cI : ClassId} {a : Nat → Nat} {v1 : Int32} {S : ms_T} {q : Int32} (h : f0_hasPlayer v1 S = some q) : mi_M l yX0_hasPlayer wm0_hasPlayer RM0_hasPlayer (dC, dI) [(cI, .int)] [.ref (a 0), .int v1] (wd_B cI a S) q (wd_B cI a S) := by
  intro sz
  refine Met.ofW (cc := cX0_hasPlayer) (maxL := 2) (ret := (some .boolean)) (by decide) rfl ?_
  intro p e s m args below meth c s₁ B hml hv
  obtain ⟨rfl, hsz, hP, hK, hD0⟩ := hv
  subst hsz
  have hl := lv_entry ([.ref (a 0), .int v1] : List Value) (n := 2) (Nat.le_of_ble_eq_true rfl)
  rw [lg_entry_eq]
  generalize (lg_sl ([.ref (a 0), .int v1] : List Value) ++ List.replicate (2 - (lg_sl ([.ref (a 0), .int v1] : List Value)).length) Slot.unset).toArray = ls at hl ⊢
  exact w0_hasPlayer (a := a) ⟨B.exec, B.bytes, B.returns, fun w hw => atoms_spec (ws := wm0_hasPlayer) B.pre w (List.mem_cons_of_mem _ hw), findClass_of_methodNamed B.named, B.notSynchronized, hml⟩ hK (fun _ h => Or.inr h) h ⟨hP, hD0.self, va_S.rf⟩ hl
end
/-! ## DiceRoads$Board.clearAround(I)I -/
section
variable {p : Program} {l : Launch} {e : Env} {s : State} {m : MethodId} {args : Array Value} {below : List Frame} {meth : Method} {c : Code} {dC : Nat → ClassId} {dI : Nat → Nat → Nat} {cI : ClassId} {A : Nat → Prop}
set_option maxRecDepth 100000 in
set_option maxHeartbeats 4000000 in
theorem w0_clearAround_b14 (C : cx_M p s m args meth c RX0 cX0_clearAround (some .int) 5) (hK : va_K (dC, dI) vwCl [(cI, .int)] s) (hA : ∀ q, s.heap.size ≤ q → A q) {a : Nat → Nat} {q : (Int32 × ms_T)} {rec14 : Int32 → Int32 → Int32 → ms_T → Option (Int32 × ms_T)} (hrec14 : ∀ {v1 : Int32} {v2 : Int32} {v3 : Int32} {S : ms_T} , rec14 v1 v2 v3 S = some q → ∀ {H : Heap} {locs : List Loc} {ls : Array Slot}, gd_W (dC, dI) A s (wd_B cI a S) H locs → lv_has ls 5 [(0, .ref (a 0)), (1, .int v1), (2, .int v2), (3, .int v3)] → W p l e RM0_clearAround s m args below meth c H locs 0 0 (MQ below (qi_W (dC, dI) [(cI, .int)] A q.1 (wd_B cI a q.2)) args s 0 0 A) (F0 m 14 ls [])) {v1 : Int32} {v2 : Int32} {v3 : Int32} {S : ms_T} (h : f0_clearAround_b14 rec14 v1 v2 v3 S = some q) {H : Heap} {locs : List Loc} {ls : Array Slot} (hG : gd_W (dC, dI) A s (wd_B cI a S) H locs) (hl : lv_has ls 5 [(0, .ref (a 0)), (1, .int v1), (2, .int v2), (3, .int v3)]) : W p l e RM0_clearAround s m args below meth c H locs 0 0 (MQ below (qi_W (dC, dI) [(cI, .int)] A q.1 (wd_B cI a q.2)) args s 0 0 A) (F0 m 14 ls []) := by
  unfold f0_clearAround_b14 at h
  obtain ⟨hx, hb, hr, hts, hown, hlocks, hml⟩ := id C
  refine lv_iload_n hx hb dX0_clearAround_14 rfl (lv_at hl 3 rfl) ?_
  refine lv_bipush (v := (16 : Int32)) hx hb dX0_clearAround_15 (by decide) ?_
  refine lv_icmp_ge (tgt := 49) hx hb dX0_clearAround_17 (by decide) (fun hc => ?_) (fun hc => ?_)
  · have h := fo_it h hc
    refine lv_iload_n hx hb dX0_clearAround_49 rfl (lv_at hl 2 rfl) ?_
    obtain rfl := Option.some.inj h
    exact gr_i hx hb hr hlocks hK hG rfl dX0_clearAround_50
  · have h := fo_if h hc
    refine lv_aload_n hx hb dX0_clearAround_20 rfl (lv_at hl 0 rfl) ?_
    refine va_get (D := (dC, dI)) (ci := 0) (v := .ref (a 6)) (C := RX0) (T := TX0) (N := 15) hx hb hts inlX0 hown hK hG.1 0 rfl rfl 1 (by decide) (hts (Cond.fieldLink RX0 21 "DiceRoads$Board" "debts" "LDiceRoads$Debts;") wq_90) (fun _ h9 => h9) rfl dX0_clearAround_21 ?_
    refine lv_iload_n hx hb dX0_clearAround_24 rfl (lv_at hl 1 rfl) ?_
    obtain ⟨q25, hq25, h⟩ := fo_bd_some h
    refine gc_iV (b := a 6) (C := RX1) (As := [.int v1]) (rest := []) (wc := (wd_D cI (fun k => a (k + 6)) (ms_from S 2))) (w1 := (wd_D cI (fun k => a (k + 6)) q25.2)) (ci := 1) (q0 := 0) ⟨hx, hb, hml, hown, hts⟩ (c1_clearRing l (a := (fun k => a (k + 6))) hq25) (cwV 1 hts gv_X0_109 rfl rfl rfl hd1_clearRing ⟨Nat.le_of_ble_eq_true rfl, Nat.le_of_ble_eq_true rfl⟩) hK [0] rfl hA hG [6, 7, 8, 9, 10, 11, 12] rfl rfl rfl rfl rfl rfl hl.1 rfl (Nat.le_of_ble_eq_true rfl) dX0_clearAround_25 ⟨Nat.zero_le _, Nat.zero_le _⟩ (fun H locs hG9 => ?_)
    have hG : gd_W (dC, dI) A s (wd_B cI a (ms_sub S 2 3 q25.2)) H locs := hG9
    refine lv_istore (lv' := [(4, .int q25.1), (0, .ref (a 0)), (1, .int v1), (2, .int v2), (3, .int v3)]) hx hb dX0_clearAround_28 hl (by decide) rfl (fun ls hl => ?_)
    refine lv_iload hx hb dX0_clearAround_30 (lv_at hl 0 rfl) ?_
    refine lv_if_ne (tgt := 38) hx hb dX0_clearAround_32 (by decide) (fun hc => ?_) (fun hc => ?_)
    · have h := fo_if h hc
      refine lv_iload_n hx hb dX0_clearAround_38 rfl (lv_at hl 3 rfl) ?_
      refine lv_iload hx hb dX0_clearAround_39 (lv_at hl 0 rfl) ?_
      refine lv_iadd hx hb dX0_clearAround_41 ?_
      refine lv_istore_n (lv' := [(2, .int (v2 + q25.1)), (4, .int q25.1), (0, .ref (a 0)), (1, .int v1), (3, .int v3)]) hx hb dX0_clearAround_42 rfl hl (by decide) rfl (fun ls hl => ?_)
      refine lv_iinc (v := (v3 + (1 : Int32))) (lv' := [(3, .int (v3 + (1 : Int32))), (2, .int (v2 + q25.1)), (4, .int q25.1), (0, .ref (a 0)), (1, .int v1)]) hx hb dX0_clearAround_43 hl (k := 4) rfl rfl (by decide) rfl (fun ls hl => ?_)
      refine lv_goto (tgt := 14) hx hb dX0_clearAround_46 (by decide) ?_
      exact hrec14 h hG (lv_sub hl [3, 4, 1, 0] rfl)
    · have h := fo_it h hc
      refine lv_goto (tgt := 49) hx hb dX0_clearAround_35 (by decide) ?_
      refine lv_iload_n hx hb dX0_clearAround_49 rfl (lv_at hl 3 rfl) ?_
      obtain rfl := Option.some.inj h
      exact gr_i hx hb hr hlocks hK hG rfl dX0_clearAround_50
set_option maxRecDepth 100000 in
set_option maxHeartbeats 4000000 in
theorem w0_clearAround_L14 (C : cx_M p s m args meth c RX0 cX0_clearAround (some .int) 5) (hK : va_K (dC, dI) vwCl [(cI, .int)] s) (hA : ∀ q, s.heap.size ≤ q → A q) {a : Nat → Nat} {q : (Int32 × ms_T)} : ∀ (n : Nat) {v1 : Int32} {v2 : Int32} {v3 : Int32} {S : ms_T}, f0_clearAround_L14 n v1 v2 v3 S = some q → ∀ {H : Heap} {locs : List Loc} {ls : Array Slot}, gd_W (dC, dI) A s (wd_B cI a S) H locs → lv_has ls 5 [(0, .ref (a 0)), (1, .int v1), (2, .int v2), (3, .int v3)] → W p l e RM0_clearAround s m args below meth c H locs 0 0 (MQ below (qi_W (dC, dI) [(cI, .int)] A q.1 (wd_B cI a q.2)) args s 0 0 A) (F0 m 14 ls []) := by
  intro n
  induction n with
  | zero => intro _ _ _ _ h; exact nomatch h
  | succ n ih => intro v1 v2 v3 S h H locs ls hG hl; exact w0_clearAround_b14 C hK hA (fun h => ih h) (show f0_clearAround_b14 (f0_clearAround_L14 n) v1 v2 v3 S = some q from h) hG hl
set_option maxRecDepth 100000 in
set_option maxHeartbeats 4000000 in
theorem w0_clearAround (C : cx_M p s m args meth c RX0 cX0_clearAround (some .int) 5) (hK : va_K (dC, dI) vwCl [(cI, .int)] s) (hA : ∀ q, s.heap.size ≤ q → A q) {a : Nat → Nat} {q : (Int32 × ms_T)} {v1 : Int32} {S : ms_T} (h : f0_clearAround v1 S = some q) {H : Heap} {locs : List Loc} {ls : Array Slot} (hG : gd_W (dC, dI) A s (wd_B cI a S) H locs) (hl : lv_has ls 5 [(0, .ref (a 0)), (1, .int v1)]) : W p l e RM0_clearAround s m args below meth c H locs 0 0 (MQ below (qi_W (dC, dI) [(cI, .int)] A q.1 (wd_B cI a q.2)) args s 0 0 A) (F0 m 0 ls []) := by
  unfold f0_clearAround at h
  obtain ⟨hx, hb, hr, hts, hown, hlocks, hml⟩ := id C
  refine lv_aload_n hx hb dX0_clearAround_0 rfl (lv_at hl 0 rfl) ?_
  refine lv_iload_n hx hb dX0_clearAround_1 rfl (lv_at hl 1 rfl) ?_
  obtain ⟨q2, hq2, h⟩ := fo_bd_some h
  refine gs_iV (b := a 0) (C := RX0) (As := [.int v1]) (rest := []) (w1 := (wd_B cI a S)) (ci := 0) (q0 := 0) ⟨hx, hb, hml, hown, hts⟩ (c0_hasPlayer l (a := a) hq2) (cwV 1 hts gv_X0_105 rfl rfl rfl hd0_hasPlayer ⟨Nat.le_of_ble_eq_true rfl, Nat.le_of_ble_eq_true rfl⟩) hK hA hG rfl rfl rfl hl.1 rfl (Nat.le_of_ble_eq_true rfl) dX0_clearAround_2 ⟨Nat.zero_le _, Nat.zero_le _⟩ (fun H locs hG9 => ?_)
  have hG : gd_W (dC, dI) A s (wd_B cI a S) H locs := hG9
  refine lv_if_ne (tgt := 10) hx hb dX0_clearAround_5 (by decide) (fun hc => ?_) (fun hc => ?_)
  · have h := fo_if h hc
    refine lv_iconst (v := (0 : Int32)) hx hb dX0_clearAround_10 (by decide) ?_
    refine lv_istore_n (lv' := [(2, .int (0 : Int32)), (0, .ref (a 0)), (1, .int v1)]) hx hb dX0_clearAround_11 rfl hl (by decide) rfl (fun ls hl => ?_)
    refine lv_iconst (v := (0 : Int32)) hx hb dX0_clearAround_12 (by decide) ?_
    refine lv_istore_n (lv' := [(3, .int (0 : Int32)), (2, .int (0 : Int32)), (0, .ref (a 0)), (1, .int v1)]) hx hb dX0_clearAround_13 rfl hl (by decide) rfl (fun ls hl => ?_)
    exact w0_clearAround_L14 C hK hA fo_fu h hG (lv_sub hl [2, 3, 1, 0] rfl)
  · have h := fo_it h hc
    refine lv_iconst (v := (-1 : Int32)) hx hb dX0_clearAround_8 (by decide) ?_
    obtain rfl := Option.some.inj h
    exact gr_i hx hb hr hlocks hK hG rfl dX0_clearAround_9
set_option maxRecDepth 100000 in
set_option maxHeartbeats 4000000 in
theorem c0_clearAround (l : Launch) {dC : Nat → ClassId} {dI : Nat → Nat → Nat} {cI : ClassId} {a : Nat → Nat} {v1 : Int32} {S : ms_T} {q : (Int32 × ms_T)} (h : f0_clearAround v1 S = some q) : mi_M l yX0_clearAround wm0_clearAround RM0_clearAround (dC, dI) [(cI, .int)] [.ref (a 0), .int v1] (wd_B cI a S) q.1 (wd_B cI a q.2) := by
  intro sz
  refine Met.ofW (cc := cX0_clearAround) (maxL := 5) (ret := (some .int)) (by decide) rfl ?_
  intro p e s m args below meth c s₁ B hml hv
  obtain ⟨rfl, hsz, hP, hK, hD0⟩ := hv
  subst hsz
  have hl := lv_entry ([.ref (a 0), .int v1] : List Value) (n := 5) (Nat.le_of_ble_eq_true rfl)
  rw [lg_entry_eq]
  generalize (lg_sl ([.ref (a 0), .int v1] : List Value) ++ List.replicate (5 - (lg_sl ([.ref (a 0), .int v1] : List Value)).length) Slot.unset).toArray = ls at hl ⊢
  exact w0_clearAround (a := a) ⟨B.exec, B.bytes, B.returns, fun w hw => atoms_spec (ws := wm0_clearAround) B.pre w (List.mem_cons_of_mem _ hw), findClass_of_methodNamed B.named, B.notSynchronized, hml⟩ hK (fun _ h => Or.inr h) h ⟨hP, hD0.self, va_S.rf⟩ hl
end
/-! ## DiceRoads$Board.takeTurns(I)V -/
section
variable {p : Program} {l : Launch} {e : Env} {s : State} {m : MethodId} {args : Array Value} {below : List Frame} {meth : Method} {c : Code} {dC : Nat → ClassId} {dI : Nat → Nat → Nat} {cI : ClassId} {A : Nat → Prop}
set_option maxRecDepth 100000 in
set_option maxHeartbeats 4000000 in
theorem w0_takeTurns_b2 (C : cx_M p s m args meth c RX0 cX0_takeTurns none 3) (hK : va_K (dC, dI) vwCl [(cI, .int)] s) (hA : ∀ q, s.heap.size ≤ q → A q) {a : Nat → Nat} {q : ms_T} {rec2 : Int32 → Int32 → ms_T → Option ms_T} (hrec2 : ∀ {v1 : Int32} {v2 : Int32} {S : ms_T} , rec2 v1 v2 S = some q → ∀ {H : Heap} {locs : List Loc} {ls : Array Slot}, gd_W (dC, dI) A s (wd_B cI a S) H locs → lv_has ls 3 [(0, .ref (a 0)), (1, .int v1), (2, .int v2)] → W p l e RM0_takeTurns s m args below meth c H locs 0 0 (MQ below (qv_W (dC, dI) [(cI, .int)] A (wd_B cI a q)) args s 0 0 A) (F0 m 2 ls [])) {v1 : Int32} {v2 : Int32} {S : ms_T} (h : f0_takeTurns_b2 rec2 v1 v2 S = some q) {H : Heap} {locs : List Loc} {ls : Array Slot} (hG : gd_W (dC, dI) A s (wd_B cI a S) H locs) (hl : lv_has ls 3 [(0, .ref (a 0)), (1, .int v1), (2, .int v2)]) : W p l e RM0_takeTurns s m args below meth c H locs 0 0 (MQ below (qv_W (dC, dI) [(cI, .int)] A (wd_B cI a q)) args s 0 0 A) (F0 m 2 ls []) := by
  unfold f0_takeTurns_b2 at h
  obtain ⟨hx, hb, hr, hts, hown, hlocks, hml⟩ := id C
  refine lv_iload_n hx hb dX0_takeTurns_2 rfl (lv_at hl 2 rfl) ?_
  refine lv_iload_n hx hb dX0_takeTurns_3 rfl (lv_at hl 1 rfl) ?_
  refine lv_icmp_ge (tgt := 17) hx hb dX0_takeTurns_4 (by decide) (fun hc => ?_) (fun hc => ?_)
  · have h := fo_it h hc
    obtain rfl := Option.some.inj h
    exact gr_v hx hb hr hlocks hK hG dX0_takeTurns_17
  · have h := fo_if h hc
    refine lv_aload_n hx hb dX0_takeTurns_7 rfl (lv_at hl 0 rfl) ?_
    obtain ⟨q8, hq8, h⟩ := fo_bd_some h
    refine gs_vV (b := a 0) (C := RX0) (As := []) (rest := []) (w1 := (wd_B cI a q8)) (ci := 0) (q0 := 0) ⟨hx, hb, hml, hown, hts⟩ (c0_takeTurn l (a := a) hq8) (cwV 0 hts gv_X0_102 rfl rfl rfl hd0_takeTurn ⟨Nat.le_of_ble_eq_true rfl, Nat.le_of_ble_eq_true rfl⟩) hK hA hG rfl rfl rfl hl.1 rfl (Nat.le_of_ble_eq_true rfl) dX0_takeTurns_8 ⟨Nat.zero_le _, Nat.zero_le _⟩ (fun H locs hG9 => ?_)
    have hG : gd_W (dC, dI) A s (wd_B cI a q8) H locs := hG9
    refine lv_iinc (v := (v2 + (1 : Int32))) (lv' := [(2, .int (v2 + (1 : Int32))), (0, .ref (a 0)), (1, .int v1)]) hx hb dX0_takeTurns_11 hl (k := 2) rfl rfl (by decide) rfl (fun ls hl => ?_)
    refine lv_goto (tgt := 2) hx hb dX0_takeTurns_14 (by decide) ?_
    exact hrec2 h hG (lv_sub hl [1, 2, 0] rfl)
set_option maxRecDepth 100000 in
set_option maxHeartbeats 4000000 in
theorem w0_takeTurns_L2 (C : cx_M p s m args meth c RX0 cX0_takeTurns none 3) (hK : va_K (dC, dI) vwCl [(cI, .int)] s) (hA : ∀ q, s.heap.size ≤ q → A q) {a : Nat → Nat} {q : ms_T} : ∀ (n : Nat) {v1 : Int32} {v2 : Int32} {S : ms_T}, f0_takeTurns_L2 n v1 v2 S = some q → ∀ {H : Heap} {locs : List Loc} {ls : Array Slot}, gd_W (dC, dI) A s (wd_B cI a S) H locs → lv_has ls 3 [(0, .ref (a 0)), (1, .int v1), (2, .int v2)] → W p l e RM0_takeTurns s m args below meth c H locs 0 0 (MQ below (qv_W (dC, dI) [(cI, .int)] A (wd_B cI a q)) args s 0 0 A) (F0 m 2 ls []) := by
  intro n
  induction n with
  | zero => intro _ _ _ h; exact nomatch h
  | succ n ih => intro v1 v2 S h H locs ls hG hl; exact w0_takeTurns_b2 C hK hA (fun h => ih h) (show f0_takeTurns_b2 (f0_takeTurns_L2 n) v1 v2 S = some q from h) hG hl
set_option maxRecDepth 100000 in
set_option maxHeartbeats 4000000 in
theorem w0_takeTurns (C : cx_M p s m args meth c RX0 cX0_takeTurns none 3) (hK : va_K (dC, dI) vwCl [(cI, .int)] s) (hA : ∀ q, s.heap.size ≤ q → A q) {a : Nat → Nat} {q : ms_T} {v1 : Int32} {S : ms_T} (h : f0_takeTurns v1 S = some q) {H : Heap} {locs : List Loc} {ls : Array Slot} (hG : gd_W (dC, dI) A s (wd_B cI a S) H locs) (hl : lv_has ls 3 [(0, .ref (a 0)), (1, .int v1)]) : W p l e RM0_takeTurns s m args below meth c H locs 0 0 (MQ below (qv_W (dC, dI) [(cI, .int)] A (wd_B cI a q)) args s 0 0 A) (F0 m 0 ls []) := by
  unfold f0_takeTurns at h
  obtain ⟨hx, hb, hr, hts, hown, hlocks, hml⟩ := id C
  refine lv_iconst (v := (0 : Int32)) hx hb dX0_takeTurns_0 (by decide) ?_
  refine lv_istore_n (lv' := [(2, .int (0 : Int32)), (0, .ref (a 0)), (1, .int v1)]) hx hb dX0_takeTurns_1 rfl hl (by decide) rfl (fun ls hl => ?_)
  exact w0_takeTurns_L2 C hK hA fo_fu h hG (lv_sub hl [1, 2, 0] rfl)
set_option maxRecDepth 100000 in
set_option maxHeartbeats 4000000 in
theorem c0_takeTurns (l : Launch) {dC : Nat → ClassId} {dI : Nat → Nat → Nat} {cI : ClassId} {a : Nat → Nat} {v1 : Int32} {S : ms_T} {q : ms_T} (h : f0_takeTurns v1 S = some q) : mv_M l yX0_takeTurns wm0_takeTurns RM0_takeTurns (dC, dI) [(cI, .int)] [.ref (a 0), .int v1] (wd_B cI a S) (wd_B cI a q) := by
  intro sz
  refine Met.ofW (cc := cX0_takeTurns) (maxL := 3) (ret := none) (by decide) rfl ?_
  intro p e s m args below meth c s₁ B hml hv
  obtain ⟨rfl, hsz, hP, hK, hD0⟩ := hv
  subst hsz
  have hl := lv_entry ([.ref (a 0), .int v1] : List Value) (n := 3) (Nat.le_of_ble_eq_true rfl)
  rw [lg_entry_eq]
  generalize (lg_sl ([.ref (a 0), .int v1] : List Value) ++ List.replicate (3 - (lg_sl ([.ref (a 0), .int v1] : List Value)).length) Slot.unset).toArray = ls at hl ⊢
  exact w0_takeTurns (a := a) ⟨B.exec, B.bytes, B.returns, fun w hw => atoms_spec (ws := wm0_takeTurns) B.pre w (List.mem_cons_of_mem _ hw), findClass_of_methodNamed B.named, B.notSynchronized, hml⟩ hK (fun _ h => Or.inr h) h ⟨hP, hD0.self, va_S.rf⟩ hl
end
/-! ## DiceRoads$Board.purseOf(I)I -/
section
variable {p : Program} {l : Launch} {e : Env} {s : State} {m : MethodId} {args : Array Value} {below : List Frame} {meth : Method} {c : Code} {dC : Nat → ClassId} {dI : Nat → Nat → Nat} {cI : ClassId} {A : Nat → Prop}
set_option maxRecDepth 100000 in
set_option maxHeartbeats 4000000 in
theorem w0_purseOf (C : cx_M p s m args meth c RX0 cX0_purseOf (some .int) 2) (hK : va_K (dC, dI) vwCl [(cI, .int)] s) (hA : ∀ q, s.heap.size ≤ q → A q) {a : Nat → Nat} {q : Int32} {v1 : Int32} {S : ms_T} (h : f0_purseOf v1 S = some q) {H : Heap} {locs : List Loc} {ls : Array Slot} (hG : gd_W (dC, dI) A s (wd_B cI a S) H locs) (hl : lv_has ls 2 [(0, .ref (a 0)), (1, .int v1)]) : W p l e RM0_purseOf s m args below meth c H locs 0 0 (MQ below (qi_W (dC, dI) [(cI, .int)] A q (wd_B cI a S)) args s 0 0 A) (F0 m 0 ls []) := by
  unfold f0_purseOf at h
  obtain ⟨hx, hb, hr, hts, hown, hlocks, hml⟩ := id C
  refine lv_aload_n hx hb dX0_purseOf_0 rfl (lv_at hl 0 rfl) ?_
  refine va_get (D := (dC, dI)) (ci := 0) (v := .ref (a 15)) (C := RX0) (T := TX0) (N := 15) hx hb hts inlX0 hown hK hG.1 0 rfl rfl 3 (by decide) (hts (Cond.fieldLink RX0 34 "DiceRoads$Board" "purses" "LDiceRoads$Row;") wq_93) (fun _ h9 => h9) rfl dX0_purseOf_1 ?_
  refine lv_iload_n hx hb dX0_purseOf_4 rfl (lv_at hl 1 rfl) ?_
  obtain ⟨q5, hq5, h⟩ := fo_bd_some h
  refine gc_iV (b := a 15) (C := RX6) (As := [.int v1]) (rest := []) (wc := (wd_R cI (fun k => a (k + 15)) 0 4 (S 6))) (w1 := (wd_R cI (fun k => a (k + 15)) 0 4 (S 6))) (ci := 5) (q0 := 0) ⟨hx, hb, hml, hown, hts⟩ (c6_at l (a := (fun k => a (k + 15))) (v := 0) (z := 4) hq5) (cwV 1 hts gv_X0_94 rfl rfl rfl hd6_at ⟨Nat.le_of_ble_eq_true rfl, Nat.le_of_ble_eq_true rfl⟩) hK [0] rfl hA hG [15, 16] rfl rfl rfl rfl rfl rfl hl.1 rfl (Nat.le_of_ble_eq_true rfl) dX0_purseOf_5 ⟨Nat.zero_le _, Nat.zero_le _⟩ (fun H locs hG9 => ?_)
  have hG : gd_W (dC, dI) A s (wd_B cI a S) H locs := hG9
  exact gr_i hx hb hr hlocks hK hG (Option.some.inj h) dX0_purseOf_8
set_option maxRecDepth 100000 in
set_option maxHeartbeats 4000000 in
theorem c0_purseOf (l : Launch) {dC : Nat → ClassId} {dI : Nat → Nat → Nat} {cI : ClassId} {a : Nat → Nat} {v1 : Int32} {S : ms_T} {q : Int32} (h : f0_purseOf v1 S = some q) : mi_M l yX0_purseOf wm0_purseOf RM0_purseOf (dC, dI) [(cI, .int)] [.ref (a 0), .int v1] (wd_B cI a S) q (wd_B cI a S) := by
  intro sz
  refine Met.ofW (cc := cX0_purseOf) (maxL := 2) (ret := (some .int)) (by decide) rfl ?_
  intro p e s m args below meth c s₁ B hml hv
  obtain ⟨rfl, hsz, hP, hK, hD0⟩ := hv
  subst hsz
  have hl := lv_entry ([.ref (a 0), .int v1] : List Value) (n := 2) (Nat.le_of_ble_eq_true rfl)
  rw [lg_entry_eq]
  generalize (lg_sl ([.ref (a 0), .int v1] : List Value) ++ List.replicate (2 - (lg_sl ([.ref (a 0), .int v1] : List Value)).length) Slot.unset).toArray = ls at hl ⊢
  exact w0_purseOf (a := a) ⟨B.exec, B.bytes, B.returns, fun w hw => atoms_spec (ws := wm0_purseOf) B.pre w (List.mem_cons_of_mem _ hw), findClass_of_methodNamed B.named, B.notSynchronized, hml⟩ hK (fun _ h => Or.inr h) h ⟨hP, hD0.self, va_S.rf⟩ hl
end
/-! ## DiceRoads$Board.wealthOf(I)I -/
section
variable {p : Program} {l : Launch} {e : Env} {s : State} {m : MethodId} {args : Array Value} {below : List Frame} {meth : Method} {c : Code} {dC : Nat → ClassId} {dI : Nat → Nat → Nat} {cI : ClassId} {A : Nat → Prop}
set_option maxRecDepth 100000 in
set_option maxHeartbeats 4000000 in
theorem w0_wealthOf (C : cx_M p s m args meth c RX0 cX0_wealthOf (some .int) 2) (hK : va_K (dC, dI) vwCl [(cI, .int)] s) (hA : ∀ q, s.heap.size ≤ q → A q) {a : Nat → Nat} {q : Int32} {v1 : Int32} {S : ms_T} (h : f0_wealthOf v1 S = some q) {H : Heap} {locs : List Loc} {ls : Array Slot} (hG : gd_W (dC, dI) A s (wd_B cI a S) H locs) (hl : lv_has ls 2 [(0, .ref (a 0)), (1, .int v1)]) : W p l e RM0_wealthOf s m args below meth c H locs 0 0 (MQ below (qi_W (dC, dI) [(cI, .int)] A q (wd_B cI a S)) args s 0 0 A) (F0 m 0 ls []) := by
  unfold f0_wealthOf at h
  obtain ⟨hx, hb, hr, hts, hown, hlocks, hml⟩ := id C
  refine lv_aload_n hx hb dX0_wealthOf_0 rfl (lv_at hl 0 rfl) ?_
  refine va_get (D := (dC, dI)) (ci := 0) (v := .ref (a 15)) (C := RX0) (T := TX0) (N := 15) hx hb hts inlX0 hown hK hG.1 0 rfl rfl 3 (by decide) (hts (Cond.fieldLink RX0 34 "DiceRoads$Board" "purses" "LDiceRoads$Row;") wq_93) (fun _ h9 => h9) rfl dX0_wealthOf_1 ?_
  refine lv_iload_n hx hb dX0_wealthOf_4 rfl (lv_at hl 1 rfl) ?_
  obtain ⟨q5, hq5, h⟩ := fo_bd_some h
  refine gc_iV (b := a 15) (C := RX6) (As := [.int v1]) (rest := []) (wc := (wd_R cI (fun k => a (k + 15)) 0 4 (S 6))) (w1 := (wd_R cI (fun k => a (k + 15)) 0 4 (S 6))) (ci := 5) (q0 := 0) ⟨hx, hb, hml, hown, hts⟩ (c6_at l (a := (fun k => a (k + 15))) (v := 0) (z := 4) hq5) (cwV 1 hts gv_X0_94 rfl rfl rfl hd6_at ⟨Nat.le_of_ble_eq_true rfl, Nat.le_of_ble_eq_true rfl⟩) hK [0] rfl hA hG [15, 16] rfl rfl rfl rfl rfl rfl hl.1 rfl (Nat.le_of_ble_eq_true rfl) dX0_wealthOf_5 ⟨Nat.zero_le _, Nat.zero_le _⟩ (fun H locs hG9 => ?_)
  have hG : gd_W (dC, dI) A s (wd_B cI a S) H locs := hG9
  refine lv_aload_n hx hb dX0_wealthOf_8 rfl (lv_at hl 0 rfl) ?_
  refine va_get (D := (dC, dI)) (ci := 0) (v := .ref (a 6)) (C := RX0) (T := TX0) (N := 15) hx hb hts inlX0 hown hK hG.1 0 rfl rfl 1 (by decide) (hts (Cond.fieldLink RX0 21 "DiceRoads$Board" "debts" "LDiceRoads$Debts;") wq_90) (fun _ h9 => h9) rfl dX0_wealthOf_9 ?_
  refine lv_iload_n hx hb dX0_wealthOf_12 rfl (lv_at hl 1 rfl) ?_
  obtain ⟨q13, hq13, h⟩ := fo_bd_some h
  refine gc_iV (b := a 6) (C := RX1) (As := [.int v1]) (rest := [.int q5]) (wc := (wd_D cI (fun k => a (k + 6)) (ms_from S 2))) (w1 := (wd_D cI (fun k => a (k + 6)) (ms_from S 2))) (ci := 1) (q0 := 0) ⟨hx, hb, hml, hown, hts⟩ (c1_owedTo l (a := (fun k => a (k + 6))) hq13) (cwV 1 hts gv_X0_189 rfl rfl rfl hd1_owedTo ⟨Nat.le_of_ble_eq_true rfl, Nat.le_of_ble_eq_true rfl⟩) hK [0] rfl hA hG [6, 7, 8, 9, 10, 11, 12] rfl rfl rfl rfl rfl rfl hl.1 rfl (Nat.le_of_ble_eq_true rfl) dX0_wealthOf_13 ⟨Nat.zero_le _, Nat.zero_le _⟩ (fun H locs hG9 => ?_)
  have hG : gd_W (dC, dI) A s (wd_B cI a S) H locs := hG9
  refine lv_iadd hx hb dX0_wealthOf_16 ?_
  refine lv_aload_n hx hb dX0_wealthOf_17 rfl (lv_at hl 0 rfl) ?_
  refine va_get (D := (dC, dI)) (ci := 0) (v := .ref (a 6)) (C := RX0) (T := TX0) (N := 15) hx hb hts inlX0 hown hK hG.1 0 rfl rfl 1 (by decide) (hts (Cond.fieldLink RX0 21 "DiceRoads$Board" "debts" "LDiceRoads$Debts;") wq_90) (fun _ h9 => h9) rfl dX0_wealthOf_18 ?_
  refine lv_iload_n hx hb dX0_wealthOf_21 rfl (lv_at hl 1 rfl) ?_
  obtain ⟨q22, hq22, h⟩ := fo_bd_some h
  refine gc_iV (b := a 6) (C := RX1) (As := [.int v1]) (rest := [.int (q5 + q13)]) (wc := (wd_D cI (fun k => a (k + 6)) (ms_from S 2))) (w1 := (wd_D cI (fun k => a (k + 6)) (ms_from S 2))) (ci := 1) (q0 := 0) ⟨hx, hb, hml, hown, hts⟩ (c1_owedBy l (a := (fun k => a (k + 6))) hq22) (cwV 1 hts gv_X0_192 rfl rfl rfl hd1_owedBy ⟨Nat.le_of_ble_eq_true rfl, Nat.le_of_ble_eq_true rfl⟩) hK [0] rfl hA hG [6, 7, 8, 9, 10, 11, 12] rfl rfl rfl rfl rfl rfl hl.1 rfl (Nat.le_of_ble_eq_true rfl) dX0_wealthOf_22 ⟨Nat.zero_le _, Nat.zero_le _⟩ (fun H locs hG9 => ?_)
  have hG : gd_W (dC, dI) A s (wd_B cI a S) H locs := hG9
  refine lv_isub hx hb dX0_wealthOf_25 ?_
  exact gr_i hx hb hr hlocks hK hG (Option.some.inj h) dX0_wealthOf_26
set_option maxRecDepth 100000 in
set_option maxHeartbeats 4000000 in
theorem c0_wealthOf (l : Launch) {dC : Nat → ClassId} {dI : Nat → Nat → Nat} {cI : ClassId} {a : Nat → Nat} {v1 : Int32} {S : ms_T} {q : Int32} (h : f0_wealthOf v1 S = some q) : mi_M l yX0_wealthOf wm0_wealthOf RM0_wealthOf (dC, dI) [(cI, .int)] [.ref (a 0), .int v1] (wd_B cI a S) q (wd_B cI a S) := by
  intro sz
  refine Met.ofW (cc := cX0_wealthOf) (maxL := 2) (ret := (some .int)) (by decide) rfl ?_
  intro p e s m args below meth c s₁ B hml hv
  obtain ⟨rfl, hsz, hP, hK, hD0⟩ := hv
  subst hsz
  have hl := lv_entry ([.ref (a 0), .int v1] : List Value) (n := 2) (Nat.le_of_ble_eq_true rfl)
  rw [lg_entry_eq]
  generalize (lg_sl ([.ref (a 0), .int v1] : List Value) ++ List.replicate (2 - (lg_sl ([.ref (a 0), .int v1] : List Value)).length) Slot.unset).toArray = ls at hl ⊢
  exact w0_wealthOf (a := a) ⟨B.exec, B.bytes, B.returns, fun w hw => atoms_spec (ws := wm0_wealthOf) B.pre w (List.mem_cons_of_mem _ hw), findClass_of_methodNamed B.named, B.notSynchronized, hml⟩ hK (fun _ h => Or.inr h) h ⟨hP, hD0.self, va_S.rf⟩ hl
end
