/-! ## DiceRoads.changed(I)I -/
section
variable {p : Program} {l : Launch} {e : Env} {s : State} {m : MethodId} {args : Array Value} {below : List Frame} {meth : Method} {c : Code} {dC : Nat → ClassId} {dI : Nat → Nat → Nat} {cI cB : ClassId} {A : Nat → Prop}
set_option maxRecDepth 100000 in
set_option maxHeartbeats 4000000 in
theorem w7_changed (C : cx_M p s m args meth c RX7 cX7_changed (some .int) 2) (hK : va_K (dC, dI) vwCl [(cI, .int), (cB, .object "DiceRoads$Board")] s) (hA : ∀ q, s.heap.size ≤ q → A q) {b : Nat → Nat → Nat} {q : (Int32 × xs_T)} {v1 : Int32} {S : xs_T} (h : f7_changed v1 S = some q) {H : Heap} {locs : List Loc} {ls : Array Slot} (hG : gd_W (dC, dI) A s (gX cI cB b S).flatten H locs) (hl : lv_has ls 2 [(0, .ref (b 0 0)), (1, .int v1)]) : W p l e RM7_changed s m args below meth c H locs 0 0 (MQ below (qi_W (dC, dI) [(cI, .int), (cB, .object "DiceRoads$Board")] A q.1 (gX cI cB b q.2).flatten) args s 0 0 A) (F0 m 0 ls []) := by
  unfold f7_changed at h
  obtain ⟨hx, hb, hr, hts, hown, hlocks, hml⟩ := id C
  refine lv_iload_n hx hb dX7_changed_0 rfl (lv_at hl 1 rfl) ?_
  refine lv_if_lt (tgt := 11) hx hb dX7_changed_1 (by decide) (fun hc => ?_) (fun hc => ?_)
  · have h := fo_it h hc
    refine lv_iload_n hx hb dX7_changed_11 rfl (lv_at hl 1 rfl) ?_
    obtain rfl := Option.some.inj h
    exact gr_i hx hb hr hlocks hK hG rfl dX7_changed_12
  · have h := fo_if h hc
    refine lv_aload_n hx hb dX7_changed_4 rfl (lv_at hl 0 rfl) ?_
    refine va_get (D := (dC, dI)) (ci := 6) (v := .ref (b 2 0)) (C := RX7) (T := TX7) (N := 6) hx hb hts inlX7 hown hK hG.1 0 rfl rfl 2 (by decide) (hts (Cond.fieldLink RX7 22 "DiceRoads" "history" "LDiceRoads$History;") wr_175) (fun _ h9 => h9) rfl dX7_changed_5 ?_
    obtain ⟨q8, hq8, h⟩ := fo_bd_some h
    refine gq_vV (gs := gX cI cB b S) (gs' := gX cI cB b (xs_set S 2 q8)) (As := []) (rest := []) (wc := (wd_H cB (b 2) (fun k => b (7 + k) 0) (S 2))) (w1 := (wd_H cB (b 2) (fun k => b (7 + k) 0) q8)) (b := b 2 0) (C := RX2) (ci := 2) (q0 := 0) ⟨hx, hb, hml, hown, hts⟩ (c2_keepStaged l (cI := cI) (a := b 2) (yb := fun k => b (7 + k) 0) hq8) (cwV 0 hts gv_X7_66 rfl rfl rfl hd2_keepStaged ⟨Nat.le_of_ble_eq_true rfl, Nat.le_of_ble_eq_true rfl⟩) hK [1] rfl hA hG [2] [0, 1, 3, 4, 5, 6, 7, 8, 9, 10, 11, 12, 13, 14, 15] pm_0 pm_0 rfl rfl rfl rfl rfl rfl hl.1 rfl (Nat.le_of_ble_eq_true rfl) dX7_changed_8 ⟨Nat.zero_le _, Nat.zero_le _⟩ (fun H locs hG9 => ?_)
    have hG : gd_W (dC, dI) A s (gX cI cB b (xs_set S 2 q8)).flatten H locs := hG9
    refine lv_iload_n hx hb dX7_changed_11 rfl (lv_at hl 1 rfl) ?_
    obtain rfl := Option.some.inj h
    exact gr_i hx hb hr hlocks hK hG rfl dX7_changed_12
set_option maxRecDepth 100000 in
set_option maxHeartbeats 4000000 in
theorem c7_changed (l : Launch) {dC : Nat → ClassId} {dI : Nat → Nat → Nat} {cI : ClassId} {cB : ClassId} {b : Nat → Nat → Nat} {v1 : Int32} {S : xs_T} {q : (Int32 × xs_T)} (h : f7_changed v1 S = some q) : mi_M l yX7_changed wm7_changed RM7_changed (dC, dI) [(cI, .int), (cB, .object "DiceRoads$Board")] [.ref (b 0 0), .int v1] (gX cI cB b S).flatten q.1 (gX cI cB b q.2).flatten := by
  intro sz
  refine Met.ofW (cc := cX7_changed) (maxL := 2) (ret := (some .int)) (by decide) rfl ?_
  intro p e s m args below meth c s₁ B hml hv
  obtain ⟨rfl, hsz, hP, hK, hD0⟩ := hv
  subst hsz
  have hl := lv_entry ([.ref (b 0 0), .int v1] : List Value) (n := 2) (Nat.le_of_ble_eq_true rfl)
  rw [lg_entry_eq]
  generalize (lg_sl ([.ref (b 0 0), .int v1] : List Value) ++ List.replicate (2 - (lg_sl ([.ref (b 0 0), .int v1] : List Value)).length) Slot.unset).toArray = ls at hl ⊢
  exact w7_changed (b := b) ⟨B.exec, B.bytes, B.returns, fun w hw => atoms_spec (ws := wm7_changed) B.pre w (List.mem_cons_of_mem _ hw), findClass_of_methodNamed B.named, B.notSynchronized, hml⟩ hK (fun _ h => Or.inr h) h ⟨hP, hD0.self, va_S.rf⟩ hl
end
/-! ## DiceRoads.set(II)I -/
section
variable {p : Program} {l : Launch} {e : Env} {s : State} {m : MethodId} {args : Array Value} {below : List Frame} {meth : Method} {c : Code} {dC : Nat → ClassId} {dI : Nat → Nat → Nat} {cI cB : ClassId} {A : Nat → Prop}
set_option maxRecDepth 100000 in
set_option maxHeartbeats 4000000 in
theorem w7_set (C : cx_M p s m args meth c RX7 cX7_set (some .int) 3) (hK : va_K (dC, dI) vwCl [(cI, .int), (cB, .object "DiceRoads$Board")] s) (hA : ∀ q, s.heap.size ≤ q → A q) {t1 t2 t3 : Nat} (hF : sn_W t1 t2 t3 A s s.heap) {b : Nat → Nat → Nat} {q : (Int32 × xs_T)} {v1 : Int32} {v2 : Int32} {S : xs_T} (h : f7_set v1 v2 S = some q) {H : Heap} {locs : List Loc} {ls : Array Slot} (hG : gd_W (dC, dI) A s (gX cI cB b S).flatten H locs) (hl : lv_has ls 3 [(0, .ref (b 0 0)), (1, .int v1), (2, .int v2)]) : W p l e RM7_set s m args below meth c H locs 0 0 (MQ below (qi_W (dC, dI) [(cI, .int), (cB, .object "DiceRoads$Board")] A q.1 (gX cI cB b q.2).flatten) args s 0 0 A) (F0 m 0 ls []) := by
  unfold f7_set at h
  obtain ⟨hx, hb, hr, hts, hown, hlocks, hml⟩ := id C
  refine lv_aload_n hx hb dX7_set_0 rfl (lv_at hl 0 rfl) ?_
  refine va_get (D := (dC, dI)) (ci := 6) (v := .ref (b 2 0)) (C := RX7) (T := TX7) (N := 6) hx hb hts inlX7 hown hK hG.1 0 rfl rfl 2 (by decide) (hts (Cond.fieldLink RX7 22 "DiceRoads" "history" "LDiceRoads$History;") wr_175) (fun _ h9 => h9) rfl dX7_set_1 ?_
  refine lv_aload_n hx hb dX7_set_4 rfl (lv_at hl 0 rfl) ?_
  refine va_get (D := (dC, dI)) (ci := 6) (v := .ref (b 5 0)) (C := RX7) (T := TX7) (N := 6) hx hb hts inlX7 hown hK hG.1 0 rfl rfl 0 (by decide) (hts (Cond.fieldLink RX7 12 "DiceRoads" "board" "LDiceRoads$Board;") wr_173) (fun _ h9 => h9) rfl dX7_set_5 ?_
  obtain ⟨q8, hq8, h⟩ := fo_bd_some h
  refine gq_vV (gs := gX cI cB b S) (gs' := gX cI cB b (xs_h S q8)) (As := [.ref (b 5 0)]) (rest := []) (wc := (gH cI cB b S).flatten) (w1 := (gH cI cB b q8).flatten) (b := b 2 0) (C := RX2) (ci := 2) (q0 := 0) ⟨hx, hb, hml, hown, hts⟩ (c2_stage l (b := b) hq8) (cwV 1 hts gv_X7_42 rfl rfl rfl hd2_stage ⟨Nat.le_of_ble_eq_true rfl, Nat.le_of_ble_eq_true rfl⟩) hK [0, 1] rfl hA hG [2, 7, 8, 9, 10, 11, 12, 13, 5] [0, 1, 3, 4, 6, 14, 15] pm_1 pm_1 rfl rfl rfl rfl rfl rfl hl.1 rfl (Nat.le_of_ble_eq_true rfl) dX7_set_8 ⟨Nat.zero_le _, Nat.zero_le _⟩ (fun H locs hG9 => ?_)
  have hG : gd_W (dC, dI) A s (gX cI cB b (xs_h S q8)).flatten H locs := hG9
  refine lv_aload_n hx hb dX7_set_11 rfl (lv_at hl 0 rfl) ?_
  refine lv_aload_n hx hb dX7_set_12 rfl (lv_at hl 0 rfl) ?_
  refine va_get (D := (dC, dI)) (ci := 6) (v := .ref (b 5 0)) (C := RX7) (T := TX7) (N := 6) hx hb hts inlX7 hown hK hG.1 0 rfl rfl 0 (by decide) (hts (Cond.fieldLink RX7 12 "DiceRoads" "board" "LDiceRoads$Board;") wr_173) (fun _ h9 => h9) rfl dX7_set_13 ?_
  refine lv_iload_n hx hb dX7_set_16 rfl (lv_at hl 1 rfl) ?_
  refine lv_iload_n hx hb dX7_set_17 rfl (lv_at hl 2 rfl) ?_
  obtain ⟨q18, hq18, h⟩ := fo_bd_some h
  refine gn_iV (gs := gX cI cB b (xs_h S q8)) (gs' := gX cI cB b (xs_set (xs_h S q8) 5 q18.2)) (As := [.int v1, .int v2]) (rest := [.ref (b 0 0)]) (wc := (wd_B cI (b 5) ((xs_h S q8) 5))) (w1 := (wd_B cI (b 5) q18.2)) (b := b 5 0) (C := RX0) (ci := 0) (q0 := 0) ⟨hx, hb, hml, hown, hts⟩ hF (c0_changeSetting l (a := b 5) hq18) (cwV 2 hts gv_X7_46 rfl rfl rfl hd0_changeSetting ⟨Nat.le_of_ble_eq_true rfl, Nat.le_of_ble_eq_true rfl⟩) hK [0] rfl hA hG [5] [0, 1, 2, 3, 4, 6, 7, 8, 9, 10, 11, 12, 13, 14, 15] pm_2 pm_2 rfl rfl rfl rfl rfl rfl hl.1 rfl (Nat.le_of_ble_eq_true rfl) dX7_set_18 ⟨Nat.zero_le _, Nat.zero_le _⟩ (fun H locs hG9 => ?_)
  have hG : gd_W (dC, dI) A s (gX cI cB b (xs_set (xs_h S q8) 5 q18.2)).flatten H locs := hG9
  obtain ⟨q21, hq21, h⟩ := fo_bd_some h
  refine gs_iV (b := b 0 0) (C := RX7) (As := [.int q18.1]) (rest := []) (w1 := (gX cI cB b q21.2).flatten) (ci := 6) (q0 := 0) ⟨hx, hb, hml, hown, hts⟩ (c7_changed l hq21) (cwV 1 hts gv_X7_50 rfl rfl rfl hd7_changed ⟨Nat.le_of_ble_eq_true rfl, Nat.le_of_ble_eq_true rfl⟩) hK hA hG rfl rfl rfl hl.1 rfl (Nat.le_of_ble_eq_true rfl) dX7_set_21 ⟨Nat.zero_le _, Nat.zero_le _⟩ (fun H locs hG9 => ?_)
  have hG : gd_W (dC, dI) A s (gX cI cB b q21.2).flatten H locs := hG9
  obtain rfl := Option.some.inj h
  exact gr_i hx hb hr hlocks hK hG rfl dX7_set_24
set_option maxRecDepth 100000 in
set_option maxHeartbeats 4000000 in
theorem c7_set (l : Launch) {dC : Nat → ClassId} {dI : Nat → Nat → Nat} {cI : ClassId} {cB : ClassId} {b : Nat → Nat → Nat} {t1 t2 t3 : Nat} {v1 : Int32} {v2 : Int32} {S : xs_T} {q : (Int32 × xs_T)} (h : f7_set v1 v2 S = some q) : ni_M l yX7_set wm7_set RM7_set (dC, dI) [(cI, .int), (cB, .object "DiceRoads$Board")] t1 t2 t3 [.ref (b 0 0), .int v1, .int v2] (gX cI cB b S).flatten q.1 (gX cI cB b q.2).flatten := by
  intro sz
  refine Met.ofW (cc := cX7_set) (maxL := 3) (ret := (some .int)) (by decide) rfl ?_
  intro p e s m args below meth c s₁ B hml hv
  obtain ⟨rfl, ⟨hsz, hP, hK, hD0⟩, hF⟩ := hv
  subst hsz
  have hl := lv_entry ([.ref (b 0 0), .int v1, .int v2] : List Value) (n := 3) (Nat.le_of_ble_eq_true rfl)
  rw [lg_entry_eq]
  generalize (lg_sl ([.ref (b 0 0), .int v1, .int v2] : List Value) ++ List.replicate (3 - (lg_sl ([.ref (b 0 0), .int v1, .int v2] : List Value)).length) Slot.unset).toArray = ls at hl ⊢
  exact w7_set (b := b) ⟨B.exec, B.bytes, B.returns, fun w hw => atoms_spec (ws := wm7_set) B.pre w (List.mem_cons_of_mem _ hw), findClass_of_methodNamed B.named, B.notSynchronized, hml⟩ hK (fun _ h => Or.inr h) hF h ⟨hP, hD0.self, va_S.rf⟩ hl
end
/-! ## DiceRoads.player(I)I -/
section
variable {p : Program} {l : Launch} {e : Env} {s : State} {m : MethodId} {args : Array Value} {below : List Frame} {meth : Method} {c : Code} {dC : Nat → ClassId} {dI : Nat → Nat → Nat} {cI cB : ClassId} {A : Nat → Prop}
set_option maxRecDepth 100000 in
set_option maxHeartbeats 4000000 in
theorem w7_player (C : cx_M p s m args meth c RX7 cX7_player (some .int) 2) (hK : va_K (dC, dI) vwCl [(cI, .int), (cB, .object "DiceRoads$Board")] s) (hA : ∀ q, s.heap.size ≤ q → A q) {b : Nat → Nat → Nat} {q : (Int32 × xs_T)} {v1 : Int32} {S : xs_T} (h : f7_player v1 S = some q) {H : Heap} {locs : List Loc} {ls : Array Slot} (hG : gd_W (dC, dI) A s (gX cI cB b S).flatten H locs) (hl : lv_has ls 2 [(0, .ref (b 0 0)), (1, .int v1)]) : W p l e RM7_player s m args below meth c H locs 0 0 (MQ below (qi_W (dC, dI) [(cI, .int), (cB, .object "DiceRoads$Board")] A q.1 (gX cI cB b q.2).flatten) args s 0 0 A) (F0 m 0 ls []) := by
  unfold f7_player at h
  obtain ⟨hx, hb, hr, hts, hown, hlocks, hml⟩ := id C
  refine lv_aload_n hx hb dX7_player_0 rfl (lv_at hl 0 rfl) ?_
  refine va_get (D := (dC, dI)) (ci := 6) (v := .ref (b 2 0)) (C := RX7) (T := TX7) (N := 6) hx hb hts inlX7 hown hK hG.1 0 rfl rfl 2 (by decide) (hts (Cond.fieldLink RX7 22 "DiceRoads" "history" "LDiceRoads$History;") wr_175) (fun _ h9 => h9) rfl dX7_player_1 ?_
  refine lv_aload_n hx hb dX7_player_4 rfl (lv_at hl 0 rfl) ?_
  refine va_get (D := (dC, dI)) (ci := 6) (v := .ref (b 5 0)) (C := RX7) (T := TX7) (N := 6) hx hb hts inlX7 hown hK hG.1 0 rfl rfl 0 (by decide) (hts (Cond.fieldLink RX7 12 "DiceRoads" "board" "LDiceRoads$Board;") wr_173) (fun _ h9 => h9) rfl dX7_player_5 ?_
  obtain ⟨q8, hq8, h⟩ := fo_bd_some h
  refine gq_vV (gs := gX cI cB b S) (gs' := gX cI cB b (xs_h S q8)) (As := [.ref (b 5 0)]) (rest := []) (wc := (gH cI cB b S).flatten) (w1 := (gH cI cB b q8).flatten) (b := b 2 0) (C := RX2) (ci := 2) (q0 := 0) ⟨hx, hb, hml, hown, hts⟩ (c2_stage l (b := b) hq8) (cwV 1 hts gv_X7_42 rfl rfl rfl hd2_stage ⟨Nat.le_of_ble_eq_true rfl, Nat.le_of_ble_eq_true rfl⟩) hK [0, 1] rfl hA hG [2, 7, 8, 9, 10, 11, 12, 13, 5] [0, 1, 3, 4, 6, 14, 15] pm_1 pm_1 rfl rfl rfl rfl rfl rfl hl.1 rfl (Nat.le_of_ble_eq_true rfl) dX7_player_8 ⟨Nat.zero_le _, Nat.zero_le _⟩ (fun H locs hG9 => ?_)
  have hG : gd_W (dC, dI) A s (gX cI cB b (xs_h S q8)).flatten H locs := hG9
  refine lv_aload_n hx hb dX7_player_11 rfl (lv_at hl 0 rfl) ?_
  refine lv_aload_n hx hb dX7_player_12 rfl (lv_at hl 0 rfl) ?_
  refine va_get (D := (dC, dI)) (ci := 6) (v := .ref (b 5 0)) (C := RX7) (T := TX7) (N := 6) hx hb hts inlX7 hown hK hG.1 0 rfl rfl 0 (by decide) (hts (Cond.fieldLink RX7 12 "DiceRoads" "board" "LDiceRoads$Board;") wr_173) (fun _ h9 => h9) rfl dX7_player_13 ?_
  refine lv_iload_n hx hb dX7_player_16 rfl (lv_at hl 1 rfl) ?_
  obtain ⟨q17, hq17, h⟩ := fo_bd_some h
  refine gq_iV (gs := gX cI cB b (xs_h S q8)) (gs' := gX cI cB b (xs_set (xs_h S q8) 5 q17.2)) (As := [.int v1]) (rest := [.ref (b 0 0)]) (wc := (wd_B cI (b 5) ((xs_h S q8) 5))) (w1 := (wd_B cI (b 5) q17.2)) (b := b 5 0) (C := RX0) (ci := 0) (q0 := 0) ⟨hx, hb, hml, hown, hts⟩ (c0_addPlayer l (a := b 5) hq17) (cwV 1 hts gv_X7_54 rfl rfl rfl hd0_addPlayer ⟨Nat.le_of_ble_eq_true rfl, Nat.le_of_ble_eq_true rfl⟩) hK [0] rfl hA hG [5] [0, 1, 2, 3, 4, 6, 7, 8, 9, 10, 11, 12, 13, 14, 15] pm_2 pm_2 rfl rfl rfl rfl rfl rfl hl.1 rfl (Nat.le_of_ble_eq_true rfl) dX7_player_17 ⟨Nat.zero_le _, Nat.zero_le _⟩ (fun H locs hG9 => ?_)
  have hG : gd_W (dC, dI) A s (gX cI cB b (xs_set (xs_h S q8) 5 q17.2)).flatten H locs := hG9
  obtain ⟨q20, hq20, h⟩ := fo_bd_some h
  refine gs_iV (b := b 0 0) (C := RX7) (As := [.int q17.1]) (rest := []) (w1 := (gX cI cB b q20.2).flatten) (ci := 6) (q0 := 0) ⟨hx, hb, hml, hown, hts⟩ (c7_changed l hq20) (cwV 1 hts gv_X7_50 rfl rfl rfl hd7_changed ⟨Nat.le_of_ble_eq_true rfl, Nat.le_of_ble_eq_true rfl⟩) hK hA hG rfl rfl rfl hl.1 rfl (Nat.le_of_ble_eq_true rfl) dX7_player_20 ⟨Nat.zero_le _, Nat.zero_le _⟩ (fun H locs hG9 => ?_)
  have hG : gd_W (dC, dI) A s (gX cI cB b q20.2).flatten H locs := hG9
  obtain rfl := Option.some.inj h
  exact gr_i hx hb hr hlocks hK hG rfl dX7_player_23
set_option maxRecDepth 100000 in
set_option maxHeartbeats 4000000 in
theorem c7_player (l : Launch) {dC : Nat → ClassId} {dI : Nat → Nat → Nat} {cI : ClassId} {cB : ClassId} {b : Nat → Nat → Nat} {v1 : Int32} {S : xs_T} {q : (Int32 × xs_T)} (h : f7_player v1 S = some q) : mi_M l yX7_player wm7_player RM7_player (dC, dI) [(cI, .int), (cB, .object "DiceRoads$Board")] [.ref (b 0 0), .int v1] (gX cI cB b S).flatten q.1 (gX cI cB b q.2).flatten := by
  intro sz
  refine Met.ofW (cc := cX7_player) (maxL := 2) (ret := (some .int)) (by decide) rfl ?_
  intro p e s m args below meth c s₁ B hml hv
  obtain ⟨rfl, hsz, hP, hK, hD0⟩ := hv
  subst hsz
  have hl := lv_entry ([.ref (b 0 0), .int v1] : List Value) (n := 2) (Nat.le_of_ble_eq_true rfl)
  rw [lg_entry_eq]
  generalize (lg_sl ([.ref (b 0 0), .int v1] : List Value) ++ List.replicate (2 - (lg_sl ([.ref (b 0 0), .int v1] : List Value)).length) Slot.unset).toArray = ls at hl ⊢
  exact w7_player (b := b) ⟨B.exec, B.bytes, B.returns, fun w hw => atoms_spec (ws := wm7_player) B.pre w (List.mem_cons_of_mem _ hw), findClass_of_methodNamed B.named, B.notSynchronized, hml⟩ hK (fun _ h => Or.inr h) h ⟨hP, hD0.self, va_S.rf⟩ hl
end
/-! ## DiceRoads.seed(I)I -/
section
variable {p : Program} {l : Launch} {e : Env} {s : State} {m : MethodId} {args : Array Value} {below : List Frame} {meth : Method} {c : Code} {dC : Nat → ClassId} {dI : Nat → Nat → Nat} {cI cB : ClassId} {A : Nat → Prop}
set_option maxRecDepth 100000 in
set_option maxHeartbeats 4000000 in
theorem w7_seed (C : cx_M p s m args meth c RX7 cX7_seed (some .int) 2) (hK : va_K (dC, dI) vwCl [(cI, .int), (cB, .object "DiceRoads$Board")] s) (hA : ∀ q, s.heap.size ≤ q → A q) {b : Nat → Nat → Nat} {q : (Int32 × xs_T)} {v1 : Int32} {S : xs_T} (h : f7_seed v1 S = some q) {H : Heap} {locs : List Loc} {ls : Array Slot} (hG : gd_W (dC, dI) A s (gX cI cB b S).flatten H locs) (hl : lv_has ls 2 [(0, .ref (b 0 0)), (1, .int v1)]) : W p l e RM7_seed s m args below meth c H locs 0 0 (MQ below (qi_W (dC, dI) [(cI, .int), (cB, .object "DiceRoads$Board")] A q.1 (gX cI cB b q.2).flatten) args s 0 0 A) (F0 m 0 ls []) := by
  unfold f7_seed at h
  obtain ⟨hx, hb, hr, hts, hown, hlocks, hml⟩ := id C
  refine lv_aload_n hx hb dX7_seed_0 rfl (lv_at hl 0 rfl) ?_
  refine va_get (D := (dC, dI)) (ci := 6) (v := .ref (b 2 0)) (C := RX7) (T := TX7) (N := 6) hx hb hts inlX7 hown hK hG.1 0 rfl rfl 2 (by decide) (hts (Cond.fieldLink RX7 22 "DiceRoads" "history" "LDiceRoads$History;") wr_175) (fun _ h9 => h9) rfl dX7_seed_1 ?_
  refine lv_aload_n hx hb dX7_seed_4 rfl (lv_at hl 0 rfl) ?_
  refine va_get (D := (dC, dI)) (ci := 6) (v := .ref (b 5 0)) (C := RX7) (T := TX7) (N := 6) hx hb hts inlX7 hown hK hG.1 0 rfl rfl 0 (by decide) (hts (Cond.fieldLink RX7 12 "DiceRoads" "board" "LDiceRoads$Board;") wr_173) (fun _ h9 => h9) rfl dX7_seed_5 ?_
  obtain ⟨q8, hq8, h⟩ := fo_bd_some h
  refine gq_vV (gs := gX cI cB b S) (gs' := gX cI cB b (xs_h S q8)) (As := [.ref (b 5 0)]) (rest := []) (wc := (gH cI cB b S).flatten) (w1 := (gH cI cB b q8).flatten) (b := b 2 0) (C := RX2) (ci := 2) (q0 := 0) ⟨hx, hb, hml, hown, hts⟩ (c2_stage l (b := b) hq8) (cwV 1 hts gv_X7_42 rfl rfl rfl hd2_stage ⟨Nat.le_of_ble_eq_true rfl, Nat.le_of_ble_eq_true rfl⟩) hK [0, 1] rfl hA hG [2, 7, 8, 9, 10, 11, 12, 13, 5] [0, 1, 3, 4, 6, 14, 15] pm_1 pm_1 rfl rfl rfl rfl rfl rfl hl.1 rfl (Nat.le_of_ble_eq_true rfl) dX7_seed_8 ⟨Nat.zero_le _, Nat.zero_le _⟩ (fun H locs hG9 => ?_)
  have hG : gd_W (dC, dI) A s (gX cI cB b (xs_h S q8)).flatten H locs := hG9
  refine lv_aload_n hx hb dX7_seed_11 rfl (lv_at hl 0 rfl) ?_
  refine lv_aload_n hx hb dX7_seed_12 rfl (lv_at hl 0 rfl) ?_
  refine va_get (D := (dC, dI)) (ci := 6) (v := .ref (b 5 0)) (C := RX7) (T := TX7) (N := 6) hx hb hts inlX7 hown hK hG.1 0 rfl rfl 0 (by decide) (hts (Cond.fieldLink RX7 12 "DiceRoads" "board" "LDiceRoads$Board;") wr_173) (fun _ h9 => h9) rfl dX7_seed_13 ?_
  refine lv_iload_n hx hb dX7_seed_16 rfl (lv_at hl 1 rfl) ?_
  obtain ⟨q17, hq17, h⟩ := fo_bd_some h
  refine gq_iV (gs := gX cI cB b (xs_h S q8)) (gs' := gX cI cB b (xs_set (xs_h S q8) 5 q17.2)) (As := [.int v1]) (rest := [.ref (b 0 0)]) (wc := (wd_B cI (b 5) ((xs_h S q8) 5))) (w1 := (wd_B cI (b 5) q17.2)) (b := b 5 0) (C := RX0) (ci := 0) (q0 := 0) ⟨hx, hb, hml, hown, hts⟩ (c0_changeDraws l (a := b 5) hq17) (cwV 1 hts gv_X7_57 rfl rfl rfl hd0_changeDraws ⟨Nat.le_of_ble_eq_true rfl, Nat.le_of_ble_eq_true rfl⟩) hK [0] rfl hA hG [5] [0, 1, 2, 3, 4, 6, 7, 8, 9, 10, 11, 12, 13, 14, 15] pm_2 pm_2 rfl rfl rfl rfl rfl rfl hl.1 rfl (Nat.le_of_ble_eq_true rfl) dX7_seed_17 ⟨Nat.zero_le _, Nat.zero_le _⟩ (fun H locs hG9 => ?_)
  have hG : gd_W (dC, dI) A s (gX cI cB b (xs_set (xs_h S q8) 5 q17.2)).flatten H locs := hG9
  obtain ⟨q20, hq20, h⟩ := fo_bd_some h
  refine gs_iV (b := b 0 0) (C := RX7) (As := [.int q17.1]) (rest := []) (w1 := (gX cI cB b q20.2).flatten) (ci := 6) (q0 := 0) ⟨hx, hb, hml, hown, hts⟩ (c7_changed l hq20) (cwV 1 hts gv_X7_50 rfl rfl rfl hd7_changed ⟨Nat.le_of_ble_eq_true rfl, Nat.le_of_ble_eq_true rfl⟩) hK hA hG rfl rfl rfl hl.1 rfl (Nat.le_of_ble_eq_true rfl) dX7_seed_20 ⟨Nat.zero_le _, Nat.zero_le _⟩ (fun H locs hG9 => ?_)
  have hG : gd_W (dC, dI) A s (gX cI cB b q20.2).flatten H locs := hG9
  obtain rfl := Option.some.inj h
  exact gr_i hx hb hr hlocks hK hG rfl dX7_seed_23
set_option maxRecDepth 100000 in
set_option maxHeartbeats 4000000 in
theorem c7_seed (l : Launch) {dC : Nat → ClassId} {dI : Nat → Nat → Nat} {cI : ClassId} {cB : ClassId} {b : Nat → Nat → Nat} {v1 : Int32} {S : xs_T} {q : (Int32 × xs_T)} (h : f7_seed v1 S = some q) : mi_M l yX7_seed wm7_seed RM7_seed (dC, dI) [(cI, .int), (cB, .object "DiceRoads$Board")] [.ref (b 0 0), .int v1] (gX cI cB b S).flatten q.1 (gX cI cB b q.2).flatten := by
  intro sz
  refine Met.ofW (cc := cX7_seed) (maxL := 2) (ret := (some .int)) (by decide) rfl ?_
  intro p e s m args below meth c s₁ B hml hv
  obtain ⟨rfl, hsz, hP, hK, hD0⟩ := hv
  subst hsz
  have hl := lv_entry ([.ref (b 0 0), .int v1] : List Value) (n := 2) (Nat.le_of_ble_eq_true rfl)
  rw [lg_entry_eq]
  generalize (lg_sl ([.ref (b 0 0), .int v1] : List Value) ++ List.replicate (2 - (lg_sl ([.ref (b 0 0), .int v1] : List Value)).length) Slot.unset).toArray = ls at hl ⊢
  exact w7_seed (b := b) ⟨B.exec, B.bytes, B.returns, fun w hw => atoms_spec (ws := wm7_seed) B.pre w (List.mem_cons_of_mem _ hw), findClass_of_methodNamed B.named, B.notSynchronized, hml⟩ hK (fun _ h => Or.inr h) h ⟨hP, hD0.self, va_S.rf⟩ hl
end
/-! ## DiceRoads.go(I)I -/
section
variable {p : Program} {l : Launch} {e : Env} {s : State} {m : MethodId} {args : Array Value} {below : List Frame} {meth : Method} {c : Code} {dC : Nat → ClassId} {dI : Nat → Nat → Nat} {cI cB : ClassId} {A : Nat → Prop}
set_option maxRecDepth 100000 in
set_option maxHeartbeats 4000000 in
theorem w7_go (C : cx_M p s m args meth c RX7 cX7_go (some .int) 2) (hK : va_K (dC, dI) vwCl [(cI, .int), (cB, .object "DiceRoads$Board")] s) (hA : ∀ q, s.heap.size ≤ q → A q) {b : Nat → Nat → Nat} {q : (Int32 × xs_T)} {v1 : Int32} {S : xs_T} (h : f7_go v1 S = some q) {H : Heap} {locs : List Loc} {ls : Array Slot} (hG : gd_W (dC, dI) A s (gX cI cB b S).flatten H locs) (hl : lv_has ls 2 [(0, .ref (b 0 0)), (1, .int v1)]) : W p l e RM7_go s m args below meth c H locs 0 0 (MQ below (qi_W (dC, dI) [(cI, .int), (cB, .object "DiceRoads$Board")] A q.1 (gX cI cB b q.2).flatten) args s 0 0 A) (F0 m 0 ls []) := by
  unfold f7_go at h
  obtain ⟨hx, hb, hr, hts, hown, hlocks, hml⟩ := id C
  refine lv_aload_n hx hb dX7_go_0 rfl (lv_at hl 0 rfl) ?_
  refine va_get (D := (dC, dI)) (ci := 6) (v := .ref (b 2 0)) (C := RX7) (T := TX7) (N := 6) hx hb hts inlX7 hown hK hG.1 0 rfl rfl 2 (by decide) (hts (Cond.fieldLink RX7 22 "DiceRoads" "history" "LDiceRoads$History;") wr_175) (fun _ h9 => h9) rfl dX7_go_1 ?_
  refine lv_aload_n hx hb dX7_go_4 rfl (lv_at hl 0 rfl) ?_
  refine va_get (D := (dC, dI)) (ci := 6) (v := .ref (b 5 0)) (C := RX7) (T := TX7) (N := 6) hx hb hts inlX7 hown hK hG.1 0 rfl rfl 0 (by decide) (hts (Cond.fieldLink RX7 12 "DiceRoads" "board" "LDiceRoads$Board;") wr_173) (fun _ h9 => h9) rfl dX7_go_5 ?_
  obtain ⟨q8, hq8, h⟩ := fo_bd_some h
  refine gq_vV (gs := gX cI cB b S) (gs' := gX cI cB b (xs_h S q8)) (As := [.ref (b 5 0)]) (rest := []) (wc := (gH cI cB b S).flatten) (w1 := (gH cI cB b q8).flatten) (b := b 2 0) (C := RX2) (ci := 2) (q0 := 0) ⟨hx, hb, hml, hown, hts⟩ (c2_stage l (b := b) hq8) (cwV 1 hts gv_X7_42 rfl rfl rfl hd2_stage ⟨Nat.le_of_ble_eq_true rfl, Nat.le_of_ble_eq_true rfl⟩) hK [0, 1] rfl hA hG [2, 7, 8, 9, 10, 11, 12, 13, 5] [0, 1, 3, 4, 6, 14, 15] pm_1 pm_1 rfl rfl rfl rfl rfl rfl hl.1 rfl (Nat.le_of_ble_eq_true rfl) dX7_go_8 ⟨Nat.zero_le _, Nat.zero_le _⟩ (fun H locs hG9 => ?_)
  have hG : gd_W (dC, dI) A s (gX cI cB b (xs_h S q8)).flatten H locs := hG9
  refine lv_aload_n hx hb dX7_go_11 rfl (lv_at hl 0 rfl) ?_
  refine lv_aload_n hx hb dX7_go_12 rfl (lv_at hl 0 rfl) ?_
  refine va_get (D := (dC, dI)) (ci := 6) (v := .ref (b 5 0)) (C := RX7) (T := TX7) (N := 6) hx hb hts inlX7 hown hK hG.1 0 rfl rfl 0 (by decide) (hts (Cond.fieldLink RX7 12 "DiceRoads" "board" "LDiceRoads$Board;") wr_173) (fun _ h9 => h9) rfl dX7_go_13 ?_
  refine lv_iload_n hx hb dX7_go_16 rfl (lv_at hl 1 rfl) ?_
  obtain ⟨q17, hq17, h⟩ := fo_bd_some h
  refine gq_iV (gs := gX cI cB b (xs_h S q8)) (gs' := gX cI cB b (xs_set (xs_h S q8) 5 q17.2)) (As := [.int v1]) (rest := [.ref (b 0 0)]) (wc := (wd_B cI (b 5) ((xs_h S q8) 5))) (w1 := (wd_B cI (b 5) q17.2)) (b := b 5 0) (C := RX0) (ci := 0) (q0 := 0) ⟨hx, hb, hml, hown, hts⟩ (c0_doTurns l (a := b 5) hq17) (cwV 1 hts gv_X7_60 rfl rfl rfl hd0_doTurns ⟨Nat.le_of_ble_eq_true rfl, Nat.le_of_ble_eq_true rfl⟩) hK [0] rfl hA hG [5] [0, 1, 2, 3, 4, 6, 7, 8, 9, 10, 11, 12, 13, 14, 15] pm_2 pm_2 rfl rfl rfl rfl rfl rfl hl.1 rfl (Nat.le_of_ble_eq_true rfl) dX7_go_17 ⟨Nat.zero_le _, Nat.zero_le _⟩ (fun H locs hG9 => ?_)
  have hG : gd_W (dC, dI) A s (gX cI cB b (xs_set (xs_h S q8) 5 q17.2)).flatten H locs := hG9
  obtain ⟨q20, hq20, h⟩ := fo_bd_some h
  refine gs_iV (b := b 0 0) (C := RX7) (As := [.int q17.1]) (rest := []) (w1 := (gX cI cB b q20.2).flatten) (ci := 6) (q0 := 0) ⟨hx, hb, hml, hown, hts⟩ (c7_changed l hq20) (cwV 1 hts gv_X7_50 rfl rfl rfl hd7_changed ⟨Nat.le_of_ble_eq_true rfl, Nat.le_of_ble_eq_true rfl⟩) hK hA hG rfl rfl rfl hl.1 rfl (Nat.le_of_ble_eq_true rfl) dX7_go_20 ⟨Nat.zero_le _, Nat.zero_le _⟩ (fun H locs hG9 => ?_)
  have hG : gd_W (dC, dI) A s (gX cI cB b q20.2).flatten H locs := hG9
  obtain rfl := Option.some.inj h
  exact gr_i hx hb hr hlocks hK hG rfl dX7_go_23
set_option maxRecDepth 100000 in
set_option maxHeartbeats 4000000 in
theorem c7_go (l : Launch) {dC : Nat → ClassId} {dI : Nat → Nat → Nat} {cI : ClassId} {cB : ClassId} {b : Nat → Nat → Nat} {v1 : Int32} {S : xs_T} {q : (Int32 × xs_T)} (h : f7_go v1 S = some q) : mi_M l yX7_go wm7_go RM7_go (dC, dI) [(cI, .int), (cB, .object "DiceRoads$Board")] [.ref (b 0 0), .int v1] (gX cI cB b S).flatten q.1 (gX cI cB b q.2).flatten := by
  intro sz
  refine Met.ofW (cc := cX7_go) (maxL := 2) (ret := (some .int)) (by decide) rfl ?_
  intro p e s m args below meth c s₁ B hml hv
  obtain ⟨rfl, hsz, hP, hK, hD0⟩ := hv
  subst hsz
  have hl := lv_entry ([.ref (b 0 0), .int v1] : List Value) (n := 2) (Nat.le_of_ble_eq_true rfl)
  rw [lg_entry_eq]
  generalize (lg_sl ([.ref (b 0 0), .int v1] : List Value) ++ List.replicate (2 - (lg_sl ([.ref (b 0 0), .int v1] : List Value)).length) Slot.unset).toArray = ls at hl ⊢
  exact w7_go (b := b) ⟨B.exec, B.bytes, B.returns, fun w hw => atoms_spec (ws := wm7_go) B.pre w (List.mem_cons_of_mem _ hw), findClass_of_methodNamed B.named, B.notSynchronized, hml⟩ hK (fun _ h => Or.inr h) h ⟨hP, hD0.self, va_S.rf⟩ hl
end
/-! ## DiceRoads.clear(I)I -/
section
variable {p : Program} {l : Launch} {e : Env} {s : State} {m : MethodId} {args : Array Value} {below : List Frame} {meth : Method} {c : Code} {dC : Nat → ClassId} {dI : Nat → Nat → Nat} {cI cB : ClassId} {A : Nat → Prop}
set_option maxRecDepth 100000 in
set_option maxHeartbeats 4000000 in
theorem w7_clear (C : cx_M p s m args meth c RX7 cX7_clear (some .int) 2) (hK : va_K (dC, dI) vwCl [(cI, .int), (cB, .object "DiceRoads$Board")] s) (hA : ∀ q, s.heap.size ≤ q → A q) {b : Nat → Nat → Nat} {q : (Int32 × xs_T)} {v1 : Int32} {S : xs_T} (h : f7_clear v1 S = some q) {H : Heap} {locs : List Loc} {ls : Array Slot} (hG : gd_W (dC, dI) A s (gX cI cB b S).flatten H locs) (hl : lv_has ls 2 [(0, .ref (b 0 0)), (1, .int v1)]) : W p l e RM7_clear s m args below meth c H locs 0 0 (MQ below (qi_W (dC, dI) [(cI, .int), (cB, .object "DiceRoads$Board")] A q.1 (gX cI cB b q.2).flatten) args s 0 0 A) (F0 m 0 ls []) := by
  unfold f7_clear at h
  obtain ⟨hx, hb, hr, hts, hown, hlocks, hml⟩ := id C
  refine lv_aload_n hx hb dX7_clear_0 rfl (lv_at hl 0 rfl) ?_
  refine va_get (D := (dC, dI)) (ci := 6) (v := .ref (b 2 0)) (C := RX7) (T := TX7) (N := 6) hx hb hts inlX7 hown hK hG.1 0 rfl rfl 2 (by decide) (hts (Cond.fieldLink RX7 22 "DiceRoads" "history" "LDiceRoads$History;") wr_175) (fun _ h9 => h9) rfl dX7_clear_1 ?_
  refine lv_aload_n hx hb dX7_clear_4 rfl (lv_at hl 0 rfl) ?_
  refine va_get (D := (dC, dI)) (ci := 6) (v := .ref (b 5 0)) (C := RX7) (T := TX7) (N := 6) hx hb hts inlX7 hown hK hG.1 0 rfl rfl 0 (by decide) (hts (Cond.fieldLink RX7 12 "DiceRoads" "board" "LDiceRoads$Board;") wr_173) (fun _ h9 => h9) rfl dX7_clear_5 ?_
  obtain ⟨q8, hq8, h⟩ := fo_bd_some h
  refine gq_vV (gs := gX cI cB b S) (gs' := gX cI cB b (xs_h S q8)) (As := [.ref (b 5 0)]) (rest := []) (wc := (gH cI cB b S).flatten) (w1 := (gH cI cB b q8).flatten) (b := b 2 0) (C := RX2) (ci := 2) (q0 := 0) ⟨hx, hb, hml, hown, hts⟩ (c2_stage l (b := b) hq8) (cwV 1 hts gv_X7_42 rfl rfl rfl hd2_stage ⟨Nat.le_of_ble_eq_true rfl, Nat.le_of_ble_eq_true rfl⟩) hK [0, 1] rfl hA hG [2, 7, 8, 9, 10, 11, 12, 13, 5] [0, 1, 3, 4, 6, 14, 15] pm_1 pm_1 rfl rfl rfl rfl rfl rfl hl.1 rfl (Nat.le_of_ble_eq_true rfl) dX7_clear_8 ⟨Nat.zero_le _, Nat.zero_le _⟩ (fun H locs hG9 => ?_)
  have hG : gd_W (dC, dI) A s (gX cI cB b (xs_h S q8)).flatten H locs := hG9
  refine lv_aload_n hx hb dX7_clear_11 rfl (lv_at hl 0 rfl) ?_
  refine lv_aload_n hx hb dX7_clear_12 rfl (lv_at hl 0 rfl) ?_
  refine va_get (D := (dC, dI)) (ci := 6) (v := .ref (b 5 0)) (C := RX7) (T := TX7) (N := 6) hx hb hts inlX7 hown hK hG.1 0 rfl rfl 0 (by decide) (hts (Cond.fieldLink RX7 12 "DiceRoads" "board" "LDiceRoads$Board;") wr_173) (fun _ h9 => h9) rfl dX7_clear_13 ?_
  refine lv_iload_n hx hb dX7_clear_16 rfl (lv_at hl 1 rfl) ?_
  obtain ⟨q17, hq17, h⟩ := fo_bd_some h
  refine gq_iV (gs := gX cI cB b (xs_h S q8)) (gs' := gX cI cB b (xs_set (xs_h S q8) 5 q17.2)) (As := [.int v1]) (rest := [.ref (b 0 0)]) (wc := (wd_B cI (b 5) ((xs_h S q8) 5))) (w1 := (wd_B cI (b 5) q17.2)) (b := b 5 0) (C := RX0) (ci := 0) (q0 := 0) ⟨hx, hb, hml, hown, hts⟩ (c0_clearAround l (a := b 5) hq17) (cwV 1 hts gv_X7_63 rfl rfl rfl hd0_clearAround ⟨Nat.le_of_ble_eq_true rfl, Nat.le_of_ble_eq_true rfl⟩) hK [0] rfl hA hG [5] [0, 1, 2, 3, 4, 6, 7, 8, 9, 10, 11, 12, 13, 14, 15] pm_2 pm_2 rfl rfl rfl rfl rfl rfl hl.1 rfl (Nat.le_of_ble_eq_true rfl) dX7_clear_17 ⟨Nat.zero_le _, Nat.zero_le _⟩ (fun H locs hG9 => ?_)
  have hG : gd_W (dC, dI) A s (gX cI cB b (xs_set (xs_h S q8) 5 q17.2)).flatten H locs := hG9
  obtain ⟨q20, hq20, h⟩ := fo_bd_some h
  refine gs_iV (b := b 0 0) (C := RX7) (As := [.int q17.1]) (rest := []) (w1 := (gX cI cB b q20.2).flatten) (ci := 6) (q0 := 0) ⟨hx, hb, hml, hown, hts⟩ (c7_changed l hq20) (cwV 1 hts gv_X7_50 rfl rfl rfl hd7_changed ⟨Nat.le_of_ble_eq_true rfl, Nat.le_of_ble_eq_true rfl⟩) hK hA hG rfl rfl rfl hl.1 rfl (Nat.le_of_ble_eq_true rfl) dX7_clear_20 ⟨Nat.zero_le _, Nat.zero_le _⟩ (fun H locs hG9 => ?_)
  have hG : gd_W (dC, dI) A s (gX cI cB b q20.2).flatten H locs := hG9
  obtain rfl := Option.some.inj h
  exact gr_i hx hb hr hlocks hK hG rfl dX7_clear_23
set_option maxRecDepth 100000 in
set_option maxHeartbeats 4000000 in
theorem c7_clear (l : Launch) {dC : Nat → ClassId} {dI : Nat → Nat → Nat} {cI : ClassId} {cB : ClassId} {b : Nat → Nat → Nat} {v1 : Int32} {S : xs_T} {q : (Int32 × xs_T)} (h : f7_clear v1 S = some q) : mi_M l yX7_clear wm7_clear RM7_clear (dC, dI) [(cI, .int), (cB, .object "DiceRoads$Board")] [.ref (b 0 0), .int v1] (gX cI cB b S).flatten q.1 (gX cI cB b q.2).flatten := by
  intro sz
  refine Met.ofW (cc := cX7_clear) (maxL := 2) (ret := (some .int)) (by decide) rfl ?_
  intro p e s m args below meth c s₁ B hml hv
  obtain ⟨rfl, hsz, hP, hK, hD0⟩ := hv
  subst hsz
  have hl := lv_entry ([.ref (b 0 0), .int v1] : List Value) (n := 2) (Nat.le_of_ble_eq_true rfl)
  rw [lg_entry_eq]
  generalize (lg_sl ([.ref (b 0 0), .int v1] : List Value) ++ List.replicate (2 - (lg_sl ([.ref (b 0 0), .int v1] : List Value)).length) Slot.unset).toArray = ls at hl ⊢
  exact w7_clear (b := b) ⟨B.exec, B.bytes, B.returns, fun w hw => atoms_spec (ws := wm7_clear) B.pre w (List.mem_cons_of_mem _ hw), findClass_of_methodNamed B.named, B.notSynchronized, hml⟩ hK (fun _ h => Or.inr h) h ⟨hP, hD0.self, va_S.rf⟩ hl
end
/-! ## DiceRoads.of(II)I -/
section
variable {p : Program} {l : Launch} {e : Env} {s : State} {m : MethodId} {args : Array Value} {below : List Frame} {meth : Method} {c : Code} {dC : Nat → ClassId} {dI : Nat → Nat → Nat} {cI cB : ClassId} {A : Nat → Prop}
set_option maxRecDepth 100000 in
set_option maxHeartbeats 4000000 in
theorem w7_of (C : cx_M p s m args meth c RX7 cX7_of (some .int) 3) (hK : va_K (dC, dI) vwCl [(cI, .int), (cB, .object "DiceRoads$Board")] s) (hA : ∀ q, s.heap.size ≤ q → A q) {b : Nat → Nat → Nat} {q : Int32} {v1 : Int32} {v2 : Int32} {S : xs_T} (h : f7_of v1 v2 S = some q) {H : Heap} {locs : List Loc} {ls : Array Slot} (hG : gd_W (dC, dI) A s (gX cI cB b S).flatten H locs) (hl : lv_has ls 3 [(0, .ref (b 0 0)), (1, .int v1), (2, .int v2)]) : W p l e RM7_of s m args below meth c H locs 0 0 (MQ below (qi_W (dC, dI) [(cI, .int), (cB, .object "DiceRoads$Board")] A q (gX cI cB b S).flatten) args s 0 0 A) (F0 m 0 ls []) := by
  unfold f7_of at h
  obtain ⟨hx, hb, hr, hts, hown, hlocks, hml⟩ := id C
  refine lv_aload_n hx hb dX7_of_0 rfl (lv_at hl 0 rfl) ?_
  refine va_get (D := (dC, dI)) (ci := 6) (v := .ref (b 5 0)) (C := RX7) (T := TX7) (N := 6) hx hb hts inlX7 hown hK hG.1 0 rfl rfl 0 (by decide) (hts (Cond.fieldLink RX7 12 "DiceRoads" "board" "LDiceRoads$Board;") wr_173) (fun _ h9 => h9) rfl dX7_of_1 ?_
  refine lv_iload_n hx hb dX7_of_4 rfl (lv_at hl 1 rfl) ?_
  obtain ⟨q5, hq5, h⟩ := fo_bd_some h
  refine gq_iV (gs := gX cI cB b S) (gs' := gX cI cB b S) (As := [.int v1]) (rest := []) (wc := (wd_B cI (b 5) (S 5))) (w1 := (wd_B cI (b 5) (S 5))) (b := b 5 0) (C := RX0) (ci := 0) (q0 := 0) ⟨hx, hb, hml, hown, hts⟩ (c0_hasPlayer l (a := b 5) hq5) (cwV 1 hts gv_X7_69 rfl rfl rfl hd0_hasPlayer ⟨Nat.le_of_ble_eq_true rfl, Nat.le_of_ble_eq_true rfl⟩) hK [0] rfl hA hG [5] [0, 1, 2, 3, 4, 6, 7, 8, 9, 10, 11, 12, 13, 14, 15] pm_2 pm_2 rfl rfl rfl rfl rfl rfl hl.1 rfl (Nat.le_of_ble_eq_true rfl) dX7_of_5 ⟨Nat.zero_le _, Nat.zero_le _⟩ (fun H locs hG9 => ?_)
  have hG : gd_W (dC, dI) A s (gX cI cB b S).flatten H locs := hG9
  refine lv_if_eq (tgt := 23) hx hb dX7_of_8 (by decide) (fun hc => ?_) (fun hc => ?_)
  · have h := fo_it h hc
    refine lv_iconst (v := (-1 : Int32)) hx hb dX7_of_23 (by decide) ?_
    exact gr_i hx hb hr hlocks hK hG (Option.some.inj h) dX7_of_24
  · have h := fo_if h hc
    refine lv_aload_n hx hb dX7_of_11 rfl (lv_at hl 0 rfl) ?_
    refine va_get (D := (dC, dI)) (ci := 6) (v := .ref (b 5 0)) (C := RX7) (T := TX7) (N := 6) hx hb hts inlX7 hown hK hG.1 0 rfl rfl 0 (by decide) (hts (Cond.fieldLink RX7 12 "DiceRoads" "board" "LDiceRoads$Board;") wr_173) (fun _ h9 => h9) rfl dX7_of_12 ?_
    refine lv_iload_n hx hb dX7_of_15 rfl (lv_at hl 1 rfl) ?_
    refine lv_iload_n hx hb dX7_of_16 rfl (lv_at hl 2 rfl) ?_
    obtain ⟨q17, hq17, h⟩ := fo_bd_some h
    refine gq_iV (gs := gX cI cB b S) (gs' := gX cI cB b S) (As := [.int v1, .int v2]) (rest := []) (wc := (wd_B cI (b 5) (S 5))) (w1 := (wd_B cI (b 5) (S 5))) (b := b 5 0) (C := RX0) (ci := 0) (q0 := 0) ⟨hx, hb, hml, hown, hts⟩ (c0_factOfPlayer l (a := b 5) hq17) (cwV 2 hts gv_X7_73 rfl rfl rfl hd0_factOfPlayer ⟨Nat.le_of_ble_eq_true rfl, Nat.le_of_ble_eq_true rfl⟩) hK [0] rfl hA hG [5] [0, 1, 2, 3, 4, 6, 7, 8, 9, 10, 11, 12, 13, 14, 15] pm_2 pm_2 rfl rfl rfl rfl rfl rfl hl.1 rfl (Nat.le_of_ble_eq_true rfl) dX7_of_17 ⟨Nat.zero_le _, Nat.zero_le _⟩ (fun H locs hG9 => ?_)
    have hG : gd_W (dC, dI) A s (gX cI cB b S).flatten H locs := hG9
    refine lv_goto (tgt := 24) hx hb dX7_of_20 (by decide) ?_
    exact gr_i hx hb hr hlocks hK hG (Option.some.inj h) dX7_of_24
set_option maxRecDepth 100000 in
set_option maxHeartbeats 4000000 in
theorem c7_of (l : Launch) {dC : Nat → ClassId} {dI : Nat → Nat → Nat} {cI : ClassId} {cB : ClassId} {b : Nat → Nat → Nat} {v1 : Int32} {v2 : Int32} {S : xs_T} {q : Int32} (h : f7_of v1 v2 S = some q) : mi_M l yX7_of wm7_of RM7_of (dC, dI) [(cI, .int), (cB, .object "DiceRoads$Board")] [.ref (b 0 0), .int v1, .int v2] (gX cI cB b S).flatten q (gX cI cB b S).flatten := by
  intro sz
  refine Met.ofW (cc := cX7_of) (maxL := 3) (ret := (some .int)) (by decide) rfl ?_
  intro p e s m args below meth c s₁ B hml hv
  obtain ⟨rfl, hsz, hP, hK, hD0⟩ := hv
  subst hsz
  have hl := lv_entry ([.ref (b 0 0), .int v1, .int v2] : List Value) (n := 3) (Nat.le_of_ble_eq_true rfl)
  rw [lg_entry_eq]
  generalize (lg_sl ([.ref (b 0 0), .int v1, .int v2] : List Value) ++ List.replicate (3 - (lg_sl ([.ref (b 0 0), .int v1, .int v2] : List Value)).length) Slot.unset).toArray = ls at hl ⊢
  exact w7_of (b := b) ⟨B.exec, B.bytes, B.returns, fun w hw => atoms_spec (ws := wm7_of) B.pre w (List.mem_cons_of_mem _ hw), findClass_of_methodNamed B.named, B.notSynchronized, hml⟩ hK (fun _ h => Or.inr h) h ⟨hP, hD0.self, va_S.rf⟩ hl
end
/-! ## DiceRoads.ofSquare(II)I -/
section
variable {p : Program} {l : Launch} {e : Env} {s : State} {m : MethodId} {args : Array Value} {below : List Frame} {meth : Method} {c : Code} {dC : Nat → ClassId} {dI : Nat → Nat → Nat} {cI cB : ClassId} {A : Nat → Prop}
set_option maxRecDepth 100000 in
set_option maxHeartbeats 4000000 in
theorem w7_ofSquare (C : cx_M p s m args meth c RX7 cX7_ofSquare (some .int) 3) (hK : va_K (dC, dI) vwCl [(cI, .int), (cB, .object "DiceRoads$Board")] s) (hA : ∀ q, s.heap.size ≤ q → A q) {b : Nat → Nat → Nat} {q : Int32} {v1 : Int32} {v2 : Int32} {S : xs_T} (h : f7_ofSquare v1 v2 S = some q) {H : Heap} {locs : List Loc} {ls : Array Slot} (hG : gd_W (dC, dI) A s (gX cI cB b S).flatten H locs) (hl : lv_has ls 3 [(0, .ref (b 0 0)), (1, .int v1), (2, .int v2)]) : W p l e RM7_ofSquare s m args below meth c H locs 0 0 (MQ below (qi_W (dC, dI) [(cI, .int), (cB, .object "DiceRoads$Board")] A q (gX cI cB b S).flatten) args s 0 0 A) (F0 m 0 ls []) := by
  unfold f7_ofSquare at h
  obtain ⟨hx, hb, hr, hts, hown, hlocks, hml⟩ := id C
  refine lv_iload_n hx hb dX7_ofSquare_0 rfl (lv_at hl 1 rfl) ?_
  refine lv_if_lt (tgt := 22) hx hb dX7_ofSquare_1 (by decide) (fun hc => ?_) (fun hc => ?_)
  · have h := fo_it h hc
    refine lv_iconst (v := (-1 : Int32)) hx hb dX7_ofSquare_22 (by decide) ?_
    exact gr_i hx hb hr hlocks hK hG (Option.some.inj h) dX7_ofSquare_23
  · have h := fo_if h hc
    refine lv_iload_n hx hb dX7_ofSquare_4 rfl (lv_at hl 1 rfl) ?_
    refine lv_bipush (v := (20 : Int32)) hx hb dX7_ofSquare_5 (by decide) ?_
    refine lv_icmp_ge (tgt := 22) hx hb dX7_ofSquare_7 (by decide) (fun hc => ?_) (fun hc => ?_)
    · have h := fo_it h hc
      refine lv_iconst (v := (-1 : Int32)) hx hb dX7_ofSquare_22 (by decide) ?_
      exact gr_i hx hb hr hlocks hK hG (Option.some.inj h) dX7_ofSquare_23
    · have h := fo_if h hc
      refine lv_aload_n hx hb dX7_ofSquare_10 rfl (lv_at hl 0 rfl) ?_
      refine va_get (D := (dC, dI)) (ci := 6) (v := .ref (b 5 0)) (C := RX7) (T := TX7) (N := 6) hx hb hts inlX7 hown hK hG.1 0 rfl rfl 0 (by decide) (hts (Cond.fieldLink RX7 12 "DiceRoads" "board" "LDiceRoads$Board;") wr_173) (fun _ h9 => h9) rfl dX7_ofSquare_11 ?_
      refine lv_iload_n hx hb dX7_ofSquare_14 rfl (lv_at hl 1 rfl) ?_
      refine lv_iload_n hx hb dX7_ofSquare_15 rfl (lv_at hl 2 rfl) ?_
      obtain ⟨q16, hq16, h⟩ := fo_bd_some h
      refine gq_iV (gs := gX cI cB b S) (gs' := gX cI cB b S) (As := [.int v1, .int v2]) (rest := []) (wc := (wd_B cI (b 5) (S 5))) (w1 := (wd_B cI (b 5) (S 5))) (b := b 5 0) (C := RX0) (ci := 0) (q0 := 0) ⟨hx, hb, hml, hown, hts⟩ (c0_factOfSquare l (a := b 5) hq16) (cwV 2 hts gv_X7_76 rfl rfl rfl hd0_factOfSquare ⟨Nat.le_of_ble_eq_true rfl, Nat.le_of_ble_eq_true rfl⟩) hK [0] rfl hA hG [5] [0, 1, 2, 3, 4, 6, 7, 8, 9, 10, 11, 12, 13, 14, 15] pm_2 pm_2 rfl rfl rfl rfl rfl rfl hl.1 rfl (Nat.le_of_ble_eq_true rfl) dX7_ofSquare_16 ⟨Nat.zero_le _, Nat.zero_le _⟩ (fun H locs hG9 => ?_)
      have hG : gd_W (dC, dI) A s (gX cI cB b S).flatten H locs := hG9
      refine lv_goto (tgt := 23) hx hb dX7_ofSquare_19 (by decide) ?_
      exact gr_i hx hb hr hlocks hK hG (Option.some.inj h) dX7_ofSquare_23
set_option maxRecDepth 100000 in
set_option maxHeartbeats 4000000 in
theorem c7_ofSquare (l : Launch) {dC : Nat → ClassId} {dI : Nat → Nat → Nat} {cI : ClassId} {cB : ClassId} {b : Nat → Nat → Nat} {v1 : Int32} {v2 : Int32} {S : xs_T} {q : Int32} (h : f7_ofSquare v1 v2 S = some q) : mi_M l yX7_ofSquare wm7_ofSquare RM7_ofSquare (dC, dI) [(cI, .int), (cB, .object "DiceRoads$Board")] [.ref (b 0 0), .int v1, .int v2] (gX cI cB b S).flatten q (gX cI cB b S).flatten := by
  intro sz
  refine Met.ofW (cc := cX7_ofSquare) (maxL := 3) (ret := (some .int)) (by decide) rfl ?_
  intro p e s m args below meth c s₁ B hml hv
  obtain ⟨rfl, hsz, hP, hK, hD0⟩ := hv
  subst hsz
  have hl := lv_entry ([.ref (b 0 0), .int v1, .int v2] : List Value) (n := 3) (Nat.le_of_ble_eq_true rfl)
  rw [lg_entry_eq]
  generalize (lg_sl ([.ref (b 0 0), .int v1, .int v2] : List Value) ++ List.replicate (3 - (lg_sl ([.ref (b 0 0), .int v1, .int v2] : List Value)).length) Slot.unset).toArray = ls at hl ⊢
  exact w7_ofSquare (b := b) ⟨B.exec, B.bytes, B.returns, fun w hw => atoms_spec (ws := wm7_ofSquare) B.pre w (List.mem_cons_of_mem _ hw), findClass_of_methodNamed B.named, B.notSynchronized, hml⟩ hK (fun _ h => Or.inr h) h ⟨hP, hD0.self, va_S.rf⟩ hl
end
/-! ## DiceRoads.owes(III)I -/
section
variable {p : Program} {l : Launch} {e : Env} {s : State} {m : MethodId} {args : Array Value} {below : List Frame} {meth : Method} {c : Code} {dC : Nat → ClassId} {dI : Nat → Nat → Nat} {cI cB : ClassId} {A : Nat → Prop}
set_option maxRecDepth 100000 in
set_option maxHeartbeats 4000000 in
theorem w7_owes (C : cx_M p s m args meth c RX7 cX7_owes (some .int) 4) (hK : va_K (dC, dI) vwCl [(cI, .int), (cB, .object "DiceRoads$Board")] s) (hA : ∀ q, s.heap.size ≤ q → A q) {b : Nat → Nat → Nat} {q : Int32} {v1 : Int32} {v2 : Int32} {v3 : Int32} {S : xs_T} (h : f7_owes v1 v2 v3 S = some q) {H : Heap} {locs : List Loc} {ls : Array Slot} (hG : gd_W (dC, dI) A s (gX cI cB b S).flatten H locs) (hl : lv_has ls 4 [(0, .ref (b 0 0)), (1, .int v1), (2, .int v2), (3, .int v3)]) : W p l e RM7_owes s m args below meth c H locs 0 0 (MQ below (qi_W (dC, dI) [(cI, .int), (cB, .object "DiceRoads$Board")] A q (gX cI cB b S).flatten) args s 0 0 A) (F0 m 0 ls []) := by
  unfold f7_owes at h
  obtain ⟨hx, hb, hr, hts, hown, hlocks, hml⟩ := id C
  refine lv_aload_n hx hb dX7_owes_0 rfl (lv_at hl 0 rfl) ?_
  refine va_get (D := (dC, dI)) (ci := 6) (v := .ref (b 5 0)) (C := RX7) (T := TX7) (N := 6) hx hb hts inlX7 hown hK hG.1 0 rfl rfl 0 (by decide) (hts (Cond.fieldLink RX7 12 "DiceRoads" "board" "LDiceRoads$Board;") wr_173) (fun _ h9 => h9) rfl dX7_owes_1 ?_
  refine lv_iload_n hx hb dX7_owes_4 rfl (lv_at hl 1 rfl) ?_
  obtain ⟨q5, hq5, h⟩ := fo_bd_some h
  refine gq_iV (gs := gX cI cB b S) (gs' := gX cI cB b S) (As := [.int v1]) (rest := []) (wc := (wd_B cI (b 5) (S 5))) (w1 := (wd_B cI (b 5) (S 5))) (b := b 5 0) (C := RX0) (ci := 0) (q0 := 0) ⟨hx, hb, hml, hown, hts⟩ (c0_hasPlayer l (a := b 5) hq5) (cwV 1 hts gv_X7_69 rfl rfl rfl hd0_hasPlayer ⟨Nat.le_of_ble_eq_true rfl, Nat.le_of_ble_eq_true rfl⟩) hK [0] rfl hA hG [5] [0, 1, 2, 3, 4, 6, 7, 8, 9, 10, 11, 12, 13, 14, 15] pm_2 pm_2 rfl rfl rfl rfl rfl rfl hl.1 rfl (Nat.le_of_ble_eq_true rfl) dX7_owes_5 ⟨Nat.zero_le _, Nat.zero_le _⟩ (fun H locs hG9 => ?_)
  have hG : gd_W (dC, dI) A s (gX cI cB b S).flatten H locs := hG9
  refine lv_if_eq (tgt := 22) hx hb dX7_owes_8 (by decide) (fun hc => ?_) (fun hc => ?_)
  · have h := fo_it h hc
    refine lv_iconst (v := (-1 : Int32)) hx hb dX7_owes_22 (by decide) ?_
    exact gr_i hx hb hr hlocks hK hG (Option.some.inj h) dX7_owes_23
  · have h := fo_if h hc
    refine lv_aload_n hx hb dX7_owes_11 rfl (lv_at hl 0 rfl) ?_
    refine va_get (D := (dC, dI)) (ci := 6) (v := .ref (b 5 0)) (C := RX7) (T := TX7) (N := 6) hx hb hts inlX7 hown hK hG.1 0 rfl rfl 0 (by decide) (hts (Cond.fieldLink RX7 12 "DiceRoads" "board" "LDiceRoads$Board;") wr_173) (fun _ h9 => h9) rfl dX7_owes_12 ?_
    refine lv_iload_n hx hb dX7_owes_15 rfl (lv_at hl 2 rfl) ?_
    obtain ⟨q16, hq16, h⟩ := fo_bd_some h
    refine gq_iV (gs := gX cI cB b S) (gs' := gX cI cB b S) (As := [.int v2]) (rest := []) (wc := (wd_B cI (b 5) (S 5))) (w1 := (wd_B cI (b 5) (S 5))) (b := b 5 0) (C := RX0) (ci := 0) (q0 := 0) ⟨hx, hb, hml, hown, hts⟩ (c0_hasPlayer l (a := b 5) hq16) (cwV 1 hts gv_X7_69 rfl rfl rfl hd0_hasPlayer ⟨Nat.le_of_ble_eq_true rfl, Nat.le_of_ble_eq_true rfl⟩) hK [0] rfl hA hG [5] [0, 1, 2, 3, 4, 6, 7, 8, 9, 10, 11, 12, 13, 14, 15] pm_2 pm_2 rfl rfl rfl rfl rfl rfl hl.1 rfl (Nat.le_of_ble_eq_true rfl) dX7_owes_16 ⟨Nat.zero_le _, Nat.zero_le _⟩ (fun H locs hG9 => ?_)
    have hG : gd_W (dC, dI) A s (gX cI cB b S).flatten H locs := hG9
    refine lv_if_ne (tgt := 24) hx hb dX7_owes_19 (by decide) (fun hc => ?_) (fun hc => ?_)
    · have h := fo_if h hc
      refine lv_iload_n hx hb dX7_owes_24 rfl (lv_at hl 3 rfl) ?_
      refine lv_if_lt (tgt := 38) hx hb dX7_owes_25 (by decide) (fun hc => ?_) (fun hc => ?_)
      · have h := fo_it h hc
        refine lv_bipush (v := (-2 : Int32)) hx hb dX7_owes_38 (by decide) ?_
        exact gr_i hx hb hr hlocks hK hG (Option.some.inj h) dX7_owes_40
      · have h := fo_if h hc
        refine lv_iload_n hx hb dX7_owes_28 rfl (lv_at hl 3 rfl) ?_
        refine lv_iconst (v := (1 : Int32)) hx hb dX7_owes_29 (by decide) ?_
        refine lv_icmp_gt (tgt := 38) hx hb dX7_owes_30 (by decide) (fun hc => ?_) (fun hc => ?_)
        · have h := fo_it h hc
          refine lv_bipush (v := (-2 : Int32)) hx hb dX7_owes_38 (by decide) ?_
          exact gr_i hx hb hr hlocks hK hG (Option.some.inj h) dX7_owes_40
        · have h := fo_if h hc
          refine lv_iload_n hx hb dX7_owes_33 rfl (lv_at hl 1 rfl) ?_
          refine lv_iload_n hx hb dX7_owes_34 rfl (lv_at hl 2 rfl) ?_
          refine lv_icmp_ne (tgt := 41) hx hb dX7_owes_35 (by decide) (fun hc => ?_) (fun hc => ?_)
          · have h := fo_if h hc
            refine lv_iload_n hx hb dX7_owes_41 rfl (lv_at hl 3 rfl) ?_
            refine lv_if_ne (tgt := 60) hx hb dX7_owes_42 (by decide) (fun hc => ?_) (fun hc => ?_)
            · have h := fo_if h hc
              refine lv_aload_n hx hb dX7_owes_60 rfl (lv_at hl 0 rfl) ?_
              refine va_get (D := (dC, dI)) (ci := 6) (v := .ref (b 5 0)) (C := RX7) (T := TX7) (N := 6) hx hb hts inlX7 hown hK hG.1 0 rfl rfl 0 (by decide) (hts (Cond.fieldLink RX7 12 "DiceRoads" "board" "LDiceRoads$Board;") wr_173) (fun _ h9 => h9) rfl dX7_owes_61 ?_
              refine va_get (D := (dC, dI)) (ci := 0) (v := .ref (b 5 6)) (C := RX0) (T := TX0) (N := 15) hx hb hts inlX0 hown hK hG.1 10 rfl rfl 1 (by decide) (hts (Cond.fieldLink RX7 79 "DiceRoads$Board" "debts" "LDiceRoads$Debts;") wr_91) (fun _ h9 => h9) rfl dX7_owes_64 ?_
              refine lv_iload_n hx hb dX7_owes_67 rfl (lv_at hl 1 rfl) ?_
              refine lv_iload_n hx hb dX7_owes_68 rfl (lv_at hl 2 rfl) ?_
              obtain ⟨q69, hq69, h⟩ := fo_bd_some h
              refine gc_iV (b := b 5 6) (C := RX1) (As := [.int v1, .int v2]) (rest := []) (wc := (wd_D cI (fun k => b 5 (k + 6)) (ms_from (S 5) 2))) (w1 := (wd_D cI (fun k => b 5 (k + 6)) (ms_from (S 5) 2))) (ci := 1) (q0 := 0) ⟨hx, hb, hml, hown, hts⟩ (c1_ageOf l (a := (fun k => b 5 (k + 6))) hq69) (cwV 2 hts gv_X7_88 rfl rfl rfl hd1_ageOf ⟨Nat.le_of_ble_eq_true rfl, Nat.le_of_ble_eq_true rfl⟩) hK [0] rfl hA hG [16, 17, 18, 19, 20, 21, 22] rfl rfl rfl rfl rfl rfl hl.1 rfl (Nat.le_of_ble_eq_true rfl) dX7_owes_69 ⟨Nat.zero_le _, Nat.zero_le _⟩ (fun H locs hG9 => ?_)
              have hG : gd_W (dC, dI) A s (gX cI cB b S).flatten H locs := hG9
              exact gr_i hx hb hr hlocks hK hG (Option.some.inj h) dX7_owes_72
            · have h := fo_it h hc
              refine lv_aload_n hx hb dX7_owes_45 rfl (lv_at hl 0 rfl) ?_
              refine va_get (D := (dC, dI)) (ci := 6) (v := .ref (b 5 0)) (C := RX7) (T := TX7) (N := 6) hx hb hts inlX7 hown hK hG.1 0 rfl rfl 0 (by decide) (hts (Cond.fieldLink RX7 12 "DiceRoads" "board" "LDiceRoads$Board;") wr_173) (fun _ h9 => h9) rfl dX7_owes_46 ?_
              refine va_get (D := (dC, dI)) (ci := 0) (v := .ref (b 5 6)) (C := RX0) (T := TX0) (N := 15) hx hb hts inlX0 hown hK hG.1 10 rfl rfl 1 (by decide) (hts (Cond.fieldLink RX7 79 "DiceRoads$Board" "debts" "LDiceRoads$Debts;") wr_91) (fun _ h9 => h9) rfl dX7_owes_49 ?_
              refine lv_iload_n hx hb dX7_owes_52 rfl (lv_at hl 1 rfl) ?_
              refine lv_iload_n hx hb dX7_owes_53 rfl (lv_at hl 2 rfl) ?_
              obtain ⟨q54, hq54, h⟩ := fo_bd_some h
              refine gc_iV (b := b 5 6) (C := RX1) (As := [.int v1, .int v2]) (rest := []) (wc := (wd_D cI (fun k => b 5 (k + 6)) (ms_from (S 5) 2))) (w1 := (wd_D cI (fun k => b 5 (k + 6)) (ms_from (S 5) 2))) (ci := 1) (q0 := 0) ⟨hx, hb, hml, hown, hts⟩ (c1_coinsOf l (a := (fun k => b 5 (k + 6))) hq54) (cwV 2 hts gv_X7_83 rfl rfl rfl hd1_coinsOf ⟨Nat.le_of_ble_eq_true rfl, Nat.le_of_ble_eq_true rfl⟩) hK [0] rfl hA hG [16, 17, 18, 19, 20, 21, 22] rfl rfl rfl rfl rfl rfl hl.1 rfl (Nat.le_of_ble_eq_true rfl) dX7_owes_54 ⟨Nat.zero_le _, Nat.zero_le _⟩ (fun H locs hG9 => ?_)
              have hG : gd_W (dC, dI) A s (gX cI cB b S).flatten H locs := hG9
              refine lv_goto (tgt := 72) hx hb dX7_owes_57 (by decide) ?_
              exact gr_i hx hb hr hlocks hK hG (Option.some.inj h) dX7_owes_72
          · have h := fo_it h hc
            refine lv_bipush (v := (-2 : Int32)) hx hb dX7_owes_38 (by decide) ?_
            exact gr_i hx hb hr hlocks hK hG (Option.some.inj h) dX7_owes_40
    · have h := fo_it h hc
      refine lv_iconst (v := (-1 : Int32)) hx hb dX7_owes_22 (by decide) ?_
      exact gr_i hx hb hr hlocks hK hG (Option.some.inj h) dX7_owes_23
set_option maxRecDepth 100000 in
set_option maxHeartbeats 4000000 in
theorem c7_owes (l : Launch) {dC : Nat → ClassId} {dI : Nat → Nat → Nat} {cI : ClassId} {cB : ClassId} {b : Nat → Nat → Nat} {v1 : Int32} {v2 : Int32} {v3 : Int32} {S : xs_T} {q : Int32} (h : f7_owes v1 v2 v3 S = some q) : mi_M l yX7_owes wm7_owes RM7_owes (dC, dI) [(cI, .int), (cB, .object "DiceRoads$Board")] [.ref (b 0 0), .int v1, .int v2, .int v3] (gX cI cB b S).flatten q (gX cI cB b S).flatten := by
  intro sz
  refine Met.ofW (cc := cX7_owes) (maxL := 4) (ret := (some .int)) (by decide) rfl ?_
  intro p e s m args below meth c s₁ B hml hv
  obtain ⟨rfl, hsz, hP, hK, hD0⟩ := hv
  subst hsz
  have hl := lv_entry ([.ref (b 0 0), .int v1, .int v2, .int v3] : List Value) (n := 4) (Nat.le_of_ble_eq_true rfl)
  rw [lg_entry_eq]
  generalize (lg_sl ([.ref (b 0 0), .int v1, .int v2, .int v3] : List Value) ++ List.replicate (4 - (lg_sl ([.ref (b 0 0), .int v1, .int v2, .int v3] : List Value)).length) Slot.unset).toArray = ls at hl ⊢
  exact w7_owes (b := b) ⟨B.exec, B.bytes, B.returns, fun w hw => atoms_spec (ws := wm7_owes) B.pre w (List.mem_cons_of_mem _ hw), findClass_of_methodNamed B.named, B.notSynchronized, hml⟩ hK (fun _ h => Or.inr h) h ⟨hP, hD0.self, va_S.rf⟩ hl
end
/-! ## DiceRoads.count(I)I -/
section
variable {p : Program} {l : Launch} {e : Env} {s : State} {m : MethodId} {args : Array Value} {below : List Frame} {meth : Method} {c : Code} {dC : Nat → ClassId} {dI : Nat → Nat → Nat} {cI cB : ClassId} {A : Nat → Prop}
set_option maxRecDepth 100000 in
set_option maxHeartbeats 4000000 in
theorem w7_count (C : cx_M p s m args meth c RX7 cX7_count (some .int) 2) (hK : va_K (dC, dI) vwCl [(cI, .int), (cB, .object "DiceRoads$Board")] s) (hA : ∀ q, s.heap.size ≤ q → A q) {b : Nat → Nat → Nat} {q : (Int32 × xs_T)} {v1 : Int32} {S : xs_T} (h : f7_count v1 S = some q) {H : Heap} {locs : List Loc} {ls : Array Slot} (hG : gd_W (dC, dI) A s (gX cI cB b S).flatten H locs) (hl : lv_has ls 2 [(0, .ref (b 0 0)), (1, .int v1)]) : W p l e RM7_count s m args below meth c H locs 0 0 (MQ below (qi_W (dC, dI) [(cI, .int), (cB, .object "DiceRoads$Board")] A q.1 (gX cI cB b q.2).flatten) args s 0 0 A) (F0 m 0 ls []) := by
  unfold f7_count at h
  obtain ⟨hx, hb, hr, hts, hown, hlocks, hml⟩ := id C
  refine lv_iload_n hx hb dX7_count_0 rfl (lv_at hl 1 rfl) ?_
  by_cases hc : v1 = (14 : Int32)
  · have h := fo_it h hc
    refine W.eq (g2 := F0 m 1 ls [.int (14 : Int32)]) (by rw [hc]) ?_
    refine lv_tableIn (tgt := 28) hx hb dX7_count_1 (by decide) (by decide) rfl (by decide) ?_
    refine lv_aload_n hx hb dX7_count_28 rfl (lv_at hl 0 rfl) ?_
    refine va_get (D := (dC, dI)) (ci := 6) (v := .ref (b 5 0)) (C := RX7) (T := TX7) (N := 6) hx hb hts inlX7 hown hK hG.1 0 rfl rfl 0 (by decide) (hts (Cond.fieldLink RX7 12 "DiceRoads" "board" "LDiceRoads$Board;") wr_173) (fun _ h9 => h9) rfl dX7_count_29 ?_
    refine lv_aload_n hx hb dX7_count_32 rfl (lv_at hl 0 rfl) ?_
    refine va_get (D := (dC, dI)) (ci := 6) (v := .ref (b 4 0)) (C := RX7) (T := TX7) (N := 6) hx hb hts inlX7 hown hK hG.1 0 rfl rfl 5 (by decide) (hts (Cond.fieldLink RX7 39 "DiceRoads" "boardText" "LDiceRoads$Line;") wr_178) (fun _ h9 => h9) rfl dX7_count_33 ?_
    obtain ⟨q36, hq36, h⟩ := fo_bd_some h
    refine gq_vV (gs := gX cI cB b S) (gs' := gX cI cB b (xs_set (xs_set S 5 q36) 4 (ms_from q36 13))) (As := [.ref (b 4 0)]) (rest := []) (wc := (wd_BL cI (fun k => if k < 27 then b 5 k else b 4 (k - 27)) 44 (ms_sub (S 5) 13 2 (S 4)))) (w1 := (wd_BL cI (fun k => if k < 27 then b 5 k else b 4 (k - 27)) 44 q36)) (b := b 5 0) (C := RX0) (ci := 0) (q0 := 0) ⟨hx, hb, hml, hown, hts⟩ (c0_describe l (a := (fun k => if k < 27 then b 5 k else b 4 (k - 27))) (g := 44) hq36) (cwV 1 hts gv_X7_91 rfl rfl rfl hd0_describe ⟨Nat.le_of_ble_eq_true rfl, Nat.le_of_ble_eq_true rfl⟩) hK [0] rfl hA hG [5, 4] [0, 1, 2, 3, 6, 7, 8, 9, 10, 11, 12, 13, 14, 15] pm_3 pm_3 rfl rfl rfl rfl rfl rfl hl.1 rfl (Nat.le_of_ble_eq_true rfl) dX7_count_36 ⟨Nat.zero_le _, Nat.zero_le _⟩ (fun H locs hG9 => ?_)
    have hG : gd_W (dC, dI) A s (gX cI cB b (xs_set (xs_set S 5 q36) 4 (ms_from q36 13))).flatten H locs := hG9
    refine lv_aload_n hx hb dX7_count_39 rfl (lv_at hl 0 rfl) ?_
    refine va_get (D := (dC, dI)) (ci := 6) (v := .ref (b 4 0)) (C := RX7) (T := TX7) (N := 6) hx hb hts inlX7 hown hK hG.1 0 rfl rfl 5 (by decide) (hts (Cond.fieldLink RX7 39 "DiceRoads" "boardText" "LDiceRoads$Line;") wr_178) (fun _ h9 => h9) rfl dX7_count_40 ?_
    obtain ⟨q43, hq43, h⟩ := fo_bd_some h
    refine gq_iV (gs := gX cI cB b (xs_set (xs_set S 5 q36) 4 (ms_from q36 13))) (gs' := gX cI cB b (xs_set (xs_set S 5 q36) 4 (ms_from q36 13))) (As := []) (rest := []) (wc := (wd_L cI (b 4) 44 ((xs_set (xs_set S 5 q36) 4 (ms_from q36 13)) 4))) (w1 := (wd_L cI (b 4) 44 ((xs_set (xs_set S 5 q36) 4 (ms_from q36 13)) 4))) (b := b 4 0) (C := RX3) (ci := 3) (q0 := 0) ⟨hx, hb, hml, hown, hts⟩ (c3_length l (a := b 4) (g := 44) hq43) (cwV 0 hts gv_X7_95 rfl rfl rfl hd3_length ⟨Nat.le_of_ble_eq_true rfl, Nat.le_of_ble_eq_true rfl⟩) hK [0] rfl hA hG [4] [0, 1, 2, 3, 5, 6, 7, 8, 9, 10, 11, 12, 13, 14, 15] pm_4 pm_4 rfl rfl rfl rfl rfl rfl hl.1 rfl (Nat.le_of_ble_eq_true rfl) dX7_count_43 ⟨Nat.zero_le _, Nat.zero_le _⟩ (fun H locs hG9 => ?_)
    have hG : gd_W (dC, dI) A s (gX cI cB b (xs_set (xs_set S 5 q36) 4 (ms_from q36 13))).flatten H locs := hG9
    obtain rfl := Option.some.inj h
    exact gr_i hx hb hr hlocks hK hG rfl dX7_count_46
  replace h := fo_if h hc
  have hn14 := lv_neT (a := 14) hc (by decide)
  have hm14 := hc
  clear hc
  by_cases hc : v1 = (15 : Int32)
  · have h := fo_it h hc
    refine W.eq (g2 := F0 m 1 ls [.int (15 : Int32)]) (by rw [hc]) ?_
    refine lv_tableIn (tgt := 47) hx hb dX7_count_1 (by decide) (by decide) rfl (by decide) ?_
    refine lv_aload_n hx hb dX7_count_47 rfl (lv_at hl 0 rfl) ?_
    refine va_get (D := (dC, dI)) (ci := 6) (v := .ref (b 3 0)) (C := RX7) (T := TX7) (N := 6) hx hb hts inlX7 hown hK hG.1 0 rfl rfl 4 (by decide) (hts (Cond.fieldLink RX7 35 "DiceRoads" "pad" "LDiceRoads$Line;") wr_177) (fun _ h9 => h9) rfl dX7_count_48 ?_
    obtain ⟨q51, hq51, h⟩ := fo_bd_some h
    refine gq_iV (gs := gX cI cB b S) (gs' := gX cI cB b S) (As := []) (rest := []) (wc := (wd_L cI (b 3) 80 (S 3))) (w1 := (wd_L cI (b 3) 80 (S 3))) (b := b 3 0) (C := RX3) (ci := 3) (q0 := 0) ⟨hx, hb, hml, hown, hts⟩ (c3_length l (a := b 3) (g := 80) hq51) (cwV 0 hts gv_X7_95 rfl rfl rfl hd3_length ⟨Nat.le_of_ble_eq_true rfl, Nat.le_of_ble_eq_true rfl⟩) hK [0] rfl hA hG [3] [0, 1, 2, 4, 5, 6, 7, 8, 9, 10, 11, 12, 13, 14, 15] pm_5 pm_5 rfl rfl rfl rfl rfl rfl hl.1 rfl (Nat.le_of_ble_eq_true rfl) dX7_count_51 ⟨Nat.zero_le _, Nat.zero_le _⟩ (fun H locs hG9 => ?_)
    have hG : gd_W (dC, dI) A s (gX cI cB b S).flatten H locs := hG9
    obtain rfl := Option.some.inj h
    exact gr_i hx hb hr hlocks hK hG rfl dX7_count_54
  replace h := fo_if h hc
  have hn15 := lv_neT (a := 15) hc (by decide)
  have hm15 := hc
  clear hc
  by_cases hc : v1 = (16 : Int32)
  · have h := fo_it h hc
    refine W.eq (g2 := F0 m 1 ls [.int (16 : Int32)]) (by rw [hc]) ?_
    refine lv_tableIn (tgt := 55) hx hb dX7_count_1 (by decide) (by decide) rfl (by decide) ?_
    refine lv_aload_n hx hb dX7_count_55 rfl (lv_at hl 0 rfl) ?_
    refine va_get (D := (dC, dI)) (ci := 6) (v := .ref (b 2 0)) (C := RX7) (T := TX7) (N := 6) hx hb hts inlX7 hown hK hG.1 0 rfl rfl 2 (by decide) (hts (Cond.fieldLink RX7 22 "DiceRoads" "history" "LDiceRoads$History;") wr_175) (fun _ h9 => h9) rfl dX7_count_56 ?_
    obtain ⟨q59, hq59, h⟩ := fo_bd_some h
    refine gq_iV (gs := gX cI cB b S) (gs' := gX cI cB b S) (As := []) (rest := []) (wc := (wd_H cB (b 2) (fun k => b (7 + k) 0) (S 2))) (w1 := (wd_H cB (b 2) (fun k => b (7 + k) 0) (S 2))) (b := b 2 0) (C := RX2) (ci := 2) (q0 := 0) ⟨hx, hb, hml, hown, hts⟩ (c2_kept l (cI := cI) (a := b 2) (yb := fun k => b (7 + k) 0) hq59) (cwV 0 hts gv_X7_99 rfl rfl rfl hd2_kept ⟨Nat.le_of_ble_eq_true rfl, Nat.le_of_ble_eq_true rfl⟩) hK [1] rfl hA hG [2] [0, 1, 3, 4, 5, 6, 7, 8, 9, 10, 11, 12, 13, 14, 15] pm_0 pm_0 rfl rfl rfl rfl rfl rfl hl.1 rfl (Nat.le_of_ble_eq_true rfl) dX7_count_59 ⟨Nat.zero_le _, Nat.zero_le _⟩ (fun H locs hG9 => ?_)
    have hG : gd_W (dC, dI) A s (gX cI cB b S).flatten H locs := hG9
    obtain rfl := Option.some.inj h
    exact gr_i hx hb hr hlocks hK hG rfl dX7_count_62
  replace h := fo_if h hc
  have hn16 := lv_neT (a := 16) hc (by decide)
  have hm16 := hc
  clear hc
  refine lv_tableOut (tgt := 63) hx hb dX7_count_1 (by omega) (by decide) ?_
  refine lv_aload_n hx hb dX7_count_63 rfl (lv_at hl 0 rfl) ?_
  refine va_get (D := (dC, dI)) (ci := 6) (v := .ref (b 5 0)) (C := RX7) (T := TX7) (N := 6) hx hb hts inlX7 hown hK hG.1 0 rfl rfl 0 (by decide) (hts (Cond.fieldLink RX7 12 "DiceRoads" "board" "LDiceRoads$Board;") wr_173) (fun _ h9 => h9) rfl dX7_count_64 ?_
  refine lv_iload_n hx hb dX7_count_67 rfl (lv_at hl 1 rfl) ?_
  obtain ⟨q68, hq68, h⟩ := fo_bd_some h
  refine gq_iV (gs := gX cI cB b S) (gs' := gX cI cB b S) (As := [.int v1]) (rest := []) (wc := (wd_B cI (b 5) (S 5))) (w1 := (wd_B cI (b 5) (S 5))) (b := b 5 0) (C := RX0) (ci := 0) (q0 := 0) ⟨hx, hb, hml, hown, hts⟩ (c0_fact l (a := b 5) hq68) (cwV 1 hts gv_X7_102 rfl rfl rfl hd0_fact ⟨Nat.le_of_ble_eq_true rfl, Nat.le_of_ble_eq_true rfl⟩) hK [0] rfl hA hG [5] [0, 1, 2, 3, 4, 6, 7, 8, 9, 10, 11, 12, 13, 14, 15] pm_2 pm_2 rfl rfl rfl rfl rfl rfl hl.1 rfl (Nat.le_of_ble_eq_true rfl) dX7_count_68 ⟨Nat.zero_le _, Nat.zero_le _⟩ (fun H locs hG9 => ?_)
  have hG : gd_W (dC, dI) A s (gX cI cB b S).flatten H locs := hG9
  obtain rfl := Option.some.inj h
  exact gr_i hx hb hr hlocks hK hG rfl dX7_count_71
set_option maxRecDepth 100000 in
set_option maxHeartbeats 4000000 in
theorem c7_count (l : Launch) {dC : Nat → ClassId} {dI : Nat → Nat → Nat} {cI : ClassId} {cB : ClassId} {b : Nat → Nat → Nat} {v1 : Int32} {S : xs_T} {q : (Int32 × xs_T)} (h : f7_count v1 S = some q) : mi_M l yX7_count wm7_count RM7_count (dC, dI) [(cI, .int), (cB, .object "DiceRoads$Board")] [.ref (b 0 0), .int v1] (gX cI cB b S).flatten q.1 (gX cI cB b q.2).flatten := by
  intro sz
  refine Met.ofW (cc := cX7_count) (maxL := 2) (ret := (some .int)) (by decide) rfl ?_
  intro p e s m args below meth c s₁ B hml hv
  obtain ⟨rfl, hsz, hP, hK, hD0⟩ := hv
  subst hsz
  have hl := lv_entry ([.ref (b 0 0), .int v1] : List Value) (n := 2) (Nat.le_of_ble_eq_true rfl)
  rw [lg_entry_eq]
  generalize (lg_sl ([.ref (b 0 0), .int v1] : List Value) ++ List.replicate (2 - (lg_sl ([.ref (b 0 0), .int v1] : List Value)).length) Slot.unset).toArray = ls at hl ⊢
  exact w7_count (b := b) ⟨B.exec, B.bytes, B.returns, fun w hw => atoms_spec (ws := wm7_count) B.pre w (List.mem_cons_of_mem _ hw), findClass_of_methodNamed B.named, B.notSynchronized, hml⟩ hK (fun _ h => Or.inr h) h ⟨hP, hD0.self, va_S.rf⟩ hl
end
