/-! ## DiceRoads.sign(I)I -/
section
variable {p : Program} {l : Launch} {e : Env} {s : State} {m : MethodId} {args : Array Value} {below : List Frame} {meth : Method} {c : Code} {dC : Nat → ClassId} {dI : Nat → Nat → Nat} {cI cB : ClassId} {A : Nat → Prop}
set_option maxRecDepth 100000 in
set_option maxHeartbeats 4000000 in
theorem w7_sign (C : cx_M p s m args meth c RX7 cX7_sign (some .int) 2) (hK : va_K (dC, dI) vwCl [(cI, .int), (cB, .object "DiceRoads$Board")] s) (hA : ∀ q, s.heap.size ≤ q → A q) {b : Nat → Nat → Nat} {q : (Int32 × xs_T)} {v1 : Int32} {S : xs_T} (h : f7_sign v1 S = some q) {H : Heap} {locs : List Loc} {ls : Array Slot} (hG : gd_W (dC, dI) A s (gX cI cB b S).flatten H locs) (hl : lv_has ls 2 [(0, .ref (b 0 0)), (1, .int v1)]) : W p l e RM7_sign s m args below meth c H locs 0 0 (MQ below (qi_W (dC, dI) [(cI, .int), (cB, .object "DiceRoads$Board")] A q.1 (gX cI cB b q.2).flatten) args s 0 0 A) (F0 m 0 ls []) := by
  unfold f7_sign at h
  obtain ⟨hx, hb, hr, hts, hown, hlocks, hml⟩ := id C
  refine lv_aload_n hx hb dX7_sign_0 rfl (lv_at hl 0 rfl) ?_
  refine va_get (D := (dC, dI)) (ci := 6) (v := .ref (b 5 0)) (C := RX7) (T := TX7) (N := 6) hx hb hts inlX7 hown hK hG.1 0 rfl rfl 0 (by decide) (hts (Cond.fieldLink RX7 12 "DiceRoads" "board" "LDiceRoads$Board;") wr_173) (fun _ h9 => h9) rfl dX7_sign_1 ?_
  refine lv_aload_n hx hb dX7_sign_4 rfl (lv_at hl 0 rfl) ?_
  refine va_get (D := (dC, dI)) (ci := 6) (v := .ref (b 4 0)) (C := RX7) (T := TX7) (N := 6) hx hb hts inlX7 hown hK hG.1 0 rfl rfl 5 (by decide) (hts (Cond.fieldLink RX7 39 "DiceRoads" "boardText" "LDiceRoads$Line;") wr_178) (fun _ h9 => h9) rfl dX7_sign_5 ?_
  obtain ⟨q8, hq8, h⟩ := fo_bd_some h
  refine gq_vV (gs := gX cI cB b S) (gs' := gX cI cB b (xs_set (xs_set S 5 q8) 4 (ms_from q8 13))) (As := [.ref (b 4 0)]) (rest := []) (wc := (wd_BL cI (fun k => if k < 27 then b 5 k else b 4 (k - 27)) 44 (ms_sub (S 5) 13 2 (S 4)))) (w1 := (wd_BL cI (fun k => if k < 27 then b 5 k else b 4 (k - 27)) 44 q8)) (b := b 5 0) (C := RX0) (ci := 0) (q0 := 0) ⟨hx, hb, hml, hown, hts⟩ (c0_describe l (a := (fun k => if k < 27 then b 5 k else b 4 (k - 27))) (g := 44) hq8) (cwV 1 hts gv_X7_91 rfl rfl rfl hd0_describe ⟨Nat.le_of_ble_eq_true rfl, Nat.le_of_ble_eq_true rfl⟩) hK [0] rfl hA hG [5, 4] [0, 1, 2, 3, 6, 7, 8, 9, 10, 11, 12, 13, 14, 15] pm_3 pm_3 rfl rfl rfl rfl rfl rfl hl.1 rfl (Nat.le_of_ble_eq_true rfl) dX7_sign_8 ⟨Nat.zero_le _, Nat.zero_le _⟩ (fun H locs hG9 => ?_)
  have hG : gd_W (dC, dI) A s (gX cI cB b (xs_set (xs_set S 5 q8) 4 (ms_from q8 13))).flatten H locs := hG9
  refine lv_aload_n hx hb dX7_sign_11 rfl (lv_at hl 0 rfl) ?_
  refine va_get (D := (dC, dI)) (ci := 6) (v := .ref (b 4 0)) (C := RX7) (T := TX7) (N := 6) hx hb hts inlX7 hown hK hG.1 0 rfl rfl 5 (by decide) (hts (Cond.fieldLink RX7 39 "DiceRoads" "boardText" "LDiceRoads$Line;") wr_178) (fun _ h9 => h9) rfl dX7_sign_12 ?_
  refine lv_iload_n hx hb dX7_sign_15 rfl (lv_at hl 1 rfl) ?_
  obtain ⟨q16, hq16, h⟩ := fo_bd_some h
  refine gq_iV (gs := gX cI cB b (xs_set (xs_set S 5 q8) 4 (ms_from q8 13))) (gs' := gX cI cB b (xs_set (xs_set S 5 q8) 4 (ms_from q8 13))) (As := [.int v1]) (rest := []) (wc := (wd_L cI (b 4) 44 ((xs_set (xs_set S 5 q8) 4 (ms_from q8 13)) 4))) (w1 := (wd_L cI (b 4) 44 ((xs_set (xs_set S 5 q8) 4 (ms_from q8 13)) 4))) (b := b 4 0) (C := RX3) (ci := 3) (q0 := 0) ⟨hx, hb, hml, hown, hts⟩ (c3_at l (a := b 4) (g := 44) hq16) (cwV 1 hts gv_X7_105 rfl rfl rfl hd3_at ⟨Nat.le_of_ble_eq_true rfl, Nat.le_of_ble_eq_true rfl⟩) hK [0] rfl hA hG [4] [0, 1, 2, 3, 5, 6, 7, 8, 9, 10, 11, 12, 13, 14, 15] pm_4 pm_4 rfl rfl rfl rfl rfl rfl hl.1 rfl (Nat.le_of_ble_eq_true rfl) dX7_sign_16 ⟨Nat.zero_le _, Nat.zero_le _⟩ (fun H locs hG9 => ?_)
  have hG : gd_W (dC, dI) A s (gX cI cB b (xs_set (xs_set S 5 q8) 4 (ms_from q8 13))).flatten H locs := hG9
  obtain rfl := Option.some.inj h
  exact gr_i hx hb hr hlocks hK hG rfl dX7_sign_19
set_option maxRecDepth 100000 in
set_option maxHeartbeats 4000000 in
theorem c7_sign (l : Launch) {dC : Nat → ClassId} {dI : Nat → Nat → Nat} {cI : ClassId} {cB : ClassId} {b : Nat → Nat → Nat} {v1 : Int32} {S : xs_T} {q : (Int32 × xs_T)} (h : f7_sign v1 S = some q) : mi_M l yX7_sign wm7_sign RM7_sign (dC, dI) [(cI, .int), (cB, .object "DiceRoads$Board")] [.ref (b 0 0), .int v1] (gX cI cB b S).flatten q.1 (gX cI cB b q.2).flatten := by
  intro sz
  refine Met.ofW (cc := cX7_sign) (maxL := 2) (ret := (some .int)) (by decide) rfl ?_
  intro p e s m args below meth c s₁ B hml hv
  obtain ⟨rfl, hsz, hP, hK, hD0⟩ := hv
  subst hsz
  have hl := lv_entry ([.ref (b 0 0), .int v1] : List Value) (n := 2) (Nat.le_of_ble_eq_true rfl)
  rw [lg_entry_eq]
  generalize (lg_sl ([.ref (b 0 0), .int v1] : List Value) ++ List.replicate (2 - (lg_sl ([.ref (b 0 0), .int v1] : List Value)).length) Slot.unset).toArray = ls at hl ⊢
  exact w7_sign (b := b) ⟨B.exec, B.bytes, B.returns, fun w hw => atoms_spec (ws := wm7_sign) B.pre w (List.mem_cons_of_mem _ hw), findClass_of_methodNamed B.named, B.notSynchronized, hml⟩ hK (fun _ h => Or.inr h) h ⟨hP, hD0.self, va_S.rf⟩ hl
end
/-! ## DiceRoads.chain(II)I -/
section
variable {p : Program} {l : Launch} {e : Env} {s : State} {m : MethodId} {args : Array Value} {below : List Frame} {meth : Method} {c : Code} {dC : Nat → ClassId} {dI : Nat → Nat → Nat} {cI cB : ClassId} {A : Nat → Prop}
set_option maxRecDepth 100000 in
set_option maxHeartbeats 4000000 in
theorem w7_chain (C : cx_M p s m args meth c RX7 cX7_chain (some .int) 3) (hK : va_K (dC, dI) vwCl [(cI, .int), (cB, .object "DiceRoads$Board")] s) (hA : ∀ q, s.heap.size ≤ q → A q) {b : Nat → Nat → Nat} {q : Int32} {v1 : Int32} {v2 : Int32} {S : xs_T} (h : f7_chain v1 v2 S = some q) {H : Heap} {locs : List Loc} {ls : Array Slot} (hG : gd_W (dC, dI) A s (gX cI cB b S).flatten H locs) (hl : lv_has ls 3 [(0, .ref (b 0 0)), (1, .int v1), (2, .int v2)]) : W p l e RM7_chain s m args below meth c H locs 0 0 (MQ below (qi_W (dC, dI) [(cI, .int), (cB, .object "DiceRoads$Board")] A q (gX cI cB b S).flatten) args s 0 0 A) (F0 m 0 ls []) := by
  unfold f7_chain at h
  obtain ⟨hx, hb, hr, hts, hown, hlocks, hml⟩ := id C
  refine lv_aload_n hx hb dX7_chain_0 rfl (lv_at hl 0 rfl) ?_
  refine va_get (D := (dC, dI)) (ci := 6) (v := .ref (b 5 0)) (C := RX7) (T := TX7) (N := 6) hx hb hts inlX7 hown hK hG.1 0 rfl rfl 0 (by decide) (hts (Cond.fieldLink RX7 12 "DiceRoads" "board" "LDiceRoads$Board;") wr_173) (fun _ h9 => h9) rfl dX7_chain_1 ?_
  refine lv_iload_n hx hb dX7_chain_4 rfl (lv_at hl 1 rfl) ?_
  obtain ⟨q5, hq5, h⟩ := fo_bd_some h
  refine gq_iV (gs := gX cI cB b S) (gs' := gX cI cB b S) (As := [.int v1]) (rest := []) (wc := (wd_B cI (b 5) (S 5))) (w1 := (wd_B cI (b 5) (S 5))) (b := b 5 0) (C := RX0) (ci := 0) (q0 := 0) ⟨hx, hb, hml, hown, hts⟩ (c0_hasPlayer l (a := b 5) hq5) (cwV 1 hts gv_X7_69 rfl rfl rfl hd0_hasPlayer ⟨Nat.le_of_ble_eq_true rfl, Nat.le_of_ble_eq_true rfl⟩) hK [0] rfl hA hG [5] [0, 1, 2, 3, 4, 6, 7, 8, 9, 10, 11, 12, 13, 14, 15] pm_2 pm_2 rfl rfl rfl rfl rfl rfl hl.1 rfl (Nat.le_of_ble_eq_true rfl) dX7_chain_5 ⟨Nat.zero_le _, Nat.zero_le _⟩ (fun H locs hG9 => ?_)
  have hG : gd_W (dC, dI) A s (gX cI cB b S).flatten H locs := hG9
  refine lv_if_eq (tgt := 22) hx hb dX7_chain_8 (by decide) (fun hc => ?_) (fun hc => ?_)
  · have h := fo_it h hc
    refine lv_iconst (v := (-1 : Int32)) hx hb dX7_chain_22 (by decide) ?_
    exact gr_i hx hb hr hlocks hK hG (Option.some.inj h) dX7_chain_23
  · have h := fo_if h hc
    refine lv_aload_n hx hb dX7_chain_11 rfl (lv_at hl 0 rfl) ?_
    refine va_get (D := (dC, dI)) (ci := 6) (v := .ref (b 5 0)) (C := RX7) (T := TX7) (N := 6) hx hb hts inlX7 hown hK hG.1 0 rfl rfl 0 (by decide) (hts (Cond.fieldLink RX7 12 "DiceRoads" "board" "LDiceRoads$Board;") wr_173) (fun _ h9 => h9) rfl dX7_chain_12 ?_
    refine lv_iload_n hx hb dX7_chain_15 rfl (lv_at hl 2 rfl) ?_
    obtain ⟨q16, hq16, h⟩ := fo_bd_some h
    refine gq_iV (gs := gX cI cB b S) (gs' := gX cI cB b S) (As := [.int v2]) (rest := []) (wc := (wd_B cI (b 5) (S 5))) (w1 := (wd_B cI (b 5) (S 5))) (b := b 5 0) (C := RX0) (ci := 0) (q0 := 0) ⟨hx, hb, hml, hown, hts⟩ (c0_hasPlayer l (a := b 5) hq16) (cwV 1 hts gv_X7_69 rfl rfl rfl hd0_hasPlayer ⟨Nat.le_of_ble_eq_true rfl, Nat.le_of_ble_eq_true rfl⟩) hK [0] rfl hA hG [5] [0, 1, 2, 3, 4, 6, 7, 8, 9, 10, 11, 12, 13, 14, 15] pm_2 pm_2 rfl rfl rfl rfl rfl rfl hl.1 rfl (Nat.le_of_ble_eq_true rfl) dX7_chain_16 ⟨Nat.zero_le _, Nat.zero_le _⟩ (fun H locs hG9 => ?_)
    have hG : gd_W (dC, dI) A s (gX cI cB b S).flatten H locs := hG9
    refine lv_if_ne (tgt := 24) hx hb dX7_chain_19 (by decide) (fun hc => ?_) (fun hc => ?_)
    · have h := fo_if h hc
      refine lv_aload_n hx hb dX7_chain_24 rfl (lv_at hl 0 rfl) ?_
      refine va_get (D := (dC, dI)) (ci := 6) (v := .ref (b 5 0)) (C := RX7) (T := TX7) (N := 6) hx hb hts inlX7 hown hK hG.1 0 rfl rfl 0 (by decide) (hts (Cond.fieldLink RX7 12 "DiceRoads" "board" "LDiceRoads$Board;") wr_173) (fun _ h9 => h9) rfl dX7_chain_25 ?_
      refine va_get (D := (dC, dI)) (ci := 0) (v := .ref (b 5 6)) (C := RX0) (T := TX0) (N := 15) hx hb hts inlX0 hown hK hG.1 10 rfl rfl 1 (by decide) (hts (Cond.fieldLink RX7 79 "DiceRoads$Board" "debts" "LDiceRoads$Debts;") wr_91) (fun _ h9 => h9) rfl dX7_chain_28 ?_
      refine lv_iload_n hx hb dX7_chain_31 rfl (lv_at hl 1 rfl) ?_
      refine lv_iload_n hx hb dX7_chain_32 rfl (lv_at hl 2 rfl) ?_
      obtain ⟨q33, hq33, h⟩ := fo_bd_some h
      refine gc_iV (b := b 5 6) (C := RX1) (As := [.int v1, .int v2]) (rest := []) (wc := (wd_D cI (fun k => b 5 (k + 6)) (ms_from (S 5) 2))) (w1 := (wd_D cI (fun k => b 5 (k + 6)) (ms_from (S 5) 2))) (ci := 1) (q0 := 0) ⟨hx, hb, hml, hown, hts⟩ (c1_distance l (a := (fun k => b 5 (k + 6))) hq33) (cwV 2 hts gv_X7_108 rfl rfl rfl hd1_distance ⟨Nat.le_of_ble_eq_true rfl, Nat.le_of_ble_eq_true rfl⟩) hK [0] rfl hA hG [16, 17, 18, 19, 20, 21, 22] rfl rfl rfl rfl rfl rfl hl.1 rfl (Nat.le_of_ble_eq_true rfl) dX7_chain_33 ⟨Nat.zero_le _, Nat.zero_le _⟩ (fun H locs hG9 => ?_)
      have hG : gd_W (dC, dI) A s (gX cI cB b S).flatten H locs := hG9
      exact gr_i hx hb hr hlocks hK hG (Option.some.inj h) dX7_chain_36
    · have h := fo_it h hc
      refine lv_iconst (v := (-1 : Int32)) hx hb dX7_chain_22 (by decide) ?_
      exact gr_i hx hb hr hlocks hK hG (Option.some.inj h) dX7_chain_23
set_option maxRecDepth 100000 in
set_option maxHeartbeats 4000000 in
theorem c7_chain (l : Launch) {dC : Nat → ClassId} {dI : Nat → Nat → Nat} {cI : ClassId} {cB : ClassId} {b : Nat → Nat → Nat} {v1 : Int32} {v2 : Int32} {S : xs_T} {q : Int32} (h : f7_chain v1 v2 S = some q) : mi_M l yX7_chain wm7_chain RM7_chain (dC, dI) [(cI, .int), (cB, .object "DiceRoads$Board")] [.ref (b 0 0), .int v1, .int v2] (gX cI cB b S).flatten q (gX cI cB b S).flatten := by
  intro sz
  refine Met.ofW (cc := cX7_chain) (maxL := 3) (ret := (some .int)) (by decide) rfl ?_
  intro p e s m args below meth c s₁ B hml hv
  obtain ⟨rfl, hsz, hP, hK, hD0⟩ := hv
  subst hsz
  have hl := lv_entry ([.ref (b 0 0), .int v1, .int v2] : List Value) (n := 3) (Nat.le_of_ble_eq_true rfl)
  rw [lg_entry_eq]
  generalize (lg_sl ([.ref (b 0 0), .int v1, .int v2] : List Value) ++ List.replicate (3 - (lg_sl ([.ref (b 0 0), .int v1, .int v2] : List Value)).length) Slot.unset).toArray = ls at hl ⊢
  exact w7_chain (b := b) ⟨B.exec, B.bytes, B.returns, fun w hw => atoms_spec (ws := wm7_chain) B.pre w (List.mem_cons_of_mem _ hw), findClass_of_methodNamed B.named, B.notSynchronized, hml⟩ hK (fun _ h => Or.inr h) h ⟨hP, hD0.self, va_S.rf⟩ hl
end
/-! ## DiceRoads.emptyIn(I)I -/
section
variable {p : Program} {l : Launch} {e : Env} {s : State} {m : MethodId} {args : Array Value} {below : List Frame} {meth : Method} {c : Code} {dC : Nat → ClassId} {dI : Nat → Nat → Nat} {cI cB : ClassId} {A : Nat → Prop}
set_option maxRecDepth 100000 in
set_option maxHeartbeats 4000000 in
theorem w7_emptyIn_b26 (C : cx_M p s m args meth c RX7 cX7_emptyIn (some .int) 3) (hK : va_K (dC, dI) vwCl [(cI, .int), (cB, .object "DiceRoads$Board")] s) (hA : ∀ q, s.heap.size ≤ q → A q) {b : Nat → Nat → Nat} {q : (Int32 × xs_T)} {rec26 : Int32 → Int32 → xs_T → Option (Int32 × xs_T)} (hrec26 : ∀ {v1 : Int32} {v2 : Int32} {S : xs_T} , rec26 v1 v2 S = some q → ∀ {H : Heap} {locs : List Loc} {ls : Array Slot}, gd_W (dC, dI) A s (gX cI cB b S).flatten H locs → lv_has ls 3 [(0, .ref (b 0 0)), (1, .int v1), (2, .int v2)] → W p l e RM7_emptyIn s m args below meth c H locs 0 0 (MQ below (qi_W (dC, dI) [(cI, .int), (cB, .object "DiceRoads$Board")] A q.1 (gX cI cB b q.2).flatten) args s 0 0 A) (F0 m 26 ls [])) {v1 : Int32} {v2 : Int32} {S : xs_T} (h : f7_emptyIn_b26 rec26 v1 v2 S = some q) {H : Heap} {locs : List Loc} {ls : Array Slot} (hG : gd_W (dC, dI) A s (gX cI cB b S).flatten H locs) (hl : lv_has ls 3 [(0, .ref (b 0 0)), (1, .int v1), (2, .int v2)]) : W p l e RM7_emptyIn s m args below meth c H locs 0 0 (MQ below (qi_W (dC, dI) [(cI, .int), (cB, .object "DiceRoads$Board")] A q.1 (gX cI cB b q.2).flatten) args s 0 0 A) (F0 m 26 ls []) := by
  unfold f7_emptyIn_b26 at h
  obtain ⟨hx, hb, hr, hts, hown, hlocks, hml⟩ := id C
  refine lv_iload_n hx hb dX7_emptyIn_26 rfl (lv_at hl 2 rfl) ?_
  refine lv_sipush (v := (400 : Int32)) hx hb dX7_emptyIn_27 (by decide) ?_
  refine lv_icmp_gt (tgt := 59) hx hb dX7_emptyIn_30 (by decide) (fun hc => ?_) (fun hc => ?_)
  · have h := fo_it h hc
    refine lv_bipush (v := (-6 : Int32)) hx hb dX7_emptyIn_59 (by decide) ?_
    obtain rfl := Option.some.inj h
    exact gr_i hx hb hr hlocks hK hG rfl dX7_emptyIn_61
  · have h := fo_if h hc
    refine lv_aload_n hx hb dX7_emptyIn_33 rfl (lv_at hl 0 rfl) ?_
    refine va_get (D := (dC, dI)) (ci := 6) (v := .ref (b 6 0)) (C := RX7) (T := TX7) (N := 6) hx hb hts inlX7 hown hK hG.1 0 rfl rfl 1 (by decide) (hts (Cond.fieldLink RX7 16 "DiceRoads" "trial" "LDiceRoads$Board;") wr_174) (fun _ h9 => h9) rfl dX7_emptyIn_34 ?_
    refine lv_iload_n hx hb dX7_emptyIn_37 rfl (lv_at hl 1 rfl) ?_
    obtain ⟨q38, hq38, h⟩ := fo_bd_some h
    refine gq_iV (gs := gX cI cB b S) (gs' := gX cI cB b S) (As := [.int v1]) (rest := []) (wc := (wd_B cI (b 6) (S 6))) (w1 := (wd_B cI (b 6) (S 6))) (b := b 6 0) (C := RX0) (ci := 0) (q0 := 0) ⟨hx, hb, hml, hown, hts⟩ (c0_purseOf l (a := b 6) hq38) (cwV 1 hts gv_X7_114 rfl rfl rfl hd0_purseOf ⟨Nat.le_of_ble_eq_true rfl, Nat.le_of_ble_eq_true rfl⟩) hK [0] rfl hA hG [6] [0, 1, 2, 3, 4, 5, 7, 8, 9, 10, 11, 12, 13, 14, 15] pm_6 pm_6 rfl rfl rfl rfl rfl rfl hl.1 rfl (Nat.le_of_ble_eq_true rfl) dX7_emptyIn_38 ⟨Nat.zero_le _, Nat.zero_le _⟩ (fun H locs hG9 => ?_)
    have hG : gd_W (dC, dI) A s (gX cI cB b S).flatten H locs := hG9
    refine lv_if_ne (tgt := 46) hx hb dX7_emptyIn_41 (by decide) (fun hc => ?_) (fun hc => ?_)
    · have h := fo_if h hc
      refine lv_aload_n hx hb dX7_emptyIn_46 rfl (lv_at hl 0 rfl) ?_
      refine va_get (D := (dC, dI)) (ci := 6) (v := .ref (b 6 0)) (C := RX7) (T := TX7) (N := 6) hx hb hts inlX7 hown hK hG.1 0 rfl rfl 1 (by decide) (hts (Cond.fieldLink RX7 16 "DiceRoads" "trial" "LDiceRoads$Board;") wr_174) (fun _ h9 => h9) rfl dX7_emptyIn_47 ?_
      obtain ⟨q50, hq50, h⟩ := fo_bd_some h
      refine gq_vV (gs := gX cI cB b S) (gs' := gX cI cB b (xs_set S 6 q50)) (As := []) (rest := []) (wc := (wd_B cI (b 6) (S 6))) (w1 := (wd_B cI (b 6) q50)) (b := b 6 0) (C := RX0) (ci := 0) (q0 := 0) ⟨hx, hb, hml, hown, hts⟩ (c0_takeTurn l (a := b 6) hq50) (cwV 0 hts gv_X7_117 rfl rfl rfl hd0_takeTurn ⟨Nat.le_of_ble_eq_true rfl, Nat.le_of_ble_eq_true rfl⟩) hK [0] rfl hA hG [6] [0, 1, 2, 3, 4, 5, 7, 8, 9, 10, 11, 12, 13, 14, 15] pm_6 pm_6 rfl rfl rfl rfl rfl rfl hl.1 rfl (Nat.le_of_ble_eq_true rfl) dX7_emptyIn_50 ⟨Nat.zero_le _, Nat.zero_le _⟩ (fun H locs hG9 => ?_)
      have hG : gd_W (dC, dI) A s (gX cI cB b (xs_set S 6 q50)).flatten H locs := hG9
      refine lv_iinc (v := (v2 + (1 : Int32))) (lv' := [(2, .int (v2 + (1 : Int32))), (0, .ref (b 0 0)), (1, .int v1)]) hx hb dX7_emptyIn_53 hl (k := 2) rfl rfl (by decide) rfl (fun ls hl => ?_)
      refine lv_goto (tgt := 26) hx hb dX7_emptyIn_56 (by decide) ?_
      exact hrec26 h hG (lv_sub hl [1, 2, 0] rfl)
    · have h := fo_it h hc
      refine lv_iload_n hx hb dX7_emptyIn_44 rfl (lv_at hl 2 rfl) ?_
      obtain rfl := Option.some.inj h
      exact gr_i hx hb hr hlocks hK hG rfl dX7_emptyIn_45
set_option maxRecDepth 100000 in
set_option maxHeartbeats 4000000 in
theorem w7_emptyIn_L26 (C : cx_M p s m args meth c RX7 cX7_emptyIn (some .int) 3) (hK : va_K (dC, dI) vwCl [(cI, .int), (cB, .object "DiceRoads$Board")] s) (hA : ∀ q, s.heap.size ≤ q → A q) {b : Nat → Nat → Nat} {q : (Int32 × xs_T)} : ∀ (n : Nat) {v1 : Int32} {v2 : Int32} {S : xs_T}, f7_emptyIn_L26 n v1 v2 S = some q → ∀ {H : Heap} {locs : List Loc} {ls : Array Slot}, gd_W (dC, dI) A s (gX cI cB b S).flatten H locs → lv_has ls 3 [(0, .ref (b 0 0)), (1, .int v1), (2, .int v2)] → W p l e RM7_emptyIn s m args below meth c H locs 0 0 (MQ below (qi_W (dC, dI) [(cI, .int), (cB, .object "DiceRoads$Board")] A q.1 (gX cI cB b q.2).flatten) args s 0 0 A) (F0 m 26 ls []) := by
  intro n
  induction n with
  | zero => intro _ _ _ h; exact nomatch h
  | succ n ih => intro v1 v2 S h H locs ls hG hl; exact w7_emptyIn_b26 C hK hA (fun h => ih h) (show f7_emptyIn_b26 (f7_emptyIn_L26 n) v1 v2 S = some q from h) hG hl
set_option maxRecDepth 100000 in
set_option maxHeartbeats 4000000 in
theorem w7_emptyIn (C : cx_M p s m args meth c RX7 cX7_emptyIn (some .int) 3) (hK : va_K (dC, dI) vwCl [(cI, .int), (cB, .object "DiceRoads$Board")] s) (hA : ∀ q, s.heap.size ≤ q → A q) {b : Nat → Nat → Nat} {q : (Int32 × xs_T)} {v1 : Int32} {S : xs_T} (h : f7_emptyIn v1 S = some q) {H : Heap} {locs : List Loc} {ls : Array Slot} (hG : gd_W (dC, dI) A s (gX cI cB b S).flatten H locs) (hl : lv_has ls 3 [(0, .ref (b 0 0)), (1, .int v1)]) : W p l e RM7_emptyIn s m args below meth c H locs 0 0 (MQ below (qi_W (dC, dI) [(cI, .int), (cB, .object "DiceRoads$Board")] A q.1 (gX cI cB b q.2).flatten) args s 0 0 A) (F0 m 0 ls []) := by
  unfold f7_emptyIn at h
  obtain ⟨hx, hb, hr, hts, hown, hlocks, hml⟩ := id C
  refine lv_aload_n hx hb dX7_emptyIn_0 rfl (lv_at hl 0 rfl) ?_
  refine va_get (D := (dC, dI)) (ci := 6) (v := .ref (b 5 0)) (C := RX7) (T := TX7) (N := 6) hx hb hts inlX7 hown hK hG.1 0 rfl rfl 0 (by decide) (hts (Cond.fieldLink RX7 12 "DiceRoads" "board" "LDiceRoads$Board;") wr_173) (fun _ h9 => h9) rfl dX7_emptyIn_1 ?_
  refine lv_iload_n hx hb dX7_emptyIn_4 rfl (lv_at hl 1 rfl) ?_
  obtain ⟨q5, hq5, h⟩ := fo_bd_some h
  refine gq_iV (gs := gX cI cB b S) (gs' := gX cI cB b S) (As := [.int v1]) (rest := []) (wc := (wd_B cI (b 5) (S 5))) (w1 := (wd_B cI (b 5) (S 5))) (b := b 5 0) (C := RX0) (ci := 0) (q0 := 0) ⟨hx, hb, hml, hown, hts⟩ (c0_hasPlayer l (a := b 5) hq5) (cwV 1 hts gv_X7_69 rfl rfl rfl hd0_hasPlayer ⟨Nat.le_of_ble_eq_true rfl, Nat.le_of_ble_eq_true rfl⟩) hK [0] rfl hA hG [5] [0, 1, 2, 3, 4, 6, 7, 8, 9, 10, 11, 12, 13, 14, 15] pm_2 pm_2 rfl rfl rfl rfl rfl rfl hl.1 rfl (Nat.le_of_ble_eq_true rfl) dX7_emptyIn_5 ⟨Nat.zero_le _, Nat.zero_le _⟩ (fun H locs hG9 => ?_)
  have hG : gd_W (dC, dI) A s (gX cI cB b S).flatten H locs := hG9
  refine lv_if_ne (tgt := 13) hx hb dX7_emptyIn_8 (by decide) (fun hc => ?_) (fun hc => ?_)
  · have h := fo_if h hc
    refine lv_aload_n hx hb dX7_emptyIn_13 rfl (lv_at hl 0 rfl) ?_
    refine va_get (D := (dC, dI)) (ci := 6) (v := .ref (b 6 0)) (C := RX7) (T := TX7) (N := 6) hx hb hts inlX7 hown hK hG.1 0 rfl rfl 1 (by decide) (hts (Cond.fieldLink RX7 16 "DiceRoads" "trial" "LDiceRoads$Board;") wr_174) (fun _ h9 => h9) rfl dX7_emptyIn_14 ?_
    refine lv_aload_n hx hb dX7_emptyIn_17 rfl (lv_at hl 0 rfl) ?_
    refine va_get (D := (dC, dI)) (ci := 6) (v := .ref (b 5 0)) (C := RX7) (T := TX7) (N := 6) hx hb hts inlX7 hown hK hG.1 0 rfl rfl 0 (by decide) (hts (Cond.fieldLink RX7 12 "DiceRoads" "board" "LDiceRoads$Board;") wr_173) (fun _ h9 => h9) rfl dX7_emptyIn_18 ?_
    obtain ⟨q21, hq21, h⟩ := fo_bd_some h
    refine gq_vV (gs := gX cI cB b S) (gs' := gX cI cB b (xs_set S 6 q21)) (As := [.ref (b 5 0)]) (rest := []) (wc := (wd_BB cI (fun k => if k < 27 then b 6 k else b 5 (k - 27)) (S 5) (S 6))) (w1 := (wd_BB cI (fun k => if k < 27 then b 6 k else b 5 (k - 27)) (S 5) q21)) (b := b 6 0) (C := RX0) (ci := 0) (q0 := 0) ⟨hx, hb, hml, hown, hts⟩ (c0_copyFrom l (a := (fun k => if k < 27 then b 6 k else b 5 (k - 27))) (Z := (S 5)) hq21) (cwV 1 hts gv_X7_111 rfl rfl rfl hd0_copyFrom ⟨Nat.le_of_ble_eq_true rfl, Nat.le_of_ble_eq_true rfl⟩) hK [0] rfl hA hG [6, 5] [0, 1, 2, 3, 4, 7, 8, 9, 10, 11, 12, 13, 14, 15] pm_7 pm_7 rfl rfl rfl rfl rfl rfl hl.1 rfl (Nat.le_of_ble_eq_true rfl) dX7_emptyIn_21 ⟨Nat.zero_le _, Nat.zero_le _⟩ (fun H locs hG9 => ?_)
    have hG : gd_W (dC, dI) A s (gX cI cB b (xs_set S 6 q21)).flatten H locs := hG9
    refine lv_iconst (v := (0 : Int32)) hx hb dX7_emptyIn_24 (by decide) ?_
    refine lv_istore_n (lv' := [(2, .int (0 : Int32)), (0, .ref (b 0 0)), (1, .int v1)]) hx hb dX7_emptyIn_25 rfl hl (by decide) rfl (fun ls hl => ?_)
    exact w7_emptyIn_L26 C hK hA fo_fu h hG (lv_sub hl [1, 2, 0] rfl)
  · have h := fo_it h hc
    refine lv_iconst (v := (-1 : Int32)) hx hb dX7_emptyIn_11 (by decide) ?_
    obtain rfl := Option.some.inj h
    exact gr_i hx hb hr hlocks hK hG rfl dX7_emptyIn_12
set_option maxRecDepth 100000 in
set_option maxHeartbeats 4000000 in
theorem c7_emptyIn (l : Launch) {dC : Nat → ClassId} {dI : Nat → Nat → Nat} {cI : ClassId} {cB : ClassId} {b : Nat → Nat → Nat} {v1 : Int32} {S : xs_T} {q : (Int32 × xs_T)} (h : f7_emptyIn v1 S = some q) : mi_M l yX7_emptyIn wm7_emptyIn RM7_emptyIn (dC, dI) [(cI, .int), (cB, .object "DiceRoads$Board")] [.ref (b 0 0), .int v1] (gX cI cB b S).flatten q.1 (gX cI cB b q.2).flatten := by
  intro sz
  refine Met.ofW (cc := cX7_emptyIn) (maxL := 3) (ret := (some .int)) (by decide) rfl ?_
  intro p e s m args below meth c s₁ B hml hv
  obtain ⟨rfl, hsz, hP, hK, hD0⟩ := hv
  subst hsz
  have hl := lv_entry ([.ref (b 0 0), .int v1] : List Value) (n := 3) (Nat.le_of_ble_eq_true rfl)
  rw [lg_entry_eq]
  generalize (lg_sl ([.ref (b 0 0), .int v1] : List Value) ++ List.replicate (3 - (lg_sl ([.ref (b 0 0), .int v1] : List Value)).length) Slot.unset).toArray = ls at hl ⊢
  exact w7_emptyIn (b := b) ⟨B.exec, B.bytes, B.returns, fun w hw => atoms_spec (ws := wm7_emptyIn) B.pre w (List.mem_cons_of_mem _ hw), findClass_of_methodNamed B.named, B.notSynchronized, hml⟩ hK (fun _ h => Or.inr h) h ⟨hP, hD0.self, va_S.rf⟩ hl
end
/-! ## DiceRoads.purseIn(II)I -/
section
variable {p : Program} {l : Launch} {e : Env} {s : State} {m : MethodId} {args : Array Value} {below : List Frame} {meth : Method} {c : Code} {dC : Nat → ClassId} {dI : Nat → Nat → Nat} {cI cB : ClassId} {A : Nat → Prop}
set_option maxRecDepth 100000 in
set_option maxHeartbeats 4000000 in
theorem w7_purseIn (C : cx_M p s m args meth c RX7 cX7_purseIn (some .int) 3) (hK : va_K (dC, dI) vwCl [(cI, .int), (cB, .object "DiceRoads$Board")] s) (hA : ∀ q, s.heap.size ≤ q → A q) {b : Nat → Nat → Nat} {q : (Int32 × xs_T)} {v1 : Int32} {v2 : Int32} {S : xs_T} (h : f7_purseIn v1 v2 S = some q) {H : Heap} {locs : List Loc} {ls : Array Slot} (hG : gd_W (dC, dI) A s (gX cI cB b S).flatten H locs) (hl : lv_has ls 3 [(0, .ref (b 0 0)), (1, .int v1), (2, .int v2)]) : W p l e RM7_purseIn s m args below meth c H locs 0 0 (MQ below (qi_W (dC, dI) [(cI, .int), (cB, .object "DiceRoads$Board")] A q.1 (gX cI cB b q.2).flatten) args s 0 0 A) (F0 m 0 ls []) := by
  unfold f7_purseIn at h
  obtain ⟨hx, hb, hr, hts, hown, hlocks, hml⟩ := id C
  refine lv_aload_n hx hb dX7_purseIn_0 rfl (lv_at hl 0 rfl) ?_
  refine va_get (D := (dC, dI)) (ci := 6) (v := .ref (b 5 0)) (C := RX7) (T := TX7) (N := 6) hx hb hts inlX7 hown hK hG.1 0 rfl rfl 0 (by decide) (hts (Cond.fieldLink RX7 12 "DiceRoads" "board" "LDiceRoads$Board;") wr_173) (fun _ h9 => h9) rfl dX7_purseIn_1 ?_
  refine lv_iload_n hx hb dX7_purseIn_4 rfl (lv_at hl 1 rfl) ?_
  obtain ⟨q5, hq5, h⟩ := fo_bd_some h
  refine gq_iV (gs := gX cI cB b S) (gs' := gX cI cB b S) (As := [.int v1]) (rest := []) (wc := (wd_B cI (b 5) (S 5))) (w1 := (wd_B cI (b 5) (S 5))) (b := b 5 0) (C := RX0) (ci := 0) (q0 := 0) ⟨hx, hb, hml, hown, hts⟩ (c0_hasPlayer l (a := b 5) hq5) (cwV 1 hts gv_X7_69 rfl rfl rfl hd0_hasPlayer ⟨Nat.le_of_ble_eq_true rfl, Nat.le_of_ble_eq_true rfl⟩) hK [0] rfl hA hG [5] [0, 1, 2, 3, 4, 6, 7, 8, 9, 10, 11, 12, 13, 14, 15] pm_2 pm_2 rfl rfl rfl rfl rfl rfl hl.1 rfl (Nat.le_of_ble_eq_true rfl) dX7_purseIn_5 ⟨Nat.zero_le _, Nat.zero_le _⟩ (fun H locs hG9 => ?_)
  have hG : gd_W (dC, dI) A s (gX cI cB b S).flatten H locs := hG9
  refine lv_if_ne (tgt := 13) hx hb dX7_purseIn_8 (by decide) (fun hc => ?_) (fun hc => ?_)
  · have h := fo_if h hc
    refine lv_iload_n hx hb dX7_purseIn_13 rfl (lv_at hl 2 rfl) ?_
    refine lv_iconst (v := (1 : Int32)) hx hb dX7_purseIn_14 (by decide) ?_
    refine lv_icmp_lt (tgt := 24) hx hb dX7_purseIn_15 (by decide) (fun hc => ?_) (fun hc => ?_)
    · have h := fo_it h hc
      refine lv_bipush (v := (-2 : Int32)) hx hb dX7_purseIn_24 (by decide) ?_
      obtain rfl := Option.some.inj h
      exact gr_i hx hb hr hlocks hK hG rfl dX7_purseIn_26
    · have h := fo_if h hc
      refine lv_iload_n hx hb dX7_purseIn_18 rfl (lv_at hl 2 rfl) ?_
      refine lv_bipush (v := (99 : Int32)) hx hb dX7_purseIn_19 (by decide) ?_
      refine lv_icmp_le (tgt := 27) hx hb dX7_purseIn_21 (by decide) (fun hc => ?_) (fun hc => ?_)
      · have h := fo_it h hc
        refine lv_aload_n hx hb dX7_purseIn_27 rfl (lv_at hl 0 rfl) ?_
        refine va_get (D := (dC, dI)) (ci := 6) (v := .ref (b 6 0)) (C := RX7) (T := TX7) (N := 6) hx hb hts inlX7 hown hK hG.1 0 rfl rfl 1 (by decide) (hts (Cond.fieldLink RX7 16 "DiceRoads" "trial" "LDiceRoads$Board;") wr_174) (fun _ h9 => h9) rfl dX7_purseIn_28 ?_
        refine lv_aload_n hx hb dX7_purseIn_31 rfl (lv_at hl 0 rfl) ?_
        refine va_get (D := (dC, dI)) (ci := 6) (v := .ref (b 5 0)) (C := RX7) (T := TX7) (N := 6) hx hb hts inlX7 hown hK hG.1 0 rfl rfl 0 (by decide) (hts (Cond.fieldLink RX7 12 "DiceRoads" "board" "LDiceRoads$Board;") wr_173) (fun _ h9 => h9) rfl dX7_purseIn_32 ?_
        obtain ⟨q35, hq35, h⟩ := fo_bd_some h
        refine gq_vV (gs := gX cI cB b S) (gs' := gX cI cB b (xs_set S 6 q35)) (As := [.ref (b 5 0)]) (rest := []) (wc := (wd_BB cI (fun k => if k < 27 then b 6 k else b 5 (k - 27)) (S 5) (S 6))) (w1 := (wd_BB cI (fun k => if k < 27 then b 6 k else b 5 (k - 27)) (S 5) q35)) (b := b 6 0) (C := RX0) (ci := 0) (q0 := 0) ⟨hx, hb, hml, hown, hts⟩ (c0_copyFrom l (a := (fun k => if k < 27 then b 6 k else b 5 (k - 27))) (Z := (S 5)) hq35) (cwV 1 hts gv_X7_111 rfl rfl rfl hd0_copyFrom ⟨Nat.le_of_ble_eq_true rfl, Nat.le_of_ble_eq_true rfl⟩) hK [0] rfl hA hG [6, 5] [0, 1, 2, 3, 4, 7, 8, 9, 10, 11, 12, 13, 14, 15] pm_7 pm_7 rfl rfl rfl rfl rfl rfl hl.1 rfl (Nat.le_of_ble_eq_true rfl) dX7_purseIn_35 ⟨Nat.zero_le _, Nat.zero_le _⟩ (fun H locs hG9 => ?_)
        have hG : gd_W (dC, dI) A s (gX cI cB b (xs_set S 6 q35)).flatten H locs := hG9
        refine lv_aload_n hx hb dX7_purseIn_38 rfl (lv_at hl 0 rfl) ?_
        refine va_get (D := (dC, dI)) (ci := 6) (v := .ref (b 6 0)) (C := RX7) (T := TX7) (N := 6) hx hb hts inlX7 hown hK hG.1 0 rfl rfl 1 (by decide) (hts (Cond.fieldLink RX7 16 "DiceRoads" "trial" "LDiceRoads$Board;") wr_174) (fun _ h9 => h9) rfl dX7_purseIn_39 ?_
        refine lv_iload_n hx hb dX7_purseIn_42 rfl (lv_at hl 2 rfl) ?_
        obtain ⟨q43, hq43, h⟩ := fo_bd_some h
        refine gq_vV (gs := gX cI cB b (xs_set S 6 q35)) (gs' := gX cI cB b (xs_set (xs_set S 6 q35) 6 q43)) (As := [.int v2]) (rest := []) (wc := (wd_B cI (b 6) ((xs_set S 6 q35) 6))) (w1 := (wd_B cI (b 6) q43)) (b := b 6 0) (C := RX0) (ci := 0) (q0 := 0) ⟨hx, hb, hml, hown, hts⟩ (c0_takeTurns l (a := b 6) hq43) (cwV 1 hts gv_X7_120 rfl rfl rfl hd0_takeTurns ⟨Nat.le_of_ble_eq_true rfl, Nat.le_of_ble_eq_true rfl⟩) hK [0] rfl hA hG [6] [0, 1, 2, 3, 4, 5, 7, 8, 9, 10, 11, 12, 13, 14, 15] pm_6 pm_6 rfl rfl rfl rfl rfl rfl hl.1 rfl (Nat.le_of_ble_eq_true rfl) dX7_purseIn_43 ⟨Nat.zero_le _, Nat.zero_le _⟩ (fun H locs hG9 => ?_)
        have hG : gd_W (dC, dI) A s (gX cI cB b (xs_set (xs_set S 6 q35) 6 q43)).flatten H locs := hG9
        refine lv_aload_n hx hb dX7_purseIn_46 rfl (lv_at hl 0 rfl) ?_
        refine va_get (D := (dC, dI)) (ci := 6) (v := .ref (b 6 0)) (C := RX7) (T := TX7) (N := 6) hx hb hts inlX7 hown hK hG.1 0 rfl rfl 1 (by decide) (hts (Cond.fieldLink RX7 16 "DiceRoads" "trial" "LDiceRoads$Board;") wr_174) (fun _ h9 => h9) rfl dX7_purseIn_47 ?_
        refine lv_iload_n hx hb dX7_purseIn_50 rfl (lv_at hl 1 rfl) ?_
        obtain ⟨q51, hq51, h⟩ := fo_bd_some h
        refine gq_iV (gs := gX cI cB b (xs_set (xs_set S 6 q35) 6 q43)) (gs' := gX cI cB b (xs_set (xs_set S 6 q35) 6 q43)) (As := [.int v1]) (rest := []) (wc := (wd_B cI (b 6) ((xs_set (xs_set S 6 q35) 6 q43) 6))) (w1 := (wd_B cI (b 6) ((xs_set (xs_set S 6 q35) 6 q43) 6))) (b := b 6 0) (C := RX0) (ci := 0) (q0 := 0) ⟨hx, hb, hml, hown, hts⟩ (c0_purseOf l (a := b 6) hq51) (cwV 1 hts gv_X7_114 rfl rfl rfl hd0_purseOf ⟨Nat.le_of_ble_eq_true rfl, Nat.le_of_ble_eq_true rfl⟩) hK [0] rfl hA hG [6] [0, 1, 2, 3, 4, 5, 7, 8, 9, 10, 11, 12, 13, 14, 15] pm_6 pm_6 rfl rfl rfl rfl rfl rfl hl.1 rfl (Nat.le_of_ble_eq_true rfl) dX7_purseIn_51 ⟨Nat.zero_le _, Nat.zero_le _⟩ (fun H locs hG9 => ?_)
        have hG : gd_W (dC, dI) A s (gX cI cB b (xs_set (xs_set S 6 q35) 6 q43)).flatten H locs := hG9
        obtain rfl := Option.some.inj h
        exact gr_i hx hb hr hlocks hK hG rfl dX7_purseIn_54
      · have h := fo_if h hc
        refine lv_bipush (v := (-2 : Int32)) hx hb dX7_purseIn_24 (by decide) ?_
        obtain rfl := Option.some.inj h
        exact gr_i hx hb hr hlocks hK hG rfl dX7_purseIn_26
  · have h := fo_it h hc
    refine lv_iconst (v := (-1 : Int32)) hx hb dX7_purseIn_11 (by decide) ?_
    obtain rfl := Option.some.inj h
    exact gr_i hx hb hr hlocks hK hG rfl dX7_purseIn_12
set_option maxRecDepth 100000 in
set_option maxHeartbeats 4000000 in
theorem c7_purseIn (l : Launch) {dC : Nat → ClassId} {dI : Nat → Nat → Nat} {cI : ClassId} {cB : ClassId} {b : Nat → Nat → Nat} {v1 : Int32} {v2 : Int32} {S : xs_T} {q : (Int32 × xs_T)} (h : f7_purseIn v1 v2 S = some q) : mi_M l yX7_purseIn wm7_purseIn RM7_purseIn (dC, dI) [(cI, .int), (cB, .object "DiceRoads$Board")] [.ref (b 0 0), .int v1, .int v2] (gX cI cB b S).flatten q.1 (gX cI cB b q.2).flatten := by
  intro sz
  refine Met.ofW (cc := cX7_purseIn) (maxL := 3) (ret := (some .int)) (by decide) rfl ?_
  intro p e s m args below meth c s₁ B hml hv
  obtain ⟨rfl, hsz, hP, hK, hD0⟩ := hv
  subst hsz
  have hl := lv_entry ([.ref (b 0 0), .int v1, .int v2] : List Value) (n := 3) (Nat.le_of_ble_eq_true rfl)
  rw [lg_entry_eq]
  generalize (lg_sl ([.ref (b 0 0), .int v1, .int v2] : List Value) ++ List.replicate (3 - (lg_sl ([.ref (b 0 0), .int v1, .int v2] : List Value)).length) Slot.unset).toArray = ls at hl ⊢
  exact w7_purseIn (b := b) ⟨B.exec, B.bytes, B.returns, fun w hw => atoms_spec (ws := wm7_purseIn) B.pre w (List.mem_cons_of_mem _ hw), findClass_of_methodNamed B.named, B.notSynchronized, hml⟩ hK (fun _ h => Or.inr h) h ⟨hP, hD0.self, va_S.rf⟩ hl
end
/-! ## DiceRoads.bestSeed(II)I -/
section
variable {p : Program} {l : Launch} {e : Env} {s : State} {m : MethodId} {args : Array Value} {below : List Frame} {meth : Method} {c : Code} {dC : Nat → ClassId} {dI : Nat → Nat → Nat} {cI cB : ClassId} {A : Nat → Prop}
set_option maxRecDepth 100000 in
set_option maxHeartbeats 4000000 in
theorem w7_bestSeed_b100 (C : cx_M p s m args meth c RX7 cX7_bestSeed (some .int) 7) (hK : va_K (dC, dI) vwCl [(cI, .int), (cB, .object "DiceRoads$Board")] s) (hA : ∀ q, s.heap.size ≤ q → A q) {b : Nat → Nat → Nat} {q : (Int32 × xs_T)} {rec35 : Int32 → Int32 → Int32 → Int32 → Int32 → xs_T → Option (Int32 × xs_T)} (hrec35 : ∀ {v1 : Int32} {v2 : Int32} {v3 : Int32} {v4 : Int32} {v5 : Int32} {S : xs_T} , rec35 v1 v2 v3 v4 v5 S = some q → ∀ {H : Heap} {locs : List Loc} {ls : Array Slot}, gd_W (dC, dI) A s (gX cI cB b S).flatten H locs → lv_has ls 7 [(0, .ref (b 0 0)), (1, .int v1), (2, .int v2), (3, .int v3), (4, .int v4), (5, .int v5)] → W p l e RM7_bestSeed s m args below meth c H locs 0 0 (MQ below (qi_W (dC, dI) [(cI, .int), (cB, .object "DiceRoads$Board")] A q.1 (gX cI cB b q.2).flatten) args s 0 0 A) (F0 m 35 ls [])) {v1 : Int32} {v2 : Int32} {v3 : Int32} {v4 : Int32} {v5 : Int32} {S : xs_T} (h : f7_bestSeed_b100 rec35 v1 v2 v3 v4 v5 S = some q) {H : Heap} {locs : List Loc} {ls : Array Slot} (hG : gd_W (dC, dI) A s (gX cI cB b S).flatten H locs) (hl : lv_has ls 7 [(0, .ref (b 0 0)), (1, .int v1), (2, .int v2), (3, .int v3), (4, .int v4), (5, .int v5)]) : W p l e RM7_bestSeed s m args below meth c H locs 0 0 (MQ below (qi_W (dC, dI) [(cI, .int), (cB, .object "DiceRoads$Board")] A q.1 (gX cI cB b q.2).flatten) args s 0 0 A) (F0 m 100 ls []) := by
  unfold f7_bestSeed_b100 at h
  obtain ⟨hx, hb, hr, hts, hown, hlocks, hml⟩ := id C
  refine lv_iinc (v := (v5 + (1 : Int32))) (lv' := [(5, .int (v5 + (1 : Int32))), (0, .ref (b 0 0)), (1, .int v1), (2, .int v2), (3, .int v3), (4, .int v4)]) hx hb dX7_bestSeed_100 hl (k := 5) rfl rfl (by decide) rfl (fun ls hl => ?_)
  refine lv_goto (tgt := 35) hx hb dX7_bestSeed_103 (by decide) ?_
  exact hrec35 h hG (lv_sub hl [1, 2, 3, 4, 5, 0] rfl)
set_option maxRecDepth 100000 in
set_option maxHeartbeats 4000000 in
theorem w7_bestSeed_b93 (C : cx_M p s m args meth c RX7 cX7_bestSeed (some .int) 7) (hK : va_K (dC, dI) vwCl [(cI, .int), (cB, .object "DiceRoads$Board")] s) (hA : ∀ q, s.heap.size ≤ q → A q) {b : Nat → Nat → Nat} {q : (Int32 × xs_T)} {rec35 : Int32 → Int32 → Int32 → Int32 → Int32 → xs_T → Option (Int32 × xs_T)} (hrec35 : ∀ {v1 : Int32} {v2 : Int32} {v3 : Int32} {v4 : Int32} {v5 : Int32} {S : xs_T} , rec35 v1 v2 v3 v4 v5 S = some q → ∀ {H : Heap} {locs : List Loc} {ls : Array Slot}, gd_W (dC, dI) A s (gX cI cB b S).flatten H locs → lv_has ls 7 [(0, .ref (b 0 0)), (1, .int v1), (2, .int v2), (3, .int v3), (4, .int v4), (5, .int v5)] → W p l e RM7_bestSeed s m args below meth c H locs 0 0 (MQ below (qi_W (dC, dI) [(cI, .int), (cB, .object "DiceRoads$Board")] A q.1 (gX cI cB b q.2).flatten) args s 0 0 A) (F0 m 35 ls [])) {v1 : Int32} {v2 : Int32} {v5 : Int32} {v6 : Int32} {S : xs_T} (h : f7_bestSeed_b93 rec35 v1 v2 v5 v6 S = some q) {H : Heap} {locs : List Loc} {ls : Array Slot} (hG : gd_W (dC, dI) A s (gX cI cB b S).flatten H locs) (hl : lv_has ls 7 [(0, .ref (b 0 0)), (1, .int v1), (2, .int v2), (5, .int v5), (6, .int v6)]) : W p l e RM7_bestSeed s m args below meth c H locs 0 0 (MQ below (qi_W (dC, dI) [(cI, .int), (cB, .object "DiceRoads$Board")] A q.1 (gX cI cB b q.2).flatten) args s 0 0 A) (F0 m 93 ls []) := by
  unfold f7_bestSeed_b93 at h
  obtain ⟨hx, hb, hr, hts, hown, hlocks, hml⟩ := id C
  refine lv_iload hx hb dX7_bestSeed_93 (lv_at hl 3 rfl) ?_
  refine lv_istore_n (lv' := [(3, .int v5), (0, .ref (b 0 0)), (1, .int v1), (2, .int v2), (5, .int v5), (6, .int v6)]) hx hb dX7_bestSeed_95 rfl hl (by decide) rfl (fun ls hl => ?_)
  refine lv_iload hx hb dX7_bestSeed_96 (lv_at hl 5 rfl) ?_
  refine lv_istore (lv' := [(4, .int v6), (3, .int v5), (0, .ref (b 0 0)), (1, .int v1), (2, .int v2), (5, .int v5), (6, .int v6)]) hx hb dX7_bestSeed_98 hl (by decide) rfl (fun ls hl => ?_)
  exact w7_bestSeed_b100 C hK hA (fun h => hrec35 h) h hG (lv_sub hl [2, 3, 4, 1, 0, 5] rfl)
set_option maxRecDepth 100000 in
set_option maxHeartbeats 4000000 in
theorem w7_bestSeed_b35 (C : cx_M p s m args meth c RX7 cX7_bestSeed (some .int) 7) (hK : va_K (dC, dI) vwCl [(cI, .int), (cB, .object "DiceRoads$Board")] s) (hA : ∀ q, s.heap.size ≤ q → A q) {b : Nat → Nat → Nat} {q : (Int32 × xs_T)} {rec35 : Int32 → Int32 → Int32 → Int32 → Int32 → xs_T → Option (Int32 × xs_T)} (hrec35 : ∀ {v1 : Int32} {v2 : Int32} {v3 : Int32} {v4 : Int32} {v5 : Int32} {S : xs_T} , rec35 v1 v2 v3 v4 v5 S = some q → ∀ {H : Heap} {locs : List Loc} {ls : Array Slot}, gd_W (dC, dI) A s (gX cI cB b S).flatten H locs → lv_has ls 7 [(0, .ref (b 0 0)), (1, .int v1), (2, .int v2), (3, .int v3), (4, .int v4), (5, .int v5)] → W p l e RM7_bestSeed s m args below meth c H locs 0 0 (MQ below (qi_W (dC, dI) [(cI, .int), (cB, .object "DiceRoads$Board")] A q.1 (gX cI cB b q.2).flatten) args s 0 0 A) (F0 m 35 ls [])) {v1 : Int32} {v2 : Int32} {v3 : Int32} {v4 : Int32} {v5 : Int32} {S : xs_T} (h : f7_bestSeed_b35 rec35 v1 v2 v3 v4 v5 S = some q) {H : Heap} {locs : List Loc} {ls : Array Slot} (hG : gd_W (dC, dI) A s (gX cI cB b S).flatten H locs) (hl : lv_has ls 7 [(0, .ref (b 0 0)), (1, .int v1), (2, .int v2), (3, .int v3), (4, .int v4), (5, .int v5)]) : W p l e RM7_bestSeed s m args below meth c H locs 0 0 (MQ below (qi_W (dC, dI) [(cI, .int), (cB, .object "DiceRoads$Board")] A q.1 (gX cI cB b q.2).flatten) args s 0 0 A) (F0 m 35 ls []) := by
  unfold f7_bestSeed_b35 at h
  obtain ⟨hx, hb, hr, hts, hown, hlocks, hml⟩ := id C
  refine lv_iload hx hb dX7_bestSeed_35 (lv_at hl 5 rfl) ?_
  refine lv_bipush (v := (50 : Int32)) hx hb dX7_bestSeed_37 (by decide) ?_
  refine lv_icmp_ge (tgt := 106) hx hb dX7_bestSeed_39 (by decide) (fun hc => ?_) (fun hc => ?_)
  · have h := fo_it h hc
    refine lv_iload_n hx hb dX7_bestSeed_106 rfl (lv_at hl 3 rfl) ?_
    obtain rfl := Option.some.inj h
    exact gr_i hx hb hr hlocks hK hG rfl dX7_bestSeed_107
  · have h := fo_if h hc
    refine lv_aload_n hx hb dX7_bestSeed_42 rfl (lv_at hl 0 rfl) ?_
    refine va_get (D := (dC, dI)) (ci := 6) (v := .ref (b 6 0)) (C := RX7) (T := TX7) (N := 6) hx hb hts inlX7 hown hK hG.1 0 rfl rfl 1 (by decide) (hts (Cond.fieldLink RX7 16 "DiceRoads" "trial" "LDiceRoads$Board;") wr_174) (fun _ h9 => h9) rfl dX7_bestSeed_43 ?_
    refine lv_aload_n hx hb dX7_bestSeed_46 rfl (lv_at hl 0 rfl) ?_
    refine va_get (D := (dC, dI)) (ci := 6) (v := .ref (b 5 0)) (C := RX7) (T := TX7) (N := 6) hx hb hts inlX7 hown hK hG.1 0 rfl rfl 0 (by decide) (hts (Cond.fieldLink RX7 12 "DiceRoads" "board" "LDiceRoads$Board;") wr_173) (fun _ h9 => h9) rfl dX7_bestSeed_47 ?_
    obtain ⟨q50, hq50, h⟩ := fo_bd_some h
    refine gq_vV (gs := gX cI cB b S) (gs' := gX cI cB b (xs_set S 6 q50)) (As := [.ref (b 5 0)]) (rest := []) (wc := (wd_BB cI (fun k => if k < 27 then b 6 k else b 5 (k - 27)) (S 5) (S 6))) (w1 := (wd_BB cI (fun k => if k < 27 then b 6 k else b 5 (k - 27)) (S 5) q50)) (b := b 6 0) (C := RX0) (ci := 0) (q0 := 0) ⟨hx, hb, hml, hown, hts⟩ (c0_copyFrom l (a := (fun k => if k < 27 then b 6 k else b 5 (k - 27))) (Z := (S 5)) hq50) (cwV 1 hts gv_X7_111 rfl rfl rfl hd0_copyFrom ⟨Nat.le_of_ble_eq_true rfl, Nat.le_of_ble_eq_true rfl⟩) hK [0] rfl hA hG [6, 5] [0, 1, 2, 3, 4, 7, 8, 9, 10, 11, 12, 13, 14, 15] pm_7 pm_7 rfl rfl rfl rfl rfl rfl hl.1 rfl (Nat.le_of_ble_eq_true rfl) dX7_bestSeed_50 ⟨Nat.zero_le _, Nat.zero_le _⟩ (fun H locs hG9 => ?_)
    have hG : gd_W (dC, dI) A s (gX cI cB b (xs_set S 6 q50)).flatten H locs := hG9
    refine lv_aload_n hx hb dX7_bestSeed_53 rfl (lv_at hl 0 rfl) ?_
    refine va_get (D := (dC, dI)) (ci := 6) (v := .ref (b 6 0)) (C := RX7) (T := TX7) (N := 6) hx hb hts inlX7 hown hK hG.1 0 rfl rfl 1 (by decide) (hts (Cond.fieldLink RX7 16 "DiceRoads" "trial" "LDiceRoads$Board;") wr_174) (fun _ h9 => h9) rfl dX7_bestSeed_54 ?_
    refine lv_iload hx hb dX7_bestSeed_57 (lv_at hl 5 rfl) ?_
    obtain ⟨q59, hq59, h⟩ := fo_bd_some h
    refine gq_iV (gs := gX cI cB b (xs_set S 6 q50)) (gs' := gX cI cB b (xs_set (xs_set S 6 q50) 6 q59.2)) (As := [.int v5]) (rest := []) (wc := (wd_B cI (b 6) ((xs_set S 6 q50) 6))) (w1 := (wd_B cI (b 6) q59.2)) (b := b 6 0) (C := RX0) (ci := 0) (q0 := 0) ⟨hx, hb, hml, hown, hts⟩ (c0_changeDraws l (a := b 6) hq59) (cwV 1 hts gv_X7_57 rfl rfl rfl hd0_changeDraws ⟨Nat.le_of_ble_eq_true rfl, Nat.le_of_ble_eq_true rfl⟩) hK [0] rfl hA hG [6] [0, 1, 2, 3, 4, 5, 7, 8, 9, 10, 11, 12, 13, 14, 15] pm_6 pm_6 rfl rfl rfl rfl rfl rfl hl.1 rfl (Nat.le_of_ble_eq_true rfl) dX7_bestSeed_59 ⟨Nat.zero_le _, Nat.zero_le _⟩ (fun H locs hG9 => ?_)
    have hG : gd_W (dC, dI) A s (gX cI cB b (xs_set (xs_set S 6 q50) 6 q59.2)).flatten H locs := hG9
    refine lv_pop hx hb dX7_bestSeed_62 rfl ?_
    refine lv_aload_n hx hb dX7_bestSeed_63 rfl (lv_at hl 0 rfl) ?_
    refine va_get (D := (dC, dI)) (ci := 6) (v := .ref (b 6 0)) (C := RX7) (T := TX7) (N := 6) hx hb hts inlX7 hown hK hG.1 0 rfl rfl 1 (by decide) (hts (Cond.fieldLink RX7 16 "DiceRoads" "trial" "LDiceRoads$Board;") wr_174) (fun _ h9 => h9) rfl dX7_bestSeed_64 ?_
    refine lv_iload_n hx hb dX7_bestSeed_67 rfl (lv_at hl 2 rfl) ?_
    obtain ⟨q68, hq68, h⟩ := fo_bd_some h
    refine gq_vV (gs := gX cI cB b (xs_set (xs_set S 6 q50) 6 q59.2)) (gs' := gX cI cB b (xs_set (xs_set (xs_set S 6 q50) 6 q59.2) 6 q68)) (As := [.int v2]) (rest := []) (wc := (wd_B cI (b 6) ((xs_set (xs_set S 6 q50) 6 q59.2) 6))) (w1 := (wd_B cI (b 6) q68)) (b := b 6 0) (C := RX0) (ci := 0) (q0 := 0) ⟨hx, hb, hml, hown, hts⟩ (c0_takeTurns l (a := b 6) hq68) (cwV 1 hts gv_X7_120 rfl rfl rfl hd0_takeTurns ⟨Nat.le_of_ble_eq_true rfl, Nat.le_of_ble_eq_true rfl⟩) hK [0] rfl hA hG [6] [0, 1, 2, 3, 4, 5, 7, 8, 9, 10, 11, 12, 13, 14, 15] pm_6 pm_6 rfl rfl rfl rfl rfl rfl hl.1 rfl (Nat.le_of_ble_eq_true rfl) dX7_bestSeed_68 ⟨Nat.zero_le _, Nat.zero_le _⟩ (fun H locs hG9 => ?_)
    have hG : gd_W (dC, dI) A s (gX cI cB b (xs_set (xs_set (xs_set S 6 q50) 6 q59.2) 6 q68)).flatten H locs := hG9
    refine lv_aload_n hx hb dX7_bestSeed_71 rfl (lv_at hl 0 rfl) ?_
    refine va_get (D := (dC, dI)) (ci := 6) (v := .ref (b 6 0)) (C := RX7) (T := TX7) (N := 6) hx hb hts inlX7 hown hK hG.1 0 rfl rfl 1 (by decide) (hts (Cond.fieldLink RX7 16 "DiceRoads" "trial" "LDiceRoads$Board;") wr_174) (fun _ h9 => h9) rfl dX7_bestSeed_72 ?_
    refine lv_iload_n hx hb dX7_bestSeed_75 rfl (lv_at hl 1 rfl) ?_
    obtain ⟨q76, hq76, h⟩ := fo_bd_some h
    refine gq_iV (gs := gX cI cB b (xs_set (xs_set (xs_set S 6 q50) 6 q59.2) 6 q68)) (gs' := gX cI cB b (xs_set (xs_set (xs_set S 6 q50) 6 q59.2) 6 q68)) (As := [.int v1]) (rest := []) (wc := (wd_B cI (b 6) ((xs_set (xs_set (xs_set S 6 q50) 6 q59.2) 6 q68) 6))) (w1 := (wd_B cI (b 6) ((xs_set (xs_set (xs_set S 6 q50) 6 q59.2) 6 q68) 6))) (b := b 6 0) (C := RX0) (ci := 0) (q0 := 0) ⟨hx, hb, hml, hown, hts⟩ (c0_wealthOf l (a := b 6) hq76) (cwV 1 hts gv_X7_123 rfl rfl rfl hd0_wealthOf ⟨Nat.le_of_ble_eq_true rfl, Nat.le_of_ble_eq_true rfl⟩) hK [0] rfl hA hG [6] [0, 1, 2, 3, 4, 5, 7, 8, 9, 10, 11, 12, 13, 14, 15] pm_6 pm_6 rfl rfl rfl rfl rfl rfl hl.1 rfl (Nat.le_of_ble_eq_true rfl) dX7_bestSeed_76 ⟨Nat.zero_le _, Nat.zero_le _⟩ (fun H locs hG9 => ?_)
    have hG : gd_W (dC, dI) A s (gX cI cB b (xs_set (xs_set (xs_set S 6 q50) 6 q59.2) 6 q68)).flatten H locs := hG9
    refine lv_istore (lv' := [(6, .int q76), (0, .ref (b 0 0)), (1, .int v1), (2, .int v2), (3, .int v3), (4, .int v4), (5, .int v5)]) hx hb dX7_bestSeed_79 hl (by decide) rfl (fun ls hl => ?_)
    refine lv_iload hx hb dX7_bestSeed_81 (lv_at hl 6 rfl) ?_
    refine lv_if_eq (tgt := 93) hx hb dX7_bestSeed_83 (by decide) (fun hc => ?_) (fun hc => ?_)
    · have h := fo_it h hc
      exact w7_bestSeed_b93 C hK hA (fun h => hrec35 h) h hG (lv_sub hl [1, 2, 3, 6, 0] rfl)
    · have h := fo_if h hc
      refine lv_iload hx hb dX7_bestSeed_86 (lv_at hl 0 rfl) ?_
      refine lv_iload hx hb dX7_bestSeed_88 (lv_at hl 5 rfl) ?_
      refine lv_icmp_le (tgt := 100) hx hb dX7_bestSeed_90 (by decide) (fun hc => ?_) (fun hc => ?_)
      · have h := fo_it h hc
        exact w7_bestSeed_b100 C hK hA (fun h => hrec35 h) h hG (lv_sub hl [1, 2, 3, 4, 5, 6] rfl)
      · have h := fo_if h hc
        exact w7_bestSeed_b93 C hK hA (fun h => hrec35 h) h hG (lv_sub hl [1, 2, 3, 6, 0] rfl)
set_option maxRecDepth 100000 in
set_option maxHeartbeats 4000000 in
theorem w7_bestSeed_L35 (C : cx_M p s m args meth c RX7 cX7_bestSeed (some .int) 7) (hK : va_K (dC, dI) vwCl [(cI, .int), (cB, .object "DiceRoads$Board")] s) (hA : ∀ q, s.heap.size ≤ q → A q) {b : Nat → Nat → Nat} {q : (Int32 × xs_T)} : ∀ (n : Nat) {v1 : Int32} {v2 : Int32} {v3 : Int32} {v4 : Int32} {v5 : Int32} {S : xs_T}, f7_bestSeed_L35 n v1 v2 v3 v4 v5 S = some q → ∀ {H : Heap} {locs : List Loc} {ls : Array Slot}, gd_W (dC, dI) A s (gX cI cB b S).flatten H locs → lv_has ls 7 [(0, .ref (b 0 0)), (1, .int v1), (2, .int v2), (3, .int v3), (4, .int v4), (5, .int v5)] → W p l e RM7_bestSeed s m args below meth c H locs 0 0 (MQ below (qi_W (dC, dI) [(cI, .int), (cB, .object "DiceRoads$Board")] A q.1 (gX cI cB b q.2).flatten) args s 0 0 A) (F0 m 35 ls []) := by
  intro n
  induction n with
  | zero => intro _ _ _ _ _ _ h; exact nomatch h
  | succ n ih => intro v1 v2 v3 v4 v5 S h H locs ls hG hl; exact w7_bestSeed_b35 C hK hA (fun h => ih h) (show f7_bestSeed_b35 (f7_bestSeed_L35 n) v1 v2 v3 v4 v5 S = some q from h) hG hl
set_option maxRecDepth 100000 in
set_option maxHeartbeats 4000000 in
theorem w7_bestSeed (C : cx_M p s m args meth c RX7 cX7_bestSeed (some .int) 7) (hK : va_K (dC, dI) vwCl [(cI, .int), (cB, .object "DiceRoads$Board")] s) (hA : ∀ q, s.heap.size ≤ q → A q) {b : Nat → Nat → Nat} {q : (Int32 × xs_T)} {v1 : Int32} {v2 : Int32} {S : xs_T} (h : f7_bestSeed v1 v2 S = some q) {H : Heap} {locs : List Loc} {ls : Array Slot} (hG : gd_W (dC, dI) A s (gX cI cB b S).flatten H locs) (hl : lv_has ls 7 [(0, .ref (b 0 0)), (1, .int v1), (2, .int v2)]) : W p l e RM7_bestSeed s m args below meth c H locs 0 0 (MQ below (qi_W (dC, dI) [(cI, .int), (cB, .object "DiceRoads$Board")] A q.1 (gX cI cB b q.2).flatten) args s 0 0 A) (F0 m 0 ls []) := by
  unfold f7_bestSeed at h
  obtain ⟨hx, hb, hr, hts, hown, hlocks, hml⟩ := id C
  refine lv_aload_n hx hb dX7_bestSeed_0 rfl (lv_at hl 0 rfl) ?_
  refine va_get (D := (dC, dI)) (ci := 6) (v := .ref (b 5 0)) (C := RX7) (T := TX7) (N := 6) hx hb hts inlX7 hown hK hG.1 0 rfl rfl 0 (by decide) (hts (Cond.fieldLink RX7 12 "DiceRoads" "board" "LDiceRoads$Board;") wr_173) (fun _ h9 => h9) rfl dX7_bestSeed_1 ?_
  refine lv_iload_n hx hb dX7_bestSeed_4 rfl (lv_at hl 1 rfl) ?_
  obtain ⟨q5, hq5, h⟩ := fo_bd_some h
  refine gq_iV (gs := gX cI cB b S) (gs' := gX cI cB b S) (As := [.int v1]) (rest := []) (wc := (wd_B cI (b 5) (S 5))) (w1 := (wd_B cI (b 5) (S 5))) (b := b 5 0) (C := RX0) (ci := 0) (q0 := 0) ⟨hx, hb, hml, hown, hts⟩ (c0_hasPlayer l (a := b 5) hq5) (cwV 1 hts gv_X7_69 rfl rfl rfl hd0_hasPlayer ⟨Nat.le_of_ble_eq_true rfl, Nat.le_of_ble_eq_true rfl⟩) hK [0] rfl hA hG [5] [0, 1, 2, 3, 4, 6, 7, 8, 9, 10, 11, 12, 13, 14, 15] pm_2 pm_2 rfl rfl rfl rfl rfl rfl hl.1 rfl (Nat.le_of_ble_eq_true rfl) dX7_bestSeed_5 ⟨Nat.zero_le _, Nat.zero_le _⟩ (fun H locs hG9 => ?_)
  have hG : gd_W (dC, dI) A s (gX cI cB b S).flatten H locs := hG9
  refine lv_if_ne (tgt := 13) hx hb dX7_bestSeed_8 (by decide) (fun hc => ?_) (fun hc => ?_)
  · have h := fo_if h hc
    refine lv_iload_n hx hb dX7_bestSeed_13 rfl (lv_at hl 2 rfl) ?_
    refine lv_iconst (v := (1 : Int32)) hx hb dX7_bestSeed_14 (by decide) ?_
    refine lv_icmp_lt (tgt := 24) hx hb dX7_bestSeed_15 (by decide) (fun hc => ?_) (fun hc => ?_)
    · have h := fo_it h hc
      refine lv_bipush (v := (-2 : Int32)) hx hb dX7_bestSeed_24 (by decide) ?_
      obtain rfl := Option.some.inj h
      exact gr_i hx hb hr hlocks hK hG rfl dX7_bestSeed_26
    · have h := fo_if h hc
      refine lv_iload_n hx hb dX7_bestSeed_18 rfl (lv_at hl 2 rfl) ?_
      refine lv_bipush (v := (60 : Int32)) hx hb dX7_bestSeed_19 (by decide) ?_
      refine lv_icmp_le (tgt := 27) hx hb dX7_bestSeed_21 (by decide) (fun hc => ?_) (fun hc => ?_)
      · have h := fo_it h hc
        refine lv_iconst (v := (0 : Int32)) hx hb dX7_bestSeed_27 (by decide) ?_
        refine lv_istore_n (lv' := [(3, .int (0 : Int32)), (0, .ref (b 0 0)), (1, .int v1), (2, .int v2)]) hx hb dX7_bestSeed_28 rfl hl (by decide) rfl (fun ls hl => ?_)
        refine lv_iconst (v := (0 : Int32)) hx hb dX7_bestSeed_29 (by decide) ?_
        refine lv_istore (lv' := [(4, .int (0 : Int32)), (3, .int (0 : Int32)), (0, .ref (b 0 0)), (1, .int v1), (2, .int v2)]) hx hb dX7_bestSeed_30 hl (by decide) rfl (fun ls hl => ?_)
        refine lv_iconst (v := (0 : Int32)) hx hb dX7_bestSeed_32 (by decide) ?_
        refine lv_istore (lv' := [(5, .int (0 : Int32)), (4, .int (0 : Int32)), (3, .int (0 : Int32)), (0, .ref (b 0 0)), (1, .int v1), (2, .int v2)]) hx hb dX7_bestSeed_33 hl (by decide) rfl (fun ls hl => ?_)
        exact w7_bestSeed_L35 C hK hA fo_fu h hG (lv_sub hl [3, 4, 5, 2, 1, 0] rfl)
      · have h := fo_if h hc
        refine lv_bipush (v := (-2 : Int32)) hx hb dX7_bestSeed_24 (by decide) ?_
        obtain rfl := Option.some.inj h
        exact gr_i hx hb hr hlocks hK hG rfl dX7_bestSeed_26
  · have h := fo_it h hc
    refine lv_iconst (v := (-1 : Int32)) hx hb dX7_bestSeed_11 (by decide) ?_
    obtain rfl := Option.some.inj h
    exact gr_i hx hb hr hlocks hK hG rfl dX7_bestSeed_12
set_option maxRecDepth 100000 in
set_option maxHeartbeats 4000000 in
theorem c7_bestSeed (l : Launch) {dC : Nat → ClassId} {dI : Nat → Nat → Nat} {cI : ClassId} {cB : ClassId} {b : Nat → Nat → Nat} {v1 : Int32} {v2 : Int32} {S : xs_T} {q : (Int32 × xs_T)} (h : f7_bestSeed v1 v2 S = some q) : mi_M l yX7_bestSeed wm7_bestSeed RM7_bestSeed (dC, dI) [(cI, .int), (cB, .object "DiceRoads$Board")] [.ref (b 0 0), .int v1, .int v2] (gX cI cB b S).flatten q.1 (gX cI cB b q.2).flatten := by
  intro sz
  refine Met.ofW (cc := cX7_bestSeed) (maxL := 7) (ret := (some .int)) (by decide) rfl ?_
  intro p e s m args below meth c s₁ B hml hv
  obtain ⟨rfl, hsz, hP, hK, hD0⟩ := hv
  subst hsz
  have hl := lv_entry ([.ref (b 0 0), .int v1, .int v2] : List Value) (n := 7) (Nat.le_of_ble_eq_true rfl)
  rw [lg_entry_eq]
  generalize (lg_sl ([.ref (b 0 0), .int v1, .int v2] : List Value) ++ List.replicate (7 - (lg_sl ([.ref (b 0 0), .int v1, .int v2] : List Value)).length) Slot.unset).toArray = ls at hl ⊢
  exact w7_bestSeed (b := b) ⟨B.exec, B.bytes, B.returns, fun w hw => atoms_spec (ws := wm7_bestSeed) B.pre w (List.mem_cons_of_mem _ hw), findClass_of_methodNamed B.named, B.notSynchronized, hml⟩ hK (fun _ h => Or.inr h) h ⟨hP, hD0.self, va_S.rf⟩ hl
end
