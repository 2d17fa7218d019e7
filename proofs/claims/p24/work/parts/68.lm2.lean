/-! ## DiceRoadsLaw.same(LDiceRoads;[I[I[I[I[I)Z -/
section
variable {p : Program} {l : Launch} {e : Env} {s : State} {m : MethodId} {args : Array Value} {below : List Frame} {meth : Method} {c : Code} {dC : Nat → ClassId} {dI : Nat → Nat → Nat} {cI cB : ClassId} {A : Nat → Prop}
set_option maxRecDepth 100000 in
set_option maxHeartbeats 4000000 in
theorem w9_same_b700 (C : cx_M p s m args meth c RL cL_same (some .boolean) 16) (hK : va_K (dC, dI) vwCl [(cI, .int), (cB, .object "DiceRoads$Board")] s) (hA : ∀ q, s.heap.size ≤ q → A q) {b : Nat → Nat → Nat} {q : (Int32 × ys_T)} {v6 : Int32} {v7 : Int32} {v8 : Int32} {t0 : Int32} {t1 : Int32} {S : ys_T} (h : f9_same_b700 v6 v7 v8 t0 t1 S = some q) {H : Heap} {locs : List Loc} {ls : Array Slot} (hG : gd_W (dC, dI) A s (gY cI cB b S).flatten H locs) (hl : lv_has ls 16 [(0, .ref (b 0 0)), (1, .ref (b 16 0)), (6, .int v6), (7, .int v7), (8, .int v8)]) : W p l e RM9_same s m args below meth c H locs 0 0 (MQ below (qi_W (dC, dI) [(cI, .int), (cB, .object "DiceRoads$Board")] A q.1 (gY cI cB b q.2).flatten) args s 0 0 A) (F0 m 700 ls [.int t1, .int t0]) := by
  unfold f9_same_b700 at h
  obtain ⟨hx, hb, hr, hts, hown, hlocks, hml⟩ := id C
  refine lv_icmp_ne (tgt := 776) hx hb dL_same_700 (by decide) (fun hc => ?_) (fun hc => ?_)
  · have h := fo_if h hc
    refine lv_iconst (v := (0 : Int32)) hx hb dL_same_776 (by decide) ?_
    obtain rfl := Option.some.inj h
    exact gr_z hx hb hr hlocks hK hG rfl rfl dL_same_777
  · have h := fo_it h hc
    refine lv_aload_n hx hb dL_same_703 rfl (lv_at hl 0 rfl) ?_
    refine lv_iconst (v := (3 : Int32)) hx hb dL_same_704 (by decide) ?_
    obtain ⟨q705, hq705, h⟩ := fo_bd_some h
    refine gq_iV (gs := gY cI cB b S) (gs' := gY cI cB b (q705.2, S.2)) (As := [.int (3 : Int32)]) (rest := []) (wc := (gX cI cB b S.1).flatten) (w1 := (gX cI cB b q705.2).flatten) (b := b 0 0) (C := RX7) (ci := 6) (q0 := 0) ⟨hx, hb, hml, hown, hts⟩ (c7_count l hq705) (cwV 1 hts gv_X9_46 rfl rfl rfl hd7_count ⟨Nat.le_of_ble_eq_true rfl, Nat.le_of_ble_eq_true rfl⟩) hK [0, 1] rfl hA hG [2] [0, 1] py_0 py_0 (List.append_nil _) (List.append_nil _) rfl rfl rfl rfl hl.1 rfl (Nat.le_of_ble_eq_true rfl) dL_same_705 ⟨Nat.zero_le _, Nat.zero_le _⟩ (fun H locs hG9 => ?_)
    have hG : gd_W (dC, dI) A s (gY cI cB b (q705.2, S.2)).flatten H locs := hG9
    refine lv_iload hx hb dL_same_708 (lv_at hl 3 rfl) ?_
    refine lv_icmp_ne (tgt := 776) hx hb dL_same_710 (by decide) (fun hc => ?_) (fun hc => ?_)
    · have h := fo_if h hc
      refine lv_iconst (v := (0 : Int32)) hx hb dL_same_776 (by decide) ?_
      obtain rfl := Option.some.inj h
      exact gr_z hx hb hr hlocks hK hG rfl rfl dL_same_777
    · have h := fo_it h hc
      refine lv_aload_n hx hb dL_same_713 rfl (lv_at hl 0 rfl) ?_
      refine lv_iconst (v := (4 : Int32)) hx hb dL_same_714 (by decide) ?_
      obtain ⟨q715, hq715, h⟩ := fo_bd_some h
      refine gq_iV (gs := gY cI cB b (q705.2, S.2)) (gs' := gY cI cB b (q715.2, (q705.2, S.2).2)) (As := [.int (4 : Int32)]) (rest := []) (wc := (gX cI cB b (q705.2, S.2).1).flatten) (w1 := (gX cI cB b q715.2).flatten) (b := b 0 0) (C := RX7) (ci := 6) (q0 := 0) ⟨hx, hb, hml, hown, hts⟩ (c7_count l hq715) (cwV 1 hts gv_X9_46 rfl rfl rfl hd7_count ⟨Nat.le_of_ble_eq_true rfl, Nat.le_of_ble_eq_true rfl⟩) hK [0, 1] rfl hA hG [2] [0, 1] py_0 py_0 (List.append_nil _) (List.append_nil _) rfl rfl rfl rfl hl.1 rfl (Nat.le_of_ble_eq_true rfl) dL_same_715 ⟨Nat.zero_le _, Nat.zero_le _⟩ (fun H locs hG9 => ?_)
      have hG : gd_W (dC, dI) A s (gY cI cB b (q715.2, (q705.2, S.2).2)).flatten H locs := hG9
      refine lv_iload hx hb dL_same_718 (lv_at hl 2 rfl) ?_
      refine lv_icmp_ne (tgt := 776) hx hb dL_same_720 (by decide) (fun hc => ?_) (fun hc => ?_)
      · have h := fo_if h hc
        refine lv_iconst (v := (0 : Int32)) hx hb dL_same_776 (by decide) ?_
        obtain rfl := Option.some.inj h
        exact gr_z hx hb hr hlocks hK hG rfl rfl dL_same_777
      · have h := fo_it h hc
        refine lv_aload_n hx hb dL_same_723 rfl (lv_at hl 0 rfl) ?_
        refine lv_iconst (v := (5 : Int32)) hx hb dL_same_724 (by decide) ?_
        obtain ⟨q725, hq725, h⟩ := fo_bd_some h
        refine gq_iV (gs := gY cI cB b (q715.2, (q705.2, S.2).2)) (gs' := gY cI cB b (q725.2, (q715.2, (q705.2, S.2).2).2)) (As := [.int (5 : Int32)]) (rest := []) (wc := (gX cI cB b (q715.2, (q705.2, S.2).2).1).flatten) (w1 := (gX cI cB b q725.2).flatten) (b := b 0 0) (C := RX7) (ci := 6) (q0 := 0) ⟨hx, hb, hml, hown, hts⟩ (c7_count l hq725) (cwV 1 hts gv_X9_46 rfl rfl rfl hd7_count ⟨Nat.le_of_ble_eq_true rfl, Nat.le_of_ble_eq_true rfl⟩) hK [0, 1] rfl hA hG [2] [0, 1] py_0 py_0 (List.append_nil _) (List.append_nil _) rfl rfl rfl rfl hl.1 rfl (Nat.le_of_ble_eq_true rfl) dL_same_725 ⟨Nat.zero_le _, Nat.zero_le _⟩ (fun H locs hG9 => ?_)
        have hG : gd_W (dC, dI) A s (gY cI cB b (q725.2, (q715.2, (q705.2, S.2).2).2)).flatten H locs := hG9
        refine lv_iload hx hb dL_same_728 (lv_at hl 4 rfl) ?_
        refine lv_icmp_ne (tgt := 776) hx hb dL_same_730 (by decide) (fun hc => ?_) (fun hc => ?_)
        · have h := fo_if h hc
          refine lv_iconst (v := (0 : Int32)) hx hb dL_same_776 (by decide) ?_
          obtain rfl := Option.some.inj h
          exact gr_z hx hb hr hlocks hK hG rfl rfl dL_same_777
        · have h := fo_it h hc
          refine lv_aload_n hx hb dL_same_733 rfl (lv_at hl 0 rfl) ?_
          refine lv_bipush (v := (6 : Int32)) hx hb dL_same_734 (by decide) ?_
          obtain ⟨q736, hq736, h⟩ := fo_bd_some h
          refine gq_iV (gs := gY cI cB b (q725.2, (q715.2, (q705.2, S.2).2).2)) (gs' := gY cI cB b (q736.2, (q725.2, (q715.2, (q705.2, S.2).2).2).2)) (As := [.int (6 : Int32)]) (rest := []) (wc := (gX cI cB b (q725.2, (q715.2, (q705.2, S.2).2).2).1).flatten) (w1 := (gX cI cB b q736.2).flatten) (b := b 0 0) (C := RX7) (ci := 6) (q0 := 0) ⟨hx, hb, hml, hown, hts⟩ (c7_count l hq736) (cwV 1 hts gv_X9_46 rfl rfl rfl hd7_count ⟨Nat.le_of_ble_eq_true rfl, Nat.le_of_ble_eq_true rfl⟩) hK [0, 1] rfl hA hG [2] [0, 1] py_0 py_0 (List.append_nil _) (List.append_nil _) rfl rfl rfl rfl hl.1 rfl (Nat.le_of_ble_eq_true rfl) dL_same_736 ⟨Nat.zero_le _, Nat.zero_le _⟩ (fun H locs hG9 => ?_)
          have hG : gd_W (dC, dI) A s (gY cI cB b (q736.2, (q725.2, (q715.2, (q705.2, S.2).2).2).2)).flatten H locs := hG9
          refine lv_aload_n hx hb dL_same_739 rfl (lv_at hl 1 rfl) ?_
          refine lv_bipush (v := (9 : Int32)) hx hb dL_same_740 (by decide) ?_
          obtain ⟨hi, h⟩ := fo_ck_some h
          refine va_iald hx hb hK hG.1 0 0 rfl rfl hi dL_same_742 ?_
          refine lv_icmp_ne (tgt := 776) hx hb dL_same_743 (by decide) (fun hc => ?_) (fun hc => ?_)
          · have h := fo_if h hc
            refine lv_iconst (v := (0 : Int32)) hx hb dL_same_776 (by decide) ?_
            obtain rfl := Option.some.inj h
            exact gr_z hx hb hr hlocks hK hG rfl rfl dL_same_777
          · have h := fo_it h hc
            refine lv_aload_n hx hb dL_same_746 rfl (lv_at hl 0 rfl) ?_
            refine lv_bipush (v := (7 : Int32)) hx hb dL_same_747 (by decide) ?_
            obtain ⟨q749, hq749, h⟩ := fo_bd_some h
            refine gq_iV (gs := gY cI cB b (q736.2, (q725.2, (q715.2, (q705.2, S.2).2).2).2)) (gs' := gY cI cB b (q749.2, (q736.2, (q725.2, (q715.2, (q705.2, S.2).2).2).2).2)) (As := [.int (7 : Int32)]) (rest := []) (wc := (gX cI cB b (q736.2, (q725.2, (q715.2, (q705.2, S.2).2).2).2).1).flatten) (w1 := (gX cI cB b q749.2).flatten) (b := b 0 0) (C := RX7) (ci := 6) (q0 := 0) ⟨hx, hb, hml, hown, hts⟩ (c7_count l hq749) (cwV 1 hts gv_X9_46 rfl rfl rfl hd7_count ⟨Nat.le_of_ble_eq_true rfl, Nat.le_of_ble_eq_true rfl⟩) hK [0, 1] rfl hA hG [2] [0, 1] py_0 py_0 (List.append_nil _) (List.append_nil _) rfl rfl rfl rfl hl.1 rfl (Nat.le_of_ble_eq_true rfl) dL_same_749 ⟨Nat.zero_le _, Nat.zero_le _⟩ (fun H locs hG9 => ?_)
            have hG : gd_W (dC, dI) A s (gY cI cB b (q749.2, (q736.2, (q725.2, (q715.2, (q705.2, S.2).2).2).2).2)).flatten H locs := hG9
            refine lv_aload_n hx hb dL_same_752 rfl (lv_at hl 1 rfl) ?_
            refine lv_bipush (v := (10 : Int32)) hx hb dL_same_753 (by decide) ?_
            obtain ⟨hi, h⟩ := fo_ck_some h
            refine va_iald hx hb hK hG.1 0 0 rfl rfl hi dL_same_755 ?_
            refine lv_icmp_ne (tgt := 776) hx hb dL_same_756 (by decide) (fun hc => ?_) (fun hc => ?_)
            · have h := fo_if h hc
              refine lv_iconst (v := (0 : Int32)) hx hb dL_same_776 (by decide) ?_
              obtain rfl := Option.some.inj h
              exact gr_z hx hb hr hlocks hK hG rfl rfl dL_same_777
            · have h := fo_it h hc
              refine lv_aload_n hx hb dL_same_759 rfl (lv_at hl 0 rfl) ?_
              refine lv_bipush (v := (8 : Int32)) hx hb dL_same_760 (by decide) ?_
              obtain ⟨q762, hq762, h⟩ := fo_bd_some h
              refine gq_iV (gs := gY cI cB b (q749.2, (q736.2, (q725.2, (q715.2, (q705.2, S.2).2).2).2).2)) (gs' := gY cI cB b (q762.2, (q749.2, (q736.2, (q725.2, (q715.2, (q705.2, S.2).2).2).2).2).2)) (As := [.int (8 : Int32)]) (rest := []) (wc := (gX cI cB b (q749.2, (q736.2, (q725.2, (q715.2, (q705.2, S.2).2).2).2).2).1).flatten) (w1 := (gX cI cB b q762.2).flatten) (b := b 0 0) (C := RX7) (ci := 6) (q0 := 0) ⟨hx, hb, hml, hown, hts⟩ (c7_count l hq762) (cwV 1 hts gv_X9_46 rfl rfl rfl hd7_count ⟨Nat.le_of_ble_eq_true rfl, Nat.le_of_ble_eq_true rfl⟩) hK [0, 1] rfl hA hG [2] [0, 1] py_0 py_0 (List.append_nil _) (List.append_nil _) rfl rfl rfl rfl hl.1 rfl (Nat.le_of_ble_eq_true rfl) dL_same_762 ⟨Nat.zero_le _, Nat.zero_le _⟩ (fun H locs hG9 => ?_)
              have hG : gd_W (dC, dI) A s (gY cI cB b (q762.2, (q749.2, (q736.2, (q725.2, (q715.2, (q705.2, S.2).2).2).2).2).2)).flatten H locs := hG9
              refine lv_aload_n hx hb dL_same_765 rfl (lv_at hl 1 rfl) ?_
              refine lv_bipush (v := (8 : Int32)) hx hb dL_same_766 (by decide) ?_
              obtain ⟨hi, h⟩ := fo_ck_some h
              refine va_iald hx hb hK hG.1 0 0 rfl rfl hi dL_same_768 ?_
              refine lv_icmp_ne (tgt := 776) hx hb dL_same_769 (by decide) (fun hc => ?_) (fun hc => ?_)
              · have h := fo_if h hc
                refine lv_iconst (v := (0 : Int32)) hx hb dL_same_776 (by decide) ?_
                obtain rfl := Option.some.inj h
                exact gr_z hx hb hr hlocks hK hG rfl rfl dL_same_777
              · have h := fo_it h hc
                refine lv_iconst (v := (1 : Int32)) hx hb dL_same_772 (by decide) ?_
                refine lv_goto (tgt := 777) hx hb dL_same_773 (by decide) ?_
                obtain rfl := Option.some.inj h
                exact gr_z hx hb hr hlocks hK hG rfl rfl dL_same_777
set_option maxRecDepth 100000 in
set_option maxHeartbeats 4000000 in
theorem w9_same_b605 (C : cx_M p s m args meth c RL cL_same (some .boolean) 16) (hK : va_K (dC, dI) vwCl [(cI, .int), (cB, .object "DiceRoads$Board")] s) (hA : ∀ q, s.heap.size ≤ q → A q) {b : Nat → Nat → Nat} {q : (Int32 × ys_T)} {rec605 : Int32 → Int32 → Int32 → Int32 → Int32 → ys_T → Option (Int32 × ys_T)} (hrec605 : ∀ {v6 : Int32} {v7 : Int32} {v8 : Int32} {v9 : Int32} {v10 : Int32} {S : ys_T} , rec605 v6 v7 v8 v9 v10 S = some q → ∀ {H : Heap} {locs : List Loc} {ls : Array Slot}, gd_W (dC, dI) A s (gY cI cB b S).flatten H locs → lv_has ls 16 [(0, .ref (b 0 0)), (1, .ref (b 16 0)), (6, .int v6), (7, .int v7), (8, .int v8), (9, .int v9), (10, .int v10)] → W p l e RM9_same s m args below meth c H locs 0 0 (MQ below (qi_W (dC, dI) [(cI, .int), (cB, .object "DiceRoads$Board")] A q.1 (gY cI cB b q.2).flatten) args s 0 0 A) (F0 m 605 ls [])) {v6 : Int32} {v7 : Int32} {v8 : Int32} {v9 : Int32} {v10 : Int32} {S : ys_T} (h : f9_same_b605 rec605 v6 v7 v8 v9 v10 S = some q) {H : Heap} {locs : List Loc} {ls : Array Slot} (hG : gd_W (dC, dI) A s (gY cI cB b S).flatten H locs) (hl : lv_has ls 16 [(0, .ref (b 0 0)), (1, .ref (b 16 0)), (6, .int v6), (7, .int v7), (8, .int v8), (9, .int v9), (10, .int v10)]) : W p l e RM9_same s m args below meth c H locs 0 0 (MQ below (qi_W (dC, dI) [(cI, .int), (cB, .object "DiceRoads$Board")] A q.1 (gY cI cB b q.2).flatten) args s 0 0 A) (F0 m 605 ls []) := by
  unfold f9_same_b605 at h
  obtain ⟨hx, hb, hr, hts, hown, hlocks, hml⟩ := id C
  refine lv_iload hx hb dL_same_605 (lv_at hl 6 rfl) ?_
  refine lv_iconst (v := (5 : Int32)) hx hb dL_same_607 (by decide) ?_
  refine lv_icmp_ge (tgt := 635) hx hb dL_same_608 (by decide) (fun hc => ?_) (fun hc => ?_)
  · have h := fo_it h hc
    refine lv_aload_n hx hb dL_same_635 rfl (lv_at hl 0 rfl) ?_
    refine lv_iload hx hb dL_same_636 (lv_at hl 5 rfl) ?_
    obtain ⟨q638, hq638, h⟩ := fo_bd_some h
    refine gq_iV (gs := gY cI cB b S) (gs' := gY cI cB b (q638.2, S.2)) (As := [.int v9]) (rest := []) (wc := (gX cI cB b S.1).flatten) (w1 := (gX cI cB b q638.2).flatten) (b := b 0 0) (C := RX7) (ci := 6) (q0 := 0) ⟨hx, hb, hml, hown, hts⟩ (c7_sign l hq638) (cwV 1 hts gv_X9_39 rfl rfl rfl hd7_sign ⟨Nat.le_of_ble_eq_true rfl, Nat.le_of_ble_eq_true rfl⟩) hK [0, 1] rfl hA hG [2] [0, 1] py_0 py_0 (List.append_nil _) (List.append_nil _) rfl rfl rfl rfl hl.1 rfl (Nat.le_of_ble_eq_true rfl) dL_same_638 ⟨Nat.zero_le _, Nat.zero_le _⟩ (fun H locs hG9 => ?_)
    have hG : gd_W (dC, dI) A s (gY cI cB b (q638.2, S.2)).flatten H locs := hG9
    refine lv_iconst (v := (-1 : Int32)) hx hb dL_same_641 (by decide) ?_
    refine lv_icmp_ne (tgt := 776) hx hb dL_same_642 (by decide) (fun hc => ?_) (fun hc => ?_)
    · have h := fo_if h hc
      refine lv_iconst (v := (0 : Int32)) hx hb dL_same_776 (by decide) ?_
      obtain rfl := Option.some.inj h
      exact gr_z hx hb hr hlocks hK hG rfl rfl dL_same_777
    · have h := fo_it h hc
      refine lv_aload_n hx hb dL_same_645 rfl (lv_at hl 0 rfl) ?_
      refine lv_bipush (v := (14 : Int32)) hx hb dL_same_646 (by decide) ?_
      obtain ⟨q648, hq648, h⟩ := fo_bd_some h
      refine gq_iV (gs := gY cI cB b (q638.2, S.2)) (gs' := gY cI cB b (q648.2, (q638.2, S.2).2)) (As := [.int (14 : Int32)]) (rest := []) (wc := (gX cI cB b (q638.2, S.2).1).flatten) (w1 := (gX cI cB b q648.2).flatten) (b := b 0 0) (C := RX7) (ci := 6) (q0 := 0) ⟨hx, hb, hml, hown, hts⟩ (c7_count l hq648) (cwV 1 hts gv_X9_46 rfl rfl rfl hd7_count ⟨Nat.le_of_ble_eq_true rfl, Nat.le_of_ble_eq_true rfl⟩) hK [0, 1] rfl hA hG [2] [0, 1] py_0 py_0 (List.append_nil _) (List.append_nil _) rfl rfl rfl rfl hl.1 rfl (Nat.le_of_ble_eq_true rfl) dL_same_648 ⟨Nat.zero_le _, Nat.zero_le _⟩ (fun H locs hG9 => ?_)
      have hG : gd_W (dC, dI) A s (gY cI cB b (q648.2, (q638.2, S.2).2)).flatten H locs := hG9
      refine lv_iload hx hb dL_same_651 (lv_at hl 5 rfl) ?_
      refine lv_icmp_ne (tgt := 776) hx hb dL_same_653 (by decide) (fun hc => ?_) (fun hc => ?_)
      · have h := fo_if h hc
        refine lv_iconst (v := (0 : Int32)) hx hb dL_same_776 (by decide) ?_
        obtain rfl := Option.some.inj h
        exact gr_z hx hb hr hlocks hK hG rfl rfl dL_same_777
      · have h := fo_it h hc
        refine lv_aload_n hx hb dL_same_656 rfl (lv_at hl 0 rfl) ?_
        refine lv_iconst (v := (0 : Int32)) hx hb dL_same_657 (by decide) ?_
        obtain ⟨q658, hq658, h⟩ := fo_bd_some h
        refine gq_iV (gs := gY cI cB b (q648.2, (q638.2, S.2).2)) (gs' := gY cI cB b (q658.2, (q648.2, (q638.2, S.2).2).2)) (As := [.int (0 : Int32)]) (rest := []) (wc := (gX cI cB b (q648.2, (q638.2, S.2).2).1).flatten) (w1 := (gX cI cB b q658.2).flatten) (b := b 0 0) (C := RX7) (ci := 6) (q0 := 0) ⟨hx, hb, hml, hown, hts⟩ (c7_count l hq658) (cwV 1 hts gv_X9_46 rfl rfl rfl hd7_count ⟨Nat.le_of_ble_eq_true rfl, Nat.le_of_ble_eq_true rfl⟩) hK [0, 1] rfl hA hG [2] [0, 1] py_0 py_0 (List.append_nil _) (List.append_nil _) rfl rfl rfl rfl hl.1 rfl (Nat.le_of_ble_eq_true rfl) dL_same_658 ⟨Nat.zero_le _, Nat.zero_le _⟩ (fun H locs hG9 => ?_)
        have hG : gd_W (dC, dI) A s (gY cI cB b (q658.2, (q648.2, (q638.2, S.2).2).2)).flatten H locs := hG9
        refine lv_aload_n hx hb dL_same_661 rfl (lv_at hl 1 rfl) ?_
        refine lv_iconst (v := (5 : Int32)) hx hb dL_same_662 (by decide) ?_
        obtain ⟨hi, h⟩ := fo_ck_some h
        refine va_iald hx hb hK hG.1 0 0 rfl rfl hi dL_same_663 ?_
        refine lv_icmp_ne (tgt := 776) hx hb dL_same_664 (by decide) (fun hc => ?_) (fun hc => ?_)
        · have h := fo_if h hc
          refine lv_iconst (v := (0 : Int32)) hx hb dL_same_776 (by decide) ?_
          obtain rfl := Option.some.inj h
          exact gr_z hx hb hr hlocks hK hG rfl rfl dL_same_777
        · have h := fo_it h hc
          refine lv_aload_n hx hb dL_same_667 rfl (lv_at hl 0 rfl) ?_
          refine lv_iconst (v := (1 : Int32)) hx hb dL_same_668 (by decide) ?_
          obtain ⟨q669, hq669, h⟩ := fo_bd_some h
          refine gq_iV (gs := gY cI cB b (q658.2, (q648.2, (q638.2, S.2).2).2)) (gs' := gY cI cB b (q669.2, (q658.2, (q648.2, (q638.2, S.2).2).2).2)) (As := [.int (1 : Int32)]) (rest := []) (wc := (gX cI cB b (q658.2, (q648.2, (q638.2, S.2).2).2).1).flatten) (w1 := (gX cI cB b q669.2).flatten) (b := b 0 0) (C := RX7) (ci := 6) (q0 := 0) ⟨hx, hb, hml, hown, hts⟩ (c7_count l hq669) (cwV 1 hts gv_X9_46 rfl rfl rfl hd7_count ⟨Nat.le_of_ble_eq_true rfl, Nat.le_of_ble_eq_true rfl⟩) hK [0, 1] rfl hA hG [2] [0, 1] py_0 py_0 (List.append_nil _) (List.append_nil _) rfl rfl rfl rfl hl.1 rfl (Nat.le_of_ble_eq_true rfl) dL_same_669 ⟨Nat.zero_le _, Nat.zero_le _⟩ (fun H locs hG9 => ?_)
          have hG : gd_W (dC, dI) A s (gY cI cB b (q669.2, (q658.2, (q648.2, (q638.2, S.2).2).2).2)).flatten H locs := hG9
          refine lv_aload_n hx hb dL_same_672 rfl (lv_at hl 1 rfl) ?_
          refine lv_bipush (v := (6 : Int32)) hx hb dL_same_673 (by decide) ?_
          obtain ⟨hi, h⟩ := fo_ck_some h
          refine va_iald hx hb hK hG.1 0 0 rfl rfl hi dL_same_675 ?_
          refine lv_icmp_ne (tgt := 776) hx hb dL_same_676 (by decide) (fun hc => ?_) (fun hc => ?_)
          · have h := fo_if h hc
            refine lv_iconst (v := (0 : Int32)) hx hb dL_same_776 (by decide) ?_
            obtain rfl := Option.some.inj h
            exact gr_z hx hb hr hlocks hK hG rfl rfl dL_same_777
          · have h := fo_it h hc
            refine lv_aload_n hx hb dL_same_679 rfl (lv_at hl 0 rfl) ?_
            refine lv_iconst (v := (2 : Int32)) hx hb dL_same_680 (by decide) ?_
            obtain ⟨q681, hq681, h⟩ := fo_bd_some h
            refine gq_iV (gs := gY cI cB b (q669.2, (q658.2, (q648.2, (q638.2, S.2).2).2).2)) (gs' := gY cI cB b (q681.2, (q669.2, (q658.2, (q648.2, (q638.2, S.2).2).2).2).2)) (As := [.int (2 : Int32)]) (rest := []) (wc := (gX cI cB b (q669.2, (q658.2, (q648.2, (q638.2, S.2).2).2).2).1).flatten) (w1 := (gX cI cB b q681.2).flatten) (b := b 0 0) (C := RX7) (ci := 6) (q0 := 0) ⟨hx, hb, hml, hown, hts⟩ (c7_count l hq681) (cwV 1 hts gv_X9_46 rfl rfl rfl hd7_count ⟨Nat.le_of_ble_eq_true rfl, Nat.le_of_ble_eq_true rfl⟩) hK [0, 1] rfl hA hG [2] [0, 1] py_0 py_0 (List.append_nil _) (List.append_nil _) rfl rfl rfl rfl hl.1 rfl (Nat.le_of_ble_eq_true rfl) dL_same_681 ⟨Nat.zero_le _, Nat.zero_le _⟩ (fun H locs hG9 => ?_)
            have hG : gd_W (dC, dI) A s (gY cI cB b (q681.2, (q669.2, (q658.2, (q648.2, (q638.2, S.2).2).2).2).2)).flatten H locs := hG9
            refine lv_aload_n hx hb dL_same_684 rfl (lv_at hl 1 rfl) ?_
            refine lv_bipush (v := (6 : Int32)) hx hb dL_same_685 (by decide) ?_
            obtain ⟨hi, h⟩ := fo_ck_some h
            refine va_iald hx hb hK hG.1 0 0 rfl rfl hi dL_same_687 ?_
            refine lv_if_ne (tgt := 696) hx hb dL_same_688 (by decide) (fun hc => ?_) (fun hc => ?_)
            · have h := fo_if h hc
              refine lv_aload_n hx hb dL_same_696 rfl (lv_at hl 1 rfl) ?_
              refine lv_bipush (v := (7 : Int32)) hx hb dL_same_697 (by decide) ?_
              obtain ⟨hi, h⟩ := fo_ck_some h
              refine va_iald hx hb hK hG.1 0 0 rfl rfl hi dL_same_699 ?_
              exact w9_same_b700 C hK hA h hG (lv_sub hl [0, 1, 2, 3, 4] rfl)
            · have h := fo_it h hc
              refine lv_bipush (v := (-6 : Int32)) hx hb dL_same_691 (by decide) ?_
              refine lv_goto (tgt := 700) hx hb dL_same_693 (by decide) ?_
              exact w9_same_b700 C hK hA h hG (lv_sub hl [0, 1, 2, 3, 4] rfl)
  · have h := fo_if h hc
    refine lv_aload_n hx hb dL_same_611 rfl (lv_at hl 0 rfl) ?_
    refine lv_bipush (v := (9 : Int32)) hx hb dL_same_612 (by decide) ?_
    refine lv_iload hx hb dL_same_614 (lv_at hl 6 rfl) ?_
    refine lv_iadd hx hb dL_same_616 ?_
    obtain ⟨q617, hq617, h⟩ := fo_bd_some h
    refine gq_iV (gs := gY cI cB b S) (gs' := gY cI cB b (q617.2, S.2)) (As := [.int ((9 : Int32) + v10)]) (rest := []) (wc := (gX cI cB b S.1).flatten) (w1 := (gX cI cB b q617.2).flatten) (b := b 0 0) (C := RX7) (ci := 6) (q0 := 0) ⟨hx, hb, hml, hown, hts⟩ (c7_count l hq617) (cwV 1 hts gv_X9_46 rfl rfl rfl hd7_count ⟨Nat.le_of_ble_eq_true rfl, Nat.le_of_ble_eq_true rfl⟩) hK [0, 1] rfl hA hG [2] [0, 1] py_0 py_0 (List.append_nil _) (List.append_nil _) rfl rfl rfl rfl hl.1 rfl (Nat.le_of_ble_eq_true rfl) dL_same_617 ⟨Nat.zero_le _, Nat.zero_le _⟩ (fun H locs hG9 => ?_)
    have hG : gd_W (dC, dI) A s (gY cI cB b (q617.2, S.2)).flatten H locs := hG9
    refine lv_aload_n hx hb dL_same_620 rfl (lv_at hl 1 rfl) ?_
    refine lv_iload hx hb dL_same_621 (lv_at hl 6 rfl) ?_
    obtain ⟨hi, h⟩ := fo_ck_some h
    refine va_iald hx hb hK hG.1 0 0 rfl rfl hi dL_same_623 ?_
    refine lv_icmp_eq (tgt := 629) hx hb dL_same_624 (by decide) (fun hc => ?_) (fun hc => ?_)
    · have h := fo_it h hc
      refine lv_iinc (v := (v10 + (1 : Int32))) (lv' := [(10, .int (v10 + (1 : Int32))), (0, .ref (b 0 0)), (1, .ref (b 16 0)), (6, .int v6), (7, .int v7), (8, .int v8), (9, .int v9)]) hx hb dL_same_629 hl (k := 6) rfl rfl (by decide) rfl (fun ls hl => ?_)
      refine lv_goto (tgt := 605) hx hb dL_same_632 (by decide) ?_
      exact hrec605 h hG (lv_sub hl [1, 2, 3, 4, 5, 6, 0] rfl)
    · have h := fo_if h hc
      refine lv_iconst (v := (0 : Int32)) hx hb dL_same_627 (by decide) ?_
      obtain rfl := Option.some.inj h
      exact gr_z hx hb hr hlocks hK hG rfl rfl dL_same_628
set_option maxRecDepth 100000 in
set_option maxHeartbeats 4000000 in
theorem w9_same_L605 (C : cx_M p s m args meth c RL cL_same (some .boolean) 16) (hK : va_K (dC, dI) vwCl [(cI, .int), (cB, .object "DiceRoads$Board")] s) (hA : ∀ q, s.heap.size ≤ q → A q) {b : Nat → Nat → Nat} {q : (Int32 × ys_T)} : ∀ (n : Nat) {v6 : Int32} {v7 : Int32} {v8 : Int32} {v9 : Int32} {v10 : Int32} {S : ys_T}, f9_same_L605 n v6 v7 v8 v9 v10 S = some q → ∀ {H : Heap} {locs : List Loc} {ls : Array Slot}, gd_W (dC, dI) A s (gY cI cB b S).flatten H locs → lv_has ls 16 [(0, .ref (b 0 0)), (1, .ref (b 16 0)), (6, .int v6), (7, .int v7), (8, .int v8), (9, .int v9), (10, .int v10)] → W p l e RM9_same s m args below meth c H locs 0 0 (MQ below (qi_W (dC, dI) [(cI, .int), (cB, .object "DiceRoads$Board")] A q.1 (gY cI cB b q.2).flatten) args s 0 0 A) (F0 m 605 ls []) := by
  intro n
  induction n with
  | zero => intro _ _ _ _ _ _ h; exact nomatch h
  | succ n ih => intro v6 v7 v8 v9 v10 S h H locs ls hG hl; exact w9_same_b605 C hK hA (fun h => ih h) (show f9_same_b605 (f9_same_L605 n) v6 v7 v8 v9 v10 S = some q from h) hG hl
set_option maxRecDepth 100000 in
set_option maxHeartbeats 4000000 in
theorem w9_same_b528 (C : cx_M p s m args meth c RL cL_same (some .boolean) 16) (hK : va_K (dC, dI) vwCl [(cI, .int), (cB, .object "DiceRoads$Board")] s) (hA : ∀ q, s.heap.size ≤ q → A q) {b : Nat → Nat → Nat} {q : (Int32 × ys_T)} {rec360 : Int32 → Int32 → Int32 → Int32 → Int32 → ys_T → Option (Int32 × ys_T)} (hrec360 : ∀ {v6 : Int32} {v7 : Int32} {v8 : Int32} {v9 : Int32} {v10 : Int32} {S : ys_T} , rec360 v6 v7 v8 v9 v10 S = some q → ∀ {H : Heap} {locs : List Loc} {ls : Array Slot}, gd_W (dC, dI) A s (gY cI cB b S).flatten H locs → lv_has ls 16 [(0, .ref (b 0 0)), (1, .ref (b 16 0)), (2, .ref (b 16 1)), (3, .ref (b 16 2)), (6, .int v6), (7, .int v7), (8, .int v8), (9, .int v9), (10, .int v10)] → W p l e RM9_same s m args below meth c H locs 0 0 (MQ below (qi_W (dC, dI) [(cI, .int), (cB, .object "DiceRoads$Board")] A q.1 (gY cI cB b q.2).flatten) args s 0 0 A) (F0 m 360 ls [])) {rec474 : Int32 → Int32 → Int32 → Int32 → Int32 → Int32 → Int32 → ys_T → Option (Int32 × ys_T)} (hrec474 : ∀ {v6 : Int32} {v7 : Int32} {v8 : Int32} {v9 : Int32} {v10 : Int32} {v11 : Int32} {v12 : Int32} {S : ys_T} , rec474 v6 v7 v8 v9 v10 v11 v12 S = some q → ∀ {H : Heap} {locs : List Loc} {ls : Array Slot}, gd_W (dC, dI) A s (gY cI cB b S).flatten H locs → lv_has ls 16 [(0, .ref (b 0 0)), (1, .ref (b 16 0)), (2, .ref (b 16 1)), (3, .ref (b 16 2)), (6, .int v6), (7, .int v7), (8, .int v8), (9, .int v9), (10, .int v10), (11, .int v11), (12, .int v12)] → W p l e RM9_same s m args below meth c H locs 0 0 (MQ below (qi_W (dC, dI) [(cI, .int), (cB, .object "DiceRoads$Board")] A q.1 (gY cI cB b q.2).flatten) args s 0 0 A) (F0 m 474 ls [])) {v6 : Int32} {v7 : Int32} {v8 : Int32} {v9 : Int32} {v10 : Int32} {v11 : Int32} {v12 : Int32} {S : ys_T} (h : f9_same_b528 rec360 rec474 v6 v7 v8 v9 v10 v11 v12 S = some q) {H : Heap} {locs : List Loc} {ls : Array Slot} (hG : gd_W (dC, dI) A s (gY cI cB b S).flatten H locs) (hl : lv_has ls 16 [(0, .ref (b 0 0)), (1, .ref (b 16 0)), (2, .ref (b 16 1)), (3, .ref (b 16 2)), (6, .int v6), (7, .int v7), (8, .int v8), (9, .int v9), (10, .int v10), (11, .int v11), (12, .int v12)]) : W p l e RM9_same s m args below meth c H locs 0 0 (MQ below (qi_W (dC, dI) [(cI, .int), (cB, .object "DiceRoads$Board")] A q.1 (gY cI cB b q.2).flatten) args s 0 0 A) (F0 m 528 ls []) := by
  unfold f9_same_b528 at h
  obtain ⟨hx, hb, hr, hts, hown, hlocks, hml⟩ := id C
  refine lv_iinc (v := (v12 + (1 : Int32))) (lv' := [(12, .int (v12 + (1 : Int32))), (0, .ref (b 0 0)), (1, .ref (b 16 0)), (2, .ref (b 16 1)), (3, .ref (b 16 2)), (6, .int v6), (7, .int v7), (8, .int v8), (9, .int v9), (10, .int v10), (11, .int v11)]) hx hb dL_same_528 hl (k := 10) rfl rfl (by decide) rfl (fun ls hl => ?_)
  refine lv_goto (tgt := 474) hx hb dL_same_531 (by decide) ?_
  exact hrec474 h hG (lv_sub hl [1, 2, 3, 4, 5, 6, 7, 8, 9, 10, 0] rfl)
set_option maxRecDepth 100000 in
set_option maxHeartbeats 4000000 in
theorem w9_same_b474 (C : cx_M p s m args meth c RL cL_same (some .boolean) 16) (hK : va_K (dC, dI) vwCl [(cI, .int), (cB, .object "DiceRoads$Board")] s) (hA : ∀ q, s.heap.size ≤ q → A q) {b : Nat → Nat → Nat} {q : (Int32 × ys_T)} {rec360 : Int32 → Int32 → Int32 → Int32 → Int32 → ys_T → Option (Int32 × ys_T)} (hrec360 : ∀ {v6 : Int32} {v7 : Int32} {v8 : Int32} {v9 : Int32} {v10 : Int32} {S : ys_T} , rec360 v6 v7 v8 v9 v10 S = some q → ∀ {H : Heap} {locs : List Loc} {ls : Array Slot}, gd_W (dC, dI) A s (gY cI cB b S).flatten H locs → lv_has ls 16 [(0, .ref (b 0 0)), (1, .ref (b 16 0)), (2, .ref (b 16 1)), (3, .ref (b 16 2)), (6, .int v6), (7, .int v7), (8, .int v8), (9, .int v9), (10, .int v10)] → W p l e RM9_same s m args below meth c H locs 0 0 (MQ below (qi_W (dC, dI) [(cI, .int), (cB, .object "DiceRoads$Board")] A q.1 (gY cI cB b q.2).flatten) args s 0 0 A) (F0 m 360 ls [])) {rec474 : Int32 → Int32 → Int32 → Int32 → Int32 → Int32 → Int32 → ys_T → Option (Int32 × ys_T)} (hrec474 : ∀ {v6 : Int32} {v7 : Int32} {v8 : Int32} {v9 : Int32} {v10 : Int32} {v11 : Int32} {v12 : Int32} {S : ys_T} , rec474 v6 v7 v8 v9 v10 v11 v12 S = some q → ∀ {H : Heap} {locs : List Loc} {ls : Array Slot}, gd_W (dC, dI) A s (gY cI cB b S).flatten H locs → lv_has ls 16 [(0, .ref (b 0 0)), (1, .ref (b 16 0)), (2, .ref (b 16 1)), (3, .ref (b 16 2)), (6, .int v6), (7, .int v7), (8, .int v8), (9, .int v9), (10, .int v10), (11, .int v11), (12, .int v12)] → W p l e RM9_same s m args below meth c H locs 0 0 (MQ below (qi_W (dC, dI) [(cI, .int), (cB, .object "DiceRoads$Board")] A q.1 (gY cI cB b q.2).flatten) args s 0 0 A) (F0 m 474 ls [])) {v6 : Int32} {v7 : Int32} {v8 : Int32} {v9 : Int32} {v10 : Int32} {v11 : Int32} {v12 : Int32} {S : ys_T} (h : f9_same_b474 rec360 rec474 v6 v7 v8 v9 v10 v11 v12 S = some q) {H : Heap} {locs : List Loc} {ls : Array Slot} (hG : gd_W (dC, dI) A s (gY cI cB b S).flatten H locs) (hl : lv_has ls 16 [(0, .ref (b 0 0)), (1, .ref (b 16 0)), (2, .ref (b 16 1)), (3, .ref (b 16 2)), (6, .int v6), (7, .int v7), (8, .int v8), (9, .int v9), (10, .int v10), (11, .int v11), (12, .int v12)]) : W p l e RM9_same s m args below meth c H locs 0 0 (MQ below (qi_W (dC, dI) [(cI, .int), (cB, .object "DiceRoads$Board")] A q.1 (gY cI cB b q.2).flatten) args s 0 0 A) (F0 m 474 ls []) := by
  unfold f9_same_b474 at h
  obtain ⟨hx, hb, hr, hts, hown, hlocks, hml⟩ := id C
  refine lv_iload hx hb dL_same_474 (lv_at hl 10 rfl) ?_
  refine lv_aload_n hx hb dL_same_476 rfl (lv_at hl 1 rfl) ?_
  refine lv_bipush (v := (6 : Int32)) hx hb dL_same_477 (by decide) ?_
  obtain ⟨hi, h⟩ := fo_ck_some h
  refine va_iald hx hb hK hG.1 0 0 rfl rfl hi dL_same_479 ?_
  refine lv_icmp_ge (tgt := 534) hx hb dL_same_480 (by decide) (fun hc => ?_) (fun hc => ?_)
  · have h := fo_it h hc
    refine lv_aload_n hx hb dL_same_534 rfl (lv_at hl 0 rfl) ?_
    refine lv_iload hx hb dL_same_535 (lv_at hl 8 rfl) ?_
    refine lv_iconst (v := (1 : Int32)) hx hb dL_same_537 (by decide) ?_
    obtain ⟨q538, hq538, h⟩ := fo_bd_some h
    refine gq_iV (gs := gY cI cB b S) (gs' := gY cI cB b S) (As := [.int v10, .int (1 : Int32)]) (rest := []) (wc := (gX cI cB b S.1).flatten) (w1 := (gX cI cB b S.1).flatten) (b := b 0 0) (C := RX7) (ci := 6) (q0 := 0) ⟨hx, hb, hml, hown, hts⟩ (c7_ofSquare l hq538) (cwV 2 hts gv_X9_43 rfl rfl rfl hd7_ofSquare ⟨Nat.le_of_ble_eq_true rfl, Nat.le_of_ble_eq_true rfl⟩) hK [0, 1] rfl hA hG [2] [0, 1] py_0 py_0 (List.append_nil _) (List.append_nil _) rfl rfl rfl rfl hl.1 rfl (Nat.le_of_ble_eq_true rfl) dL_same_538 ⟨Nat.zero_le _, Nat.zero_le _⟩ (fun H locs hG9 => ?_)
    have hG : gd_W (dC, dI) A s (gY cI cB b S).flatten H locs := hG9
    refine lv_aload_n hx hb dL_same_541 rfl (lv_at hl 3 rfl) ?_
    refine lv_iload hx hb dL_same_542 (lv_at hl 8 rfl) ?_
    obtain ⟨hi, h⟩ := fo_ck_some h
    refine va_iald hx hb hK hG.1 2 0 rfl rfl hi dL_same_544 ?_
    refine lv_icmp_ne (tgt := 594) hx hb dL_same_545 (by decide) (fun hc => ?_) (fun hc => ?_)
    · have h := fo_if h hc
      refine lv_iconst (v := (0 : Int32)) hx hb dL_same_594 (by decide) ?_
      obtain rfl := Option.some.inj h
      exact gr_z hx hb hr hlocks hK hG rfl rfl dL_same_595
    · have h := fo_it h hc
      refine lv_aload_n hx hb dL_same_548 rfl (lv_at hl 0 rfl) ?_
      refine lv_iload hx hb dL_same_549 (lv_at hl 8 rfl) ?_
      refine lv_iconst (v := (2 : Int32)) hx hb dL_same_551 (by decide) ?_
      obtain ⟨q552, hq552, h⟩ := fo_bd_some h
      refine gq_iV (gs := gY cI cB b S) (gs' := gY cI cB b S) (As := [.int v10, .int (2 : Int32)]) (rest := []) (wc := (gX cI cB b S.1).flatten) (w1 := (gX cI cB b S.1).flatten) (b := b 0 0) (C := RX7) (ci := 6) (q0 := 0) ⟨hx, hb, hml, hown, hts⟩ (c7_ofSquare l hq552) (cwV 2 hts gv_X9_43 rfl rfl rfl hd7_ofSquare ⟨Nat.le_of_ble_eq_true rfl, Nat.le_of_ble_eq_true rfl⟩) hK [0, 1] rfl hA hG [2] [0, 1] py_0 py_0 (List.append_nil _) (List.append_nil _) rfl rfl rfl rfl hl.1 rfl (Nat.le_of_ble_eq_true rfl) dL_same_552 ⟨Nat.zero_le _, Nat.zero_le _⟩ (fun H locs hG9 => ?_)
      have hG : gd_W (dC, dI) A s (gY cI cB b S).flatten H locs := hG9
      refine lv_aload_n hx hb dL_same_555 rfl (lv_at hl 3 rfl) ?_
      refine lv_bipush (v := (20 : Int32)) hx hb dL_same_556 (by decide) ?_
      refine lv_iload hx hb dL_same_558 (lv_at hl 8 rfl) ?_
      refine lv_iadd hx hb dL_same_560 ?_
      obtain ⟨hi, h⟩ := fo_ck_some h
      refine va_iald hx hb hK hG.1 2 0 rfl rfl hi dL_same_561 ?_
      refine lv_icmp_ne (tgt := 594) hx hb dL_same_562 (by decide) (fun hc => ?_) (fun hc => ?_)
      · have h := fo_if h hc
        refine lv_iconst (v := (0 : Int32)) hx hb dL_same_594 (by decide) ?_
        obtain rfl := Option.some.inj h
        exact gr_z hx hb hr hlocks hK hG rfl rfl dL_same_595
      · have h := fo_it h hc
        refine lv_aload_n hx hb dL_same_565 rfl (lv_at hl 0 rfl) ?_
        refine lv_iload hx hb dL_same_566 (lv_at hl 8 rfl) ?_
        refine lv_iconst (v := (3 : Int32)) hx hb dL_same_568 (by decide) ?_
        obtain ⟨q569, hq569, h⟩ := fo_bd_some h
        refine gq_iV (gs := gY cI cB b S) (gs' := gY cI cB b S) (As := [.int v10, .int (3 : Int32)]) (rest := []) (wc := (gX cI cB b S.1).flatten) (w1 := (gX cI cB b S.1).flatten) (b := b 0 0) (C := RX7) (ci := 6) (q0 := 0) ⟨hx, hb, hml, hown, hts⟩ (c7_ofSquare l hq569) (cwV 2 hts gv_X9_43 rfl rfl rfl hd7_ofSquare ⟨Nat.le_of_ble_eq_true rfl, Nat.le_of_ble_eq_true rfl⟩) hK [0, 1] rfl hA hG [2] [0, 1] py_0 py_0 (List.append_nil _) (List.append_nil _) rfl rfl rfl rfl hl.1 rfl (Nat.le_of_ble_eq_true rfl) dL_same_569 ⟨Nat.zero_le _, Nat.zero_le _⟩ (fun H locs hG9 => ?_)
        have hG : gd_W (dC, dI) A s (gY cI cB b S).flatten H locs := hG9
        refine lv_iload hx hb dL_same_572 (lv_at hl 8 rfl) ?_
        refine lv_aload_n hx hb dL_same_574 rfl (lv_at hl 1 rfl) ?_
        refine lv_aload_n hx hb dL_same_575 rfl (lv_at hl 3 rfl) ?_
        obtain ⟨q576, hq576, h⟩ := fo_bd_some h
        refine gq_iS (gs := gY cI cB b S) (gs' := gY cI cB b S) (As := [.int v10, .ref (b 16 0), .ref (b 16 2)]) (rest := [.int q569]) (wc := (wd_G cI (b 16) S.2.1)) (w1 := (wd_G cI (b 16) S.2.1)) ⟨hx, hb, hml, hown, hts⟩ (c9_toll l (a := b 16) hq576) (va_cwS 3 hts gv_X9_25 rfl rfl rfl hd9_toll ⟨Nat.le_of_ble_eq_true rfl, Nat.le_of_ble_eq_true rfl⟩) hK [0] rfl hA hG [0] [1, 2] py_1 py_1 rfl rfl rfl rfl hl.1 rfl (Nat.le_of_ble_eq_true rfl) dL_same_576 ⟨Nat.zero_le _, Nat.zero_le _⟩ (fun H locs hG9 => ?_)
        have hG : gd_W (dC, dI) A s (gY cI cB b S).flatten H locs := hG9
        refine lv_icmp_ne (tgt := 594) hx hb dL_same_579 (by decide) (fun hc => ?_) (fun hc => ?_)
        · have h := fo_if h hc
          refine lv_iconst (v := (0 : Int32)) hx hb dL_same_594 (by decide) ?_
          obtain rfl := Option.some.inj h
          exact gr_z hx hb hr hlocks hK hG rfl rfl dL_same_595
        · have h := fo_it h hc
          refine lv_aload_n hx hb dL_same_582 rfl (lv_at hl 0 rfl) ?_
          refine lv_iload hx hb dL_same_583 (lv_at hl 8 rfl) ?_
          refine lv_iconst (v := (4 : Int32)) hx hb dL_same_585 (by decide) ?_
          obtain ⟨q586, hq586, h⟩ := fo_bd_some h
          refine gq_iV (gs := gY cI cB b S) (gs' := gY cI cB b S) (As := [.int v10, .int (4 : Int32)]) (rest := []) (wc := (gX cI cB b S.1).flatten) (w1 := (gX cI cB b S.1).flatten) (b := b 0 0) (C := RX7) (ci := 6) (q0 := 0) ⟨hx, hb, hml, hown, hts⟩ (c7_ofSquare l hq586) (cwV 2 hts gv_X9_43 rfl rfl rfl hd7_ofSquare ⟨Nat.le_of_ble_eq_true rfl, Nat.le_of_ble_eq_true rfl⟩) hK [0, 1] rfl hA hG [2] [0, 1] py_0 py_0 (List.append_nil _) (List.append_nil _) rfl rfl rfl rfl hl.1 rfl (Nat.le_of_ble_eq_true rfl) dL_same_586 ⟨Nat.zero_le _, Nat.zero_le _⟩ (fun H locs hG9 => ?_)
          have hG : gd_W (dC, dI) A s (gY cI cB b S).flatten H locs := hG9
          refine lv_iload hx hb dL_same_589 (lv_at hl 9 rfl) ?_
          refine lv_icmp_eq (tgt := 596) hx hb dL_same_591 (by decide) (fun hc => ?_) (fun hc => ?_)
          · have h := fo_it h hc
            refine lv_iinc (v := (v10 + (1 : Int32))) (lv' := [(10, .int (v10 + (1 : Int32))), (0, .ref (b 0 0)), (1, .ref (b 16 0)), (2, .ref (b 16 1)), (3, .ref (b 16 2)), (6, .int v6), (7, .int v7), (8, .int v8), (9, .int v9), (11, .int v11), (12, .int v12)]) hx hb dL_same_596 hl (k := 8) rfl rfl (by decide) rfl (fun ls hl => ?_)
            refine lv_goto (tgt := 360) hx hb dL_same_599 (by decide) ?_
            exact hrec360 h hG (lv_sub hl [1, 2, 3, 4, 5, 6, 7, 8, 0] rfl)
          · have h := fo_if h hc
            refine lv_iconst (v := (0 : Int32)) hx hb dL_same_594 (by decide) ?_
            obtain rfl := Option.some.inj h
            exact gr_z hx hb hr hlocks hK hG rfl rfl dL_same_595
  · have h := fo_if h hc
    refine lv_aload_n hx hb dL_same_483 rfl (lv_at hl 2 rfl) ?_
    refine lv_bipush (v := (6 : Int32)) hx hb dL_same_484 (by decide) ?_
    refine lv_iload hx hb dL_same_486 (lv_at hl 10 rfl) ?_
    refine lv_imul hx hb dL_same_488 ?_
    refine lv_iconst (v := (1 : Int32)) hx hb dL_same_489 (by decide) ?_
    refine lv_iadd hx hb dL_same_490 ?_
    obtain ⟨hi, h⟩ := fo_ck_some h
    refine va_iald hx hb hK hG.1 1 0 rfl rfl hi dL_same_491 ?_
    refine lv_iload hx hb dL_same_492 (lv_at hl 8 rfl) ?_
    refine lv_icmp_eq (tgt := 500) hx hb dL_same_494 (by decide) (fun hc => ?_) (fun hc => ?_)
    · have h := fo_it h hc
      refine lv_iload hx hb dL_same_500 (lv_at hl 9 rfl) ?_
      refine lv_iconst (v := (1 : Int32)) hx hb dL_same_502 (by decide) ?_
      refine lv_iload hx hb dL_same_503 (lv_at hl 10 rfl) ?_
      refine lv_ishl hx hb dL_same_505 ?_
      refine lv_ior hx hb dL_same_506 ?_
      refine lv_istore (lv' := [(11, .int (v11 ||| ((1 : Int32) <<< (v12 &&& 31)))), (0, .ref (b 0 0)), (1, .ref (b 16 0)), (2, .ref (b 16 1)), (3, .ref (b 16 2)), (6, .int v6), (7, .int v7), (8, .int v8), (9, .int v9), (10, .int v10), (12, .int v12)]) hx hb dL_same_507 hl (by decide) rfl (fun ls hl => ?_)
      refine lv_aload_n hx hb dL_same_509 rfl (lv_at hl 1 rfl) ?_
      refine lv_iload hx hb dL_same_510 (lv_at hl 8 rfl) ?_
      refine lv_iinc (v := (v9 + (1 : Int32))) (lv' := [(9, .int (v9 + (1 : Int32))), (11, .int (v11 ||| ((1 : Int32) <<< (v12 &&& 31)))), (0, .ref (b 0 0)), (1, .ref (b 16 0)), (2, .ref (b 16 1)), (3, .ref (b 16 2)), (6, .int v6), (7, .int v7), (8, .int v8), (10, .int v10), (12, .int v12)]) hx hb dL_same_512 hl (k := 8) rfl rfl (by decide) rfl (fun ls hl => ?_)
      obtain ⟨q515, hq515, h⟩ := fo_bd_some h
      refine gq_iV (gs := gY cI cB b S) (gs' := gY cI cB b (q515.2, S.2)) (As := [.int v9]) (rest := []) (wc := (gX cI cB b S.1).flatten) (w1 := (gX cI cB b q515.2).flatten) (b := b 0 0) (C := RX7) (ci := 6) (q0 := 0) ⟨hx, hb, hml, hown, hts⟩ (c7_sign l hq515) (cwV 1 hts gv_X9_39 rfl rfl rfl hd7_sign ⟨Nat.le_of_ble_eq_true rfl, Nat.le_of_ble_eq_true rfl⟩) hK [0, 1] rfl hA hG [2] [0, 1] py_0 py_0 (List.append_nil _) (List.append_nil _) rfl rfl rfl rfl hl.1 rfl (Nat.le_of_ble_eq_true rfl) dL_same_515 ⟨Nat.zero_le _, Nat.zero_le _⟩ (fun H locs hG9 => ?_)
      have hG : gd_W (dC, dI) A s (gY cI cB b (q515.2, S.2)).flatten H locs := hG9
      refine lv_bipush (v := (65 : Int32)) hx hb dL_same_518 (by decide) ?_
      refine lv_iload hx hb dL_same_520 (lv_at hl 10 rfl) ?_
      refine lv_iadd hx hb dL_same_522 ?_
      refine lv_icmp_eq (tgt := 528) hx hb dL_same_523 (by decide) (fun hc => ?_) (fun hc => ?_)
      · have h := fo_it h hc
        exact w9_same_b528 C hK hA (fun h => hrec360 h) (fun h => hrec474 h) h hG (lv_sub hl [2, 3, 4, 5, 6, 7, 8, 0, 9, 1, 10] rfl)
      · have h := fo_if h hc
        refine lv_iconst (v := (0 : Int32)) hx hb dL_same_526 (by decide) ?_
        obtain rfl := Option.some.inj h
        exact gr_z hx hb hr hlocks hK hG rfl rfl dL_same_527
    · have h := fo_if h hc
      refine lv_goto (tgt := 528) hx hb dL_same_497 (by decide) ?_
      exact w9_same_b528 C hK hA (fun h => hrec360 h) (fun h => hrec474 h) h hG (lv_sub hl [0, 1, 2, 3, 4, 5, 6, 7, 8, 9, 10] rfl)
set_option maxRecDepth 100000 in
set_option maxHeartbeats 4000000 in
theorem w9_same_L474 (C : cx_M p s m args meth c RL cL_same (some .boolean) 16) (hK : va_K (dC, dI) vwCl [(cI, .int), (cB, .object "DiceRoads$Board")] s) (hA : ∀ q, s.heap.size ≤ q → A q) {b : Nat → Nat → Nat} {q : (Int32 × ys_T)} {rec360 : Int32 → Int32 → Int32 → Int32 → Int32 → ys_T → Option (Int32 × ys_T)} (hrec360 : ∀ {v6 : Int32} {v7 : Int32} {v8 : Int32} {v9 : Int32} {v10 : Int32} {S : ys_T} , rec360 v6 v7 v8 v9 v10 S = some q → ∀ {H : Heap} {locs : List Loc} {ls : Array Slot}, gd_W (dC, dI) A s (gY cI cB b S).flatten H locs → lv_has ls 16 [(0, .ref (b 0 0)), (1, .ref (b 16 0)), (2, .ref (b 16 1)), (3, .ref (b 16 2)), (6, .int v6), (7, .int v7), (8, .int v8), (9, .int v9), (10, .int v10)] → W p l e RM9_same s m args below meth c H locs 0 0 (MQ below (qi_W (dC, dI) [(cI, .int), (cB, .object "DiceRoads$Board")] A q.1 (gY cI cB b q.2).flatten) args s 0 0 A) (F0 m 360 ls [])) : ∀ (n : Nat) {v6 : Int32} {v7 : Int32} {v8 : Int32} {v9 : Int32} {v10 : Int32} {v11 : Int32} {v12 : Int32} {S : ys_T}, f9_same_L474 rec360 n v6 v7 v8 v9 v10 v11 v12 S = some q → ∀ {H : Heap} {locs : List Loc} {ls : Array Slot}, gd_W (dC, dI) A s (gY cI cB b S).flatten H locs → lv_has ls 16 [(0, .ref (b 0 0)), (1, .ref (b 16 0)), (2, .ref (b 16 1)), (3, .ref (b 16 2)), (6, .int v6), (7, .int v7), (8, .int v8), (9, .int v9), (10, .int v10), (11, .int v11), (12, .int v12)] → W p l e RM9_same s m args below meth c H locs 0 0 (MQ below (qi_W (dC, dI) [(cI, .int), (cB, .object "DiceRoads$Board")] A q.1 (gY cI cB b q.2).flatten) args s 0 0 A) (F0 m 474 ls []) := by
  intro n
  induction n with
  | zero => intro _ _ _ _ _ _ _ _ h; exact nomatch h
  | succ n ih => intro v6 v7 v8 v9 v10 v11 v12 S h H locs ls hG hl; exact w9_same_b474 C hK hA (fun h => hrec360 h) (fun h => ih h) (show f9_same_b474 rec360 (f9_same_L474 rec360 n) v6 v7 v8 v9 v10 v11 v12 S = some q from h) hG hl
set_option maxRecDepth 100000 in
set_option maxHeartbeats 4000000 in
theorem w9_same_b471 (C : cx_M p s m args meth c RL cL_same (some .boolean) 16) (hK : va_K (dC, dI) vwCl [(cI, .int), (cB, .object "DiceRoads$Board")] s) (hA : ∀ q, s.heap.size ≤ q → A q) {b : Nat → Nat → Nat} {q : (Int32 × ys_T)} {rec360 : Int32 → Int32 → Int32 → Int32 → Int32 → ys_T → Option (Int32 × ys_T)} (hrec360 : ∀ {v6 : Int32} {v7 : Int32} {v8 : Int32} {v9 : Int32} {v10 : Int32} {S : ys_T} , rec360 v6 v7 v8 v9 v10 S = some q → ∀ {H : Heap} {locs : List Loc} {ls : Array Slot}, gd_W (dC, dI) A s (gY cI cB b S).flatten H locs → lv_has ls 16 [(0, .ref (b 0 0)), (1, .ref (b 16 0)), (2, .ref (b 16 1)), (3, .ref (b 16 2)), (6, .int v6), (7, .int v7), (8, .int v8), (9, .int v9), (10, .int v10)] → W p l e RM9_same s m args below meth c H locs 0 0 (MQ below (qi_W (dC, dI) [(cI, .int), (cB, .object "DiceRoads$Board")] A q.1 (gY cI cB b q.2).flatten) args s 0 0 A) (F0 m 360 ls [])) {v6 : Int32} {v7 : Int32} {v8 : Int32} {v9 : Int32} {v10 : Int32} {v11 : Int32} {S : ys_T} (h : f9_same_b471 rec360 v6 v7 v8 v9 v10 v11 S = some q) {H : Heap} {locs : List Loc} {ls : Array Slot} (hG : gd_W (dC, dI) A s (gY cI cB b S).flatten H locs) (hl : lv_has ls 16 [(0, .ref (b 0 0)), (1, .ref (b 16 0)), (2, .ref (b 16 1)), (3, .ref (b 16 2)), (6, .int v6), (7, .int v7), (8, .int v8), (9, .int v9), (10, .int v10), (11, .int v11)]) : W p l e RM9_same s m args below meth c H locs 0 0 (MQ below (qi_W (dC, dI) [(cI, .int), (cB, .object "DiceRoads$Board")] A q.1 (gY cI cB b q.2).flatten) args s 0 0 A) (F0 m 471 ls []) := by
  unfold f9_same_b471 at h
  obtain ⟨hx, hb, hr, hts, hown, hlocks, hml⟩ := id C
  refine lv_iconst (v := (0 : Int32)) hx hb dL_same_471 (by decide) ?_
  refine lv_istore (lv' := [(12, .int (0 : Int32)), (0, .ref (b 0 0)), (1, .ref (b 16 0)), (2, .ref (b 16 1)), (3, .ref (b 16 2)), (6, .int v6), (7, .int v7), (8, .int v8), (9, .int v9), (10, .int v10), (11, .int v11)]) hx hb dL_same_472 hl (by decide) rfl (fun ls hl => ?_)
  exact w9_same_L474 C hK hA (fun h => hrec360 h) fo_fu h hG (lv_sub hl [1, 2, 3, 4, 5, 6, 7, 8, 9, 10, 0] rfl)
set_option maxRecDepth 100000 in
set_option maxHeartbeats 4000000 in
theorem w9_same_b437 (C : cx_M p s m args meth c RL cL_same (some .boolean) 16) (hK : va_K (dC, dI) vwCl [(cI, .int), (cB, .object "DiceRoads$Board")] s) (hA : ∀ q, s.heap.size ≤ q → A q) {b : Nat → Nat → Nat} {q : (Int32 × ys_T)} {rec360 : Int32 → Int32 → Int32 → Int32 → Int32 → ys_T → Option (Int32 × ys_T)} (hrec360 : ∀ {v6 : Int32} {v7 : Int32} {v8 : Int32} {v9 : Int32} {v10 : Int32} {S : ys_T} , rec360 v6 v7 v8 v9 v10 S = some q → ∀ {H : Heap} {locs : List Loc} {ls : Array Slot}, gd_W (dC, dI) A s (gY cI cB b S).flatten H locs → lv_has ls 16 [(0, .ref (b 0 0)), (1, .ref (b 16 0)), (2, .ref (b 16 1)), (3, .ref (b 16 2)), (6, .int v6), (7, .int v7), (8, .int v8), (9, .int v9), (10, .int v10)] → W p l e RM9_same s m args below meth c H locs 0 0 (MQ below (qi_W (dC, dI) [(cI, .int), (cB, .object "DiceRoads$Board")] A q.1 (gY cI cB b q.2).flatten) args s 0 0 A) (F0 m 360 ls [])) {v6 : Int32} {v7 : Int32} {v8 : Int32} {v9 : Int32} {v10 : Int32} {v11 : Int32} {S : ys_T} (h : f9_same_b437 rec360 v6 v7 v8 v9 v10 v11 S = some q) {H : Heap} {locs : List Loc} {ls : Array Slot} (hG : gd_W (dC, dI) A s (gY cI cB b S).flatten H locs) (hl : lv_has ls 16 [(0, .ref (b 0 0)), (1, .ref (b 16 0)), (2, .ref (b 16 1)), (3, .ref (b 16 2)), (6, .int v6), (7, .int v7), (8, .int v8), (9, .int v9), (10, .int v10), (11, .int v11)]) : W p l e RM9_same s m args below meth c H locs 0 0 (MQ below (qi_W (dC, dI) [(cI, .int), (cB, .object "DiceRoads$Board")] A q.1 (gY cI cB b q.2).flatten) args s 0 0 A) (F0 m 437 ls []) := by
  unfold f9_same_b437 at h
  obtain ⟨hx, hb, hr, hts, hown, hlocks, hml⟩ := id C
  refine lv_aload_n hx hb dL_same_437 rfl (lv_at hl 3 rfl) ?_
  refine lv_bipush (v := (20 : Int32)) hx hb dL_same_438 (by decide) ?_
  refine lv_iload hx hb dL_same_440 (lv_at hl 8 rfl) ?_
  refine lv_iadd hx hb dL_same_442 ?_
  obtain ⟨hi, h⟩ := fo_ck_some h
  refine va_iald hx hb hK hG.1 2 0 rfl rfl hi dL_same_443 ?_
  refine lv_if_lt (tgt := 471) hx hb dL_same_444 (by decide) (fun hc => ?_) (fun hc => ?_)
  · have h := fo_it h hc
    exact w9_same_b471 C hK hA (fun h => hrec360 h) h hG (lv_sub hl [0, 1, 2, 3, 4, 5, 6, 7, 8, 9] rfl)
  · have h := fo_if h hc
    refine lv_aload_n hx hb dL_same_447 rfl (lv_at hl 0 rfl) ?_
    refine lv_iload hx hb dL_same_448 (lv_at hl 7 rfl) ?_
    refine lv_iinc (v := (v9 + (1 : Int32))) (lv' := [(9, .int (v9 + (1 : Int32))), (0, .ref (b 0 0)), (1, .ref (b 16 0)), (2, .ref (b 16 1)), (3, .ref (b 16 2)), (6, .int v6), (7, .int v7), (8, .int v8), (10, .int v10), (11, .int v11)]) hx hb dL_same_450 hl (k := 7) rfl rfl (by decide) rfl (fun ls hl => ?_)
    obtain ⟨q453, hq453, h⟩ := fo_bd_some h
    refine gq_iV (gs := gY cI cB b S) (gs' := gY cI cB b (q453.2, S.2)) (As := [.int v9]) (rest := []) (wc := (gX cI cB b S.1).flatten) (w1 := (gX cI cB b q453.2).flatten) (b := b 0 0) (C := RX7) (ci := 6) (q0 := 0) ⟨hx, hb, hml, hown, hts⟩ (c7_sign l hq453) (cwV 1 hts gv_X9_39 rfl rfl rfl hd7_sign ⟨Nat.le_of_ble_eq_true rfl, Nat.le_of_ble_eq_true rfl⟩) hK [0, 1] rfl hA hG [2] [0, 1] py_0 py_0 (List.append_nil _) (List.append_nil _) rfl rfl rfl rfl hl.1 rfl (Nat.le_of_ble_eq_true rfl) dL_same_453 ⟨Nat.zero_le _, Nat.zero_le _⟩ (fun H locs hG9 => ?_)
    have hG : gd_W (dC, dI) A s (gY cI cB b (q453.2, S.2)).flatten H locs := hG9
    refine lv_bipush (v := (97 : Int32)) hx hb dL_same_456 (by decide) ?_
    refine lv_aload_n hx hb dL_same_458 rfl (lv_at hl 4 rfl) ?_
    refine lv_bipush (v := (20 : Int32)) hx hb dL_same_459 (by decide) ?_
    refine lv_iload hx hb dL_same_461 (lv_at hl 8 rfl) ?_
    refine lv_iadd hx hb dL_same_463 ?_
    obtain ⟨hi, h⟩ := fo_ck_some h
    refine va_iald hx hb hK hG.1 2 0 rfl rfl hi dL_same_464 ?_
    refine lv_iadd hx hb dL_same_465 ?_
    refine lv_icmp_eq (tgt := 471) hx hb dL_same_466 (by decide) (fun hc => ?_) (fun hc => ?_)
    · have h := fo_it h hc
      exact w9_same_b471 C hK hA (fun h => hrec360 h) h hG (lv_sub hl [1, 2, 3, 4, 5, 6, 7, 0, 8, 9] rfl)
    · have h := fo_if h hc
      refine lv_iconst (v := (0 : Int32)) hx hb dL_same_469 (by decide) ?_
      obtain rfl := Option.some.inj h
      exact gr_z hx hb hr hlocks hK hG rfl rfl dL_same_470
set_option maxRecDepth 100000 in
set_option maxHeartbeats 4000000 in
theorem w9_same_b408 (C : cx_M p s m args meth c RL cL_same (some .boolean) 16) (hK : va_K (dC, dI) vwCl [(cI, .int), (cB, .object "DiceRoads$Board")] s) (hA : ∀ q, s.heap.size ≤ q → A q) {b : Nat → Nat → Nat} {q : (Int32 × ys_T)} {rec360 : Int32 → Int32 → Int32 → Int32 → Int32 → ys_T → Option (Int32 × ys_T)} (hrec360 : ∀ {v6 : Int32} {v7 : Int32} {v8 : Int32} {v9 : Int32} {v10 : Int32} {S : ys_T} , rec360 v6 v7 v8 v9 v10 S = some q → ∀ {H : Heap} {locs : List Loc} {ls : Array Slot}, gd_W (dC, dI) A s (gY cI cB b S).flatten H locs → lv_has ls 16 [(0, .ref (b 0 0)), (1, .ref (b 16 0)), (2, .ref (b 16 1)), (3, .ref (b 16 2)), (6, .int v6), (7, .int v7), (8, .int v8), (9, .int v9), (10, .int v10)] → W p l e RM9_same s m args below meth c H locs 0 0 (MQ below (qi_W (dC, dI) [(cI, .int), (cB, .object "DiceRoads$Board")] A q.1 (gY cI cB b q.2).flatten) args s 0 0 A) (F0 m 360 ls [])) {v6 : Int32} {v7 : Int32} {v8 : Int32} {v9 : Int32} {v10 : Int32} {v11 : Int32} {t0 : Int32} {t1 : Int32} {S : ys_T} (h : f9_same_b408 rec360 v6 v7 v8 v9 v10 v11 t0 t1 S = some q) {H : Heap} {locs : List Loc} {ls : Array Slot} (hG : gd_W (dC, dI) A s (gY cI cB b S).flatten H locs) (hl : lv_has ls 16 [(0, .ref (b 0 0)), (1, .ref (b 16 0)), (2, .ref (b 16 1)), (3, .ref (b 16 2)), (6, .int v6), (7, .int v7), (8, .int v8), (9, .int v9), (10, .int v10), (11, .int v11)]) : W p l e RM9_same s m args below meth c H locs 0 0 (MQ below (qi_W (dC, dI) [(cI, .int), (cB, .object "DiceRoads$Board")] A q.1 (gY cI cB b q.2).flatten) args s 0 0 A) (F0 m 408 ls [.int t1, .int t0]) := by
  unfold f9_same_b408 at h
  obtain ⟨hx, hb, hr, hts, hown, hlocks, hml⟩ := id C
  refine lv_icmp_ne (tgt := 469) hx hb dL_same_408 (by decide) (fun hc => ?_) (fun hc => ?_)
  · have h := fo_if h hc
    refine lv_iconst (v := (0 : Int32)) hx hb dL_same_469 (by decide) ?_
    obtain rfl := Option.some.inj h
    exact gr_z hx hb hr hlocks hK hG rfl rfl dL_same_470
  · have h := fo_it h hc
    refine lv_aload_n hx hb dL_same_411 rfl (lv_at hl 3 rfl) ?_
    refine lv_iload hx hb dL_same_412 (lv_at hl 8 rfl) ?_
    obtain ⟨hi, h⟩ := fo_ck_some h
    refine va_iald hx hb hK hG.1 2 0 rfl rfl hi dL_same_414 ?_
    refine lv_if_lt (tgt := 437) hx hb dL_same_415 (by decide) (fun hc => ?_) (fun hc => ?_)
    · have h := fo_it h hc
      exact w9_same_b437 C hK hA (fun h => hrec360 h) h hG (lv_sub hl [0, 1, 2, 3, 4, 5, 6, 7, 8, 9] rfl)
    · have h := fo_if h hc
      refine lv_aload_n hx hb dL_same_418 rfl (lv_at hl 0 rfl) ?_
      refine lv_iload hx hb dL_same_419 (lv_at hl 7 rfl) ?_
      refine lv_iinc (v := (v9 + (1 : Int32))) (lv' := [(9, .int (v9 + (1 : Int32))), (0, .ref (b 0 0)), (1, .ref (b 16 0)), (2, .ref (b 16 1)), (3, .ref (b 16 2)), (6, .int v6), (7, .int v7), (8, .int v8), (10, .int v10), (11, .int v11)]) hx hb dL_same_421 hl (k := 7) rfl rfl (by decide) rfl (fun ls hl => ?_)
      obtain ⟨q424, hq424, h⟩ := fo_bd_some h
      refine gq_iV (gs := gY cI cB b S) (gs' := gY cI cB b (q424.2, S.2)) (As := [.int v9]) (rest := []) (wc := (gX cI cB b S.1).flatten) (w1 := (gX cI cB b q424.2).flatten) (b := b 0 0) (C := RX7) (ci := 6) (q0 := 0) ⟨hx, hb, hml, hown, hts⟩ (c7_sign l hq424) (cwV 1 hts gv_X9_39 rfl rfl rfl hd7_sign ⟨Nat.le_of_ble_eq_true rfl, Nat.le_of_ble_eq_true rfl⟩) hK [0, 1] rfl hA hG [2] [0, 1] py_0 py_0 (List.append_nil _) (List.append_nil _) rfl rfl rfl rfl hl.1 rfl (Nat.le_of_ble_eq_true rfl) dL_same_424 ⟨Nat.zero_le _, Nat.zero_le _⟩ (fun H locs hG9 => ?_)
      have hG : gd_W (dC, dI) A s (gY cI cB b (q424.2, S.2)).flatten H locs := hG9
      refine lv_bipush (v := (97 : Int32)) hx hb dL_same_427 (by decide) ?_
      refine lv_aload_n hx hb dL_same_429 rfl (lv_at hl 4 rfl) ?_
      refine lv_iload hx hb dL_same_430 (lv_at hl 8 rfl) ?_
      obtain ⟨hi, h⟩ := fo_ck_some h
      refine va_iald hx hb hK hG.1 2 0 rfl rfl hi dL_same_432 ?_
      refine lv_iadd hx hb dL_same_433 ?_
      refine lv_icmp_ne (tgt := 469) hx hb dL_same_434 (by decide) (fun hc => ?_) (fun hc => ?_)
      · have h := fo_if h hc
        refine lv_iconst (v := (0 : Int32)) hx hb dL_same_469 (by decide) ?_
        obtain rfl := Option.some.inj h
        exact gr_z hx hb hr hlocks hK hG rfl rfl dL_same_470
      · have h := fo_it h hc
        exact w9_same_b437 C hK hA (fun h => hrec360 h) h hG (lv_sub hl [1, 2, 3, 4, 5, 6, 7, 0, 8, 9] rfl)
set_option maxRecDepth 100000 in
set_option maxHeartbeats 4000000 in
theorem w9_same_b360 (C : cx_M p s m args meth c RL cL_same (some .boolean) 16) (hK : va_K (dC, dI) vwCl [(cI, .int), (cB, .object "DiceRoads$Board")] s) (hA : ∀ q, s.heap.size ≤ q → A q) {b : Nat → Nat → Nat} {q : (Int32 × ys_T)} {rec360 : Int32 → Int32 → Int32 → Int32 → Int32 → ys_T → Option (Int32 × ys_T)} (hrec360 : ∀ {v6 : Int32} {v7 : Int32} {v8 : Int32} {v9 : Int32} {v10 : Int32} {S : ys_T} , rec360 v6 v7 v8 v9 v10 S = some q → ∀ {H : Heap} {locs : List Loc} {ls : Array Slot}, gd_W (dC, dI) A s (gY cI cB b S).flatten H locs → lv_has ls 16 [(0, .ref (b 0 0)), (1, .ref (b 16 0)), (2, .ref (b 16 1)), (3, .ref (b 16 2)), (6, .int v6), (7, .int v7), (8, .int v8), (9, .int v9), (10, .int v10)] → W p l e RM9_same s m args below meth c H locs 0 0 (MQ below (qi_W (dC, dI) [(cI, .int), (cB, .object "DiceRoads$Board")] A q.1 (gY cI cB b q.2).flatten) args s 0 0 A) (F0 m 360 ls [])) {v6 : Int32} {v7 : Int32} {v8 : Int32} {v9 : Int32} {v10 : Int32} {S : ys_T} (h : f9_same_b360 rec360 v6 v7 v8 v9 v10 S = some q) {H : Heap} {locs : List Loc} {ls : Array Slot} (hG : gd_W (dC, dI) A s (gY cI cB b S).flatten H locs) (hl : lv_has ls 16 [(0, .ref (b 0 0)), (1, .ref (b 16 0)), (2, .ref (b 16 1)), (3, .ref (b 16 2)), (6, .int v6), (7, .int v7), (8, .int v8), (9, .int v9), (10, .int v10)]) : W p l e RM9_same s m args below meth c H locs 0 0 (MQ below (qi_W (dC, dI) [(cI, .int), (cB, .object "DiceRoads$Board")] A q.1 (gY cI cB b q.2).flatten) args s 0 0 A) (F0 m 360 ls []) := by
  unfold f9_same_b360 at h
  obtain ⟨hx, hb, hr, hts, hown, hlocks, hml⟩ := id C
  refine lv_iload hx hb dL_same_360 (lv_at hl 8 rfl) ?_
  refine lv_bipush (v := (20 : Int32)) hx hb dL_same_362 (by decide) ?_
  refine lv_icmp_ge (tgt := 602) hx hb dL_same_364 (by decide) (fun hc => ?_) (fun hc => ?_)
  · have h := fo_it h hc
    refine lv_iconst (v := (0 : Int32)) hx hb dL_same_602 (by decide) ?_
    refine lv_istore (lv' := [(10, .int (0 : Int32)), (0, .ref (b 0 0)), (1, .ref (b 16 0)), (2, .ref (b 16 1)), (3, .ref (b 16 2)), (6, .int v6), (7, .int v7), (8, .int v8), (9, .int v9)]) hx hb dL_same_603 hl (by decide) rfl (fun ls hl => ?_)
    exact w9_same_L605 C hK hA fo_fu h hG (lv_sub hl [1, 2, 5, 6, 7, 8, 0] rfl)
  · have h := fo_if h hc
    refine lv_iconst (v := (0 : Int32)) hx hb dL_same_367 (by decide) ?_
    refine lv_istore (lv' := [(11, .int (0 : Int32)), (0, .ref (b 0 0)), (1, .ref (b 16 0)), (2, .ref (b 16 1)), (3, .ref (b 16 2)), (6, .int v6), (7, .int v7), (8, .int v8), (9, .int v9), (10, .int v10)]) hx hb dL_same_368 hl (by decide) rfl (fun ls hl => ?_)
    refine lv_aload_n hx hb dL_same_370 rfl (lv_at hl 1 rfl) ?_
    refine lv_iload hx hb dL_same_371 (lv_at hl 8 rfl) ?_
    refine lv_iinc (v := (v9 + (1 : Int32))) (lv' := [(9, .int (v9 + (1 : Int32))), (11, .int (0 : Int32)), (0, .ref (b 0 0)), (1, .ref (b 16 0)), (2, .ref (b 16 1)), (3, .ref (b 16 2)), (6, .int v6), (7, .int v7), (8, .int v8), (10, .int v10)]) hx hb dL_same_373 hl (k := 8) rfl rfl (by decide) rfl (fun ls hl => ?_)
    obtain ⟨q376, hq376, h⟩ := fo_bd_some h
    refine gq_iV (gs := gY cI cB b S) (gs' := gY cI cB b (q376.2, S.2)) (As := [.int v9]) (rest := []) (wc := (gX cI cB b S.1).flatten) (w1 := (gX cI cB b q376.2).flatten) (b := b 0 0) (C := RX7) (ci := 6) (q0 := 0) ⟨hx, hb, hml, hown, hts⟩ (c7_sign l hq376) (cwV 1 hts gv_X9_39 rfl rfl rfl hd7_sign ⟨Nat.le_of_ble_eq_true rfl, Nat.le_of_ble_eq_true rfl⟩) hK [0, 1] rfl hA hG [2] [0, 1] py_0 py_0 (List.append_nil _) (List.append_nil _) rfl rfl rfl rfl hl.1 rfl (Nat.le_of_ble_eq_true rfl) dL_same_376 ⟨Nat.zero_le _, Nat.zero_le _⟩ (fun H locs hG9 => ?_)
    have hG : gd_W (dC, dI) A s (gY cI cB b (q376.2, S.2)).flatten H locs := hG9
    refine lv_iload hx hb dL_same_379 (lv_at hl 9 rfl) ?_
    refine lv_bipush (v := (10 : Int32)) hx hb dL_same_381 (by decide) ?_
    refine lv_irem hx hb dL_same_383 (by decide) ?_
    refine lv_if_ne (tgt := 392) hx hb dL_same_384 (by decide) (fun hc => ?_) (fun hc => ?_)
    · have h := fo_if h hc
      refine lv_iload hx hb dL_same_392 (lv_at hl 9 rfl) ?_
      refine lv_bipush (v := (10 : Int32)) hx hb dL_same_394 (by decide) ?_
      refine lv_irem hx hb dL_same_396 (by decide) ?_
      refine lv_iconst (v := (5 : Int32)) hx hb dL_same_397 (by decide) ?_
      refine lv_icmp_ne (tgt := 406) hx hb dL_same_398 (by decide) (fun hc => ?_) (fun hc => ?_)
      · have h := fo_if h hc
        refine lv_bipush (v := (45 : Int32)) hx hb dL_same_406 (by decide) ?_
        exact w9_same_b408 C hK hA (fun h => hrec360 h) h hG (lv_sub hl [2, 3, 4, 5, 6, 7, 8, 0, 9, 1] rfl)
      · have h := fo_it h hc
        refine lv_bipush (v := (61 : Int32)) hx hb dL_same_401 (by decide) ?_
        refine lv_goto (tgt := 408) hx hb dL_same_403 (by decide) ?_
        exact w9_same_b408 C hK hA (fun h => hrec360 h) h hG (lv_sub hl [2, 3, 4, 5, 6, 7, 8, 0, 9, 1] rfl)
    · have h := fo_it h hc
      refine lv_bipush (v := (111 : Int32)) hx hb dL_same_387 (by decide) ?_
      refine lv_goto (tgt := 408) hx hb dL_same_389 (by decide) ?_
      exact w9_same_b408 C hK hA (fun h => hrec360 h) h hG (lv_sub hl [2, 3, 4, 5, 6, 7, 8, 0, 9, 1] rfl)
set_option maxRecDepth 100000 in
set_option maxHeartbeats 4000000 in
theorem w9_same_L360 (C : cx_M p s m args meth c RL cL_same (some .boolean) 16) (hK : va_K (dC, dI) vwCl [(cI, .int), (cB, .object "DiceRoads$Board")] s) (hA : ∀ q, s.heap.size ≤ q → A q) {b : Nat → Nat → Nat} {q : (Int32 × ys_T)} : ∀ (n : Nat) {v6 : Int32} {v7 : Int32} {v8 : Int32} {v9 : Int32} {v10 : Int32} {S : ys_T}, f9_same_L360 n v6 v7 v8 v9 v10 S = some q → ∀ {H : Heap} {locs : List Loc} {ls : Array Slot}, gd_W (dC, dI) A s (gY cI cB b S).flatten H locs → lv_has ls 16 [(0, .ref (b 0 0)), (1, .ref (b 16 0)), (2, .ref (b 16 1)), (3, .ref (b 16 2)), (6, .int v6), (7, .int v7), (8, .int v8), (9, .int v9), (10, .int v10)] → W p l e RM9_same s m args below meth c H locs 0 0 (MQ below (qi_W (dC, dI) [(cI, .int), (cB, .object "DiceRoads$Board")] A q.1 (gY cI cB b q.2).flatten) args s 0 0 A) (F0 m 360 ls []) := by
  intro n
  induction n with
  | zero => intro _ _ _ _ _ _ h; exact nomatch h
  | succ n ih => intro v6 v7 v8 v9 v10 S h H locs ls hG hl; exact w9_same_b360 C hK hA (fun h => ih h) (show f9_same_b360 (f9_same_L360 n) v6 v7 v8 v9 v10 S = some q from h) hG hl
set_option maxRecDepth 100000 in
set_option maxHeartbeats 4000000 in
theorem w9_same_b294 (C : cx_M p s m args meth c RL cL_same (some .boolean) 16) (hK : va_K (dC, dI) vwCl [(cI, .int), (cB, .object "DiceRoads$Board")] s) (hA : ∀ q, s.heap.size ≤ q → A q) {b : Nat → Nat → Nat} {q : (Int32 × ys_T)} {rec15 : Int32 → Int32 → Int32 → Int32 → Int32 → ys_T → Option (Int32 × ys_T)} (hrec15 : ∀ {v6 : Int32} {v7 : Int32} {v8 : Int32} {v9 : Int32} {v10 : Int32} {S : ys_T} , rec15 v6 v7 v8 v9 v10 S = some q → ∀ {H : Heap} {locs : List Loc} {ls : Array Slot}, gd_W (dC, dI) A s (gY cI cB b S).flatten H locs → lv_has ls 16 [(0, .ref (b 0 0)), (1, .ref (b 16 0)), (2, .ref (b 16 1)), (3, .ref (b 16 2)), (4, .ref (b 16 3)), (5, .ref (b 16 4)), (6, .int v6), (7, .int v7), (8, .int v8), (9, .int v9), (10, .int v10)] → W p l e RM9_same s m args below meth c H locs 0 0 (MQ below (qi_W (dC, dI) [(cI, .int), (cB, .object "DiceRoads$Board")] A q.1 (gY cI cB b q.2).flatten) args s 0 0 A) (F0 m 15 ls [])) {rec294 : Int32 → Int32 → Int32 → Int32 → Int32 → Int32 → Int32 → ys_T → Option (Int32 × ys_T)} (hrec294 : ∀ {v6 : Int32} {v7 : Int32} {v8 : Int32} {v9 : Int32} {v10 : Int32} {v12 : Int32} {v14 : Int32} {S : ys_T} , rec294 v6 v7 v8 v9 v10 v12 v14 S = some q → ∀ {H : Heap} {locs : List Loc} {ls : Array Slot}, gd_W (dC, dI) A s (gY cI cB b S).flatten H locs → lv_has ls 16 [(0, .ref (b 0 0)), (1, .ref (b 16 0)), (2, .ref (b 16 1)), (3, .ref (b 16 2)), (4, .ref (b 16 3)), (5, .ref (b 16 4)), (6, .int v6), (7, .int v7), (8, .int v8), (9, .int v9), (10, .int v10), (12, .int v12), (14, .int v14)] → W p l e RM9_same s m args below meth c H locs 0 0 (MQ below (qi_W (dC, dI) [(cI, .int), (cB, .object "DiceRoads$Board")] A q.1 (gY cI cB b q.2).flatten) args s 0 0 A) (F0 m 294 ls [])) {v6 : Int32} {v7 : Int32} {v8 : Int32} {v9 : Int32} {v10 : Int32} {v12 : Int32} {v14 : Int32} {S : ys_T} (h : f9_same_b294 rec15 rec294 v6 v7 v8 v9 v10 v12 v14 S = some q) {H : Heap} {locs : List Loc} {ls : Array Slot} (hG : gd_W (dC, dI) A s (gY cI cB b S).flatten H locs) (hl : lv_has ls 16 [(0, .ref (b 0 0)), (1, .ref (b 16 0)), (2, .ref (b 16 1)), (3, .ref (b 16 2)), (4, .ref (b 16 3)), (5, .ref (b 16 4)), (6, .int v6), (7, .int v7), (8, .int v8), (9, .int v9), (10, .int v10), (12, .int v12), (14, .int v14)]) : W p l e RM9_same s m args below meth c H locs 0 0 (MQ below (qi_W (dC, dI) [(cI, .int), (cB, .object "DiceRoads$Board")] A q.1 (gY cI cB b q.2).flatten) args s 0 0 A) (F0 m 294 ls []) := by
  unfold f9_same_b294 at h
  obtain ⟨hx, hb, hr, hts, hown, hlocks, hml⟩ := id C
  refine lv_iload hx hb dL_same_294 (lv_at hl 12 rfl) ?_
  refine lv_bipush (v := (6 : Int32)) hx hb dL_same_296 (by decide) ?_
  refine lv_icmp_ge (tgt := 332) hx hb dL_same_298 (by decide) (fun hc => ?_) (fun hc => ?_)
  · have h := fo_it h hc
    refine lv_iload hx hb dL_same_332 (lv_at hl 6 rfl) ?_
    refine lv_aload_n hx hb dL_same_334 rfl (lv_at hl 2 rfl) ?_
    refine lv_bipush (v := (6 : Int32)) hx hb dL_same_335 (by decide) ?_
    refine lv_iload hx hb dL_same_337 (lv_at hl 10 rfl) ?_
    refine lv_imul hx hb dL_same_339 ?_
    obtain ⟨hi, h⟩ := fo_ck_some h
    refine va_iald hx hb hK hG.1 1 0 rfl rfl hi dL_same_340 ?_
    refine lv_iadd hx hb dL_same_341 ?_
    refine lv_istore (lv' := [(6, .int (v6 + ((S.2.1 1) ((6 : Int32) * v10).toNatClampNeg))), (0, .ref (b 0 0)), (1, .ref (b 16 0)), (2, .ref (b 16 1)), (3, .ref (b 16 2)), (4, .ref (b 16 3)), (5, .ref (b 16 4)), (7, .int v7), (8, .int v8), (9, .int v9), (10, .int v10), (12, .int v12), (14, .int v14)]) hx hb dL_same_342 hl (by decide) rfl (fun ls hl => ?_)
    refine lv_iload hx hb dL_same_344 (lv_at hl 8 rfl) ?_
    refine lv_iload hx hb dL_same_346 (lv_at hl 11 rfl) ?_
    refine lv_iadd hx hb dL_same_348 ?_
    refine lv_istore (lv' := [(8, .int (v8 + v12)), (6, .int (v6 + ((S.2.1 1) ((6 : Int32) * v10).toNatClampNeg))), (0, .ref (b 0 0)), (1, .ref (b 16 0)), (2, .ref (b 16 1)), (3, .ref (b 16 2)), (4, .ref (b 16 3)), (5, .ref (b 16 4)), (7, .int v7), (9, .int v9), (10, .int v10), (12, .int v12), (14, .int v14)]) hx hb dL_same_349 hl (by decide) rfl (fun ls hl => ?_)
    refine lv_iinc (v := (v10 + (1 : Int32))) (lv' := [(10, .int (v10 + (1 : Int32))), (8, .int (v8 + v12)), (6, .int (v6 + ((S.2.1 1) ((6 : Int32) * v10).toNatClampNeg))), (0, .ref (b 0 0)), (1, .ref (b 16 0)), (2, .ref (b 16 1)), (3, .ref (b 16 2)), (4, .ref (b 16 3)), (5, .ref (b 16 4)), (7, .int v7), (9, .int v9), (12, .int v12), (14, .int v14)]) hx hb dL_same_351 hl (k := 10) rfl rfl (by decide) rfl (fun ls hl => ?_)
    refine lv_goto (tgt := 15) hx hb dL_same_354 (by decide) ?_
    exact hrec15 h hG (lv_sub hl [3, 4, 5, 6, 7, 8, 2, 9, 1, 10, 0] rfl)
  · have h := fo_if h hc
    refine lv_aload_n hx hb dL_same_301 rfl (lv_at hl 0 rfl) ?_
    refine lv_iload hx hb dL_same_302 (lv_at hl 10 rfl) ?_
    refine lv_iconst (v := (3 : Int32)) hx hb dL_same_304 (by decide) ?_
    refine lv_iload hx hb dL_same_305 (lv_at hl 12 rfl) ?_
    refine lv_iadd hx hb dL_same_307 ?_
    obtain ⟨q308, hq308, h⟩ := fo_bd_some h
    refine gq_iV (gs := gY cI cB b S) (gs' := gY cI cB b S) (As := [.int v10, .int ((3 : Int32) + v14)]) (rest := []) (wc := (gX cI cB b S.1).flatten) (w1 := (gX cI cB b S.1).flatten) (b := b 0 0) (C := RX7) (ci := 6) (q0 := 0) ⟨hx, hb, hml, hown, hts⟩ (c7_of l hq308) (cwV 2 hts gv_X9_35 rfl rfl rfl hd7_of ⟨Nat.le_of_ble_eq_true rfl, Nat.le_of_ble_eq_true rfl⟩) hK [0, 1] rfl hA hG [2] [0, 1] py_0 py_0 (List.append_nil _) (List.append_nil _) rfl rfl rfl rfl hl.1 rfl (Nat.le_of_ble_eq_true rfl) dL_same_308 ⟨Nat.zero_le _, Nat.zero_le _⟩ (fun H locs hG9 => ?_)
    have hG : gd_W (dC, dI) A s (gY cI cB b S).flatten H locs := hG9
    refine lv_aload_n hx hb dL_same_311 rfl (lv_at hl 2 rfl) ?_
    refine lv_bipush (v := (6 : Int32)) hx hb dL_same_312 (by decide) ?_
    refine lv_iload hx hb dL_same_314 (lv_at hl 10 rfl) ?_
    refine lv_imul hx hb dL_same_316 ?_
    refine lv_iload hx hb dL_same_317 (lv_at hl 12 rfl) ?_
    refine lv_iadd hx hb dL_same_319 ?_
    obtain ⟨hi, h⟩ := fo_ck_some h
    refine va_iald hx hb hK hG.1 1 0 rfl rfl hi dL_same_320 ?_
    refine lv_icmp_eq (tgt := 326) hx hb dL_same_321 (by decide) (fun hc => ?_) (fun hc => ?_)
    · have h := fo_it h hc
      refine lv_iinc (v := (v14 + (1 : Int32))) (lv' := [(14, .int (v14 + (1 : Int32))), (0, .ref (b 0 0)), (1, .ref (b 16 0)), (2, .ref (b 16 1)), (3, .ref (b 16 2)), (4, .ref (b 16 3)), (5, .ref (b 16 4)), (6, .int v6), (7, .int v7), (8, .int v8), (9, .int v9), (10, .int v10), (12, .int v12)]) hx hb dL_same_326 hl (k := 12) rfl rfl (by decide) rfl (fun ls hl => ?_)
      refine lv_goto (tgt := 294) hx hb dL_same_329 (by decide) ?_
      exact hrec294 h hG (lv_sub hl [1, 2, 3, 4, 5, 6, 7, 8, 9, 10, 11, 12, 0] rfl)
    · have h := fo_if h hc
      refine lv_iconst (v := (0 : Int32)) hx hb dL_same_324 (by decide) ?_
      obtain rfl := Option.some.inj h
      exact gr_z hx hb hr hlocks hK hG rfl rfl dL_same_325
set_option maxRecDepth 100000 in
set_option maxHeartbeats 4000000 in
theorem w9_same_L294 (C : cx_M p s m args meth c RL cL_same (some .boolean) 16) (hK : va_K (dC, dI) vwCl [(cI, .int), (cB, .object "DiceRoads$Board")] s) (hA : ∀ q, s.heap.size ≤ q → A q) {b : Nat → Nat → Nat} {q : (Int32 × ys_T)} {rec15 : Int32 → Int32 → Int32 → Int32 → Int32 → ys_T → Option (Int32 × ys_T)} (hrec15 : ∀ {v6 : Int32} {v7 : Int32} {v8 : Int32} {v9 : Int32} {v10 : Int32} {S : ys_T} , rec15 v6 v7 v8 v9 v10 S = some q → ∀ {H : Heap} {locs : List Loc} {ls : Array Slot}, gd_W (dC, dI) A s (gY cI cB b S).flatten H locs → lv_has ls 16 [(0, .ref (b 0 0)), (1, .ref (b 16 0)), (2, .ref (b 16 1)), (3, .ref (b 16 2)), (4, .ref (b 16 3)), (5, .ref (b 16 4)), (6, .int v6), (7, .int v7), (8, .int v8), (9, .int v9), (10, .int v10)] → W p l e RM9_same s m args below meth c H locs 0 0 (MQ below (qi_W (dC, dI) [(cI, .int), (cB, .object "DiceRoads$Board")] A q.1 (gY cI cB b q.2).flatten) args s 0 0 A) (F0 m 15 ls [])) : ∀ (n : Nat) {v6 : Int32} {v7 : Int32} {v8 : Int32} {v9 : Int32} {v10 : Int32} {v12 : Int32} {v14 : Int32} {S : ys_T}, f9_same_L294 rec15 n v6 v7 v8 v9 v10 v12 v14 S = some q → ∀ {H : Heap} {locs : List Loc} {ls : Array Slot}, gd_W (dC, dI) A s (gY cI cB b S).flatten H locs → lv_has ls 16 [(0, .ref (b 0 0)), (1, .ref (b 16 0)), (2, .ref (b 16 1)), (3, .ref (b 16 2)), (4, .ref (b 16 3)), (5, .ref (b 16 4)), (6, .int v6), (7, .int v7), (8, .int v8), (9, .int v9), (10, .int v10), (12, .int v12), (14, .int v14)] → W p l e RM9_same s m args below meth c H locs 0 0 (MQ below (qi_W (dC, dI) [(cI, .int), (cB, .object "DiceRoads$Board")] A q.1 (gY cI cB b q.2).flatten) args s 0 0 A) (F0 m 294 ls []) := by
  intro n
  induction n with
  | zero => intro _ _ _ _ _ _ _ _ h; exact nomatch h
  | succ n ih => intro v6 v7 v8 v9 v10 v12 v14 S h H locs ls hG hl; exact w9_same_b294 C hK hA (fun h => hrec15 h) (fun h => ih h) (show f9_same_b294 rec15 (f9_same_L294 rec15 n) v6 v7 v8 v9 v10 v12 v14 S = some q from h) hG hl
set_option maxRecDepth 100000 in
set_option maxHeartbeats 4000000 in
theorem w9_same_b211 (C : cx_M p s m args meth c RL cL_same (some .boolean) 16) (hK : va_K (dC, dI) vwCl [(cI, .int), (cB, .object "DiceRoads$Board")] s) (hA : ∀ q, s.heap.size ≤ q → A q) {b : Nat → Nat → Nat} {q : (Int32 × ys_T)} {rec15 : Int32 → Int32 → Int32 → Int32 → Int32 → ys_T → Option (Int32 × ys_T)} (hrec15 : ∀ {v6 : Int32} {v7 : Int32} {v8 : Int32} {v9 : Int32} {v10 : Int32} {S : ys_T} , rec15 v6 v7 v8 v9 v10 S = some q → ∀ {H : Heap} {locs : List Loc} {ls : Array Slot}, gd_W (dC, dI) A s (gY cI cB b S).flatten H locs → lv_has ls 16 [(0, .ref (b 0 0)), (1, .ref (b 16 0)), (2, .ref (b 16 1)), (3, .ref (b 16 2)), (4, .ref (b 16 3)), (5, .ref (b 16 4)), (6, .int v6), (7, .int v7), (8, .int v8), (9, .int v9), (10, .int v10)] → W p l e RM9_same s m args below meth c H locs 0 0 (MQ below (qi_W (dC, dI) [(cI, .int), (cB, .object "DiceRoads$Board")] A q.1 (gY cI cB b q.2).flatten) args s 0 0 A) (F0 m 15 ls [])) {rec86 : Int32 → Int32 → Int32 → Int32 → Int32 → Int32 → Int32 → Int32 → Int32 → ys_T → Option (Int32 × ys_T)} (hrec86 : ∀ {v6 : Int32} {v7 : Int32} {v8 : Int32} {v9 : Int32} {v10 : Int32} {v11 : Int32} {v12 : Int32} {v13 : Int32} {v14 : Int32} {S : ys_T} , rec86 v6 v7 v8 v9 v10 v11 v12 v13 v14 S = some q → ∀ {H : Heap} {locs : List Loc} {ls : Array Slot}, gd_W (dC, dI) A s (gY cI cB b S).flatten H locs → lv_has ls 16 [(0, .ref (b 0 0)), (1, .ref (b 16 0)), (2, .ref (b 16 1)), (3, .ref (b 16 2)), (4, .ref (b 16 3)), (5, .ref (b 16 4)), (6, .int v6), (7, .int v7), (8, .int v8), (9, .int v9), (10, .int v10), (11, .int v11), (12, .int v12), (13, .int v13), (14, .int v14)] → W p l e RM9_same s m args below meth c H locs 0 0 (MQ below (qi_W (dC, dI) [(cI, .int), (cB, .object "DiceRoads$Board")] A q.1 (gY cI cB b q.2).flatten) args s 0 0 A) (F0 m 86 ls [])) {v6 : Int32} {v7 : Int32} {v8 : Int32} {v9 : Int32} {v10 : Int32} {v11 : Int32} {v12 : Int32} {v13 : Int32} {v14 : Int32} {S : ys_T} (h : f9_same_b211 rec15 rec86 v6 v7 v8 v9 v10 v11 v12 v13 v14 S = some q) {H : Heap} {locs : List Loc} {ls : Array Slot} (hG : gd_W (dC, dI) A s (gY cI cB b S).flatten H locs) (hl : lv_has ls 16 [(0, .ref (b 0 0)), (1, .ref (b 16 0)), (2, .ref (b 16 1)), (3, .ref (b 16 2)), (4, .ref (b 16 3)), (5, .ref (b 16 4)), (6, .int v6), (7, .int v7), (8, .int v8), (9, .int v9), (10, .int v10), (11, .int v11), (12, .int v12), (13, .int v13), (14, .int v14)]) : W p l e RM9_same s m args below meth c H locs 0 0 (MQ below (qi_W (dC, dI) [(cI, .int), (cB, .object "DiceRoads$Board")] A q.1 (gY cI cB b q.2).flatten) args s 0 0 A) (F0 m 211 ls []) := by
  unfold f9_same_b211 at h
  obtain ⟨hx, hb, hr, hts, hown, hlocks, hml⟩ := id C
  refine lv_iinc (v := (v14 + (1 : Int32))) (lv' := [(14, .int (v14 + (1 : Int32))), (0, .ref (b 0 0)), (1, .ref (b 16 0)), (2, .ref (b 16 1)), (3, .ref (b 16 2)), (4, .ref (b 16 3)), (5, .ref (b 16 4)), (6, .int v6), (7, .int v7), (8, .int v8), (9, .int v9), (10, .int v10), (11, .int v11), (12, .int v12), (13, .int v13)]) hx hb dL_same_211 hl (k := 14) rfl rfl (by decide) rfl (fun ls hl => ?_)
  refine lv_goto (tgt := 86) hx hb dL_same_214 (by decide) ?_
  exact hrec86 h hG (lv_sub hl [1, 2, 3, 4, 5, 6, 7, 8, 9, 10, 11, 12, 13, 14, 0] rfl)
set_option maxRecDepth 100000 in
set_option maxHeartbeats 4000000 in
theorem w9_same_b206 (C : cx_M p s m args meth c RL cL_same (some .boolean) 16) (hK : va_K (dC, dI) vwCl [(cI, .int), (cB, .object "DiceRoads$Board")] s) (hA : ∀ q, s.heap.size ≤ q → A q) {b : Nat → Nat → Nat} {q : (Int32 × ys_T)} {rec15 : Int32 → Int32 → Int32 → Int32 → Int32 → ys_T → Option (Int32 × ys_T)} (hrec15 : ∀ {v6 : Int32} {v7 : Int32} {v8 : Int32} {v9 : Int32} {v10 : Int32} {S : ys_T} , rec15 v6 v7 v8 v9 v10 S = some q → ∀ {H : Heap} {locs : List Loc} {ls : Array Slot}, gd_W (dC, dI) A s (gY cI cB b S).flatten H locs → lv_has ls 16 [(0, .ref (b 0 0)), (1, .ref (b 16 0)), (2, .ref (b 16 1)), (3, .ref (b 16 2)), (4, .ref (b 16 3)), (5, .ref (b 16 4)), (6, .int v6), (7, .int v7), (8, .int v8), (9, .int v9), (10, .int v10)] → W p l e RM9_same s m args below meth c H locs 0 0 (MQ below (qi_W (dC, dI) [(cI, .int), (cB, .object "DiceRoads$Board")] A q.1 (gY cI cB b q.2).flatten) args s 0 0 A) (F0 m 15 ls [])) {rec86 : Int32 → Int32 → Int32 → Int32 → Int32 → Int32 → Int32 → Int32 → Int32 → ys_T → Option (Int32 × ys_T)} (hrec86 : ∀ {v6 : Int32} {v7 : Int32} {v8 : Int32} {v9 : Int32} {v10 : Int32} {v11 : Int32} {v12 : Int32} {v13 : Int32} {v14 : Int32} {S : ys_T} , rec86 v6 v7 v8 v9 v10 v11 v12 v13 v14 S = some q → ∀ {H : Heap} {locs : List Loc} {ls : Array Slot}, gd_W (dC, dI) A s (gY cI cB b S).flatten H locs → lv_has ls 16 [(0, .ref (b 0 0)), (1, .ref (b 16 0)), (2, .ref (b 16 1)), (3, .ref (b 16 2)), (4, .ref (b 16 3)), (5, .ref (b 16 4)), (6, .int v6), (7, .int v7), (8, .int v8), (9, .int v9), (10, .int v10), (11, .int v11), (12, .int v12), (13, .int v13), (14, .int v14)] → W p l e RM9_same s m args below meth c H locs 0 0 (MQ below (qi_W (dC, dI) [(cI, .int), (cB, .object "DiceRoads$Board")] A q.1 (gY cI cB b q.2).flatten) args s 0 0 A) (F0 m 86 ls [])) {v6 : Int32} {v7 : Int32} {v8 : Int32} {v9 : Int32} {v10 : Int32} {v11 : Int32} {v12 : Int32} {v13 : Int32} {v14 : Int32} {t0 : Int32} {t1 : Int32} {S : ys_T} (h : f9_same_b206 rec15 rec86 v6 v7 v8 v9 v10 v11 v12 v13 v14 t0 t1 S = some q) {H : Heap} {locs : List Loc} {ls : Array Slot} (hG : gd_W (dC, dI) A s (gY cI cB b S).flatten H locs) (hl : lv_has ls 16 [(0, .ref (b 0 0)), (1, .ref (b 16 0)), (2, .ref (b 16 1)), (3, .ref (b 16 2)), (4, .ref (b 16 3)), (5, .ref (b 16 4)), (6, .int v6), (7, .int v7), (8, .int v8), (9, .int v9), (10, .int v10), (11, .int v11), (12, .int v12), (13, .int v13), (14, .int v14)]) : W p l e RM9_same s m args below meth c H locs 0 0 (MQ below (qi_W (dC, dI) [(cI, .int), (cB, .object "DiceRoads$Board")] A q.1 (gY cI cB b q.2).flatten) args s 0 0 A) (F0 m 206 ls [.int t1, .int t0]) := by
  unfold f9_same_b206 at h
  obtain ⟨hx, hb, hr, hts, hown, hlocks, hml⟩ := id C
  refine lv_icmp_eq (tgt := 211) hx hb dL_same_206 (by decide) (fun hc => ?_) (fun hc => ?_)
  · have h := fo_it h hc
    exact w9_same_b211 C hK hA (fun h => hrec15 h) (fun h => hrec86 h) h hG (lv_sub hl [0, 1, 2, 3, 4, 5, 6, 7, 8, 9, 10, 11, 12, 13, 14] rfl)
  · have h := fo_if h hc
    refine lv_iconst (v := (0 : Int32)) hx hb dL_same_209 (by decide) ?_
    obtain rfl := Option.some.inj h
    exact gr_z hx hb hr hlocks hK hG rfl rfl dL_same_210
set_option maxRecDepth 100000 in
set_option maxHeartbeats 4000000 in
theorem w9_same_b167 (C : cx_M p s m args meth c RL cL_same (some .boolean) 16) (hK : va_K (dC, dI) vwCl [(cI, .int), (cB, .object "DiceRoads$Board")] s) (hA : ∀ q, s.heap.size ≤ q → A q) {b : Nat → Nat → Nat} {q : (Int32 × ys_T)} {rec15 : Int32 → Int32 → Int32 → Int32 → Int32 → ys_T → Option (Int32 × ys_T)} (hrec15 : ∀ {v6 : Int32} {v7 : Int32} {v8 : Int32} {v9 : Int32} {v10 : Int32} {S : ys_T} , rec15 v6 v7 v8 v9 v10 S = some q → ∀ {H : Heap} {locs : List Loc} {ls : Array Slot}, gd_W (dC, dI) A s (gY cI cB b S).flatten H locs → lv_has ls 16 [(0, .ref (b 0 0)), (1, .ref (b 16 0)), (2, .ref (b 16 1)), (3, .ref (b 16 2)), (4, .ref (b 16 3)), (5, .ref (b 16 4)), (6, .int v6), (7, .int v7), (8, .int v8), (9, .int v9), (10, .int v10)] → W p l e RM9_same s m args below meth c H locs 0 0 (MQ below (qi_W (dC, dI) [(cI, .int), (cB, .object "DiceRoads$Board")] A q.1 (gY cI cB b q.2).flatten) args s 0 0 A) (F0 m 15 ls [])) {rec86 : Int32 → Int32 → Int32 → Int32 → Int32 → Int32 → Int32 → Int32 → Int32 → ys_T → Option (Int32 × ys_T)} (hrec86 : ∀ {v6 : Int32} {v7 : Int32} {v8 : Int32} {v9 : Int32} {v10 : Int32} {v11 : Int32} {v12 : Int32} {v13 : Int32} {v14 : Int32} {S : ys_T} , rec86 v6 v7 v8 v9 v10 v11 v12 v13 v14 S = some q → ∀ {H : Heap} {locs : List Loc} {ls : Array Slot}, gd_W (dC, dI) A s (gY cI cB b S).flatten H locs → lv_has ls 16 [(0, .ref (b 0 0)), (1, .ref (b 16 0)), (2, .ref (b 16 1)), (3, .ref (b 16 2)), (4, .ref (b 16 3)), (5, .ref (b 16 4)), (6, .int v6), (7, .int v7), (8, .int v8), (9, .int v9), (10, .int v10), (11, .int v11), (12, .int v12), (13, .int v13), (14, .int v14)] → W p l e RM9_same s m args below meth c H locs 0 0 (MQ below (qi_W (dC, dI) [(cI, .int), (cB, .object "DiceRoads$Board")] A q.1 (gY cI cB b q.2).flatten) args s 0 0 A) (F0 m 86 ls [])) {v6 : Int32} {v7 : Int32} {v8 : Int32} {v9 : Int32} {v10 : Int32} {v11 : Int32} {v12 : Int32} {v13 : Int32} {v14 : Int32} {v15 : Int32} {t0 : Int32} {t1 : Int32} {S : ys_T} (h : f9_same_b167 rec15 rec86 v6 v7 v8 v9 v10 v11 v12 v13 v14 v15 t0 t1 S = some q) {H : Heap} {locs : List Loc} {ls : Array Slot} (hG : gd_W (dC, dI) A s (gY cI cB b S).flatten H locs) (hl : lv_has ls 16 [(0, .ref (b 0 0)), (1, .ref (b 16 0)), (2, .ref (b 16 1)), (3, .ref (b 16 2)), (4, .ref (b 16 3)), (5, .ref (b 16 4)), (6, .int v6), (7, .int v7), (8, .int v8), (9, .int v9), (10, .int v10), (11, .int v11), (12, .int v12), (13, .int v13), (14, .int v14), (15, .int v15)]) : W p l e RM9_same s m args below meth c H locs 0 0 (MQ below (qi_W (dC, dI) [(cI, .int), (cB, .object "DiceRoads$Board")] A q.1 (gY cI cB b q.2).flatten) args s 0 0 A) (F0 m 167 ls [.int t1, .int t0]) := by
  unfold f9_same_b167 at h
  obtain ⟨hx, hb, hr, hts, hown, hlocks, hml⟩ := id C
  refine lv_icmp_ne (tgt := 209) hx hb dL_same_167 (by decide) (fun hc => ?_) (fun hc => ?_)
  · have h := fo_if h hc
    refine lv_iconst (v := (0 : Int32)) hx hb dL_same_209 (by decide) ?_
    obtain rfl := Option.some.inj h
    exact gr_z hx hb hr hlocks hK hG rfl rfl dL_same_210
  · have h := fo_it h hc
    refine lv_iload hx hb dL_same_170 (lv_at hl 14 rfl) ?_
    refine lv_iload hx hb dL_same_172 (lv_at hl 10 rfl) ?_
    refine lv_icmp_eq (tgt := 211) hx hb dL_same_174 (by decide) (fun hc => ?_) (fun hc => ?_)
    · have h := fo_it h hc
      exact w9_same_b211 C hK hA (fun h => hrec15 h) (fun h => hrec86 h) h hG (lv_sub hl [0, 1, 2, 3, 4, 5, 6, 7, 8, 9, 10, 11, 12, 13, 14] rfl)
    · have h := fo_if h hc
      refine lv_aload_n hx hb dL_same_177 rfl (lv_at hl 0 rfl) ?_
      refine lv_iload hx hb dL_same_178 (lv_at hl 10 rfl) ?_
      refine lv_iload hx hb dL_same_180 (lv_at hl 14 rfl) ?_
      refine lv_iconst (v := (1 : Int32)) hx hb dL_same_182 (by decide) ?_
      obtain ⟨q183, hq183, h⟩ := fo_bd_some h
      refine gq_iV (gs := gY cI cB b S) (gs' := gY cI cB b S) (As := [.int v10, .int v14, .int (1 : Int32)]) (rest := []) (wc := (gX cI cB b S.1).flatten) (w1 := (gX cI cB b S.1).flatten) (b := b 0 0) (C := RX7) (ci := 6) (q0 := 0) ⟨hx, hb, hml, hown, hts⟩ (c7_owes l hq183) (cwV 3 hts gv_X9_29 rfl rfl rfl hd7_owes ⟨Nat.le_of_ble_eq_true rfl, Nat.le_of_ble_eq_true rfl⟩) hK [0, 1] rfl hA hG [2] [0, 1] py_0 py_0 (List.append_nil _) (List.append_nil _) rfl rfl rfl rfl hl.1 rfl (Nat.le_of_ble_eq_true rfl) dL_same_183 ⟨Nat.zero_le _, Nat.zero_le _⟩ (fun H locs hG9 => ?_)
      have hG : gd_W (dC, dI) A s (gY cI cB b S).flatten H locs := hG9
      refine lv_iload hx hb dL_same_186 (lv_at hl 15 rfl) ?_
      refine lv_if_le (tgt := 204) hx hb dL_same_188 (by decide) (fun hc => ?_) (fun hc => ?_)
      · have h := fo_it h hc
        refine lv_bipush (v := (-6 : Int32)) hx hb dL_same_204 (by decide) ?_
        exact w9_same_b206 C hK hA (fun h => hrec15 h) (fun h => hrec86 h) h hG (lv_sub hl [0, 1, 2, 3, 4, 5, 6, 7, 8, 9, 10, 11, 12, 13, 14] rfl)
      · have h := fo_if h hc
        refine lv_aload hx hb dL_same_191 (lv_at hl 5 rfl) ?_
        refine lv_iconst (v := (4 : Int32)) hx hb dL_same_193 (by decide) ?_
        refine lv_iload hx hb dL_same_194 (lv_at hl 10 rfl) ?_
        refine lv_imul hx hb dL_same_196 ?_
        refine lv_iload hx hb dL_same_197 (lv_at hl 14 rfl) ?_
        refine lv_iadd hx hb dL_same_199 ?_
        obtain ⟨hi, h⟩ := fo_ck_some h
        refine va_iald hx hb hK hG.1 4 0 rfl rfl hi dL_same_200 ?_
        refine lv_goto (tgt := 206) hx hb dL_same_201 (by decide) ?_
        exact w9_same_b206 C hK hA (fun h => hrec15 h) (fun h => hrec86 h) h hG (lv_sub hl [0, 1, 2, 3, 4, 5, 6, 7, 8, 9, 10, 11, 12, 13, 14] rfl)
set_option maxRecDepth 100000 in
set_option maxHeartbeats 4000000 in
theorem w9_same_b141 (C : cx_M p s m args meth c RL cL_same (some .boolean) 16) (hK : va_K (dC, dI) vwCl [(cI, .int), (cB, .object "DiceRoads$Board")] s) (hA : ∀ q, s.heap.size ≤ q → A q) {b : Nat → Nat → Nat} {q : (Int32 × ys_T)} {rec15 : Int32 → Int32 → Int32 → Int32 → Int32 → ys_T → Option (Int32 × ys_T)} (hrec15 : ∀ {v6 : Int32} {v7 : Int32} {v8 : Int32} {v9 : Int32} {v10 : Int32} {S : ys_T} , rec15 v6 v7 v8 v9 v10 S = some q → ∀ {H : Heap} {locs : List Loc} {ls : Array Slot}, gd_W (dC, dI) A s (gY cI cB b S).flatten H locs → lv_has ls 16 [(0, .ref (b 0 0)), (1, .ref (b 16 0)), (2, .ref (b 16 1)), (3, .ref (b 16 2)), (4, .ref (b 16 3)), (5, .ref (b 16 4)), (6, .int v6), (7, .int v7), (8, .int v8), (9, .int v9), (10, .int v10)] → W p l e RM9_same s m args below meth c H locs 0 0 (MQ below (qi_W (dC, dI) [(cI, .int), (cB, .object "DiceRoads$Board")] A q.1 (gY cI cB b q.2).flatten) args s 0 0 A) (F0 m 15 ls [])) {rec86 : Int32 → Int32 → Int32 → Int32 → Int32 → Int32 → Int32 → Int32 → Int32 → ys_T → Option (Int32 × ys_T)} (hrec86 : ∀ {v6 : Int32} {v7 : Int32} {v8 : Int32} {v9 : Int32} {v10 : Int32} {v11 : Int32} {v12 : Int32} {v13 : Int32} {v14 : Int32} {S : ys_T} , rec86 v6 v7 v8 v9 v10 v11 v12 v13 v14 S = some q → ∀ {H : Heap} {locs : List Loc} {ls : Array Slot}, gd_W (dC, dI) A s (gY cI cB b S).flatten H locs → lv_has ls 16 [(0, .ref (b 0 0)), (1, .ref (b 16 0)), (2, .ref (b 16 1)), (3, .ref (b 16 2)), (4, .ref (b 16 3)), (5, .ref (b 16 4)), (6, .int v6), (7, .int v7), (8, .int v8), (9, .int v9), (10, .int v10), (11, .int v11), (12, .int v12), (13, .int v13), (14, .int v14)] → W p l e RM9_same s m args below meth c H locs 0 0 (MQ below (qi_W (dC, dI) [(cI, .int), (cB, .object "DiceRoads$Board")] A q.1 (gY cI cB b q.2).flatten) args s 0 0 A) (F0 m 86 ls [])) {v6 : Int32} {v8 : Int32} {v9 : Int32} {v10 : Int32} {v11 : Int32} {v12 : Int32} {v13 : Int32} {v14 : Int32} {v15 : Int32} {t0 : Int32} {t1 : Int32} {S : ys_T} (h : f9_same_b141 rec15 rec86 v6 v8 v9 v10 v11 v12 v13 v14 v15 t0 t1 S = some q) {H : Heap} {locs : List Loc} {ls : Array Slot} (hG : gd_W (dC, dI) A s (gY cI cB b S).flatten H locs) (hl : lv_has ls 16 [(0, .ref (b 0 0)), (1, .ref (b 16 0)), (2, .ref (b 16 1)), (3, .ref (b 16 2)), (4, .ref (b 16 3)), (5, .ref (b 16 4)), (6, .int v6), (8, .int v8), (9, .int v9), (10, .int v10), (11, .int v11), (12, .int v12), (13, .int v13), (14, .int v14), (15, .int v15)]) : W p l e RM9_same s m args below meth c H locs 0 0 (MQ below (qi_W (dC, dI) [(cI, .int), (cB, .object "DiceRoads$Board")] A q.1 (gY cI cB b q.2).flatten) args s 0 0 A) (F0 m 141 ls [.int t1, .int t0]) := by
  unfold f9_same_b141 at h
  obtain ⟨hx, hb, hr, hts, hown, hlocks, hml⟩ := id C
  refine lv_iadd hx hb dL_same_141 ?_
  refine lv_istore (lv' := [(7, .int (t0 + t1)), (0, .ref (b 0 0)), (1, .ref (b 16 0)), (2, .ref (b 16 1)), (3, .ref (b 16 2)), (4, .ref (b 16 3)), (5, .ref (b 16 4)), (6, .int v6), (8, .int v8), (9, .int v9), (10, .int v10), (11, .int v11), (12, .int v12), (13, .int v13), (14, .int v14), (15, .int v15)]) hx hb dL_same_142 hl (by decide) rfl (fun ls hl => ?_)
  refine lv_aload_n hx hb dL_same_144 rfl (lv_at hl 1 rfl) ?_
  refine lv_iload hx hb dL_same_145 (lv_at hl 10 rfl) ?_
  refine lv_iload hx hb dL_same_147 (lv_at hl 14 rfl) ?_
  refine lv_iconst (v := (0 : Int32)) hx hb dL_same_149 (by decide) ?_
  obtain ⟨q150, hq150, h⟩ := fo_bd_some h
  refine gq_iV (gs := gY cI cB b S) (gs' := gY cI cB b S) (As := [.int v10, .int v14, .int (0 : Int32)]) (rest := []) (wc := (gX cI cB b S.1).flatten) (w1 := (gX cI cB b S.1).flatten) (b := b 0 0) (C := RX7) (ci := 6) (q0 := 0) ⟨hx, hb, hml, hown, hts⟩ (c7_owes l hq150) (cwV 3 hts gv_X9_29 rfl rfl rfl hd7_owes ⟨Nat.le_of_ble_eq_true rfl, Nat.le_of_ble_eq_true rfl⟩) hK [0, 1] rfl hA hG [2] [0, 1] py_0 py_0 (List.append_nil _) (List.append_nil _) rfl rfl rfl rfl hl.1 rfl (Nat.le_of_ble_eq_true rfl) dL_same_150 ⟨Nat.zero_le _, Nat.zero_le _⟩ (fun H locs hG9 => ?_)
  have hG : gd_W (dC, dI) A s (gY cI cB b S).flatten H locs := hG9
  refine lv_iload hx hb dL_same_153 (lv_at hl 14 rfl) ?_
  refine lv_iload hx hb dL_same_155 (lv_at hl 10 rfl) ?_
  refine lv_icmp_ne (tgt := 165) hx hb dL_same_157 (by decide) (fun hc => ?_) (fun hc => ?_)
  · have h := fo_if h hc
    refine lv_iload hx hb dL_same_165 (lv_at hl 15 rfl) ?_
    exact w9_same_b167 C hK hA (fun h => hrec15 h) (fun h => hrec86 h) h hG (lv_sub hl [1, 2, 3, 4, 5, 6, 7, 0, 8, 9, 10, 11, 12, 13, 14, 15] rfl)
  · have h := fo_it h hc
    refine lv_bipush (v := (-2 : Int32)) hx hb dL_same_160 (by decide) ?_
    refine lv_goto (tgt := 167) hx hb dL_same_162 (by decide) ?_
    exact w9_same_b167 C hK hA (fun h => hrec15 h) (fun h => hrec86 h) h hG (lv_sub hl [1, 2, 3, 4, 5, 6, 7, 0, 8, 9, 10, 11, 12, 13, 14, 15] rfl)
set_option maxRecDepth 100000 in
set_option maxHeartbeats 4000000 in
theorem w9_same_b86 (C : cx_M p s m args meth c RL cL_same (some .boolean) 16) (hK : va_K (dC, dI) vwCl [(cI, .int), (cB, .object "DiceRoads$Board")] s) (hA : ∀ q, s.heap.size ≤ q → A q) {b : Nat → Nat → Nat} {q : (Int32 × ys_T)} {rec15 : Int32 → Int32 → Int32 → Int32 → Int32 → ys_T → Option (Int32 × ys_T)} (hrec15 : ∀ {v6 : Int32} {v7 : Int32} {v8 : Int32} {v9 : Int32} {v10 : Int32} {S : ys_T} , rec15 v6 v7 v8 v9 v10 S = some q → ∀ {H : Heap} {locs : List Loc} {ls : Array Slot}, gd_W (dC, dI) A s (gY cI cB b S).flatten H locs → lv_has ls 16 [(0, .ref (b 0 0)), (1, .ref (b 16 0)), (2, .ref (b 16 1)), (3, .ref (b 16 2)), (4, .ref (b 16 3)), (5, .ref (b 16 4)), (6, .int v6), (7, .int v7), (8, .int v8), (9, .int v9), (10, .int v10)] → W p l e RM9_same s m args below meth c H locs 0 0 (MQ below (qi_W (dC, dI) [(cI, .int), (cB, .object "DiceRoads$Board")] A q.1 (gY cI cB b q.2).flatten) args s 0 0 A) (F0 m 15 ls [])) {rec86 : Int32 → Int32 → Int32 → Int32 → Int32 → Int32 → Int32 → Int32 → Int32 → ys_T → Option (Int32 × ys_T)} (hrec86 : ∀ {v6 : Int32} {v7 : Int32} {v8 : Int32} {v9 : Int32} {v10 : Int32} {v11 : Int32} {v12 : Int32} {v13 : Int32} {v14 : Int32} {S : ys_T} , rec86 v6 v7 v8 v9 v10 v11 v12 v13 v14 S = some q → ∀ {H : Heap} {locs : List Loc} {ls : Array Slot}, gd_W (dC, dI) A s (gY cI cB b S).flatten H locs → lv_has ls 16 [(0, .ref (b 0 0)), (1, .ref (b 16 0)), (2, .ref (b 16 1)), (3, .ref (b 16 2)), (4, .ref (b 16 3)), (5, .ref (b 16 4)), (6, .int v6), (7, .int v7), (8, .int v8), (9, .int v9), (10, .int v10), (11, .int v11), (12, .int v12), (13, .int v13), (14, .int v14)] → W p l e RM9_same s m args below meth c H locs 0 0 (MQ below (qi_W (dC, dI) [(cI, .int), (cB, .object "DiceRoads$Board")] A q.1 (gY cI cB b q.2).flatten) args s 0 0 A) (F0 m 86 ls [])) {v6 : Int32} {v7 : Int32} {v8 : Int32} {v9 : Int32} {v10 : Int32} {v11 : Int32} {v12 : Int32} {v13 : Int32} {v14 : Int32} {S : ys_T} (h : f9_same_b86 rec15 rec86 v6 v7 v8 v9 v10 v11 v12 v13 v14 S = some q) {H : Heap} {locs : List Loc} {ls : Array Slot} (hG : gd_W (dC, dI) A s (gY cI cB b S).flatten H locs) (hl : lv_has ls 16 [(0, .ref (b 0 0)), (1, .ref (b 16 0)), (2, .ref (b 16 1)), (3, .ref (b 16 2)), (4, .ref (b 16 3)), (5, .ref (b 16 4)), (6, .int v6), (7, .int v7), (8, .int v8), (9, .int v9), (10, .int v10), (11, .int v11), (12, .int v12), (13, .int v13), (14, .int v14)]) : W p l e RM9_same s m args below meth c H locs 0 0 (MQ below (qi_W (dC, dI) [(cI, .int), (cB, .object "DiceRoads$Board")] A q.1 (gY cI cB b q.2).flatten) args s 0 0 A) (F0 m 86 ls []) := by
  unfold f9_same_b86 at h
  obtain ⟨hx, hb, hr, hts, hown, hlocks, hml⟩ := id C
  refine lv_iload hx hb dL_same_86 (lv_at hl 14 rfl) ?_
  refine lv_aload_n hx hb dL_same_88 rfl (lv_at hl 1 rfl) ?_
  refine lv_bipush (v := (6 : Int32)) hx hb dL_same_89 (by decide) ?_
  obtain ⟨hi, h⟩ := fo_ck_some h
  refine va_iald hx hb hK hG.1 0 0 rfl rfl hi dL_same_91 ?_
  refine lv_icmp_ge (tgt := 217) hx hb dL_same_92 (by decide) (fun hc => ?_) (fun hc => ?_)
  · have h := fo_it h hc
    refine lv_aload_n hx hb dL_same_217 rfl (lv_at hl 0 rfl) ?_
    refine lv_iload hx hb dL_same_218 (lv_at hl 10 rfl) ?_
    refine lv_iconst (v := (0 : Int32)) hx hb dL_same_220 (by decide) ?_
    obtain ⟨q221, hq221, h⟩ := fo_bd_some h
    refine gq_iV (gs := gY cI cB b S) (gs' := gY cI cB b S) (As := [.int v10, .int (0 : Int32)]) (rest := []) (wc := (gX cI cB b S.1).flatten) (w1 := (gX cI cB b S.1).flatten) (b := b 0 0) (C := RX7) (ci := 6) (q0 := 0) ⟨hx, hb, hml, hown, hts⟩ (c7_of l hq221) (cwV 2 hts gv_X9_35 rfl rfl rfl hd7_of ⟨Nat.le_of_ble_eq_true rfl, Nat.le_of_ble_eq_true rfl⟩) hK [0, 1] rfl hA hG [2] [0, 1] py_0 py_0 (List.append_nil _) (List.append_nil _) rfl rfl rfl rfl hl.1 rfl (Nat.le_of_ble_eq_true rfl) dL_same_221 ⟨Nat.zero_le _, Nat.zero_le _⟩ (fun H locs hG9 => ?_)
    have hG : gd_W (dC, dI) A s (gY cI cB b S).flatten H locs := hG9
    refine lv_aload_n hx hb dL_same_224 rfl (lv_at hl 2 rfl) ?_
    refine lv_bipush (v := (6 : Int32)) hx hb dL_same_225 (by decide) ?_
    refine lv_iload hx hb dL_same_227 (lv_at hl 10 rfl) ?_
    refine lv_imul hx hb dL_same_229 ?_
    obtain ⟨hi, h⟩ := fo_ck_some h
    refine va_iald hx hb hK hG.1 1 0 rfl rfl hi dL_same_230 ?_
    refine lv_icmp_ne (tgt := 289) hx hb dL_same_231 (by decide) (fun hc => ?_) (fun hc => ?_)
    · have h := fo_if h hc
      refine lv_iconst (v := (0 : Int32)) hx hb dL_same_289 (by decide) ?_
      obtain rfl := Option.some.inj h
      exact gr_z hx hb hr hlocks hK hG rfl rfl dL_same_290
    · have h := fo_it h hc
      refine lv_aload_n hx hb dL_same_234 rfl (lv_at hl 0 rfl) ?_
      refine lv_iload hx hb dL_same_235 (lv_at hl 10 rfl) ?_
      refine lv_iconst (v := (1 : Int32)) hx hb dL_same_237 (by decide) ?_
      obtain ⟨q238, hq238, h⟩ := fo_bd_some h
      refine gq_iV (gs := gY cI cB b S) (gs' := gY cI cB b S) (As := [.int v10, .int (1 : Int32)]) (rest := []) (wc := (gX cI cB b S.1).flatten) (w1 := (gX cI cB b S.1).flatten) (b := b 0 0) (C := RX7) (ci := 6) (q0 := 0) ⟨hx, hb, hml, hown, hts⟩ (c7_of l hq238) (cwV 2 hts gv_X9_35 rfl rfl rfl hd7_of ⟨Nat.le_of_ble_eq_true rfl, Nat.le_of_ble_eq_true rfl⟩) hK [0, 1] rfl hA hG [2] [0, 1] py_0 py_0 (List.append_nil _) (List.append_nil _) rfl rfl rfl rfl hl.1 rfl (Nat.le_of_ble_eq_true rfl) dL_same_238 ⟨Nat.zero_le _, Nat.zero_le _⟩ (fun H locs hG9 => ?_)
      have hG : gd_W (dC, dI) A s (gY cI cB b S).flatten H locs := hG9
      refine lv_aload_n hx hb dL_same_241 rfl (lv_at hl 2 rfl) ?_
      refine lv_bipush (v := (6 : Int32)) hx hb dL_same_242 (by decide) ?_
      refine lv_iload hx hb dL_same_244 (lv_at hl 10 rfl) ?_
      refine lv_imul hx hb dL_same_246 ?_
      refine lv_iconst (v := (1 : Int32)) hx hb dL_same_247 (by decide) ?_
      refine lv_iadd hx hb dL_same_248 ?_
      obtain ⟨hi, h⟩ := fo_ck_some h
      refine va_iald hx hb hK hG.1 1 0 rfl rfl hi dL_same_249 ?_
      refine lv_icmp_ne (tgt := 289) hx hb dL_same_250 (by decide) (fun hc => ?_) (fun hc => ?_)
      · have h := fo_if h hc
        refine lv_iconst (v := (0 : Int32)) hx hb dL_same_289 (by decide) ?_
        obtain rfl := Option.some.inj h
        exact gr_z hx hb hr hlocks hK hG rfl rfl dL_same_290
      · have h := fo_it h hc
        refine lv_aload_n hx hb dL_same_253 rfl (lv_at hl 0 rfl) ?_
        refine lv_iload hx hb dL_same_254 (lv_at hl 10 rfl) ?_
        refine lv_iconst (v := (2 : Int32)) hx hb dL_same_256 (by decide) ?_
        obtain ⟨q257, hq257, h⟩ := fo_bd_some h
        refine gq_iV (gs := gY cI cB b S) (gs' := gY cI cB b S) (As := [.int v10, .int (2 : Int32)]) (rest := []) (wc := (gX cI cB b S.1).flatten) (w1 := (gX cI cB b S.1).flatten) (b := b 0 0) (C := RX7) (ci := 6) (q0 := 0) ⟨hx, hb, hml, hown, hts⟩ (c7_of l hq257) (cwV 2 hts gv_X9_35 rfl rfl rfl hd7_of ⟨Nat.le_of_ble_eq_true rfl, Nat.le_of_ble_eq_true rfl⟩) hK [0, 1] rfl hA hG [2] [0, 1] py_0 py_0 (List.append_nil _) (List.append_nil _) rfl rfl rfl rfl hl.1 rfl (Nat.le_of_ble_eq_true rfl) dL_same_257 ⟨Nat.zero_le _, Nat.zero_le _⟩ (fun H locs hG9 => ?_)
        have hG : gd_W (dC, dI) A s (gY cI cB b S).flatten H locs := hG9
        refine lv_iload hx hb dL_same_260 (lv_at hl 11 rfl) ?_
        refine lv_icmp_ne (tgt := 289) hx hb dL_same_262 (by decide) (fun hc => ?_) (fun hc => ?_)
        · have h := fo_if h hc
          refine lv_iconst (v := (0 : Int32)) hx hb dL_same_289 (by decide) ?_
          obtain rfl := Option.some.inj h
          exact gr_z hx hb hr hlocks hK hG rfl rfl dL_same_290
        · have h := fo_it h hc
          refine lv_aload_n hx hb dL_same_265 rfl (lv_at hl 0 rfl) ?_
          refine lv_iload hx hb dL_same_266 (lv_at hl 10 rfl) ?_
          refine lv_iconst (v := (3 : Int32)) hx hb dL_same_268 (by decide) ?_
          obtain ⟨q269, hq269, h⟩ := fo_bd_some h
          refine gq_iV (gs := gY cI cB b S) (gs' := gY cI cB b S) (As := [.int v10, .int (3 : Int32)]) (rest := []) (wc := (gX cI cB b S.1).flatten) (w1 := (gX cI cB b S.1).flatten) (b := b 0 0) (C := RX7) (ci := 6) (q0 := 0) ⟨hx, hb, hml, hown, hts⟩ (c7_of l hq269) (cwV 2 hts gv_X9_35 rfl rfl rfl hd7_of ⟨Nat.le_of_ble_eq_true rfl, Nat.le_of_ble_eq_true rfl⟩) hK [0, 1] rfl hA hG [2] [0, 1] py_0 py_0 (List.append_nil _) (List.append_nil _) rfl rfl rfl rfl hl.1 rfl (Nat.le_of_ble_eq_true rfl) dL_same_269 ⟨Nat.zero_le _, Nat.zero_le _⟩ (fun H locs hG9 => ?_)
          have hG : gd_W (dC, dI) A s (gY cI cB b S).flatten H locs := hG9
          refine lv_iload hx hb dL_same_272 (lv_at hl 12 rfl) ?_
          refine lv_icmp_ne (tgt := 289) hx hb dL_same_274 (by decide) (fun hc => ?_) (fun hc => ?_)
          · have h := fo_if h hc
            refine lv_iconst (v := (0 : Int32)) hx hb dL_same_289 (by decide) ?_
            obtain rfl := Option.some.inj h
            exact gr_z hx hb hr hlocks hK hG rfl rfl dL_same_290
          · have h := fo_it h hc
            refine lv_aload_n hx hb dL_same_277 rfl (lv_at hl 0 rfl) ?_
            refine lv_iload hx hb dL_same_278 (lv_at hl 10 rfl) ?_
            refine lv_iconst (v := (4 : Int32)) hx hb dL_same_280 (by decide) ?_
            obtain ⟨q281, hq281, h⟩ := fo_bd_some h
            refine gq_iV (gs := gY cI cB b S) (gs' := gY cI cB b S) (As := [.int v10, .int (4 : Int32)]) (rest := []) (wc := (gX cI cB b S.1).flatten) (w1 := (gX cI cB b S.1).flatten) (b := b 0 0) (C := RX7) (ci := 6) (q0 := 0) ⟨hx, hb, hml, hown, hts⟩ (c7_of l hq281) (cwV 2 hts gv_X9_35 rfl rfl rfl hd7_of ⟨Nat.le_of_ble_eq_true rfl, Nat.le_of_ble_eq_true rfl⟩) hK [0, 1] rfl hA hG [2] [0, 1] py_0 py_0 (List.append_nil _) (List.append_nil _) rfl rfl rfl rfl hl.1 rfl (Nat.le_of_ble_eq_true rfl) dL_same_281 ⟨Nat.zero_le _, Nat.zero_le _⟩ (fun H locs hG9 => ?_)
            have hG : gd_W (dC, dI) A s (gY cI cB b S).flatten H locs := hG9
            refine lv_iload hx hb dL_same_284 (lv_at hl 13 rfl) ?_
            refine lv_icmp_eq (tgt := 291) hx hb dL_same_286 (by decide) (fun hc => ?_) (fun hc => ?_)
            · have h := fo_it h hc
              refine lv_iconst (v := (2 : Int32)) hx hb dL_same_291 (by decide) ?_
              refine lv_istore (lv' := [(14, .int (2 : Int32)), (0, .ref (b 0 0)), (1, .ref (b 16 0)), (2, .ref (b 16 1)), (3, .ref (b 16 2)), (4, .ref (b 16 3)), (5, .ref (b 16 4)), (6, .int v6), (7, .int v7), (8, .int v8), (9, .int v9), (10, .int v10), (11, .int v11), (12, .int v12), (13, .int v13)]) hx hb dL_same_292 hl (by decide) rfl (fun ls hl => ?_)
              exact w9_same_L294 C hK hA (fun h => hrec15 h) fo_fu h hG (lv_sub hl [1, 2, 3, 4, 5, 6, 7, 8, 9, 10, 11, 13, 0] rfl)
            · have h := fo_if h hc
              refine lv_iconst (v := (0 : Int32)) hx hb dL_same_289 (by decide) ?_
              obtain rfl := Option.some.inj h
              exact gr_z hx hb hr hlocks hK hG rfl rfl dL_same_290
  · have h := fo_if h hc
    refine lv_aload hx hb dL_same_95 (lv_at hl 4 rfl) ?_
    refine lv_iconst (v := (4 : Int32)) hx hb dL_same_97 (by decide) ?_
    refine lv_iload hx hb dL_same_98 (lv_at hl 10 rfl) ?_
    refine lv_imul hx hb dL_same_100 ?_
    refine lv_iload hx hb dL_same_101 (lv_at hl 14 rfl) ?_
    refine lv_iadd hx hb dL_same_103 ?_
    obtain ⟨hi, h⟩ := fo_ck_some h
    refine va_iald hx hb hK hG.1 3 0 rfl rfl hi dL_same_104 ?_
    refine lv_istore (lv' := [(15, .int ((S.2.1 3) (((4 : Int32) * v10) + v14).toNatClampNeg)), (0, .ref (b 0 0)), (1, .ref (b 16 0)), (2, .ref (b 16 1)), (3, .ref (b 16 2)), (4, .ref (b 16 3)), (5, .ref (b 16 4)), (6, .int v6), (7, .int v7), (8, .int v8), (9, .int v9), (10, .int v10), (11, .int v11), (12, .int v12), (13, .int v13), (14, .int v14)]) hx hb dL_same_105 hl (by decide) rfl (fun ls hl => ?_)
    refine lv_iload hx hb dL_same_107 (lv_at hl 13 rfl) ?_
    refine lv_iload hx hb dL_same_109 (lv_at hl 0 rfl) ?_
    refine lv_iadd hx hb dL_same_111 ?_
    refine lv_istore (lv' := [(12, .int (v12 + ((S.2.1 3) (((4 : Int32) * v10) + v14).toNatClampNeg))), (15, .int ((S.2.1 3) (((4 : Int32) * v10) + v14).toNatClampNeg)), (0, .ref (b 0 0)), (1, .ref (b 16 0)), (2, .ref (b 16 1)), (3, .ref (b 16 2)), (4, .ref (b 16 3)), (5, .ref (b 16 4)), (6, .int v6), (7, .int v7), (8, .int v8), (9, .int v9), (10, .int v10), (11, .int v11), (13, .int v13), (14, .int v14)]) hx hb dL_same_112 hl (by decide) rfl (fun ls hl => ?_)
    refine lv_iload hx hb dL_same_114 (lv_at hl 14 rfl) ?_
    refine lv_aload hx hb dL_same_116 (lv_at hl 6 rfl) ?_
    refine lv_iconst (v := (4 : Int32)) hx hb dL_same_118 (by decide) ?_
    refine lv_iload hx hb dL_same_119 (lv_at hl 15 rfl) ?_
    refine lv_imul hx hb dL_same_121 ?_
    refine lv_iload hx hb dL_same_122 (lv_at hl 12 rfl) ?_
    refine lv_iadd hx hb dL_same_124 ?_
    obtain ⟨hi, h⟩ := fo_ck_some h
    refine va_iald hx hb hK hG.1 3 0 rfl rfl hi dL_same_125 ?_
    refine lv_iadd hx hb dL_same_126 ?_
    refine lv_istore (lv' := [(13, .int (v13 + ((S.2.1 3) (((4 : Int32) * v14) + v10).toNatClampNeg))), (12, .int (v12 + ((S.2.1 3) (((4 : Int32) * v10) + v14).toNatClampNeg))), (15, .int ((S.2.1 3) (((4 : Int32) * v10) + v14).toNatClampNeg)), (0, .ref (b 0 0)), (1, .ref (b 16 0)), (2, .ref (b 16 1)), (3, .ref (b 16 2)), (4, .ref (b 16 3)), (5, .ref (b 16 4)), (6, .int v6), (7, .int v7), (8, .int v8), (9, .int v9), (10, .int v10), (11, .int v11), (14, .int v14)]) hx hb dL_same_127 hl (by decide) rfl (fun ls hl => ?_)
    refine lv_iload hx hb dL_same_129 (lv_at hl 10 rfl) ?_
    refine lv_iload hx hb dL_same_131 (lv_at hl 2 rfl) ?_
    refine lv_if_le (tgt := 140) hx hb dL_same_133 (by decide) (fun hc => ?_) (fun hc => ?_)
    · have h := fo_it h hc
      refine lv_iconst (v := (0 : Int32)) hx hb dL_same_140 (by decide) ?_
      exact w9_same_b141 C hK hA (fun h => hrec15 h) (fun h => hrec86 h) h hG (lv_sub hl [3, 4, 5, 6, 7, 8, 9, 11, 12, 13, 14, 1, 0, 15, 2] rfl)
    · have h := fo_if h hc
      refine lv_iconst (v := (1 : Int32)) hx hb dL_same_136 (by decide) ?_
      refine lv_goto (tgt := 141) hx hb dL_same_137 (by decide) ?_
      exact w9_same_b141 C hK hA (fun h => hrec15 h) (fun h => hrec86 h) h hG (lv_sub hl [3, 4, 5, 6, 7, 8, 9, 11, 12, 13, 14, 1, 0, 15, 2] rfl)
set_option maxRecDepth 100000 in
set_option maxHeartbeats 4000000 in
theorem w9_same_L86 (C : cx_M p s m args meth c RL cL_same (some .boolean) 16) (hK : va_K (dC, dI) vwCl [(cI, .int), (cB, .object "DiceRoads$Board")] s) (hA : ∀ q, s.heap.size ≤ q → A q) {b : Nat → Nat → Nat} {q : (Int32 × ys_T)} {rec15 : Int32 → Int32 → Int32 → Int32 → Int32 → ys_T → Option (Int32 × ys_T)} (hrec15 : ∀ {v6 : Int32} {v7 : Int32} {v8 : Int32} {v9 : Int32} {v10 : Int32} {S : ys_T} , rec15 v6 v7 v8 v9 v10 S = some q → ∀ {H : Heap} {locs : List Loc} {ls : Array Slot}, gd_W (dC, dI) A s (gY cI cB b S).flatten H locs → lv_has ls 16 [(0, .ref (b 0 0)), (1, .ref (b 16 0)), (2, .ref (b 16 1)), (3, .ref (b 16 2)), (4, .ref (b 16 3)), (5, .ref (b 16 4)), (6, .int v6), (7, .int v7), (8, .int v8), (9, .int v9), (10, .int v10)] → W p l e RM9_same s m args below meth c H locs 0 0 (MQ below (qi_W (dC, dI) [(cI, .int), (cB, .object "DiceRoads$Board")] A q.1 (gY cI cB b q.2).flatten) args s 0 0 A) (F0 m 15 ls [])) : ∀ (n : Nat) {v6 : Int32} {v7 : Int32} {v8 : Int32} {v9 : Int32} {v10 : Int32} {v11 : Int32} {v12 : Int32} {v13 : Int32} {v14 : Int32} {S : ys_T}, f9_same_L86 rec15 n v6 v7 v8 v9 v10 v11 v12 v13 v14 S = some q → ∀ {H : Heap} {locs : List Loc} {ls : Array Slot}, gd_W (dC, dI) A s (gY cI cB b S).flatten H locs → lv_has ls 16 [(0, .ref (b 0 0)), (1, .ref (b 16 0)), (2, .ref (b 16 1)), (3, .ref (b 16 2)), (4, .ref (b 16 3)), (5, .ref (b 16 4)), (6, .int v6), (7, .int v7), (8, .int v8), (9, .int v9), (10, .int v10), (11, .int v11), (12, .int v12), (13, .int v13), (14, .int v14)] → W p l e RM9_same s m args below meth c H locs 0 0 (MQ below (qi_W (dC, dI) [(cI, .int), (cB, .object "DiceRoads$Board")] A q.1 (gY cI cB b q.2).flatten) args s 0 0 A) (F0 m 86 ls []) := by
  intro n
  induction n with
  | zero => intro _ _ _ _ _ _ _ _ _ _ h; exact nomatch h
  | succ n ih => intro v6 v7 v8 v9 v10 v11 v12 v13 v14 S h H locs ls hG hl; exact w9_same_b86 C hK hA (fun h => hrec15 h) (fun h => ih h) (show f9_same_b86 rec15 (f9_same_L86 rec15 n) v6 v7 v8 v9 v10 v11 v12 v13 v14 S = some q from h) hG hl
set_option maxRecDepth 100000 in
set_option maxHeartbeats 4000000 in
theorem w9_same_b74 (C : cx_M p s m args meth c RL cL_same (some .boolean) 16) (hK : va_K (dC, dI) vwCl [(cI, .int), (cB, .object "DiceRoads$Board")] s) (hA : ∀ q, s.heap.size ≤ q → A q) {b : Nat → Nat → Nat} {q : (Int32 × ys_T)} {rec15 : Int32 → Int32 → Int32 → Int32 → Int32 → ys_T → Option (Int32 × ys_T)} (hrec15 : ∀ {v6 : Int32} {v7 : Int32} {v8 : Int32} {v9 : Int32} {v10 : Int32} {S : ys_T} , rec15 v6 v7 v8 v9 v10 S = some q → ∀ {H : Heap} {locs : List Loc} {ls : Array Slot}, gd_W (dC, dI) A s (gY cI cB b S).flatten H locs → lv_has ls 16 [(0, .ref (b 0 0)), (1, .ref (b 16 0)), (2, .ref (b 16 1)), (3, .ref (b 16 2)), (4, .ref (b 16 3)), (5, .ref (b 16 4)), (6, .int v6), (7, .int v7), (8, .int v8), (9, .int v9), (10, .int v10)] → W p l e RM9_same s m args below meth c H locs 0 0 (MQ below (qi_W (dC, dI) [(cI, .int), (cB, .object "DiceRoads$Board")] A q.1 (gY cI cB b q.2).flatten) args s 0 0 A) (F0 m 15 ls [])) {rec36 : Int32 → Int32 → Int32 → Int32 → Int32 → Int32 → Int32 → Int32 → Int32 → ys_T → Option (Int32 × ys_T)} (hrec36 : ∀ {v6 : Int32} {v7 : Int32} {v8 : Int32} {v9 : Int32} {v10 : Int32} {v11 : Int32} {v12 : Int32} {v13 : Int32} {v14 : Int32} {S : ys_T} , rec36 v6 v7 v8 v9 v10 v11 v12 v13 v14 S = some q → ∀ {H : Heap} {locs : List Loc} {ls : Array Slot}, gd_W (dC, dI) A s (gY cI cB b S).flatten H locs → lv_has ls 16 [(0, .ref (b 0 0)), (1, .ref (b 16 0)), (2, .ref (b 16 1)), (3, .ref (b 16 2)), (4, .ref (b 16 3)), (5, .ref (b 16 4)), (6, .int v6), (7, .int v7), (8, .int v8), (9, .int v9), (10, .int v10), (11, .int v11), (12, .int v12), (13, .int v13), (14, .int v14)] → W p l e RM9_same s m args below meth c H locs 0 0 (MQ below (qi_W (dC, dI) [(cI, .int), (cB, .object "DiceRoads$Board")] A q.1 (gY cI cB b q.2).flatten) args s 0 0 A) (F0 m 36 ls [])) {v6 : Int32} {v7 : Int32} {v8 : Int32} {v9 : Int32} {v10 : Int32} {v12 : Int32} {v13 : Int32} {v14 : Int32} {t0 : Int32} {t1 : Int32} {S : ys_T} (h : f9_same_b74 rec15 rec36 v6 v7 v8 v9 v10 v12 v13 v14 t0 t1 S = some q) {H : Heap} {locs : List Loc} {ls : Array Slot} (hG : gd_W (dC, dI) A s (gY cI cB b S).flatten H locs) (hl : lv_has ls 16 [(0, .ref (b 0 0)), (1, .ref (b 16 0)), (2, .ref (b 16 1)), (3, .ref (b 16 2)), (4, .ref (b 16 3)), (5, .ref (b 16 4)), (6, .int v6), (7, .int v7), (8, .int v8), (9, .int v9), (10, .int v10), (12, .int v12), (13, .int v13), (14, .int v14)]) : W p l e RM9_same s m args below meth c H locs 0 0 (MQ below (qi_W (dC, dI) [(cI, .int), (cB, .object "DiceRoads$Board")] A q.1 (gY cI cB b q.2).flatten) args s 0 0 A) (F0 m 74 ls [.int t1, .int t0]) := by
  unfold f9_same_b74 at h
  obtain ⟨hx, hb, hr, hts, hown, hlocks, hml⟩ := id C
  refine lv_ior hx hb dL_same_74 ?_
  refine lv_istore (lv' := [(11, .int (t0 ||| t1)), (0, .ref (b 0 0)), (1, .ref (b 16 0)), (2, .ref (b 16 1)), (3, .ref (b 16 2)), (4, .ref (b 16 3)), (5, .ref (b 16 4)), (6, .int v6), (7, .int v7), (8, .int v8), (9, .int v9), (10, .int v10), (12, .int v12), (13, .int v13), (14, .int v14)]) hx hb dL_same_75 hl (by decide) rfl (fun ls hl => ?_)
  refine lv_iinc (v := (v14 + (1 : Int32))) (lv' := [(14, .int (v14 + (1 : Int32))), (11, .int (t0 ||| t1)), (0, .ref (b 0 0)), (1, .ref (b 16 0)), (2, .ref (b 16 1)), (3, .ref (b 16 2)), (4, .ref (b 16 3)), (5, .ref (b 16 4)), (6, .int v6), (7, .int v7), (8, .int v8), (9, .int v9), (10, .int v10), (12, .int v12), (13, .int v13)]) hx hb dL_same_77 hl (k := 14) rfl rfl (by decide) rfl (fun ls hl => ?_)
  refine lv_goto (tgt := 36) hx hb dL_same_80 (by decide) ?_
  exact hrec36 h hG (lv_sub hl [2, 3, 4, 5, 6, 7, 8, 9, 10, 11, 12, 1, 13, 14, 0] rfl)
set_option maxRecDepth 100000 in
set_option maxHeartbeats 4000000 in
theorem w9_same_b66 (C : cx_M p s m args meth c RL cL_same (some .boolean) 16) (hK : va_K (dC, dI) vwCl [(cI, .int), (cB, .object "DiceRoads$Board")] s) (hA : ∀ q, s.heap.size ≤ q → A q) {b : Nat → Nat → Nat} {q : (Int32 × ys_T)} {rec15 : Int32 → Int32 → Int32 → Int32 → Int32 → ys_T → Option (Int32 × ys_T)} (hrec15 : ∀ {v6 : Int32} {v7 : Int32} {v8 : Int32} {v9 : Int32} {v10 : Int32} {S : ys_T} , rec15 v6 v7 v8 v9 v10 S = some q → ∀ {H : Heap} {locs : List Loc} {ls : Array Slot}, gd_W (dC, dI) A s (gY cI cB b S).flatten H locs → lv_has ls 16 [(0, .ref (b 0 0)), (1, .ref (b 16 0)), (2, .ref (b 16 1)), (3, .ref (b 16 2)), (4, .ref (b 16 3)), (5, .ref (b 16 4)), (6, .int v6), (7, .int v7), (8, .int v8), (9, .int v9), (10, .int v10)] → W p l e RM9_same s m args below meth c H locs 0 0 (MQ below (qi_W (dC, dI) [(cI, .int), (cB, .object "DiceRoads$Board")] A q.1 (gY cI cB b q.2).flatten) args s 0 0 A) (F0 m 15 ls [])) {rec36 : Int32 → Int32 → Int32 → Int32 → Int32 → Int32 → Int32 → Int32 → Int32 → ys_T → Option (Int32 × ys_T)} (hrec36 : ∀ {v6 : Int32} {v7 : Int32} {v8 : Int32} {v9 : Int32} {v10 : Int32} {v11 : Int32} {v12 : Int32} {v13 : Int32} {v14 : Int32} {S : ys_T} , rec36 v6 v7 v8 v9 v10 v11 v12 v13 v14 S = some q → ∀ {H : Heap} {locs : List Loc} {ls : Array Slot}, gd_W (dC, dI) A s (gY cI cB b S).flatten H locs → lv_has ls 16 [(0, .ref (b 0 0)), (1, .ref (b 16 0)), (2, .ref (b 16 1)), (3, .ref (b 16 2)), (4, .ref (b 16 3)), (5, .ref (b 16 4)), (6, .int v6), (7, .int v7), (8, .int v8), (9, .int v9), (10, .int v10), (11, .int v11), (12, .int v12), (13, .int v13), (14, .int v14)] → W p l e RM9_same s m args below meth c H locs 0 0 (MQ below (qi_W (dC, dI) [(cI, .int), (cB, .object "DiceRoads$Board")] A q.1 (gY cI cB b q.2).flatten) args s 0 0 A) (F0 m 36 ls [])) {v6 : Int32} {v7 : Int32} {v8 : Int32} {v9 : Int32} {v10 : Int32} {v12 : Int32} {v13 : Int32} {v14 : Int32} {t0 : Int32} {S : ys_T} (h : f9_same_b66 rec15 rec36 v6 v7 v8 v9 v10 v12 v13 v14 t0 S = some q) {H : Heap} {locs : List Loc} {ls : Array Slot} (hG : gd_W (dC, dI) A s (gY cI cB b S).flatten H locs) (hl : lv_has ls 16 [(0, .ref (b 0 0)), (1, .ref (b 16 0)), (2, .ref (b 16 1)), (3, .ref (b 16 2)), (4, .ref (b 16 3)), (5, .ref (b 16 4)), (6, .int v6), (7, .int v7), (8, .int v8), (9, .int v9), (10, .int v10), (12, .int v12), (13, .int v13), (14, .int v14)]) : W p l e RM9_same s m args below meth c H locs 0 0 (MQ below (qi_W (dC, dI) [(cI, .int), (cB, .object "DiceRoads$Board")] A q.1 (gY cI cB b q.2).flatten) args s 0 0 A) (F0 m 66 ls [.int t0]) := by
  unfold f9_same_b66 at h
  obtain ⟨hx, hb, hr, hts, hown, hlocks, hml⟩ := id C
  refine lv_iconst (v := (1 : Int32)) hx hb dL_same_66 (by decide) ?_
  refine lv_iload hx hb dL_same_67 (lv_at hl 13 rfl) ?_
  refine lv_ishl hx hb dL_same_69 ?_
  refine lv_goto (tgt := 74) hx hb dL_same_70 (by decide) ?_
  exact w9_same_b74 C hK hA (fun h => hrec15 h) (fun h => hrec36 h) h hG (lv_sub hl [0, 1, 2, 3, 4, 5, 6, 7, 8, 9, 10, 11, 12, 13] rfl)
set_option maxRecDepth 100000 in
set_option maxHeartbeats 4000000 in
theorem w9_same_b36 (C : cx_M p s m args meth c RL cL_same (some .boolean) 16) (hK : va_K (dC, dI) vwCl [(cI, .int), (cB, .object "DiceRoads$Board")] s) (hA : ∀ q, s.heap.size ≤ q → A q) {b : Nat → Nat → Nat} {q : (Int32 × ys_T)} {rec15 : Int32 → Int32 → Int32 → Int32 → Int32 → ys_T → Option (Int32 × ys_T)} (hrec15 : ∀ {v6 : Int32} {v7 : Int32} {v8 : Int32} {v9 : Int32} {v10 : Int32} {S : ys_T} , rec15 v6 v7 v8 v9 v10 S = some q → ∀ {H : Heap} {locs : List Loc} {ls : Array Slot}, gd_W (dC, dI) A s (gY cI cB b S).flatten H locs → lv_has ls 16 [(0, .ref (b 0 0)), (1, .ref (b 16 0)), (2, .ref (b 16 1)), (3, .ref (b 16 2)), (4, .ref (b 16 3)), (5, .ref (b 16 4)), (6, .int v6), (7, .int v7), (8, .int v8), (9, .int v9), (10, .int v10)] → W p l e RM9_same s m args below meth c H locs 0 0 (MQ below (qi_W (dC, dI) [(cI, .int), (cB, .object "DiceRoads$Board")] A q.1 (gY cI cB b q.2).flatten) args s 0 0 A) (F0 m 15 ls [])) {rec36 : Int32 → Int32 → Int32 → Int32 → Int32 → Int32 → Int32 → Int32 → Int32 → ys_T → Option (Int32 × ys_T)} (hrec36 : ∀ {v6 : Int32} {v7 : Int32} {v8 : Int32} {v9 : Int32} {v10 : Int32} {v11 : Int32} {v12 : Int32} {v13 : Int32} {v14 : Int32} {S : ys_T} , rec36 v6 v7 v8 v9 v10 v11 v12 v13 v14 S = some q → ∀ {H : Heap} {locs : List Loc} {ls : Array Slot}, gd_W (dC, dI) A s (gY cI cB b S).flatten H locs → lv_has ls 16 [(0, .ref (b 0 0)), (1, .ref (b 16 0)), (2, .ref (b 16 1)), (3, .ref (b 16 2)), (4, .ref (b 16 3)), (5, .ref (b 16 4)), (6, .int v6), (7, .int v7), (8, .int v8), (9, .int v9), (10, .int v10), (11, .int v11), (12, .int v12), (13, .int v13), (14, .int v14)] → W p l e RM9_same s m args below meth c H locs 0 0 (MQ below (qi_W (dC, dI) [(cI, .int), (cB, .object "DiceRoads$Board")] A q.1 (gY cI cB b q.2).flatten) args s 0 0 A) (F0 m 36 ls [])) {v6 : Int32} {v7 : Int32} {v8 : Int32} {v9 : Int32} {v10 : Int32} {v11 : Int32} {v12 : Int32} {v13 : Int32} {v14 : Int32} {S : ys_T} (h : f9_same_b36 rec15 rec36 v6 v7 v8 v9 v10 v11 v12 v13 v14 S = some q) {H : Heap} {locs : List Loc} {ls : Array Slot} (hG : gd_W (dC, dI) A s (gY cI cB b S).flatten H locs) (hl : lv_has ls 16 [(0, .ref (b 0 0)), (1, .ref (b 16 0)), (2, .ref (b 16 1)), (3, .ref (b 16 2)), (4, .ref (b 16 3)), (5, .ref (b 16 4)), (6, .int v6), (7, .int v7), (8, .int v8), (9, .int v9), (10, .int v10), (11, .int v11), (12, .int v12), (13, .int v13), (14, .int v14)]) : W p l e RM9_same s m args below meth c H locs 0 0 (MQ below (qi_W (dC, dI) [(cI, .int), (cB, .object "DiceRoads$Board")] A q.1 (gY cI cB b q.2).flatten) args s 0 0 A) (F0 m 36 ls []) := by
  unfold f9_same_b36 at h
  obtain ⟨hx, hb, hr, hts, hown, hlocks, hml⟩ := id C
  refine lv_iload hx hb dL_same_36 (lv_at hl 14 rfl) ?_
  refine lv_bipush (v := (20 : Int32)) hx hb dL_same_38 (by decide) ?_
  refine lv_icmp_ge (tgt := 83) hx hb dL_same_40 (by decide) (fun hc => ?_) (fun hc => ?_)
  · have h := fo_it h hc
    refine lv_iconst (v := (0 : Int32)) hx hb dL_same_83 (by decide) ?_
    refine lv_istore (lv' := [(14, .int (0 : Int32)), (0, .ref (b 0 0)), (1, .ref (b 16 0)), (2, .ref (b 16 1)), (3, .ref (b 16 2)), (4, .ref (b 16 3)), (5, .ref (b 16 4)), (6, .int v6), (7, .int v7), (8, .int v8), (9, .int v9), (10, .int v10), (11, .int v11), (12, .int v12), (13, .int v13)]) hx hb dL_same_84 hl (by decide) rfl (fun ls hl => ?_)
    exact w9_same_L86 C hK hA (fun h => hrec15 h) fo_fu h hG (lv_sub hl [1, 2, 3, 4, 5, 6, 7, 8, 9, 10, 11, 12, 13, 14, 0] rfl)
  · have h := fo_if h hc
    refine lv_iload hx hb dL_same_43 (lv_at hl 11 rfl) ?_
    refine lv_aload_n hx hb dL_same_45 rfl (lv_at hl 3 rfl) ?_
    refine lv_iload hx hb dL_same_46 (lv_at hl 14 rfl) ?_
    obtain ⟨hi, h⟩ := fo_ck_some h
    refine va_iald hx hb hK hG.1 2 0 rfl rfl hi dL_same_48 ?_
    refine lv_iload hx hb dL_same_49 (lv_at hl 10 rfl) ?_
    refine lv_icmp_eq (tgt := 66) hx hb dL_same_51 (by decide) (fun hc => ?_) (fun hc => ?_)
    · have h := fo_it h hc
      exact w9_same_b66 C hK hA (fun h => hrec15 h) (fun h => hrec36 h) h hG (lv_sub hl [0, 1, 2, 3, 4, 5, 6, 7, 8, 9, 10, 12, 13, 14] rfl)
    · have h := fo_if h hc
      refine lv_aload_n hx hb dL_same_54 rfl (lv_at hl 3 rfl) ?_
      refine lv_bipush (v := (20 : Int32)) hx hb dL_same_55 (by decide) ?_
      refine lv_iload hx hb dL_same_57 (lv_at hl 14 rfl) ?_
      refine lv_iadd hx hb dL_same_59 ?_
      obtain ⟨hi, h⟩ := fo_ck_some h
      refine va_iald hx hb hK hG.1 2 0 rfl rfl hi dL_same_60 ?_
      refine lv_iload hx hb dL_same_61 (lv_at hl 10 rfl) ?_
      refine lv_icmp_ne (tgt := 73) hx hb dL_same_63 (by decide) (fun hc => ?_) (fun hc => ?_)
      · have h := fo_if h hc
        refine lv_iconst (v := (0 : Int32)) hx hb dL_same_73 (by decide) ?_
        exact w9_same_b74 C hK hA (fun h => hrec15 h) (fun h => hrec36 h) h hG (lv_sub hl [0, 1, 2, 3, 4, 5, 6, 7, 8, 9, 10, 12, 13, 14] rfl)
      · have h := fo_it h hc
        exact w9_same_b66 C hK hA (fun h => hrec15 h) (fun h => hrec36 h) h hG (lv_sub hl [0, 1, 2, 3, 4, 5, 6, 7, 8, 9, 10, 12, 13, 14] rfl)
set_option maxRecDepth 100000 in
set_option maxHeartbeats 4000000 in
theorem w9_same_L36 (C : cx_M p s m args meth c RL cL_same (some .boolean) 16) (hK : va_K (dC, dI) vwCl [(cI, .int), (cB, .object "DiceRoads$Board")] s) (hA : ∀ q, s.heap.size ≤ q → A q) {b : Nat → Nat → Nat} {q : (Int32 × ys_T)} {rec15 : Int32 → Int32 → Int32 → Int32 → Int32 → ys_T → Option (Int32 × ys_T)} (hrec15 : ∀ {v6 : Int32} {v7 : Int32} {v8 : Int32} {v9 : Int32} {v10 : Int32} {S : ys_T} , rec15 v6 v7 v8 v9 v10 S = some q → ∀ {H : Heap} {locs : List Loc} {ls : Array Slot}, gd_W (dC, dI) A s (gY cI cB b S).flatten H locs → lv_has ls 16 [(0, .ref (b 0 0)), (1, .ref (b 16 0)), (2, .ref (b 16 1)), (3, .ref (b 16 2)), (4, .ref (b 16 3)), (5, .ref (b 16 4)), (6, .int v6), (7, .int v7), (8, .int v8), (9, .int v9), (10, .int v10)] → W p l e RM9_same s m args below meth c H locs 0 0 (MQ below (qi_W (dC, dI) [(cI, .int), (cB, .object "DiceRoads$Board")] A q.1 (gY cI cB b q.2).flatten) args s 0 0 A) (F0 m 15 ls [])) : ∀ (n : Nat) {v6 : Int32} {v7 : Int32} {v8 : Int32} {v9 : Int32} {v10 : Int32} {v11 : Int32} {v12 : Int32} {v13 : Int32} {v14 : Int32} {S : ys_T}, f9_same_L36 rec15 n v6 v7 v8 v9 v10 v11 v12 v13 v14 S = some q → ∀ {H : Heap} {locs : List Loc} {ls : Array Slot}, gd_W (dC, dI) A s (gY cI cB b S).flatten H locs → lv_has ls 16 [(0, .ref (b 0 0)), (1, .ref (b 16 0)), (2, .ref (b 16 1)), (3, .ref (b 16 2)), (4, .ref (b 16 3)), (5, .ref (b 16 4)), (6, .int v6), (7, .int v7), (8, .int v8), (9, .int v9), (10, .int v10), (11, .int v11), (12, .int v12), (13, .int v13), (14, .int v14)] → W p l e RM9_same s m args below meth c H locs 0 0 (MQ below (qi_W (dC, dI) [(cI, .int), (cB, .object "DiceRoads$Board")] A q.1 (gY cI cB b q.2).flatten) args s 0 0 A) (F0 m 36 ls []) := by
  intro n
  induction n with
  | zero => intro _ _ _ _ _ _ _ _ _ _ h; exact nomatch h
  | succ n ih => intro v6 v7 v8 v9 v10 v11 v12 v13 v14 S h H locs ls hG hl; exact w9_same_b36 C hK hA (fun h => hrec15 h) (fun h => ih h) (show f9_same_b36 rec15 (f9_same_L36 rec15 n) v6 v7 v8 v9 v10 v11 v12 v13 v14 S = some q from h) hG hl
set_option maxRecDepth 100000 in
set_option maxHeartbeats 4000000 in
theorem w9_same_b15 (C : cx_M p s m args meth c RL cL_same (some .boolean) 16) (hK : va_K (dC, dI) vwCl [(cI, .int), (cB, .object "DiceRoads$Board")] s) (hA : ∀ q, s.heap.size ≤ q → A q) {b : Nat → Nat → Nat} {q : (Int32 × ys_T)} {rec15 : Int32 → Int32 → Int32 → Int32 → Int32 → ys_T → Option (Int32 × ys_T)} (hrec15 : ∀ {v6 : Int32} {v7 : Int32} {v8 : Int32} {v9 : Int32} {v10 : Int32} {S : ys_T} , rec15 v6 v7 v8 v9 v10 S = some q → ∀ {H : Heap} {locs : List Loc} {ls : Array Slot}, gd_W (dC, dI) A s (gY cI cB b S).flatten H locs → lv_has ls 16 [(0, .ref (b 0 0)), (1, .ref (b 16 0)), (2, .ref (b 16 1)), (3, .ref (b 16 2)), (4, .ref (b 16 3)), (5, .ref (b 16 4)), (6, .int v6), (7, .int v7), (8, .int v8), (9, .int v9), (10, .int v10)] → W p l e RM9_same s m args below meth c H locs 0 0 (MQ below (qi_W (dC, dI) [(cI, .int), (cB, .object "DiceRoads$Board")] A q.1 (gY cI cB b q.2).flatten) args s 0 0 A) (F0 m 15 ls [])) {v6 : Int32} {v7 : Int32} {v8 : Int32} {v9 : Int32} {v10 : Int32} {S : ys_T} (h : f9_same_b15 rec15 v6 v7 v8 v9 v10 S = some q) {H : Heap} {locs : List Loc} {ls : Array Slot} (hG : gd_W (dC, dI) A s (gY cI cB b S).flatten H locs) (hl : lv_has ls 16 [(0, .ref (b 0 0)), (1, .ref (b 16 0)), (2, .ref (b 16 1)), (3, .ref (b 16 2)), (4, .ref (b 16 3)), (5, .ref (b 16 4)), (6, .int v6), (7, .int v7), (8, .int v8), (9, .int v9), (10, .int v10)]) : W p l e RM9_same s m args below meth c H locs 0 0 (MQ below (qi_W (dC, dI) [(cI, .int), (cB, .object "DiceRoads$Board")] A q.1 (gY cI cB b q.2).flatten) args s 0 0 A) (F0 m 15 ls []) := by
  unfold f9_same_b15 at h
  obtain ⟨hx, hb, hr, hts, hown, hlocks, hml⟩ := id C
  refine lv_iload hx hb dL_same_15 (lv_at hl 10 rfl) ?_
  refine lv_aload_n hx hb dL_same_17 rfl (lv_at hl 1 rfl) ?_
  refine lv_bipush (v := (6 : Int32)) hx hb dL_same_18 (by decide) ?_
  obtain ⟨hi, h⟩ := fo_ck_some h
  refine va_iald hx hb hK hG.1 0 0 rfl rfl hi dL_same_20 ?_
  refine lv_icmp_ge (tgt := 357) hx hb dL_same_21 (by decide) (fun hc => ?_) (fun hc => ?_)
  · have h := fo_it h hc
    refine lv_iconst (v := (0 : Int32)) hx hb dL_same_357 (by decide) ?_
    refine lv_istore (lv' := [(10, .int (0 : Int32)), (0, .ref (b 0 0)), (1, .ref (b 16 0)), (2, .ref (b 16 1)), (3, .ref (b 16 2)), (4, .ref (b 16 3)), (5, .ref (b 16 4)), (6, .int v6), (7, .int v7), (8, .int v8), (9, .int v9)]) hx hb dL_same_358 hl (by decide) rfl (fun ls hl => ?_)
    exact w9_same_L360 C hK hA fo_fu h hG (lv_sub hl [1, 2, 3, 4, 7, 8, 9, 10, 0] rfl)
  · have h := fo_if h hc
    refine lv_iconst (v := (0 : Int32)) hx hb dL_same_24 (by decide) ?_
    refine lv_istore (lv' := [(11, .int (0 : Int32)), (0, .ref (b 0 0)), (1, .ref (b 16 0)), (2, .ref (b 16 1)), (3, .ref (b 16 2)), (4, .ref (b 16 3)), (5, .ref (b 16 4)), (6, .int v6), (7, .int v7), (8, .int v8), (9, .int v9), (10, .int v10)]) hx hb dL_same_25 hl (by decide) rfl (fun ls hl => ?_)
    refine lv_iconst (v := (0 : Int32)) hx hb dL_same_27 (by decide) ?_
    refine lv_istore (lv' := [(12, .int (0 : Int32)), (11, .int (0 : Int32)), (0, .ref (b 0 0)), (1, .ref (b 16 0)), (2, .ref (b 16 1)), (3, .ref (b 16 2)), (4, .ref (b 16 3)), (5, .ref (b 16 4)), (6, .int v6), (7, .int v7), (8, .int v8), (9, .int v9), (10, .int v10)]) hx hb dL_same_28 hl (by decide) rfl (fun ls hl => ?_)
    refine lv_iconst (v := (0 : Int32)) hx hb dL_same_30 (by decide) ?_
    refine lv_istore (lv' := [(13, .int (0 : Int32)), (12, .int (0 : Int32)), (11, .int (0 : Int32)), (0, .ref (b 0 0)), (1, .ref (b 16 0)), (2, .ref (b 16 1)), (3, .ref (b 16 2)), (4, .ref (b 16 3)), (5, .ref (b 16 4)), (6, .int v6), (7, .int v7), (8, .int v8), (9, .int v9), (10, .int v10)]) hx hb dL_same_31 hl (by decide) rfl (fun ls hl => ?_)
    refine lv_iconst (v := (0 : Int32)) hx hb dL_same_33 (by decide) ?_
    refine lv_istore (lv' := [(14, .int (0 : Int32)), (13, .int (0 : Int32)), (12, .int (0 : Int32)), (11, .int (0 : Int32)), (0, .ref (b 0 0)), (1, .ref (b 16 0)), (2, .ref (b 16 1)), (3, .ref (b 16 2)), (4, .ref (b 16 3)), (5, .ref (b 16 4)), (6, .int v6), (7, .int v7), (8, .int v8), (9, .int v9), (10, .int v10)]) hx hb dL_same_34 hl (by decide) rfl (fun ls hl => ?_)
    exact w9_same_L36 C hK hA (fun h => hrec15 h) fo_fu h hG (lv_sub hl [4, 5, 6, 7, 8, 9, 10, 11, 12, 13, 14, 3, 2, 1, 0] rfl)
set_option maxRecDepth 100000 in
set_option maxHeartbeats 4000000 in
theorem w9_same_L15 (C : cx_M p s m args meth c RL cL_same (some .boolean) 16) (hK : va_K (dC, dI) vwCl [(cI, .int), (cB, .object "DiceRoads$Board")] s) (hA : ∀ q, s.heap.size ≤ q → A q) {b : Nat → Nat → Nat} {q : (Int32 × ys_T)} : ∀ (n : Nat) {v6 : Int32} {v7 : Int32} {v8 : Int32} {v9 : Int32} {v10 : Int32} {S : ys_T}, f9_same_L15 n v6 v7 v8 v9 v10 S = some q → ∀ {H : Heap} {locs : List Loc} {ls : Array Slot}, gd_W (dC, dI) A s (gY cI cB b S).flatten H locs → lv_has ls 16 [(0, .ref (b 0 0)), (1, .ref (b 16 0)), (2, .ref (b 16 1)), (3, .ref (b 16 2)), (4, .ref (b 16 3)), (5, .ref (b 16 4)), (6, .int v6), (7, .int v7), (8, .int v8), (9, .int v9), (10, .int v10)] → W p l e RM9_same s m args below meth c H locs 0 0 (MQ below (qi_W (dC, dI) [(cI, .int), (cB, .object "DiceRoads$Board")] A q.1 (gY cI cB b q.2).flatten) args s 0 0 A) (F0 m 15 ls []) := by
  intro n
  induction n with
  | zero => intro _ _ _ _ _ _ h; exact nomatch h
  | succ n ih => intro v6 v7 v8 v9 v10 S h H locs ls hG hl; exact w9_same_b15 C hK hA (fun h => ih h) (show f9_same_b15 (f9_same_L15 n) v6 v7 v8 v9 v10 S = some q from h) hG hl
set_option maxRecDepth 100000 in
set_option maxHeartbeats 4000000 in
theorem w9_same (C : cx_M p s m args meth c RL cL_same (some .boolean) 16) (hK : va_K (dC, dI) vwCl [(cI, .int), (cB, .object "DiceRoads$Board")] s) (hA : ∀ q, s.heap.size ≤ q → A q) {b : Nat → Nat → Nat} {q : (Int32 × ys_T)} {S : ys_T} (h : f9_same S = some q) {H : Heap} {locs : List Loc} {ls : Array Slot} (hG : gd_W (dC, dI) A s (gY cI cB b S).flatten H locs) (hl : lv_has ls 16 [(0, .ref (b 0 0)), (1, .ref (b 16 0)), (2, .ref (b 16 1)), (3, .ref (b 16 2)), (4, .ref (b 16 3)), (5, .ref (b 16 4))]) : W p l e RM9_same s m args below meth c H locs 0 0 (MQ below (qi_W (dC, dI) [(cI, .int), (cB, .object "DiceRoads$Board")] A q.1 (gY cI cB b q.2).flatten) args s 0 0 A) (F0 m 0 ls []) := by
  unfold f9_same at h
  obtain ⟨hx, hb, hr, hts, hown, hlocks, hml⟩ := id C
  refine lv_iconst (v := (0 : Int32)) hx hb dL_same_0 (by decide) ?_
  refine lv_istore (lv' := [(6, .int (0 : Int32)), (0, .ref (b 0 0)), (1, .ref (b 16 0)), (2, .ref (b 16 1)), (3, .ref (b 16 2)), (4, .ref (b 16 3)), (5, .ref (b 16 4))]) hx hb dL_same_1 hl (by decide) rfl (fun ls hl => ?_)
  refine lv_iconst (v := (0 : Int32)) hx hb dL_same_3 (by decide) ?_
  refine lv_istore (lv' := [(7, .int (0 : Int32)), (6, .int (0 : Int32)), (0, .ref (b 0 0)), (1, .ref (b 16 0)), (2, .ref (b 16 1)), (3, .ref (b 16 2)), (4, .ref (b 16 3)), (5, .ref (b 16 4))]) hx hb dL_same_4 hl (by decide) rfl (fun ls hl => ?_)
  refine lv_iconst (v := (0 : Int32)) hx hb dL_same_6 (by decide) ?_
  refine lv_istore (lv' := [(8, .int (0 : Int32)), (7, .int (0 : Int32)), (6, .int (0 : Int32)), (0, .ref (b 0 0)), (1, .ref (b 16 0)), (2, .ref (b 16 1)), (3, .ref (b 16 2)), (4, .ref (b 16 3)), (5, .ref (b 16 4))]) hx hb dL_same_7 hl (by decide) rfl (fun ls hl => ?_)
  refine lv_iconst (v := (0 : Int32)) hx hb dL_same_9 (by decide) ?_
  refine lv_istore (lv' := [(9, .int (0 : Int32)), (8, .int (0 : Int32)), (7, .int (0 : Int32)), (6, .int (0 : Int32)), (0, .ref (b 0 0)), (1, .ref (b 16 0)), (2, .ref (b 16 1)), (3, .ref (b 16 2)), (4, .ref (b 16 3)), (5, .ref (b 16 4))]) hx hb dL_same_10 hl (by decide) rfl (fun ls hl => ?_)
  refine lv_iconst (v := (0 : Int32)) hx hb dL_same_12 (by decide) ?_
  refine lv_istore (lv' := [(10, .int (0 : Int32)), (9, .int (0 : Int32)), (8, .int (0 : Int32)), (7, .int (0 : Int32)), (6, .int (0 : Int32)), (0, .ref (b 0 0)), (1, .ref (b 16 0)), (2, .ref (b 16 1)), (3, .ref (b 16 2)), (4, .ref (b 16 3)), (5, .ref (b 16 4))]) hx hb dL_same_13 hl (by decide) rfl (fun ls hl => ?_)
  exact w9_same_L15 C hK hA fo_fu h hG (lv_sub hl [5, 6, 7, 8, 9, 10, 4, 3, 2, 1, 0] rfl)
set_option maxRecDepth 100000 in
set_option maxHeartbeats 4000000 in
theorem c9_same (l : Launch) {dC : Nat → ClassId} {dI : Nat → Nat → Nat} {cI : ClassId} {cB : ClassId} {b : Nat → Nat → Nat} {S : ys_T} {q : (Int32 × ys_T)} (h : f9_same S = some q) : mi_M l yL_same wm9_same RM9_same (dC, dI) [(cI, .int), (cB, .object "DiceRoads$Board")] [.ref (b 0 0), .ref (b 16 0), .ref (b 16 1), .ref (b 16 2), .ref (b 16 3), .ref (b 16 4)] (gY cI cB b S).flatten q.1 (gY cI cB b q.2).flatten := by
  intro sz
  refine Met.ofW (cc := cL_same) (maxL := 16) (ret := (some .boolean)) (by decide) rfl ?_
  intro p e s m args below meth c s₁ B hml hv
  obtain ⟨rfl, hsz, hP, hK, hD0⟩ := hv
  subst hsz
  have hl := lv_entry ([.ref (b 0 0), .ref (b 16 0), .ref (b 16 1), .ref (b 16 2), .ref (b 16 3), .ref (b 16 4)] : List Value) (n := 16) (Nat.le_of_ble_eq_true rfl)
  rw [lg_entry_eq]
  generalize (lg_sl ([.ref (b 0 0), .ref (b 16 0), .ref (b 16 1), .ref (b 16 2), .ref (b 16 3), .ref (b 16 4)] : List Value) ++ List.replicate (16 - (lg_sl ([.ref (b 0 0), .ref (b 16 0), .ref (b 16 1), .ref (b 16 2), .ref (b 16 3), .ref (b 16 4)] : List Value)).length) Slot.unset).toArray = ls at hl ⊢
  exact w9_same (b := b) ⟨B.exec, B.bytes, B.returns, fun w hw => atoms_spec (ws := wm9_same) B.pre w (List.mem_cons_of_mem _ hw), findClass_of_methodNamed B.named, B.notSynchronized, hml⟩ hK (fun _ h => Or.inr h) h ⟨hP, hD0.self, va_S.rf⟩ hl
end
/-! ## DiceRoadsLaw.would(LDiceRoads;I[I[I[I[I[I[I[I[I[I[I)Z -/
section
variable {p : Program} {l : Launch} {e : Env} {s : State} {m : MethodId} {args : Array Value} {below : List Frame} {meth : Method} {c : Code} {dC : Nat → ClassId} {dI : Nat → Nat → Nat} {cI cB : ClassId} {A : Nat → Prop}
set_option maxRecDepth 100000 in
set_option maxHeartbeats 4000000 in
theorem w9_would_b481 (C : cx_M p s m args meth c RL cL_would (some .boolean) 24) (hK : va_K (dC, dI) vwCl [(cI, .int), (cB, .object "DiceRoads$Board")] s) (hA : ∀ q, s.heap.size ≤ q → A q) {b : Nat → Nat → Nat} {q : (Int32 × ys_T)} {v12 : Int32} {v17 : Int32} {v19 : Int32} {S : ys_T} (h : f9_would_b481 v12 v17 v19 S = some q) {H : Heap} {locs : List Loc} {ls : Array Slot} (hG : gd_W (dC, dI) A s (gY cI cB b S).flatten H locs) (hl : lv_has ls 24 [(0, .ref (b 0 0)), (12, .int v12), (17, .int v17), (19, .int v19)]) : W p l e RM9_would s m args below meth c H locs 0 0 (MQ below (qi_W (dC, dI) [(cI, .int), (cB, .object "DiceRoads$Board")] A q.1 (gY cI cB b q.2).flatten) args s 0 0 A) (F0 m 481 ls []) := by
  unfold f9_would_b481 at h
  obtain ⟨hx, hb, hr, hts, hown, hlocks, hml⟩ := id C
  refine lv_aload_n hx hb dL_would_481 rfl (lv_at hl 0 rfl) ?_
  refine lv_iload hx hb dL_would_482 (lv_at hl 1 rfl) ?_
  refine lv_iload hx hb dL_would_484 (lv_at hl 2 rfl) ?_
  obtain ⟨q486, hq486, h⟩ := fo_bd_some h
  refine gq_iV (gs := gY cI cB b S) (gs' := gY cI cB b S) (As := [.int v12, .int v17]) (rest := []) (wc := (gX cI cB b S.1).flatten) (w1 := (gX cI cB b S.1).flatten) (b := b 0 0) (C := RX7) (ci := 6) (q0 := 0) ⟨hx, hb, hml, hown, hts⟩ (c7_chain l hq486) (cwV 2 hts gv_X9_70 rfl rfl rfl hd7_chain ⟨Nat.le_of_ble_eq_true rfl, Nat.le_of_ble_eq_true rfl⟩) hK [0, 1] rfl hA hG [2] [0, 1] py_0 py_0 (List.append_nil _) (List.append_nil _) rfl rfl rfl rfl hl.1 rfl (Nat.le_of_ble_eq_true rfl) dL_would_486 ⟨Nat.zero_le _, Nat.zero_le _⟩ (fun H locs hG9 => ?_)
  have hG : gd_W (dC, dI) A s (gY cI cB b S).flatten H locs := hG9
  refine lv_iload hx hb dL_would_489 (lv_at hl 3 rfl) ?_
  refine lv_icmp_ne (tgt := 498) hx hb dL_would_491 (by decide) (fun hc => ?_) (fun hc => ?_)
  · have h := fo_if h hc
    refine lv_iconst (v := (0 : Int32)) hx hb dL_would_498 (by decide) ?_
    obtain rfl := Option.some.inj h
    exact gr_z hx hb hr hlocks hK hG rfl rfl dL_would_499
  · have h := fo_it h hc
    refine lv_iconst (v := (1 : Int32)) hx hb dL_would_494 (by decide) ?_
    refine lv_goto (tgt := 499) hx hb dL_would_495 (by decide) ?_
    obtain rfl := Option.some.inj h
    exact gr_z hx hb hr hlocks hK hG rfl rfl dL_would_499
set_option maxRecDepth 100000 in
set_option maxHeartbeats 4000000 in
theorem w9_would_b469 (C : cx_M p s m args meth c RL cL_would (some .boolean) 24) (hK : va_K (dC, dI) vwCl [(cI, .int), (cB, .object "DiceRoads$Board")] s) (hA : ∀ q, s.heap.size ≤ q → A q) {b : Nat → Nat → Nat} {q : (Int32 × ys_T)} {rec370 : Int32 → Int32 → Int32 → Int32 → Int32 → ys_T → Option (Int32 × ys_T)} (hrec370 : ∀ {v12 : Int32} {v17 : Int32} {v18 : Int32} {v19 : Int32} {v20 : Int32} {S : ys_T} , rec370 v12 v17 v18 v19 v20 S = some q → ∀ {H : Heap} {locs : List Loc} {ls : Array Slot}, gd_W (dC, dI) A s (gY cI cB b S).flatten H locs → lv_has ls 24 [(0, .ref (b 0 0)), (5, .ref (b 16 3)), (12, .int v12), (17, .int v17), (18, .int v18), (19, .int v19), (20, .int v20)] → W p l e RM9_would s m args below meth c H locs 0 0 (MQ below (qi_W (dC, dI) [(cI, .int), (cB, .object "DiceRoads$Board")] A q.1 (gY cI cB b q.2).flatten) args s 0 0 A) (F0 m 370 ls [])) {v12 : Int32} {v17 : Int32} {v20 : Int32} {v21 : Int32} {t0 : Int32} {S : ys_T} (h : f9_would_b469 rec370 v12 v17 v20 v21 t0 S = some q) {H : Heap} {locs : List Loc} {ls : Array Slot} (hG : gd_W (dC, dI) A s (gY cI cB b S).flatten H locs) (hl : lv_has ls 24 [(0, .ref (b 0 0)), (5, .ref (b 16 3)), (12, .int v12), (17, .int v17), (20, .int v20), (21, .int v21)]) : W p l e RM9_would s m args below meth c H locs 0 0 (MQ below (qi_W (dC, dI) [(cI, .int), (cB, .object "DiceRoads$Board")] A q.1 (gY cI cB b q.2).flatten) args s 0 0 A) (F0 m 469 ls [.int t0]) := by
  unfold f9_would_b469 at h
  obtain ⟨hx, hb, hr, hts, hown, hlocks, hml⟩ := id C
  refine lv_istore (lv' := [(19, .int t0), (0, .ref (b 0 0)), (5, .ref (b 16 3)), (12, .int v12), (17, .int v17), (20, .int v20), (21, .int v21)]) hx hb dL_would_469 hl (by decide) rfl (fun ls hl => ?_)
  refine lv_iload hx hb dL_would_471 (lv_at hl 6 rfl) ?_
  refine lv_istore (lv' := [(18, .int v21), (19, .int t0), (0, .ref (b 0 0)), (5, .ref (b 16 3)), (12, .int v12), (17, .int v17), (20, .int v20), (21, .int v21)]) hx hb dL_would_473 hl (by decide) rfl (fun ls hl => ?_)
  refine lv_iinc (v := (v20 + (1 : Int32))) (lv' := [(20, .int (v20 + (1 : Int32))), (18, .int v21), (19, .int t0), (0, .ref (b 0 0)), (5, .ref (b 16 3)), (12, .int v12), (17, .int v17), (21, .int v21)]) hx hb dL_would_475 hl (k := 6) rfl rfl (by decide) rfl (fun ls hl => ?_)
  refine lv_goto (tgt := 370) hx hb dL_would_478 (by decide) ?_
  exact hrec370 h hG (lv_sub hl [3, 4, 5, 6, 1, 2, 0] rfl)
set_option maxRecDepth 100000 in
set_option maxHeartbeats 4000000 in
theorem w9_would_b436 (C : cx_M p s m args meth c RL cL_would (some .boolean) 24) (hK : va_K (dC, dI) vwCl [(cI, .int), (cB, .object "DiceRoads$Board")] s) (hA : ∀ q, s.heap.size ≤ q → A q) {b : Nat → Nat → Nat} {q : (Int32 × ys_T)} {rec370 : Int32 → Int32 → Int32 → Int32 → Int32 → ys_T → Option (Int32 × ys_T)} (hrec370 : ∀ {v12 : Int32} {v17 : Int32} {v18 : Int32} {v19 : Int32} {v20 : Int32} {S : ys_T} , rec370 v12 v17 v18 v19 v20 S = some q → ∀ {H : Heap} {locs : List Loc} {ls : Array Slot}, gd_W (dC, dI) A s (gY cI cB b S).flatten H locs → lv_has ls 24 [(0, .ref (b 0 0)), (5, .ref (b 16 3)), (12, .int v12), (17, .int v17), (18, .int v18), (19, .int v19), (20, .int v20)] → W p l e RM9_would s m args below meth c H locs 0 0 (MQ below (qi_W (dC, dI) [(cI, .int), (cB, .object "DiceRoads$Board")] A q.1 (gY cI cB b q.2).flatten) args s 0 0 A) (F0 m 370 ls [])) {rec387 : Int32 → Int32 → Int32 → Int32 → Int32 → Int32 → Int32 → ys_T → Option (Int32 × ys_T)} (hrec387 : ∀ {v12 : Int32} {v17 : Int32} {v18 : Int32} {v19 : Int32} {v20 : Int32} {v21 : Int32} {v22 : Int32} {S : ys_T} , rec387 v12 v17 v18 v19 v20 v21 v22 S = some q → ∀ {H : Heap} {locs : List Loc} {ls : Array Slot}, gd_W (dC, dI) A s (gY cI cB b S).flatten H locs → lv_has ls 24 [(0, .ref (b 0 0)), (5, .ref (b 16 3)), (12, .int v12), (17, .int v17), (18, .int v18), (19, .int v19), (20, .int v20), (21, .int v21), (22, .int v22)] → W p l e RM9_would s m args below meth c H locs 0 0 (MQ below (qi_W (dC, dI) [(cI, .int), (cB, .object "DiceRoads$Board")] A q.1 (gY cI cB b q.2).flatten) args s 0 0 A) (F0 m 387 ls [])) {rec396 : Int32 → Int32 → Int32 → Int32 → Int32 → Int32 → Int32 → Int32 → ys_T → Option (Int32 × ys_T)} (hrec396 : ∀ {v12 : Int32} {v17 : Int32} {v18 : Int32} {v19 : Int32} {v20 : Int32} {v21 : Int32} {v22 : Int32} {v23 : Int32} {S : ys_T} , rec396 v12 v17 v18 v19 v20 v21 v22 v23 S = some q → ∀ {H : Heap} {locs : List Loc} {ls : Array Slot}, gd_W (dC, dI) A s (gY cI cB b S).flatten H locs → lv_has ls 24 [(0, .ref (b 0 0)), (5, .ref (b 16 3)), (12, .int v12), (17, .int v17), (18, .int v18), (19, .int v19), (20, .int v20), (21, .int v21), (22, .int v22), (23, .int v23)] → W p l e RM9_would s m args below meth c H locs 0 0 (MQ below (qi_W (dC, dI) [(cI, .int), (cB, .object "DiceRoads$Board")] A q.1 (gY cI cB b q.2).flatten) args s 0 0 A) (F0 m 396 ls [])) {v12 : Int32} {v17 : Int32} {v18 : Int32} {v19 : Int32} {v20 : Int32} {v22 : Int32} {v23 : Int32} {t0 : Int32} {t1 : Int32} {S : ys_T} (h : f9_would_b436 rec370 rec387 rec396 v12 v17 v18 v19 v20 v22 v23 t0 t1 S = some q) {H : Heap} {locs : List Loc} {ls : Array Slot} (hG : gd_W (dC, dI) A s (gY cI cB b S).flatten H locs) (hl : lv_has ls 24 [(0, .ref (b 0 0)), (5, .ref (b 16 3)), (12, .int v12), (17, .int v17), (18, .int v18), (19, .int v19), (20, .int v20), (22, .int v22), (23, .int v23)]) : W p l e RM9_would s m args below meth c H locs 0 0 (MQ below (qi_W (dC, dI) [(cI, .int), (cB, .object "DiceRoads$Board")] A q.1 (gY cI cB b q.2).flatten) args s 0 0 A) (F0 m 436 ls [.int t1, .int t0]) := by
  unfold f9_would_b436 at h
  obtain ⟨hx, hb, hr, hts, hown, hlocks, hml⟩ := id C
  refine lv_ior hx hb dL_would_436 ?_
  refine lv_istore (lv' := [(21, .int (t0 ||| t1)), (0, .ref (b 0 0)), (5, .ref (b 16 3)), (12, .int v12), (17, .int v17), (18, .int v18), (19, .int v19), (20, .int v20), (22, .int v22), (23, .int v23)]) hx hb dL_would_437 hl (by decide) rfl (fun ls hl => ?_)
  refine lv_iinc (v := (v23 + (1 : Int32))) (lv' := [(23, .int (v23 + (1 : Int32))), (21, .int (t0 ||| t1)), (0, .ref (b 0 0)), (5, .ref (b 16 3)), (12, .int v12), (17, .int v17), (18, .int v18), (19, .int v19), (20, .int v20), (22, .int v22)]) hx hb dL_would_439 hl (k := 9) rfl rfl (by decide) rfl (fun ls hl => ?_)
  refine lv_goto (tgt := 396) hx hb dL_would_442 (by decide) ?_
  exact hrec396 h hG (lv_sub hl [2, 3, 4, 5, 6, 7, 8, 1, 9, 0] rfl)
set_option maxRecDepth 100000 in
set_option maxHeartbeats 4000000 in
theorem w9_would_b435 (C : cx_M p s m args meth c RL cL_would (some .boolean) 24) (hK : va_K (dC, dI) vwCl [(cI, .int), (cB, .object "DiceRoads$Board")] s) (hA : ∀ q, s.heap.size ≤ q → A q) {b : Nat → Nat → Nat} {q : (Int32 × ys_T)} {rec370 : Int32 → Int32 → Int32 → Int32 → Int32 → ys_T → Option (Int32 × ys_T)} (hrec370 : ∀ {v12 : Int32} {v17 : Int32} {v18 : Int32} {v19 : Int32} {v20 : Int32} {S : ys_T} , rec370 v12 v17 v18 v19 v20 S = some q → ∀ {H : Heap} {locs : List Loc} {ls : Array Slot}, gd_W (dC, dI) A s (gY cI cB b S).flatten H locs → lv_has ls 24 [(0, .ref (b 0 0)), (5, .ref (b 16 3)), (12, .int v12), (17, .int v17), (18, .int v18), (19, .int v19), (20, .int v20)] → W p l e RM9_would s m args below meth c H locs 0 0 (MQ below (qi_W (dC, dI) [(cI, .int), (cB, .object "DiceRoads$Board")] A q.1 (gY cI cB b q.2).flatten) args s 0 0 A) (F0 m 370 ls [])) {rec387 : Int32 → Int32 → Int32 → Int32 → Int32 → Int32 → Int32 → ys_T → Option (Int32 × ys_T)} (hrec387 : ∀ {v12 : Int32} {v17 : Int32} {v18 : Int32} {v19 : Int32} {v20 : Int32} {v21 : Int32} {v22 : Int32} {S : ys_T} , rec387 v12 v17 v18 v19 v20 v21 v22 S = some q → ∀ {H : Heap} {locs : List Loc} {ls : Array Slot}, gd_W (dC, dI) A s (gY cI cB b S).flatten H locs → lv_has ls 24 [(0, .ref (b 0 0)), (5, .ref (b 16 3)), (12, .int v12), (17, .int v17), (18, .int v18), (19, .int v19), (20, .int v20), (21, .int v21), (22, .int v22)] → W p l e RM9_would s m args below meth c H locs 0 0 (MQ below (qi_W (dC, dI) [(cI, .int), (cB, .object "DiceRoads$Board")] A q.1 (gY cI cB b q.2).flatten) args s 0 0 A) (F0 m 387 ls [])) {rec396 : Int32 → Int32 → Int32 → Int32 → Int32 → Int32 → Int32 → Int32 → ys_T → Option (Int32 × ys_T)} (hrec396 : ∀ {v12 : Int32} {v17 : Int32} {v18 : Int32} {v19 : Int32} {v20 : Int32} {v21 : Int32} {v22 : Int32} {v23 : Int32} {S : ys_T} , rec396 v12 v17 v18 v19 v20 v21 v22 v23 S = some q → ∀ {H : Heap} {locs : List Loc} {ls : Array Slot}, gd_W (dC, dI) A s (gY cI cB b S).flatten H locs → lv_has ls 24 [(0, .ref (b 0 0)), (5, .ref (b 16 3)), (12, .int v12), (17, .int v17), (18, .int v18), (19, .int v19), (20, .int v20), (21, .int v21), (22, .int v22), (23, .int v23)] → W p l e RM9_would s m args below meth c H locs 0 0 (MQ below (qi_W (dC, dI) [(cI, .int), (cB, .object "DiceRoads$Board")] A q.1 (gY cI cB b q.2).flatten) args s 0 0 A) (F0 m 396 ls [])) {v12 : Int32} {v17 : Int32} {v18 : Int32} {v19 : Int32} {v20 : Int32} {v22 : Int32} {v23 : Int32} {t0 : Int32} {S : ys_T} (h : f9_would_b435 rec370 rec387 rec396 v12 v17 v18 v19 v20 v22 v23 t0 S = some q) {H : Heap} {locs : List Loc} {ls : Array Slot} (hG : gd_W (dC, dI) A s (gY cI cB b S).flatten H locs) (hl : lv_has ls 24 [(0, .ref (b 0 0)), (5, .ref (b 16 3)), (12, .int v12), (17, .int v17), (18, .int v18), (19, .int v19), (20, .int v20), (22, .int v22), (23, .int v23)]) : W p l e RM9_would s m args below meth c H locs 0 0 (MQ below (qi_W (dC, dI) [(cI, .int), (cB, .object "DiceRoads$Board")] A q.1 (gY cI cB b q.2).flatten) args s 0 0 A) (F0 m 435 ls [.int t0]) := by
  unfold f9_would_b435 at h
  obtain ⟨hx, hb, hr, hts, hown, hlocks, hml⟩ := id C
  refine lv_iconst (v := (0 : Int32)) hx hb dL_would_435 (by decide) ?_
  exact w9_would_b436 C hK hA (fun h => hrec370 h) (fun h => hrec387 h) (fun h => hrec396 h) h hG (lv_sub hl [0, 1, 2, 3, 4, 5, 6, 7, 8] rfl)
set_option maxRecDepth 100000 in
set_option maxHeartbeats 4000000 in
theorem w9_would_b396 (C : cx_M p s m args meth c RL cL_would (some .boolean) 24) (hK : va_K (dC, dI) vwCl [(cI, .int), (cB, .object "DiceRoads$Board")] s) (hA : ∀ q, s.heap.size ≤ q → A q) {b : Nat → Nat → Nat} {q : (Int32 × ys_T)} {rec370 : Int32 → Int32 → Int32 → Int32 → Int32 → ys_T → Option (Int32 × ys_T)} (hrec370 : ∀ {v12 : Int32} {v17 : Int32} {v18 : Int32} {v19 : Int32} {v20 : Int32} {S : ys_T} , rec370 v12 v17 v18 v19 v20 S = some q → ∀ {H : Heap} {locs : List Loc} {ls : Array Slot}, gd_W (dC, dI) A s (gY cI cB b S).flatten H locs → lv_has ls 24 [(0, .ref (b 0 0)), (5, .ref (b 16 3)), (12, .int v12), (17, .int v17), (18, .int v18), (19, .int v19), (20, .int v20)] → W p l e RM9_would s m args below meth c H locs 0 0 (MQ below (qi_W (dC, dI) [(cI, .int), (cB, .object "DiceRoads$Board")] A q.1 (gY cI cB b q.2).flatten) args s 0 0 A) (F0 m 370 ls [])) {rec387 : Int32 → Int32 → Int32 → Int32 → Int32 → Int32 → Int32 → ys_T → Option (Int32 × ys_T)} (hrec387 : ∀ {v12 : Int32} {v17 : Int32} {v18 : Int32} {v19 : Int32} {v20 : Int32} {v21 : Int32} {v22 : Int32} {S : ys_T} , rec387 v12 v17 v18 v19 v20 v21 v22 S = some q → ∀ {H : Heap} {locs : List Loc} {ls : Array Slot}, gd_W (dC, dI) A s (gY cI cB b S).flatten H locs → lv_has ls 24 [(0, .ref (b 0 0)), (5, .ref (b 16 3)), (12, .int v12), (17, .int v17), (18, .int v18), (19, .int v19), (20, .int v20), (21, .int v21), (22, .int v22)] → W p l e RM9_would s m args below meth c H locs 0 0 (MQ below (qi_W (dC, dI) [(cI, .int), (cB, .object "DiceRoads$Board")] A q.1 (gY cI cB b q.2).flatten) args s 0 0 A) (F0 m 387 ls [])) {rec396 : Int32 → Int32 → Int32 → Int32 → Int32 → Int32 → Int32 → Int32 → ys_T → Option (Int32 × ys_T)} (hrec396 : ∀ {v12 : Int32} {v17 : Int32} {v18 : Int32} {v19 : Int32} {v20 : Int32} {v21 : Int32} {v22 : Int32} {v23 : Int32} {S : ys_T} , rec396 v12 v17 v18 v19 v20 v21 v22 v23 S = some q → ∀ {H : Heap} {locs : List Loc} {ls : Array Slot}, gd_W (dC, dI) A s (gY cI cB b S).flatten H locs → lv_has ls 24 [(0, .ref (b 0 0)), (5, .ref (b 16 3)), (12, .int v12), (17, .int v17), (18, .int v18), (19, .int v19), (20, .int v20), (21, .int v21), (22, .int v22), (23, .int v23)] → W p l e RM9_would s m args below meth c H locs 0 0 (MQ below (qi_W (dC, dI) [(cI, .int), (cB, .object "DiceRoads$Board")] A q.1 (gY cI cB b q.2).flatten) args s 0 0 A) (F0 m 396 ls [])) {v12 : Int32} {v17 : Int32} {v18 : Int32} {v19 : Int32} {v20 : Int32} {v21 : Int32} {v22 : Int32} {v23 : Int32} {S : ys_T} (h : f9_would_b396 rec370 rec387 rec396 v12 v17 v18 v19 v20 v21 v22 v23 S = some q) {H : Heap} {locs : List Loc} {ls : Array Slot} (hG : gd_W (dC, dI) A s (gY cI cB b S).flatten H locs) (hl : lv_has ls 24 [(0, .ref (b 0 0)), (5, .ref (b 16 3)), (12, .int v12), (17, .int v17), (18, .int v18), (19, .int v19), (20, .int v20), (21, .int v21), (22, .int v22), (23, .int v23)]) : W p l e RM9_would s m args below meth c H locs 0 0 (MQ below (qi_W (dC, dI) [(cI, .int), (cB, .object "DiceRoads$Board")] A q.1 (gY cI cB b q.2).flatten) args s 0 0 A) (F0 m 396 ls []) := by
  unfold f9_would_b396 at h
  obtain ⟨hx, hb, hr, hts, hown, hlocks, hml⟩ := id C
  refine lv_iload hx hb dL_would_396 (lv_at hl 9 rfl) ?_
  refine lv_iconst (v := (4 : Int32)) hx hb dL_would_398 (by decide) ?_
  refine lv_icmp_ge (tgt := 445) hx hb dL_would_399 (by decide) (fun hc => ?_) (fun hc => ?_)
  · have h := fo_it h hc
    refine lv_iinc (v := (v22 + (1 : Int32))) (lv' := [(22, .int (v22 + (1 : Int32))), (0, .ref (b 0 0)), (5, .ref (b 16 3)), (12, .int v12), (17, .int v17), (18, .int v18), (19, .int v19), (20, .int v20), (21, .int v21), (23, .int v23)]) hx hb dL_would_445 hl (k := 8) rfl rfl (by decide) rfl (fun ls hl => ?_)
    refine lv_goto (tgt := 387) hx hb dL_would_448 (by decide) ?_
    exact hrec387 h hG (lv_sub hl [1, 2, 3, 4, 5, 6, 7, 8, 0] rfl)
  · have h := fo_if h hc
    refine lv_iload hx hb dL_would_402 (lv_at hl 7 rfl) ?_
    refine lv_iload hx hb dL_would_404 (lv_at hl 4 rfl) ?_
    refine lv_iload hx hb dL_would_406 (lv_at hl 8 rfl) ?_
    refine lv_ishr hx hb dL_would_408 ?_
    refine lv_iconst (v := (1 : Int32)) hx hb dL_would_409 (by decide) ?_
    refine lv_iand hx hb dL_would_410 ?_
    refine lv_iconst (v := (1 : Int32)) hx hb dL_would_411 (by decide) ?_
    refine lv_icmp_ne (tgt := 435) hx hb dL_would_412 (by decide) (fun hc => ?_) (fun hc => ?_)
    · have h := fo_if h hc
      exact w9_would_b435 C hK hA (fun h => hrec370 h) (fun h => hrec387 h) (fun h => hrec396 h) h hG (lv_sub hl [0, 1, 2, 3, 4, 5, 6, 8, 9] rfl)
    · have h := fo_it h hc
      refine lv_aload hx hb dL_would_415 (lv_at hl 1 rfl) ?_
      refine lv_iconst (v := (4 : Int32)) hx hb dL_would_417 (by decide) ?_
      refine lv_iload hx hb dL_would_418 (lv_at hl 8 rfl) ?_
      refine lv_imul hx hb dL_would_420 ?_
      refine lv_iload hx hb dL_would_421 (lv_at hl 9 rfl) ?_
      refine lv_iadd hx hb dL_would_423 ?_
      obtain ⟨hi, h⟩ := fo_ck_some h
      refine va_iald hx hb hK hG.1 3 0 rfl rfl hi dL_would_424 ?_
      refine lv_if_le (tgt := 435) hx hb dL_would_425 (by decide) (fun hc => ?_) (fun hc => ?_)
      · have h := fo_it h hc
        exact w9_would_b435 C hK hA (fun h => hrec370 h) (fun h => hrec387 h) (fun h => hrec396 h) h hG (lv_sub hl [0, 1, 2, 3, 4, 5, 6, 8, 9] rfl)
      · have h := fo_if h hc
        refine lv_iconst (v := (1 : Int32)) hx hb dL_would_428 (by decide) ?_
        refine lv_iload hx hb dL_would_429 (lv_at hl 9 rfl) ?_
        refine lv_ishl hx hb dL_would_431 ?_
        refine lv_goto (tgt := 436) hx hb dL_would_432 (by decide) ?_
        exact w9_would_b436 C hK hA (fun h => hrec370 h) (fun h => hrec387 h) (fun h => hrec396 h) h hG (lv_sub hl [0, 1, 2, 3, 4, 5, 6, 8, 9] rfl)
set_option maxRecDepth 100000 in
set_option maxHeartbeats 4000000 in
theorem w9_would_L396 (C : cx_M p s m args meth c RL cL_would (some .boolean) 24) (hK : va_K (dC, dI) vwCl [(cI, .int), (cB, .object "DiceRoads$Board")] s) (hA : ∀ q, s.heap.size ≤ q → A q) {b : Nat → Nat → Nat} {q : (Int32 × ys_T)} {rec370 : Int32 → Int32 → Int32 → Int32 → Int32 → ys_T → Option (Int32 × ys_T)} (hrec370 : ∀ {v12 : Int32} {v17 : Int32} {v18 : Int32} {v19 : Int32} {v20 : Int32} {S : ys_T} , rec370 v12 v17 v18 v19 v20 S = some q → ∀ {H : Heap} {locs : List Loc} {ls : Array Slot}, gd_W (dC, dI) A s (gY cI cB b S).flatten H locs → lv_has ls 24 [(0, .ref (b 0 0)), (5, .ref (b 16 3)), (12, .int v12), (17, .int v17), (18, .int v18), (19, .int v19), (20, .int v20)] → W p l e RM9_would s m args below meth c H locs 0 0 (MQ below (qi_W (dC, dI) [(cI, .int), (cB, .object "DiceRoads$Board")] A q.1 (gY cI cB b q.2).flatten) args s 0 0 A) (F0 m 370 ls [])) {rec387 : Int32 → Int32 → Int32 → Int32 → Int32 → Int32 → Int32 → ys_T → Option (Int32 × ys_T)} (hrec387 : ∀ {v12 : Int32} {v17 : Int32} {v18 : Int32} {v19 : Int32} {v20 : Int32} {v21 : Int32} {v22 : Int32} {S : ys_T} , rec387 v12 v17 v18 v19 v20 v21 v22 S = some q → ∀ {H : Heap} {locs : List Loc} {ls : Array Slot}, gd_W (dC, dI) A s (gY cI cB b S).flatten H locs → lv_has ls 24 [(0, .ref (b 0 0)), (5, .ref (b 16 3)), (12, .int v12), (17, .int v17), (18, .int v18), (19, .int v19), (20, .int v20), (21, .int v21), (22, .int v22)] → W p l e RM9_would s m args below meth c H locs 0 0 (MQ below (qi_W (dC, dI) [(cI, .int), (cB, .object "DiceRoads$Board")] A q.1 (gY cI cB b q.2).flatten) args s 0 0 A) (F0 m 387 ls [])) : ∀ (n : Nat) {v12 : Int32} {v17 : Int32} {v18 : Int32} {v19 : Int32} {v20 : Int32} {v21 : Int32} {v22 : Int32} {v23 : Int32} {S : ys_T}, f9_would_L396 rec370 rec387 n v12 v17 v18 v19 v20 v21 v22 v23 S = some q → ∀ {H : Heap} {locs : List Loc} {ls : Array Slot}, gd_W (dC, dI) A s (gY cI cB b S).flatten H locs → lv_has ls 24 [(0, .ref (b 0 0)), (5, .ref (b 16 3)), (12, .int v12), (17, .int v17), (18, .int v18), (19, .int v19), (20, .int v20), (21, .int v21), (22, .int v22), (23, .int v23)] → W p l e RM9_would s m args below meth c H locs 0 0 (MQ below (qi_W (dC, dI) [(cI, .int), (cB, .object "DiceRoads$Board")] A q.1 (gY cI cB b q.2).flatten) args s 0 0 A) (F0 m 396 ls []) := by
  intro n
  induction n with
  | zero => intro _ _ _ _ _ _ _ _ _ h; exact nomatch h
  | succ n ih => intro v12 v17 v18 v19 v20 v21 v22 v23 S h H locs ls hG hl; exact w9_would_b396 C hK hA (fun h => hrec370 h) (fun h => hrec387 h) (fun h => ih h) (show f9_would_b396 rec370 rec387 (f9_would_L396 rec370 rec387 n) v12 v17 v18 v19 v20 v21 v22 v23 S = some q from h) hG hl
set_option maxRecDepth 100000 in
set_option maxHeartbeats 4000000 in
theorem w9_would_b387 (C : cx_M p s m args meth c RL cL_would (some .boolean) 24) (hK : va_K (dC, dI) vwCl [(cI, .int), (cB, .object "DiceRoads$Board")] s) (hA : ∀ q, s.heap.size ≤ q → A q) {b : Nat → Nat → Nat} {q : (Int32 × ys_T)} {rec370 : Int32 → Int32 → Int32 → Int32 → Int32 → ys_T → Option (Int32 × ys_T)} (hrec370 : ∀ {v12 : Int32} {v17 : Int32} {v18 : Int32} {v19 : Int32} {v20 : Int32} {S : ys_T} , rec370 v12 v17 v18 v19 v20 S = some q → ∀ {H : Heap} {locs : List Loc} {ls : Array Slot}, gd_W (dC, dI) A s (gY cI cB b S).flatten H locs → lv_has ls 24 [(0, .ref (b 0 0)), (5, .ref (b 16 3)), (12, .int v12), (17, .int v17), (18, .int v18), (19, .int v19), (20, .int v20)] → W p l e RM9_would s m args below meth c H locs 0 0 (MQ below (qi_W (dC, dI) [(cI, .int), (cB, .object "DiceRoads$Board")] A q.1 (gY cI cB b q.2).flatten) args s 0 0 A) (F0 m 370 ls [])) {rec387 : Int32 → Int32 → Int32 → Int32 → Int32 → Int32 → Int32 → ys_T → Option (Int32 × ys_T)} (hrec387 : ∀ {v12 : Int32} {v17 : Int32} {v18 : Int32} {v19 : Int32} {v20 : Int32} {v21 : Int32} {v22 : Int32} {S : ys_T} , rec387 v12 v17 v18 v19 v20 v21 v22 S = some q → ∀ {H : Heap} {locs : List Loc} {ls : Array Slot}, gd_W (dC, dI) A s (gY cI cB b S).flatten H locs → lv_has ls 24 [(0, .ref (b 0 0)), (5, .ref (b 16 3)), (12, .int v12), (17, .int v17), (18, .int v18), (19, .int v19), (20, .int v20), (21, .int v21), (22, .int v22)] → W p l e RM9_would s m args below meth c H locs 0 0 (MQ below (qi_W (dC, dI) [(cI, .int), (cB, .object "DiceRoads$Board")] A q.1 (gY cI cB b q.2).flatten) args s 0 0 A) (F0 m 387 ls [])) {v12 : Int32} {v17 : Int32} {v18 : Int32} {v19 : Int32} {v20 : Int32} {v21 : Int32} {v22 : Int32} {S : ys_T} (h : f9_would_b387 rec370 rec387 v12 v17 v18 v19 v20 v21 v22 S = some q) {H : Heap} {locs : List Loc} {ls : Array Slot} (hG : gd_W (dC, dI) A s (gY cI cB b S).flatten H locs) (hl : lv_has ls 24 [(0, .ref (b 0 0)), (5, .ref (b 16 3)), (12, .int v12), (17, .int v17), (18, .int v18), (19, .int v19), (20, .int v20), (21, .int v21), (22, .int v22)]) : W p l e RM9_would s m args below meth c H locs 0 0 (MQ below (qi_W (dC, dI) [(cI, .int), (cB, .object "DiceRoads$Board")] A q.1 (gY cI cB b q.2).flatten) args s 0 0 A) (F0 m 387 ls []) := by
  unfold f9_would_b387 at h
  obtain ⟨hx, hb, hr, hts, hown, hlocks, hml⟩ := id C
  refine lv_iload hx hb dL_would_387 (lv_at hl 8 rfl) ?_
  refine lv_iconst (v := (4 : Int32)) hx hb dL_would_389 (by decide) ?_
  refine lv_icmp_ge (tgt := 451) hx hb dL_would_390 (by decide) (fun hc => ?_) (fun hc => ?_)
  · have h := fo_it h hc
    refine lv_iload hx hb dL_would_451 (lv_at hl 7 rfl) ?_
    refine lv_iload hx hb dL_would_453 (lv_at hl 3 rfl) ?_
    refine lv_ishr hx hb dL_would_455 ?_
    refine lv_iconst (v := (1 : Int32)) hx hb dL_would_456 (by decide) ?_
    refine lv_iand hx hb dL_would_457 ?_
    refine lv_iconst (v := (1 : Int32)) hx hb dL_would_458 (by decide) ?_
    refine lv_icmp_ne (tgt := 467) hx hb dL_would_459 (by decide) (fun hc => ?_) (fun hc => ?_)
    · have h := fo_if h hc
      refine lv_iload hx hb dL_would_467 (lv_at hl 5 rfl) ?_
      exact w9_would_b469 C hK hA (fun h => hrec370 h) h hG (lv_sub hl [0, 1, 2, 3, 6, 7] rfl)
    · have h := fo_it h hc
      refine lv_iload hx hb dL_would_462 (lv_at hl 6 rfl) ?_
      refine lv_goto (tgt := 469) hx hb dL_would_464 (by decide) ?_
      exact w9_would_b469 C hK hA (fun h => hrec370 h) h hG (lv_sub hl [0, 1, 2, 3, 6, 7] rfl)
  · have h := fo_if h hc
    refine lv_iconst (v := (0 : Int32)) hx hb dL_would_393 (by decide) ?_
    refine lv_istore (lv' := [(23, .int (0 : Int32)), (0, .ref (b 0 0)), (5, .ref (b 16 3)), (12, .int v12), (17, .int v17), (18, .int v18), (19, .int v19), (20, .int v20), (21, .int v21), (22, .int v22)]) hx hb dL_would_394 hl (by decide) rfl (fun ls hl => ?_)
    exact w9_would_L396 C hK hA (fun h => hrec370 h) (fun h => hrec387 h) fo_fu h hG (lv_sub hl [1, 2, 3, 4, 5, 6, 7, 8, 9, 0] rfl)
set_option maxRecDepth 100000 in
set_option maxHeartbeats 4000000 in
theorem w9_would_L387 (C : cx_M p s m args meth c RL cL_would (some .boolean) 24) (hK : va_K (dC, dI) vwCl [(cI, .int), (cB, .object "DiceRoads$Board")] s) (hA : ∀ q, s.heap.size ≤ q → A q) {b : Nat → Nat → Nat} {q : (Int32 × ys_T)} {rec370 : Int32 → Int32 → Int32 → Int32 → Int32 → ys_T → Option (Int32 × ys_T)} (hrec370 : ∀ {v12 : Int32} {v17 : Int32} {v18 : Int32} {v19 : Int32} {v20 : Int32} {S : ys_T} , rec370 v12 v17 v18 v19 v20 S = some q → ∀ {H : Heap} {locs : List Loc} {ls : Array Slot}, gd_W (dC, dI) A s (gY cI cB b S).flatten H locs → lv_has ls 24 [(0, .ref (b 0 0)), (5, .ref (b 16 3)), (12, .int v12), (17, .int v17), (18, .int v18), (19, .int v19), (20, .int v20)] → W p l e RM9_would s m args below meth c H locs 0 0 (MQ below (qi_W (dC, dI) [(cI, .int), (cB, .object "DiceRoads$Board")] A q.1 (gY cI cB b q.2).flatten) args s 0 0 A) (F0 m 370 ls [])) : ∀ (n : Nat) {v12 : Int32} {v17 : Int32} {v18 : Int32} {v19 : Int32} {v20 : Int32} {v21 : Int32} {v22 : Int32} {S : ys_T}, f9_would_L387 rec370 n v12 v17 v18 v19 v20 v21 v22 S = some q → ∀ {H : Heap} {locs : List Loc} {ls : Array Slot}, gd_W (dC, dI) A s (gY cI cB b S).flatten H locs → lv_has ls 24 [(0, .ref (b 0 0)), (5, .ref (b 16 3)), (12, .int v12), (17, .int v17), (18, .int v18), (19, .int v19), (20, .int v20), (21, .int v21), (22, .int v22)] → W p l e RM9_would s m args below meth c H locs 0 0 (MQ below (qi_W (dC, dI) [(cI, .int), (cB, .object "DiceRoads$Board")] A q.1 (gY cI cB b q.2).flatten) args s 0 0 A) (F0 m 387 ls []) := by
  intro n
  induction n with
  | zero => intro _ _ _ _ _ _ _ _ h; exact nomatch h
  | succ n ih => intro v12 v17 v18 v19 v20 v21 v22 S h H locs ls hG hl; exact w9_would_b387 C hK hA (fun h => hrec370 h) (fun h => ih h) (show f9_would_b387 rec370 (f9_would_L387 rec370 n) v12 v17 v18 v19 v20 v21 v22 S = some q from h) hG hl
set_option maxRecDepth 100000 in
set_option maxHeartbeats 4000000 in
theorem w9_would_b370 (C : cx_M p s m args meth c RL cL_would (some .boolean) 24) (hK : va_K (dC, dI) vwCl [(cI, .int), (cB, .object "DiceRoads$Board")] s) (hA : ∀ q, s.heap.size ≤ q → A q) {b : Nat → Nat → Nat} {q : (Int32 × ys_T)} {rec370 : Int32 → Int32 → Int32 → Int32 → Int32 → ys_T → Option (Int32 × ys_T)} (hrec370 : ∀ {v12 : Int32} {v17 : Int32} {v18 : Int32} {v19 : Int32} {v20 : Int32} {S : ys_T} , rec370 v12 v17 v18 v19 v20 S = some q → ∀ {H : Heap} {locs : List Loc} {ls : Array Slot}, gd_W (dC, dI) A s (gY cI cB b S).flatten H locs → lv_has ls 24 [(0, .ref (b 0 0)), (5, .ref (b 16 3)), (12, .int v12), (17, .int v17), (18, .int v18), (19, .int v19), (20, .int v20)] → W p l e RM9_would s m args below meth c H locs 0 0 (MQ below (qi_W (dC, dI) [(cI, .int), (cB, .object "DiceRoads$Board")] A q.1 (gY cI cB b q.2).flatten) args s 0 0 A) (F0 m 370 ls [])) {v12 : Int32} {v17 : Int32} {v18 : Int32} {v19 : Int32} {v20 : Int32} {S : ys_T} (h : f9_would_b370 rec370 v12 v17 v18 v19 v20 S = some q) {H : Heap} {locs : List Loc} {ls : Array Slot} (hG : gd_W (dC, dI) A s (gY cI cB b S).flatten H locs) (hl : lv_has ls 24 [(0, .ref (b 0 0)), (5, .ref (b 16 3)), (12, .int v12), (17, .int v17), (18, .int v18), (19, .int v19), (20, .int v20)]) : W p l e RM9_would s m args below meth c H locs 0 0 (MQ below (qi_W (dC, dI) [(cI, .int), (cB, .object "DiceRoads$Board")] A q.1 (gY cI cB b q.2).flatten) args s 0 0 A) (F0 m 370 ls []) := by
  unfold f9_would_b370 at h
  obtain ⟨hx, hb, hr, hts, hown, hlocks, hml⟩ := id C
  refine lv_iload hx hb dL_would_370 (lv_at hl 6 rfl) ?_
  refine lv_iconst (v := (5 : Int32)) hx hb dL_would_372 (by decide) ?_
  refine lv_icmp_ge (tgt := 481) hx hb dL_would_373 (by decide) (fun hc => ?_) (fun hc => ?_)
  · have h := fo_it h hc
    exact w9_would_b481 C hK hA h hG (lv_sub hl [0, 2, 3, 5] rfl)
  · have h := fo_if h hc
    refine lv_iload hx hb dL_would_376 (lv_at hl 5 rfl) ?_
    refine lv_if_ge (tgt := 481) hx hb dL_would_378 (by decide) (fun hc => ?_) (fun hc => ?_)
    · have h := fo_it h hc
      exact w9_would_b481 C hK hA h hG (lv_sub hl [0, 2, 3, 5] rfl)
    · have h := fo_if h hc
      refine lv_iconst (v := (0 : Int32)) hx hb dL_would_381 (by decide) ?_
      refine lv_istore (lv' := [(21, .int (0 : Int32)), (0, .ref (b 0 0)), (5, .ref (b 16 3)), (12, .int v12), (17, .int v17), (18, .int v18), (19, .int v19), (20, .int v20)]) hx hb dL_would_382 hl (by decide) rfl (fun ls hl => ?_)
      refine lv_iconst (v := (0 : Int32)) hx hb dL_would_384 (by decide) ?_
      refine lv_istore (lv' := [(22, .int (0 : Int32)), (21, .int (0 : Int32)), (0, .ref (b 0 0)), (5, .ref (b 16 3)), (12, .int v12), (17, .int v17), (18, .int v18), (19, .int v19), (20, .int v20)]) hx hb dL_would_385 hl (by decide) rfl (fun ls hl => ?_)
      exact w9_would_L387 C hK hA (fun h => hrec370 h) fo_fu h hG (lv_sub hl [2, 3, 4, 5, 6, 7, 8, 1, 0] rfl)
set_option maxRecDepth 100000 in
set_option maxHeartbeats 4000000 in
theorem w9_would_L370 (C : cx_M p s m args meth c RL cL_would (some .boolean) 24) (hK : va_K (dC, dI) vwCl [(cI, .int), (cB, .object "DiceRoads$Board")] s) (hA : ∀ q, s.heap.size ≤ q → A q) {b : Nat → Nat → Nat} {q : (Int32 × ys_T)} : ∀ (n : Nat) {v12 : Int32} {v17 : Int32} {v18 : Int32} {v19 : Int32} {v20 : Int32} {S : ys_T}, f9_would_L370 n v12 v17 v18 v19 v20 S = some q → ∀ {H : Heap} {locs : List Loc} {ls : Array Slot}, gd_W (dC, dI) A s (gY cI cB b S).flatten H locs → lv_has ls 24 [(0, .ref (b 0 0)), (5, .ref (b 16 3)), (12, .int v12), (17, .int v17), (18, .int v18), (19, .int v19), (20, .int v20)] → W p l e RM9_would s m args below meth c H locs 0 0 (MQ below (qi_W (dC, dI) [(cI, .int), (cB, .object "DiceRoads$Board")] A q.1 (gY cI cB b q.2).flatten) args s 0 0 A) (F0 m 370 ls []) := by
  intro n
  induction n with
  | zero => intro _ _ _ _ _ _ h; exact nomatch h
  | succ n ih => intro v12 v17 v18 v19 v20 S h H locs ls hG hl; exact w9_would_b370 C hK hA (fun h => ih h) (show f9_would_b370 (f9_would_L370 n) v12 v17 v18 v19 v20 S = some q from h) hG hl
set_option maxRecDepth 100000 in
set_option maxHeartbeats 4000000 in
theorem w9_would_b323 (C : cx_M p s m args meth c RL cL_would (some .boolean) 24) (hK : va_K (dC, dI) vwCl [(cI, .int), (cB, .object "DiceRoads$Board")] s) (hA : ∀ q, s.heap.size ≤ q → A q) {b : Nat → Nat → Nat} {q : (Int32 × ys_T)} {rec192 : Int32 → Int32 → Int32 → Int32 → Int32 → Int32 → ys_T → Option (Int32 × ys_T)} (hrec192 : ∀ {v1 : Int32} {v12 : Int32} {v13 : Int32} {v15 : Int32} {v16 : Int32} {v17 : Int32} {S : ys_T} , rec192 v1 v12 v13 v15 v16 v17 S = some q → ∀ {H : Heap} {locs : List Loc} {ls : Array Slot}, gd_W (dC, dI) A s (gY cI cB b S).flatten H locs → lv_has ls 24 [(0, .ref (b 0 0)), (1, .int v1), (2, .ref (b 16 0)), (3, .ref (b 16 1)), (4, .ref (b 16 2)), (5, .ref (b 16 3)), (6, .ref (b 16 4)), (7, .ref (b 17 0)), (8, .ref (b 17 1)), (9, .ref (b 17 2)), (10, .ref (b 17 3)), (11, .ref (b 17 4)), (12, .int v12), (13, .int v13), (15, .int v15), (16, .int v16), (17, .int v17)] → W p l e RM9_would s m args below meth c H locs 0 0 (MQ below (qi_W (dC, dI) [(cI, .int), (cB, .object "DiceRoads$Board")] A q.1 (gY cI cB b q.2).flatten) args s 0 0 A) (F0 m 192 ls [])) {v1 : Int32} {v12 : Int32} {v13 : Int32} {v15 : Int32} {v16 : Int32} {v17 : Int32} {S : ys_T} (h : f9_would_b323 rec192 v1 v12 v13 v15 v16 v17 S = some q) {H : Heap} {locs : List Loc} {ls : Array Slot} (hG : gd_W (dC, dI) A s (gY cI cB b S).flatten H locs) (hl : lv_has ls 24 [(0, .ref (b 0 0)), (1, .int v1), (2, .ref (b 16 0)), (3, .ref (b 16 1)), (4, .ref (b 16 2)), (5, .ref (b 16 3)), (6, .ref (b 16 4)), (7, .ref (b 17 0)), (8, .ref (b 17 1)), (9, .ref (b 17 2)), (10, .ref (b 17 3)), (11, .ref (b 17 4)), (12, .int v12), (13, .int v13), (15, .int v15), (16, .int v16), (17, .int v17)]) : W p l e RM9_would s m args below meth c H locs 0 0 (MQ below (qi_W (dC, dI) [(cI, .int), (cB, .object "DiceRoads$Board")] A q.1 (gY cI cB b q.2).flatten) args s 0 0 A) (F0 m 323 ls []) := by
  unfold f9_would_b323 at h
  obtain ⟨hx, hb, hr, hts, hown, hlocks, hml⟩ := id C
  refine lv_iinc (v := (v17 + (-1 : Int32))) (lv' := [(17, .int (v17 + (-1 : Int32))), (0, .ref (b 0 0)), (1, .int v1), (2, .ref (b 16 0)), (3, .ref (b 16 1)), (4, .ref (b 16 2)), (5, .ref (b 16 3)), (6, .ref (b 16 4)), (7, .ref (b 17 0)), (8, .ref (b 17 1)), (9, .ref (b 17 2)), (10, .ref (b 17 3)), (11, .ref (b 17 4)), (12, .int v12), (13, .int v13), (15, .int v15), (16, .int v16)]) hx hb dL_would_323 hl (k := 16) rfl rfl (by decide) rfl (fun ls hl => ?_)
  refine lv_goto (tgt := 192) hx hb dL_would_326 (by decide) ?_
  exact hrec192 h hG (lv_sub hl [1, 2, 3, 4, 5, 6, 7, 8, 9, 10, 11, 12, 13, 14, 15, 16, 0] rfl)
set_option maxRecDepth 100000 in
set_option maxHeartbeats 4000000 in
theorem w9_would_b267 (C : cx_M p s m args meth c RL cL_would (some .boolean) 24) (hK : va_K (dC, dI) vwCl [(cI, .int), (cB, .object "DiceRoads$Board")] s) (hA : ∀ q, s.heap.size ≤ q → A q) {b : Nat → Nat → Nat} {q : (Int32 × ys_T)} {rec192 : Int32 → Int32 → Int32 → Int32 → Int32 → Int32 → ys_T → Option (Int32 × ys_T)} (hrec192 : ∀ {v1 : Int32} {v12 : Int32} {v13 : Int32} {v15 : Int32} {v16 : Int32} {v17 : Int32} {S : ys_T} , rec192 v1 v12 v13 v15 v16 v17 S = some q → ∀ {H : Heap} {locs : List Loc} {ls : Array Slot}, gd_W (dC, dI) A s (gY cI cB b S).flatten H locs → lv_has ls 24 [(0, .ref (b 0 0)), (1, .int v1), (2, .ref (b 16 0)), (3, .ref (b 16 1)), (4, .ref (b 16 2)), (5, .ref (b 16 3)), (6, .ref (b 16 4)), (7, .ref (b 17 0)), (8, .ref (b 17 1)), (9, .ref (b 17 2)), (10, .ref (b 17 3)), (11, .ref (b 17 4)), (12, .int v12), (13, .int v13), (15, .int v15), (16, .int v16), (17, .int v17)] → W p l e RM9_would s m args below meth c H locs 0 0 (MQ below (qi_W (dC, dI) [(cI, .int), (cB, .object "DiceRoads$Board")] A q.1 (gY cI cB b q.2).flatten) args s 0 0 A) (F0 m 192 ls [])) {rec267 : Int32 → Int32 → Int32 → Int32 → Int32 → Int32 → Int32 → Int32 → ys_T → Option (Int32 × ys_T)} (hrec267 : ∀ {v1 : Int32} {v12 : Int32} {v13 : Int32} {v15 : Int32} {v16 : Int32} {v17 : Int32} {v18 : Int32} {v19 : Int32} {S : ys_T} , rec267 v1 v12 v13 v15 v16 v17 v18 v19 S = some q → ∀ {H : Heap} {locs : List Loc} {ls : Array Slot}, gd_W (dC, dI) A s (gY cI cB b S).flatten H locs → lv_has ls 24 [(0, .ref (b 0 0)), (1, .int v1), (2, .ref (b 16 0)), (3, .ref (b 16 1)), (4, .ref (b 16 2)), (5, .ref (b 16 3)), (6, .ref (b 16 4)), (7, .ref (b 17 0)), (8, .ref (b 17 1)), (9, .ref (b 17 2)), (10, .ref (b 17 3)), (11, .ref (b 17 4)), (12, .int v12), (13, .int v13), (15, .int v15), (16, .int v16), (17, .int v17), (18, .int v18), (19, .int v19)] → W p l e RM9_would s m args below meth c H locs 0 0 (MQ below (qi_W (dC, dI) [(cI, .int), (cB, .object "DiceRoads$Board")] A q.1 (gY cI cB b q.2).flatten) args s 0 0 A) (F0 m 267 ls [])) {v1 : Int32} {v12 : Int32} {v13 : Int32} {v15 : Int32} {v16 : Int32} {v17 : Int32} {v18 : Int32} {v19 : Int32} {S : ys_T} (h : f9_would_b267 rec192 rec267 v1 v12 v13 v15 v16 v17 v18 v19 S = some q) {H : Heap} {locs : List Loc} {ls : Array Slot} (hG : gd_W (dC, dI) A s (gY cI cB b S).flatten H locs) (hl : lv_has ls 24 [(0, .ref (b 0 0)), (1, .int v1), (2, .ref (b 16 0)), (3, .ref (b 16 1)), (4, .ref (b 16 2)), (5, .ref (b 16 3)), (6, .ref (b 16 4)), (7, .ref (b 17 0)), (8, .ref (b 17 1)), (9, .ref (b 17 2)), (10, .ref (b 17 3)), (11, .ref (b 17 4)), (12, .int v12), (13, .int v13), (15, .int v15), (16, .int v16), (17, .int v17), (18, .int v18), (19, .int v19)]) : W p l e RM9_would s m args below meth c H locs 0 0 (MQ below (qi_W (dC, dI) [(cI, .int), (cB, .object "DiceRoads$Board")] A q.1 (gY cI cB b q.2).flatten) args s 0 0 A) (F0 m 267 ls []) := by
  unfold f9_would_b267 at h
  obtain ⟨hx, hb, hr, hts, hown, hlocks, hml⟩ := id C
  refine lv_iload hx hb dL_would_267 (lv_at hl 18 rfl) ?_
  refine lv_iconst (v := (4 : Int32)) hx hb dL_would_269 (by decide) ?_
  refine lv_icmp_ge (tgt := 305) hx hb dL_would_270 (by decide) (fun hc => ?_) (fun hc => ?_)
  · have h := fo_it h hc
    refine lv_iload hx hb dL_would_305 (lv_at hl 17 rfl) ?_
    refine lv_iload hx hb dL_would_307 (lv_at hl 15 rfl) ?_
    refine lv_icmp_ge (tgt := 315) hx hb dL_would_309 (by decide) (fun hc => ?_) (fun hc => ?_)
    · have h := fo_it h hc
      refine lv_iload hx hb dL_would_315 (lv_at hl 17 rfl) ?_
      refine lv_istore (lv' := [(16, .int v18), (0, .ref (b 0 0)), (1, .int v1), (2, .ref (b 16 0)), (3, .ref (b 16 1)), (4, .ref (b 16 2)), (5, .ref (b 16 3)), (6, .ref (b 16 4)), (7, .ref (b 17 0)), (8, .ref (b 17 1)), (9, .ref (b 17 2)), (10, .ref (b 17 3)), (11, .ref (b 17 4)), (12, .int v12), (13, .int v13), (15, .int v15), (17, .int v17), (18, .int v18), (19, .int v19)]) hx hb dL_would_317 hl (by decide) rfl (fun ls hl => ?_)
      refine lv_iload hx hb dL_would_319 (lv_at hl 16 rfl) ?_
      refine lv_istore (lv' := [(15, .int v17), (16, .int v18), (0, .ref (b 0 0)), (1, .int v1), (2, .ref (b 16 0)), (3, .ref (b 16 1)), (4, .ref (b 16 2)), (5, .ref (b 16 3)), (6, .ref (b 16 4)), (7, .ref (b 17 0)), (8, .ref (b 17 1)), (9, .ref (b 17 2)), (10, .ref (b 17 3)), (11, .ref (b 17 4)), (12, .int v12), (13, .int v13), (17, .int v17), (18, .int v18), (19, .int v19)]) hx hb dL_would_321 hl (by decide) rfl (fun ls hl => ?_)
      exact w9_would_b323 C hK hA (fun h => hrec192 h) h hG (lv_sub hl [2, 3, 4, 5, 6, 7, 8, 9, 10, 11, 12, 13, 14, 15, 0, 1, 16] rfl)
    · have h := fo_if h hc
      refine lv_goto (tgt := 323) hx hb dL_would_312 (by decide) ?_
      exact w9_would_b323 C hK hA (fun h => hrec192 h) h hG (lv_sub hl [0, 1, 2, 3, 4, 5, 6, 7, 8, 9, 10, 11, 12, 13, 14, 15, 16] rfl)
  · have h := fo_if h hc
    refine lv_iload hx hb dL_would_273 (lv_at hl 17 rfl) ?_
    refine lv_aload hx hb dL_would_275 (lv_at hl 10 rfl) ?_
    refine lv_iconst (v := (4 : Int32)) hx hb dL_would_277 (by decide) ?_
    refine lv_iload hx hb dL_would_278 (lv_at hl 18 rfl) ?_
    refine lv_imul hx hb dL_would_280 ?_
    refine lv_iload hx hb dL_would_281 (lv_at hl 12 rfl) ?_
    refine lv_iadd hx hb dL_would_283 ?_
    obtain ⟨hi, h⟩ := fo_ck_some h
    refine va_iald hx hb hK hG.1 8 0 rfl rfl hi dL_would_284 ?_
    refine lv_aload hx hb dL_would_285 (lv_at hl 10 rfl) ?_
    refine lv_iconst (v := (4 : Int32)) hx hb dL_would_287 (by decide) ?_
    refine lv_iload hx hb dL_would_288 (lv_at hl 12 rfl) ?_
    refine lv_imul hx hb dL_would_290 ?_
    refine lv_iload hx hb dL_would_291 (lv_at hl 18 rfl) ?_
    refine lv_iadd hx hb dL_would_293 ?_
    obtain ⟨hi, h⟩ := fo_ck_some h
    refine va_iald hx hb hK hG.1 8 0 rfl rfl hi dL_would_294 ?_
    refine lv_isub hx hb dL_would_295 ?_
    refine lv_iadd hx hb dL_would_296 ?_
    refine lv_istore (lv' := [(18, .int (v18 + (((S.2.2 3) (((4 : Int32) * v19) + v12).toNatClampNeg) - ((S.2.2 3) (((4 : Int32) * v12) + v19).toNatClampNeg)))), (0, .ref (b 0 0)), (1, .int v1), (2, .ref (b 16 0)), (3, .ref (b 16 1)), (4, .ref (b 16 2)), (5, .ref (b 16 3)), (6, .ref (b 16 4)), (7, .ref (b 17 0)), (8, .ref (b 17 1)), (9, .ref (b 17 2)), (10, .ref (b 17 3)), (11, .ref (b 17 4)), (12, .int v12), (13, .int v13), (15, .int v15), (16, .int v16), (17, .int v17), (19, .int v19)]) hx hb dL_would_297 hl (by decide) rfl (fun ls hl => ?_)
    refine lv_iinc (v := (v19 + (1 : Int32))) (lv' := [(19, .int (v19 + (1 : Int32))), (18, .int (v18 + (((S.2.2 3) (((4 : Int32) * v19) + v12).toNatClampNeg) - ((S.2.2 3) (((4 : Int32) * v12) + v19).toNatClampNeg)))), (0, .ref (b 0 0)), (1, .int v1), (2, .ref (b 16 0)), (3, .ref (b 16 1)), (4, .ref (b 16 2)), (5, .ref (b 16 3)), (6, .ref (b 16 4)), (7, .ref (b 17 0)), (8, .ref (b 17 1)), (9, .ref (b 17 2)), (10, .ref (b 17 3)), (11, .ref (b 17 4)), (12, .int v12), (13, .int v13), (15, .int v15), (16, .int v16), (17, .int v17)]) hx hb dL_would_299 hl (k := 18) rfl rfl (by decide) rfl (fun ls hl => ?_)
    refine lv_goto (tgt := 267) hx hb dL_would_302 (by decide) ?_
    exact hrec267 h hG (lv_sub hl [2, 3, 4, 5, 6, 7, 8, 9, 10, 11, 12, 13, 14, 15, 16, 17, 18, 1, 0] rfl)
set_option maxRecDepth 100000 in
set_option maxHeartbeats 4000000 in
theorem w9_would_L267 (C : cx_M p s m args meth c RL cL_would (some .boolean) 24) (hK : va_K (dC, dI) vwCl [(cI, .int), (cB, .object "DiceRoads$Board")] s) (hA : ∀ q, s.heap.size ≤ q → A q) {b : Nat → Nat → Nat} {q : (Int32 × ys_T)} {rec192 : Int32 → Int32 → Int32 → Int32 → Int32 → Int32 → ys_T → Option (Int32 × ys_T)} (hrec192 : ∀ {v1 : Int32} {v12 : Int32} {v13 : Int32} {v15 : Int32} {v16 : Int32} {v17 : Int32} {S : ys_T} , rec192 v1 v12 v13 v15 v16 v17 S = some q → ∀ {H : Heap} {locs : List Loc} {ls : Array Slot}, gd_W (dC, dI) A s (gY cI cB b S).flatten H locs → lv_has ls 24 [(0, .ref (b 0 0)), (1, .int v1), (2, .ref (b 16 0)), (3, .ref (b 16 1)), (4, .ref (b 16 2)), (5, .ref (b 16 3)), (6, .ref (b 16 4)), (7, .ref (b 17 0)), (8, .ref (b 17 1)), (9, .ref (b 17 2)), (10, .ref (b 17 3)), (11, .ref (b 17 4)), (12, .int v12), (13, .int v13), (15, .int v15), (16, .int v16), (17, .int v17)] → W p l e RM9_would s m args below meth c H locs 0 0 (MQ below (qi_W (dC, dI) [(cI, .int), (cB, .object "DiceRoads$Board")] A q.1 (gY cI cB b q.2).flatten) args s 0 0 A) (F0 m 192 ls [])) : ∀ (n : Nat) {v1 : Int32} {v12 : Int32} {v13 : Int32} {v15 : Int32} {v16 : Int32} {v17 : Int32} {v18 : Int32} {v19 : Int32} {S : ys_T}, f9_would_L267 rec192 n v1 v12 v13 v15 v16 v17 v18 v19 S = some q → ∀ {H : Heap} {locs : List Loc} {ls : Array Slot}, gd_W (dC, dI) A s (gY cI cB b S).flatten H locs → lv_has ls 24 [(0, .ref (b 0 0)), (1, .int v1), (2, .ref (b 16 0)), (3, .ref (b 16 1)), (4, .ref (b 16 2)), (5, .ref (b 16 3)), (6, .ref (b 16 4)), (7, .ref (b 17 0)), (8, .ref (b 17 1)), (9, .ref (b 17 2)), (10, .ref (b 17 3)), (11, .ref (b 17 4)), (12, .int v12), (13, .int v13), (15, .int v15), (16, .int v16), (17, .int v17), (18, .int v18), (19, .int v19)] → W p l e RM9_would s m args below meth c H locs 0 0 (MQ below (qi_W (dC, dI) [(cI, .int), (cB, .object "DiceRoads$Board")] A q.1 (gY cI cB b q.2).flatten) args s 0 0 A) (F0 m 267 ls []) := by
  intro n
  induction n with
  | zero => intro _ _ _ _ _ _ _ _ _ h; exact nomatch h
  | succ n ih => intro v1 v12 v13 v15 v16 v17 v18 v19 S h H locs ls hG hl; exact w9_would_b267 C hK hA (fun h => hrec192 h) (fun h => ih h) (show f9_would_b267 rec192 (f9_would_L267 rec192 n) v1 v12 v13 v15 v16 v17 v18 v19 S = some q from h) hG hl
set_option maxRecDepth 100000 in
set_option maxHeartbeats 4000000 in
theorem w9_would_b228 (C : cx_M p s m args meth c RL cL_would (some .boolean) 24) (hK : va_K (dC, dI) vwCl [(cI, .int), (cB, .object "DiceRoads$Board")] s) (hA : ∀ q, s.heap.size ≤ q → A q) {b : Nat → Nat → Nat} {q : (Int32 × ys_T)} {rec192 : Int32 → Int32 → Int32 → Int32 → Int32 → Int32 → ys_T → Option (Int32 × ys_T)} (hrec192 : ∀ {v1 : Int32} {v12 : Int32} {v13 : Int32} {v15 : Int32} {v16 : Int32} {v17 : Int32} {S : ys_T} , rec192 v1 v12 v13 v15 v16 v17 S = some q → ∀ {H : Heap} {locs : List Loc} {ls : Array Slot}, gd_W (dC, dI) A s (gY cI cB b S).flatten H locs → lv_has ls 24 [(0, .ref (b 0 0)), (1, .int v1), (2, .ref (b 16 0)), (3, .ref (b 16 1)), (4, .ref (b 16 2)), (5, .ref (b 16 3)), (6, .ref (b 16 4)), (7, .ref (b 17 0)), (8, .ref (b 17 1)), (9, .ref (b 17 2)), (10, .ref (b 17 3)), (11, .ref (b 17 4)), (12, .int v12), (13, .int v13), (15, .int v15), (16, .int v16), (17, .int v17)] → W p l e RM9_would s m args below meth c H locs 0 0 (MQ below (qi_W (dC, dI) [(cI, .int), (cB, .object "DiceRoads$Board")] A q.1 (gY cI cB b q.2).flatten) args s 0 0 A) (F0 m 192 ls [])) {rec228 : Int32 → Int32 → Int32 → Int32 → Int32 → Int32 → Int32 → ys_T → Option (Int32 × ys_T)} (hrec228 : ∀ {v1 : Int32} {v12 : Int32} {v13 : Int32} {v15 : Int32} {v16 : Int32} {v17 : Int32} {v18 : Int32} {S : ys_T} , rec228 v1 v12 v13 v15 v16 v17 v18 S = some q → ∀ {H : Heap} {locs : List Loc} {ls : Array Slot}, gd_W (dC, dI) A s (gY cI cB b S).flatten H locs → lv_has ls 24 [(0, .ref (b 0 0)), (1, .int v1), (2, .ref (b 16 0)), (3, .ref (b 16 1)), (4, .ref (b 16 2)), (5, .ref (b 16 3)), (6, .ref (b 16 4)), (7, .ref (b 17 0)), (8, .ref (b 17 1)), (9, .ref (b 17 2)), (10, .ref (b 17 3)), (11, .ref (b 17 4)), (12, .int v12), (13, .int v13), (15, .int v15), (16, .int v16), (17, .int v17), (18, .int v18)] → W p l e RM9_would s m args below meth c H locs 0 0 (MQ below (qi_W (dC, dI) [(cI, .int), (cB, .object "DiceRoads$Board")] A q.1 (gY cI cB b q.2).flatten) args s 0 0 A) (F0 m 228 ls [])) {v1 : Int32} {v12 : Int32} {v13 : Int32} {v15 : Int32} {v16 : Int32} {v17 : Int32} {v18 : Int32} {S : ys_T} (h : f9_would_b228 rec192 rec228 v1 v12 v13 v15 v16 v17 v18 S = some q) {H : Heap} {locs : List Loc} {ls : Array Slot} (hG : gd_W (dC, dI) A s (gY cI cB b S).flatten H locs) (hl : lv_has ls 24 [(0, .ref (b 0 0)), (1, .int v1), (2, .ref (b 16 0)), (3, .ref (b 16 1)), (4, .ref (b 16 2)), (5, .ref (b 16 3)), (6, .ref (b 16 4)), (7, .ref (b 17 0)), (8, .ref (b 17 1)), (9, .ref (b 17 2)), (10, .ref (b 17 3)), (11, .ref (b 17 4)), (12, .int v12), (13, .int v13), (15, .int v15), (16, .int v16), (17, .int v17), (18, .int v18)]) : W p l e RM9_would s m args below meth c H locs 0 0 (MQ below (qi_W (dC, dI) [(cI, .int), (cB, .object "DiceRoads$Board")] A q.1 (gY cI cB b q.2).flatten) args s 0 0 A) (F0 m 228 ls []) := by
  unfold f9_would_b228 at h
  obtain ⟨hx, hb, hr, hts, hown, hlocks, hml⟩ := id C
  refine lv_iload hx hb dL_would_228 (lv_at hl 17 rfl) ?_
  refine lv_iload hx hb dL_would_230 (lv_at hl 13 rfl) ?_
  refine lv_icmp_ge (tgt := 254) hx hb dL_would_232 (by decide) (fun hc => ?_) (fun hc => ?_)
  · have h := fo_it h hc
    refine lv_aload hx hb dL_would_254 (lv_at hl 8 rfl) ?_
    refine lv_bipush (v := (6 : Int32)) hx hb dL_would_256 (by decide) ?_
    refine lv_iload hx hb dL_would_258 (lv_at hl 12 rfl) ?_
    refine lv_imul hx hb dL_would_260 ?_
    obtain ⟨hi, h⟩ := fo_ck_some h
    refine va_iald hx hb hK hG.1 6 0 rfl rfl hi dL_would_261 ?_
    refine lv_istore (lv' := [(18, .int ((S.2.2 1) ((6 : Int32) * v12).toNatClampNeg)), (0, .ref (b 0 0)), (1, .int v1), (2, .ref (b 16 0)), (3, .ref (b 16 1)), (4, .ref (b 16 2)), (5, .ref (b 16 3)), (6, .ref (b 16 4)), (7, .ref (b 17 0)), (8, .ref (b 17 1)), (9, .ref (b 17 2)), (10, .ref (b 17 3)), (11, .ref (b 17 4)), (12, .int v12), (13, .int v13), (15, .int v15), (16, .int v16), (17, .int v17)]) hx hb dL_would_262 hl (by decide) rfl (fun ls hl => ?_)
    refine lv_iconst (v := (0 : Int32)) hx hb dL_would_264 (by decide) ?_
    refine lv_istore (lv' := [(19, .int (0 : Int32)), (18, .int ((S.2.2 1) ((6 : Int32) * v12).toNatClampNeg)), (0, .ref (b 0 0)), (1, .int v1), (2, .ref (b 16 0)), (3, .ref (b 16 1)), (4, .ref (b 16 2)), (5, .ref (b 16 3)), (6, .ref (b 16 4)), (7, .ref (b 17 0)), (8, .ref (b 17 1)), (9, .ref (b 17 2)), (10, .ref (b 17 3)), (11, .ref (b 17 4)), (12, .int v12), (13, .int v13), (15, .int v15), (16, .int v16), (17, .int v17)]) hx hb dL_would_265 hl (by decide) rfl (fun ls hl => ?_)
    exact w9_would_L267 C hK hA (fun h => hrec192 h) fo_fu h hG (lv_sub hl [2, 3, 4, 5, 6, 7, 8, 9, 10, 11, 12, 13, 14, 15, 16, 17, 18, 1, 0] rfl)
  · have h := fo_if h hc
    refine lv_aload hx hb dL_would_235 (lv_at hl 7 rfl) ?_
    refine lv_aload hx hb dL_would_237 (lv_at hl 8 rfl) ?_
    refine lv_aload hx hb dL_would_239 (lv_at hl 9 rfl) ?_
    refine lv_aload hx hb dL_would_241 (lv_at hl 10 rfl) ?_
    refine lv_aload hx hb dL_would_243 (lv_at hl 11 rfl) ?_
    obtain ⟨q245, hq245, h⟩ := fo_bd_some h
    refine gq_vS (gs := gY cI cB b S) (gs' := gY cI cB b (S.1, S.2.1, q245)) (As := [.ref (b 17 0), .ref (b 17 1), .ref (b 17 2), .ref (b 17 3), .ref (b 17 4)]) (rest := []) (wc := (wd_G cI (b 17) S.2.2)) (w1 := (wd_G cI (b 17) q245)) ⟨hx, hb, hml, hown, hts⟩ (c9_turn l (a := b 17) hq245) (va_cwS 5 hts gv_X9_56 rfl rfl rfl hd9_turn ⟨Nat.le_of_ble_eq_true rfl, Nat.le_of_ble_eq_true rfl⟩) hK [0] rfl hA hG [1] [0, 2] py_2 py_2 rfl rfl rfl rfl hl.1 rfl (Nat.le_of_ble_eq_true rfl) dL_would_245 ⟨Nat.zero_le _, Nat.zero_le _⟩ (fun H locs hG9 => ?_)
    have hG : gd_W (dC, dI) A s (gY cI cB b (S.1, S.2.1, q245)).flatten H locs := hG9
    refine lv_iinc (v := (v18 + (1 : Int32))) (lv' := [(18, .int (v18 + (1 : Int32))), (0, .ref (b 0 0)), (1, .int v1), (2, .ref (b 16 0)), (3, .ref (b 16 1)), (4, .ref (b 16 2)), (5, .ref (b 16 3)), (6, .ref (b 16 4)), (7, .ref (b 17 0)), (8, .ref (b 17 1)), (9, .ref (b 17 2)), (10, .ref (b 17 3)), (11, .ref (b 17 4)), (12, .int v12), (13, .int v13), (15, .int v15), (16, .int v16), (17, .int v17)]) hx hb dL_would_248 hl (k := 17) rfl rfl (by decide) rfl (fun ls hl => ?_)
    refine lv_goto (tgt := 228) hx hb dL_would_251 (by decide) ?_
    exact hrec228 h hG (lv_sub hl [1, 2, 3, 4, 5, 6, 7, 8, 9, 10, 11, 12, 13, 14, 15, 16, 17, 0] rfl)
set_option maxRecDepth 100000 in
set_option maxHeartbeats 4000000 in
theorem w9_would_L228 (C : cx_M p s m args meth c RL cL_would (some .boolean) 24) (hK : va_K (dC, dI) vwCl [(cI, .int), (cB, .object "DiceRoads$Board")] s) (hA : ∀ q, s.heap.size ≤ q → A q) {b : Nat → Nat → Nat} {q : (Int32 × ys_T)} {rec192 : Int32 → Int32 → Int32 → Int32 → Int32 → Int32 → ys_T → Option (Int32 × ys_T)} (hrec192 : ∀ {v1 : Int32} {v12 : Int32} {v13 : Int32} {v15 : Int32} {v16 : Int32} {v17 : Int32} {S : ys_T} , rec192 v1 v12 v13 v15 v16 v17 S = some q → ∀ {H : Heap} {locs : List Loc} {ls : Array Slot}, gd_W (dC, dI) A s (gY cI cB b S).flatten H locs → lv_has ls 24 [(0, .ref (b 0 0)), (1, .int v1), (2, .ref (b 16 0)), (3, .ref (b 16 1)), (4, .ref (b 16 2)), (5, .ref (b 16 3)), (6, .ref (b 16 4)), (7, .ref (b 17 0)), (8, .ref (b 17 1)), (9, .ref (b 17 2)), (10, .ref (b 17 3)), (11, .ref (b 17 4)), (12, .int v12), (13, .int v13), (15, .int v15), (16, .int v16), (17, .int v17)] → W p l e RM9_would s m args below meth c H locs 0 0 (MQ below (qi_W (dC, dI) [(cI, .int), (cB, .object "DiceRoads$Board")] A q.1 (gY cI cB b q.2).flatten) args s 0 0 A) (F0 m 192 ls [])) : ∀ (n : Nat) {v1 : Int32} {v12 : Int32} {v13 : Int32} {v15 : Int32} {v16 : Int32} {v17 : Int32} {v18 : Int32} {S : ys_T}, f9_would_L228 rec192 n v1 v12 v13 v15 v16 v17 v18 S = some q → ∀ {H : Heap} {locs : List Loc} {ls : Array Slot}, gd_W (dC, dI) A s (gY cI cB b S).flatten H locs → lv_has ls 24 [(0, .ref (b 0 0)), (1, .int v1), (2, .ref (b 16 0)), (3, .ref (b 16 1)), (4, .ref (b 16 2)), (5, .ref (b 16 3)), (6, .ref (b 16 4)), (7, .ref (b 17 0)), (8, .ref (b 17 1)), (9, .ref (b 17 2)), (10, .ref (b 17 3)), (11, .ref (b 17 4)), (12, .int v12), (13, .int v13), (15, .int v15), (16, .int v16), (17, .int v17), (18, .int v18)] → W p l e RM9_would s m args below meth c H locs 0 0 (MQ below (qi_W (dC, dI) [(cI, .int), (cB, .object "DiceRoads$Board")] A q.1 (gY cI cB b q.2).flatten) args s 0 0 A) (F0 m 228 ls []) := by
  intro n
  induction n with
  | zero => intro _ _ _ _ _ _ _ _ h; exact nomatch h
  | succ n ih => intro v1 v12 v13 v15 v16 v17 v18 S h H locs ls hG hl; exact w9_would_b228 C hK hA (fun h => hrec192 h) (fun h => ih h) (show f9_would_b228 rec192 (f9_would_L228 rec192 n) v1 v12 v13 v15 v16 v17 v18 S = some q from h) hG hl
set_option maxRecDepth 100000 in
set_option maxHeartbeats 4000000 in
theorem w9_would_b192 (C : cx_M p s m args meth c RL cL_would (some .boolean) 24) (hK : va_K (dC, dI) vwCl [(cI, .int), (cB, .object "DiceRoads$Board")] s) (hA : ∀ q, s.heap.size ≤ q → A q) {b : Nat → Nat → Nat} {q : (Int32 × ys_T)} {rec192 : Int32 → Int32 → Int32 → Int32 → Int32 → Int32 → ys_T → Option (Int32 × ys_T)} (hrec192 : ∀ {v1 : Int32} {v12 : Int32} {v13 : Int32} {v15 : Int32} {v16 : Int32} {v17 : Int32} {S : ys_T} , rec192 v1 v12 v13 v15 v16 v17 S = some q → ∀ {H : Heap} {locs : List Loc} {ls : Array Slot}, gd_W (dC, dI) A s (gY cI cB b S).flatten H locs → lv_has ls 24 [(0, .ref (b 0 0)), (1, .int v1), (2, .ref (b 16 0)), (3, .ref (b 16 1)), (4, .ref (b 16 2)), (5, .ref (b 16 3)), (6, .ref (b 16 4)), (7, .ref (b 17 0)), (8, .ref (b 17 1)), (9, .ref (b 17 2)), (10, .ref (b 17 3)), (11, .ref (b 17 4)), (12, .int v12), (13, .int v13), (15, .int v15), (16, .int v16), (17, .int v17)] → W p l e RM9_would s m args below meth c H locs 0 0 (MQ below (qi_W (dC, dI) [(cI, .int), (cB, .object "DiceRoads$Board")] A q.1 (gY cI cB b q.2).flatten) args s 0 0 A) (F0 m 192 ls [])) {v1 : Int32} {v12 : Int32} {v13 : Int32} {v15 : Int32} {v16 : Int32} {v17 : Int32} {S : ys_T} (h : f9_would_b192 rec192 v1 v12 v13 v15 v16 v17 S = some q) {H : Heap} {locs : List Loc} {ls : Array Slot} (hG : gd_W (dC, dI) A s (gY cI cB b S).flatten H locs) (hl : lv_has ls 24 [(0, .ref (b 0 0)), (1, .int v1), (2, .ref (b 16 0)), (3, .ref (b 16 1)), (4, .ref (b 16 2)), (5, .ref (b 16 3)), (6, .ref (b 16 4)), (7, .ref (b 17 0)), (8, .ref (b 17 1)), (9, .ref (b 17 2)), (10, .ref (b 17 3)), (11, .ref (b 17 4)), (12, .int v12), (13, .int v13), (15, .int v15), (16, .int v16), (17, .int v17)]) : W p l e RM9_would s m args below meth c H locs 0 0 (MQ below (qi_W (dC, dI) [(cI, .int), (cB, .object "DiceRoads$Board")] A q.1 (gY cI cB b q.2).flatten) args s 0 0 A) (F0 m 192 ls []) := by
  unfold f9_would_b192 at h
  obtain ⟨hx, hb, hr, hts, hown, hlocks, hml⟩ := id C
  refine lv_iload hx hb dL_would_192 (lv_at hl 16 rfl) ?_
  refine lv_if_lt (tgt := 329) hx hb dL_would_194 (by decide) (fun hc => ?_) (fun hc => ?_)
  · have h := fo_it h hc
    refine lv_aload_n hx hb dL_would_329 rfl (lv_at hl 0 rfl) ?_
    refine lv_iload hx hb dL_would_330 (lv_at hl 12 rfl) ?_
    refine lv_iload hx hb dL_would_332 (lv_at hl 13 rfl) ?_
    obtain ⟨q334, hq334, h⟩ := fo_bd_some h
    refine gq_iV (gs := gY cI cB b S) (gs' := gY cI cB b (q334.2, S.2)) (As := [.int v12, .int v13]) (rest := []) (wc := (gX cI cB b S.1).flatten) (w1 := (gX cI cB b q334.2).flatten) (b := b 0 0) (C := RX7) (ci := 6) (q0 := 0) ⟨hx, hb, hml, hown, hts⟩ (c7_bestSeed l hq334) (cwV 2 hts gv_X9_67 rfl rfl rfl hd7_bestSeed ⟨Nat.le_of_ble_eq_true rfl, Nat.le_of_ble_eq_true rfl⟩) hK [0, 1] rfl hA hG [2] [0, 1] py_0 py_0 (List.append_nil _) (List.append_nil _) rfl rfl rfl rfl hl.1 rfl (Nat.le_of_ble_eq_true rfl) dL_would_334 ⟨Nat.zero_le _, Nat.zero_le _⟩ (fun H locs hG9 => ?_)
    have hG : gd_W (dC, dI) A s (gY cI cB b (q334.2, S.2)).flatten H locs := hG9
    refine lv_iload hx hb dL_would_337 (lv_at hl 14 rfl) ?_
    refine lv_icmp_eq (tgt := 344) hx hb dL_would_339 (by decide) (fun hc => ?_) (fun hc => ?_)
    · have h := fo_it h hc
      refine lv_iload_n hx hb dL_would_344 rfl (lv_at hl 1 rfl) ?_
      refine lv_bipush (v := (6 : Int32)) hx hb dL_would_345 (by decide) ?_
      refine lv_ishr hx hb dL_would_347 ?_
      refine lv_aload_n hx hb dL_would_348 rfl (lv_at hl 2 rfl) ?_
      refine lv_bipush (v := (6 : Int32)) hx hb dL_would_349 (by decide) ?_
      obtain ⟨hi, h⟩ := fo_ck_some h
      refine va_iald hx hb hK hG.1 0 0 rfl rfl hi dL_would_351 ?_
      obtain ⟨q352, hq352, h⟩ := fo_bd_some h
      refine gq_iS (gs := gY cI cB b (q334.2, S.2)) (gs' := gY cI cB b (q334.2, S.2)) (As := [.int (v1 >>> ((6 : Int32) &&& 31)), .int (((q334.2, S.2).2.1 0) (6 : Int32).toNatClampNeg)]) (rest := []) (wc := ([] : va_W)) (w1 := ([] : va_W)) ⟨hx, hb, hml, hown, hts⟩ (c9_low l (a := b 0) hq352) (va_cwS 2 hts gv_X9_49 rfl rfl rfl hd9_low ⟨Nat.le_of_ble_eq_true rfl, Nat.le_of_ble_eq_true rfl⟩) hK [] rfl hA hG [] [0, 1, 2] py_3 py_3 rfl rfl rfl rfl hl.1 rfl (Nat.le_of_ble_eq_true rfl) dL_would_352 ⟨Nat.zero_le _, Nat.zero_le _⟩ (fun H locs hG9 => ?_)
      have hG : gd_W (dC, dI) A s (gY cI cB b (q334.2, S.2)).flatten H locs := hG9
      refine lv_istore (lv' := [(17, .int q352), (0, .ref (b 0 0)), (1, .int v1), (2, .ref (b 16 0)), (3, .ref (b 16 1)), (4, .ref (b 16 2)), (5, .ref (b 16 3)), (6, .ref (b 16 4)), (7, .ref (b 17 0)), (8, .ref (b 17 1)), (9, .ref (b 17 2)), (10, .ref (b 17 3)), (11, .ref (b 17 4)), (12, .int v12), (13, .int v13), (15, .int v15), (16, .int v16)]) hx hb dL_would_355 hl (by decide) rfl (fun ls hl => ?_)
      refine lv_iconst (v := (1 : Int32)) hx hb dL_would_357 (by decide) ?_
      refine lv_iload hx hb dL_would_358 (lv_at hl 13 rfl) ?_
      refine lv_ishl hx hb dL_would_360 ?_
      refine lv_istore (lv' := [(18, .int ((1 : Int32) <<< (v12 &&& 31))), (17, .int q352), (0, .ref (b 0 0)), (1, .int v1), (2, .ref (b 16 0)), (3, .ref (b 16 1)), (4, .ref (b 16 2)), (5, .ref (b 16 3)), (6, .ref (b 16 4)), (7, .ref (b 17 0)), (8, .ref (b 17 1)), (9, .ref (b 17 2)), (10, .ref (b 17 3)), (11, .ref (b 17 4)), (12, .int v12), (13, .int v13), (15, .int v15), (16, .int v16)]) hx hb dL_would_361 hl (by decide) rfl (fun ls hl => ?_)
      refine lv_bipush (v := (-6 : Int32)) hx hb dL_would_363 (by decide) ?_
      refine lv_istore (lv' := [(19, .int (-6 : Int32)), (18, .int ((1 : Int32) <<< (v12 &&& 31))), (17, .int q352), (0, .ref (b 0 0)), (1, .int v1), (2, .ref (b 16 0)), (3, .ref (b 16 1)), (4, .ref (b 16 2)), (5, .ref (b 16 3)), (6, .ref (b 16 4)), (7, .ref (b 17 0)), (8, .ref (b 17 1)), (9, .ref (b 17 2)), (10, .ref (b 17 3)), (11, .ref (b 17 4)), (12, .int v12), (13, .int v13), (15, .int v15), (16, .int v16)]) hx hb dL_would_365 hl (by decide) rfl (fun ls hl => ?_)
      refine lv_iconst (v := (1 : Int32)) hx hb dL_would_367 (by decide) ?_
      refine lv_istore (lv' := [(20, .int (1 : Int32)), (19, .int (-6 : Int32)), (18, .int ((1 : Int32) <<< (v12 &&& 31))), (17, .int q352), (0, .ref (b 0 0)), (1, .int v1), (2, .ref (b 16 0)), (3, .ref (b 16 1)), (4, .ref (b 16 2)), (5, .ref (b 16 3)), (6, .ref (b 16 4)), (7, .ref (b 17 0)), (8, .ref (b 17 1)), (9, .ref (b 17 2)), (10, .ref (b 17 3)), (11, .ref (b 17 4)), (12, .int v12), (13, .int v13), (15, .int v15), (16, .int v16)]) hx hb dL_would_368 hl (by decide) rfl (fun ls hl => ?_)
      exact w9_would_L370 C hK hA fo_fu h hG (lv_sub hl [4, 9, 16, 3, 2, 1, 0] rfl)
    · have h := fo_if h hc
      refine lv_iconst (v := (0 : Int32)) hx hb dL_would_342 (by decide) ?_
      obtain rfl := Option.some.inj h
      exact gr_z hx hb hr hlocks hK hG rfl rfl dL_would_343
  · have h := fo_if h hc
    refine lv_aload_n hx hb dL_would_197 rfl (lv_at hl 2 rfl) ?_
    refine lv_aload_n hx hb dL_would_198 rfl (lv_at hl 3 rfl) ?_
    refine lv_aload hx hb dL_would_199 (lv_at hl 4 rfl) ?_
    refine lv_aload hx hb dL_would_201 (lv_at hl 5 rfl) ?_
    refine lv_aload hx hb dL_would_203 (lv_at hl 6 rfl) ?_
    refine lv_aload hx hb dL_would_205 (lv_at hl 7 rfl) ?_
    refine lv_aload hx hb dL_would_207 (lv_at hl 8 rfl) ?_
    refine lv_aload hx hb dL_would_209 (lv_at hl 9 rfl) ?_
    refine lv_aload hx hb dL_would_211 (lv_at hl 10 rfl) ?_
    refine lv_aload hx hb dL_would_213 (lv_at hl 11 rfl) ?_
    obtain ⟨q215, hq215, h⟩ := fo_bd_some h
    refine gq_vS (gs := gY cI cB b S) (gs' := gY cI cB b (S.1, S.2.1, q215)) (As := [.ref (b 16 0), .ref (b 16 1), .ref (b 16 2), .ref (b 16 3), .ref (b 16 4), .ref (b 17 0), .ref (b 17 1), .ref (b 17 2), .ref (b 17 3), .ref (b 17 4)]) (rest := []) (wc := (wd_GG cI (fun k => if k < 5 then b 16 k else b 17 (k - 5)) S.2.1 S.2.2)) (w1 := (wd_GG cI (fun k => if k < 5 then b 16 k else b 17 (k - 5)) S.2.1 q215)) ⟨hx, hb, hml, hown, hts⟩ (c9_copy l (a := (fun k => if k < 5 then b 16 k else b 17 (k - 5))) (Z := S.2.1) hq215) (va_cwS 10 hts gv_X9_52 rfl rfl rfl hd9_copy ⟨Nat.le_of_ble_eq_true rfl, Nat.le_of_ble_eq_true rfl⟩) hK [0] rfl hA hG [0, 1] [2] py_4 py_4 rfl rfl rfl rfl hl.1 rfl (Nat.le_of_ble_eq_true rfl) dL_would_215 ⟨Nat.zero_le _, Nat.zero_le _⟩ (fun H locs hG9 => ?_)
    have hG : gd_W (dC, dI) A s (gY cI cB b (S.1, S.2.1, q215)).flatten H locs := hG9
    refine lv_aload hx hb dL_would_218 (lv_at hl 7 rfl) ?_
    refine lv_bipush (v := (8 : Int32)) hx hb dL_would_220 (by decide) ?_
    refine lv_iload hx hb dL_would_222 (lv_at hl 16 rfl) ?_
    obtain ⟨hi, h⟩ := fo_ck_some h
    obtain ⟨s224, es224, h⟩ := fo_bd_some h
    have es224 := Option.some.inj es224
    refine va_iast hx hb hK hG.1 hG.2.1 hG.2.2 5 0 rfl rfl hi dL_would_224 (fun H locs hP9 hD9 hS9 => ?_)
    have hG : gd_W (dC, dI) A s (gY cI cB b ((S.1, S.2.1, q215).1, (S.1, S.2.1, q215).2.1, ms_set (S.1, S.2.1, q215).2.2 0 (upd ((S.1, S.2.1, q215).2.2 0) (8 : Int32).toNatClampNeg v17))).flatten H locs := ⟨hP9, hD9, hS9⟩
    rw [es224] at hG
    refine lv_iconst (v := (0 : Int32)) hx hb dL_would_225 (by decide) ?_
    refine lv_istore (lv' := [(18, .int (0 : Int32)), (0, .ref (b 0 0)), (1, .int v1), (2, .ref (b 16 0)), (3, .ref (b 16 1)), (4, .ref (b 16 2)), (5, .ref (b 16 3)), (6, .ref (b 16 4)), (7, .ref (b 17 0)), (8, .ref (b 17 1)), (9, .ref (b 17 2)), (10, .ref (b 17 3)), (11, .ref (b 17 4)), (12, .int v12), (13, .int v13), (15, .int v15), (16, .int v16), (17, .int v17)]) hx hb dL_would_226 hl (by decide) rfl (fun ls hl => ?_)
    exact w9_would_L228 C hK hA (fun h => hrec192 h) fo_fu h hG (lv_sub hl [1, 2, 3, 4, 5, 6, 7, 8, 9, 10, 11, 12, 13, 14, 15, 16, 17, 0] rfl)
set_option maxRecDepth 100000 in
set_option maxHeartbeats 4000000 in
theorem w9_would_L192 (C : cx_M p s m args meth c RL cL_would (some .boolean) 24) (hK : va_K (dC, dI) vwCl [(cI, .int), (cB, .object "DiceRoads$Board")] s) (hA : ∀ q, s.heap.size ≤ q → A q) {b : Nat → Nat → Nat} {q : (Int32 × ys_T)} : ∀ (n : Nat) {v1 : Int32} {v12 : Int32} {v13 : Int32} {v15 : Int32} {v16 : Int32} {v17 : Int32} {S : ys_T}, f9_would_L192 n v1 v12 v13 v15 v16 v17 S = some q → ∀ {H : Heap} {locs : List Loc} {ls : Array Slot}, gd_W (dC, dI) A s (gY cI cB b S).flatten H locs → lv_has ls 24 [(0, .ref (b 0 0)), (1, .int v1), (2, .ref (b 16 0)), (3, .ref (b 16 1)), (4, .ref (b 16 2)), (5, .ref (b 16 3)), (6, .ref (b 16 4)), (7, .ref (b 17 0)), (8, .ref (b 17 1)), (9, .ref (b 17 2)), (10, .ref (b 17 3)), (11, .ref (b 17 4)), (12, .int v12), (13, .int v13), (15, .int v15), (16, .int v16), (17, .int v17)] → W p l e RM9_would s m args below meth c H locs 0 0 (MQ below (qi_W (dC, dI) [(cI, .int), (cB, .object "DiceRoads$Board")] A q.1 (gY cI cB b q.2).flatten) args s 0 0 A) (F0 m 192 ls []) := by
  intro n
  induction n with
  | zero => intro _ _ _ _ _ _ _ h; exact nomatch h
  | succ n ih => intro v1 v12 v13 v15 v16 v17 S h H locs ls hG hl; exact w9_would_b192 C hK hA (fun h => ih h) (show f9_would_b192 (f9_would_L192 n) v1 v12 v13 v15 v16 v17 S = some q from h) hG hl
set_option maxRecDepth 100000 in
set_option maxHeartbeats 4000000 in
theorem w9_would_b134 (C : cx_M p s m args meth c RL cL_would (some .boolean) 24) (hK : va_K (dC, dI) vwCl [(cI, .int), (cB, .object "DiceRoads$Board")] s) (hA : ∀ q, s.heap.size ≤ q → A q) {b : Nat → Nat → Nat} {q : (Int32 × ys_T)} {rec134 : Int32 → Int32 → Int32 → Int32 → ys_T → Option (Int32 × ys_T)} (hrec134 : ∀ {v1 : Int32} {v12 : Int32} {v13 : Int32} {v15 : Int32} {S : ys_T} , rec134 v1 v12 v13 v15 S = some q → ∀ {H : Heap} {locs : List Loc} {ls : Array Slot}, gd_W (dC, dI) A s (gY cI cB b S).flatten H locs → lv_has ls 24 [(0, .ref (b 0 0)), (1, .int v1), (2, .ref (b 16 0)), (3, .ref (b 16 1)), (4, .ref (b 16 2)), (5, .ref (b 16 3)), (6, .ref (b 16 4)), (7, .ref (b 17 0)), (8, .ref (b 17 1)), (9, .ref (b 17 2)), (10, .ref (b 17 3)), (11, .ref (b 17 4)), (12, .int v12), (13, .int v13), (15, .int v15)] → W p l e RM9_would s m args below meth c H locs 0 0 (MQ below (qi_W (dC, dI) [(cI, .int), (cB, .object "DiceRoads$Board")] A q.1 (gY cI cB b q.2).flatten) args s 0 0 A) (F0 m 134 ls [])) {v1 : Int32} {v12 : Int32} {v13 : Int32} {v15 : Int32} {S : ys_T} (h : f9_would_b134 rec134 v1 v12 v13 v15 S = some q) {H : Heap} {locs : List Loc} {ls : Array Slot} (hG : gd_W (dC, dI) A s (gY cI cB b S).flatten H locs) (hl : lv_has ls 24 [(0, .ref (b 0 0)), (1, .int v1), (2, .ref (b 16 0)), (3, .ref (b 16 1)), (4, .ref (b 16 2)), (5, .ref (b 16 3)), (6, .ref (b 16 4)), (7, .ref (b 17 0)), (8, .ref (b 17 1)), (9, .ref (b 17 2)), (10, .ref (b 17 3)), (11, .ref (b 17 4)), (12, .int v12), (13, .int v13), (15, .int v15)]) : W p l e RM9_would s m args below meth c H locs 0 0 (MQ below (qi_W (dC, dI) [(cI, .int), (cB, .object "DiceRoads$Board")] A q.1 (gY cI cB b q.2).flatten) args s 0 0 A) (F0 m 134 ls []) := by
  unfold f9_would_b134 at h
  obtain ⟨hx, hb, hr, hts, hown, hlocks, hml⟩ := id C
  refine lv_iload hx hb dL_would_134 (lv_at hl 14 rfl) ?_
  refine lv_iload hx hb dL_would_136 (lv_at hl 13 rfl) ?_
  refine lv_icmp_ge (tgt := 160) hx hb dL_would_138 (by decide) (fun hc => ?_) (fun hc => ?_)
  · have h := fo_it h hc
    refine lv_aload_n hx hb dL_would_160 rfl (lv_at hl 0 rfl) ?_
    refine lv_iload hx hb dL_would_161 (lv_at hl 12 rfl) ?_
    refine lv_iload hx hb dL_would_163 (lv_at hl 13 rfl) ?_
    obtain ⟨q165, hq165, h⟩ := fo_bd_some h
    refine gq_iV (gs := gY cI cB b S) (gs' := gY cI cB b (q165.2, S.2)) (As := [.int v12, .int v13]) (rest := []) (wc := (gX cI cB b S.1).flatten) (w1 := (gX cI cB b q165.2).flatten) (b := b 0 0) (C := RX7) (ci := 6) (q0 := 0) ⟨hx, hb, hml, hown, hts⟩ (c7_purseIn l hq165) (cwV 2 hts gv_X9_63 rfl rfl rfl hd7_purseIn ⟨Nat.le_of_ble_eq_true rfl, Nat.le_of_ble_eq_true rfl⟩) hK [0, 1] rfl hA hG [2] [0, 1] py_0 py_0 (List.append_nil _) (List.append_nil _) rfl rfl rfl rfl hl.1 rfl (Nat.le_of_ble_eq_true rfl) dL_would_165 ⟨Nat.zero_le _, Nat.zero_le _⟩ (fun H locs hG9 => ?_)
    have hG : gd_W (dC, dI) A s (gY cI cB b (q165.2, S.2)).flatten H locs := hG9
    refine lv_aload hx hb dL_would_168 (lv_at hl 8 rfl) ?_
    refine lv_bipush (v := (6 : Int32)) hx hb dL_would_170 (by decide) ?_
    refine lv_iload hx hb dL_would_172 (lv_at hl 12 rfl) ?_
    refine lv_imul hx hb dL_would_174 ?_
    obtain ⟨hi, h⟩ := fo_ck_some h
    refine va_iald hx hb hK hG.1 6 0 rfl rfl hi dL_would_175 ?_
    refine lv_icmp_eq (tgt := 181) hx hb dL_would_176 (by decide) (fun hc => ?_) (fun hc => ?_)
    · have h := fo_it h hc
      refine lv_iconst (v := (0 : Int32)) hx hb dL_would_181 (by decide) ?_
      refine lv_istore (lv' := [(15, .int (0 : Int32)), (0, .ref (b 0 0)), (1, .int v1), (2, .ref (b 16 0)), (3, .ref (b 16 1)), (4, .ref (b 16 2)), (5, .ref (b 16 3)), (6, .ref (b 16 4)), (7, .ref (b 17 0)), (8, .ref (b 17 1)), (9, .ref (b 17 2)), (10, .ref (b 17 3)), (11, .ref (b 17 4)), (12, .int v12), (13, .int v13)]) hx hb dL_would_182 hl (by decide) rfl (fun ls hl => ?_)
      refine lv_ldc (v := (-9999999 : Int32)) hx hb hown (hts (Cond.constant RL 66 (-9999999)) wr_544) dL_would_184 ?_
      refine lv_istore (lv' := [(16, .int (-9999999 : Int32)), (15, .int (0 : Int32)), (0, .ref (b 0 0)), (1, .int v1), (2, .ref (b 16 0)), (3, .ref (b 16 1)), (4, .ref (b 16 2)), (5, .ref (b 16 3)), (6, .ref (b 16 4)), (7, .ref (b 17 0)), (8, .ref (b 17 1)), (9, .ref (b 17 2)), (10, .ref (b 17 3)), (11, .ref (b 17 4)), (12, .int v12), (13, .int v13)]) hx hb dL_would_186 hl (by decide) rfl (fun ls hl => ?_)
      refine lv_bipush (v := (49 : Int32)) hx hb dL_would_188 (by decide) ?_
      refine lv_istore (lv' := [(17, .int (49 : Int32)), (16, .int (-9999999 : Int32)), (15, .int (0 : Int32)), (0, .ref (b 0 0)), (1, .int v1), (2, .ref (b 16 0)), (3, .ref (b 16 1)), (4, .ref (b 16 2)), (5, .ref (b 16 3)), (6, .ref (b 16 4)), (7, .ref (b 17 0)), (8, .ref (b 17 1)), (9, .ref (b 17 2)), (10, .ref (b 17 3)), (11, .ref (b 17 4)), (12, .int v12), (13, .int v13)]) hx hb dL_would_190 hl (by decide) rfl (fun ls hl => ?_)
      exact w9_would_L192 C hK hA fo_fu h hG (lv_sub hl [3, 4, 5, 6, 7, 8, 9, 10, 11, 12, 13, 14, 15, 16, 2, 1, 0] rfl)
    · have h := fo_if h hc
      refine lv_iconst (v := (0 : Int32)) hx hb dL_would_179 (by decide) ?_
      obtain rfl := Option.some.inj h
      exact gr_z hx hb hr hlocks hK hG rfl rfl dL_would_180
  · have h := fo_if h hc
    refine lv_aload hx hb dL_would_141 (lv_at hl 7 rfl) ?_
    refine lv_aload hx hb dL_would_143 (lv_at hl 8 rfl) ?_
    refine lv_aload hx hb dL_would_145 (lv_at hl 9 rfl) ?_
    refine lv_aload hx hb dL_would_147 (lv_at hl 10 rfl) ?_
    refine lv_aload hx hb dL_would_149 (lv_at hl 11 rfl) ?_
    obtain ⟨q151, hq151, h⟩ := fo_bd_some h
    refine gq_vS (gs := gY cI cB b S) (gs' := gY cI cB b (S.1, S.2.1, q151)) (As := [.ref (b 17 0), .ref (b 17 1), .ref (b 17 2), .ref (b 17 3), .ref (b 17 4)]) (rest := []) (wc := (wd_G cI (b 17) S.2.2)) (w1 := (wd_G cI (b 17) q151)) ⟨hx, hb, hml, hown, hts⟩ (c9_turn l (a := b 17) hq151) (va_cwS 5 hts gv_X9_56 rfl rfl rfl hd9_turn ⟨Nat.le_of_ble_eq_true rfl, Nat.le_of_ble_eq_true rfl⟩) hK [0] rfl hA hG [1] [0, 2] py_2 py_2 rfl rfl rfl rfl hl.1 rfl (Nat.le_of_ble_eq_true rfl) dL_would_151 ⟨Nat.zero_le _, Nat.zero_le _⟩ (fun H locs hG9 => ?_)
    have hG : gd_W (dC, dI) A s (gY cI cB b (S.1, S.2.1, q151)).flatten H locs := hG9
    refine lv_iinc (v := (v15 + (1 : Int32))) (lv' := [(15, .int (v15 + (1 : Int32))), (0, .ref (b 0 0)), (1, .int v1), (2, .ref (b 16 0)), (3, .ref (b 16 1)), (4, .ref (b 16 2)), (5, .ref (b 16 3)), (6, .ref (b 16 4)), (7, .ref (b 17 0)), (8, .ref (b 17 1)), (9, .ref (b 17 2)), (10, .ref (b 17 3)), (11, .ref (b 17 4)), (12, .int v12), (13, .int v13)]) hx hb dL_would_154 hl (k := 14) rfl rfl (by decide) rfl (fun ls hl => ?_)
    refine lv_goto (tgt := 134) hx hb dL_would_157 (by decide) ?_
    exact hrec134 h hG (lv_sub hl [1, 2, 3, 4, 5, 6, 7, 8, 9, 10, 11, 12, 13, 14, 0] rfl)
set_option maxRecDepth 100000 in
set_option maxHeartbeats 4000000 in
theorem w9_would_L134 (C : cx_M p s m args meth c RL cL_would (some .boolean) 24) (hK : va_K (dC, dI) vwCl [(cI, .int), (cB, .object "DiceRoads$Board")] s) (hA : ∀ q, s.heap.size ≤ q → A q) {b : Nat → Nat → Nat} {q : (Int32 × ys_T)} : ∀ (n : Nat) {v1 : Int32} {v12 : Int32} {v13 : Int32} {v15 : Int32} {S : ys_T}, f9_would_L134 n v1 v12 v13 v15 S = some q → ∀ {H : Heap} {locs : List Loc} {ls : Array Slot}, gd_W (dC, dI) A s (gY cI cB b S).flatten H locs → lv_has ls 24 [(0, .ref (b 0 0)), (1, .int v1), (2, .ref (b 16 0)), (3, .ref (b 16 1)), (4, .ref (b 16 2)), (5, .ref (b 16 3)), (6, .ref (b 16 4)), (7, .ref (b 17 0)), (8, .ref (b 17 1)), (9, .ref (b 17 2)), (10, .ref (b 17 3)), (11, .ref (b 17 4)), (12, .int v12), (13, .int v13), (15, .int v15)] → W p l e RM9_would s m args below meth c H locs 0 0 (MQ below (qi_W (dC, dI) [(cI, .int), (cB, .object "DiceRoads$Board")] A q.1 (gY cI cB b q.2).flatten) args s 0 0 A) (F0 m 134 ls []) := by
  intro n
  induction n with
  | zero => intro _ _ _ _ _ h; exact nomatch h
  | succ n ih => intro v1 v12 v13 v15 S h H locs ls hG hl; exact w9_would_b134 C hK hA (fun h => ih h) (show f9_would_b134 (f9_would_L134 n) v1 v12 v13 v15 S = some q from h) hG hl
set_option maxRecDepth 100000 in
set_option maxHeartbeats 4000000 in
theorem w9_would_b105 (C : cx_M p s m args meth c RL cL_would (some .boolean) 24) (hK : va_K (dC, dI) vwCl [(cI, .int), (cB, .object "DiceRoads$Board")] s) (hA : ∀ q, s.heap.size ≤ q → A q) {b : Nat → Nat → Nat} {q : (Int32 × ys_T)} {v1 : Int32} {v12 : Int32} {v13 : Int32} {t0 : Int32} {t1 : Int32} {S : ys_T} (h : f9_would_b105 v1 v12 v13 t0 t1 S = some q) {H : Heap} {locs : List Loc} {ls : Array Slot} (hG : gd_W (dC, dI) A s (gY cI cB b S).flatten H locs) (hl : lv_has ls 24 [(0, .ref (b 0 0)), (1, .int v1), (2, .ref (b 16 0)), (3, .ref (b 16 1)), (4, .ref (b 16 2)), (5, .ref (b 16 3)), (6, .ref (b 16 4)), (7, .ref (b 17 0)), (8, .ref (b 17 1)), (9, .ref (b 17 2)), (10, .ref (b 17 3)), (11, .ref (b 17 4)), (12, .int v12), (13, .int v13)]) : W p l e RM9_would s m args below meth c H locs 0 0 (MQ below (qi_W (dC, dI) [(cI, .int), (cB, .object "DiceRoads$Board")] A q.1 (gY cI cB b q.2).flatten) args s 0 0 A) (F0 m 105 ls [.int t1, .int t0]) := by
  unfold f9_would_b105 at h
  obtain ⟨hx, hb, hr, hts, hown, hlocks, hml⟩ := id C
  refine lv_icmp_eq (tgt := 110) hx hb dL_would_105 (by decide) (fun hc => ?_) (fun hc => ?_)
  · have h := fo_it h hc
    refine lv_aload_n hx hb dL_would_110 rfl (lv_at hl 2 rfl) ?_
    refine lv_aload_n hx hb dL_would_111 rfl (lv_at hl 3 rfl) ?_
    refine lv_aload hx hb dL_would_112 (lv_at hl 4 rfl) ?_
    refine lv_aload hx hb dL_would_114 (lv_at hl 5 rfl) ?_
    refine lv_aload hx hb dL_would_116 (lv_at hl 6 rfl) ?_
    refine lv_aload hx hb dL_would_118 (lv_at hl 7 rfl) ?_
    refine lv_aload hx hb dL_would_120 (lv_at hl 8 rfl) ?_
    refine lv_aload hx hb dL_would_122 (lv_at hl 9 rfl) ?_
    refine lv_aload hx hb dL_would_124 (lv_at hl 10 rfl) ?_
    refine lv_aload hx hb dL_would_126 (lv_at hl 11 rfl) ?_
    obtain ⟨q128, hq128, h⟩ := fo_bd_some h
    refine gq_vS (gs := gY cI cB b S) (gs' := gY cI cB b (S.1, S.2.1, q128)) (As := [.ref (b 16 0), .ref (b 16 1), .ref (b 16 2), .ref (b 16 3), .ref (b 16 4), .ref (b 17 0), .ref (b 17 1), .ref (b 17 2), .ref (b 17 3), .ref (b 17 4)]) (rest := []) (wc := (wd_GG cI (fun k => if k < 5 then b 16 k else b 17 (k - 5)) S.2.1 S.2.2)) (w1 := (wd_GG cI (fun k => if k < 5 then b 16 k else b 17 (k - 5)) S.2.1 q128)) ⟨hx, hb, hml, hown, hts⟩ (c9_copy l (a := (fun k => if k < 5 then b 16 k else b 17 (k - 5))) (Z := S.2.1) hq128) (va_cwS 10 hts gv_X9_52 rfl rfl rfl hd9_copy ⟨Nat.le_of_ble_eq_true rfl, Nat.le_of_ble_eq_true rfl⟩) hK [0] rfl hA hG [0, 1] [2] py_4 py_4 rfl rfl rfl rfl hl.1 rfl (Nat.le_of_ble_eq_true rfl) dL_would_128 ⟨Nat.zero_le _, Nat.zero_le _⟩ (fun H locs hG9 => ?_)
    have hG : gd_W (dC, dI) A s (gY cI cB b (S.1, S.2.1, q128)).flatten H locs := hG9
    refine lv_iconst (v := (0 : Int32)) hx hb dL_would_131 (by decide) ?_
    refine lv_istore (lv' := [(15, .int (0 : Int32)), (0, .ref (b 0 0)), (1, .int v1), (2, .ref (b 16 0)), (3, .ref (b 16 1)), (4, .ref (b 16 2)), (5, .ref (b 16 3)), (6, .ref (b 16 4)), (7, .ref (b 17 0)), (8, .ref (b 17 1)), (9, .ref (b 17 2)), (10, .ref (b 17 3)), (11, .ref (b 17 4)), (12, .int v12), (13, .int v13)]) hx hb dL_would_132 hl (by decide) rfl (fun ls hl => ?_)
    exact w9_would_L134 C hK hA fo_fu h hG (lv_sub hl [1, 2, 3, 4, 5, 6, 7, 8, 9, 10, 11, 12, 13, 14, 0] rfl)
  · have h := fo_if h hc
    refine lv_iconst (v := (0 : Int32)) hx hb dL_would_108 (by decide) ?_
    obtain rfl := Option.some.inj h
    exact gr_z hx hb hr hlocks hK hG rfl rfl dL_would_109
set_option maxRecDepth 100000 in
set_option maxHeartbeats 4000000 in
theorem w9_would_b84 (C : cx_M p s m args meth c RL cL_would (some .boolean) 24) (hK : va_K (dC, dI) vwCl [(cI, .int), (cB, .object "DiceRoads$Board")] s) (hA : ∀ q, s.heap.size ≤ q → A q) {b : Nat → Nat → Nat} {q : (Int32 × ys_T)} {v1 : Int32} {v12 : Int32} {v13 : Int32} {v14 : Int32} {S : ys_T} (h : f9_would_b84 v1 v12 v13 v14 S = some q) {H : Heap} {locs : List Loc} {ls : Array Slot} (hG : gd_W (dC, dI) A s (gY cI cB b S).flatten H locs) (hl : lv_has ls 24 [(0, .ref (b 0 0)), (1, .int v1), (2, .ref (b 16 0)), (3, .ref (b 16 1)), (4, .ref (b 16 2)), (5, .ref (b 16 3)), (6, .ref (b 16 4)), (7, .ref (b 17 0)), (8, .ref (b 17 1)), (9, .ref (b 17 2)), (10, .ref (b 17 3)), (11, .ref (b 17 4)), (12, .int v12), (13, .int v13), (14, .int v14)]) : W p l e RM9_would s m args below meth c H locs 0 0 (MQ below (qi_W (dC, dI) [(cI, .int), (cB, .object "DiceRoads$Board")] A q.1 (gY cI cB b q.2).flatten) args s 0 0 A) (F0 m 84 ls []) := by
  unfold f9_would_b84 at h
  obtain ⟨hx, hb, hr, hts, hown, hlocks, hml⟩ := id C
  refine lv_aload_n hx hb dL_would_84 rfl (lv_at hl 0 rfl) ?_
  refine lv_iload hx hb dL_would_85 (lv_at hl 12 rfl) ?_
  obtain ⟨q87, hq87, h⟩ := fo_bd_some h
  refine gq_iV (gs := gY cI cB b S) (gs' := gY cI cB b (q87.2, S.2)) (As := [.int v12]) (rest := []) (wc := (gX cI cB b S.1).flatten) (w1 := (gX cI cB b q87.2).flatten) (b := b 0 0) (C := RX7) (ci := 6) (q0 := 0) ⟨hx, hb, hml, hown, hts⟩ (c7_emptyIn l hq87) (cwV 1 hts gv_X9_60 rfl rfl rfl hd7_emptyIn ⟨Nat.le_of_ble_eq_true rfl, Nat.le_of_ble_eq_true rfl⟩) hK [0, 1] rfl hA hG [2] [0, 1] py_0 py_0 (List.append_nil _) (List.append_nil _) rfl rfl rfl rfl hl.1 rfl (Nat.le_of_ble_eq_true rfl) dL_would_87 ⟨Nat.zero_le _, Nat.zero_le _⟩ (fun H locs hG9 => ?_)
  have hG : gd_W (dC, dI) A s (gY cI cB b (q87.2, S.2)).flatten H locs := hG9
  refine lv_iload hx hb dL_would_90 (lv_at hl 14 rfl) ?_
  refine lv_sipush (v := (400 : Int32)) hx hb dL_would_92 (by decide) ?_
  refine lv_icmp_le (tgt := 103) hx hb dL_would_95 (by decide) (fun hc => ?_) (fun hc => ?_)
  · have h := fo_it h hc
    refine lv_iload hx hb dL_would_103 (lv_at hl 14 rfl) ?_
    exact w9_would_b105 C hK hA h hG (lv_sub hl [0, 1, 2, 3, 4, 5, 6, 7, 8, 9, 10, 11, 12, 13] rfl)
  · have h := fo_if h hc
    refine lv_bipush (v := (-6 : Int32)) hx hb dL_would_98 (by decide) ?_
    refine lv_goto (tgt := 105) hx hb dL_would_100 (by decide) ?_
    exact w9_would_b105 C hK hA h hG (lv_sub hl [0, 1, 2, 3, 4, 5, 6, 7, 8, 9, 10, 11, 12, 13] rfl)
set_option maxRecDepth 100000 in
set_option maxHeartbeats 4000000 in
theorem w9_would_b46 (C : cx_M p s m args meth c RL cL_would (some .boolean) 24) (hK : va_K (dC, dI) vwCl [(cI, .int), (cB, .object "DiceRoads$Board")] s) (hA : ∀ q, s.heap.size ≤ q → A q) {b : Nat → Nat → Nat} {q : (Int32 × ys_T)} {rec46 : Int32 → Int32 → Int32 → Int32 → ys_T → Option (Int32 × ys_T)} (hrec46 : ∀ {v1 : Int32} {v12 : Int32} {v13 : Int32} {v14 : Int32} {S : ys_T} , rec46 v1 v12 v13 v14 S = some q → ∀ {H : Heap} {locs : List Loc} {ls : Array Slot}, gd_W (dC, dI) A s (gY cI cB b S).flatten H locs → lv_has ls 24 [(0, .ref (b 0 0)), (1, .int v1), (2, .ref (b 16 0)), (3, .ref (b 16 1)), (4, .ref (b 16 2)), (5, .ref (b 16 3)), (6, .ref (b 16 4)), (7, .ref (b 17 0)), (8, .ref (b 17 1)), (9, .ref (b 17 2)), (10, .ref (b 17 3)), (11, .ref (b 17 4)), (12, .int v12), (13, .int v13), (14, .int v14)] → W p l e RM9_would s m args below meth c H locs 0 0 (MQ below (qi_W (dC, dI) [(cI, .int), (cB, .object "DiceRoads$Board")] A q.1 (gY cI cB b q.2).flatten) args s 0 0 A) (F0 m 46 ls [])) {v1 : Int32} {v12 : Int32} {v13 : Int32} {v14 : Int32} {S : ys_T} (h : f9_would_b46 rec46 v1 v12 v13 v14 S = some q) {H : Heap} {locs : List Loc} {ls : Array Slot} (hG : gd_W (dC, dI) A s (gY cI cB b S).flatten H locs) (hl : lv_has ls 24 [(0, .ref (b 0 0)), (1, .int v1), (2, .ref (b 16 0)), (3, .ref (b 16 1)), (4, .ref (b 16 2)), (5, .ref (b 16 3)), (6, .ref (b 16 4)), (7, .ref (b 17 0)), (8, .ref (b 17 1)), (9, .ref (b 17 2)), (10, .ref (b 17 3)), (11, .ref (b 17 4)), (12, .int v12), (13, .int v13), (14, .int v14)]) : W p l e RM9_would s m args below meth c H locs 0 0 (MQ below (qi_W (dC, dI) [(cI, .int), (cB, .object "DiceRoads$Board")] A q.1 (gY cI cB b q.2).flatten) args s 0 0 A) (F0 m 46 ls []) := by
  unfold f9_would_b46 at h
  obtain ⟨hx, hb, hr, hts, hown, hlocks, hml⟩ := id C
  refine lv_aload hx hb dL_would_46 (lv_at hl 8 rfl) ?_
  refine lv_bipush (v := (6 : Int32)) hx hb dL_would_48 (by decide) ?_
  refine lv_iload hx hb dL_would_50 (lv_at hl 12 rfl) ?_
  refine lv_imul hx hb dL_would_52 ?_
  obtain ⟨hi, h⟩ := fo_ck_some h
  refine va_iald hx hb hK hG.1 6 0 rfl rfl hi dL_would_53 ?_
  refine lv_if_le (tgt := 84) hx hb dL_would_54 (by decide) (fun hc => ?_) (fun hc => ?_)
  · have h := fo_it h hc
    exact w9_would_b84 C hK hA h hG (lv_sub hl [0, 1, 2, 3, 4, 5, 6, 7, 8, 9, 10, 11, 12, 13, 14] rfl)
  · have h := fo_if h hc
    refine lv_iload hx hb dL_would_57 (lv_at hl 14 rfl) ?_
    refine lv_sipush (v := (401 : Int32)) hx hb dL_would_59 (by decide) ?_
    refine lv_icmp_ge (tgt := 84) hx hb dL_would_62 (by decide) (fun hc => ?_) (fun hc => ?_)
    · have h := fo_it h hc
      exact w9_would_b84 C hK hA h hG (lv_sub hl [0, 1, 2, 3, 4, 5, 6, 7, 8, 9, 10, 11, 12, 13, 14] rfl)
    · have h := fo_if h hc
      refine lv_aload hx hb dL_would_65 (lv_at hl 7 rfl) ?_
      refine lv_aload hx hb dL_would_67 (lv_at hl 8 rfl) ?_
      refine lv_aload hx hb dL_would_69 (lv_at hl 9 rfl) ?_
      refine lv_aload hx hb dL_would_71 (lv_at hl 10 rfl) ?_
      refine lv_aload hx hb dL_would_73 (lv_at hl 11 rfl) ?_
      obtain ⟨q75, hq75, h⟩ := fo_bd_some h
      refine gq_vS (gs := gY cI cB b S) (gs' := gY cI cB b (S.1, S.2.1, q75)) (As := [.ref (b 17 0), .ref (b 17 1), .ref (b 17 2), .ref (b 17 3), .ref (b 17 4)]) (rest := []) (wc := (wd_G cI (b 17) S.2.2)) (w1 := (wd_G cI (b 17) q75)) ⟨hx, hb, hml, hown, hts⟩ (c9_turn l (a := b 17) hq75) (va_cwS 5 hts gv_X9_56 rfl rfl rfl hd9_turn ⟨Nat.le_of_ble_eq_true rfl, Nat.le_of_ble_eq_true rfl⟩) hK [0] rfl hA hG [1] [0, 2] py_2 py_2 rfl rfl rfl rfl hl.1 rfl (Nat.le_of_ble_eq_true rfl) dL_would_75 ⟨Nat.zero_le _, Nat.zero_le _⟩ (fun H locs hG9 => ?_)
      have hG : gd_W (dC, dI) A s (gY cI cB b (S.1, S.2.1, q75)).flatten H locs := hG9
      refine lv_iinc (v := (v14 + (1 : Int32))) (lv' := [(14, .int (v14 + (1 : Int32))), (0, .ref (b 0 0)), (1, .int v1), (2, .ref (b 16 0)), (3, .ref (b 16 1)), (4, .ref (b 16 2)), (5, .ref (b 16 3)), (6, .ref (b 16 4)), (7, .ref (b 17 0)), (8, .ref (b 17 1)), (9, .ref (b 17 2)), (10, .ref (b 17 3)), (11, .ref (b 17 4)), (12, .int v12), (13, .int v13)]) hx hb dL_would_78 hl (k := 14) rfl rfl (by decide) rfl (fun ls hl => ?_)
      refine lv_goto (tgt := 46) hx hb dL_would_81 (by decide) ?_
      exact hrec46 h hG (lv_sub hl [1, 2, 3, 4, 5, 6, 7, 8, 9, 10, 11, 12, 13, 14, 0] rfl)
set_option maxRecDepth 100000 in
set_option maxHeartbeats 4000000 in
theorem w9_would_L46 (C : cx_M p s m args meth c RL cL_would (some .boolean) 24) (hK : va_K (dC, dI) vwCl [(cI, .int), (cB, .object "DiceRoads$Board")] s) (hA : ∀ q, s.heap.size ≤ q → A q) {b : Nat → Nat → Nat} {q : (Int32 × ys_T)} : ∀ (n : Nat) {v1 : Int32} {v12 : Int32} {v13 : Int32} {v14 : Int32} {S : ys_T}, f9_would_L46 n v1 v12 v13 v14 S = some q → ∀ {H : Heap} {locs : List Loc} {ls : Array Slot}, gd_W (dC, dI) A s (gY cI cB b S).flatten H locs → lv_has ls 24 [(0, .ref (b 0 0)), (1, .int v1), (2, .ref (b 16 0)), (3, .ref (b 16 1)), (4, .ref (b 16 2)), (5, .ref (b 16 3)), (6, .ref (b 16 4)), (7, .ref (b 17 0)), (8, .ref (b 17 1)), (9, .ref (b 17 2)), (10, .ref (b 17 3)), (11, .ref (b 17 4)), (12, .int v12), (13, .int v13), (14, .int v14)] → W p l e RM9_would s m args below meth c H locs 0 0 (MQ below (qi_W (dC, dI) [(cI, .int), (cB, .object "DiceRoads$Board")] A q.1 (gY cI cB b q.2).flatten) args s 0 0 A) (F0 m 46 ls []) := by
  intro n
  induction n with
  | zero => intro _ _ _ _ _ h; exact nomatch h
  | succ n ih => intro v1 v12 v13 v14 S h H locs ls hG hl; exact w9_would_b46 C hK hA (fun h => ih h) (show f9_would_b46 (f9_would_L46 n) v1 v12 v13 v14 S = some q from h) hG hl
set_option maxRecDepth 100000 in
set_option maxHeartbeats 4000000 in
theorem w9_would (C : cx_M p s m args meth c RL cL_would (some .boolean) 24) (hK : va_K (dC, dI) vwCl [(cI, .int), (cB, .object "DiceRoads$Board")] s) (hA : ∀ q, s.heap.size ≤ q → A q) {b : Nat → Nat → Nat} {q : (Int32 × ys_T)} {v1 : Int32} {S : ys_T} (h : f9_would v1 S = some q) {H : Heap} {locs : List Loc} {ls : Array Slot} (hG : gd_W (dC, dI) A s (gY cI cB b S).flatten H locs) (hl : lv_has ls 24 [(0, .ref (b 0 0)), (1, .int v1), (2, .ref (b 16 0)), (3, .ref (b 16 1)), (4, .ref (b 16 2)), (5, .ref (b 16 3)), (6, .ref (b 16 4)), (7, .ref (b 17 0)), (8, .ref (b 17 1)), (9, .ref (b 17 2)), (10, .ref (b 17 3)), (11, .ref (b 17 4))]) : W p l e RM9_would s m args below meth c H locs 0 0 (MQ below (qi_W (dC, dI) [(cI, .int), (cB, .object "DiceRoads$Board")] A q.1 (gY cI cB b q.2).flatten) args s 0 0 A) (F0 m 0 ls []) := by
  unfold f9_would at h
  obtain ⟨hx, hb, hr, hts, hown, hlocks, hml⟩ := id C
  refine lv_iload_n hx hb dL_would_0 rfl (lv_at hl 1 rfl) ?_
  refine lv_aload_n hx hb dL_would_1 rfl (lv_at hl 2 rfl) ?_
  refine lv_bipush (v := (6 : Int32)) hx hb dL_would_2 (by decide) ?_
  obtain ⟨hi, h⟩ := fo_ck_some h
  refine va_iald hx hb hK hG.1 0 0 rfl rfl hi dL_would_4 ?_
  obtain ⟨q5, hq5, h⟩ := fo_bd_some h
  refine gq_iS (gs := gY cI cB b S) (gs' := gY cI cB b S) (As := [.int v1, .int ((S.2.1 0) (6 : Int32).toNatClampNeg)]) (rest := []) (wc := ([] : va_W)) (w1 := ([] : va_W)) ⟨hx, hb, hml, hown, hts⟩ (c9_low l (a := b 0) hq5) (va_cwS 2 hts gv_X9_49 rfl rfl rfl hd9_low ⟨Nat.le_of_ble_eq_true rfl, Nat.le_of_ble_eq_true rfl⟩) hK [] rfl hA hG [] [0, 1, 2] py_3 py_3 rfl rfl rfl rfl hl.1 rfl (Nat.le_of_ble_eq_true rfl) dL_would_5 ⟨Nat.zero_le _, Nat.zero_le _⟩ (fun H locs hG9 => ?_)
  have hG : gd_W (dC, dI) A s (gY cI cB b S).flatten H locs := hG9
  refine lv_istore (lv' := [(12, .int q5), (0, .ref (b 0 0)), (1, .int v1), (2, .ref (b 16 0)), (3, .ref (b 16 1)), (4, .ref (b 16 2)), (5, .ref (b 16 3)), (6, .ref (b 16 4)), (7, .ref (b 17 0)), (8, .ref (b 17 1)), (9, .ref (b 17 2)), (10, .ref (b 17 3)), (11, .ref (b 17 4))]) hx hb dL_would_8 hl (by decide) rfl (fun ls hl => ?_)
  refine lv_iconst (v := (1 : Int32)) hx hb dL_would_10 (by decide) ?_
  refine lv_iload_n hx hb dL_would_11 rfl (lv_at hl 2 rfl) ?_
  refine lv_iconst (v := (3 : Int32)) hx hb dL_would_12 (by decide) ?_
  refine lv_ishr hx hb dL_would_13 ?_
  refine lv_bipush (v := (60 : Int32)) hx hb dL_would_14 (by decide) ?_
  obtain ⟨q16, hq16, h⟩ := fo_bd_some h
  refine gq_iS (gs := gY cI cB b S) (gs' := gY cI cB b S) (As := [.int (v1 >>> ((3 : Int32) &&& 31)), .int (60 : Int32)]) (rest := [.int (1 : Int32)]) (wc := ([] : va_W)) (w1 := ([] : va_W)) ⟨hx, hb, hml, hown, hts⟩ (c9_low l (a := b 0) hq16) (va_cwS 2 hts gv_X9_49 rfl rfl rfl hd9_low ⟨Nat.le_of_ble_eq_true rfl, Nat.le_of_ble_eq_true rfl⟩) hK [] rfl hA hG [] [0, 1, 2] py_3 py_3 rfl rfl rfl rfl hl.1 rfl (Nat.le_of_ble_eq_true rfl) dL_would_16 ⟨Nat.zero_le _, Nat.zero_le _⟩ (fun H locs hG9 => ?_)
  have hG : gd_W (dC, dI) A s (gY cI cB b S).flatten H locs := hG9
  refine lv_iadd hx hb dL_would_19 ?_
  refine lv_istore (lv' := [(13, .int ((1 : Int32) + q16)), (12, .int q5), (0, .ref (b 0 0)), (1, .int v1), (2, .ref (b 16 0)), (3, .ref (b 16 1)), (4, .ref (b 16 2)), (5, .ref (b 16 3)), (6, .ref (b 16 4)), (7, .ref (b 17 0)), (8, .ref (b 17 1)), (9, .ref (b 17 2)), (10, .ref (b 17 3)), (11, .ref (b 17 4))]) hx hb dL_would_20 hl (by decide) rfl (fun ls hl => ?_)
  refine lv_iconst (v := (0 : Int32)) hx hb dL_would_22 (by decide) ?_
  refine lv_istore (lv' := [(14, .int (0 : Int32)), (13, .int ((1 : Int32) + q16)), (12, .int q5), (0, .ref (b 0 0)), (1, .int v1), (2, .ref (b 16 0)), (3, .ref (b 16 1)), (4, .ref (b 16 2)), (5, .ref (b 16 3)), (6, .ref (b 16 4)), (7, .ref (b 17 0)), (8, .ref (b 17 1)), (9, .ref (b 17 2)), (10, .ref (b 17 3)), (11, .ref (b 17 4))]) hx hb dL_would_23 hl (by decide) rfl (fun ls hl => ?_)
  refine lv_aload_n hx hb dL_would_25 rfl (lv_at hl 5 rfl) ?_
  refine lv_aload_n hx hb dL_would_26 rfl (lv_at hl 6 rfl) ?_
  refine lv_aload hx hb dL_would_27 (lv_at hl 7 rfl) ?_
  refine lv_aload hx hb dL_would_29 (lv_at hl 8 rfl) ?_
  refine lv_aload hx hb dL_would_31 (lv_at hl 9 rfl) ?_
  refine lv_aload hx hb dL_would_33 (lv_at hl 10 rfl) ?_
  refine lv_aload hx hb dL_would_35 (lv_at hl 11 rfl) ?_
  refine lv_aload hx hb dL_would_37 (lv_at hl 12 rfl) ?_
  refine lv_aload hx hb dL_would_39 (lv_at hl 13 rfl) ?_
  refine lv_aload hx hb dL_would_41 (lv_at hl 14 rfl) ?_
  obtain ⟨q43, hq43, h⟩ := fo_bd_some h
  refine gq_vS (gs := gY cI cB b S) (gs' := gY cI cB b (S.1, S.2.1, q43)) (As := [.ref (b 16 0), .ref (b 16 1), .ref (b 16 2), .ref (b 16 3), .ref (b 16 4), .ref (b 17 0), .ref (b 17 1), .ref (b 17 2), .ref (b 17 3), .ref (b 17 4)]) (rest := []) (wc := (wd_GG cI (fun k => if k < 5 then b 16 k else b 17 (k - 5)) S.2.1 S.2.2)) (w1 := (wd_GG cI (fun k => if k < 5 then b 16 k else b 17 (k - 5)) S.2.1 q43)) ⟨hx, hb, hml, hown, hts⟩ (c9_copy l (a := (fun k => if k < 5 then b 16 k else b 17 (k - 5))) (Z := S.2.1) hq43) (va_cwS 10 hts gv_X9_52 rfl rfl rfl hd9_copy ⟨Nat.le_of_ble_eq_true rfl, Nat.le_of_ble_eq_true rfl⟩) hK [0] rfl hA hG [0, 1] [2] py_4 py_4 rfl rfl rfl rfl hl.1 rfl (Nat.le_of_ble_eq_true rfl) dL_would_43 ⟨Nat.zero_le _, Nat.zero_le _⟩ (fun H locs hG9 => ?_)
  have hG : gd_W (dC, dI) A s (gY cI cB b (S.1, S.2.1, q43)).flatten H locs := hG9
  exact w9_would_L46 C hK hA fo_fu h hG (lv_sub hl [3, 4, 5, 6, 7, 8, 9, 10, 11, 12, 13, 14, 2, 1, 0] rfl)
set_option maxRecDepth 100000 in
set_option maxHeartbeats 4000000 in
theorem c9_would (l : Launch) {dC : Nat → ClassId} {dI : Nat → Nat → Nat} {cI : ClassId} {cB : ClassId} {b : Nat → Nat → Nat} {v1 : Int32} {S : ys_T} {q : (Int32 × ys_T)} (h : f9_would v1 S = some q) : mi_M l yL_would wm9_would RM9_would (dC, dI) [(cI, .int), (cB, .object "DiceRoads$Board")] [.ref (b 0 0), .int v1, .ref (b 16 0), .ref (b 16 1), .ref (b 16 2), .ref (b 16 3), .ref (b 16 4), .ref (b 17 0), .ref (b 17 1), .ref (b 17 2), .ref (b 17 3), .ref (b 17 4)] (gY cI cB b S).flatten q.1 (gY cI cB b q.2).flatten := by
  intro sz
  refine Met.ofW (cc := cL_would) (maxL := 24) (ret := (some .boolean)) (by decide) rfl ?_
  intro p e s m args below meth c s₁ B hml hv
  obtain ⟨rfl, hsz, hP, hK, hD0⟩ := hv
  subst hsz
  have hl := lv_entry ([.ref (b 0 0), .int v1, .ref (b 16 0), .ref (b 16 1), .ref (b 16 2), .ref (b 16 3), .ref (b 16 4), .ref (b 17 0), .ref (b 17 1), .ref (b 17 2), .ref (b 17 3), .ref (b 17 4)] : List Value) (n := 24) (Nat.le_of_ble_eq_true rfl)
  rw [lg_entry_eq]
  generalize (lg_sl ([.ref (b 0 0), .int v1, .ref (b 16 0), .ref (b 16 1), .ref (b 16 2), .ref (b 16 3), .ref (b 16 4), .ref (b 17 0), .ref (b 17 1), .ref (b 17 2), .ref (b 17 3), .ref (b 17 4)] : List Value) ++ List.replicate (24 - (lg_sl ([.ref (b 0 0), .int v1, .ref (b 16 0), .ref (b 16 1), .ref (b 16 2), .ref (b 16 3), .ref (b 16 4), .ref (b 17 0), .ref (b 17 1), .ref (b 17 2), .ref (b 17 3), .ref (b 17 4)] : List Value)).length) Slot.unset).toArray = ls at hl ⊢
  exact w9_would (b := b) ⟨B.exec, B.bytes, B.returns, fun w hw => atoms_spec (ws := wm9_would) B.pre w (List.mem_cons_of_mem _ hw), findClass_of_methodNamed B.named, B.notSynchronized, hml⟩ hK (fun _ h => Or.inr h) h ⟨hP, hD0.self, va_S.rf⟩ hl
end
