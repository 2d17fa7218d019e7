/-! ## DiceRoads$Board.tryToClaim(I)V -/
section
variable {p : Program} {l : Launch} {e : Env} {s : State} {m : MethodId} {args : Array Value} {below : List Frame} {meth : Method} {c : Code} {dC : Nat → ClassId} {dI : Nat → Nat → Nat} {cI : ClassId} {A : Nat → Prop}
set_option maxRecDepth 100000 in
set_option maxHeartbeats 4000000 in
theorem w0_tryToClaim_b120 (C : cx_M p s m args meth c RX0 cX0_tryToClaim none 5) (hK : va_K (dC, dI) vwCl [(cI, .int)] s) (hA : ∀ q, s.heap.size ≤ q → A q) {a : Nat → Nat} {q : ms_T} {v1 : Int32} {v2 : Int32} {S : ms_T} (h : f0_tryToClaim_b120 v1 v2 S = some q) {H : Heap} {locs : List Loc} {ls : Array Slot} (hG : gd_W (dC, dI) A s (wd_B cI a S) H locs) (hl : lv_has ls 5 [(0, .ref (a 0)), (1, .int v1), (2, .int v2)]) : W p l e RM0_tryToClaim s m args below meth c H locs 0 0 (MQ below (qv_W (dC, dI) [(cI, .int)] A (wd_B cI a q)) args s 0 0 A) (F0 m 120 ls []) := by
  unfold f0_tryToClaim_b120 at h
  obtain ⟨hx, hb, hr, hts, hown, hlocks, hml⟩ := id C
  refine lv_aload_n hx hb dX0_tryToClaim_120 rfl (lv_at hl 0 rfl) ?_
  refine va_get (D := (dC, dI)) (ci := 0) (v := .ref (a 1)) (C := RX0) (T := TX0) (N := 15) hx hb hts inlX0 hown hK hG.1 0 rfl rfl 0 (by decide) (hts (Cond.fieldLink RX0 12 "DiceRoads$Board" "roads" "LDiceRoads$Roads;") wq_89) (fun _ h9 => h9) rfl dX0_tryToClaim_121 ?_
  refine lv_iload_n hx hb dX0_tryToClaim_124 rfl (lv_at hl 2 rfl) ?_
  refine lv_iload_n hx hb dX0_tryToClaim_125 rfl (lv_at hl 1 rfl) ?_
  obtain ⟨q126, hq126, h⟩ := fo_bd_some h
  refine gc_vV (b := a 1) (C := RX5) (As := [.int v2, .int v1]) (rest := []) (wc := (wd_O cI (fun k => a (k + 1)) S)) (w1 := (wd_O cI (fun k => a (k + 1)) q126)) (ci := 4) (q0 := 0) ⟨hx, hb, hml, hown, hts⟩ (c5_giveFreePart l (a := (fun k => a (k + 1))) hq126) (cwV 2 hts gv_X0_168 rfl rfl rfl hd5_giveFreePart ⟨Nat.le_of_ble_eq_true rfl, Nat.le_of_ble_eq_true rfl⟩) hK [0] rfl hA hG [1, 2, 3, 4, 5] rfl rfl rfl rfl rfl rfl hl.1 rfl (Nat.le_of_ble_eq_true rfl) dX0_tryToClaim_126 ⟨Nat.zero_le _, Nat.zero_le _⟩ (fun H locs hG9 => ?_)
  have hG : gd_W (dC, dI) A s (wd_B cI a (ms_sub S 0 2 q126)) H locs := hG9
  obtain rfl := Option.some.inj h
  exact gr_v hx hb hr hlocks hK hG dX0_tryToClaim_129
set_option maxRecDepth 100000 in
set_option maxHeartbeats 4000000 in
theorem w0_tryToClaim (C : cx_M p s m args meth c RX0 cX0_tryToClaim none 5) (hK : va_K (dC, dI) vwCl [(cI, .int)] s) (hA : ∀ q, s.heap.size ≤ q → A q) {a : Nat → Nat} {q : ms_T} {v1 : Int32} {S : ms_T} (h : f0_tryToClaim v1 S = some q) {H : Heap} {locs : List Loc} {ls : Array Slot} (hG : gd_W (dC, dI) A s (wd_B cI a S) H locs) (hl : lv_has ls 5 [(0, .ref (a 0)), (1, .int v1)]) : W p l e RM0_tryToClaim s m args below meth c H locs 0 0 (MQ below (qv_W (dC, dI) [(cI, .int)] A (wd_B cI a q)) args s 0 0 A) (F0 m 0 ls []) := by
  unfold f0_tryToClaim at h
  obtain ⟨hx, hb, hr, hts, hown, hlocks, hml⟩ := id C
  refine lv_aload_n hx hb dX0_tryToClaim_0 rfl (lv_at hl 0 rfl) ?_
  refine va_get (D := (dC, dI)) (ci := 0) (v := .ref (a 17)) (C := RX0) (T := TX0) (N := 15) hx hb hts inlX0 hown hK hG.1 0 rfl rfl 4 (by decide) (hts (Cond.fieldLink RX0 37 "DiceRoads$Board" "places" "LDiceRoads$Row;") wq_94) (fun _ h9 => h9) rfl dX0_tryToClaim_1 ?_
  refine lv_iload_n hx hb dX0_tryToClaim_4 rfl (lv_at hl 1 rfl) ?_
  obtain ⟨q5, hq5, h⟩ := fo_bd_some h
  refine gc_iV (b := a 17) (C := RX6) (As := [.int v1]) (rest := []) (wc := (wd_R cI (fun k => a (k + 17)) 0 4 (S 7))) (w1 := (wd_R cI (fun k => a (k + 17)) 0 4 (S 7))) (ci := 5) (q0 := 0) ⟨hx, hb, hml, hown, hts⟩ (c6_at l (a := (fun k => a (k + 17))) (v := 0) (z := 4) hq5) (cwV 1 hts gv_X0_94 rfl rfl rfl hd6_at ⟨Nat.le_of_ble_eq_true rfl, Nat.le_of_ble_eq_true rfl⟩) hK [0] rfl hA hG [17, 18] rfl rfl rfl rfl rfl rfl hl.1 rfl (Nat.le_of_ble_eq_true rfl) dX0_tryToClaim_5 ⟨Nat.zero_le _, Nat.zero_le _⟩ (fun H locs hG9 => ?_)
  have hG : gd_W (dC, dI) A s (wd_B cI a S) H locs := hG9
  refine lv_istore_n (lv' := [(2, .int q5), (0, .ref (a 0)), (1, .int v1)]) hx hb dX0_tryToClaim_8 rfl hl (by decide) rfl (fun ls hl => ?_)
  refine lv_aload_n hx hb dX0_tryToClaim_9 rfl (lv_at hl 1 rfl) ?_
  refine va_get (D := (dC, dI)) (ci := 0) (v := .ref (a 1)) (C := RX0) (T := TX0) (N := 15) hx hb hts inlX0 hown hK hG.1 0 rfl rfl 0 (by decide) (hts (Cond.fieldLink RX0 12 "DiceRoads$Board" "roads" "LDiceRoads$Roads;") wq_89) (fun _ h9 => h9) rfl dX0_tryToClaim_10 ?_
  refine lv_iload_n hx hb dX0_tryToClaim_13 rfl (lv_at hl 0 rfl) ?_
  refine lv_iload_n hx hb dX0_tryToClaim_14 rfl (lv_at hl 2 rfl) ?_
  obtain ⟨q15, hq15, h⟩ := fo_bd_some h
  refine gc_iV (b := a 1) (C := RX5) (As := [.int q5, .int v1]) (rest := []) (wc := (wd_O cI (fun k => a (k + 1)) S)) (w1 := (wd_O cI (fun k => a (k + 1)) S)) (ci := 4) (q0 := 0) ⟨hx, hb, hml, hown, hts⟩ (c5_isOwnedBy l (a := (fun k => a (k + 1))) hq15) (cwV 2 hts gv_X0_158 rfl rfl rfl hd5_isOwnedBy ⟨Nat.le_of_ble_eq_true rfl, Nat.le_of_ble_eq_true rfl⟩) hK [0] rfl hA hG [1, 2, 3, 4, 5] rfl rfl rfl rfl rfl rfl hl.1 rfl (Nat.le_of_ble_eq_true rfl) dX0_tryToClaim_15 ⟨Nat.zero_le _, Nat.zero_le _⟩ (fun H locs hG9 => ?_)
  have hG : gd_W (dC, dI) A s (wd_B cI a S) H locs := hG9
  refine lv_if_ne (tgt := 32) hx hb dX0_tryToClaim_18 (by decide) (fun hc => ?_) (fun hc => ?_)
  · have h := fo_if h hc
    obtain rfl := Option.some.inj h
    exact gr_v hx hb hr hlocks hK hG dX0_tryToClaim_32
  · have h := fo_it h hc
    refine lv_aload_n hx hb dX0_tryToClaim_21 rfl (lv_at hl 1 rfl) ?_
    refine va_get (D := (dC, dI)) (ci := 0) (v := .ref (a 1)) (C := RX0) (T := TX0) (N := 15) hx hb hts inlX0 hown hK hG.1 0 rfl rfl 0 (by decide) (hts (Cond.fieldLink RX0 12 "DiceRoads$Board" "roads" "LDiceRoads$Roads;") wq_89) (fun _ h9 => h9) rfl dX0_tryToClaim_22 ?_
    refine lv_iload_n hx hb dX0_tryToClaim_25 rfl (lv_at hl 0 rfl) ?_
    obtain ⟨q26, hq26, h⟩ := fo_bd_some h
    refine gc_iV (b := a 1) (C := RX5) (As := [.int q5]) (rest := []) (wc := (wd_O cI (fun k => a (k + 1)) S)) (w1 := (wd_O cI (fun k => a (k + 1)) S)) (ci := 4) (q0 := 0) ⟨hx, hb, hml, hown, hts⟩ (c5_hasFreePart l (a := (fun k => a (k + 1))) hq26) (cwV 1 hts gv_X0_162 rfl rfl rfl hd5_hasFreePart ⟨Nat.le_of_ble_eq_true rfl, Nat.le_of_ble_eq_true rfl⟩) hK [0] rfl hA hG [1, 2, 3, 4, 5] rfl rfl rfl rfl rfl rfl hl.1 rfl (Nat.le_of_ble_eq_true rfl) dX0_tryToClaim_26 ⟨Nat.zero_le _, Nat.zero_le _⟩ (fun H locs hG9 => ?_)
    have hG : gd_W (dC, dI) A s (wd_B cI a S) H locs := hG9
    refine lv_if_ne (tgt := 33) hx hb dX0_tryToClaim_29 (by decide) (fun hc => ?_) (fun hc => ?_)
    · have h := fo_if h hc
      refine lv_aload_n hx hb dX0_tryToClaim_33 rfl (lv_at hl 1 rfl) ?_
      refine va_get (D := (dC, dI)) (ci := 0) (v := .ref (a 13)) (C := RX0) (T := TX0) (N := 15) hx hb hts inlX0 hown hK hG.1 0 rfl rfl 2 (by decide) (hts (Cond.fieldLink RX0 30 "DiceRoads$Board" "settings" "LDiceRoads$Row;") wq_92) (fun _ h9 => h9) rfl dX0_tryToClaim_34 ?_
      refine lv_iconst (v := (1 : Int32)) hx hb dX0_tryToClaim_37 (by decide) ?_
      obtain ⟨q38, hq38, h⟩ := fo_bd_some h
      refine gc_iV (b := a 13) (C := RX6) (As := [.int (1 : Int32)]) (rest := []) (wc := (wd_R cI (fun k => a (k + 13)) 0 5 (S 5))) (w1 := (wd_R cI (fun k => a (k + 13)) 0 5 (S 5))) (ci := 5) (q0 := 0) ⟨hx, hb, hml, hown, hts⟩ (c6_at l (a := (fun k => a (k + 13))) (v := 0) (z := 5) hq38) (cwV 1 hts gv_X0_94 rfl rfl rfl hd6_at ⟨Nat.le_of_ble_eq_true rfl, Nat.le_of_ble_eq_true rfl⟩) hK [0] rfl hA hG [13, 14] rfl rfl rfl rfl rfl rfl hl.1 rfl (Nat.le_of_ble_eq_true rfl) dX0_tryToClaim_38 ⟨Nat.zero_le _, Nat.zero_le _⟩ (fun H locs hG9 => ?_)
      have hG : gd_W (dC, dI) A s (wd_B cI a S) H locs := hG9
      refine lv_istore_n (lv' := [(3, .int q38), (2, .int q5), (0, .ref (a 0)), (1, .int v1)]) hx hb dX0_tryToClaim_41 rfl hl (by decide) rfl (fun ls hl => ?_)
      refine lv_aload_n hx hb dX0_tryToClaim_42 rfl (lv_at hl 2 rfl) ?_
      obtain ⟨q43, hq43, h⟩ := fo_bd_some h
      refine gs_iV (b := a 0) (C := RX0) (As := []) (rest := []) (w1 := (wd_B cI a q43.2)) (ci := 0) (q0 := 0) ⟨hx, hb, hml, hown, hts⟩ (c0_throwDie l (a := a) hq43) (cwV 0 hts gv_X0_154 rfl rfl rfl hd0_throwDie ⟨Nat.le_of_ble_eq_true rfl, Nat.le_of_ble_eq_true rfl⟩) hK hA hG rfl rfl rfl hl.1 rfl (Nat.le_of_ble_eq_true rfl) dX0_tryToClaim_43 ⟨Nat.zero_le _, Nat.zero_le _⟩ (fun H locs hG9 => ?_)
      have hG : gd_W (dC, dI) A s (wd_B cI a q43.2) H locs := hG9
      refine lv_aload_n hx hb dX0_tryToClaim_46 rfl (lv_at hl 2 rfl) ?_
      refine va_get (D := (dC, dI)) (ci := 0) (v := .ref (a 13)) (C := RX0) (T := TX0) (N := 15) hx hb hts inlX0 hown hK hG.1 0 rfl rfl 2 (by decide) (hts (Cond.fieldLink RX0 30 "DiceRoads$Board" "settings" "LDiceRoads$Row;") wq_92) (fun _ h9 => h9) rfl dX0_tryToClaim_47 ?_
      refine lv_iconst (v := (3 : Int32)) hx hb dX0_tryToClaim_50 (by decide) ?_
      obtain ⟨q51, hq51, h⟩ := fo_bd_some h
      refine gc_iV (b := a 13) (C := RX6) (As := [.int (3 : Int32)]) (rest := [.int q43.1]) (wc := (wd_R cI (fun k => a (k + 13)) 0 5 (q43.2 5))) (w1 := (wd_R cI (fun k => a (k + 13)) 0 5 (q43.2 5))) (ci := 5) (q0 := 0) ⟨hx, hb, hml, hown, hts⟩ (c6_at l (a := (fun k => a (k + 13))) (v := 0) (z := 5) hq51) (cwV 1 hts gv_X0_94 rfl rfl rfl hd6_at ⟨Nat.le_of_ble_eq_true rfl, Nat.le_of_ble_eq_true rfl⟩) hK [0] rfl hA hG [13, 14] rfl rfl rfl rfl rfl rfl hl.1 rfl (Nat.le_of_ble_eq_true rfl) dX0_tryToClaim_51 ⟨Nat.zero_le _, Nat.zero_le _⟩ (fun H locs hG9 => ?_)
      have hG : gd_W (dC, dI) A s (wd_B cI a q43.2) H locs := hG9
      refine lv_icmp_lt (tgt := 69) hx hb dX0_tryToClaim_54 (by decide) (fun hc => ?_) (fun hc => ?_)
      · have h := fo_it h hc
        obtain rfl := Option.some.inj h
        exact gr_v hx hb hr hlocks hK hG dX0_tryToClaim_69
      · have h := fo_if h hc
        refine lv_aload_n hx hb dX0_tryToClaim_57 rfl (lv_at hl 2 rfl) ?_
        refine va_get (D := (dC, dI)) (ci := 0) (v := .ref (a 15)) (C := RX0) (T := TX0) (N := 15) hx hb hts inlX0 hown hK hG.1 0 rfl rfl 3 (by decide) (hts (Cond.fieldLink RX0 34 "DiceRoads$Board" "purses" "LDiceRoads$Row;") wq_93) (fun _ h9 => h9) rfl dX0_tryToClaim_58 ?_
        refine lv_iload_n hx hb dX0_tryToClaim_61 rfl (lv_at hl 3 rfl) ?_
        obtain ⟨q62, hq62, h⟩ := fo_bd_some h
        refine gc_iV (b := a 15) (C := RX6) (As := [.int v1]) (rest := []) (wc := (wd_R cI (fun k => a (k + 15)) 0 4 (q43.2 6))) (w1 := (wd_R cI (fun k => a (k + 15)) 0 4 (q43.2 6))) (ci := 5) (q0 := 0) ⟨hx, hb, hml, hown, hts⟩ (c6_at l (a := (fun k => a (k + 15))) (v := 0) (z := 4) hq62) (cwV 1 hts gv_X0_94 rfl rfl rfl hd6_at ⟨Nat.le_of_ble_eq_true rfl, Nat.le_of_ble_eq_true rfl⟩) hK [0] rfl hA hG [15, 16] rfl rfl rfl rfl rfl rfl hl.1 rfl (Nat.le_of_ble_eq_true rfl) dX0_tryToClaim_62 ⟨Nat.zero_le _, Nat.zero_le _⟩ (fun H locs hG9 => ?_)
        have hG : gd_W (dC, dI) A s (wd_B cI a q43.2) H locs := hG9
        refine lv_iload_n hx hb dX0_tryToClaim_65 rfl (lv_at hl 0 rfl) ?_
        refine lv_icmp_ge (tgt := 70) hx hb dX0_tryToClaim_66 (by decide) (fun hc => ?_) (fun hc => ?_)
        · have h := fo_it h hc
          refine lv_aload_n hx hb dX0_tryToClaim_70 rfl (lv_at hl 2 rfl) ?_
          refine va_get (D := (dC, dI)) (ci := 0) (v := .ref (a 1)) (C := RX0) (T := TX0) (N := 15) hx hb hts inlX0 hown hK hG.1 0 rfl rfl 0 (by decide) (hts (Cond.fieldLink RX0 12 "DiceRoads$Board" "roads" "LDiceRoads$Roads;") wq_89) (fun _ h9 => h9) rfl dX0_tryToClaim_71 ?_
          refine lv_iload_n hx hb dX0_tryToClaim_74 rfl (lv_at hl 1 rfl) ?_
          obtain ⟨q75, hq75, h⟩ := fo_bd_some h
          refine gc_iV (b := a 1) (C := RX5) (As := [.int q5]) (rest := []) (wc := (wd_O cI (fun k => a (k + 1)) q43.2)) (w1 := (wd_O cI (fun k => a (k + 1)) q43.2)) (ci := 4) (q0 := 0) ⟨hx, hb, hml, hown, hts⟩ (c5_firstOwner l (a := (fun k => a (k + 1))) hq75) (cwV 1 hts gv_X0_165 rfl rfl rfl hd5_firstOwner ⟨Nat.le_of_ble_eq_true rfl, Nat.le_of_ble_eq_true rfl⟩) hK [0] rfl hA hG [1, 2, 3, 4, 5] rfl rfl rfl rfl rfl rfl hl.1 rfl (Nat.le_of_ble_eq_true rfl) dX0_tryToClaim_75 ⟨Nat.zero_le _, Nat.zero_le _⟩ (fun H locs hG9 => ?_)
          have hG : gd_W (dC, dI) A s (wd_B cI a q43.2) H locs := hG9
          refine lv_istore (lv' := [(4, .int q75), (3, .int q38), (2, .int q5), (0, .ref (a 0)), (1, .int v1)]) hx hb dX0_tryToClaim_78 hl (by decide) rfl (fun ls hl => ?_)
          refine lv_aload_n hx hb dX0_tryToClaim_80 rfl (lv_at hl 3 rfl) ?_
          refine va_get (D := (dC, dI)) (ci := 0) (v := .ref (a 15)) (C := RX0) (T := TX0) (N := 15) hx hb hts inlX0 hown hK hG.1 0 rfl rfl 3 (by decide) (hts (Cond.fieldLink RX0 34 "DiceRoads$Board" "purses" "LDiceRoads$Row;") wq_93) (fun _ h9 => h9) rfl dX0_tryToClaim_81 ?_
          refine lv_iload_n hx hb dX0_tryToClaim_84 rfl (lv_at hl 4 rfl) ?_
          refine lv_iload_n hx hb dX0_tryToClaim_85 rfl (lv_at hl 1 rfl) ?_
          refine lv_ineg hx hb dX0_tryToClaim_86 ?_
          obtain ⟨q87, hq87, h⟩ := fo_bd_some h
          refine gc_vV (b := a 15) (C := RX6) (As := [.int v1, .int (-q38)]) (rest := []) (wc := (wd_R cI (fun k => a (k + 15)) 0 4 (q43.2 6))) (w1 := (wd_R cI (fun k => a (k + 15)) 0 4 q87)) (ci := 5) (q0 := 0) ⟨hx, hb, hml, hown, hts⟩ (c6_add l (a := (fun k => a (k + 15))) (v := 0) (z := 4) hq87) (cwV 2 hts gv_X0_131 rfl rfl rfl hd6_add ⟨Nat.le_of_ble_eq_true rfl, Nat.le_of_ble_eq_true rfl⟩) hK [0] rfl hA hG [15, 16] rfl rfl rfl rfl rfl rfl hl.1 rfl (Nat.le_of_ble_eq_true rfl) dX0_tryToClaim_87 ⟨Nat.zero_le _, Nat.zero_le _⟩ (fun H locs hG9 => ?_)
          have hG : gd_W (dC, dI) A s (wd_B cI a (ms_set q43.2 6 q87)) H locs := hG9
          refine lv_iload hx hb dX0_tryToClaim_90 (lv_at hl 0 rfl) ?_
          refine lv_bipush (v := (-6 : Int32)) hx hb dX0_tryToClaim_92 (by decide) ?_
          refine lv_icmp_ne (tgt := 110) hx hb dX0_tryToClaim_94 (by decide) (fun hc => ?_) (fun hc => ?_)
          · have h := fo_if h hc
            refine lv_aload_n hx hb dX0_tryToClaim_110 rfl (lv_at hl 3 rfl) ?_
            refine va_get (D := (dC, dI)) (ci := 0) (v := .ref (a 15)) (C := RX0) (T := TX0) (N := 15) hx hb hts inlX0 hown hK hG.1 0 rfl rfl 3 (by decide) (hts (Cond.fieldLink RX0 34 "DiceRoads$Board" "purses" "LDiceRoads$Row;") wq_93) (fun _ h9 => h9) rfl dX0_tryToClaim_111 ?_
            refine lv_iload hx hb dX0_tryToClaim_114 (lv_at hl 0 rfl) ?_
            refine lv_iload_n hx hb dX0_tryToClaim_116 rfl (lv_at hl 1 rfl) ?_
            obtain ⟨q117, hq117, h⟩ := fo_bd_some h
            refine gc_vV (b := a 15) (C := RX6) (As := [.int q75, .int q38]) (rest := []) (wc := (wd_R cI (fun k => a (k + 15)) 0 4 ((ms_set q43.2 6 q87) 6))) (w1 := (wd_R cI (fun k => a (k + 15)) 0 4 q117)) (ci := 5) (q0 := 0) ⟨hx, hb, hml, hown, hts⟩ (c6_add l (a := (fun k => a (k + 15))) (v := 0) (z := 4) hq117) (cwV 2 hts gv_X0_131 rfl rfl rfl hd6_add ⟨Nat.le_of_ble_eq_true rfl, Nat.le_of_ble_eq_true rfl⟩) hK [0] rfl hA hG [15, 16] rfl rfl rfl rfl rfl rfl hl.1 rfl (Nat.le_of_ble_eq_true rfl) dX0_tryToClaim_117 ⟨Nat.zero_le _, Nat.zero_le _⟩ (fun H locs hG9 => ?_)
            have hG : gd_W (dC, dI) A s (wd_B cI a (ms_set (ms_set q43.2 6 q87) 6 q117)) H locs := hG9
            exact w0_tryToClaim_b120 C hK hA h hG (lv_sub hl [3, 4, 2] rfl)
          · have h := fo_it h hc
            refine lv_aload_n hx hb dX0_tryToClaim_97 rfl (lv_at hl 3 rfl) ?_
            refine lv_dup hx hb dX0_tryToClaim_98 rfl ?_
            refine va_get (D := (dC, dI)) (ci := 0) (v := .int ((ms_set q43.2 6 q87) 12 4)) (C := RX0) (T := TX0) (N := 15) hx hb hts inlX0 hown hK hG.1 0 rfl rfl 13 (by decide) (hts (Cond.fieldLink RX0 65 "DiceRoads$Board" "paidToNobody" "I") wq_103) (fun _ h9 => h9) rfl dX0_tryToClaim_99 ?_
            refine lv_iload_n hx hb dX0_tryToClaim_102 rfl (lv_at hl 1 rfl) ?_
            refine lv_iadd hx hb dX0_tryToClaim_103 ?_
            refine va_put (D := (dC, dI)) (ci := 0) (v := .int (((ms_set q43.2 6 q87) 12 4) + q38)) (ty := .int) (C := RX0) (T := TX0) (N := 15) hx hb hts inlX0 tyX0 tyX0_ok nmX0 hown hK hG.1 hG.2.1 hG.2.2 0 rfl rfl 13 (by decide) (hts (Cond.fieldLink RX0 65 "DiceRoads$Board" "paidToNobody" "I") wq_103) (fun _ h9 => h9) rfl (by decide +kernel) rfl rfl (Nat.le_of_ble_eq_true rfl) dX0_tryToClaim_104 (fun H locs hP9 hD9 hS9 => ?_)
            have hG : gd_W (dC, dI) A s (wd_B cI a (ms_set (ms_set q43.2 6 q87) 12 (upd ((ms_set q43.2 6 q87) 12) 4 (((ms_set q43.2 6 q87) 12 4) + q38)))) H locs := ⟨hP9, hD9, hS9⟩
            refine lv_goto (tgt := 120) hx hb dX0_tryToClaim_107 (by decide) ?_
            exact w0_tryToClaim_b120 C hK hA h hG (lv_sub hl [3, 4, 2] rfl)
        · have h := fo_if h hc
          obtain rfl := Option.some.inj h
          exact gr_v hx hb hr hlocks hK hG dX0_tryToClaim_69
    · have h := fo_it h hc
      obtain rfl := Option.some.inj h
      exact gr_v hx hb hr hlocks hK hG dX0_tryToClaim_32
set_option maxRecDepth 100000 in
set_option maxHeartbeats 4000000 in
theorem c0_tryToClaim (l : Launch) {dC : Nat → ClassId} {dI : Nat → Nat → Nat} {cI : ClassId} {a : Nat → Nat} {v1 : Int32} {S : ms_T} {q : ms_T} (h : f0_tryToClaim v1 S = some q) : mv_M l yX0_tryToClaim wm0_tryToClaim RM0_tryToClaim (dC, dI) [(cI, .int)] [.ref (a 0), .int v1] (wd_B cI a S) (wd_B cI a q) := by
  intro sz
  refine Met.ofW (cc := cX0_tryToClaim) (maxL := 5) (ret := none) (by decide) rfl ?_
  intro p e s m args below meth c s₁ B hml hv
  obtain ⟨rfl, hsz, hP, hK, hD0⟩ := hv
  subst hsz
  have hl := lv_entry ([.ref (a 0), .int v1] : List Value) (n := 5) (Nat.le_of_ble_eq_true rfl)
  rw [lg_entry_eq]
  generalize (lg_sl ([.ref (a 0), .int v1] : List Value) ++ List.replicate (5 - (lg_sl ([.ref (a 0), .int v1] : List Value)).length) Slot.unset).toArray = ls at hl ⊢
  exact w0_tryToClaim (a := a) ⟨B.exec, B.bytes, B.returns, fun w hw => atoms_spec (ws := wm0_tryToClaim) B.pre w (List.mem_cons_of_mem _ hw), findClass_of_methodNamed B.named, B.notSynchronized, hml⟩ hK (fun _ h => Or.inr h) h ⟨hP, hD0.self, va_S.rf⟩ hl
end
/-! ## DiceRoads$Board.payToll(I)V -/
section
variable {p : Program} {l : Launch} {e : Env} {s : State} {m : MethodId} {args : Array Value} {below : List Frame} {meth : Method} {c : Code} {dC : Nat → ClassId} {dI : Nat → Nat → Nat} {cI : ClassId} {A : Nat → Prop}
set_option maxRecDepth 100000 in
set_option maxHeartbeats 4000000 in
theorem w0_payToll_b80 (C : cx_M p s m args meth c RX0 cX0_payToll none 8) (hK : va_K (dC, dI) vwCl [(cI, .int)] s) (hA : ∀ q, s.heap.size ≤ q → A q) {a : Nat → Nat} {q : ms_T} {v1 : Int32} {v3 : Int32} {v4 : Int32} {v5 : Int32} {t0 : Int32} {S : ms_T} (h : f0_payToll_b80 v1 v3 v4 v5 t0 S = some q) {H : Heap} {locs : List Loc} {ls : Array Slot} (hG : gd_W (dC, dI) A s (wd_B cI a S) H locs) (hl : lv_has ls 8 [(0, .ref (a 0)), (1, .int v1), (3, .int v3), (4, .int v4), (5, .int v5)]) : W p l e RM0_payToll s m args below meth c H locs 0 0 (MQ below (qv_W (dC, dI) [(cI, .int)] A (wd_B cI a q)) args s 0 0 A) (F0 m 80 ls [.int t0]) := by
  unfold f0_payToll_b80 at h
  obtain ⟨hx, hb, hr, hts, hown, hlocks, hml⟩ := id C
  refine lv_istore (lv' := [(6, .int t0), (0, .ref (a 0)), (1, .int v1), (3, .int v3), (4, .int v4), (5, .int v5)]) hx hb dX0_payToll_80 hl (by decide) rfl (fun ls hl => ?_)
  refine lv_iload hx hb dX0_payToll_82 (lv_at hl 5 rfl) ?_
  refine lv_iload hx hb dX0_payToll_84 (lv_at hl 0 rfl) ?_
  refine lv_isub hx hb dX0_payToll_86 ?_
  refine lv_istore (lv' := [(7, .int (v5 - t0)), (6, .int t0), (0, .ref (a 0)), (1, .int v1), (3, .int v3), (4, .int v4), (5, .int v5)]) hx hb dX0_payToll_87 hl (by decide) rfl (fun ls hl => ?_)
  refine lv_aload_n hx hb dX0_payToll_89 rfl (lv_at hl 2 rfl) ?_
  refine va_get (D := (dC, dI)) (ci := 0) (v := .ref (a 6)) (C := RX0) (T := TX0) (N := 15) hx hb hts inlX0 hown hK hG.1 0 rfl rfl 1 (by decide) (hts (Cond.fieldLink RX0 21 "DiceRoads$Board" "debts" "LDiceRoads$Debts;") wq_90) (fun _ h9 => h9) rfl dX0_payToll_90 ?_
  refine lv_iload_n hx hb dX0_payToll_93 rfl (lv_at hl 3 rfl) ?_
  refine lv_iload_n hx hb dX0_payToll_94 rfl (lv_at hl 4 rfl) ?_
  refine lv_iload hx hb dX0_payToll_95 (lv_at hl 0 rfl) ?_
  refine lv_aload_n hx hb dX0_payToll_97 rfl (lv_at hl 2 rfl) ?_
  refine lv_iload_n hx hb dX0_payToll_98 rfl (lv_at hl 3 rfl) ?_
  refine lv_iload_n hx hb dX0_payToll_99 rfl (lv_at hl 4 rfl) ?_
  refine lv_iload hx hb dX0_payToll_100 (lv_at hl 0 rfl) ?_
  obtain ⟨q102, hq102, h⟩ := fo_bd_some h
  refine gs_iV (b := a 0) (C := RX0) (As := [.int v1, .int v3, .int (v5 - t0)]) (rest := [.int (v5 - t0), .int v3, .int v1, .ref (a 6)]) (w1 := (wd_B cI a q102.2)) (ci := 0) (q0 := 0) ⟨hx, hb, hml, hown, hts⟩ (c0_payWhatThereIs l (a := a) hq102) (cwV 3 hts gv_X0_141 rfl rfl rfl hd0_payWhatThereIs ⟨Nat.le_of_ble_eq_true rfl, Nat.le_of_ble_eq_true rfl⟩) hK hA hG rfl rfl rfl hl.1 rfl (Nat.le_of_ble_eq_true rfl) dX0_payToll_102 ⟨Nat.zero_le _, Nat.zero_le _⟩ (fun H locs hG9 => ?_)
  have hG : gd_W (dC, dI) A s (wd_B cI a q102.2) H locs := hG9
  refine lv_isub hx hb dX0_payToll_105 ?_
  obtain ⟨q106, hq106, h⟩ := fo_bd_some h
  refine gc_vV (b := a 6) (C := RX1) (As := [.int v1, .int v3, .int ((v5 - t0) - q102.1)]) (rest := []) (wc := (wd_D cI (fun k => a (k + 6)) (ms_from q102.2 2))) (w1 := (wd_D cI (fun k => a (k + 6)) q106)) (ci := 1) (q0 := 0) ⟨hx, hb, hml, hown, hts⟩ (c1_grow l (a := (fun k => a (k + 6))) hq106) (cwV 3 hts gv_X0_177 rfl rfl rfl hd1_grow ⟨Nat.le_of_ble_eq_true rfl, Nat.le_of_ble_eq_true rfl⟩) hK [0] rfl hA hG [6, 7, 8, 9, 10, 11, 12] rfl rfl rfl rfl rfl rfl hl.1 rfl (Nat.le_of_ble_eq_true rfl) dX0_payToll_106 ⟨Nat.zero_le _, Nat.zero_le _⟩ (fun H locs hG9 => ?_)
  have hG : gd_W (dC, dI) A s (wd_B cI a (ms_sub q102.2 2 3 q106)) H locs := hG9
  refine lv_iload hx hb dX0_payToll_109 (lv_at hl 5 rfl) ?_
  refine lv_bipush (v := (-6 : Int32)) hx hb dX0_payToll_111 (by decide) ?_
  refine lv_icmp_eq (tgt := 138) hx hb dX0_payToll_113 (by decide) (fun hc => ?_) (fun hc => ?_)
  · have h := fo_it h hc
    obtain rfl := Option.some.inj h
    exact gr_v hx hb hr hlocks hK hG dX0_payToll_138
  · have h := fo_if h hc
    refine lv_aload_n hx hb dX0_payToll_116 rfl (lv_at hl 2 rfl) ?_
    refine va_get (D := (dC, dI)) (ci := 0) (v := .ref (a 6)) (C := RX0) (T := TX0) (N := 15) hx hb hts inlX0 hown hK hG.1 0 rfl rfl 1 (by decide) (hts (Cond.fieldLink RX0 21 "DiceRoads$Board" "debts" "LDiceRoads$Debts;") wq_90) (fun _ h9 => h9) rfl dX0_payToll_117 ?_
    refine lv_iload_n hx hb dX0_payToll_120 rfl (lv_at hl 3 rfl) ?_
    refine lv_iload hx hb dX0_payToll_121 (lv_at hl 5 rfl) ?_
    refine lv_iload hx hb dX0_payToll_123 (lv_at hl 1 rfl) ?_
    refine lv_aload_n hx hb dX0_payToll_125 rfl (lv_at hl 2 rfl) ?_
    refine lv_iload_n hx hb dX0_payToll_126 rfl (lv_at hl 3 rfl) ?_
    refine lv_iload hx hb dX0_payToll_127 (lv_at hl 5 rfl) ?_
    refine lv_iload hx hb dX0_payToll_129 (lv_at hl 1 rfl) ?_
    obtain ⟨q131, hq131, h⟩ := fo_bd_some h
    refine gs_iV (b := a 0) (C := RX0) (As := [.int v1, .int v4, .int t0]) (rest := [.int t0, .int v4, .int v1, .ref (a 6)]) (w1 := (wd_B cI a q131.2)) (ci := 0) (q0 := 0) ⟨hx, hb, hml, hown, hts⟩ (c0_payWhatThereIs l (a := a) hq131) (cwV 3 hts gv_X0_141 rfl rfl rfl hd0_payWhatThereIs ⟨Nat.le_of_ble_eq_true rfl, Nat.le_of_ble_eq_true rfl⟩) hK hA hG rfl rfl rfl hl.1 rfl (Nat.le_of_ble_eq_true rfl) dX0_payToll_131 ⟨Nat.zero_le _, Nat.zero_le _⟩ (fun H locs hG9 => ?_)
    have hG : gd_W (dC, dI) A s (wd_B cI a q131.2) H locs := hG9
    refine lv_isub hx hb dX0_payToll_134 ?_
    obtain ⟨q135, hq135, h⟩ := fo_bd_some h
    refine gc_vV (b := a 6) (C := RX1) (As := [.int v1, .int v4, .int (t0 - q131.1)]) (rest := []) (wc := (wd_D cI (fun k => a (k + 6)) (ms_from q131.2 2))) (w1 := (wd_D cI (fun k => a (k + 6)) q135)) (ci := 1) (q0 := 0) ⟨hx, hb, hml, hown, hts⟩ (c1_grow l (a := (fun k => a (k + 6))) hq135) (cwV 3 hts gv_X0_177 rfl rfl rfl hd1_grow ⟨Nat.le_of_ble_eq_true rfl, Nat.le_of_ble_eq_true rfl⟩) hK [0] rfl hA hG [6, 7, 8, 9, 10, 11, 12] rfl rfl rfl rfl rfl rfl hl.1 rfl (Nat.le_of_ble_eq_true rfl) dX0_payToll_135 ⟨Nat.zero_le _, Nat.zero_le _⟩ (fun H locs hG9 => ?_)
    have hG : gd_W (dC, dI) A s (wd_B cI a (ms_sub q131.2 2 3 q135)) H locs := hG9
    obtain rfl := Option.some.inj h
    exact gr_v hx hb hr hlocks hK hG dX0_payToll_138
set_option maxRecDepth 100000 in
set_option maxHeartbeats 4000000 in
theorem w0_payToll (C : cx_M p s m args meth c RX0 cX0_payToll none 8) (hK : va_K (dC, dI) vwCl [(cI, .int)] s) (hA : ∀ q, s.heap.size ≤ q → A q) {a : Nat → Nat} {q : ms_T} {v1 : Int32} {S : ms_T} (h : f0_payToll v1 S = some q) {H : Heap} {locs : List Loc} {ls : Array Slot} (hG : gd_W (dC, dI) A s (wd_B cI a S) H locs) (hl : lv_has ls 8 [(0, .ref (a 0)), (1, .int v1)]) : W p l e RM0_payToll s m args below meth c H locs 0 0 (MQ below (qv_W (dC, dI) [(cI, .int)] A (wd_B cI a q)) args s 0 0 A) (F0 m 0 ls []) := by
  unfold f0_payToll at h
  obtain ⟨hx, hb, hr, hts, hown, hlocks, hml⟩ := id C
  refine lv_aload_n hx hb dX0_payToll_0 rfl (lv_at hl 0 rfl) ?_
  refine va_get (D := (dC, dI)) (ci := 0) (v := .ref (a 17)) (C := RX0) (T := TX0) (N := 15) hx hb hts inlX0 hown hK hG.1 0 rfl rfl 4 (by decide) (hts (Cond.fieldLink RX0 37 "DiceRoads$Board" "places" "LDiceRoads$Row;") wq_94) (fun _ h9 => h9) rfl dX0_payToll_1 ?_
  refine lv_iload_n hx hb dX0_payToll_4 rfl (lv_at hl 1 rfl) ?_
  obtain ⟨q5, hq5, h⟩ := fo_bd_some h
  refine gc_iV (b := a 17) (C := RX6) (As := [.int v1]) (rest := []) (wc := (wd_R cI (fun k => a (k + 17)) 0 4 (S 7))) (w1 := (wd_R cI (fun k => a (k + 17)) 0 4 (S 7))) (ci := 5) (q0 := 0) ⟨hx, hb, hml, hown, hts⟩ (c6_at l (a := (fun k => a (k + 17))) (v := 0) (z := 4) hq5) (cwV 1 hts gv_X0_94 rfl rfl rfl hd6_at ⟨Nat.le_of_ble_eq_true rfl, Nat.le_of_ble_eq_true rfl⟩) hK [0] rfl hA hG [17, 18] rfl rfl rfl rfl rfl rfl hl.1 rfl (Nat.le_of_ble_eq_true rfl) dX0_payToll_5 ⟨Nat.zero_le _, Nat.zero_le _⟩ (fun H locs hG9 => ?_)
  have hG : gd_W (dC, dI) A s (wd_B cI a S) H locs := hG9
  refine lv_istore_n (lv' := [(2, .int q5), (0, .ref (a 0)), (1, .int v1)]) hx hb dX0_payToll_8 rfl hl (by decide) rfl (fun ls hl => ?_)
  refine lv_aload_n hx hb dX0_payToll_9 rfl (lv_at hl 1 rfl) ?_
  refine va_get (D := (dC, dI)) (ci := 0) (v := .ref (a 1)) (C := RX0) (T := TX0) (N := 15) hx hb hts inlX0 hown hK hG.1 0 rfl rfl 0 (by decide) (hts (Cond.fieldLink RX0 12 "DiceRoads$Board" "roads" "LDiceRoads$Roads;") wq_89) (fun _ h9 => h9) rfl dX0_payToll_10 ?_
  refine lv_iload_n hx hb dX0_payToll_13 rfl (lv_at hl 0 rfl) ?_
  obtain ⟨q14, hq14, h⟩ := fo_bd_some h
  refine gc_iV (b := a 1) (C := RX5) (As := [.int q5]) (rest := []) (wc := (wd_O cI (fun k => a (k + 1)) S)) (w1 := (wd_O cI (fun k => a (k + 1)) S)) (ci := 4) (q0 := 0) ⟨hx, hb, hml, hown, hts⟩ (c5_firstOwner l (a := (fun k => a (k + 1))) hq14) (cwV 1 hts gv_X0_165 rfl rfl rfl hd5_firstOwner ⟨Nat.le_of_ble_eq_true rfl, Nat.le_of_ble_eq_true rfl⟩) hK [0] rfl hA hG [1, 2, 3, 4, 5] rfl rfl rfl rfl rfl rfl hl.1 rfl (Nat.le_of_ble_eq_true rfl) dX0_payToll_14 ⟨Nat.zero_le _, Nat.zero_le _⟩ (fun H locs hG9 => ?_)
  have hG : gd_W (dC, dI) A s (wd_B cI a S) H locs := hG9
  refine lv_istore_n (lv' := [(3, .int q14), (2, .int q5), (0, .ref (a 0)), (1, .int v1)]) hx hb dX0_payToll_17 rfl hl (by decide) rfl (fun ls hl => ?_)
  refine lv_aload_n hx hb dX0_payToll_18 rfl (lv_at hl 2 rfl) ?_
  refine va_get (D := (dC, dI)) (ci := 0) (v := .ref (a 1)) (C := RX0) (T := TX0) (N := 15) hx hb hts inlX0 hown hK hG.1 0 rfl rfl 0 (by decide) (hts (Cond.fieldLink RX0 12 "DiceRoads$Board" "roads" "LDiceRoads$Roads;") wq_89) (fun _ h9 => h9) rfl dX0_payToll_19 ?_
  refine lv_iload_n hx hb dX0_payToll_22 rfl (lv_at hl 1 rfl) ?_
  obtain ⟨q23, hq23, h⟩ := fo_bd_some h
  refine gc_iV (b := a 1) (C := RX5) (As := [.int q5]) (rest := []) (wc := (wd_O cI (fun k => a (k + 1)) S)) (w1 := (wd_O cI (fun k => a (k + 1)) S)) (ci := 4) (q0 := 0) ⟨hx, hb, hml, hown, hts⟩ (c5_secondOwner l (a := (fun k => a (k + 1))) hq23) (cwV 1 hts gv_X0_171 rfl rfl rfl hd5_secondOwner ⟨Nat.le_of_ble_eq_true rfl, Nat.le_of_ble_eq_true rfl⟩) hK [0] rfl hA hG [1, 2, 3, 4, 5] rfl rfl rfl rfl rfl rfl hl.1 rfl (Nat.le_of_ble_eq_true rfl) dX0_payToll_23 ⟨Nat.zero_le _, Nat.zero_le _⟩ (fun H locs hG9 => ?_)
  have hG : gd_W (dC, dI) A s (wd_B cI a S) H locs := hG9
  refine lv_istore (lv' := [(4, .int q23), (3, .int q14), (2, .int q5), (0, .ref (a 0)), (1, .int v1)]) hx hb dX0_payToll_26 hl (by decide) rfl (fun ls hl => ?_)
  refine lv_iload_n hx hb dX0_payToll_28 rfl (lv_at hl 1 rfl) ?_
  refine lv_bipush (v := (-6 : Int32)) hx hb dX0_payToll_29 (by decide) ?_
  refine lv_icmp_eq (tgt := 46) hx hb dX0_payToll_31 (by decide) (fun hc => ?_) (fun hc => ?_)
  · have h := fo_it h hc
    obtain rfl := Option.some.inj h
    exact gr_v hx hb hr hlocks hK hG dX0_payToll_46
  · have h := fo_if h hc
    refine lv_aload_n hx hb dX0_payToll_34 rfl (lv_at hl 3 rfl) ?_
    refine va_get (D := (dC, dI)) (ci := 0) (v := .ref (a 1)) (C := RX0) (T := TX0) (N := 15) hx hb hts inlX0 hown hK hG.1 0 rfl rfl 0 (by decide) (hts (Cond.fieldLink RX0 12 "DiceRoads$Board" "roads" "LDiceRoads$Roads;") wq_89) (fun _ h9 => h9) rfl dX0_payToll_35 ?_
    refine lv_iload_n hx hb dX0_payToll_38 rfl (lv_at hl 2 rfl) ?_
    refine lv_iload_n hx hb dX0_payToll_39 rfl (lv_at hl 4 rfl) ?_
    obtain ⟨q40, hq40, h⟩ := fo_bd_some h
    refine gc_iV (b := a 1) (C := RX5) (As := [.int q5, .int v1]) (rest := []) (wc := (wd_O cI (fun k => a (k + 1)) S)) (w1 := (wd_O cI (fun k => a (k + 1)) S)) (ci := 4) (q0 := 0) ⟨hx, hb, hml, hown, hts⟩ (c5_isOwnedBy l (a := (fun k => a (k + 1))) hq40) (cwV 2 hts gv_X0_158 rfl rfl rfl hd5_isOwnedBy ⟨Nat.le_of_ble_eq_true rfl, Nat.le_of_ble_eq_true rfl⟩) hK [0] rfl hA hG [1, 2, 3, 4, 5] rfl rfl rfl rfl rfl rfl hl.1 rfl (Nat.le_of_ble_eq_true rfl) dX0_payToll_40 ⟨Nat.zero_le _, Nat.zero_le _⟩ (fun H locs hG9 => ?_)
    have hG : gd_W (dC, dI) A s (wd_B cI a S) H locs := hG9
    refine lv_if_eq (tgt := 47) hx hb dX0_payToll_43 (by decide) (fun hc => ?_) (fun hc => ?_)
    · have h := fo_it h hc
      refine lv_aload_n hx hb dX0_payToll_47 rfl (lv_at hl 3 rfl) ?_
      refine va_get (D := (dC, dI)) (ci := 0) (v := .ref (a 1)) (C := RX0) (T := TX0) (N := 15) hx hb hts inlX0 hown hK hG.1 0 rfl rfl 0 (by decide) (hts (Cond.fieldLink RX0 12 "DiceRoads$Board" "roads" "LDiceRoads$Roads;") wq_89) (fun _ h9 => h9) rfl dX0_payToll_48 ?_
      refine lv_iload_n hx hb dX0_payToll_51 rfl (lv_at hl 2 rfl) ?_
      refine lv_aload_n hx hb dX0_payToll_52 rfl (lv_at hl 3 rfl) ?_
      refine va_get (D := (dC, dI)) (ci := 0) (v := .ref (a 13)) (C := RX0) (T := TX0) (N := 15) hx hb hts inlX0 hown hK hG.1 0 rfl rfl 2 (by decide) (hts (Cond.fieldLink RX0 30 "DiceRoads$Board" "settings" "LDiceRoads$Row;") wq_92) (fun _ h9 => h9) rfl dX0_payToll_53 ?_
      refine lv_iconst (v := (2 : Int32)) hx hb dX0_payToll_56 (by decide) ?_
      obtain ⟨q57, hq57, h⟩ := fo_bd_some h
      refine gc_iV (b := a 13) (C := RX6) (As := [.int (2 : Int32)]) (rest := [.int q5, .ref (a 1)]) (wc := (wd_R cI (fun k => a (k + 13)) 0 5 (S 5))) (w1 := (wd_R cI (fun k => a (k + 13)) 0 5 (S 5))) (ci := 5) (q0 := 0) ⟨hx, hb, hml, hown, hts⟩ (c6_at l (a := (fun k => a (k + 13))) (v := 0) (z := 5) hq57) (cwV 1 hts gv_X0_94 rfl rfl rfl hd6_at ⟨Nat.le_of_ble_eq_true rfl, Nat.le_of_ble_eq_true rfl⟩) hK [0] rfl hA hG [13, 14] rfl rfl rfl rfl rfl rfl hl.1 rfl (Nat.le_of_ble_eq_true rfl) dX0_payToll_57 ⟨Nat.zero_le _, Nat.zero_le _⟩ (fun H locs hG9 => ?_)
      have hG : gd_W (dC, dI) A s (wd_B cI a S) H locs := hG9
      obtain ⟨q60, hq60, h⟩ := fo_bd_some h
      refine gc_iV (b := a 1) (C := RX5) (As := [.int q5, .int q57]) (rest := []) (wc := (wd_O cI (fun k => a (k + 1)) S)) (w1 := (wd_O cI (fun k => a (k + 1)) S)) (ci := 4) (q0 := 0) ⟨hx, hb, hml, hown, hts⟩ (c5_toll l (a := (fun k => a (k + 1))) hq60) (cwV 2 hts gv_X0_174 rfl rfl rfl hd5_toll ⟨Nat.le_of_ble_eq_true rfl, Nat.le_of_ble_eq_true rfl⟩) hK [0] rfl hA hG [1, 2, 3, 4, 5] rfl rfl rfl rfl rfl rfl hl.1 rfl (Nat.le_of_ble_eq_true rfl) dX0_payToll_60 ⟨Nat.zero_le _, Nat.zero_le _⟩ (fun H locs hG9 => ?_)
      have hG : gd_W (dC, dI) A s (wd_B cI a S) H locs := hG9
      refine lv_istore (lv' := [(5, .int q60), (4, .int q23), (3, .int q14), (2, .int q5), (0, .ref (a 0)), (1, .int v1)]) hx hb dX0_payToll_63 hl (by decide) rfl (fun ls hl => ?_)
      refine lv_iload hx hb dX0_payToll_65 (lv_at hl 1 rfl) ?_
      refine lv_bipush (v := (-6 : Int32)) hx hb dX0_payToll_67 (by decide) ?_
      refine lv_icmp_ne (tgt := 76) hx hb dX0_payToll_69 (by decide) (fun hc => ?_) (fun hc => ?_)
      · have h := fo_if h hc
        refine lv_iload hx hb dX0_payToll_76 (lv_at hl 0 rfl) ?_
        refine lv_iconst (v := (2 : Int32)) hx hb dX0_payToll_78 (by decide) ?_
        refine lv_idiv hx hb dX0_payToll_79 (by decide) ?_
        exact w0_payToll_b80 C hK hA h hG (lv_sub hl [4, 5, 2, 1, 0] rfl)
      · have h := fo_it h hc
        refine lv_iconst (v := (0 : Int32)) hx hb dX0_payToll_72 (by decide) ?_
        refine lv_goto (tgt := 80) hx hb dX0_payToll_73 (by decide) ?_
        exact w0_payToll_b80 C hK hA h hG (lv_sub hl [4, 5, 2, 1, 0] rfl)
    · have h := fo_if h hc
      obtain rfl := Option.some.inj h
      exact gr_v hx hb hr hlocks hK hG dX0_payToll_46
set_option maxRecDepth 100000 in
set_option maxHeartbeats 4000000 in
theorem c0_payToll (l : Launch) {dC : Nat → ClassId} {dI : Nat → Nat → Nat} {cI : ClassId} {a : Nat → Nat} {v1 : Int32} {S : ms_T} {q : ms_T} (h : f0_payToll v1 S = some q) : mv_M l yX0_payToll wm0_payToll RM0_payToll (dC, dI) [(cI, .int)] [.ref (a 0), .int v1] (wd_B cI a S) (wd_B cI a q) := by
  intro sz
  refine Met.ofW (cc := cX0_payToll) (maxL := 8) (ret := none) (by decide) rfl ?_
  intro p e s m args below meth c s₁ B hml hv
  obtain ⟨rfl, hsz, hP, hK, hD0⟩ := hv
  subst hsz
  have hl := lv_entry ([.ref (a 0), .int v1] : List Value) (n := 8) (Nat.le_of_ble_eq_true rfl)
  rw [lg_entry_eq]
  generalize (lg_sl ([.ref (a 0), .int v1] : List Value) ++ List.replicate (8 - (lg_sl ([.ref (a 0), .int v1] : List Value)).length) Slot.unset).toArray = ls at hl ⊢
  exact w0_payToll (a := a) ⟨B.exec, B.bytes, B.returns, fun w hw => atoms_spec (ws := wm0_payToll) B.pre w (List.mem_cons_of_mem _ hw), findClass_of_methodNamed B.named, B.notSynchronized, hml⟩ hK (fun _ h => Or.inr h) h ⟨hP, hD0.self, va_S.rf⟩ hl
end
/-! ## DiceRoads$Board.loseSquares(I)V -/
section
variable {p : Program} {l : Launch} {e : Env} {s : State} {m : MethodId} {args : Array Value} {below : List Frame} {meth : Method} {c : Code} {dC : Nat → ClassId} {dI : Nat → Nat → Nat} {cI : ClassId} {A : Nat → Prop}
set_option maxRecDepth 100000 in
set_option maxHeartbeats 4000000 in
theorem w0_loseSquares_b2 (C : cx_M p s m args meth c RX0 cX0_loseSquares none 5) (hK : va_K (dC, dI) vwCl [(cI, .int)] s) (hA : ∀ q, s.heap.size ≤ q → A q) {a : Nat → Nat} {q : ms_T} {rec2 : Int32 → Int32 → ms_T → Option ms_T} (hrec2 : ∀ {v1 : Int32} {v2 : Int32} {S : ms_T} , rec2 v1 v2 S = some q → ∀ {H : Heap} {locs : List Loc} {ls : Array Slot}, gd_W (dC, dI) A s (wd_B cI a S) H locs → lv_has ls 5 [(0, .ref (a 0)), (1, .int v1), (2, .int v2)] → W p l e RM0_loseSquares s m args below meth c H locs 0 0 (MQ below (qv_W (dC, dI) [(cI, .int)] A (wd_B cI a q)) args s 0 0 A) (F0 m 2 ls [])) {v1 : Int32} {v2 : Int32} {S : ms_T} (h : f0_loseSquares_b2 rec2 v1 v2 S = some q) {H : Heap} {locs : List Loc} {ls : Array Slot} (hG : gd_W (dC, dI) A s (wd_B cI a S) H locs) (hl : lv_has ls 5 [(0, .ref (a 0)), (1, .int v1), (2, .int v2)]) : W p l e RM0_loseSquares s m args below meth c H locs 0 0 (MQ below (qv_W (dC, dI) [(cI, .int)] A (wd_B cI a q)) args s 0 0 A) (F0 m 2 ls []) := by
  unfold f0_loseSquares_b2 at h
  obtain ⟨hx, hb, hr, hts, hown, hlocks, hml⟩ := id C
  refine lv_iload_n hx hb dX0_loseSquares_2 rfl (lv_at hl 2 rfl) ?_
  refine lv_iconst (v := (4 : Int32)) hx hb dX0_loseSquares_3 (by decide) ?_
  refine lv_icmp_ge (tgt := 105) hx hb dX0_loseSquares_4 (by decide) (fun hc => ?_) (fun hc => ?_)
  · have h := fo_it h hc
    obtain rfl := Option.some.inj h
    exact gr_v hx hb hr hlocks hK hG dX0_loseSquares_105
  · have h := fo_if h hc
    refine lv_aload_n hx hb dX0_loseSquares_7 rfl (lv_at hl 0 rfl) ?_
    refine va_get (D := (dC, dI)) (ci := 0) (v := .ref (a 6)) (C := RX0) (T := TX0) (N := 15) hx hb hts inlX0 hown hK hG.1 0 rfl rfl 1 (by decide) (hts (Cond.fieldLink RX0 21 "DiceRoads$Board" "debts" "LDiceRoads$Debts;") wq_90) (fun _ h9 => h9) rfl dX0_loseSquares_8 ?_
    refine lv_iload_n hx hb dX0_loseSquares_11 rfl (lv_at hl 1 rfl) ?_
    obtain ⟨q12, hq12, h⟩ := fo_bd_some h
    refine gc_iV (b := a 6) (C := RX1) (As := [.int v1]) (rest := []) (wc := (wd_D cI (fun k => a (k + 6)) (ms_from S 2))) (w1 := (wd_D cI (fun k => a (k + 6)) (ms_from S 2))) (ci := 1) (q0 := 0) ⟨hx, hb, hml, hown, hts⟩ (c1_oldestOf l (a := (fun k => a (k + 6))) hq12) (cwV 1 hts gv_X0_134 rfl rfl rfl hd1_oldestOf ⟨Nat.le_of_ble_eq_true rfl, Nat.le_of_ble_eq_true rfl⟩) hK [0] rfl hA hG [6, 7, 8, 9, 10, 11, 12] rfl rfl rfl rfl rfl rfl hl.1 rfl (Nat.le_of_ble_eq_true rfl) dX0_loseSquares_12 ⟨Nat.zero_le _, Nat.zero_le _⟩ (fun H locs hG9 => ?_)
    have hG : gd_W (dC, dI) A s (wd_B cI a S) H locs := hG9
    refine lv_istore_n (lv' := [(3, .int q12), (0, .ref (a 0)), (1, .int v1), (2, .int v2)]) hx hb dX0_loseSquares_15 rfl hl (by decide) rfl (fun ls hl => ?_)
    refine lv_iload_n hx hb dX0_loseSquares_16 rfl (lv_at hl 0 rfl) ?_
    refine lv_bipush (v := (-6 : Int32)) hx hb dX0_loseSquares_17 (by decide) ?_
    refine lv_icmp_eq (tgt := 42) hx hb dX0_loseSquares_19 (by decide) (fun hc => ?_) (fun hc => ?_)
    · have h := fo_it h hc
      obtain rfl := Option.some.inj h
      exact gr_v hx hb hr hlocks hK hG dX0_loseSquares_42
    · have h := fo_if h hc
      refine lv_aload_n hx hb dX0_loseSquares_22 rfl (lv_at hl 1 rfl) ?_
      refine va_get (D := (dC, dI)) (ci := 0) (v := .ref (a 6)) (C := RX0) (T := TX0) (N := 15) hx hb hts inlX0 hown hK hG.1 0 rfl rfl 1 (by decide) (hts (Cond.fieldLink RX0 21 "DiceRoads$Board" "debts" "LDiceRoads$Debts;") wq_90) (fun _ h9 => h9) rfl dX0_loseSquares_23 ?_
      refine lv_iload_n hx hb dX0_loseSquares_26 rfl (lv_at hl 2 rfl) ?_
      refine lv_iload_n hx hb dX0_loseSquares_27 rfl (lv_at hl 0 rfl) ?_
      obtain ⟨q28, hq28, h⟩ := fo_bd_some h
      refine gc_iV (b := a 6) (C := RX1) (As := [.int v1, .int q12]) (rest := []) (wc := (wd_D cI (fun k => a (k + 6)) (ms_from S 2))) (w1 := (wd_D cI (fun k => a (k + 6)) (ms_from S 2))) (ci := 1) (q0 := 0) ⟨hx, hb, hml, hown, hts⟩ (c1_ageOf l (a := (fun k => a (k + 6))) hq28) (cwV 2 hts gv_X0_180 rfl rfl rfl hd1_ageOf ⟨Nat.le_of_ble_eq_true rfl, Nat.le_of_ble_eq_true rfl⟩) hK [0] rfl hA hG [6, 7, 8, 9, 10, 11, 12] rfl rfl rfl rfl rfl rfl hl.1 rfl (Nat.le_of_ble_eq_true rfl) dX0_loseSquares_28 ⟨Nat.zero_le _, Nat.zero_le _⟩ (fun H locs hG9 => ?_)
      have hG : gd_W (dC, dI) A s (wd_B cI a S) H locs := hG9
      refine lv_aload_n hx hb dX0_loseSquares_31 rfl (lv_at hl 1 rfl) ?_
      refine va_get (D := (dC, dI)) (ci := 0) (v := .ref (a 13)) (C := RX0) (T := TX0) (N := 15) hx hb hts inlX0 hown hK hG.1 0 rfl rfl 2 (by decide) (hts (Cond.fieldLink RX0 30 "DiceRoads$Board" "settings" "LDiceRoads$Row;") wq_92) (fun _ h9 => h9) rfl dX0_loseSquares_32 ?_
      refine lv_iconst (v := (4 : Int32)) hx hb dX0_loseSquares_35 (by decide) ?_
      obtain ⟨q36, hq36, h⟩ := fo_bd_some h
      refine gc_iV (b := a 13) (C := RX6) (As := [.int (4 : Int32)]) (rest := [.int q28]) (wc := (wd_R cI (fun k => a (k + 13)) 0 5 (S 5))) (w1 := (wd_R cI (fun k => a (k + 13)) 0 5 (S 5))) (ci := 5) (q0 := 0) ⟨hx, hb, hml, hown, hts⟩ (c6_at l (a := (fun k => a (k + 13))) (v := 0) (z := 5) hq36) (cwV 1 hts gv_X0_94 rfl rfl rfl hd6_at ⟨Nat.le_of_ble_eq_true rfl, Nat.le_of_ble_eq_true rfl⟩) hK [0] rfl hA hG [13, 14] rfl rfl rfl rfl rfl rfl hl.1 rfl (Nat.le_of_ble_eq_true rfl) dX0_loseSquares_36 ⟨Nat.zero_le _, Nat.zero_le _⟩ (fun H locs hG9 => ?_)
      have hG : gd_W (dC, dI) A s (wd_B cI a S) H locs := hG9
      refine lv_icmp_gt (tgt := 43) hx hb dX0_loseSquares_39 (by decide) (fun hc => ?_) (fun hc => ?_)
      · have h := fo_it h hc
        refine lv_aload_n hx hb dX0_loseSquares_43 rfl (lv_at hl 1 rfl) ?_
        refine va_get (D := (dC, dI)) (ci := 0) (v := .ref (a 1)) (C := RX0) (T := TX0) (N := 15) hx hb hts inlX0 hown hK hG.1 0 rfl rfl 0 (by decide) (hts (Cond.fieldLink RX0 12 "DiceRoads$Board" "roads" "LDiceRoads$Roads;") wq_89) (fun _ h9 => h9) rfl dX0_loseSquares_44 ?_
        refine lv_iload_n hx hb dX0_loseSquares_47 rfl (lv_at hl 2 rfl) ?_
        obtain ⟨q48, hq48, h⟩ := fo_bd_some h
        refine gc_iV (b := a 1) (C := RX5) (As := [.int v1]) (rest := []) (wc := (wd_O cI (fun k => a (k + 1)) S)) (w1 := (wd_O cI (fun k => a (k + 1)) S)) (ci := 4) (q0 := 0) ⟨hx, hb, hml, hown, hts⟩ (c5_lowestOf l (a := (fun k => a (k + 1))) hq48) (cwV 1 hts gv_X0_183 rfl rfl rfl hd5_lowestOf ⟨Nat.le_of_ble_eq_true rfl, Nat.le_of_ble_eq_true rfl⟩) hK [0] rfl hA hG [1, 2, 3, 4, 5] rfl rfl rfl rfl rfl rfl hl.1 rfl (Nat.le_of_ble_eq_true rfl) dX0_loseSquares_48 ⟨Nat.zero_le _, Nat.zero_le _⟩ (fun H locs hG9 => ?_)
        have hG : gd_W (dC, dI) A s (wd_B cI a S) H locs := hG9
        refine lv_istore (lv' := [(4, .int q48), (3, .int q12), (0, .ref (a 0)), (1, .int v1), (2, .int v2)]) hx hb dX0_loseSquares_51 hl (by decide) rfl (fun ls hl => ?_)
        refine lv_iload hx hb dX0_loseSquares_53 (lv_at hl 0 rfl) ?_
        refine lv_bipush (v := (-6 : Int32)) hx hb dX0_loseSquares_55 (by decide) ?_
        refine lv_icmp_ne (tgt := 61) hx hb dX0_loseSquares_57 (by decide) (fun hc => ?_) (fun hc => ?_)
        · have h := fo_if h hc
          refine lv_aload_n hx hb dX0_loseSquares_61 rfl (lv_at hl 2 rfl) ?_
          refine va_get (D := (dC, dI)) (ci := 0) (v := .ref (a 1)) (C := RX0) (T := TX0) (N := 15) hx hb hts inlX0 hown hK hG.1 0 rfl rfl 0 (by decide) (hts (Cond.fieldLink RX0 12 "DiceRoads$Board" "roads" "LDiceRoads$Roads;") wq_89) (fun _ h9 => h9) rfl dX0_loseSquares_62 ?_
          refine lv_iload hx hb dX0_loseSquares_65 (lv_at hl 0 rfl) ?_
          refine lv_iload_n hx hb dX0_loseSquares_67 rfl (lv_at hl 3 rfl) ?_
          refine lv_iload_n hx hb dX0_loseSquares_68 rfl (lv_at hl 1 rfl) ?_
          obtain ⟨q69, hq69, h⟩ := fo_bd_some h
          refine gc_vV (b := a 1) (C := RX5) (As := [.int q48, .int v1, .int q12]) (rest := []) (wc := (wd_O cI (fun k => a (k + 1)) S)) (w1 := (wd_O cI (fun k => a (k + 1)) q69)) (ci := 4) (q0 := 0) ⟨hx, hb, hml, hown, hts⟩ (c5_handOn l (a := (fun k => a (k + 1))) hq69) (cwV 3 hts gv_X0_186 rfl rfl rfl hd5_handOn ⟨Nat.le_of_ble_eq_true rfl, Nat.le_of_ble_eq_true rfl⟩) hK [0] rfl hA hG [1, 2, 3, 4, 5] rfl rfl rfl rfl rfl rfl hl.1 rfl (Nat.le_of_ble_eq_true rfl) dX0_loseSquares_69 ⟨Nat.zero_le _, Nat.zero_le _⟩ (fun H locs hG9 => ?_)
          have hG : gd_W (dC, dI) A s (wd_B cI a (ms_sub S 0 2 q69)) H locs := hG9
          refine lv_aload_n hx hb dX0_loseSquares_72 rfl (lv_at hl 2 rfl) ?_
          refine va_get (D := (dC, dI)) (ci := 0) (v := .ref (a 6)) (C := RX0) (T := TX0) (N := 15) hx hb hts inlX0 hown hK hG.1 0 rfl rfl 1 (by decide) (hts (Cond.fieldLink RX0 21 "DiceRoads$Board" "debts" "LDiceRoads$Debts;") wq_90) (fun _ h9 => h9) rfl dX0_loseSquares_73 ?_
          refine lv_iload_n hx hb dX0_loseSquares_76 rfl (lv_at hl 3 rfl) ?_
          refine lv_iload_n hx hb dX0_loseSquares_77 rfl (lv_at hl 1 rfl) ?_
          refine lv_aload_n hx hb dX0_loseSquares_78 rfl (lv_at hl 2 rfl) ?_
          refine va_get (D := (dC, dI)) (ci := 0) (v := .ref (a 6)) (C := RX0) (T := TX0) (N := 15) hx hb hts inlX0 hown hK hG.1 0 rfl rfl 1 (by decide) (hts (Cond.fieldLink RX0 21 "DiceRoads$Board" "debts" "LDiceRoads$Debts;") wq_90) (fun _ h9 => h9) rfl dX0_loseSquares_79 ?_
          refine lv_iload_n hx hb dX0_loseSquares_82 rfl (lv_at hl 3 rfl) ?_
          refine lv_iload_n hx hb dX0_loseSquares_83 rfl (lv_at hl 1 rfl) ?_
          obtain ⟨q84, hq84, h⟩ := fo_bd_some h
          refine gc_iV (b := a 6) (C := RX1) (As := [.int v1, .int q12]) (rest := [.int q12, .int v1, .ref (a 6)]) (wc := (wd_D cI (fun k => a (k + 6)) (ms_from (ms_sub S 0 2 q69) 2))) (w1 := (wd_D cI (fun k => a (k + 6)) (ms_from (ms_sub S 0 2 q69) 2))) (ci := 1) (q0 := 0) ⟨hx, hb, hml, hown, hts⟩ (c1_coinsOf l (a := (fun k => a (k + 6))) hq84) (cwV 2 hts gv_X0_137 rfl rfl rfl hd1_coinsOf ⟨Nat.le_of_ble_eq_true rfl, Nat.le_of_ble_eq_true rfl⟩) hK [0] rfl hA hG [6, 7, 8, 9, 10, 11, 12] rfl rfl rfl rfl rfl rfl hl.1 rfl (Nat.le_of_ble_eq_true rfl) dX0_loseSquares_84 ⟨Nat.zero_le _, Nat.zero_le _⟩ (fun H locs hG9 => ?_)
          have hG : gd_W (dC, dI) A s (wd_B cI a (ms_sub S 0 2 q69)) H locs := hG9
          obtain ⟨q87, hq87, h⟩ := fo_bd_some h
          refine gc_vV (b := a 6) (C := RX1) (As := [.int v1, .int q12, .int q84]) (rest := []) (wc := (wd_D cI (fun k => a (k + 6)) (ms_from (ms_sub S 0 2 q69) 2))) (w1 := (wd_D cI (fun k => a (k + 6)) q87)) (ci := 1) (q0 := 0) ⟨hx, hb, hml, hown, hts⟩ (c1_shrink l (a := (fun k => a (k + 6))) hq87) (cwV 3 hts gv_X0_145 rfl rfl rfl hd1_shrink ⟨Nat.le_of_ble_eq_true rfl, Nat.le_of_ble_eq_true rfl⟩) hK [0] rfl hA hG [6, 7, 8, 9, 10, 11, 12] rfl rfl rfl rfl rfl rfl hl.1 rfl (Nat.le_of_ble_eq_true rfl) dX0_loseSquares_87 ⟨Nat.zero_le _, Nat.zero_le _⟩ (fun H locs hG9 => ?_)
          have hG : gd_W (dC, dI) A s (wd_B cI a (ms_sub (ms_sub S 0 2 q69) 2 3 q87)) H locs := hG9
          refine lv_aload_n hx hb dX0_loseSquares_90 rfl (lv_at hl 2 rfl) ?_
          refine va_get (D := (dC, dI)) (ci := 0) (v := .ref (a 25)) (C := RX0) (T := TX0) (N := 15) hx hb hts inlX0 hown hK hG.1 0 rfl rfl 8 (by decide) (hts (Cond.fieldLink RX0 49 "DiceRoads$Board" "squaresLost" "LDiceRoads$Row;") wq_98) (fun _ h9 => h9) rfl dX0_loseSquares_91 ?_
          refine lv_iload_n hx hb dX0_loseSquares_94 rfl (lv_at hl 3 rfl) ?_
          refine lv_iconst (v := (1 : Int32)) hx hb dX0_loseSquares_95 (by decide) ?_
          obtain ⟨q96, hq96, h⟩ := fo_bd_some h
          refine gc_vV (b := a 25) (C := RX6) (As := [.int v1, .int (1 : Int32)]) (rest := []) (wc := (wd_R cI (fun k => a (k + 25)) 0 4 ((ms_sub (ms_sub S 0 2 q69) 2 3 q87) 11))) (w1 := (wd_R cI (fun k => a (k + 25)) 0 4 q96)) (ci := 5) (q0 := 0) ⟨hx, hb, hml, hown, hts⟩ (c6_add l (a := (fun k => a (k + 25))) (v := 0) (z := 4) hq96) (cwV 2 hts gv_X0_131 rfl rfl rfl hd6_add ⟨Nat.le_of_ble_eq_true rfl, Nat.le_of_ble_eq_true rfl⟩) hK [0] rfl hA hG [25, 26] rfl rfl rfl rfl rfl rfl hl.1 rfl (Nat.le_of_ble_eq_true rfl) dX0_loseSquares_96 ⟨Nat.zero_le _, Nat.zero_le _⟩ (fun H locs hG9 => ?_)
          have hG : gd_W (dC, dI) A s (wd_B cI a (ms_set (ms_sub (ms_sub S 0 2 q69) 2 3 q87) 11 q96)) H locs := hG9
          refine lv_iinc (v := (v2 + (1 : Int32))) (lv' := [(2, .int (v2 + (1 : Int32))), (4, .int q48), (3, .int q12), (0, .ref (a 0)), (1, .int v1)]) hx hb dX0_loseSquares_99 hl (k := 4) rfl rfl (by decide) rfl (fun ls hl => ?_)
          refine lv_goto (tgt := 2) hx hb dX0_loseSquares_102 (by decide) ?_
          exact hrec2 h hG (lv_sub hl [3, 4, 0] rfl)
        · have h := fo_it h hc
          obtain rfl := Option.some.inj h
          exact gr_v hx hb hr hlocks hK hG dX0_loseSquares_60
      · have h := fo_if h hc
        obtain rfl := Option.some.inj h
        exact gr_v hx hb hr hlocks hK hG dX0_loseSquares_42
set_option maxRecDepth 100000 in
set_option maxHeartbeats 4000000 in
theorem w0_loseSquares_L2 (C : cx_M p s m args meth c RX0 cX0_loseSquares none 5) (hK : va_K (dC, dI) vwCl [(cI, .int)] s) (hA : ∀ q, s.heap.size ≤ q → A q) {a : Nat → Nat} {q : ms_T} : ∀ (n : Nat) {v1 : Int32} {v2 : Int32} {S : ms_T}, f0_loseSquares_L2 n v1 v2 S = some q → ∀ {H : Heap} {locs : List Loc} {ls : Array Slot}, gd_W (dC, dI) A s (wd_B cI a S) H locs → lv_has ls 5 [(0, .ref (a 0)), (1, .int v1), (2, .int v2)] → W p l e RM0_loseSquares s m args below meth c H locs 0 0 (MQ below (qv_W (dC, dI) [(cI, .int)] A (wd_B cI a q)) args s 0 0 A) (F0 m 2 ls []) := by
  intro n
  induction n with
  | zero => intro _ _ _ h; exact nomatch h
  | succ n ih => intro v1 v2 S h H locs ls hG hl; exact w0_loseSquares_b2 C hK hA (fun h => ih h) (show f0_loseSquares_b2 (f0_loseSquares_L2 n) v1 v2 S = some q from h) hG hl
set_option maxRecDepth 100000 in
set_option maxHeartbeats 4000000 in
theorem w0_loseSquares (C : cx_M p s m args meth c RX0 cX0_loseSquares none 5) (hK : va_K (dC, dI) vwCl [(cI, .int)] s) (hA : ∀ q, s.heap.size ≤ q → A q) {a : Nat → Nat} {q : ms_T} {v1 : Int32} {S : ms_T} (h : f0_loseSquares v1 S = some q) {H : Heap} {locs : List Loc} {ls : Array Slot} (hG : gd_W (dC, dI) A s (wd_B cI a S) H locs) (hl : lv_has ls 5 [(0, .ref (a 0)), (1, .int v1)]) : W p l e RM0_loseSquares s m args below meth c H locs 0 0 (MQ below (qv_W (dC, dI) [(cI, .int)] A (wd_B cI a q)) args s 0 0 A) (F0 m 0 ls []) := by
  unfold f0_loseSquares at h
  obtain ⟨hx, hb, hr, hts, hown, hlocks, hml⟩ := id C
  refine lv_iconst (v := (0 : Int32)) hx hb dX0_loseSquares_0 (by decide) ?_
  refine lv_istore_n (lv' := [(2, .int (0 : Int32)), (0, .ref (a 0)), (1, .int v1)]) hx hb dX0_loseSquares_1 rfl hl (by decide) rfl (fun ls hl => ?_)
  exact w0_loseSquares_L2 C hK hA fo_fu h hG (lv_sub hl [1, 2, 0] rfl)
set_option maxRecDepth 100000 in
set_option maxHeartbeats 4000000 in
theorem c0_loseSquares (l : Launch) {dC : Nat → ClassId} {dI : Nat → Nat → Nat} {cI : ClassId} {a : Nat → Nat} {v1 : Int32} {S : ms_T} {q : ms_T} (h : f0_loseSquares v1 S = some q) : mv_M l yX0_loseSquares wm0_loseSquares RM0_loseSquares (dC, dI) [(cI, .int)] [.ref (a 0), .int v1] (wd_B cI a S) (wd_B cI a q) := by
  intro sz
  refine Met.ofW (cc := cX0_loseSquares) (maxL := 5) (ret := none) (by decide) rfl ?_
  intro p e s m args below meth c s₁ B hml hv
  obtain ⟨rfl, hsz, hP, hK, hD0⟩ := hv
  subst hsz
  have hl := lv_entry ([.ref (a 0), .int v1] : List Value) (n := 5) (Nat.le_of_ble_eq_true rfl)
  rw [lg_entry_eq]
  generalize (lg_sl ([.ref (a 0), .int v1] : List Value) ++ List.replicate (5 - (lg_sl ([.ref (a 0), .int v1] : List Value)).length) Slot.unset).toArray = ls at hl ⊢
  exact w0_loseSquares (a := a) ⟨B.exec, B.bytes, B.returns, fun w hw => atoms_spec (ws := wm0_loseSquares) B.pre w (List.mem_cons_of_mem _ hw), findClass_of_methodNamed B.named, B.notSynchronized, hml⟩ hK (fun _ h => Or.inr h) h ⟨hP, hD0.self, va_S.rf⟩ hl
end
