/-! ## DiceRoads$Board.factOfPlayer(II)I -/
section
variable {p : Program} {l : Launch} {e : Env} {s : State} {m : MethodId} {args : Array Value} {below : List Frame} {meth : Method} {c : Code} {dC : Nat → ClassId} {dI : Nat → Nat → Nat} {cI : ClassId} {A : Nat → Prop}
set_option maxRecDepth 100000 in
set_option maxHeartbeats 4000000 in
theorem w0_factOfPlayer (C : cx_M p s m args meth c RX0 cX0_factOfPlayer (some .int) 3) (hK : va_K (dC, dI) vwCl [(cI, .int)] s) (hA : ∀ q, s.heap.size ≤ q → A q) {a : Nat → Nat} {q : Int32} {v1 : Int32} {v2 : Int32} {S : ms_T} (h : f0_factOfPlayer v1 v2 S = some q) {H : Heap} {locs : List Loc} {ls : Array Slot} (hG : gd_W (dC, dI) A s (wd_B cI a S) H locs) (hl : lv_has ls 3 [(0, .ref (a 0)), (1, .int v1), (2, .int v2)]) : W p l e RM0_factOfPlayer s m args below meth c H locs 0 0 (MQ below (qi_W (dC, dI) [(cI, .int)] A q (wd_B cI a S)) args s 0 0 A) (F0 m 0 ls []) := by
  unfold f0_factOfPlayer at h
  obtain ⟨hx, hb, hr, hts, hown, hlocks, hml⟩ := id C
  refine lv_iload_n hx hb dX0_factOfPlayer_0 rfl (lv_at hl 2 rfl) ?_
  by_cases hc : v2 = (0 : Int32)
  · have h := fo_it h hc
    refine W.eq (g2 := F0 m 1 ls [.int (0 : Int32)]) (by rw [hc]) ?_
    refine lv_tableIn (tgt := 52) hx hb dX0_factOfPlayer_1 (by decide) (by decide) rfl (by decide) ?_
    refine lv_aload_n hx hb dX0_factOfPlayer_52 rfl (lv_at hl 0 rfl) ?_
    refine va_get (D := (dC, dI)) (ci := 0) (v := .ref (a 15)) (C := RX0) (T := TX0) (N := 15) hx hb hts inlX0 hown hK hG.1 0 rfl rfl 3 (by decide) (hts (Cond.fieldLink RX0 34 "DiceRoads$Board" "purses" "LDiceRoads$Row;") wq_93) (fun _ h9 => h9) rfl dX0_factOfPlayer_53 ?_
    refine lv_iload_n hx hb dX0_factOfPlayer_56 rfl (lv_at hl 1 rfl) ?_
    obtain ⟨q57, hq57, h⟩ := fo_bd_some h
    refine gc_iV (b := a 15) (C := RX6) (As := [.int v1]) (rest := []) (wc := (wd_R cI (fun k => a (k + 15)) 0 4 (S 6))) (w1 := (wd_R cI (fun k => a (k + 15)) 0 4 (S 6))) (ci := 5) (q0 := 0) ⟨hx, hb, hml, hown, hts⟩ (c6_at l (a := (fun k => a (k + 15))) (v := 0) (z := 4) hq57) (cwV 1 hts gv_X0_94 rfl rfl rfl hd6_at ⟨Nat.le_of_ble_eq_true rfl, Nat.le_of_ble_eq_true rfl⟩) hK [0] rfl hA hG [15, 16] rfl rfl rfl rfl rfl rfl hl.1 rfl (Nat.le_of_ble_eq_true rfl) dX0_factOfPlayer_57 ⟨Nat.zero_le _, Nat.zero_le _⟩ (fun H locs hG9 => ?_)
    have hG : gd_W (dC, dI) A s (wd_B cI a S) H locs := hG9
    exact gr_i hx hb hr hlocks hK hG (Option.some.inj h) dX0_factOfPlayer_60
  replace h := fo_if h hc
  have hn0 := lv_neT (a := 0) hc (by decide)
  have hm0 := hc
  clear hc
  by_cases hc : v2 = (1 : Int32)
  · have h := fo_it h hc
    refine W.eq (g2 := F0 m 1 ls [.int (1 : Int32)]) (by rw [hc]) ?_
    refine lv_tableIn (tgt := 61) hx hb dX0_factOfPlayer_1 (by decide) (by decide) rfl (by decide) ?_
    refine lv_aload_n hx hb dX0_factOfPlayer_61 rfl (lv_at hl 0 rfl) ?_
    refine va_get (D := (dC, dI)) (ci := 0) (v := .ref (a 17)) (C := RX0) (T := TX0) (N := 15) hx hb hts inlX0 hown hK hG.1 0 rfl rfl 4 (by decide) (hts (Cond.fieldLink RX0 37 "DiceRoads$Board" "places" "LDiceRoads$Row;") wq_94) (fun _ h9 => h9) rfl dX0_factOfPlayer_62 ?_
    refine lv_iload_n hx hb dX0_factOfPlayer_65 rfl (lv_at hl 1 rfl) ?_
    obtain ⟨q66, hq66, h⟩ := fo_bd_some h
    refine gc_iV (b := a 17) (C := RX6) (As := [.int v1]) (rest := []) (wc := (wd_R cI (fun k => a (k + 17)) 0 4 (S 7))) (w1 := (wd_R cI (fun k => a (k + 17)) 0 4 (S 7))) (ci := 5) (q0 := 0) ⟨hx, hb, hml, hown, hts⟩ (c6_at l (a := (fun k => a (k + 17))) (v := 0) (z := 4) hq66) (cwV 1 hts gv_X0_94 rfl rfl rfl hd6_at ⟨Nat.le_of_ble_eq_true rfl, Nat.le_of_ble_eq_true rfl⟩) hK [0] rfl hA hG [17, 18] rfl rfl rfl rfl rfl rfl hl.1 rfl (Nat.le_of_ble_eq_true rfl) dX0_factOfPlayer_66 ⟨Nat.zero_le _, Nat.zero_le _⟩ (fun H locs hG9 => ?_)
    have hG : gd_W (dC, dI) A s (wd_B cI a S) H locs := hG9
    exact gr_i hx hb hr hlocks hK hG (Option.some.inj h) dX0_factOfPlayer_69
  replace h := fo_if h hc
  have hn1 := lv_neT (a := 1) hc (by decide)
  have hm1 := hc
  clear hc
  by_cases hc : v2 = (2 : Int32)
  · have h := fo_it h hc
    refine W.eq (g2 := F0 m 1 ls [.int (2 : Int32)]) (by rw [hc]) ?_
    refine lv_tableIn (tgt := 70) hx hb dX0_factOfPlayer_1 (by decide) (by decide) rfl (by decide) ?_
    refine lv_aload_n hx hb dX0_factOfPlayer_70 rfl (lv_at hl 0 rfl) ?_
    refine va_get (D := (dC, dI)) (ci := 0) (v := .ref (a 1)) (C := RX0) (T := TX0) (N := 15) hx hb hts inlX0 hown hK hG.1 0 rfl rfl 0 (by decide) (hts (Cond.fieldLink RX0 12 "DiceRoads$Board" "roads" "LDiceRoads$Roads;") wq_89) (fun _ h9 => h9) rfl dX0_factOfPlayer_71 ?_
    refine lv_iload_n hx hb dX0_factOfPlayer_74 rfl (lv_at hl 1 rfl) ?_
    obtain ⟨q75, hq75, h⟩ := fo_bd_some h
    refine gc_iV (b := a 1) (C := RX5) (As := [.int v1]) (rest := []) (wc := (wd_O cI (fun k => a (k + 1)) S)) (w1 := (wd_O cI (fun k => a (k + 1)) S)) (ci := 4) (q0 := 0) ⟨hx, hb, hml, hown, hts⟩ (c5_squaresOf l (a := (fun k => a (k + 1))) hq75) (cwV 1 hts gv_X0_195 rfl rfl rfl hd5_squaresOf ⟨Nat.le_of_ble_eq_true rfl, Nat.le_of_ble_eq_true rfl⟩) hK [0] rfl hA hG [1, 2, 3, 4, 5] rfl rfl rfl rfl rfl rfl hl.1 rfl (Nat.le_of_ble_eq_true rfl) dX0_factOfPlayer_75 ⟨Nat.zero_le _, Nat.zero_le _⟩ (fun H locs hG9 => ?_)
    have hG : gd_W (dC, dI) A s (wd_B cI a S) H locs := hG9
    exact gr_i hx hb hr hlocks hK hG (Option.some.inj h) dX0_factOfPlayer_78
  replace h := fo_if h hc
  have hn2 := lv_neT (a := 2) hc (by decide)
  have hm2 := hc
  clear hc
  by_cases hc : v2 = (3 : Int32)
  · have h := fo_it h hc
    refine W.eq (g2 := F0 m 1 ls [.int (3 : Int32)]) (by rw [hc]) ?_
    refine lv_tableIn (tgt := 79) hx hb dX0_factOfPlayer_1 (by decide) (by decide) rfl (by decide) ?_
    refine lv_aload_n hx hb dX0_factOfPlayer_79 rfl (lv_at hl 0 rfl) ?_
    refine va_get (D := (dC, dI)) (ci := 0) (v := .ref (a 6)) (C := RX0) (T := TX0) (N := 15) hx hb hts inlX0 hown hK hG.1 0 rfl rfl 1 (by decide) (hts (Cond.fieldLink RX0 21 "DiceRoads$Board" "debts" "LDiceRoads$Debts;") wq_90) (fun _ h9 => h9) rfl dX0_factOfPlayer_80 ?_
    refine lv_iload_n hx hb dX0_factOfPlayer_83 rfl (lv_at hl 1 rfl) ?_
    obtain ⟨q84, hq84, h⟩ := fo_bd_some h
    refine gc_iV (b := a 6) (C := RX1) (As := [.int v1]) (rest := []) (wc := (wd_D cI (fun k => a (k + 6)) (ms_from S 2))) (w1 := (wd_D cI (fun k => a (k + 6)) (ms_from S 2))) (ci := 1) (q0 := 0) ⟨hx, hb, hml, hown, hts⟩ (c1_owedBy l (a := (fun k => a (k + 6))) hq84) (cwV 1 hts gv_X0_192 rfl rfl rfl hd1_owedBy ⟨Nat.le_of_ble_eq_true rfl, Nat.le_of_ble_eq_true rfl⟩) hK [0] rfl hA hG [6, 7, 8, 9, 10, 11, 12] rfl rfl rfl rfl rfl rfl hl.1 rfl (Nat.le_of_ble_eq_true rfl) dX0_factOfPlayer_84 ⟨Nat.zero_le _, Nat.zero_le _⟩ (fun H locs hG9 => ?_)
    have hG : gd_W (dC, dI) A s (wd_B cI a S) H locs := hG9
    exact gr_i hx hb hr hlocks hK hG (Option.some.inj h) dX0_factOfPlayer_87
  replace h := fo_if h hc
  have hn3 := lv_neT (a := 3) hc (by decide)
  have hm3 := hc
  clear hc
  by_cases hc : v2 = (4 : Int32)
  · have h := fo_it h hc
    refine W.eq (g2 := F0 m 1 ls [.int (4 : Int32)]) (by rw [hc]) ?_
    refine lv_tableIn (tgt := 88) hx hb dX0_factOfPlayer_1 (by decide) (by decide) rfl (by decide) ?_
    refine lv_aload_n hx hb dX0_factOfPlayer_88 rfl (lv_at hl 0 rfl) ?_
    refine va_get (D := (dC, dI)) (ci := 0) (v := .ref (a 6)) (C := RX0) (T := TX0) (N := 15) hx hb hts inlX0 hown hK hG.1 0 rfl rfl 1 (by decide) (hts (Cond.fieldLink RX0 21 "DiceRoads$Board" "debts" "LDiceRoads$Debts;") wq_90) (fun _ h9 => h9) rfl dX0_factOfPlayer_89 ?_
    refine lv_iload_n hx hb dX0_factOfPlayer_92 rfl (lv_at hl 1 rfl) ?_
    obtain ⟨q93, hq93, h⟩ := fo_bd_some h
    refine gc_iV (b := a 6) (C := RX1) (As := [.int v1]) (rest := []) (wc := (wd_D cI (fun k => a (k + 6)) (ms_from S 2))) (w1 := (wd_D cI (fun k => a (k + 6)) (ms_from S 2))) (ci := 1) (q0 := 0) ⟨hx, hb, hml, hown, hts⟩ (c1_owedTo l (a := (fun k => a (k + 6))) hq93) (cwV 1 hts gv_X0_189 rfl rfl rfl hd1_owedTo ⟨Nat.le_of_ble_eq_true rfl, Nat.le_of_ble_eq_true rfl⟩) hK [0] rfl hA hG [6, 7, 8, 9, 10, 11, 12] rfl rfl rfl rfl rfl rfl hl.1 rfl (Nat.le_of_ble_eq_true rfl) dX0_factOfPlayer_93 ⟨Nat.zero_le _, Nat.zero_le _⟩ (fun H locs hG9 => ?_)
    have hG : gd_W (dC, dI) A s (wd_B cI a S) H locs := hG9
    exact gr_i hx hb hr hlocks hK hG (Option.some.inj h) dX0_factOfPlayer_96
  replace h := fo_if h hc
  have hn4 := lv_neT (a := 4) hc (by decide)
  have hm4 := hc
  clear hc
  by_cases hc : v2 = (5 : Int32)
  · have h := fo_it h hc
    refine W.eq (g2 := F0 m 1 ls [.int (5 : Int32)]) (by rw [hc]) ?_
    refine lv_tableIn (tgt := 97) hx hb dX0_factOfPlayer_1 (by decide) (by decide) rfl (by decide) ?_
    refine lv_aload_n hx hb dX0_factOfPlayer_97 rfl (lv_at hl 0 rfl) ?_
    refine va_get (D := (dC, dI)) (ci := 0) (v := .ref (a 19)) (C := RX0) (T := TX0) (N := 15) hx hb hts inlX0 hown hK hG.1 0 rfl rfl 5 (by decide) (hts (Cond.fieldLink RX0 40 "DiceRoads$Board" "tollsPaid" "LDiceRoads$Row;") wq_95) (fun _ h9 => h9) rfl dX0_factOfPlayer_98 ?_
    refine lv_iload_n hx hb dX0_factOfPlayer_101 rfl (lv_at hl 1 rfl) ?_
    obtain ⟨q102, hq102, h⟩ := fo_bd_some h
    refine gc_iV (b := a 19) (C := RX6) (As := [.int v1]) (rest := []) (wc := (wd_R cI (fun k => a (k + 19)) 0 4 (S 8))) (w1 := (wd_R cI (fun k => a (k + 19)) 0 4 (S 8))) (ci := 5) (q0 := 0) ⟨hx, hb, hml, hown, hts⟩ (c6_at l (a := (fun k => a (k + 19))) (v := 0) (z := 4) hq102) (cwV 1 hts gv_X0_94 rfl rfl rfl hd6_at ⟨Nat.le_of_ble_eq_true rfl, Nat.le_of_ble_eq_true rfl⟩) hK [0] rfl hA hG [19, 20] rfl rfl rfl rfl rfl rfl hl.1 rfl (Nat.le_of_ble_eq_true rfl) dX0_factOfPlayer_102 ⟨Nat.zero_le _, Nat.zero_le _⟩ (fun H locs hG9 => ?_)
    have hG : gd_W (dC, dI) A s (wd_B cI a S) H locs := hG9
    exact gr_i hx hb hr hlocks hK hG (Option.some.inj h) dX0_factOfPlayer_105
  replace h := fo_if h hc
  have hn5 := lv_neT (a := 5) hc (by decide)
  have hm5 := hc
  clear hc
  by_cases hc : v2 = (6 : Int32)
  · have h := fo_it h hc
    refine W.eq (g2 := F0 m 1 ls [.int (6 : Int32)]) (by rw [hc]) ?_
    refine lv_tableIn (tgt := 106) hx hb dX0_factOfPlayer_1 (by decide) (by decide) rfl (by decide) ?_
    refine lv_aload_n hx hb dX0_factOfPlayer_106 rfl (lv_at hl 0 rfl) ?_
    refine va_get (D := (dC, dI)) (ci := 0) (v := .ref (a 21)) (C := RX0) (T := TX0) (N := 15) hx hb hts inlX0 hown hK hG.1 0 rfl rfl 6 (by decide) (hts (Cond.fieldLink RX0 43 "DiceRoads$Board" "tollsGot" "LDiceRoads$Row;") wq_96) (fun _ h9 => h9) rfl dX0_factOfPlayer_107 ?_
    refine lv_iload_n hx hb dX0_factOfPlayer_110 rfl (lv_at hl 1 rfl) ?_
    obtain ⟨q111, hq111, h⟩ := fo_bd_some h
    refine gc_iV (b := a 21) (C := RX6) (As := [.int v1]) (rest := []) (wc := (wd_R cI (fun k => a (k + 21)) 0 4 (S 9))) (w1 := (wd_R cI (fun k => a (k + 21)) 0 4 (S 9))) (ci := 5) (q0 := 0) ⟨hx, hb, hml, hown, hts⟩ (c6_at l (a := (fun k => a (k + 21))) (v := 0) (z := 4) hq111) (cwV 1 hts gv_X0_94 rfl rfl rfl hd6_at ⟨Nat.le_of_ble_eq_true rfl, Nat.le_of_ble_eq_true rfl⟩) hK [0] rfl hA hG [21, 22] rfl rfl rfl rfl rfl rfl hl.1 rfl (Nat.le_of_ble_eq_true rfl) dX0_factOfPlayer_111 ⟨Nat.zero_le _, Nat.zero_le _⟩ (fun H locs hG9 => ?_)
    have hG : gd_W (dC, dI) A s (wd_B cI a S) H locs := hG9
    exact gr_i hx hb hr hlocks hK hG (Option.some.inj h) dX0_factOfPlayer_114
  replace h := fo_if h hc
  have hn6 := lv_neT (a := 6) hc (by decide)
  have hm6 := hc
  clear hc
  by_cases hc : v2 = (7 : Int32)
  · have h := fo_it h hc
    refine W.eq (g2 := F0 m 1 ls [.int (7 : Int32)]) (by rw [hc]) ?_
    refine lv_tableIn (tgt := 115) hx hb dX0_factOfPlayer_1 (by decide) (by decide) rfl (by decide) ?_
    refine lv_aload_n hx hb dX0_factOfPlayer_115 rfl (lv_at hl 0 rfl) ?_
    refine va_get (D := (dC, dI)) (ci := 0) (v := .ref (a 23)) (C := RX0) (T := TX0) (N := 15) hx hb hts inlX0 hown hK hG.1 0 rfl rfl 7 (by decide) (hts (Cond.fieldLink RX0 46 "DiceRoads$Board" "turnsDone" "LDiceRoads$Row;") wq_97) (fun _ h9 => h9) rfl dX0_factOfPlayer_116 ?_
    refine lv_iload_n hx hb dX0_factOfPlayer_119 rfl (lv_at hl 1 rfl) ?_
    obtain ⟨q120, hq120, h⟩ := fo_bd_some h
    refine gc_iV (b := a 23) (C := RX6) (As := [.int v1]) (rest := []) (wc := (wd_R cI (fun k => a (k + 23)) 0 4 (S 10))) (w1 := (wd_R cI (fun k => a (k + 23)) 0 4 (S 10))) (ci := 5) (q0 := 0) ⟨hx, hb, hml, hown, hts⟩ (c6_at l (a := (fun k => a (k + 23))) (v := 0) (z := 4) hq120) (cwV 1 hts gv_X0_94 rfl rfl rfl hd6_at ⟨Nat.le_of_ble_eq_true rfl, Nat.le_of_ble_eq_true rfl⟩) hK [0] rfl hA hG [23, 24] rfl rfl rfl rfl rfl rfl hl.1 rfl (Nat.le_of_ble_eq_true rfl) dX0_factOfPlayer_120 ⟨Nat.zero_le _, Nat.zero_le _⟩ (fun H locs hG9 => ?_)
    have hG : gd_W (dC, dI) A s (wd_B cI a S) H locs := hG9
    exact gr_i hx hb hr hlocks hK hG (Option.some.inj h) dX0_factOfPlayer_123
  replace h := fo_if h hc
  have hn7 := lv_neT (a := 7) hc (by decide)
  have hm7 := hc
  clear hc
  by_cases hc : v2 = (8 : Int32)
  · have h := fo_it h hc
    refine W.eq (g2 := F0 m 1 ls [.int (8 : Int32)]) (by rw [hc]) ?_
    refine lv_tableIn (tgt := 124) hx hb dX0_factOfPlayer_1 (by decide) (by decide) rfl (by decide) ?_
    refine lv_aload_n hx hb dX0_factOfPlayer_124 rfl (lv_at hl 0 rfl) ?_
    refine va_get (D := (dC, dI)) (ci := 0) (v := .ref (a 25)) (C := RX0) (T := TX0) (N := 15) hx hb hts inlX0 hown hK hG.1 0 rfl rfl 8 (by decide) (hts (Cond.fieldLink RX0 49 "DiceRoads$Board" "squaresLost" "LDiceRoads$Row;") wq_98) (fun _ h9 => h9) rfl dX0_factOfPlayer_125 ?_
    refine lv_iload_n hx hb dX0_factOfPlayer_128 rfl (lv_at hl 1 rfl) ?_
    obtain ⟨q129, hq129, h⟩ := fo_bd_some h
    refine gc_iV (b := a 25) (C := RX6) (As := [.int v1]) (rest := []) (wc := (wd_R cI (fun k => a (k + 25)) 0 4 (S 11))) (w1 := (wd_R cI (fun k => a (k + 25)) 0 4 (S 11))) (ci := 5) (q0 := 0) ⟨hx, hb, hml, hown, hts⟩ (c6_at l (a := (fun k => a (k + 25))) (v := 0) (z := 4) hq129) (cwV 1 hts gv_X0_94 rfl rfl rfl hd6_at ⟨Nat.le_of_ble_eq_true rfl, Nat.le_of_ble_eq_true rfl⟩) hK [0] rfl hA hG [25, 26] rfl rfl rfl rfl rfl rfl hl.1 rfl (Nat.le_of_ble_eq_true rfl) dX0_factOfPlayer_129 ⟨Nat.zero_le _, Nat.zero_le _⟩ (fun H locs hG9 => ?_)
    have hG : gd_W (dC, dI) A s (wd_B cI a S) H locs := hG9
    exact gr_i hx hb hr hlocks hK hG (Option.some.inj h) dX0_factOfPlayer_132
  replace h := fo_if h hc
  have hn8 := lv_neT (a := 8) hc (by decide)
  have hm8 := hc
  clear hc
  refine lv_tableOut (tgt := 133) hx hb dX0_factOfPlayer_1 (by omega) (by decide) ?_
  refine lv_bipush (v := (-2 : Int32)) hx hb dX0_factOfPlayer_133 (by decide) ?_
  exact gr_i hx hb hr hlocks hK hG (Option.some.inj h) dX0_factOfPlayer_135
set_option maxRecDepth 100000 in
set_option maxHeartbeats 4000000 in
theorem c0_factOfPlayer (l : Launch) {dC : Nat → ClassId} {dI : Nat → Nat → Nat} {cI : ClassId} {a : Nat → Nat} {v1 : Int32} {v2 : Int32} {S : ms_T} {q : Int32} (h : f0_factOfPlayer v1 v2 S = some q) : mi_M l yX0_factOfPlayer wm0_factOfPlayer RM0_factOfPlayer (dC, dI) [(cI, .int)] [.ref (a 0), .int v1, .int v2] (wd_B cI a S) q (wd_B cI a S) := by
  intro sz
  refine Met.ofW (cc := cX0_factOfPlayer) (maxL := 3) (ret := (some .int)) (by decide) rfl ?_
  intro p e s m args below meth c s₁ B hml hv
  obtain ⟨rfl, hsz, hP, hK, hD0⟩ := hv
  subst hsz
  have hl := lv_entry ([.ref (a 0), .int v1, .int v2] : List Value) (n := 3) (Nat.le_of_ble_eq_true rfl)
  rw [lg_entry_eq]
  generalize (lg_sl ([.ref (a 0), .int v1, .int v2] : List Value) ++ List.replicate (3 - (lg_sl ([.ref (a 0), .int v1, .int v2] : List Value)).length) Slot.unset).toArray = ls at hl ⊢
  exact w0_factOfPlayer (a := a) ⟨B.exec, B.bytes, B.returns, fun w hw => atoms_spec (ws := wm0_factOfPlayer) B.pre w (List.mem_cons_of_mem _ hw), findClass_of_methodNamed B.named, B.notSynchronized, hml⟩ hK (fun _ h => Or.inr h) h ⟨hP, hD0.self, va_S.rf⟩ hl
end
/-! ## DiceRoads$Board.playersOn(I)I -/
section
variable {p : Program} {l : Launch} {e : Env} {s : State} {m : MethodId} {args : Array Value} {below : List Frame} {meth : Method} {c : Code} {dC : Nat → ClassId} {dI : Nat → Nat → Nat} {cI : ClassId} {A : Nat → Prop}
set_option maxRecDepth 100000 in
set_option maxHeartbeats 4000000 in
theorem w0_playersOn_b30 (C : cx_M p s m args meth c RX0 cX0_playersOn (some .int) 4) (hK : va_K (dC, dI) vwCl [(cI, .int)] s) (hA : ∀ q, s.heap.size ≤ q → A q) {a : Nat → Nat} {S : ms_T} {q : Int32} {rec4 : Int32 → Int32 → Int32 → ms_T → Option Int32} (hrec4 : ∀ {v1 : Int32} {v2 : Int32} {v3 : Int32} , rec4 v1 v2 v3 S = some q → ∀ {H : Heap} {locs : List Loc} {ls : Array Slot}, gd_W (dC, dI) A s (wd_B cI a S) H locs → lv_has ls 4 [(0, .ref (a 0)), (1, .int v1), (2, .int v2), (3, .int v3)] → W p l e RM0_playersOn s m args below meth c H locs 0 0 (MQ below (qi_W (dC, dI) [(cI, .int)] A q (wd_B cI a S)) args s 0 0 A) (F0 m 4 ls [])) {v1 : Int32} {v2 : Int32} {v3 : Int32} (h : f0_playersOn_b30 rec4 v1 v2 v3 S = some q) {H : Heap} {locs : List Loc} {ls : Array Slot} (hG : gd_W (dC, dI) A s (wd_B cI a S) H locs) (hl : lv_has ls 4 [(0, .ref (a 0)), (1, .int v1), (2, .int v2), (3, .int v3)]) : W p l e RM0_playersOn s m args below meth c H locs 0 0 (MQ below (qi_W (dC, dI) [(cI, .int)] A q (wd_B cI a S)) args s 0 0 A) (F0 m 30 ls []) := by
  unfold f0_playersOn_b30 at h
  obtain ⟨hx, hb, hr, hts, hown, hlocks, hml⟩ := id C
  refine lv_iinc (v := (v3 + (1 : Int32))) (lv' := [(3, .int (v3 + (1 : Int32))), (0, .ref (a 0)), (1, .int v1), (2, .int v2)]) hx hb dX0_playersOn_30 hl (k := 3) rfl rfl (by decide) rfl (fun ls hl => ?_)
  refine lv_goto (tgt := 4) hx hb dX0_playersOn_33 (by decide) ?_
  exact hrec4 h hG (lv_sub hl [1, 2, 3, 0] rfl)
set_option maxRecDepth 100000 in
set_option maxHeartbeats 4000000 in
theorem w0_playersOn_b4 (C : cx_M p s m args meth c RX0 cX0_playersOn (some .int) 4) (hK : va_K (dC, dI) vwCl [(cI, .int)] s) (hA : ∀ q, s.heap.size ≤ q → A q) {a : Nat → Nat} {S : ms_T} {q : Int32} {rec4 : Int32 → Int32 → Int32 → ms_T → Option Int32} (hrec4 : ∀ {v1 : Int32} {v2 : Int32} {v3 : Int32} , rec4 v1 v2 v3 S = some q → ∀ {H : Heap} {locs : List Loc} {ls : Array Slot}, gd_W (dC, dI) A s (wd_B cI a S) H locs → lv_has ls 4 [(0, .ref (a 0)), (1, .int v1), (2, .int v2), (3, .int v3)] → W p l e RM0_playersOn s m args below meth c H locs 0 0 (MQ below (qi_W (dC, dI) [(cI, .int)] A q (wd_B cI a S)) args s 0 0 A) (F0 m 4 ls [])) {v1 : Int32} {v2 : Int32} {v3 : Int32} (h : f0_playersOn_b4 rec4 v1 v2 v3 S = some q) {H : Heap} {locs : List Loc} {ls : Array Slot} (hG : gd_W (dC, dI) A s (wd_B cI a S) H locs) (hl : lv_has ls 4 [(0, .ref (a 0)), (1, .int v1), (2, .int v2), (3, .int v3)]) : W p l e RM0_playersOn s m args below meth c H locs 0 0 (MQ below (qi_W (dC, dI) [(cI, .int)] A q (wd_B cI a S)) args s 0 0 A) (F0 m 4 ls []) := by
  unfold f0_playersOn_b4 at h
  obtain ⟨hx, hb, hr, hts, hown, hlocks, hml⟩ := id C
  refine lv_iload_n hx hb dX0_playersOn_4 rfl (lv_at hl 3 rfl) ?_
  refine lv_aload_n hx hb dX0_playersOn_5 rfl (lv_at hl 0 rfl) ?_
  refine va_get (D := (dC, dI)) (ci := 0) (v := .int (S 12 0)) (C := RX0) (T := TX0) (N := 15) hx hb hts inlX0 hown hK hG.1 0 rfl rfl 9 (by decide) (hts (Cond.fieldLink RX0 52 "DiceRoads$Board" "players" "I") wq_99) (fun _ h9 => h9) rfl dX0_playersOn_6 ?_
  refine lv_icmp_ge (tgt := 36) hx hb dX0_playersOn_9 (by decide) (fun hc => ?_) (fun hc => ?_)
  · have h := fo_it h hc
    refine lv_iload_n hx hb dX0_playersOn_36 rfl (lv_at hl 2 rfl) ?_
    exact gr_i hx hb hr hlocks hK hG (Option.some.inj h) dX0_playersOn_37
  · have h := fo_if h hc
    refine lv_aload_n hx hb dX0_playersOn_12 rfl (lv_at hl 0 rfl) ?_
    refine va_get (D := (dC, dI)) (ci := 0) (v := .ref (a 17)) (C := RX0) (T := TX0) (N := 15) hx hb hts inlX0 hown hK hG.1 0 rfl rfl 4 (by decide) (hts (Cond.fieldLink RX0 37 "DiceRoads$Board" "places" "LDiceRoads$Row;") wq_94) (fun _ h9 => h9) rfl dX0_playersOn_13 ?_
    refine lv_iload_n hx hb dX0_playersOn_16 rfl (lv_at hl 3 rfl) ?_
    obtain ⟨q17, hq17, h⟩ := fo_bd_some h
    refine gc_iV (b := a 17) (C := RX6) (As := [.int v3]) (rest := []) (wc := (wd_R cI (fun k => a (k + 17)) 0 4 (S 7))) (w1 := (wd_R cI (fun k => a (k + 17)) 0 4 (S 7))) (ci := 5) (q0 := 0) ⟨hx, hb, hml, hown, hts⟩ (c6_at l (a := (fun k => a (k + 17))) (v := 0) (z := 4) hq17) (cwV 1 hts gv_X0_94 rfl rfl rfl hd6_at ⟨Nat.le_of_ble_eq_true rfl, Nat.le_of_ble_eq_true rfl⟩) hK [0] rfl hA hG [17, 18] rfl rfl rfl rfl rfl rfl hl.1 rfl (Nat.le_of_ble_eq_true rfl) dX0_playersOn_17 ⟨Nat.zero_le _, Nat.zero_le _⟩ (fun H locs hG9 => ?_)
    have hG : gd_W (dC, dI) A s (wd_B cI a S) H locs := hG9
    refine lv_iload_n hx hb dX0_playersOn_20 rfl (lv_at hl 1 rfl) ?_
    refine lv_icmp_ne (tgt := 30) hx hb dX0_playersOn_21 (by decide) (fun hc => ?_) (fun hc => ?_)
    · have h := fo_if h hc
      exact w0_playersOn_b30 C hK hA (fun h => hrec4 h) h hG (lv_sub hl [0, 1, 2, 3] rfl)
    · have h := fo_it h hc
      refine lv_iload_n hx hb dX0_playersOn_24 rfl (lv_at hl 2 rfl) ?_
      refine lv_iconst (v := (1 : Int32)) hx hb dX0_playersOn_25 (by decide) ?_
      refine lv_iload_n hx hb dX0_playersOn_26 rfl (lv_at hl 3 rfl) ?_
      refine lv_ishl hx hb dX0_playersOn_27 ?_
      refine lv_ior hx hb dX0_playersOn_28 ?_
      refine lv_istore_n (lv' := [(2, .int (v2 ||| ((1 : Int32) <<< (v3 &&& 31)))), (0, .ref (a 0)), (1, .int v1), (3, .int v3)]) hx hb dX0_playersOn_29 rfl hl (by decide) rfl (fun ls hl => ?_)
      exact w0_playersOn_b30 C hK hA (fun h => hrec4 h) h hG (lv_sub hl [1, 2, 0, 3] rfl)
set_option maxRecDepth 100000 in
set_option maxHeartbeats 4000000 in
theorem w0_playersOn_L4 (C : cx_M p s m args meth c RX0 cX0_playersOn (some .int) 4) (hK : va_K (dC, dI) vwCl [(cI, .int)] s) (hA : ∀ q, s.heap.size ≤ q → A q) {a : Nat → Nat} {S : ms_T} {q : Int32} : ∀ (n : Nat) {v1 : Int32} {v2 : Int32} {v3 : Int32}, f0_playersOn_L4 n v1 v2 v3 S = some q → ∀ {H : Heap} {locs : List Loc} {ls : Array Slot}, gd_W (dC, dI) A s (wd_B cI a S) H locs → lv_has ls 4 [(0, .ref (a 0)), (1, .int v1), (2, .int v2), (3, .int v3)] → W p l e RM0_playersOn s m args below meth c H locs 0 0 (MQ below (qi_W (dC, dI) [(cI, .int)] A q (wd_B cI a S)) args s 0 0 A) (F0 m 4 ls []) := by
  intro n
  induction n with
  | zero => intro _ _ _ h; exact nomatch h
  | succ n ih => intro v1 v2 v3 h H locs ls hG hl; exact w0_playersOn_b4 C hK hA (fun h => ih h) (show f0_playersOn_b4 (f0_playersOn_L4 n) v1 v2 v3 S = some q from h) hG hl
set_option maxRecDepth 100000 in
set_option maxHeartbeats 4000000 in
theorem w0_playersOn (C : cx_M p s m args meth c RX0 cX0_playersOn (some .int) 4) (hK : va_K (dC, dI) vwCl [(cI, .int)] s) (hA : ∀ q, s.heap.size ≤ q → A q) {a : Nat → Nat} {q : Int32} {v1 : Int32} {S : ms_T} (h : f0_playersOn v1 S = some q) {H : Heap} {locs : List Loc} {ls : Array Slot} (hG : gd_W (dC, dI) A s (wd_B cI a S) H locs) (hl : lv_has ls 4 [(0, .ref (a 0)), (1, .int v1)]) : W p l e RM0_playersOn s m args below meth c H locs 0 0 (MQ below (qi_W (dC, dI) [(cI, .int)] A q (wd_B cI a S)) args s 0 0 A) (F0 m 0 ls []) := by
  unfold f0_playersOn at h
  obtain ⟨hx, hb, hr, hts, hown, hlocks, hml⟩ := id C
  refine lv_iconst (v := (0 : Int32)) hx hb dX0_playersOn_0 (by decide) ?_
  refine lv_istore_n (lv' := [(2, .int (0 : Int32)), (0, .ref (a 0)), (1, .int v1)]) hx hb dX0_playersOn_1 rfl hl (by decide) rfl (fun ls hl => ?_)
  refine lv_iconst (v := (0 : Int32)) hx hb dX0_playersOn_2 (by decide) ?_
  refine lv_istore_n (lv' := [(3, .int (0 : Int32)), (2, .int (0 : Int32)), (0, .ref (a 0)), (1, .int v1)]) hx hb dX0_playersOn_3 rfl hl (by decide) rfl (fun ls hl => ?_)
  exact w0_playersOn_L4 C hK hA fo_fu h hG (lv_sub hl [2, 3, 1, 0] rfl)
set_option maxRecDepth 100000 in
set_option maxHeartbeats 4000000 in
theorem c0_playersOn (l : Launch) {dC : Nat → ClassId} {dI : Nat → Nat → Nat} {cI : ClassId} {a : Nat → Nat} {v1 : Int32} {S : ms_T} {q : Int32} (h : f0_playersOn v1 S = some q) : mi_M l yX0_playersOn wm0_playersOn RM0_playersOn (dC, dI) [(cI, .int)] [.ref (a 0), .int v1] (wd_B cI a S) q (wd_B cI a S) := by
  intro sz
  refine Met.ofW (cc := cX0_playersOn) (maxL := 4) (ret := (some .int)) (by decide) rfl ?_
  intro p e s m args below meth c s₁ B hml hv
  obtain ⟨rfl, hsz, hP, hK, hD0⟩ := hv
  subst hsz
  have hl := lv_entry ([.ref (a 0), .int v1] : List Value) (n := 4) (Nat.le_of_ble_eq_true rfl)
  rw [lg_entry_eq]
  generalize (lg_sl ([.ref (a 0), .int v1] : List Value) ++ List.replicate (4 - (lg_sl ([.ref (a 0), .int v1] : List Value)).length) Slot.unset).toArray = ls at hl ⊢
  exact w0_playersOn (a := a) ⟨B.exec, B.bytes, B.returns, fun w hw => atoms_spec (ws := wm0_playersOn) B.pre w (List.mem_cons_of_mem _ hw), findClass_of_methodNamed B.named, B.notSynchronized, hml⟩ hK (fun _ h => Or.inr h) h ⟨hP, hD0.self, va_S.rf⟩ hl
end
/-! ## DiceRoads$Board.factOfSquare(II)I -/
section
variable {p : Program} {l : Launch} {e : Env} {s : State} {m : MethodId} {args : Array Value} {below : List Frame} {meth : Method} {c : Code} {dC : Nat → ClassId} {dI : Nat → Nat → Nat} {cI : ClassId} {A : Nat → Prop}
set_option maxRecDepth 100000 in
set_option maxHeartbeats 4000000 in
theorem w0_factOfSquare (C : cx_M p s m args meth c RX0 cX0_factOfSquare (some .int) 3) (hK : va_K (dC, dI) vwCl [(cI, .int)] s) (hA : ∀ q, s.heap.size ≤ q → A q) {a : Nat → Nat} {q : Int32} {v1 : Int32} {v2 : Int32} {S : ms_T} (h : f0_factOfSquare v1 v2 S = some q) {H : Heap} {locs : List Loc} {ls : Array Slot} (hG : gd_W (dC, dI) A s (wd_B cI a S) H locs) (hl : lv_has ls 3 [(0, .ref (a 0)), (1, .int v1), (2, .int v2)]) : W p l e RM0_factOfSquare s m args below meth c H locs 0 0 (MQ below (qi_W (dC, dI) [(cI, .int)] A q (wd_B cI a S)) args s 0 0 A) (F0 m 0 ls []) := by
  unfold f0_factOfSquare at h
  obtain ⟨hx, hb, hr, hts, hown, hlocks, hml⟩ := id C
  refine lv_iload_n hx hb dX0_factOfSquare_0 rfl (lv_at hl 2 rfl) ?_
  by_cases hc : v2 = (0 : Int32)
  · have h := fo_it h hc
    refine W.eq (g2 := F0 m 1 ls [.int (0 : Int32)]) (by rw [hc]) ?_
    refine lv_tableIn (tgt := 36) hx hb dX0_factOfSquare_1 (by decide) (by decide) rfl (by decide) ?_
    refine lv_iload_n hx hb dX0_factOfSquare_36 rfl (lv_at hl 1 rfl) ?_
    obtain ⟨q37, hq37, h⟩ := fo_bd_some h
    refine gc_iS (As := [.int v1]) (rest := []) (wc := ([] : va_W)) (w1 := ([] : va_W)) ⟨hx, hb, hml, hown, hts⟩ (c5_sortOf l (a := a) hq37) (va_cwS 1 hts gv_X0_198 rfl rfl rfl hd5_sortOf ⟨Nat.le_of_ble_eq_true rfl, Nat.le_of_ble_eq_true rfl⟩) hK [] rfl hA hG [] rfl rfl rfl rfl hl.1 rfl (Nat.le_of_ble_eq_true rfl) dX0_factOfSquare_37 ⟨Nat.zero_le _, Nat.zero_le _⟩ (fun H locs hG9 => ?_)
    have hG : gd_W (dC, dI) A s (wd_B cI a S) H locs := hG9
    exact gr_i hx hb hr hlocks hK hG (Option.some.inj h) dX0_factOfSquare_40
  replace h := fo_if h hc
  have hn0 := lv_neT (a := 0) hc (by decide)
  have hm0 := hc
  clear hc
  by_cases hc : v2 = (1 : Int32)
  · have h := fo_it h hc
    refine W.eq (g2 := F0 m 1 ls [.int (1 : Int32)]) (by rw [hc]) ?_
    refine lv_tableIn (tgt := 41) hx hb dX0_factOfSquare_1 (by decide) (by decide) rfl (by decide) ?_
    refine lv_aload_n hx hb dX0_factOfSquare_41 rfl (lv_at hl 0 rfl) ?_
    refine va_get (D := (dC, dI)) (ci := 0) (v := .ref (a 1)) (C := RX0) (T := TX0) (N := 15) hx hb hts inlX0 hown hK hG.1 0 rfl rfl 0 (by decide) (hts (Cond.fieldLink RX0 12 "DiceRoads$Board" "roads" "LDiceRoads$Roads;") wq_89) (fun _ h9 => h9) rfl dX0_factOfSquare_42 ?_
    refine lv_iload_n hx hb dX0_factOfSquare_45 rfl (lv_at hl 1 rfl) ?_
    obtain ⟨q46, hq46, h⟩ := fo_bd_some h
    refine gc_iV (b := a 1) (C := RX5) (As := [.int v1]) (rest := []) (wc := (wd_O cI (fun k => a (k + 1)) S)) (w1 := (wd_O cI (fun k => a (k + 1)) S)) (ci := 4) (q0 := 0) ⟨hx, hb, hml, hown, hts⟩ (c5_firstOwner l (a := (fun k => a (k + 1))) hq46) (cwV 1 hts gv_X0_165 rfl rfl rfl hd5_firstOwner ⟨Nat.le_of_ble_eq_true rfl, Nat.le_of_ble_eq_true rfl⟩) hK [0] rfl hA hG [1, 2, 3, 4, 5] rfl rfl rfl rfl rfl rfl hl.1 rfl (Nat.le_of_ble_eq_true rfl) dX0_factOfSquare_46 ⟨Nat.zero_le _, Nat.zero_le _⟩ (fun H locs hG9 => ?_)
    have hG : gd_W (dC, dI) A s (wd_B cI a S) H locs := hG9
    exact gr_i hx hb hr hlocks hK hG (Option.some.inj h) dX0_factOfSquare_49
  replace h := fo_if h hc
  have hn1 := lv_neT (a := 1) hc (by decide)
  have hm1 := hc
  clear hc
  by_cases hc : v2 = (2 : Int32)
  · have h := fo_it h hc
    refine W.eq (g2 := F0 m 1 ls [.int (2 : Int32)]) (by rw [hc]) ?_
    refine lv_tableIn (tgt := 50) hx hb dX0_factOfSquare_1 (by decide) (by decide) rfl (by decide) ?_
    refine lv_aload_n hx hb dX0_factOfSquare_50 rfl (lv_at hl 0 rfl) ?_
    refine va_get (D := (dC, dI)) (ci := 0) (v := .ref (a 1)) (C := RX0) (T := TX0) (N := 15) hx hb hts inlX0 hown hK hG.1 0 rfl rfl 0 (by decide) (hts (Cond.fieldLink RX0 12 "DiceRoads$Board" "roads" "LDiceRoads$Roads;") wq_89) (fun _ h9 => h9) rfl dX0_factOfSquare_51 ?_
    refine lv_iload_n hx hb dX0_factOfSquare_54 rfl (lv_at hl 1 rfl) ?_
    obtain ⟨q55, hq55, h⟩ := fo_bd_some h
    refine gc_iV (b := a 1) (C := RX5) (As := [.int v1]) (rest := []) (wc := (wd_O cI (fun k => a (k + 1)) S)) (w1 := (wd_O cI (fun k => a (k + 1)) S)) (ci := 4) (q0 := 0) ⟨hx, hb, hml, hown, hts⟩ (c5_secondOwner l (a := (fun k => a (k + 1))) hq55) (cwV 1 hts gv_X0_171 rfl rfl rfl hd5_secondOwner ⟨Nat.le_of_ble_eq_true rfl, Nat.le_of_ble_eq_true rfl⟩) hK [0] rfl hA hG [1, 2, 3, 4, 5] rfl rfl rfl rfl rfl rfl hl.1 rfl (Nat.le_of_ble_eq_true rfl) dX0_factOfSquare_55 ⟨Nat.zero_le _, Nat.zero_le _⟩ (fun H locs hG9 => ?_)
    have hG : gd_W (dC, dI) A s (wd_B cI a S) H locs := hG9
    exact gr_i hx hb hr hlocks hK hG (Option.some.inj h) dX0_factOfSquare_58
  replace h := fo_if h hc
  have hn2 := lv_neT (a := 2) hc (by decide)
  have hm2 := hc
  clear hc
  by_cases hc : v2 = (3 : Int32)
  · have h := fo_it h hc
    refine W.eq (g2 := F0 m 1 ls [.int (3 : Int32)]) (by rw [hc]) ?_
    refine lv_tableIn (tgt := 59) hx hb dX0_factOfSquare_1 (by decide) (by decide) rfl (by decide) ?_
    refine lv_aload_n hx hb dX0_factOfSquare_59 rfl (lv_at hl 0 rfl) ?_
    refine va_get (D := (dC, dI)) (ci := 0) (v := .ref (a 1)) (C := RX0) (T := TX0) (N := 15) hx hb hts inlX0 hown hK hG.1 0 rfl rfl 0 (by decide) (hts (Cond.fieldLink RX0 12 "DiceRoads$Board" "roads" "LDiceRoads$Roads;") wq_89) (fun _ h9 => h9) rfl dX0_factOfSquare_60 ?_
    refine lv_iload_n hx hb dX0_factOfSquare_63 rfl (lv_at hl 1 rfl) ?_
    refine lv_aload_n hx hb dX0_factOfSquare_64 rfl (lv_at hl 0 rfl) ?_
    refine va_get (D := (dC, dI)) (ci := 0) (v := .ref (a 13)) (C := RX0) (T := TX0) (N := 15) hx hb hts inlX0 hown hK hG.1 0 rfl rfl 2 (by decide) (hts (Cond.fieldLink RX0 30 "DiceRoads$Board" "settings" "LDiceRoads$Row;") wq_92) (fun _ h9 => h9) rfl dX0_factOfSquare_65 ?_
    refine lv_iconst (v := (2 : Int32)) hx hb dX0_factOfSquare_68 (by decide) ?_
    obtain ⟨q69, hq69, h⟩ := fo_bd_some h
    refine gc_iV (b := a 13) (C := RX6) (As := [.int (2 : Int32)]) (rest := [.int v1, .ref (a 1)]) (wc := (wd_R cI (fun k => a (k + 13)) 0 5 (S 5))) (w1 := (wd_R cI (fun k => a (k + 13)) 0 5 (S 5))) (ci := 5) (q0 := 0) ⟨hx, hb, hml, hown, hts⟩ (c6_at l (a := (fun k => a (k + 13))) (v := 0) (z := 5) hq69) (cwV 1 hts gv_X0_94 rfl rfl rfl hd6_at ⟨Nat.le_of_ble_eq_true rfl, Nat.le_of_ble_eq_true rfl⟩) hK [0] rfl hA hG [13, 14] rfl rfl rfl rfl rfl rfl hl.1 rfl (Nat.le_of_ble_eq_true rfl) dX0_factOfSquare_69 ⟨Nat.zero_le _, Nat.zero_le _⟩ (fun H locs hG9 => ?_)
    have hG : gd_W (dC, dI) A s (wd_B cI a S) H locs := hG9
    obtain ⟨q72, hq72, h⟩ := fo_bd_some h
    refine gc_iV (b := a 1) (C := RX5) (As := [.int v1, .int q69]) (rest := []) (wc := (wd_O cI (fun k => a (k + 1)) S)) (w1 := (wd_O cI (fun k => a (k + 1)) S)) (ci := 4) (q0 := 0) ⟨hx, hb, hml, hown, hts⟩ (c5_toll l (a := (fun k => a (k + 1))) hq72) (cwV 2 hts gv_X0_174 rfl rfl rfl hd5_toll ⟨Nat.le_of_ble_eq_true rfl, Nat.le_of_ble_eq_true rfl⟩) hK [0] rfl hA hG [1, 2, 3, 4, 5] rfl rfl rfl rfl rfl rfl hl.1 rfl (Nat.le_of_ble_eq_true rfl) dX0_factOfSquare_72 ⟨Nat.zero_le _, Nat.zero_le _⟩ (fun H locs hG9 => ?_)
    have hG : gd_W (dC, dI) A s (wd_B cI a S) H locs := hG9
    exact gr_i hx hb hr hlocks hK hG (Option.some.inj h) dX0_factOfSquare_75
  replace h := fo_if h hc
  have hn3 := lv_neT (a := 3) hc (by decide)
  have hm3 := hc
  clear hc
  by_cases hc : v2 = (4 : Int32)
  · have h := fo_it h hc
    refine W.eq (g2 := F0 m 1 ls [.int (4 : Int32)]) (by rw [hc]) ?_
    refine lv_tableIn (tgt := 76) hx hb dX0_factOfSquare_1 (by decide) (by decide) rfl (by decide) ?_
    refine lv_aload_n hx hb dX0_factOfSquare_76 rfl (lv_at hl 0 rfl) ?_
    refine lv_iload_n hx hb dX0_factOfSquare_77 rfl (lv_at hl 1 rfl) ?_
    obtain ⟨q78, hq78, h⟩ := fo_bd_some h
    refine gs_iV (b := a 0) (C := RX0) (As := [.int v1]) (rest := []) (w1 := (wd_B cI a S)) (ci := 0) (q0 := 0) ⟨hx, hb, hml, hown, hts⟩ (c0_playersOn l (a := a) hq78) (cwV 1 hts gv_X0_201 rfl rfl rfl hd0_playersOn ⟨Nat.le_of_ble_eq_true rfl, Nat.le_of_ble_eq_true rfl⟩) hK hA hG rfl rfl rfl hl.1 rfl (Nat.le_of_ble_eq_true rfl) dX0_factOfSquare_78 ⟨Nat.zero_le _, Nat.zero_le _⟩ (fun H locs hG9 => ?_)
    have hG : gd_W (dC, dI) A s (wd_B cI a S) H locs := hG9
    exact gr_i hx hb hr hlocks hK hG (Option.some.inj h) dX0_factOfSquare_81
  replace h := fo_if h hc
  have hn4 := lv_neT (a := 4) hc (by decide)
  have hm4 := hc
  clear hc
  refine lv_tableOut (tgt := 82) hx hb dX0_factOfSquare_1 (by omega) (by decide) ?_
  refine lv_bipush (v := (-2 : Int32)) hx hb dX0_factOfSquare_82 (by decide) ?_
  exact gr_i hx hb hr hlocks hK hG (Option.some.inj h) dX0_factOfSquare_84
set_option maxRecDepth 100000 in
set_option maxHeartbeats 4000000 in
theorem c0_factOfSquare (l : Launch) {dC : Nat → ClassId} {dI : Nat → Nat → Nat} {cI : ClassId} {a : Nat → Nat} {v1 : Int32} {v2 : Int32} {S : ms_T} {q : Int32} (h : f0_factOfSquare v1 v2 S = some q) : mi_M l yX0_factOfSquare wm0_factOfSquare RM0_factOfSquare (dC, dI) [(cI, .int)] [.ref (a 0), .int v1, .int v2] (wd_B cI a S) q (wd_B cI a S) := by
  intro sz
  refine Met.ofW (cc := cX0_factOfSquare) (maxL := 3) (ret := (some .int)) (by decide) rfl ?_
  intro p e s m args below meth c s₁ B hml hv
  obtain ⟨rfl, hsz, hP, hK, hD0⟩ := hv
  subst hsz
  have hl := lv_entry ([.ref (a 0), .int v1, .int v2] : List Value) (n := 3) (Nat.le_of_ble_eq_true rfl)
  rw [lg_entry_eq]
  generalize (lg_sl ([.ref (a 0), .int v1, .int v2] : List Value) ++ List.replicate (3 - (lg_sl ([.ref (a 0), .int v1, .int v2] : List Value)).length) Slot.unset).toArray = ls at hl ⊢
  exact w0_factOfSquare (a := a) ⟨B.exec, B.bytes, B.returns, fun w hw => atoms_spec (ws := wm0_factOfSquare) B.pre w (List.mem_cons_of_mem _ hw), findClass_of_methodNamed B.named, B.notSynchronized, hml⟩ hK (fun _ h => Or.inr h) h ⟨hP, hD0.self, va_S.rf⟩ hl
end
