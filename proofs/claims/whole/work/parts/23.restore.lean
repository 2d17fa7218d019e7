/-! ## restore -/
theorem sl_r_pos {f : Int32} {a : Nat} (h : ¬ f = 0) : va_rf (sl_r f a) = .ref a := by unfold sl_r; rw [if_neg h]; rfl
theorem sl_r_zero {f : Int32} {a : Nat} (h : f = 0) : va_rf (sl_r f a) = .null := by unfold sl_r; rw [if_pos h]; rfl
def f7_restore (v1 : Int32) (S : xs_T) : Option (Int32 × xs_T) := if v1 < 0 then some ((-2 : Int32), S) else if (2 : Int32) ≤ v1 then some ((-2 : Int32), S) else if S 1 0 v1.toNatClampNeg = 0 then some ((-5 : Int32), S) else fo_bd (f2_stage S) (fun q => fo_bd (f0_copyFrom ((xs_h S q) (14 + v1.toNatClampNeg)) ((xs_h S q) 5)) (fun q2 => fo_bd (f0_players ((xs_set (xs_h S q) 5 q2) 5)) (fun n => f7_changed n (xs_set (xs_h S q) 5 q2))))
def wm7_restore : List Cond := .code yX7_restore cX7_restore 3 (some .int) :: bg_L
abbrev RM7_restore : Room := { frames := 4, cells := 0, slots := 0, locals := 120 }
theorem hd7_restore : yX7_restore.cls = RX7 ∧ yX7_restore.cls ≠ "java/lang/invoke/MethodHandle" ∧ yX7_restore.cls ≠ "java/lang/invoke/VarHandle" ∧ (parseMethodDescriptor yX7_restore.desc).map (fun d => d.parameters.length) = some 1 := by decide +kernel
theorem gv_X7_156 : GoodIn bg_L (wsV RX7 156 RX0 yX0_players wm0_players) := gb_V wr_623 wr_624 wr_625 wr_61 wr_626
theorem pr_0 : (([2, 7, 8, 9, 10, 11, 12, 13, 5] : List Nat) ++ [0, 1, 3, 4, 6, 14, 15]).Perm (List.range 16) := by decide
theorem pr_1 : (([5, 14] : List Nat) ++ [0, 1, 2, 3, 4, 6, 7, 8, 9, 10, 11, 12, 13, 15]).Perm (List.range 16) := by decide
theorem pr_2 : (([5] : List Nat) ++ [0, 1, 2, 3, 4, 6, 7, 8, 9, 10, 11, 12, 13, 14, 15]).Perm (List.range 16) := by decide
theorem pr_3 : (([5, 15] : List Nat) ++ [0, 1, 2, 3, 4, 6, 7, 8, 9, 10, 11, 12, 13, 14]).Perm (List.range 16) := by decide
section
variable {p : Program} {l : Launch} {e : Env} {s : State} {m : MethodId} {args : Array Value} {below : List Frame} {meth : Method} {c : Code} {dC : Nat → ClassId} {dI : Nat → Nat → Nat} {cI cB : ClassId} {A : Nat → Prop}
set_option maxRecDepth 100000 in
set_option maxHeartbeats 4000000 in
theorem w7_restore_0 (C : cx_M p s m args meth c RX7 cX7_restore (some .int) 3) (hK : va_K (dC, dI) vwCl [(cI, .int), (cB, .object "DiceRoads$Board")] s) (hA : ∀ q, s.heap.size ≤ q → A q) {b : Nat → Nat → Nat} {S q : xs_T} {q2 : ms_T} {n : Int32} {r : Int32 × xs_T} (hf : ¬ S 1 0 0 = 0) (hq : f2_stage S = some q) (hq2 : f0_copyFrom ((xs_h S q) 14) ((xs_h S q) 5) = some q2) (hn : f0_players ((xs_set (xs_h S q) 5 q2) 5) = some n) (hr2 : f7_changed n (xs_set (xs_h S q) 5 q2) = some r) {H : Heap} {locs : List Loc} {ls : Array Slot} (hG : gd_W (dC, dI) A s (gX cI cB b S).flatten H locs) (hl : lv_has ls 3 [(0, .ref (b 0 0)), (1, .int (nI 0))]) : W p l e RM7_restore s m args below meth c H locs 0 0 (MQ below (qi_W (dC, dI) [(cI, .int), (cB, .object "DiceRoads$Board")] A r.1 (gX cI cB b r.2).flatten) args s 0 0 A) (F0 m 16 ls []) := by
  obtain ⟨hx, hb, hr, hts, hown, hlocks, hml⟩ := id C
  refine lv_aload_n hx hb dX7_restore_16 rfl (lv_at hl 0 rfl) ?_
  refine va_get (D := (dC, dI)) (ci := 6) (v := .ref (b 1 0)) (C := RX7) (T := TX7) (N := 6) hx hb hts inlX7 hown hK hG.1 0 rfl rfl 3 (by decide) (hts _ wr_227) (fun _ h9 => h9) rfl dX7_restore_17 ?_
  refine lv_iload_n hx hb dX7_restore_20 rfl (lv_at hl 1 rfl) ?_
  refine va_aldq hx hb hK hG.1 1 1 rfl rfl (vp_in_nI (n := 0) (by decide) (by decide)) dX7_restore_21 ?_
  refine W.eq (g2 := F0 m 22 ls [.ref (b 14 0)]) (by rw [show (nI 0).toNatClampNeg = 0 from rfl]; exact congrArg (fun z => F0 m 22 ls [z]) (sl_r_pos hf)) ?_
  refine lv_astore_n (lv' := [(2, .ref (b 14 0)), (0, .ref (b 0 0)), (1, .int (nI 0))]) hx hb dX7_restore_22 rfl hl (by decide) rfl (fun ls hl => ?_)
  refine lv_aload_n hx hb dX7_restore_23 rfl (lv_at hl 0 rfl) ?_
  refine lv_ifnonnull (tgt := 30) hx hb dX7_restore_24 (by decide) ?_
  refine lv_aload_n hx hb dX7_restore_30 rfl (lv_at hl 1 rfl) ?_
  refine va_get (D := (dC, dI)) (ci := 6) (v := .ref (b 2 0)) (C := RX7) (T := TX7) (N := 6) hx hb hts inlX7 hown hK hG.1 0 rfl rfl 2 (by decide) (hts _ wr_226) (fun _ h9 => h9) rfl dX7_restore_31 ?_
  refine lv_aload_n hx hb dX7_restore_34 rfl (lv_at hl 1 rfl) ?_
  refine va_get (D := (dC, dI)) (ci := 6) (v := .ref (b 5 0)) (C := RX7) (T := TX7) (N := 6) hx hb hts inlX7 hown hK hG.1 0 rfl rfl 0 (by decide) (hts _ wr_224) (fun _ h9 => h9) rfl dX7_restore_35 ?_
  refine gq_vV (gs := gX cI cB b S) (gs' := gX cI cB b (xs_h S q)) (As := [.ref (b 5 0)]) (rest := []) (wc := (gH cI cB b S).flatten) (w1 := (gH cI cB b q).flatten) (b := b 2 0) (C := RX2) (ci := 2) (q0 := 0) ⟨hx, hb, hml, hown, hts⟩ (c2_stage l (b := b) hq) (cwV 1 hts gv_X7_42 rfl rfl rfl hd2_stage ⟨Nat.le_of_ble_eq_true rfl, Nat.le_of_ble_eq_true rfl⟩) hK [0, 1] rfl hA hG [2, 7, 8, 9, 10, 11, 12, 13, 5] [0, 1, 3, 4, 6, 14, 15] pr_0 pr_0 rfl rfl rfl rfl rfl rfl hl.1 rfl (Nat.le_of_ble_eq_true rfl) dX7_restore_38 ⟨Nat.zero_le _, Nat.zero_le _⟩ (fun H locs hG9 => ?_)
  have hG : gd_W (dC, dI) A s (gX cI cB b (xs_h S q)).flatten H locs := hG9
  refine lv_aload_n hx hb dX7_restore_41 rfl (lv_at hl 1 rfl) ?_
  refine va_get (D := (dC, dI)) (ci := 6) (v := .ref (b 5 0)) (C := RX7) (T := TX7) (N := 6) hx hb hts inlX7 hown hK hG.1 0 rfl rfl 0 (by decide) (hts _ wr_224) (fun _ h9 => h9) rfl dX7_restore_42 ?_
  refine lv_aload_n hx hb dX7_restore_45 rfl (lv_at hl 0 rfl) ?_
  refine gq_vV (gs := gX cI cB b (xs_h S q)) (gs' := gX cI cB b (xs_set (xs_h S q) 5 q2)) (As := [.ref (b 14 0)]) (rest := []) (wc := (wd_BB cI (fun j => if j < 27 then b 5 j else b 14 (j - 27)) ((xs_h S q) 14) ((xs_h S q) 5))) (w1 := (wd_BB cI (fun j => if j < 27 then b 5 j else b 14 (j - 27)) ((xs_h S q) 14) q2)) (b := b 5 0) (C := RX0) (ci := 0) (q0 := 0) ⟨hx, hb, hml, hown, hts⟩ (c0_copyFrom l (a := (fun j => if j < 27 then b 5 j else b 14 (j - 27))) (Z := ((xs_h S q) 14)) hq2) (cwV 1 hts gv_X7_111 rfl rfl rfl hd0_copyFrom ⟨Nat.le_of_ble_eq_true rfl, Nat.le_of_ble_eq_true rfl⟩) hK [0] rfl hA hG [5, 14] [0, 1, 2, 3, 4, 6, 7, 8, 9, 10, 11, 12, 13, 15] pr_1 pr_1 (by show (wd_B cI (b 5) ((xs_h S q) 5) ++ (sl_w cI (S 1 0 0) (b 14) ((xs_h S q) 14) ++ [])) = _; rw [sl_w_pos hf]; rfl) (by show (wd_B cI (b 5) q2 ++ (sl_w cI (S 1 0 0) (b 14) ((xs_h S q) 14) ++ [])) = _; rw [sl_w_pos hf]; rfl) rfl rfl rfl rfl hl.1 rfl (Nat.le_of_ble_eq_true rfl) dX7_restore_46 ⟨Nat.zero_le _, Nat.zero_le _⟩ (fun H locs hG9 => ?_)
  have hG : gd_W (dC, dI) A s (gX cI cB b (xs_set (xs_h S q) 5 q2)).flatten H locs := hG9
  refine lv_aload_n hx hb dX7_restore_49 rfl (lv_at hl 1 rfl) ?_
  refine lv_aload_n hx hb dX7_restore_50 rfl (lv_at hl 1 rfl) ?_
  refine va_get (D := (dC, dI)) (ci := 6) (v := .ref (b 5 0)) (C := RX7) (T := TX7) (N := 6) hx hb hts inlX7 hown hK hG.1 0 rfl rfl 0 (by decide) (hts _ wr_224) (fun _ h9 => h9) rfl dX7_restore_51 ?_
  refine gq_iV (gs := gX cI cB b (xs_set (xs_h S q) 5 q2)) (gs' := gX cI cB b (xs_set (xs_h S q) 5 q2)) (As := []) (rest := [.ref (b 0 0)]) (wc := (wd_B cI (b 5) ((xs_set (xs_h S q) 5 q2) 5))) (w1 := (wd_B cI (b 5) ((xs_set (xs_h S q) 5 q2) 5))) (b := b 5 0) (C := RX0) (ci := 0) (q0 := 0) ⟨hx, hb, hml, hown, hts⟩ (c0_players l (a := b 5) hn) (cwV 0 hts gv_X7_156 rfl rfl rfl hd0_players ⟨Nat.le_of_ble_eq_true rfl, Nat.le_of_ble_eq_true rfl⟩) hK [0] rfl hA hG [5] [0, 1, 2, 3, 4, 6, 7, 8, 9, 10, 11, 12, 13, 14, 15] pr_2 pr_2 rfl rfl rfl rfl rfl rfl hl.1 rfl (Nat.le_of_ble_eq_true rfl) dX7_restore_54 ⟨Nat.zero_le _, Nat.zero_le _⟩ (fun H locs hG9 => ?_)
  have hG : gd_W (dC, dI) A s (gX cI cB b (xs_set (xs_h S q) 5 q2)).flatten H locs := hG9
  refine gs_iV (b := b 0 0) (C := RX7) (As := [.int n]) (rest := []) (w1 := (gX cI cB b r.2).flatten) (ci := 6) (q0 := 0) ⟨hx, hb, hml, hown, hts⟩ (c7_changed l hr2) (cwV 1 hts gv_X7_50 rfl rfl rfl hd7_changed ⟨Nat.le_of_ble_eq_true rfl, Nat.le_of_ble_eq_true rfl⟩) hK hA hG rfl rfl rfl hl.1 rfl (Nat.le_of_ble_eq_true rfl) dX7_restore_57 ⟨Nat.zero_le _, Nat.zero_le _⟩ (fun H locs hG9 => ?_)
  exact gr_i hx hb hr hlocks hK hG9 rfl dX7_restore_60
set_option maxRecDepth 100000 in
set_option maxHeartbeats 4000000 in
theorem w7_restore_1 (C : cx_M p s m args meth c RX7 cX7_restore (some .int) 3) (hK : va_K (dC, dI) vwCl [(cI, .int), (cB, .object "DiceRoads$Board")] s) (hA : ∀ q, s.heap.size ≤ q → A q) {b : Nat → Nat → Nat} {S q : xs_T} {q2 : ms_T} {n : Int32} {r : Int32 × xs_T} (hf : ¬ S 1 0 1 = 0) (hq : f2_stage S = some q) (hq2 : f0_copyFrom ((xs_h S q) 15) ((xs_h S q) 5) = some q2) (hn : f0_players ((xs_set (xs_h S q) 5 q2) 5) = some n) (hr2 : f7_changed n (xs_set (xs_h S q) 5 q2) = some r) {H : Heap} {locs : List Loc} {ls : Array Slot} (hG : gd_W (dC, dI) A s (gX cI cB b S).flatten H locs) (hl : lv_has ls 3 [(0, .ref (b 0 0)), (1, .int (nI 1))]) : W p l e RM7_restore s m args below meth c H locs 0 0 (MQ below (qi_W (dC, dI) [(cI, .int), (cB, .object "DiceRoads$Board")] A r.1 (gX cI cB b r.2).flatten) args s 0 0 A) (F0 m 16 ls []) := by
  obtain ⟨hx, hb, hr, hts, hown, hlocks, hml⟩ := id C
  refine lv_aload_n hx hb dX7_restore_16 rfl (lv_at hl 0 rfl) ?_
  refine va_get (D := (dC, dI)) (ci := 6) (v := .ref (b 1 0)) (C := RX7) (T := TX7) (N := 6) hx hb hts inlX7 hown hK hG.1 0 rfl rfl 3 (by decide) (hts _ wr_227) (fun _ h9 => h9) rfl dX7_restore_17 ?_
  refine lv_iload_n hx hb dX7_restore_20 rfl (lv_at hl 1 rfl) ?_
  refine va_aldq hx hb hK hG.1 1 1 rfl rfl (vp_in_nI (n := 1) (by decide) (by decide)) dX7_restore_21 ?_
  refine W.eq (g2 := F0 m 22 ls [.ref (b 15 0)]) (by rw [show (nI 1).toNatClampNeg = 1 from rfl]; exact congrArg (fun z => F0 m 22 ls [z]) (sl_r_pos hf)) ?_
  refine lv_astore_n (lv' := [(2, .ref (b 15 0)), (0, .ref (b 0 0)), (1, .int (nI 1))]) hx hb dX7_restore_22 rfl hl (by decide) rfl (fun ls hl => ?_)
  refine lv_aload_n hx hb dX7_restore_23 rfl (lv_at hl 0 rfl) ?_
  refine lv_ifnonnull (tgt := 30) hx hb dX7_restore_24 (by decide) ?_
  refine lv_aload_n hx hb dX7_restore_30 rfl (lv_at hl 1 rfl) ?_
  refine va_get (D := (dC, dI)) (ci := 6) (v := .ref (b 2 0)) (C := RX7) (T := TX7) (N := 6) hx hb hts inlX7 hown hK hG.1 0 rfl rfl 2 (by decide) (hts _ wr_226) (fun _ h9 => h9) rfl dX7_restore_31 ?_
  refine lv_aload_n hx hb dX7_restore_34 rfl (lv_at hl 1 rfl) ?_
  refine va_get (D := (dC, dI)) (ci := 6) (v := .ref (b 5 0)) (C := RX7) (T := TX7) (N := 6) hx hb hts inlX7 hown hK hG.1 0 rfl rfl 0 (by decide) (hts _ wr_224) (fun _ h9 => h9) rfl dX7_restore_35 ?_
  refine gq_vV (gs := gX cI cB b S) (gs' := gX cI cB b (xs_h S q)) (As := [.ref (b 5 0)]) (rest := []) (wc := (gH cI cB b S).flatten) (w1 := (gH cI cB b q).flatten) (b := b 2 0) (C := RX2) (ci := 2) (q0 := 0) ⟨hx, hb, hml, hown, hts⟩ (c2_stage l (b := b) hq) (cwV 1 hts gv_X7_42 rfl rfl rfl hd2_stage ⟨Nat.le_of_ble_eq_true rfl, Nat.le_of_ble_eq_true rfl⟩) hK [0, 1] rfl hA hG [2, 7, 8, 9, 10, 11, 12, 13, 5] [0, 1, 3, 4, 6, 14, 15] pr_0 pr_0 rfl rfl rfl rfl rfl rfl hl.1 rfl (Nat.le_of_ble_eq_true rfl) dX7_restore_38 ⟨Nat.zero_le _, Nat.zero_le _⟩ (fun H locs hG9 => ?_)
  have hG : gd_W (dC, dI) A s (gX cI cB b (xs_h S q)).flatten H locs := hG9
  refine lv_aload_n hx hb dX7_restore_41 rfl (lv_at hl 1 rfl) ?_
  refine va_get (D := (dC, dI)) (ci := 6) (v := .ref (b 5 0)) (C := RX7) (T := TX7) (N := 6) hx hb hts inlX7 hown hK hG.1 0 rfl rfl 0 (by decide) (hts _ wr_224) (fun _ h9 => h9) rfl dX7_restore_42 ?_
  refine lv_aload_n hx hb dX7_restore_45 rfl (lv_at hl 0 rfl) ?_
  refine gq_vV (gs := gX cI cB b (xs_h S q)) (gs' := gX cI cB b (xs_set (xs_h S q) 5 q2)) (As := [.ref (b 15 0)]) (rest := []) (wc := (wd_BB cI (fun j => if j < 27 then b 5 j else b 15 (j - 27)) ((xs_h S q) 15) ((xs_h S q) 5))) (w1 := (wd_BB cI (fun j => if j < 27 then b 5 j else b 15 (j - 27)) ((xs_h S q) 15) q2)) (b := b 5 0) (C := RX0) (ci := 0) (q0 := 0) ⟨hx, hb, hml, hown, hts⟩ (c0_copyFrom l (a := (fun j => if j < 27 then b 5 j else b 15 (j - 27))) (Z := ((xs_h S q) 15)) hq2) (cwV 1 hts gv_X7_111 rfl rfl rfl hd0_copyFrom ⟨Nat.le_of_ble_eq_true rfl, Nat.le_of_ble_eq_true rfl⟩) hK [0] rfl hA hG [5, 15] [0, 1, 2, 3, 4, 6, 7, 8, 9, 10, 11, 12, 13, 14] pr_3 pr_3 (by show (wd_B cI (b 5) ((xs_h S q) 5) ++ (sl_w cI (S 1 0 1) (b 15) ((xs_h S q) 15) ++ [])) = _; rw [sl_w_pos hf]; rfl) (by show (wd_B cI (b 5) q2 ++ (sl_w cI (S 1 0 1) (b 15) ((xs_h S q) 15) ++ [])) = _; rw [sl_w_pos hf]; rfl) rfl rfl rfl rfl hl.1 rfl (Nat.le_of_ble_eq_true rfl) dX7_restore_46 ⟨Nat.zero_le _, Nat.zero_le _⟩ (fun H locs hG9 => ?_)
  have hG : gd_W (dC, dI) A s (gX cI cB b (xs_set (xs_h S q) 5 q2)).flatten H locs := hG9
  refine lv_aload_n hx hb dX7_restore_49 rfl (lv_at hl 1 rfl) ?_
  refine lv_aload_n hx hb dX7_restore_50 rfl (lv_at hl 1 rfl) ?_
  refine va_get (D := (dC, dI)) (ci := 6) (v := .ref (b 5 0)) (C := RX7) (T := TX7) (N := 6) hx hb hts inlX7 hown hK hG.1 0 rfl rfl 0 (by decide) (hts _ wr_224) (fun _ h9 => h9) rfl dX7_restore_51 ?_
  refine gq_iV (gs := gX cI cB b (xs_set (xs_h S q) 5 q2)) (gs' := gX cI cB b (xs_set (xs_h S q) 5 q2)) (As := []) (rest := [.ref (b 0 0)]) (wc := (wd_B cI (b 5) ((xs_set (xs_h S q) 5 q2) 5))) (w1 := (wd_B cI (b 5) ((xs_set (xs_h S q) 5 q2) 5))) (b := b 5 0) (C := RX0) (ci := 0) (q0 := 0) ⟨hx, hb, hml, hown, hts⟩ (c0_players l (a := b 5) hn) (cwV 0 hts gv_X7_156 rfl rfl rfl hd0_players ⟨Nat.le_of_ble_eq_true rfl, Nat.le_of_ble_eq_true rfl⟩) hK [0] rfl hA hG [5] [0, 1, 2, 3, 4, 6, 7, 8, 9, 10, 11, 12, 13, 14, 15] pr_2 pr_2 rfl rfl rfl rfl rfl rfl hl.1 rfl (Nat.le_of_ble_eq_true rfl) dX7_restore_54 ⟨Nat.zero_le _, Nat.zero_le _⟩ (fun H locs hG9 => ?_)
  have hG : gd_W (dC, dI) A s (gX cI cB b (xs_set (xs_h S q) 5 q2)).flatten H locs := hG9
  refine gs_iV (b := b 0 0) (C := RX7) (As := [.int n]) (rest := []) (w1 := (gX cI cB b r.2).flatten) (ci := 6) (q0 := 0) ⟨hx, hb, hml, hown, hts⟩ (c7_changed l hr2) (cwV 1 hts gv_X7_50 rfl rfl rfl hd7_changed ⟨Nat.le_of_ble_eq_true rfl, Nat.le_of_ble_eq_true rfl⟩) hK hA hG rfl rfl rfl hl.1 rfl (Nat.le_of_ble_eq_true rfl) dX7_restore_57 ⟨Nat.zero_le _, Nat.zero_le _⟩ (fun H locs hG9 => ?_)
  exact gr_i hx hb hr hlocks hK hG9 rfl dX7_restore_60
set_option maxRecDepth 100000 in
set_option maxHeartbeats 4000000 in
theorem w7_restore_n (C : cx_M p s m args meth c RX7 cX7_restore (some .int) 3) (hK : va_K (dC, dI) vwCl [(cI, .int), (cB, .object "DiceRoads$Board")] s) (hA : ∀ q, s.heap.size ≤ q → A q) {b : Nat → Nat → Nat} {S : xs_T} {k : Nat} (hk : k = 0 ∨ k = 1) (hf : S 1 0 k = 0) {H : Heap} {locs : List Loc} {ls : Array Slot} (hG : gd_W (dC, dI) A s (gX cI cB b S).flatten H locs) (hl : lv_has ls 3 [(0, .ref (b 0 0)), (1, .int (nI k))]) : W p l e RM7_restore s m args below meth c H locs 0 0 (MQ below (qi_W (dC, dI) [(cI, .int), (cB, .object "DiceRoads$Board")] A (-5) (gX cI cB b S).flatten) args s 0 0 A) (F0 m 16 ls []) := by
  obtain ⟨hx, hb, hr, hts, hown, hlocks, hml⟩ := id C
  refine lv_aload_n hx hb dX7_restore_16 rfl (lv_at hl 0 rfl) ?_
  refine va_get (D := (dC, dI)) (ci := 6) (v := .ref (b 1 0)) (C := RX7) (T := TX7) (N := 6) hx hb hts inlX7 hown hK hG.1 0 rfl rfl 3 (by decide) (hts _ wr_227) (fun _ h9 => h9) rfl dX7_restore_17 ?_
  refine lv_iload_n hx hb dX7_restore_20 rfl (lv_at hl 1 rfl) ?_
  refine va_aldq hx hb hK hG.1 1 1 rfl rfl (vp_in_nI (n := k) (by omega) (by omega)) dX7_restore_21 ?_
  refine W.eq (g2 := F0 m 22 ls [.null]) (by rw [nI_clamp (by omega)]; rcases hk with rfl | rfl <;> exact congrArg (fun z => F0 m 22 ls [z]) (sl_r_zero hf)) ?_
  refine lv_astore_nN (lv' := [(2, .null), (0, .ref (b 0 0)), (1, .int (nI k))]) hx hb dX7_restore_22 rfl hl (by decide) rfl (fun ls hl => ?_)
  refine lv_aload_nN hx hb dX7_restore_23 rfl (lv_at hl 0 rfl) ?_
  refine lv_ifnonnullN hx hb dX7_restore_24 ?_
  refine lv_bipush (v := (-5 : Int32)) hx hb dX7_restore_27 (by decide) ?_
  exact gr_i hx hb hr hlocks hK hG rfl dX7_restore_29
set_option maxRecDepth 100000 in
set_option maxHeartbeats 4000000 in
theorem w7_restore (C : cx_M p s m args meth c RX7 cX7_restore (some .int) 3) (hK : va_K (dC, dI) vwCl [(cI, .int), (cB, .object "DiceRoads$Board")] s) (hA : ∀ q, s.heap.size ≤ q → A q) {b : Nat → Nat → Nat} {S : xs_T} {v1 : Int32} {r : Int32 × xs_T} (h : f7_restore v1 S = some r) {H : Heap} {locs : List Loc} {ls : Array Slot} (hG : gd_W (dC, dI) A s (gX cI cB b S).flatten H locs) (hl : lv_has ls 3 [(0, .ref (b 0 0)), (1, .int v1)]) : W p l e RM7_restore s m args below meth c H locs 0 0 (MQ below (qi_W (dC, dI) [(cI, .int), (cB, .object "DiceRoads$Board")] A r.1 (gX cI cB b r.2).flatten) args s 0 0 A) (F0 m 0 ls []) := by
  obtain ⟨hx, hb, hr, hts, hown, hlocks, hml⟩ := id C
  unfold f7_restore at h
  refine lv_iload_n hx hb dX7_restore_0 rfl (lv_at hl 1 rfl) ?_
  refine lv_if_lt (tgt := 13) hx hb dX7_restore_1 (by decide) (fun hc => ?_) (fun hc => ?_)
  · have h := fo_it h hc
    obtain rfl := Option.some.inj h
    refine lv_bipush (v := (-2 : Int32)) hx hb dX7_restore_13 (by decide) ?_
    exact gr_i hx hb hr hlocks hK hG rfl dX7_restore_15
  · have h := fo_if h hc
    refine lv_iload_n hx hb dX7_restore_4 rfl (lv_at hl 1 rfl) ?_
    refine lv_aload_n hx hb dX7_restore_5 rfl (lv_at hl 0 rfl) ?_
    refine va_get (D := (dC, dI)) (ci := 6) (v := .ref (b 1 0)) (C := RX7) (T := TX7) (N := 6) hx hb hts inlX7 hown hK hG.1 0 rfl rfl 3 (by decide) (hts _ wr_227) (fun _ h9 => h9) rfl dX7_restore_6 ?_
    refine va_alen (v := (2 : Int32)) hx hb hK hG.1 1 1 rfl rfl rfl dX7_restore_9 ?_
    refine lv_icmp_lt (tgt := 16) hx hb dX7_restore_10 (by decide) (fun hc2 => ?_) (fun hc2 => ?_)
    · have hc3 : ¬ (2 : Int32) ≤ v1 := Int32.not_le.mpr hc2
      have h := fo_if h hc3
      obtain ⟨k, hk, hv⟩ := vp_in_of (x := v1) (n := 2) (fun z => z.elim hc (fun z => absurd z (by
        have := Int32.lt_iff_toInt_lt.mp hc2
        have h2 : (2 : Int32).toInt = 2 := rfl
        unfold Int32.toNatClampNeg
        omega))) (by decide)
      subst hv
      rw [nI_clamp (by omega)] at h
      by_cases hf : S 1 0 k = 0
      · have h := fo_it h hf
        obtain rfl := Option.some.inj h
        exact w7_restore_n C hK hA (by omega) hf hG hl
      · have h := fo_if h hf
        obtain ⟨q, hq, h⟩ := fo_bd_some h
        obtain ⟨q2, hq2, h⟩ := fo_bd_some h
        obtain ⟨n, hn, h3⟩ := fo_bd_some h
        rcases (show k = 0 ∨ k = 1 by omega) with rfl | rfl
        · exact w7_restore_0 C hK hA hf hq hq2 hn h3 hG hl
        · exact w7_restore_1 C hK hA hf hq hq2 hn h3 hG hl
    · have hc3 : (2 : Int32) ≤ v1 := Int32.not_lt.mp hc2
      have h := fo_it h hc3
      obtain rfl := Option.some.inj h
      refine lv_bipush (v := (-2 : Int32)) hx hb dX7_restore_13 (by decide) ?_
      exact gr_i hx hb hr hlocks hK hG rfl dX7_restore_15
set_option maxRecDepth 100000 in
set_option maxHeartbeats 4000000 in
theorem c7_restore (l : Launch) {dC : Nat → ClassId} {dI : Nat → Nat → Nat} {cI cB : ClassId} {b : Nat → Nat → Nat} {v1 : Int32} {S : xs_T} {q : Int32 × xs_T} (h : f7_restore v1 S = some q) : mi_M l yX7_restore wm7_restore RM7_restore (dC, dI) [(cI, .int), (cB, .object "DiceRoads$Board")] [.ref (b 0 0), .int v1] (gX cI cB b S).flatten q.1 (gX cI cB b q.2).flatten := by
  intro sz
  refine Met.ofW (cc := cX7_restore) (maxL := 3) (ret := (some .int)) (by decide) rfl ?_
  intro p e s m args below meth c s₁ B hml hv
  obtain ⟨rfl, hsz, hP, hK, hD0⟩ := hv
  subst hsz
  have hl := lv_entry ([.ref (b 0 0), .int v1] : List Value) (n := 3) (Nat.le_of_ble_eq_true rfl)
  rw [lg_entry_eq]
  generalize (lg_sl ([.ref (b 0 0), .int v1] : List Value) ++ List.replicate (3 - (lg_sl ([.ref (b 0 0), .int v1] : List Value)).length) Slot.unset).toArray = ls at hl ⊢
  exact w7_restore ⟨B.exec, B.bytes, B.returns, fun w hw => atoms_spec (ws := wm7_restore) B.pre w (List.mem_cons_of_mem _ hw), findClass_of_methodNamed B.named, B.notSynchronized, hml⟩ hK (fun _ h => Or.inr h) h ⟨hP, hD0.self, va_S.rf⟩ hl
end
