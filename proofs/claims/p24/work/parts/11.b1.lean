/-! ## DiceRoads$Board.addPlayer(I)I -/
section
variable {p : Program} {l : Launch} {e : Env} {s : State} {m : MethodId} {args : Array Value} {below : List Frame} {meth : Method} {c : Code} {dC : Nat → ClassId} {dI : Nat → Nat → Nat} {cI : ClassId} {A : Nat → Prop}
set_option maxRecDepth 100000 in
set_option maxHeartbeats 4000000 in
theorem w0_addPlayer (C : cx_M p s m args meth c RX0 cX0_addPlayer (some .int) 2) (hK : va_K (dC, dI) vwCl [(cI, .int)] s) (hA : ∀ q, s.heap.size ≤ q → A q) {a : Nat → Nat} {q : (Int32 × ms_T)} {v1 : Int32} {S : ms_T} (h : f0_addPlayer v1 S = some q) {H : Heap} {locs : List Loc} {ls : Array Slot} (hG : gd_W (dC, dI) A s (wd_B cI a S) H locs) (hl : lv_has ls 2 [(0, .ref (a 0)), (1, .int v1)]) : W p l e RM0_addPlayer s m args below meth c H locs 0 0 (MQ below (qi_W (dC, dI) [(cI, .int)] A q.1 (wd_B cI a q.2)) args s 0 0 A) (F0 m 0 ls []) := by
  unfold f0_addPlayer at h
  obtain ⟨hx, hb, hr, hts, hown, hlocks, hml⟩ := id C
  refine lv_iload_n hx hb dX0_addPlayer_0 rfl (lv_at hl 1 rfl) ?_
  refine lv_if_lt (tgt := 11) hx hb dX0_addPlayer_1 (by decide) (fun hc => ?_) (fun hc => ?_)
  · have h := fo_it h hc
    refine lv_bipush (v := (-2 : Int32)) hx hb dX0_addPlayer_11 (by decide) ?_
    obtain rfl := Option.some.inj h
    exact gr_i hx hb hr hlocks hK hG rfl dX0_addPlayer_13
  · have h := fo_if h hc
    refine lv_iload_n hx hb dX0_addPlayer_4 rfl (lv_at hl 1 rfl) ?_
    refine lv_sipush (v := (9999 : Int32)) hx hb dX0_addPlayer_5 (by decide) ?_
    refine lv_icmp_le (tgt := 14) hx hb dX0_addPlayer_8 (by decide) (fun hc => ?_) (fun hc => ?_)
    · have h := fo_it h hc
      refine lv_aload_n hx hb dX0_addPlayer_14 rfl (lv_at hl 0 rfl) ?_
      refine va_get (D := (dC, dI)) (ci := 0) (v := .int (S 12 0)) (C := RX0) (T := TX0) (N := 15) hx hb hts inlX0 hown hK hG.1 0 rfl rfl 9 (by decide) (hts (Cond.fieldLink RX0 52 "DiceRoads$Board" "players" "I") wq_99) (fun _ h9 => h9) rfl dX0_addPlayer_15 ?_
      refine lv_iconst (v := (4 : Int32)) hx hb dX0_addPlayer_18 (by decide) ?_
      refine lv_icmp_lt (tgt := 25) hx hb dX0_addPlayer_19 (by decide) (fun hc => ?_) (fun hc => ?_)
      · have h := fo_it h hc
        refine lv_aload_n hx hb dX0_addPlayer_25 rfl (lv_at hl 0 rfl) ?_
        refine va_get (D := (dC, dI)) (ci := 0) (v := .ref (a 15)) (C := RX0) (T := TX0) (N := 15) hx hb hts inlX0 hown hK hG.1 0 rfl rfl 3 (by decide) (hts (Cond.fieldLink RX0 34 "DiceRoads$Board" "purses" "LDiceRoads$Row;") wq_93) (fun _ h9 => h9) rfl dX0_addPlayer_26 ?_
        refine lv_aload_n hx hb dX0_addPlayer_29 rfl (lv_at hl 0 rfl) ?_
        refine va_get (D := (dC, dI)) (ci := 0) (v := .int (S 12 0)) (C := RX0) (T := TX0) (N := 15) hx hb hts inlX0 hown hK hG.1 0 rfl rfl 9 (by decide) (hts (Cond.fieldLink RX0 52 "DiceRoads$Board" "players" "I") wq_99) (fun _ h9 => h9) rfl dX0_addPlayer_30 ?_
        refine lv_iload_n hx hb dX0_addPlayer_33 rfl (lv_at hl 1 rfl) ?_
        obtain ⟨q34, hq34, h⟩ := fo_bd_some h
        refine gc_vV (b := a 15) (C := RX6) (As := [.int (S 12 0), .int v1]) (rest := []) (wc := (wd_R cI (fun k => a (k + 15)) 0 4 (S 6))) (w1 := (wd_R cI (fun k => a (k + 15)) 0 4 q34)) (ci := 5) (q0 := 0) ⟨hx, hb, hml, hown, hts⟩ (c6_write l (a := (fun k => a (k + 15))) (v := 0) (z := 4) hq34) (cwV 2 hts gv_X0_75 rfl rfl rfl hd6_write ⟨Nat.le_of_ble_eq_true rfl, Nat.le_of_ble_eq_true rfl⟩) hK [0] rfl hA hG [15, 16] rfl rfl rfl rfl rfl rfl hl.1 rfl (Nat.le_of_ble_eq_true rfl) dX0_addPlayer_34 ⟨Nat.zero_le _, Nat.zero_le _⟩ (fun H locs hG9 => ?_)
        have hG : gd_W (dC, dI) A s (wd_B cI a (ms_set S 6 q34)) H locs := hG9
        refine lv_aload_n hx hb dX0_addPlayer_37 rfl (lv_at hl 0 rfl) ?_
        refine lv_dup hx hb dX0_addPlayer_38 rfl ?_
        refine va_get (D := (dC, dI)) (ci := 0) (v := .int ((ms_set S 6 q34) 12 0)) (C := RX0) (T := TX0) (N := 15) hx hb hts inlX0 hown hK hG.1 0 rfl rfl 9 (by decide) (hts (Cond.fieldLink RX0 52 "DiceRoads$Board" "players" "I") wq_99) (fun _ h9 => h9) rfl dX0_addPlayer_39 ?_
        refine lv_iconst (v := (1 : Int32)) hx hb dX0_addPlayer_42 (by decide) ?_
        refine lv_iadd hx hb dX0_addPlayer_43 ?_
        refine va_put (D := (dC, dI)) (ci := 0) (v := .int (((ms_set S 6 q34) 12 0) + (1 : Int32))) (ty := .int) (C := RX0) (T := TX0) (N := 15) hx hb hts inlX0 tyX0 tyX0_ok nmX0 hown hK hG.1 hG.2.1 hG.2.2 0 rfl rfl 9 (by decide) (hts (Cond.fieldLink RX0 52 "DiceRoads$Board" "players" "I") wq_99) (fun _ h9 => h9) rfl (by decide +kernel) rfl rfl (Nat.le_of_ble_eq_true rfl) dX0_addPlayer_44 (fun H locs hP9 hD9 hS9 => ?_)
        have hG : gd_W (dC, dI) A s (wd_B cI a (ms_set (ms_set S 6 q34) 12 (upd ((ms_set S 6 q34) 12) 0 (((ms_set S 6 q34) 12 0) + (1 : Int32))))) H locs := ⟨hP9, hD9, hS9⟩
        refine lv_aload_n hx hb dX0_addPlayer_47 rfl (lv_at hl 0 rfl) ?_
        refine va_get (D := (dC, dI)) (ci := 0) (v := .int ((ms_set (ms_set S 6 q34) 12 (upd ((ms_set S 6 q34) 12) 0 (((ms_set S 6 q34) 12 0) + (1 : Int32)))) 12 0)) (C := RX0) (T := TX0) (N := 15) hx hb hts inlX0 hown hK hG.1 0 rfl rfl 9 (by decide) (hts (Cond.fieldLink RX0 52 "DiceRoads$Board" "players" "I") wq_99) (fun _ h9 => h9) rfl dX0_addPlayer_48 ?_
        refine lv_iconst (v := (1 : Int32)) hx hb dX0_addPlayer_51 (by decide) ?_
        refine lv_isub hx hb dX0_addPlayer_52 ?_
        obtain rfl := Option.some.inj h
        exact gr_i hx hb hr hlocks hK hG rfl dX0_addPlayer_53
      · have h := fo_if h hc
        refine lv_bipush (v := (-4 : Int32)) hx hb dX0_addPlayer_22 (by decide) ?_
        obtain rfl := Option.some.inj h
        exact gr_i hx hb hr hlocks hK hG rfl dX0_addPlayer_24
    · have h := fo_if h hc
      refine lv_bipush (v := (-2 : Int32)) hx hb dX0_addPlayer_11 (by decide) ?_
      obtain rfl := Option.some.inj h
      exact gr_i hx hb hr hlocks hK hG rfl dX0_addPlayer_13
set_option maxRecDepth 100000 in
set_option maxHeartbeats 4000000 in
theorem c0_addPlayer (l : Launch) {dC : Nat → ClassId} {dI : Nat → Nat → Nat} {cI : ClassId} {a : Nat → Nat} {v1 : Int32} {S : ms_T} {q : (Int32 × ms_T)} (h : f0_addPlayer v1 S = some q) : mi_M l yX0_addPlayer wm0_addPlayer RM0_addPlayer (dC, dI) [(cI, .int)] [.ref (a 0), .int v1] (wd_B cI a S) q.1 (wd_B cI a q.2) := by
  intro sz
  refine Met.ofW (cc := cX0_addPlayer) (maxL := 2) (ret := (some .int)) (by decide) rfl ?_
  intro p e s m args below meth c s₁ B hml hv
  obtain ⟨rfl, hsz, hP, hK, hD0⟩ := hv
  subst hsz
  have hl := lv_entry ([.ref (a 0), .int v1] : List Value) (n := 2) (Nat.le_of_ble_eq_true rfl)
  rw [lg_entry_eq]
  generalize (lg_sl ([.ref (a 0), .int v1] : List Value) ++ List.replicate (2 - (lg_sl ([.ref (a 0), .int v1] : List Value)).length) Slot.unset).toArray = ls at hl ⊢
  exact w0_addPlayer (a := a) ⟨B.exec, B.bytes, B.returns, fun w hw => atoms_spec (ws := wm0_addPlayer) B.pre w (List.mem_cons_of_mem _ hw), findClass_of_methodNamed B.named, B.notSynchronized, hml⟩ hK (fun _ h => Or.inr h) h ⟨hP, hD0.self, va_S.rf⟩ hl
end
/-! ## DiceRoads$Board.changeDraws(I)I -/
section
variable {p : Program} {l : Launch} {e : Env} {s : State} {m : MethodId} {args : Array Value} {below : List Frame} {meth : Method} {c : Code} {dC : Nat → ClassId} {dI : Nat → Nat → Nat} {cI : ClassId} {A : Nat → Prop}
set_option maxRecDepth 100000 in
set_option maxHeartbeats 4000000 in
theorem w0_changeDraws (C : cx_M p s m args meth c RX0 cX0_changeDraws (some .int) 3) (hK : va_K (dC, dI) vwCl [(cI, .int)] s) (hA : ∀ q, s.heap.size ≤ q → A q) {a : Nat → Nat} {q : (Int32 × ms_T)} {v1 : Int32} {S : ms_T} (h : f0_changeDraws v1 S = some q) {H : Heap} {locs : List Loc} {ls : Array Slot} (hG : gd_W (dC, dI) A s (wd_B cI a S) H locs) (hl : lv_has ls 3 [(0, .ref (a 0)), (1, .int v1)]) : W p l e RM0_changeDraws s m args below meth c H locs 0 0 (MQ below (qi_W (dC, dI) [(cI, .int)] A q.1 (wd_B cI a q.2)) args s 0 0 A) (F0 m 0 ls []) := by
  unfold f0_changeDraws at h
  obtain ⟨hx, hb, hr, hts, hown, hlocks, hml⟩ := id C
  refine lv_iload_n hx hb dX0_changeDraws_0 rfl (lv_at hl 1 rfl) ?_
  refine lv_if_lt (tgt := 11) hx hb dX0_changeDraws_1 (by decide) (fun hc => ?_) (fun hc => ?_)
  · have h := fo_it h hc
    refine lv_bipush (v := (-2 : Int32)) hx hb dX0_changeDraws_11 (by decide) ?_
    obtain rfl := Option.some.inj h
    exact gr_i hx hb hr hlocks hK hG rfl dX0_changeDraws_13
  · have h := fo_if h hc
    refine lv_iload_n hx hb dX0_changeDraws_4 rfl (lv_at hl 1 rfl) ?_
    refine lv_sipush (v := (9999 : Int32)) hx hb dX0_changeDraws_5 (by decide) ?_
    refine lv_icmp_le (tgt := 14) hx hb dX0_changeDraws_8 (by decide) (fun hc => ?_) (fun hc => ?_)
    · have h := fo_it h hc
      refine lv_aload_n hx hb dX0_changeDraws_14 rfl (lv_at hl 0 rfl) ?_
      refine va_get (D := (dC, dI)) (ci := 0) (v := .int (S 12 2)) (C := RX0) (T := TX0) (N := 15) hx hb hts inlX0 hown hK hG.1 0 rfl rfl 11 (by decide) (hts (Cond.fieldLink RX0 59 "DiceRoads$Board" "draw" "I") wq_101) (fun _ h9 => h9) rfl dX0_changeDraws_15 ?_
      refine lv_istore_n (lv' := [(2, .int (S 12 2)), (0, .ref (a 0)), (1, .int v1)]) hx hb dX0_changeDraws_18 rfl hl (by decide) rfl (fun ls hl => ?_)
      refine lv_aload_n hx hb dX0_changeDraws_19 rfl (lv_at hl 1 rfl) ?_
      refine lv_iload_n hx hb dX0_changeDraws_20 rfl (lv_at hl 2 rfl) ?_
      refine va_put (D := (dC, dI)) (ci := 0) (v := .int v1) (ty := .int) (C := RX0) (T := TX0) (N := 15) hx hb hts inlX0 tyX0 tyX0_ok nmX0 hown hK hG.1 hG.2.1 hG.2.2 0 rfl rfl 11 (by decide) (hts (Cond.fieldLink RX0 59 "DiceRoads$Board" "draw" "I") wq_101) (fun _ h9 => h9) rfl (by decide +kernel) rfl rfl (Nat.le_of_ble_eq_true rfl) dX0_changeDraws_21 (fun H locs hP9 hD9 hS9 => ?_)
      have hG : gd_W (dC, dI) A s (wd_B cI a (ms_set S 12 (upd (S 12) 2 v1))) H locs := ⟨hP9, hD9, hS9⟩
      refine lv_iload_n hx hb dX0_changeDraws_24 rfl (lv_at hl 0 rfl) ?_
      obtain rfl := Option.some.inj h
      exact gr_i hx hb hr hlocks hK hG rfl dX0_changeDraws_25
    · have h := fo_if h hc
      refine lv_bipush (v := (-2 : Int32)) hx hb dX0_changeDraws_11 (by decide) ?_
      obtain rfl := Option.some.inj h
      exact gr_i hx hb hr hlocks hK hG rfl dX0_changeDraws_13
set_option maxRecDepth 100000 in
set_option maxHeartbeats 4000000 in
theorem c0_changeDraws (l : Launch) {dC : Nat → ClassId} {dI : Nat → Nat → Nat} {cI : ClassId} {a : Nat → Nat} {v1 : Int32} {S : ms_T} {q : (Int32 × ms_T)} (h : f0_changeDraws v1 S = some q) : mi_M l yX0_changeDraws wm0_changeDraws RM0_changeDraws (dC, dI) [(cI, .int)] [.ref (a 0), .int v1] (wd_B cI a S) q.1 (wd_B cI a q.2) := by
  intro sz
  refine Met.ofW (cc := cX0_changeDraws) (maxL := 3) (ret := (some .int)) (by decide) rfl ?_
  intro p e s m args below meth c s₁ B hml hv
  obtain ⟨rfl, hsz, hP, hK, hD0⟩ := hv
  subst hsz
  have hl := lv_entry ([.ref (a 0), .int v1] : List Value) (n := 3) (Nat.le_of_ble_eq_true rfl)
  rw [lg_entry_eq]
  generalize (lg_sl ([.ref (a 0), .int v1] : List Value) ++ List.replicate (3 - (lg_sl ([.ref (a 0), .int v1] : List Value)).length) Slot.unset).toArray = ls at hl ⊢
  exact w0_changeDraws (a := a) ⟨B.exec, B.bytes, B.returns, fun w hw => atoms_spec (ws := wm0_changeDraws) B.pre w (List.mem_cons_of_mem _ hw), findClass_of_methodNamed B.named, B.notSynchronized, hml⟩ hK (fun _ h => Or.inr h) h ⟨hP, hD0.self, va_S.rf⟩ hl
end
/-! ## DiceRoads$Board.payWhatThereIs(III)I -/
section
variable {p : Program} {l : Launch} {e : Env} {s : State} {m : MethodId} {args : Array Value} {below : List Frame} {meth : Method} {c : Code} {dC : Nat → ClassId} {dI : Nat → Nat → Nat} {cI : ClassId} {A : Nat → Prop}
set_option maxRecDepth 100000 in
set_option maxHeartbeats 4000000 in
theorem w0_payWhatThereIs (C : cx_M p s m args meth c RX0 cX0_payWhatThereIs (some .int) 5) (hK : va_K (dC, dI) vwCl [(cI, .int)] s) (hA : ∀ q, s.heap.size ≤ q → A q) {a : Nat → Nat} {q : (Int32 × ms_T)} {v1 : Int32} {v2 : Int32} {v3 : Int32} {S : ms_T} (h : f0_payWhatThereIs v1 v2 v3 S = some q) {H : Heap} {locs : List Loc} {ls : Array Slot} (hG : gd_W (dC, dI) A s (wd_B cI a S) H locs) (hl : lv_has ls 5 [(0, .ref (a 0)), (1, .int v1), (2, .int v2), (3, .int v3)]) : W p l e RM0_payWhatThereIs s m args below meth c H locs 0 0 (MQ below (qi_W (dC, dI) [(cI, .int)] A q.1 (wd_B cI a q.2)) args s 0 0 A) (F0 m 0 ls []) := by
  unfold f0_payWhatThereIs at h
  obtain ⟨hx, hb, hr, hts, hown, hlocks, hml⟩ := id C
  refine lv_iload_n hx hb dX0_payWhatThereIs_0 rfl (lv_at hl 3 rfl) ?_
  refine lv_aload_n hx hb dX0_payWhatThereIs_1 rfl (lv_at hl 0 rfl) ?_
  refine va_get (D := (dC, dI)) (ci := 0) (v := .ref (a 15)) (C := RX0) (T := TX0) (N := 15) hx hb hts inlX0 hown hK hG.1 0 rfl rfl 3 (by decide) (hts (Cond.fieldLink RX0 34 "DiceRoads$Board" "purses" "LDiceRoads$Row;") wq_93) (fun _ h9 => h9) rfl dX0_payWhatThereIs_2 ?_
  refine lv_iload_n hx hb dX0_payWhatThereIs_5 rfl (lv_at hl 1 rfl) ?_
  obtain ⟨q6, hq6, h⟩ := fo_bd_some h
  refine gc_iV (b := a 15) (C := RX6) (As := [.int v1]) (rest := [.int v3]) (wc := (wd_R cI (fun k => a (k + 15)) 0 4 (S 6))) (w1 := (wd_R cI (fun k => a (k + 15)) 0 4 (S 6))) (ci := 5) (q0 := 0) ⟨hx, hb, hml, hown, hts⟩ (c6_at l (a := (fun k => a (k + 15))) (v := 0) (z := 4) hq6) (cwV 1 hts gv_X0_94 rfl rfl rfl hd6_at ⟨Nat.le_of_ble_eq_true rfl, Nat.le_of_ble_eq_true rfl⟩) hK [0] rfl hA hG [15, 16] rfl rfl rfl rfl rfl rfl hl.1 rfl (Nat.le_of_ble_eq_true rfl) dX0_payWhatThereIs_6 ⟨Nat.zero_le _, Nat.zero_le _⟩ (fun H locs hG9 => ?_)
  have hG : gd_W (dC, dI) A s (wd_B cI a S) H locs := hG9
  refine va_mmin hx hb (hml.trans hl.1.symm) hown (hts (Cond.methodLink RX0 149 Lib.Math.min.name) wq_290) (hts (Cond.static Lib.Math.min.name) wq_239) (hts (Cond.initialized "java/lang/Math") wq_15) (hts (Cond.code Lib.Math.min.name Lib.Math.min.code 2 (some .int)) wq_240) (Nat.le_of_ble_eq_true rfl) (Nat.le_of_ble_eq_true rfl) (Nat.zero_le _) (Nat.zero_le _) dX0_payWhatThereIs_9 ?_
  refine lv_istore (lv' := [(4, .int (if q6 < v3 then q6 else v3)), (0, .ref (a 0)), (1, .int v1), (2, .int v2), (3, .int v3)]) hx hb dX0_payWhatThereIs_12 hl (by decide) rfl (fun ls hl => ?_)
  refine lv_aload_n hx hb dX0_payWhatThereIs_14 rfl (lv_at hl 1 rfl) ?_
  refine va_get (D := (dC, dI)) (ci := 0) (v := .ref (a 15)) (C := RX0) (T := TX0) (N := 15) hx hb hts inlX0 hown hK hG.1 0 rfl rfl 3 (by decide) (hts (Cond.fieldLink RX0 34 "DiceRoads$Board" "purses" "LDiceRoads$Row;") wq_93) (fun _ h9 => h9) rfl dX0_payWhatThereIs_15 ?_
  refine lv_iload_n hx hb dX0_payWhatThereIs_18 rfl (lv_at hl 2 rfl) ?_
  refine lv_iload hx hb dX0_payWhatThereIs_19 (lv_at hl 0 rfl) ?_
  refine lv_ineg hx hb dX0_payWhatThereIs_21 ?_
  obtain ⟨q22, hq22, h⟩ := fo_bd_some h
  refine gc_vV (b := a 15) (C := RX6) (As := [.int v1, .int (-(if q6 < v3 then q6 else v3))]) (rest := []) (wc := (wd_R cI (fun k => a (k + 15)) 0 4 (S 6))) (w1 := (wd_R cI (fun k => a (k + 15)) 0 4 q22)) (ci := 5) (q0 := 0) ⟨hx, hb, hml, hown, hts⟩ (c6_add l (a := (fun k => a (k + 15))) (v := 0) (z := 4) hq22) (cwV 2 hts gv_X0_131 rfl rfl rfl hd6_add ⟨Nat.le_of_ble_eq_true rfl, Nat.le_of_ble_eq_true rfl⟩) hK [0] rfl hA hG [15, 16] rfl rfl rfl rfl rfl rfl hl.1 rfl (Nat.le_of_ble_eq_true rfl) dX0_payWhatThereIs_22 ⟨Nat.zero_le _, Nat.zero_le _⟩ (fun H locs hG9 => ?_)
  have hG : gd_W (dC, dI) A s (wd_B cI a (ms_set S 6 q22)) H locs := hG9
  refine lv_aload_n hx hb dX0_payWhatThereIs_25 rfl (lv_at hl 1 rfl) ?_
  refine va_get (D := (dC, dI)) (ci := 0) (v := .ref (a 15)) (C := RX0) (T := TX0) (N := 15) hx hb hts inlX0 hown hK hG.1 0 rfl rfl 3 (by decide) (hts (Cond.fieldLink RX0 34 "DiceRoads$Board" "purses" "LDiceRoads$Row;") wq_93) (fun _ h9 => h9) rfl dX0_payWhatThereIs_26 ?_
  refine lv_iload_n hx hb dX0_payWhatThereIs_29 rfl (lv_at hl 3 rfl) ?_
  refine lv_iload hx hb dX0_payWhatThereIs_30 (lv_at hl 0 rfl) ?_
  obtain ⟨q32, hq32, h⟩ := fo_bd_some h
  refine gc_vV (b := a 15) (C := RX6) (As := [.int v2, .int (if q6 < v3 then q6 else v3)]) (rest := []) (wc := (wd_R cI (fun k => a (k + 15)) 0 4 ((ms_set S 6 q22) 6))) (w1 := (wd_R cI (fun k => a (k + 15)) 0 4 q32)) (ci := 5) (q0 := 0) ⟨hx, hb, hml, hown, hts⟩ (c6_add l (a := (fun k => a (k + 15))) (v := 0) (z := 4) hq32) (cwV 2 hts gv_X0_131 rfl rfl rfl hd6_add ⟨Nat.le_of_ble_eq_true rfl, Nat.le_of_ble_eq_true rfl⟩) hK [0] rfl hA hG [15, 16] rfl rfl rfl rfl rfl rfl hl.1 rfl (Nat.le_of_ble_eq_true rfl) dX0_payWhatThereIs_32 ⟨Nat.zero_le _, Nat.zero_le _⟩ (fun H locs hG9 => ?_)
  have hG : gd_W (dC, dI) A s (wd_B cI a (ms_set (ms_set S 6 q22) 6 q32)) H locs := hG9
  refine lv_aload_n hx hb dX0_payWhatThereIs_35 rfl (lv_at hl 1 rfl) ?_
  refine va_get (D := (dC, dI)) (ci := 0) (v := .ref (a 19)) (C := RX0) (T := TX0) (N := 15) hx hb hts inlX0 hown hK hG.1 0 rfl rfl 5 (by decide) (hts (Cond.fieldLink RX0 40 "DiceRoads$Board" "tollsPaid" "LDiceRoads$Row;") wq_95) (fun _ h9 => h9) rfl dX0_payWhatThereIs_36 ?_
  refine lv_iload_n hx hb dX0_payWhatThereIs_39 rfl (lv_at hl 2 rfl) ?_
  refine lv_iload hx hb dX0_payWhatThereIs_40 (lv_at hl 0 rfl) ?_
  obtain ⟨q42, hq42, h⟩ := fo_bd_some h
  refine gc_vV (b := a 19) (C := RX6) (As := [.int v1, .int (if q6 < v3 then q6 else v3)]) (rest := []) (wc := (wd_R cI (fun k => a (k + 19)) 0 4 ((ms_set (ms_set S 6 q22) 6 q32) 8))) (w1 := (wd_R cI (fun k => a (k + 19)) 0 4 q42)) (ci := 5) (q0 := 0) ⟨hx, hb, hml, hown, hts⟩ (c6_add l (a := (fun k => a (k + 19))) (v := 0) (z := 4) hq42) (cwV 2 hts gv_X0_131 rfl rfl rfl hd6_add ⟨Nat.le_of_ble_eq_true rfl, Nat.le_of_ble_eq_true rfl⟩) hK [0] rfl hA hG [19, 20] rfl rfl rfl rfl rfl rfl hl.1 rfl (Nat.le_of_ble_eq_true rfl) dX0_payWhatThereIs_42 ⟨Nat.zero_le _, Nat.zero_le _⟩ (fun H locs hG9 => ?_)
  have hG : gd_W (dC, dI) A s (wd_B cI a (ms_set (ms_set (ms_set S 6 q22) 6 q32) 8 q42)) H locs := hG9
  refine lv_aload_n hx hb dX0_payWhatThereIs_45 rfl (lv_at hl 1 rfl) ?_
  refine va_get (D := (dC, dI)) (ci := 0) (v := .ref (a 21)) (C := RX0) (T := TX0) (N := 15) hx hb hts inlX0 hown hK hG.1 0 rfl rfl 6 (by decide) (hts (Cond.fieldLink RX0 43 "DiceRoads$Board" "tollsGot" "LDiceRoads$Row;") wq_96) (fun _ h9 => h9) rfl dX0_payWhatThereIs_46 ?_
  refine lv_iload_n hx hb dX0_payWhatThereIs_49 rfl (lv_at hl 3 rfl) ?_
  refine lv_iload hx hb dX0_payWhatThereIs_50 (lv_at hl 0 rfl) ?_
  obtain ⟨q52, hq52, h⟩ := fo_bd_some h
  refine gc_vV (b := a 21) (C := RX6) (As := [.int v2, .int (if q6 < v3 then q6 else v3)]) (rest := []) (wc := (wd_R cI (fun k => a (k + 21)) 0 4 ((ms_set (ms_set (ms_set S 6 q22) 6 q32) 8 q42) 9))) (w1 := (wd_R cI (fun k => a (k + 21)) 0 4 q52)) (ci := 5) (q0 := 0) ⟨hx, hb, hml, hown, hts⟩ (c6_add l (a := (fun k => a (k + 21))) (v := 0) (z := 4) hq52) (cwV 2 hts gv_X0_131 rfl rfl rfl hd6_add ⟨Nat.le_of_ble_eq_true rfl, Nat.le_of_ble_eq_true rfl⟩) hK [0] rfl hA hG [21, 22] rfl rfl rfl rfl rfl rfl hl.1 rfl (Nat.le_of_ble_eq_true rfl) dX0_payWhatThereIs_52 ⟨Nat.zero_le _, Nat.zero_le _⟩ (fun H locs hG9 => ?_)
  have hG : gd_W (dC, dI) A s (wd_B cI a (ms_set (ms_set (ms_set (ms_set S 6 q22) 6 q32) 8 q42) 9 q52)) H locs := hG9
  refine lv_iload hx hb dX0_payWhatThereIs_55 (lv_at hl 0 rfl) ?_
  obtain rfl := Option.some.inj h
  exact gr_i hx hb hr hlocks hK hG rfl dX0_payWhatThereIs_57
set_option maxRecDepth 100000 in
set_option maxHeartbeats 4000000 in
theorem c0_payWhatThereIs (l : Launch) {dC : Nat → ClassId} {dI : Nat → Nat → Nat} {cI : ClassId} {a : Nat → Nat} {v1 : Int32} {v2 : Int32} {v3 : Int32} {S : ms_T} {q : (Int32 × ms_T)} (h : f0_payWhatThereIs v1 v2 v3 S = some q) : mi_M l yX0_payWhatThereIs wm0_payWhatThereIs RM0_payWhatThereIs (dC, dI) [(cI, .int)] [.ref (a 0), .int v1, .int v2, .int v3] (wd_B cI a S) q.1 (wd_B cI a q.2) := by
  intro sz
  refine Met.ofW (cc := cX0_payWhatThereIs) (maxL := 5) (ret := (some .int)) (by decide) rfl ?_
  intro p e s m args below meth c s₁ B hml hv
  obtain ⟨rfl, hsz, hP, hK, hD0⟩ := hv
  subst hsz
  have hl := lv_entry ([.ref (a 0), .int v1, .int v2, .int v3] : List Value) (n := 5) (Nat.le_of_ble_eq_true rfl)
  rw [lg_entry_eq]
  generalize (lg_sl ([.ref (a 0), .int v1, .int v2, .int v3] : List Value) ++ List.replicate (5 - (lg_sl ([.ref (a 0), .int v1, .int v2, .int v3] : List Value)).length) Slot.unset).toArray = ls at hl ⊢
  exact w0_payWhatThereIs (a := a) ⟨B.exec, B.bytes, B.returns, fun w hw => atoms_spec (ws := wm0_payWhatThereIs) B.pre w (List.mem_cons_of_mem _ hw), findClass_of_methodNamed B.named, B.notSynchronized, hml⟩ hK (fun _ h => Or.inr h) h ⟨hP, hD0.self, va_S.rf⟩ hl
end
/-! ## DiceRoads$Board.payDebts(I)V -/
section
variable {p : Program} {l : Launch} {e : Env} {s : State} {m : MethodId} {args : Array Value} {below : List Frame} {meth : Method} {c : Code} {dC : Nat → ClassId} {dI : Nat → Nat → Nat} {cI : ClassId} {A : Nat → Prop}
set_option maxRecDepth 100000 in
set_option maxHeartbeats 4000000 in
theorem w0_payDebts_b2 (C : cx_M p s m args meth c RX0 cX0_payDebts none 5) (hK : va_K (dC, dI) vwCl [(cI, .int)] s) (hA : ∀ q, s.heap.size ≤ q → A q) {a : Nat → Nat} {q : ms_T} {rec2 : Int32 → Int32 → ms_T → Option ms_T} (hrec2 : ∀ {v1 : Int32} {v2 : Int32} {S : ms_T} , rec2 v1 v2 S = some q → ∀ {H : Heap} {locs : List Loc} {ls : Array Slot}, gd_W (dC, dI) A s (wd_B cI a S) H locs → lv_has ls 5 [(0, .ref (a 0)), (1, .int v1), (2, .int v2)] → W p l e RM0_payDebts s m args below meth c H locs 0 0 (MQ below (qv_W (dC, dI) [(cI, .int)] A (wd_B cI a q)) args s 0 0 A) (F0 m 2 ls [])) {v1 : Int32} {v2 : Int32} {S : ms_T} (h : f0_payDebts_b2 rec2 v1 v2 S = some q) {H : Heap} {locs : List Loc} {ls : Array Slot} (hG : gd_W (dC, dI) A s (wd_B cI a S) H locs) (hl : lv_has ls 5 [(0, .ref (a 0)), (1, .int v1), (2, .int v2)]) : W p l e RM0_payDebts s m args below meth c H locs 0 0 (MQ below (qv_W (dC, dI) [(cI, .int)] A (wd_B cI a q)) args s 0 0 A) (F0 m 2 ls []) := by
  unfold f0_payDebts_b2 at h
  obtain ⟨hx, hb, hr, hts, hown, hlocks, hml⟩ := id C
  refine lv_iload_n hx hb dX0_payDebts_2 rfl (lv_at hl 2 rfl) ?_
  refine lv_iconst (v := (4 : Int32)) hx hb dX0_payDebts_3 (by decide) ?_
  refine lv_icmp_ge (tgt := 68) hx hb dX0_payDebts_4 (by decide) (fun hc => ?_) (fun hc => ?_)
  · have h := fo_it h hc
    obtain rfl := Option.some.inj h
    exact gr_v hx hb hr hlocks hK hG dX0_payDebts_68
  · have h := fo_if h hc
    refine lv_aload_n hx hb dX0_payDebts_7 rfl (lv_at hl 0 rfl) ?_
    refine va_get (D := (dC, dI)) (ci := 0) (v := .ref (a 15)) (C := RX0) (T := TX0) (N := 15) hx hb hts inlX0 hown hK hG.1 0 rfl rfl 3 (by decide) (hts (Cond.fieldLink RX0 34 "DiceRoads$Board" "purses" "LDiceRoads$Row;") wq_93) (fun _ h9 => h9) rfl dX0_payDebts_8 ?_
    refine lv_iload_n hx hb dX0_payDebts_11 rfl (lv_at hl 1 rfl) ?_
    obtain ⟨q12, hq12, h⟩ := fo_bd_some h
    refine gc_iV (b := a 15) (C := RX6) (As := [.int v1]) (rest := []) (wc := (wd_R cI (fun k => a (k + 15)) 0 4 (S 6))) (w1 := (wd_R cI (fun k => a (k + 15)) 0 4 (S 6))) (ci := 5) (q0 := 0) ⟨hx, hb, hml, hown, hts⟩ (c6_at l (a := (fun k => a (k + 15))) (v := 0) (z := 4) hq12) (cwV 1 hts gv_X0_94 rfl rfl rfl hd6_at ⟨Nat.le_of_ble_eq_true rfl, Nat.le_of_ble_eq_true rfl⟩) hK [0] rfl hA hG [15, 16] rfl rfl rfl rfl rfl rfl hl.1 rfl (Nat.le_of_ble_eq_true rfl) dX0_payDebts_12 ⟨Nat.zero_le _, Nat.zero_le _⟩ (fun H locs hG9 => ?_)
    have hG : gd_W (dC, dI) A s (wd_B cI a S) H locs := hG9
    refine lv_if_le (tgt := 68) hx hb dX0_payDebts_15 (by decide) (fun hc => ?_) (fun hc => ?_)
    · have h := fo_it h hc
      obtain rfl := Option.some.inj h
      exact gr_v hx hb hr hlocks hK hG dX0_payDebts_68
    · have h := fo_if h hc
      refine lv_aload_n hx hb dX0_payDebts_18 rfl (lv_at hl 0 rfl) ?_
      refine va_get (D := (dC, dI)) (ci := 0) (v := .ref (a 6)) (C := RX0) (T := TX0) (N := 15) hx hb hts inlX0 hown hK hG.1 0 rfl rfl 1 (by decide) (hts (Cond.fieldLink RX0 21 "DiceRoads$Board" "debts" "LDiceRoads$Debts;") wq_90) (fun _ h9 => h9) rfl dX0_payDebts_19 ?_
      refine lv_iload_n hx hb dX0_payDebts_22 rfl (lv_at hl 1 rfl) ?_
      obtain ⟨q23, hq23, h⟩ := fo_bd_some h
      refine gc_iV (b := a 6) (C := RX1) (As := [.int v1]) (rest := []) (wc := (wd_D cI (fun k => a (k + 6)) (ms_from S 2))) (w1 := (wd_D cI (fun k => a (k + 6)) (ms_from S 2))) (ci := 1) (q0 := 0) ⟨hx, hb, hml, hown, hts⟩ (c1_oldestOf l (a := (fun k => a (k + 6))) hq23) (cwV 1 hts gv_X0_134 rfl rfl rfl hd1_oldestOf ⟨Nat.le_of_ble_eq_true rfl, Nat.le_of_ble_eq_true rfl⟩) hK [0] rfl hA hG [6, 7, 8, 9, 10, 11, 12] rfl rfl rfl rfl rfl rfl hl.1 rfl (Nat.le_of_ble_eq_true rfl) dX0_payDebts_23 ⟨Nat.zero_le _, Nat.zero_le _⟩ (fun H locs hG9 => ?_)
      have hG : gd_W (dC, dI) A s (wd_B cI a S) H locs := hG9
      refine lv_istore_n (lv' := [(3, .int q23), (0, .ref (a 0)), (1, .int v1), (2, .int v2)]) hx hb dX0_payDebts_26 rfl hl (by decide) rfl (fun ls hl => ?_)
      refine lv_iload_n hx hb dX0_payDebts_27 rfl (lv_at hl 0 rfl) ?_
      refine lv_bipush (v := (-6 : Int32)) hx hb dX0_payDebts_28 (by decide) ?_
      refine lv_icmp_ne (tgt := 34) hx hb dX0_payDebts_30 (by decide) (fun hc => ?_) (fun hc => ?_)
      · have h := fo_if h hc
        refine lv_aload_n hx hb dX0_payDebts_34 rfl (lv_at hl 1 rfl) ?_
        refine lv_iload_n hx hb dX0_payDebts_35 rfl (lv_at hl 2 rfl) ?_
        refine lv_iload_n hx hb dX0_payDebts_36 rfl (lv_at hl 0 rfl) ?_
        refine lv_aload_n hx hb dX0_payDebts_37 rfl (lv_at hl 1 rfl) ?_
        refine va_get (D := (dC, dI)) (ci := 0) (v := .ref (a 6)) (C := RX0) (T := TX0) (N := 15) hx hb hts inlX0 hown hK hG.1 0 rfl rfl 1 (by decide) (hts (Cond.fieldLink RX0 21 "DiceRoads$Board" "debts" "LDiceRoads$Debts;") wq_90) (fun _ h9 => h9) rfl dX0_payDebts_38 ?_
        refine lv_iload_n hx hb dX0_payDebts_41 rfl (lv_at hl 2 rfl) ?_
        refine lv_iload_n hx hb dX0_payDebts_42 rfl (lv_at hl 0 rfl) ?_
        obtain ⟨q43, hq43, h⟩ := fo_bd_some h
        refine gc_iV (b := a 6) (C := RX1) (As := [.int v1, .int q23]) (rest := [.int q23, .int v1, .ref (a 0)]) (wc := (wd_D cI (fun k => a (k + 6)) (ms_from S 2))) (w1 := (wd_D cI (fun k => a (k + 6)) (ms_from S 2))) (ci := 1) (q0 := 0) ⟨hx, hb, hml, hown, hts⟩ (c1_coinsOf l (a := (fun k => a (k + 6))) hq43) (cwV 2 hts gv_X0_137 rfl rfl rfl hd1_coinsOf ⟨Nat.le_of_ble_eq_true rfl, Nat.le_of_ble_eq_true rfl⟩) hK [0] rfl hA hG [6, 7, 8, 9, 10, 11, 12] rfl rfl rfl rfl rfl rfl hl.1 rfl (Nat.le_of_ble_eq_true rfl) dX0_payDebts_43 ⟨Nat.zero_le _, Nat.zero_le _⟩ (fun H locs hG9 => ?_)
        have hG : gd_W (dC, dI) A s (wd_B cI a S) H locs := hG9
        obtain ⟨q46, hq46, h⟩ := fo_bd_some h
        refine gs_iV (b := a 0) (C := RX0) (As := [.int v1, .int q23, .int q43]) (rest := []) (w1 := (wd_B cI a q46.2)) (ci := 0) (q0 := 0) ⟨hx, hb, hml, hown, hts⟩ (c0_payWhatThereIs l (a := a) hq46) (cwV 3 hts gv_X0_141 rfl rfl rfl hd0_payWhatThereIs ⟨Nat.le_of_ble_eq_true rfl, Nat.le_of_ble_eq_true rfl⟩) hK hA hG rfl rfl rfl hl.1 rfl (Nat.le_of_ble_eq_true rfl) dX0_payDebts_46 ⟨Nat.zero_le _, Nat.zero_le _⟩ (fun H locs hG9 => ?_)
        have hG : gd_W (dC, dI) A s (wd_B cI a q46.2) H locs := hG9
        refine lv_istore (lv' := [(4, .int q46.1), (3, .int q23), (0, .ref (a 0)), (1, .int v1), (2, .int v2)]) hx hb dX0_payDebts_49 hl (by decide) rfl (fun ls hl => ?_)
        refine lv_aload_n hx hb dX0_payDebts_51 rfl (lv_at hl 2 rfl) ?_
        refine va_get (D := (dC, dI)) (ci := 0) (v := .ref (a 6)) (C := RX0) (T := TX0) (N := 15) hx hb hts inlX0 hown hK hG.1 0 rfl rfl 1 (by decide) (hts (Cond.fieldLink RX0 21 "DiceRoads$Board" "debts" "LDiceRoads$Debts;") wq_90) (fun _ h9 => h9) rfl dX0_payDebts_52 ?_
        refine lv_iload_n hx hb dX0_payDebts_55 rfl (lv_at hl 3 rfl) ?_
        refine lv_iload_n hx hb dX0_payDebts_56 rfl (lv_at hl 1 rfl) ?_
        refine lv_iload hx hb dX0_payDebts_57 (lv_at hl 0 rfl) ?_
        obtain ⟨q59, hq59, h⟩ := fo_bd_some h
        refine gc_vV (b := a 6) (C := RX1) (As := [.int v1, .int q23, .int q46.1]) (rest := []) (wc := (wd_D cI (fun k => a (k + 6)) (ms_from q46.2 2))) (w1 := (wd_D cI (fun k => a (k + 6)) q59)) (ci := 1) (q0 := 0) ⟨hx, hb, hml, hown, hts⟩ (c1_shrink l (a := (fun k => a (k + 6))) hq59) (cwV 3 hts gv_X0_145 rfl rfl rfl hd1_shrink ⟨Nat.le_of_ble_eq_true rfl, Nat.le_of_ble_eq_true rfl⟩) hK [0] rfl hA hG [6, 7, 8, 9, 10, 11, 12] rfl rfl rfl rfl rfl rfl hl.1 rfl (Nat.le_of_ble_eq_true rfl) dX0_payDebts_59 ⟨Nat.zero_le _, Nat.zero_le _⟩ (fun H locs hG9 => ?_)
        have hG : gd_W (dC, dI) A s (wd_B cI a (ms_sub q46.2 2 3 q59)) H locs := hG9
        refine lv_iinc (v := (v2 + (1 : Int32))) (lv' := [(2, .int (v2 + (1 : Int32))), (4, .int q46.1), (3, .int q23), (0, .ref (a 0)), (1, .int v1)]) hx hb dX0_payDebts_62 hl (k := 4) rfl rfl (by decide) rfl (fun ls hl => ?_)
        refine lv_goto (tgt := 2) hx hb dX0_payDebts_65 (by decide) ?_
        exact hrec2 h hG (lv_sub hl [3, 4, 0] rfl)
      · have h := fo_it h hc
        obtain rfl := Option.some.inj h
        exact gr_v hx hb hr hlocks hK hG dX0_payDebts_33
set_option maxRecDepth 100000 in
set_option maxHeartbeats 4000000 in
theorem w0_payDebts_L2 (C : cx_M p s m args meth c RX0 cX0_payDebts none 5) (hK : va_K (dC, dI) vwCl [(cI, .int)] s) (hA : ∀ q, s.heap.size ≤ q → A q) {a : Nat → Nat} {q : ms_T} : ∀ (n : Nat) {v1 : Int32} {v2 : Int32} {S : ms_T}, f0_payDebts_L2 n v1 v2 S = some q → ∀ {H : Heap} {locs : List Loc} {ls : Array Slot}, gd_W (dC, dI) A s (wd_B cI a S) H locs → lv_has ls 5 [(0, .ref (a 0)), (1, .int v1), (2, .int v2)] → W p l e RM0_payDebts s m args below meth c H locs 0 0 (MQ below (qv_W (dC, dI) [(cI, .int)] A (wd_B cI a q)) args s 0 0 A) (F0 m 2 ls []) := by
  intro n
  induction n with
  | zero => intro _ _ _ h; exact nomatch h
  | succ n ih => intro v1 v2 S h H locs ls hG hl; exact w0_payDebts_b2 C hK hA (fun h => ih h) (show f0_payDebts_b2 (f0_payDebts_L2 n) v1 v2 S = some q from h) hG hl
set_option maxRecDepth 100000 in
set_option maxHeartbeats 4000000 in
theorem w0_payDebts (C : cx_M p s m args meth c RX0 cX0_payDebts none 5) (hK : va_K (dC, dI) vwCl [(cI, .int)] s) (hA : ∀ q, s.heap.size ≤ q → A q) {a : Nat → Nat} {q : ms_T} {v1 : Int32} {S : ms_T} (h : f0_payDebts v1 S = some q) {H : Heap} {locs : List Loc} {ls : Array Slot} (hG : gd_W (dC, dI) A s (wd_B cI a S) H locs) (hl : lv_has ls 5 [(0, .ref (a 0)), (1, .int v1)]) : W p l e RM0_payDebts s m args below meth c H locs 0 0 (MQ below (qv_W (dC, dI) [(cI, .int)] A (wd_B cI a q)) args s 0 0 A) (F0 m 0 ls []) := by
  unfold f0_payDebts at h
  obtain ⟨hx, hb, hr, hts, hown, hlocks, hml⟩ := id C
  refine lv_iconst (v := (0 : Int32)) hx hb dX0_payDebts_0 (by decide) ?_
  refine lv_istore_n (lv' := [(2, .int (0 : Int32)), (0, .ref (a 0)), (1, .int v1)]) hx hb dX0_payDebts_1 rfl hl (by decide) rfl (fun ls hl => ?_)
  exact w0_payDebts_L2 C hK hA fo_fu h hG (lv_sub hl [1, 2, 0] rfl)
set_option maxRecDepth 100000 in
set_option maxHeartbeats 4000000 in
theorem c0_payDebts (l : Launch) {dC : Nat → ClassId} {dI : Nat → Nat → Nat} {cI : ClassId} {a : Nat → Nat} {v1 : Int32} {S : ms_T} {q : ms_T} (h : f0_payDebts v1 S = some q) : mv_M l yX0_payDebts wm0_payDebts RM0_payDebts (dC, dI) [(cI, .int)] [.ref (a 0), .int v1] (wd_B cI a S) (wd_B cI a q) := by
  intro sz
  refine Met.ofW (cc := cX0_payDebts) (maxL := 5) (ret := none) (by decide) rfl ?_
  intro p e s m args below meth c s₁ B hml hv
  obtain ⟨rfl, hsz, hP, hK, hD0⟩ := hv
  subst hsz
  have hl := lv_entry ([.ref (a 0), .int v1] : List Value) (n := 5) (Nat.le_of_ble_eq_true rfl)
  rw [lg_entry_eq]
  generalize (lg_sl ([.ref (a 0), .int v1] : List Value) ++ List.replicate (5 - (lg_sl ([.ref (a 0), .int v1] : List Value)).length) Slot.unset).toArray = ls at hl ⊢
  exact w0_payDebts (a := a) ⟨B.exec, B.bytes, B.returns, fun w hw => atoms_spec (ws := wm0_payDebts) B.pre w (List.mem_cons_of_mem _ hw), findClass_of_methodNamed B.named, B.notSynchronized, hml⟩ hK (fun _ h => Or.inr h) h ⟨hP, hD0.self, va_S.rf⟩ hl
end
/-! ## DiceRoads$Board.throwDie()I -/
section
variable {p : Program} {l : Launch} {e : Env} {s : State} {m : MethodId} {args : Array Value} {below : List Frame} {meth : Method} {c : Code} {dC : Nat → ClassId} {dI : Nat → Nat → Nat} {cI : ClassId} {A : Nat → Prop}
set_option maxRecDepth 100000 in
set_option maxHeartbeats 4000000 in
theorem w0_throwDie (C : cx_M p s m args meth c RX0 cX0_throwDie (some .int) 1) (hK : va_K (dC, dI) vwCl [(cI, .int)] s) (hA : ∀ q, s.heap.size ≤ q → A q) {a : Nat → Nat} {q : (Int32 × ms_T)} {S : ms_T} (h : f0_throwDie S = some q) {H : Heap} {locs : List Loc} {ls : Array Slot} (hG : gd_W (dC, dI) A s (wd_B cI a S) H locs) (hl : lv_has ls 1 [(0, .ref (a 0))]) : W p l e RM0_throwDie s m args below meth c H locs 0 0 (MQ below (qi_W (dC, dI) [(cI, .int)] A q.1 (wd_B cI a q.2)) args s 0 0 A) (F0 m 0 ls []) := by
  unfold f0_throwDie at h
  obtain ⟨hx, hb, hr, hts, hown, hlocks, hml⟩ := id C
  refine lv_aload_n hx hb dX0_throwDie_0 rfl (lv_at hl 0 rfl) ?_
  refine lv_bipush (v := (75 : Int32)) hx hb dX0_throwDie_1 (by decide) ?_
  refine lv_aload_n hx hb dX0_throwDie_3 rfl (lv_at hl 0 rfl) ?_
  refine va_get (D := (dC, dI)) (ci := 0) (v := .int (S 12 2)) (C := RX0) (T := TX0) (N := 15) hx hb hts inlX0 hown hK hG.1 0 rfl rfl 11 (by decide) (hts (Cond.fieldLink RX0 59 "DiceRoads$Board" "draw" "I") wq_101) (fun _ h9 => h9) rfl dX0_throwDie_4 ?_
  refine lv_imul hx hb dX0_throwDie_7 ?_
  refine lv_bipush (v := (74 : Int32)) hx hb dX0_throwDie_8 (by decide) ?_
  refine lv_iadd hx hb dX0_throwDie_10 ?_
  refine lv_ldc (v := (65537 : Int32)) hx hb hown (hts (Cond.constant RX0 157 (65537)) wq_309) dX0_throwDie_11 ?_
  refine lv_irem hx hb dX0_throwDie_13 (by decide) ?_
  refine va_put (D := (dC, dI)) (ci := 0) (v := .int ((((75 : Int32) * (S 12 2)) + (74 : Int32)) - (((75 : Int32) * (S 12 2)) + (74 : Int32)) / (65537 : Int32) * (65537 : Int32))) (ty := .int) (C := RX0) (T := TX0) (N := 15) hx hb hts inlX0 tyX0 tyX0_ok nmX0 hown hK hG.1 hG.2.1 hG.2.2 0 rfl rfl 11 (by decide) (hts (Cond.fieldLink RX0 59 "DiceRoads$Board" "draw" "I") wq_101) (fun _ h9 => h9) rfl (by decide +kernel) rfl rfl (Nat.le_of_ble_eq_true rfl) dX0_throwDie_14 (fun H locs hP9 hD9 hS9 => ?_)
  have hG : gd_W (dC, dI) A s (wd_B cI a (ms_set S 12 (upd (S 12) 2 ((((75 : Int32) * (S 12 2)) + (74 : Int32)) - (((75 : Int32) * (S 12 2)) + (74 : Int32)) / (65537 : Int32) * (65537 : Int32))))) H locs := ⟨hP9, hD9, hS9⟩
  refine lv_iconst (v := (1 : Int32)) hx hb dX0_throwDie_17 (by decide) ?_
  refine lv_aload_n hx hb dX0_throwDie_18 rfl (lv_at hl 0 rfl) ?_
  refine va_get (D := (dC, dI)) (ci := 0) (v := .int ((ms_set S 12 (upd (S 12) 2 ((((75 : Int32) * (S 12 2)) + (74 : Int32)) - (((75 : Int32) * (S 12 2)) + (74 : Int32)) / (65537 : Int32) * (65537 : Int32)))) 12 2)) (C := RX0) (T := TX0) (N := 15) hx hb hts inlX0 hown hK hG.1 0 rfl rfl 11 (by decide) (hts (Cond.fieldLink RX0 59 "DiceRoads$Board" "draw" "I") wq_101) (fun _ h9 => h9) rfl dX0_throwDie_19 ?_
  refine lv_bipush (v := (8 : Int32)) hx hb dX0_throwDie_22 (by decide) ?_
  refine lv_idiv hx hb dX0_throwDie_24 (by decide) ?_
  refine lv_bipush (v := (6 : Int32)) hx hb dX0_throwDie_25 (by decide) ?_
  refine lv_irem hx hb dX0_throwDie_27 (by decide) ?_
  refine lv_iadd hx hb dX0_throwDie_28 ?_
  obtain rfl := Option.some.inj h
  exact gr_i hx hb hr hlocks hK hG rfl dX0_throwDie_29
set_option maxRecDepth 100000 in
set_option maxHeartbeats 4000000 in
theorem c0_throwDie (l : Launch) {dC : Nat → ClassId} {dI : Nat → Nat → Nat} {cI : ClassId} {a : Nat → Nat} {S : ms_T} {q : (Int32 × ms_T)} (h : f0_throwDie S = some q) : mi_M l yX0_throwDie wm0_throwDie RM0_throwDie (dC, dI) [(cI, .int)] [.ref (a 0)] (wd_B cI a S) q.1 (wd_B cI a q.2) := by
  intro sz
  refine Met.ofW (cc := cX0_throwDie) (maxL := 1) (ret := (some .int)) (by decide) rfl ?_
  intro p e s m args below meth c s₁ B hml hv
  obtain ⟨rfl, hsz, hP, hK, hD0⟩ := hv
  subst hsz
  have hl := lv_entry ([.ref (a 0)] : List Value) (n := 1) (Nat.le_of_ble_eq_true rfl)
  rw [lg_entry_eq]
  generalize (lg_sl ([.ref (a 0)] : List Value) ++ List.replicate (1 - (lg_sl ([.ref (a 0)] : List Value)).length) Slot.unset).toArray = ls at hl ⊢
  exact w0_throwDie (a := a) ⟨B.exec, B.bytes, B.returns, fun w hw => atoms_spec (ws := wm0_throwDie) B.pre w (List.mem_cons_of_mem _ hw), findClass_of_methodNamed B.named, B.notSynchronized, hml⟩ hK (fun _ h => Or.inr h) h ⟨hP, hD0.self, va_S.rf⟩ hl
end
/-! ## DiceRoads$Board.move(I)V -/
section
variable {p : Program} {l : Launch} {e : Env} {s : State} {m : MethodId} {args : Array Value} {below : List Frame} {meth : Method} {c : Code} {dC : Nat → ClassId} {dI : Nat → Nat → Nat} {cI : ClassId} {A : Nat → Prop}
set_option maxRecDepth 100000 in
set_option maxHeartbeats 4000000 in
theorem w0_move (C : cx_M p s m args meth c RX0 cX0_move none 5) (hK : va_K (dC, dI) vwCl [(cI, .int)] s) (hA : ∀ q, s.heap.size ≤ q → A q) {a : Nat → Nat} {q : ms_T} {v1 : Int32} {S : ms_T} (h : f0_move v1 S = some q) {H : Heap} {locs : List Loc} {ls : Array Slot} (hG : gd_W (dC, dI) A s (wd_B cI a S) H locs) (hl : lv_has ls 5 [(0, .ref (a 0)), (1, .int v1)]) : W p l e RM0_move s m args below meth c H locs 0 0 (MQ below (qv_W (dC, dI) [(cI, .int)] A (wd_B cI a q)) args s 0 0 A) (F0 m 0 ls []) := by
  unfold f0_move at h
  obtain ⟨hx, hb, hr, hts, hown, hlocks, hml⟩ := id C
  refine lv_aload_n hx hb dX0_move_0 rfl (lv_at hl 0 rfl) ?_
  obtain ⟨q1, hq1, h⟩ := fo_bd_some h
  refine gs_iV (b := a 0) (C := RX0) (As := []) (rest := []) (w1 := (wd_B cI a q1.2)) (ci := 0) (q0 := 0) ⟨hx, hb, hml, hown, hts⟩ (c0_throwDie l (a := a) hq1) (cwV 0 hts gv_X0_154 rfl rfl rfl hd0_throwDie ⟨Nat.le_of_ble_eq_true rfl, Nat.le_of_ble_eq_true rfl⟩) hK hA hG rfl rfl rfl hl.1 rfl (Nat.le_of_ble_eq_true rfl) dX0_move_1 ⟨Nat.zero_le _, Nat.zero_le _⟩ (fun H locs hG9 => ?_)
  have hG : gd_W (dC, dI) A s (wd_B cI a q1.2) H locs := hG9
  refine lv_istore_n (lv' := [(2, .int q1.1), (0, .ref (a 0)), (1, .int v1)]) hx hb dX0_move_4 rfl hl (by decide) rfl (fun ls hl => ?_)
  refine lv_aload_n hx hb dX0_move_5 rfl (lv_at hl 1 rfl) ?_
  refine va_get (D := (dC, dI)) (ci := 0) (v := .ref (a 17)) (C := RX0) (T := TX0) (N := 15) hx hb hts inlX0 hown hK hG.1 0 rfl rfl 4 (by decide) (hts (Cond.fieldLink RX0 37 "DiceRoads$Board" "places" "LDiceRoads$Row;") wq_94) (fun _ h9 => h9) rfl dX0_move_6 ?_
  refine lv_iload_n hx hb dX0_move_9 rfl (lv_at hl 2 rfl) ?_
  obtain ⟨q10, hq10, h⟩ := fo_bd_some h
  refine gc_iV (b := a 17) (C := RX6) (As := [.int v1]) (rest := []) (wc := (wd_R cI (fun k => a (k + 17)) 0 4 (q1.2 7))) (w1 := (wd_R cI (fun k => a (k + 17)) 0 4 (q1.2 7))) (ci := 5) (q0 := 0) ⟨hx, hb, hml, hown, hts⟩ (c6_at l (a := (fun k => a (k + 17))) (v := 0) (z := 4) hq10) (cwV 1 hts gv_X0_94 rfl rfl rfl hd6_at ⟨Nat.le_of_ble_eq_true rfl, Nat.le_of_ble_eq_true rfl⟩) hK [0] rfl hA hG [17, 18] rfl rfl rfl rfl rfl rfl hl.1 rfl (Nat.le_of_ble_eq_true rfl) dX0_move_10 ⟨Nat.zero_le _, Nat.zero_le _⟩ (fun H locs hG9 => ?_)
  have hG : gd_W (dC, dI) A s (wd_B cI a q1.2) H locs := hG9
  refine lv_iload_n hx hb dX0_move_13 rfl (lv_at hl 0 rfl) ?_
  refine lv_iadd hx hb dX0_move_14 ?_
  refine lv_aload_n hx hb dX0_move_15 rfl (lv_at hl 1 rfl) ?_
  obtain ⟨q16, hq16, h⟩ := fo_bd_some h
  refine gs_iV (b := a 0) (C := RX0) (As := []) (rest := [.int (q10 + q1.1)]) (w1 := (wd_B cI a q16.2)) (ci := 0) (q0 := 0) ⟨hx, hb, hml, hown, hts⟩ (c0_throwDie l (a := a) hq16) (cwV 0 hts gv_X0_154 rfl rfl rfl hd0_throwDie ⟨Nat.le_of_ble_eq_true rfl, Nat.le_of_ble_eq_true rfl⟩) hK hA hG rfl rfl rfl hl.1 rfl (Nat.le_of_ble_eq_true rfl) dX0_move_16 ⟨Nat.zero_le _, Nat.zero_le _⟩ (fun H locs hG9 => ?_)
  have hG : gd_W (dC, dI) A s (wd_B cI a q16.2) H locs := hG9
  refine lv_iadd hx hb dX0_move_19 ?_
  refine lv_istore_n (lv' := [(3, .int ((q10 + q1.1) + q16.1)), (2, .int q1.1), (0, .ref (a 0)), (1, .int v1)]) hx hb dX0_move_20 rfl hl (by decide) rfl (fun ls hl => ?_)
  refine lv_iload_n hx hb dX0_move_21 rfl (lv_at hl 0 rfl) ?_
  refine lv_bipush (v := (20 : Int32)) hx hb dX0_move_22 (by decide) ?_
  refine lv_idiv hx hb dX0_move_24 (by decide) ?_
  refine lv_aload_n hx hb dX0_move_25 rfl (lv_at hl 2 rfl) ?_
  refine va_get (D := (dC, dI)) (ci := 0) (v := .ref (a 13)) (C := RX0) (T := TX0) (N := 15) hx hb hts inlX0 hown hK hG.1 0 rfl rfl 2 (by decide) (hts (Cond.fieldLink RX0 30 "DiceRoads$Board" "settings" "LDiceRoads$Row;") wq_92) (fun _ h9 => h9) rfl dX0_move_26 ?_
  refine lv_iconst (v := (0 : Int32)) hx hb dX0_move_29 (by decide) ?_
  obtain ⟨q30, hq30, h⟩ := fo_bd_some h
  refine gc_iV (b := a 13) (C := RX6) (As := [.int (0 : Int32)]) (rest := [.int (((q10 + q1.1) + q16.1) / (20 : Int32))]) (wc := (wd_R cI (fun k => a (k + 13)) 0 5 (q16.2 5))) (w1 := (wd_R cI (fun k => a (k + 13)) 0 5 (q16.2 5))) (ci := 5) (q0 := 0) ⟨hx, hb, hml, hown, hts⟩ (c6_at l (a := (fun k => a (k + 13))) (v := 0) (z := 5) hq30) (cwV 1 hts gv_X0_94 rfl rfl rfl hd6_at ⟨Nat.le_of_ble_eq_true rfl, Nat.le_of_ble_eq_true rfl⟩) hK [0] rfl hA hG [13, 14] rfl rfl rfl rfl rfl rfl hl.1 rfl (Nat.le_of_ble_eq_true rfl) dX0_move_30 ⟨Nat.zero_le _, Nat.zero_le _⟩ (fun H locs hG9 => ?_)
  have hG : gd_W (dC, dI) A s (wd_B cI a q16.2) H locs := hG9
  refine lv_imul hx hb dX0_move_33 ?_
  refine lv_istore (lv' := [(4, .int ((((q10 + q1.1) + q16.1) / (20 : Int32)) * q30)), (3, .int ((q10 + q1.1) + q16.1)), (2, .int q1.1), (0, .ref (a 0)), (1, .int v1)]) hx hb dX0_move_34 hl (by decide) rfl (fun ls hl => ?_)
  refine lv_aload_n hx hb dX0_move_36 rfl (lv_at hl 3 rfl) ?_
  refine va_get (D := (dC, dI)) (ci := 0) (v := .ref (a 17)) (C := RX0) (T := TX0) (N := 15) hx hb hts inlX0 hown hK hG.1 0 rfl rfl 4 (by decide) (hts (Cond.fieldLink RX0 37 "DiceRoads$Board" "places" "LDiceRoads$Row;") wq_94) (fun _ h9 => h9) rfl dX0_move_37 ?_
  refine lv_iload_n hx hb dX0_move_40 rfl (lv_at hl 4 rfl) ?_
  refine lv_iload_n hx hb dX0_move_41 rfl (lv_at hl 1 rfl) ?_
  refine lv_bipush (v := (20 : Int32)) hx hb dX0_move_42 (by decide) ?_
  refine lv_irem hx hb dX0_move_44 (by decide) ?_
  obtain ⟨q45, hq45, h⟩ := fo_bd_some h
  refine gc_vV (b := a 17) (C := RX6) (As := [.int v1, .int (((q10 + q1.1) + q16.1) - ((q10 + q1.1) + q16.1) / (20 : Int32) * (20 : Int32))]) (rest := []) (wc := (wd_R cI (fun k => a (k + 17)) 0 4 (q16.2 7))) (w1 := (wd_R cI (fun k => a (k + 17)) 0 4 q45)) (ci := 5) (q0 := 0) ⟨hx, hb, hml, hown, hts⟩ (c6_write l (a := (fun k => a (k + 17))) (v := 0) (z := 4) hq45) (cwV 2 hts gv_X0_75 rfl rfl rfl hd6_write ⟨Nat.le_of_ble_eq_true rfl, Nat.le_of_ble_eq_true rfl⟩) hK [0] rfl hA hG [17, 18] rfl rfl rfl rfl rfl rfl hl.1 rfl (Nat.le_of_ble_eq_true rfl) dX0_move_45 ⟨Nat.zero_le _, Nat.zero_le _⟩ (fun H locs hG9 => ?_)
  have hG : gd_W (dC, dI) A s (wd_B cI a (ms_set q16.2 7 q45)) H locs := hG9
  refine lv_aload_n hx hb dX0_move_48 rfl (lv_at hl 3 rfl) ?_
  refine va_get (D := (dC, dI)) (ci := 0) (v := .ref (a 15)) (C := RX0) (T := TX0) (N := 15) hx hb hts inlX0 hown hK hG.1 0 rfl rfl 3 (by decide) (hts (Cond.fieldLink RX0 34 "DiceRoads$Board" "purses" "LDiceRoads$Row;") wq_93) (fun _ h9 => h9) rfl dX0_move_49 ?_
  refine lv_iload_n hx hb dX0_move_52 rfl (lv_at hl 4 rfl) ?_
  refine lv_iload hx hb dX0_move_53 (lv_at hl 0 rfl) ?_
  obtain ⟨q55, hq55, h⟩ := fo_bd_some h
  refine gc_vV (b := a 15) (C := RX6) (As := [.int v1, .int ((((q10 + q1.1) + q16.1) / (20 : Int32)) * q30)]) (rest := []) (wc := (wd_R cI (fun k => a (k + 15)) 0 4 ((ms_set q16.2 7 q45) 6))) (w1 := (wd_R cI (fun k => a (k + 15)) 0 4 q55)) (ci := 5) (q0 := 0) ⟨hx, hb, hml, hown, hts⟩ (c6_add l (a := (fun k => a (k + 15))) (v := 0) (z := 4) hq55) (cwV 2 hts gv_X0_131 rfl rfl rfl hd6_add ⟨Nat.le_of_ble_eq_true rfl, Nat.le_of_ble_eq_true rfl⟩) hK [0] rfl hA hG [15, 16] rfl rfl rfl rfl rfl rfl hl.1 rfl (Nat.le_of_ble_eq_true rfl) dX0_move_55 ⟨Nat.zero_le _, Nat.zero_le _⟩ (fun H locs hG9 => ?_)
  have hG : gd_W (dC, dI) A s (wd_B cI a (ms_set (ms_set q16.2 7 q45) 6 q55)) H locs := hG9
  refine lv_aload_n hx hb dX0_move_58 rfl (lv_at hl 3 rfl) ?_
  refine lv_dup hx hb dX0_move_59 rfl ?_
  refine va_get (D := (dC, dI)) (ci := 0) (v := .int ((ms_set (ms_set q16.2 7 q45) 6 q55) 12 5)) (C := RX0) (T := TX0) (N := 15) hx hb hts inlX0 hown hK hG.1 0 rfl rfl 14 (by decide) (hts (Cond.fieldLink RX0 68 "DiceRoads$Board" "wages" "I") wq_104) (fun _ h9 => h9) rfl dX0_move_60 ?_
  refine lv_iload hx hb dX0_move_63 (lv_at hl 0 rfl) ?_
  refine lv_iadd hx hb dX0_move_65 ?_
  refine va_put (D := (dC, dI)) (ci := 0) (v := .int (((ms_set (ms_set q16.2 7 q45) 6 q55) 12 5) + ((((q10 + q1.1) + q16.1) / (20 : Int32)) * q30))) (ty := .int) (C := RX0) (T := TX0) (N := 15) hx hb hts inlX0 tyX0 tyX0_ok nmX0 hown hK hG.1 hG.2.1 hG.2.2 0 rfl rfl 14 (by decide) (hts (Cond.fieldLink RX0 68 "DiceRoads$Board" "wages" "I") wq_104) (fun _ h9 => h9) rfl (by decide +kernel) rfl rfl (Nat.le_of_ble_eq_true rfl) dX0_move_66 (fun H locs hP9 hD9 hS9 => ?_)
  have hG : gd_W (dC, dI) A s (wd_B cI a (ms_set (ms_set (ms_set q16.2 7 q45) 6 q55) 12 (upd ((ms_set (ms_set q16.2 7 q45) 6 q55) 12) 5 (((ms_set (ms_set q16.2 7 q45) 6 q55) 12 5) + ((((q10 + q1.1) + q16.1) / (20 : Int32)) * q30))))) H locs := ⟨hP9, hD9, hS9⟩
  obtain rfl := Option.some.inj h
  exact gr_v hx hb hr hlocks hK hG dX0_move_69
set_option maxRecDepth 100000 in
set_option maxHeartbeats 4000000 in
theorem c0_move (l : Launch) {dC : Nat → ClassId} {dI : Nat → Nat → Nat} {cI : ClassId} {a : Nat → Nat} {v1 : Int32} {S : ms_T} {q : ms_T} (h : f0_move v1 S = some q) : mv_M l yX0_move wm0_move RM0_move (dC, dI) [(cI, .int)] [.ref (a 0), .int v1] (wd_B cI a S) (wd_B cI a q) := by
  intro sz
  refine Met.ofW (cc := cX0_move) (maxL := 5) (ret := none) (by decide) rfl ?_
  intro p e s m args below meth c s₁ B hml hv
  obtain ⟨rfl, hsz, hP, hK, hD0⟩ := hv
  subst hsz
  have hl := lv_entry ([.ref (a 0), .int v1] : List Value) (n := 5) (Nat.le_of_ble_eq_true rfl)
  rw [lg_entry_eq]
  generalize (lg_sl ([.ref (a 0), .int v1] : List Value) ++ List.replicate (5 - (lg_sl ([.ref (a 0), .int v1] : List Value)).length) Slot.unset).toArray = ls at hl ⊢
  exact w0_move (a := a) ⟨B.exec, B.bytes, B.returns, fun w hw => atoms_spec (ws := wm0_move) B.pre w (List.mem_cons_of_mem _ hw), findClass_of_methodNamed B.named, B.notSynchronized, hml⟩ hK (fun _ h => Or.inr h) h ⟨hP, hD0.self, va_S.rf⟩ hl
end
