/-! ## DiceRoads$Board.changeSetting(II)I -/
section
variable {p : Program} {l : Launch} {e : Env} {s : State} {m : MethodId} {args : Array Value} {below : List Frame} {meth : Method} {c : Code} {dC : Nat → ClassId} {dI : Nat → Nat → Nat} {cI cB : ClassId} {A : Nat → Prop}
set_option maxRecDepth 100000 in
set_option maxHeartbeats 4000000 in
theorem w0_changeSetting (C : cx_M p s m args meth c RX0 cX0_changeSetting (some .int) 4) (hK : va_K (dC, dI) vwCl [(cI, .int)] s) (hA : ∀ q, s.heap.size ≤ q → A q) {t1 t2 t3 : Nat} (hF : sn_W t1 t2 t3 A s s.heap) {a : Nat → Nat} {q : (Int32 × ms_T)} {v1 : Int32} {v2 : Int32} {S : ms_T} (h : f0_changeSetting v1 v2 S = some q) {H : Heap} {locs : List Loc} {ls : Array Slot} (hG : gd_W (dC, dI) A s (wd_B cI a S) H locs) (hl : lv_has ls 4 [(0, .ref (a 0)), (1, .int v1), (2, .int v2)]) : W p l e RM0_changeSetting s m args below meth c H locs 0 0 (MQ below (qi_W (dC, dI) [(cI, .int)] A q.1 (wd_B cI a q.2)) args s 0 0 A) (F0 m 0 ls []) := by
  unfold f0_changeSetting at h
  obtain ⟨hx, hb, hr, hts, hown, hlocks, hml⟩ := id C
  refine lv_iload_n hx hb dX0_changeSetting_0 rfl (lv_at hl 1 rfl) ?_
  refine lv_if_lt (tgt := 20) hx hb dX0_changeSetting_1 (by decide) (fun hc => ?_) (fun hc => ?_)
  · have h := fo_it h hc
    refine lv_bipush (v := (-2 : Int32)) hx hb dX0_changeSetting_20 (by decide) ?_
    obtain rfl := Option.some.inj h
    exact gr_i hx hb hr hlocks hK hG rfl dX0_changeSetting_22
  · have h := fo_if h hc
    refine lv_iload_n hx hb dX0_changeSetting_4 rfl (lv_at hl 1 rfl) ?_
    refine va_getsN (C := "DiceRoads") (n := "LEAST_VALUES") (d := "[I") (v := .ref t2) hx hb hF.1.2.2.1 hG.2.2 hown (va_Nw.use rfl hF.2.2.1) (fun _ h9 => h9) dX0_changeSetting_5 ?_
    refine va_tlen (v := (5 : Int32)) hx hb hF.1.2.2.2.1 hG.2.2 rfl dX0_changeSetting_8 ?_
    refine lv_icmp_ge (tgt := 20) hx hb dX0_changeSetting_9 (by decide) (fun hc => ?_) (fun hc => ?_)
    · have h := fo_it h hc
      refine lv_bipush (v := (-2 : Int32)) hx hb dX0_changeSetting_20 (by decide) ?_
      obtain rfl := Option.some.inj h
      exact gr_i hx hb hr hlocks hK hG rfl dX0_changeSetting_22
    · have h := fo_if h hc
      refine lv_iload_n hx hb dX0_changeSetting_12 rfl (lv_at hl 1 rfl) ?_
      refine va_getsN (C := "DiceRoads") (n := "MOST_VALUES") (d := "[I") (v := .ref t3) hx hb hF.1.2.2.2.2.1 hG.2.2 hown (va_Nw.use rfl hF.2.2.2.1) (fun _ h9 => h9) dX0_changeSetting_13 ?_
      refine va_tlen (v := (5 : Int32)) hx hb hF.1.2.2.2.2.2 hG.2.2 rfl dX0_changeSetting_16 ?_
      refine lv_icmp_lt (tgt := 23) hx hb dX0_changeSetting_17 (by decide) (fun hc => ?_) (fun hc => ?_)
      · have h := fo_it h hc
        refine lv_iload_n hx hb dX0_changeSetting_23 rfl (lv_at hl 2 rfl) ?_
        refine va_getsN (C := "DiceRoads") (n := "LEAST_VALUES") (d := "[I") (v := .ref t2) hx hb hF.1.2.2.1 hG.2.2 hown (va_Nw.use rfl hF.2.2.1) (fun _ h9 => h9) dX0_changeSetting_24 ?_
        refine lv_iload_n hx hb dX0_changeSetting_27 rfl (lv_at hl 1 rfl) ?_
        obtain ⟨hi, h⟩ := fo_ck_some h
        refine va_ti (v := .int (fv_2 v1.toNatClampNeg)) hx hb hF.1.2.2.2.1 hG.2.2 hi rfl dX0_changeSetting_28 ?_
        refine lv_icmp_lt (tgt := 41) hx hb dX0_changeSetting_29 (by decide) (fun hc => ?_) (fun hc => ?_)
        · have h := fo_it h hc
          refine lv_bipush (v := (-2 : Int32)) hx hb dX0_changeSetting_41 (by decide) ?_
          obtain rfl := Option.some.inj h
          exact gr_i hx hb hr hlocks hK hG rfl dX0_changeSetting_43
        · have h := fo_if h hc
          refine lv_iload_n hx hb dX0_changeSetting_32 rfl (lv_at hl 2 rfl) ?_
          refine va_getsN (C := "DiceRoads") (n := "MOST_VALUES") (d := "[I") (v := .ref t3) hx hb hF.1.2.2.2.2.1 hG.2.2 hown (va_Nw.use rfl hF.2.2.2.1) (fun _ h9 => h9) dX0_changeSetting_33 ?_
          refine lv_iload_n hx hb dX0_changeSetting_36 rfl (lv_at hl 1 rfl) ?_
          obtain ⟨hi, h⟩ := fo_ck_some h
          refine va_ti (v := .int (fv_3 v1.toNatClampNeg)) hx hb hF.1.2.2.2.2.2 hG.2.2 hi rfl dX0_changeSetting_37 ?_
          refine lv_icmp_le (tgt := 44) hx hb dX0_changeSetting_38 (by decide) (fun hc => ?_) (fun hc => ?_)
          · have h := fo_it h hc
            refine lv_aload_n hx hb dX0_changeSetting_44 rfl (lv_at hl 0 rfl) ?_
            refine va_get (D := (dC, dI)) (ci := 0) (v := .ref (a 13)) (C := RX0) (T := TX0) (N := 15) hx hb hts inlX0 hown hK hG.1 0 rfl rfl 2 (by decide) (hts (Cond.fieldLink RX0 30 "DiceRoads$Board" "settings" "LDiceRoads$Row;") wr_92) (fun _ h9 => h9) rfl dX0_changeSetting_45 ?_
            refine lv_iload_n hx hb dX0_changeSetting_48 rfl (lv_at hl 1 rfl) ?_
            obtain ⟨q49, hq49, h⟩ := fo_bd_some h
            refine gc_iV (b := a 13) (C := RX6) (As := [.int v1]) (rest := []) (wc := (wd_R cI (fun k => a (k + 13)) 0 5 (S 5))) (w1 := (wd_R cI (fun k => a (k + 13)) 0 5 (S 5))) (ci := 5) (q0 := 0) ⟨hx, hb, hml, hown, hts⟩ (c6_at l (a := (fun k => a (k + 13))) (v := 0) (z := 5) hq49) (cwV 1 hts gv_X0_94 rfl rfl rfl hd6_at ⟨Nat.le_of_ble_eq_true rfl, Nat.le_of_ble_eq_true rfl⟩) hK [0] rfl hA hG [13, 14] rfl rfl rfl rfl rfl rfl hl.1 rfl (Nat.le_of_ble_eq_true rfl) dX0_changeSetting_49 ⟨Nat.zero_le _, Nat.zero_le _⟩ (fun H locs hG9 => ?_)
            have hG : gd_W (dC, dI) A s (wd_B cI a S) H locs := hG9
            refine lv_istore_n (lv' := [(3, .int q49), (0, .ref (a 0)), (1, .int v1), (2, .int v2)]) hx hb dX0_changeSetting_52 rfl hl (by decide) rfl (fun ls hl => ?_)
            refine lv_aload_n hx hb dX0_changeSetting_53 rfl (lv_at hl 1 rfl) ?_
            refine va_get (D := (dC, dI)) (ci := 0) (v := .ref (a 13)) (C := RX0) (T := TX0) (N := 15) hx hb hts inlX0 hown hK hG.1 0 rfl rfl 2 (by decide) (hts (Cond.fieldLink RX0 30 "DiceRoads$Board" "settings" "LDiceRoads$Row;") wr_92) (fun _ h9 => h9) rfl dX0_changeSetting_54 ?_
            refine lv_iload_n hx hb dX0_changeSetting_57 rfl (lv_at hl 2 rfl) ?_
            refine lv_iload_n hx hb dX0_changeSetting_58 rfl (lv_at hl 3 rfl) ?_
            obtain ⟨q59, hq59, h⟩ := fo_bd_some h
            refine gc_vV (b := a 13) (C := RX6) (As := [.int v1, .int v2]) (rest := []) (wc := (wd_R cI (fun k => a (k + 13)) 0 5 (S 5))) (w1 := (wd_R cI (fun k => a (k + 13)) 0 5 q59)) (ci := 5) (q0 := 0) ⟨hx, hb, hml, hown, hts⟩ (c6_write l (a := (fun k => a (k + 13))) (v := 0) (z := 5) hq59) (cwV 2 hts gv_X0_75 rfl rfl rfl hd6_write ⟨Nat.le_of_ble_eq_true rfl, Nat.le_of_ble_eq_true rfl⟩) hK [0] rfl hA hG [13, 14] rfl rfl rfl rfl rfl rfl hl.1 rfl (Nat.le_of_ble_eq_true rfl) dX0_changeSetting_59 ⟨Nat.zero_le _, Nat.zero_le _⟩ (fun H locs hG9 => ?_)
            have hG : gd_W (dC, dI) A s (wd_B cI a (ms_set S 5 q59)) H locs := hG9
            refine lv_iload_n hx hb dX0_changeSetting_62 rfl (lv_at hl 0 rfl) ?_
            obtain rfl := Option.some.inj h
            exact gr_i hx hb hr hlocks hK hG rfl dX0_changeSetting_63
          · have h := fo_if h hc
            refine lv_bipush (v := (-2 : Int32)) hx hb dX0_changeSetting_41 (by decide) ?_
            obtain rfl := Option.some.inj h
            exact gr_i hx hb hr hlocks hK hG rfl dX0_changeSetting_43
      · have h := fo_if h hc
        refine lv_bipush (v := (-2 : Int32)) hx hb dX0_changeSetting_20 (by decide) ?_
        obtain rfl := Option.some.inj h
        exact gr_i hx hb hr hlocks hK hG rfl dX0_changeSetting_22
set_option maxRecDepth 100000 in
set_option maxHeartbeats 4000000 in
theorem c0_changeSetting (l : Launch) {dC : Nat → ClassId} {dI : Nat → Nat → Nat} {cI : ClassId} {a : Nat → Nat} {t1 t2 t3 : Nat} {v1 : Int32} {v2 : Int32} {S : ms_T} {q : (Int32 × ms_T)} (h : f0_changeSetting v1 v2 S = some q) : ni_M l yX0_changeSetting wm0_changeSetting RM0_changeSetting (dC, dI) [(cI, .int)] t1 t2 t3 [.ref (a 0), .int v1, .int v2] (wd_B cI a S) q.1 (wd_B cI a q.2) := by
  intro sz
  refine Met.ofW (cc := cX0_changeSetting) (maxL := 4) (ret := (some .int)) (by decide) rfl ?_
  intro p e s m args below meth c s₁ B hml hv
  obtain ⟨rfl, ⟨hsz, hP, hK, hD0⟩, hF⟩ := hv
  subst hsz
  have hl := lv_entry ([.ref (a 0), .int v1, .int v2] : List Value) (n := 4) (Nat.le_of_ble_eq_true rfl)
  rw [lg_entry_eq]
  generalize (lg_sl ([.ref (a 0), .int v1, .int v2] : List Value) ++ List.replicate (4 - (lg_sl ([.ref (a 0), .int v1, .int v2] : List Value)).length) Slot.unset).toArray = ls at hl ⊢
  exact w0_changeSetting (a := a) ⟨B.exec, B.bytes, B.returns, fun w hw => atoms_spec (ws := wm0_changeSetting) B.pre w (List.mem_cons_of_mem _ hw), findClass_of_methodNamed B.named, B.notSynchronized, hml⟩ hK (fun _ h => Or.inr h) hF h ⟨hP, hD0.self, va_S.rf⟩ hl
end
/-! ## DiceRoads$History.kept()I -/
section
variable {p : Program} {l : Launch} {e : Env} {s : State} {m : MethodId} {args : Array Value} {below : List Frame} {meth : Method} {c : Code} {dC : Nat → ClassId} {dI : Nat → Nat → Nat} {cI cB : ClassId} {A : Nat → Prop}
set_option maxRecDepth 100000 in
set_option maxHeartbeats 4000000 in
theorem w2_kept (C : cx_M p s m args meth c RX2 cX2_kept (some .int) 1) (hK : va_K (dC, dI) vwCl [(cB, .object "DiceRoads$Board")] s) (hA : ∀ q, s.heap.size ≤ q → A q) {a : Nat → Nat} {yb : Nat → Nat} {q : Int32} {S : ms_T} (h : f2_kept S = some q) {H : Heap} {locs : List Loc} {ls : Array Slot} (hG : gd_W (dC, dI) A s (wd_H cB a yb S) H locs) (hl : lv_has ls 1 [(0, .ref (a 0))]) : W p l e RM2_kept s m args below meth c H locs 0 0 (MQ below (qi_W (dC, dI) [(cB, .object "DiceRoads$Board")] A q (wd_H cB a yb S)) args s 0 0 A) (F0 m 0 ls []) := by
  unfold f2_kept at h
  obtain ⟨hx, hb, hr, hts, hown, hlocks, hml⟩ := id C
  refine lv_aload_n hx hb dX2_kept_0 rfl (lv_at hl 0 rfl) ?_
  refine va_get (D := (dC, dI)) (ci := 2) (v := .int (S 0 1)) (C := RX2) (T := TX2) (N := 3) hx hb hts inlX2 hown hK hG.1 0 rfl rfl 2 (by decide) (hts (Cond.fieldLink RX2 21 "DiceRoads$History" "kept" "I") wr_147) (fun _ h9 => h9) rfl dX2_kept_1 ?_
  exact gr_i hx hb hr hlocks hK hG (Option.some.inj h) dX2_kept_4
set_option maxRecDepth 100000 in
set_option maxHeartbeats 4000000 in
theorem c2_kept (l : Launch) {dC : Nat → ClassId} {dI : Nat → Nat → Nat} {cI : ClassId} {cB : ClassId} {a : Nat → Nat} {yb : Nat → Nat} {S : ms_T} {q : Int32} (h : f2_kept S = some q) : mi_M l yX2_kept wm2_kept RM2_kept (dC, dI) [(cB, .object "DiceRoads$Board")] [.ref (a 0)] (wd_H cB a yb S) q (wd_H cB a yb S) := by
  intro sz
  refine Met.ofW (cc := cX2_kept) (maxL := 1) (ret := (some .int)) (by decide) rfl ?_
  intro p e s m args below meth c s₁ B hml hv
  obtain ⟨rfl, hsz, hP, hK, hD0⟩ := hv
  subst hsz
  have hl := lv_entry ([.ref (a 0)] : List Value) (n := 1) (Nat.le_of_ble_eq_true rfl)
  rw [lg_entry_eq]
  generalize (lg_sl ([.ref (a 0)] : List Value) ++ List.replicate (1 - (lg_sl ([.ref (a 0)] : List Value)).length) Slot.unset).toArray = ls at hl ⊢
  exact w2_kept (a := a) ⟨B.exec, B.bytes, B.returns, fun w hw => atoms_spec (ws := wm2_kept) B.pre w (List.mem_cons_of_mem _ hw), findClass_of_methodNamed B.named, B.notSynchronized, hml⟩ hK (fun _ h => Or.inr h) h ⟨hP, hD0.self, va_S.rf⟩ hl
end
/-! ## DiceRoads$History.keepStaged()V -/
section
variable {p : Program} {l : Launch} {e : Env} {s : State} {m : MethodId} {args : Array Value} {below : List Frame} {meth : Method} {c : Code} {dC : Nat → ClassId} {dI : Nat → Nat → Nat} {cI cB : ClassId} {A : Nat → Prop}
set_option maxRecDepth 100000 in
set_option maxHeartbeats 4000000 in
theorem w2_keepStaged_b20 (C : cx_M p s m args meth c RX2 cX2_keepStaged none 1) (hK : va_K (dC, dI) vwCl [(cB, .object "DiceRoads$Board")] s) (hA : ∀ q, s.heap.size ≤ q → A q) {a : Nat → Nat} {yb : Nat → Nat} {q : ms_T} {t1 : Int32} {S : ms_T} (h : f2_keepStaged_b20 t1 S = some q) {H : Heap} {locs : List Loc} {ls : Array Slot} (hG : gd_W (dC, dI) A s (wd_H cB a yb S) H locs) (hl : lv_has ls 1 [(0, .ref (a 0))]) : W p l e RM2_keepStaged s m args below meth c H locs 0 0 (MQ below (qv_W (dC, dI) [(cB, .object "DiceRoads$Board")] A (wd_H cB a yb q)) args s 0 0 A) (F0 m 20 ls [.int t1, .ref (a 0)]) := by
  unfold f2_keepStaged_b20 at h
  obtain ⟨hx, hb, hr, hts, hown, hlocks, hml⟩ := id C
  refine va_put (D := (dC, dI)) (ci := 2) (v := .int t1) (ty := .int) (C := RX2) (T := TX2) (N := 3) hx hb hts inlX2 tyX2 tyX2_ok nmX2 hown hK hG.1 hG.2.1 hG.2.2 0 rfl rfl 1 (by decide) (hts (Cond.fieldLink RX2 17 "DiceRoads$History" "free" "I") wr_146) (fun _ h9 => h9) rfl (by decide +kernel) rfl rfl (Nat.le_of_ble_eq_true rfl) dX2_keepStaged_20 (fun H locs hP9 hD9 hS9 => ?_)
  have hG : gd_W (dC, dI) A s (wd_H cB a yb (ms_set S 0 (upd (S 0) 0 t1))) H locs := ⟨hP9, hD9, hS9⟩
  refine lv_aload_n hx hb dX2_keepStaged_23 rfl (lv_at hl 0 rfl) ?_
  refine lv_aload_n hx hb dX2_keepStaged_24 rfl (lv_at hl 0 rfl) ?_
  refine va_get (D := (dC, dI)) (ci := 2) (v := .int ((ms_set S 0 (upd (S 0) 0 t1)) 0 1)) (C := RX2) (T := TX2) (N := 3) hx hb hts inlX2 hown hK hG.1 0 rfl rfl 2 (by decide) (hts (Cond.fieldLink RX2 21 "DiceRoads$History" "kept" "I") wr_147) (fun _ h9 => h9) rfl dX2_keepStaged_25 ?_
  refine lv_iconst (v := (1 : Int32)) hx hb dX2_keepStaged_28 (by decide) ?_
  refine lv_iadd hx hb dX2_keepStaged_29 ?_
  refine lv_bipush (v := (6 : Int32)) hx hb dX2_keepStaged_30 (by decide) ?_
  refine va_mmin hx hb (hml.trans hl.1.symm) hown (hts (Cond.methodLink RX2 29 Lib.Math.min.name) wr_238) (hts (Cond.static Lib.Math.min.name) wr_239) (hts (Cond.initialized "java/lang/Math") wr_15) (hts (Cond.code Lib.Math.min.name Lib.Math.min.code 2 (some .int)) wr_240) (Nat.le_of_ble_eq_true rfl) (Nat.le_of_ble_eq_true rfl) (Nat.zero_le _) (Nat.zero_le _) dX2_keepStaged_32 ?_
  refine va_put (D := (dC, dI)) (ci := 2) (v := .int (if (6 : Int32) < (((ms_set S 0 (upd (S 0) 0 t1)) 0 1) + (1 : Int32)) then (6 : Int32) else (((ms_set S 0 (upd (S 0) 0 t1)) 0 1) + (1 : Int32)))) (ty := .int) (C := RX2) (T := TX2) (N := 3) hx hb hts inlX2 tyX2 tyX2_ok nmX2 hown hK hG.1 hG.2.1 hG.2.2 0 rfl rfl 2 (by decide) (hts (Cond.fieldLink RX2 21 "DiceRoads$History" "kept" "I") wr_147) (fun _ h9 => h9) rfl (by decide +kernel) rfl rfl (Nat.le_of_ble_eq_true rfl) dX2_keepStaged_35 (fun H locs hP9 hD9 hS9 => ?_)
  have hG : gd_W (dC, dI) A s (wd_H cB a yb (ms_set (ms_set S 0 (upd (S 0) 0 t1)) 0 (upd ((ms_set S 0 (upd (S 0) 0 t1)) 0) 1 (if (6 : Int32) < (((ms_set S 0 (upd (S 0) 0 t1)) 0 1) + (1 : Int32)) then (6 : Int32) else (((ms_set S 0 (upd (S 0) 0 t1)) 0 1) + (1 : Int32)))))) H locs := ⟨hP9, hD9, hS9⟩
  obtain rfl := Option.some.inj h
  exact gr_v hx hb hr hlocks hK hG dX2_keepStaged_38
set_option maxRecDepth 100000 in
set_option maxHeartbeats 4000000 in
theorem w2_keepStaged (C : cx_M p s m args meth c RX2 cX2_keepStaged none 1) (hK : va_K (dC, dI) vwCl [(cB, .object "DiceRoads$Board")] s) (hA : ∀ q, s.heap.size ≤ q → A q) {a : Nat → Nat} {yb : Nat → Nat} {q : ms_T} {S : ms_T} (h : f2_keepStaged S = some q) {H : Heap} {locs : List Loc} {ls : Array Slot} (hG : gd_W (dC, dI) A s (wd_H cB a yb S) H locs) (hl : lv_has ls 1 [(0, .ref (a 0))]) : W p l e RM2_keepStaged s m args below meth c H locs 0 0 (MQ below (qv_W (dC, dI) [(cB, .object "DiceRoads$Board")] A (wd_H cB a yb q)) args s 0 0 A) (F0 m 0 ls []) := by
  unfold f2_keepStaged at h
  obtain ⟨hx, hb, hr, hts, hown, hlocks, hml⟩ := id C
  refine lv_aload_n hx hb dX2_keepStaged_0 rfl (lv_at hl 0 rfl) ?_
  refine lv_aload_n hx hb dX2_keepStaged_1 rfl (lv_at hl 0 rfl) ?_
  refine va_get (D := (dC, dI)) (ci := 2) (v := .int (S 0 0)) (C := RX2) (T := TX2) (N := 3) hx hb hts inlX2 hown hK hG.1 0 rfl rfl 1 (by decide) (hts (Cond.fieldLink RX2 17 "DiceRoads$History" "free" "I") wr_146) (fun _ h9 => h9) rfl dX2_keepStaged_2 ?_
  refine lv_bipush (v := (6 : Int32)) hx hb dX2_keepStaged_5 (by decide) ?_
  refine lv_icmp_ge (tgt := 19) hx hb dX2_keepStaged_7 (by decide) (fun hc => ?_) (fun hc => ?_)
  · have h := fo_it h hc
    refine lv_iconst (v := (0 : Int32)) hx hb dX2_keepStaged_19 (by decide) ?_
    exact w2_keepStaged_b20 C hK hA h hG (lv_sub hl [0] rfl)
  · have h := fo_if h hc
    refine lv_aload_n hx hb dX2_keepStaged_10 rfl (lv_at hl 0 rfl) ?_
    refine va_get (D := (dC, dI)) (ci := 2) (v := .int (S 0 0)) (C := RX2) (T := TX2) (N := 3) hx hb hts inlX2 hown hK hG.1 0 rfl rfl 1 (by decide) (hts (Cond.fieldLink RX2 17 "DiceRoads$History" "free" "I") wr_146) (fun _ h9 => h9) rfl dX2_keepStaged_11 ?_
    refine lv_iconst (v := (1 : Int32)) hx hb dX2_keepStaged_14 (by decide) ?_
    refine lv_iadd hx hb dX2_keepStaged_15 ?_
    refine lv_goto (tgt := 20) hx hb dX2_keepStaged_16 (by decide) ?_
    exact w2_keepStaged_b20 C hK hA h hG (lv_sub hl [0] rfl)
set_option maxRecDepth 100000 in
set_option maxHeartbeats 4000000 in
theorem c2_keepStaged (l : Launch) {dC : Nat → ClassId} {dI : Nat → Nat → Nat} {cI : ClassId} {cB : ClassId} {a : Nat → Nat} {yb : Nat → Nat} {S : ms_T} {q : ms_T} (h : f2_keepStaged S = some q) : mv_M l yX2_keepStaged wm2_keepStaged RM2_keepStaged (dC, dI) [(cB, .object "DiceRoads$Board")] [.ref (a 0)] (wd_H cB a yb S) (wd_H cB a yb q) := by
  intro sz
  refine Met.ofW (cc := cX2_keepStaged) (maxL := 1) (ret := none) (by decide) rfl ?_
  intro p e s m args below meth c s₁ B hml hv
  obtain ⟨rfl, hsz, hP, hK, hD0⟩ := hv
  subst hsz
  have hl := lv_entry ([.ref (a 0)] : List Value) (n := 1) (Nat.le_of_ble_eq_true rfl)
  rw [lg_entry_eq]
  generalize (lg_sl ([.ref (a 0)] : List Value) ++ List.replicate (1 - (lg_sl ([.ref (a 0)] : List Value)).length) Slot.unset).toArray = ls at hl ⊢
  exact w2_keepStaged (a := a) ⟨B.exec, B.bytes, B.returns, fun w hw => atoms_spec (ws := wm2_keepStaged) B.pre w (List.mem_cons_of_mem _ hw), findClass_of_methodNamed B.named, B.notSynchronized, hml⟩ hK (fun _ h => Or.inr h) h ⟨hP, hD0.self, va_S.rf⟩ hl
end
section
variable {p : Program} {l : Launch} {e : Env} {s : State} {m : MethodId} {args : Array Value} {below : List Frame} {meth : Method} {c : Code} {dC : Nat → ClassId} {dI : Nat → Nat → Nat} {cI cB : ClassId} {A : Nat → Prop}
set_option maxRecDepth 100000 in
set_option maxHeartbeats 4000000 in
theorem w2_stage_0 (C : cx_M p s m args meth c RX2 cX2_stage none 3) (hK : va_K (dC, dI) vwCl [(cI, .int), (cB, .object "DiceRoads$Board")] s) (hA : ∀ q, s.heap.size ≤ q → A q) {b : Nat → Nat → Nat} {S : xs_T} (hfr : S 2 0 0 = nI 0) {q : ms_T} (h : f0_copyFrom (S 5) (S 7) = some q) {H : Heap} {locs : List Loc} {ls : Array Slot} (hG : gd_W (dC, dI) A s (gH cI cB b S).flatten H locs) (hl : lv_has ls 3 [(0, .ref (b 2 0)), (1, .ref (b 5 0))]) : W p l e RM2_stage s m args below meth c H locs 0 0 (MQ below (qv_W (dC, dI) [(cI, .int), (cB, .object "DiceRoads$Board")] A (gH cI cB b (xs_set S 7 q)).flatten) args s 0 0 A) (F0 m 0 ls []) := by
  obtain ⟨hx, hb, hr, hts, hown, hlocks, hml⟩ := id C
  have hi : vp_in (S 2 0 0) 7 := by rw [hfr]; exact vp_in_nI (n := 0) (by decide) (by decide)
  have hat : (S 2 0 0).toNatClampNeg = 0 := by rw [hfr]; rfl
  refine lv_aload_n hx hb dX2_stage_0 rfl (lv_at hl 0 rfl) ?_
  refine va_get (D := (dC, dI)) (ci := 2) (v := .int (S 2 0 0)) (C := RX2) (T := TX2) (N := 3) hx hb hts inlX2 hown hK hG.1 0 rfl rfl 1 (by decide) (hts (Cond.fieldLink RX2 17 "DiceRoads$History" "free" "I") wr_146) (fun _ h9 => h9) rfl dX2_stage_1 ?_
  refine lv_if_lt (tgt := 31) hx hb dX2_stage_4 (by decide) (fun hc => absurd hc (by rw [hfr]; decide)) (fun hc => ?_)
  refine lv_aload_n hx hb dX2_stage_7 rfl (lv_at hl 0 rfl) ?_
  refine va_get (D := (dC, dI)) (ci := 2) (v := .int (S 2 0 0)) (C := RX2) (T := TX2) (N := 3) hx hb hts inlX2 hown hK hG.1 0 rfl rfl 1 (by decide) (hts (Cond.fieldLink RX2 17 "DiceRoads$History" "free" "I") wr_146) (fun _ h9 => h9) rfl dX2_stage_8 ?_
  refine lv_aload_n hx hb dX2_stage_11 rfl (lv_at hl 0 rfl) ?_
  refine va_get (D := (dC, dI)) (ci := 2) (v := .ref (b 2 1)) (C := RX2) (T := TX2) (N := 3) hx hb hts inlX2 hown hK hG.1 0 rfl rfl 0 (by decide) (hts (Cond.fieldLink RX2 11 "DiceRoads$History" "states" "[LDiceRoads$Board;") wr_145) (fun _ h9 => h9) rfl dX2_stage_12 ?_
  refine va_alen (v := (7 : Int32)) hx hb hK hG.1 1 1 rfl rfl rfl dX2_stage_15 ?_
  refine lv_icmp_ge (tgt := 31) hx hb dX2_stage_16 (by decide) (fun hc => absurd hc (by rw [hfr]; decide)) (fun hc => ?_)
  refine lv_aload_n hx hb dX2_stage_19 rfl (lv_at hl 0 rfl) ?_
  refine va_get (D := (dC, dI)) (ci := 2) (v := .ref (b 2 1)) (C := RX2) (T := TX2) (N := 3) hx hb hts inlX2 hown hK hG.1 0 rfl rfl 0 (by decide) (hts (Cond.fieldLink RX2 11 "DiceRoads$History" "states" "[LDiceRoads$Board;") wr_145) (fun _ h9 => h9) rfl dX2_stage_20 ?_
  refine lv_aload_n hx hb dX2_stage_23 rfl (lv_at hl 0 rfl) ?_
  refine va_get (D := (dC, dI)) (ci := 2) (v := .int (S 2 0 0)) (C := RX2) (T := TX2) (N := 3) hx hb hts inlX2 hown hK hG.1 0 rfl rfl 1 (by decide) (hts (Cond.fieldLink RX2 17 "DiceRoads$History" "free" "I") wr_146) (fun _ h9 => h9) rfl dX2_stage_24 ?_
  refine va_aldq hx hb hK hG.1 1 1 rfl rfl hi dX2_stage_27 ?_
  rw [hat]
  refine W.eq (g2 := F0 m 28 ls [.ref (b 7 0)]) rfl ?_
  refine lv_goto (tgt := 32) hx hb dX2_stage_28 (by decide) ?_
  refine lv_astore_n (lv' := [(2, .ref (b 7 0)), (0, .ref (b 2 0)), (1, .ref (b 5 0))]) hx hb dX2_stage_32 rfl hl (by decide) rfl (fun ls hl => ?_)
  refine lv_aload_n hx hb dX2_stage_33 rfl (lv_at hl 0 rfl) ?_
  refine lv_ifnull hx hb dX2_stage_34 ?_
  refine lv_aload_n hx hb dX2_stage_37 rfl (lv_at hl 0 rfl) ?_
  refine lv_aload_n hx hb dX2_stage_38 rfl (lv_at hl 2 rfl) ?_
  refine gq_vV (gs := gH cI cB b S) (gs' := gH cI cB b (xs_set S 7 q)) (As := [.ref (b 5 0)]) (rest := []) (wc := (wd_BB cI (fun k => if k < 27 then b 7 k else b 5 (k - 27)) (S 5) (S 7))) (w1 := (wd_BB cI (fun k => if k < 27 then b 7 k else b 5 (k - 27)) (S 5) q)) (b := b 7 0) (C := RX0) (ci := 0) (q0 := 0) ⟨hx, hb, hml, hown, hts⟩ (c0_copyFrom l (a := (fun k => if k < 27 then b 7 k else b 5 (k - 27))) (Z := (S 5)) h) (cwV 1 hts gv_X2_25 rfl rfl rfl hd0_copyFrom ⟨Nat.le_of_ble_eq_true rfl, Nat.le_of_ble_eq_true rfl⟩) hK [0] rfl hA hG [1, 8] [0, 2, 3, 4, 5, 6, 7] pm_8 pm_8 rfl rfl rfl rfl rfl rfl hl.1 rfl (Nat.le_of_ble_eq_true rfl) dX2_stage_39 ⟨Nat.zero_le _, Nat.zero_le _⟩ (fun H locs hG9 => ?_)
  exact gr_v hx hb hr hlocks hK hG9 dX2_stage_42
set_option maxRecDepth 100000 in
set_option maxHeartbeats 4000000 in
theorem w2_stage_1 (C : cx_M p s m args meth c RX2 cX2_stage none 3) (hK : va_K (dC, dI) vwCl [(cI, .int), (cB, .object "DiceRoads$Board")] s) (hA : ∀ q, s.heap.size ≤ q → A q) {b : Nat → Nat → Nat} {S : xs_T} (hfr : S 2 0 0 = nI 1) {q : ms_T} (h : f0_copyFrom (S 5) (S 8) = some q) {H : Heap} {locs : List Loc} {ls : Array Slot} (hG : gd_W (dC, dI) A s (gH cI cB b S).flatten H locs) (hl : lv_has ls 3 [(0, .ref (b 2 0)), (1, .ref (b 5 0))]) : W p l e RM2_stage s m args below meth c H locs 0 0 (MQ below (qv_W (dC, dI) [(cI, .int), (cB, .object "DiceRoads$Board")] A (gH cI cB b (xs_set S 8 q)).flatten) args s 0 0 A) (F0 m 0 ls []) := by
  obtain ⟨hx, hb, hr, hts, hown, hlocks, hml⟩ := id C
  have hi : vp_in (S 2 0 0) 7 := by rw [hfr]; exact vp_in_nI (n := 1) (by decide) (by decide)
  have hat : (S 2 0 0).toNatClampNeg = 1 := by rw [hfr]; rfl
  refine lv_aload_n hx hb dX2_stage_0 rfl (lv_at hl 0 rfl) ?_
  refine va_get (D := (dC, dI)) (ci := 2) (v := .int (S 2 0 0)) (C := RX2) (T := TX2) (N := 3) hx hb hts inlX2 hown hK hG.1 0 rfl rfl 1 (by decide) (hts (Cond.fieldLink RX2 17 "DiceRoads$History" "free" "I") wr_146) (fun _ h9 => h9) rfl dX2_stage_1 ?_
  refine lv_if_lt (tgt := 31) hx hb dX2_stage_4 (by decide) (fun hc => absurd hc (by rw [hfr]; decide)) (fun hc => ?_)
  refine lv_aload_n hx hb dX2_stage_7 rfl (lv_at hl 0 rfl) ?_
  refine va_get (D := (dC, dI)) (ci := 2) (v := .int (S 2 0 0)) (C := RX2) (T := TX2) (N := 3) hx hb hts inlX2 hown hK hG.1 0 rfl rfl 1 (by decide) (hts (Cond.fieldLink RX2 17 "DiceRoads$History" "free" "I") wr_146) (fun _ h9 => h9) rfl dX2_stage_8 ?_
  refine lv_aload_n hx hb dX2_stage_11 rfl (lv_at hl 0 rfl) ?_
  refine va_get (D := (dC, dI)) (ci := 2) (v := .ref (b 2 1)) (C := RX2) (T := TX2) (N := 3) hx hb hts inlX2 hown hK hG.1 0 rfl rfl 0 (by decide) (hts (Cond.fieldLink RX2 11 "DiceRoads$History" "states" "[LDiceRoads$Board;") wr_145) (fun _ h9 => h9) rfl dX2_stage_12 ?_
  refine va_alen (v := (7 : Int32)) hx hb hK hG.1 1 1 rfl rfl rfl dX2_stage_15 ?_
  refine lv_icmp_ge (tgt := 31) hx hb dX2_stage_16 (by decide) (fun hc => absurd hc (by rw [hfr]; decide)) (fun hc => ?_)
  refine lv_aload_n hx hb dX2_stage_19 rfl (lv_at hl 0 rfl) ?_
  refine va_get (D := (dC, dI)) (ci := 2) (v := .ref (b 2 1)) (C := RX2) (T := TX2) (N := 3) hx hb hts inlX2 hown hK hG.1 0 rfl rfl 0 (by decide) (hts (Cond.fieldLink RX2 11 "DiceRoads$History" "states" "[LDiceRoads$Board;") wr_145) (fun _ h9 => h9) rfl dX2_stage_20 ?_
  refine lv_aload_n hx hb dX2_stage_23 rfl (lv_at hl 0 rfl) ?_
  refine va_get (D := (dC, dI)) (ci := 2) (v := .int (S 2 0 0)) (C := RX2) (T := TX2) (N := 3) hx hb hts inlX2 hown hK hG.1 0 rfl rfl 1 (by decide) (hts (Cond.fieldLink RX2 17 "DiceRoads$History" "free" "I") wr_146) (fun _ h9 => h9) rfl dX2_stage_24 ?_
  refine va_aldq hx hb hK hG.1 1 1 rfl rfl hi dX2_stage_27 ?_
  rw [hat]
  refine W.eq (g2 := F0 m 28 ls [.ref (b 8 0)]) rfl ?_
  refine lv_goto (tgt := 32) hx hb dX2_stage_28 (by decide) ?_
  refine lv_astore_n (lv' := [(2, .ref (b 8 0)), (0, .ref (b 2 0)), (1, .ref (b 5 0))]) hx hb dX2_stage_32 rfl hl (by decide) rfl (fun ls hl => ?_)
  refine lv_aload_n hx hb dX2_stage_33 rfl (lv_at hl 0 rfl) ?_
  refine lv_ifnull hx hb dX2_stage_34 ?_
  refine lv_aload_n hx hb dX2_stage_37 rfl (lv_at hl 0 rfl) ?_
  refine lv_aload_n hx hb dX2_stage_38 rfl (lv_at hl 2 rfl) ?_
  refine gq_vV (gs := gH cI cB b S) (gs' := gH cI cB b (xs_set S 8 q)) (As := [.ref (b 5 0)]) (rest := []) (wc := (wd_BB cI (fun k => if k < 27 then b 8 k else b 5 (k - 27)) (S 5) (S 8))) (w1 := (wd_BB cI (fun k => if k < 27 then b 8 k else b 5 (k - 27)) (S 5) q)) (b := b 8 0) (C := RX0) (ci := 0) (q0 := 0) ⟨hx, hb, hml, hown, hts⟩ (c0_copyFrom l (a := (fun k => if k < 27 then b 8 k else b 5 (k - 27))) (Z := (S 5)) h) (cwV 1 hts gv_X2_25 rfl rfl rfl hd0_copyFrom ⟨Nat.le_of_ble_eq_true rfl, Nat.le_of_ble_eq_true rfl⟩) hK [0] rfl hA hG [2, 8] [0, 1, 3, 4, 5, 6, 7] pm_9 pm_9 rfl rfl rfl rfl rfl rfl hl.1 rfl (Nat.le_of_ble_eq_true rfl) dX2_stage_39 ⟨Nat.zero_le _, Nat.zero_le _⟩ (fun H locs hG9 => ?_)
  exact gr_v hx hb hr hlocks hK hG9 dX2_stage_42
set_option maxRecDepth 100000 in
set_option maxHeartbeats 4000000 in
theorem w2_stage_2 (C : cx_M p s m args meth c RX2 cX2_stage none 3) (hK : va_K (dC, dI) vwCl [(cI, .int), (cB, .object "DiceRoads$Board")] s) (hA : ∀ q, s.heap.size ≤ q → A q) {b : Nat → Nat → Nat} {S : xs_T} (hfr : S 2 0 0 = nI 2) {q : ms_T} (h : f0_copyFrom (S 5) (S 9) = some q) {H : Heap} {locs : List Loc} {ls : Array Slot} (hG : gd_W (dC, dI) A s (gH cI cB b S).flatten H locs) (hl : lv_has ls 3 [(0, .ref (b 2 0)), (1, .ref (b 5 0))]) : W p l e RM2_stage s m args below meth c H locs 0 0 (MQ below (qv_W (dC, dI) [(cI, .int), (cB, .object "DiceRoads$Board")] A (gH cI cB b (xs_set S 9 q)).flatten) args s 0 0 A) (F0 m 0 ls []) := by
  obtain ⟨hx, hb, hr, hts, hown, hlocks, hml⟩ := id C
  have hi : vp_in (S 2 0 0) 7 := by rw [hfr]; exact vp_in_nI (n := 2) (by decide) (by decide)
  have hat : (S 2 0 0).toNatClampNeg = 2 := by rw [hfr]; rfl
  refine lv_aload_n hx hb dX2_stage_0 rfl (lv_at hl 0 rfl) ?_
  refine va_get (D := (dC, dI)) (ci := 2) (v := .int (S 2 0 0)) (C := RX2) (T := TX2) (N := 3) hx hb hts inlX2 hown hK hG.1 0 rfl rfl 1 (by decide) (hts (Cond.fieldLink RX2 17 "DiceRoads$History" "free" "I") wr_146) (fun _ h9 => h9) rfl dX2_stage_1 ?_
  refine lv_if_lt (tgt := 31) hx hb dX2_stage_4 (by decide) (fun hc => absurd hc (by rw [hfr]; decide)) (fun hc => ?_)
  refine lv_aload_n hx hb dX2_stage_7 rfl (lv_at hl 0 rfl) ?_
  refine va_get (D := (dC, dI)) (ci := 2) (v := .int (S 2 0 0)) (C := RX2) (T := TX2) (N := 3) hx hb hts inlX2 hown hK hG.1 0 rfl rfl 1 (by decide) (hts (Cond.fieldLink RX2 17 "DiceRoads$History" "free" "I") wr_146) (fun _ h9 => h9) rfl dX2_stage_8 ?_
  refine lv_aload_n hx hb dX2_stage_11 rfl (lv_at hl 0 rfl) ?_
  refine va_get (D := (dC, dI)) (ci := 2) (v := .ref (b 2 1)) (C := RX2) (T := TX2) (N := 3) hx hb hts inlX2 hown hK hG.1 0 rfl rfl 0 (by decide) (hts (Cond.fieldLink RX2 11 "DiceRoads$History" "states" "[LDiceRoads$Board;") wr_145) (fun _ h9 => h9) rfl dX2_stage_12 ?_
  refine va_alen (v := (7 : Int32)) hx hb hK hG.1 1 1 rfl rfl rfl dX2_stage_15 ?_
  refine lv_icmp_ge (tgt := 31) hx hb dX2_stage_16 (by decide) (fun hc => absurd hc (by rw [hfr]; decide)) (fun hc => ?_)
  refine lv_aload_n hx hb dX2_stage_19 rfl (lv_at hl 0 rfl) ?_
  refine va_get (D := (dC, dI)) (ci := 2) (v := .ref (b 2 1)) (C := RX2) (T := TX2) (N := 3) hx hb hts inlX2 hown hK hG.1 0 rfl rfl 0 (by decide) (hts (Cond.fieldLink RX2 11 "DiceRoads$History" "states" "[LDiceRoads$Board;") wr_145) (fun _ h9 => h9) rfl dX2_stage_20 ?_
  refine lv_aload_n hx hb dX2_stage_23 rfl (lv_at hl 0 rfl) ?_
  refine va_get (D := (dC, dI)) (ci := 2) (v := .int (S 2 0 0)) (C := RX2) (T := TX2) (N := 3) hx hb hts inlX2 hown hK hG.1 0 rfl rfl 1 (by decide) (hts (Cond.fieldLink RX2 17 "DiceRoads$History" "free" "I") wr_146) (fun _ h9 => h9) rfl dX2_stage_24 ?_
  refine va_aldq hx hb hK hG.1 1 1 rfl rfl hi dX2_stage_27 ?_
  rw [hat]
  refine W.eq (g2 := F0 m 28 ls [.ref (b 9 0)]) rfl ?_
  refine lv_goto (tgt := 32) hx hb dX2_stage_28 (by decide) ?_
  refine lv_astore_n (lv' := [(2, .ref (b 9 0)), (0, .ref (b 2 0)), (1, .ref (b 5 0))]) hx hb dX2_stage_32 rfl hl (by decide) rfl (fun ls hl => ?_)
  refine lv_aload_n hx hb dX2_stage_33 rfl (lv_at hl 0 rfl) ?_
  refine lv_ifnull hx hb dX2_stage_34 ?_
  refine lv_aload_n hx hb dX2_stage_37 rfl (lv_at hl 0 rfl) ?_
  refine lv_aload_n hx hb dX2_stage_38 rfl (lv_at hl 2 rfl) ?_
  refine gq_vV (gs := gH cI cB b S) (gs' := gH cI cB b (xs_set S 9 q)) (As := [.ref (b 5 0)]) (rest := []) (wc := (wd_BB cI (fun k => if k < 27 then b 9 k else b 5 (k - 27)) (S 5) (S 9))) (w1 := (wd_BB cI (fun k => if k < 27 then b 9 k else b 5 (k - 27)) (S 5) q)) (b := b 9 0) (C := RX0) (ci := 0) (q0 := 0) ⟨hx, hb, hml, hown, hts⟩ (c0_copyFrom l (a := (fun k => if k < 27 then b 9 k else b 5 (k - 27))) (Z := (S 5)) h) (cwV 1 hts gv_X2_25 rfl rfl rfl hd0_copyFrom ⟨Nat.le_of_ble_eq_true rfl, Nat.le_of_ble_eq_true rfl⟩) hK [0] rfl hA hG [3, 8] [0, 1, 2, 4, 5, 6, 7] pm_10 pm_10 rfl rfl rfl rfl rfl rfl hl.1 rfl (Nat.le_of_ble_eq_true rfl) dX2_stage_39 ⟨Nat.zero_le _, Nat.zero_le _⟩ (fun H locs hG9 => ?_)
  exact gr_v hx hb hr hlocks hK hG9 dX2_stage_42
set_option maxRecDepth 100000 in
set_option maxHeartbeats 4000000 in
theorem w2_stage_3 (C : cx_M p s m args meth c RX2 cX2_stage none 3) (hK : va_K (dC, dI) vwCl [(cI, .int), (cB, .object "DiceRoads$Board")] s) (hA : ∀ q, s.heap.size ≤ q → A q) {b : Nat → Nat → Nat} {S : xs_T} (hfr : S 2 0 0 = nI 3) {q : ms_T} (h : f0_copyFrom (S 5) (S 10) = some q) {H : Heap} {locs : List Loc} {ls : Array Slot} (hG : gd_W (dC, dI) A s (gH cI cB b S).flatten H locs) (hl : lv_has ls 3 [(0, .ref (b 2 0)), (1, .ref (b 5 0))]) : W p l e RM2_stage s m args below meth c H locs 0 0 (MQ below (qv_W (dC, dI) [(cI, .int), (cB, .object "DiceRoads$Board")] A (gH cI cB b (xs_set S 10 q)).flatten) args s 0 0 A) (F0 m 0 ls []) := by
  obtain ⟨hx, hb, hr, hts, hown, hlocks, hml⟩ := id C
  have hi : vp_in (S 2 0 0) 7 := by rw [hfr]; exact vp_in_nI (n := 3) (by decide) (by decide)
  have hat : (S 2 0 0).toNatClampNeg = 3 := by rw [hfr]; rfl
  refine lv_aload_n hx hb dX2_stage_0 rfl (lv_at hl 0 rfl) ?_
  refine va_get (D := (dC, dI)) (ci := 2) (v := .int (S 2 0 0)) (C := RX2) (T := TX2) (N := 3) hx hb hts inlX2 hown hK hG.1 0 rfl rfl 1 (by decide) (hts (Cond.fieldLink RX2 17 "DiceRoads$History" "free" "I") wr_146) (fun _ h9 => h9) rfl dX2_stage_1 ?_
  refine lv_if_lt (tgt := 31) hx hb dX2_stage_4 (by decide) (fun hc => absurd hc (by rw [hfr]; decide)) (fun hc => ?_)
  refine lv_aload_n hx hb dX2_stage_7 rfl (lv_at hl 0 rfl) ?_
  refine va_get (D := (dC, dI)) (ci := 2) (v := .int (S 2 0 0)) (C := RX2) (T := TX2) (N := 3) hx hb hts inlX2 hown hK hG.1 0 rfl rfl 1 (by decide) (hts (Cond.fieldLink RX2 17 "DiceRoads$History" "free" "I") wr_146) (fun _ h9 => h9) rfl dX2_stage_8 ?_
  refine lv_aload_n hx hb dX2_stage_11 rfl (lv_at hl 0 rfl) ?_
  refine va_get (D := (dC, dI)) (ci := 2) (v := .ref (b 2 1)) (C := RX2) (T := TX2) (N := 3) hx hb hts inlX2 hown hK hG.1 0 rfl rfl 0 (by decide) (hts (Cond.fieldLink RX2 11 "DiceRoads$History" "states" "[LDiceRoads$Board;") wr_145) (fun _ h9 => h9) rfl dX2_stage_12 ?_
  refine va_alen (v := (7 : Int32)) hx hb hK hG.1 1 1 rfl rfl rfl dX2_stage_15 ?_
  refine lv_icmp_ge (tgt := 31) hx hb dX2_stage_16 (by decide) (fun hc => absurd hc (by rw [hfr]; decide)) (fun hc => ?_)
  refine lv_aload_n hx hb dX2_stage_19 rfl (lv_at hl 0 rfl) ?_
  refine va_get (D := (dC, dI)) (ci := 2) (v := .ref (b 2 1)) (C := RX2) (T := TX2) (N := 3) hx hb hts inlX2 hown hK hG.1 0 rfl rfl 0 (by decide) (hts (Cond.fieldLink RX2 11 "DiceRoads$History" "states" "[LDiceRoads$Board;") wr_145) (fun _ h9 => h9) rfl dX2_stage_20 ?_
  refine lv_aload_n hx hb dX2_stage_23 rfl (lv_at hl 0 rfl) ?_
  refine va_get (D := (dC, dI)) (ci := 2) (v := .int (S 2 0 0)) (C := RX2) (T := TX2) (N := 3) hx hb hts inlX2 hown hK hG.1 0 rfl rfl 1 (by decide) (hts (Cond.fieldLink RX2 17 "DiceRoads$History" "free" "I") wr_146) (fun _ h9 => h9) rfl dX2_stage_24 ?_
  refine va_aldq hx hb hK hG.1 1 1 rfl rfl hi dX2_stage_27 ?_
  rw [hat]
  refine W.eq (g2 := F0 m 28 ls [.ref (b 10 0)]) rfl ?_
  refine lv_goto (tgt := 32) hx hb dX2_stage_28 (by decide) ?_
  refine lv_astore_n (lv' := [(2, .ref (b 10 0)), (0, .ref (b 2 0)), (1, .ref (b 5 0))]) hx hb dX2_stage_32 rfl hl (by decide) rfl (fun ls hl => ?_)
  refine lv_aload_n hx hb dX2_stage_33 rfl (lv_at hl 0 rfl) ?_
  refine lv_ifnull hx hb dX2_stage_34 ?_
  refine lv_aload_n hx hb dX2_stage_37 rfl (lv_at hl 0 rfl) ?_
  refine lv_aload_n hx hb dX2_stage_38 rfl (lv_at hl 2 rfl) ?_
  refine gq_vV (gs := gH cI cB b S) (gs' := gH cI cB b (xs_set S 10 q)) (As := [.ref (b 5 0)]) (rest := []) (wc := (wd_BB cI (fun k => if k < 27 then b 10 k else b 5 (k - 27)) (S 5) (S 10))) (w1 := (wd_BB cI (fun k => if k < 27 then b 10 k else b 5 (k - 27)) (S 5) q)) (b := b 10 0) (C := RX0) (ci := 0) (q0 := 0) ⟨hx, hb, hml, hown, hts⟩ (c0_copyFrom l (a := (fun k => if k < 27 then b 10 k else b 5 (k - 27))) (Z := (S 5)) h) (cwV 1 hts gv_X2_25 rfl rfl rfl hd0_copyFrom ⟨Nat.le_of_ble_eq_true rfl, Nat.le_of_ble_eq_true rfl⟩) hK [0] rfl hA hG [4, 8] [0, 1, 2, 3, 5, 6, 7] pm_11 pm_11 rfl rfl rfl rfl rfl rfl hl.1 rfl (Nat.le_of_ble_eq_true rfl) dX2_stage_39 ⟨Nat.zero_le _, Nat.zero_le _⟩ (fun H locs hG9 => ?_)
  exact gr_v hx hb hr hlocks hK hG9 dX2_stage_42
set_option maxRecDepth 100000 in
set_option maxHeartbeats 4000000 in
theorem w2_stage_4 (C : cx_M p s m args meth c RX2 cX2_stage none 3) (hK : va_K (dC, dI) vwCl [(cI, .int), (cB, .object "DiceRoads$Board")] s) (hA : ∀ q, s.heap.size ≤ q → A q) {b : Nat → Nat → Nat} {S : xs_T} (hfr : S 2 0 0 = nI 4) {q : ms_T} (h : f0_copyFrom (S 5) (S 11) = some q) {H : Heap} {locs : List Loc} {ls : Array Slot} (hG : gd_W (dC, dI) A s (gH cI cB b S).flatten H locs) (hl : lv_has ls 3 [(0, .ref (b 2 0)), (1, .ref (b 5 0))]) : W p l e RM2_stage s m args below meth c H locs 0 0 (MQ below (qv_W (dC, dI) [(cI, .int), (cB, .object "DiceRoads$Board")] A (gH cI cB b (xs_set S 11 q)).flatten) args s 0 0 A) (F0 m 0 ls []) := by
  obtain ⟨hx, hb, hr, hts, hown, hlocks, hml⟩ := id C
  have hi : vp_in (S 2 0 0) 7 := by rw [hfr]; exact vp_in_nI (n := 4) (by decide) (by decide)
  have hat : (S 2 0 0).toNatClampNeg = 4 := by rw [hfr]; rfl
  refine lv_aload_n hx hb dX2_stage_0 rfl (lv_at hl 0 rfl) ?_
  refine va_get (D := (dC, dI)) (ci := 2) (v := .int (S 2 0 0)) (C := RX2) (T := TX2) (N := 3) hx hb hts inlX2 hown hK hG.1 0 rfl rfl 1 (by decide) (hts (Cond.fieldLink RX2 17 "DiceRoads$History" "free" "I") wr_146) (fun _ h9 => h9) rfl dX2_stage_1 ?_
  refine lv_if_lt (tgt := 31) hx hb dX2_stage_4 (by decide) (fun hc => absurd hc (by rw [hfr]; decide)) (fun hc => ?_)
  refine lv_aload_n hx hb dX2_stage_7 rfl (lv_at hl 0 rfl) ?_
  refine va_get (D := (dC, dI)) (ci := 2) (v := .int (S 2 0 0)) (C := RX2) (T := TX2) (N := 3) hx hb hts inlX2 hown hK hG.1 0 rfl rfl 1 (by decide) (hts (Cond.fieldLink RX2 17 "DiceRoads$History" "free" "I") wr_146) (fun _ h9 => h9) rfl dX2_stage_8 ?_
  refine lv_aload_n hx hb dX2_stage_11 rfl (lv_at hl 0 rfl) ?_
  refine va_get (D := (dC, dI)) (ci := 2) (v := .ref (b 2 1)) (C := RX2) (T := TX2) (N := 3) hx hb hts inlX2 hown hK hG.1 0 rfl rfl 0 (by decide) (hts (Cond.fieldLink RX2 11 "DiceRoads$History" "states" "[LDiceRoads$Board;") wr_145) (fun _ h9 => h9) rfl dX2_stage_12 ?_
  refine va_alen (v := (7 : Int32)) hx hb hK hG.1 1 1 rfl rfl rfl dX2_stage_15 ?_
  refine lv_icmp_ge (tgt := 31) hx hb dX2_stage_16 (by decide) (fun hc => absurd hc (by rw [hfr]; decide)) (fun hc => ?_)
  refine lv_aload_n hx hb dX2_stage_19 rfl (lv_at hl 0 rfl) ?_
  refine va_get (D := (dC, dI)) (ci := 2) (v := .ref (b 2 1)) (C := RX2) (T := TX2) (N := 3) hx hb hts inlX2 hown hK hG.1 0 rfl rfl 0 (by decide) (hts (Cond.fieldLink RX2 11 "DiceRoads$History" "states" "[LDiceRoads$Board;") wr_145) (fun _ h9 => h9) rfl dX2_stage_20 ?_
  refine lv_aload_n hx hb dX2_stage_23 rfl (lv_at hl 0 rfl) ?_
  refine va_get (D := (dC, dI)) (ci := 2) (v := .int (S 2 0 0)) (C := RX2) (T := TX2) (N := 3) hx hb hts inlX2 hown hK hG.1 0 rfl rfl 1 (by decide) (hts (Cond.fieldLink RX2 17 "DiceRoads$History" "free" "I") wr_146) (fun _ h9 => h9) rfl dX2_stage_24 ?_
  refine va_aldq hx hb hK hG.1 1 1 rfl rfl hi dX2_stage_27 ?_
  rw [hat]
  refine W.eq (g2 := F0 m 28 ls [.ref (b 11 0)]) rfl ?_
  refine lv_goto (tgt := 32) hx hb dX2_stage_28 (by decide) ?_
  refine lv_astore_n (lv' := [(2, .ref (b 11 0)), (0, .ref (b 2 0)), (1, .ref (b 5 0))]) hx hb dX2_stage_32 rfl hl (by decide) rfl (fun ls hl => ?_)
  refine lv_aload_n hx hb dX2_stage_33 rfl (lv_at hl 0 rfl) ?_
  refine lv_ifnull hx hb dX2_stage_34 ?_
  refine lv_aload_n hx hb dX2_stage_37 rfl (lv_at hl 0 rfl) ?_
  refine lv_aload_n hx hb dX2_stage_38 rfl (lv_at hl 2 rfl) ?_
  refine gq_vV (gs := gH cI cB b S) (gs' := gH cI cB b (xs_set S 11 q)) (As := [.ref (b 5 0)]) (rest := []) (wc := (wd_BB cI (fun k => if k < 27 then b 11 k else b 5 (k - 27)) (S 5) (S 11))) (w1 := (wd_BB cI (fun k => if k < 27 then b 11 k else b 5 (k - 27)) (S 5) q)) (b := b 11 0) (C := RX0) (ci := 0) (q0 := 0) ⟨hx, hb, hml, hown, hts⟩ (c0_copyFrom l (a := (fun k => if k < 27 then b 11 k else b 5 (k - 27))) (Z := (S 5)) h) (cwV 1 hts gv_X2_25 rfl rfl rfl hd0_copyFrom ⟨Nat.le_of_ble_eq_true rfl, Nat.le_of_ble_eq_true rfl⟩) hK [0] rfl hA hG [5, 8] [0, 1, 2, 3, 4, 6, 7] pm_12 pm_12 rfl rfl rfl rfl rfl rfl hl.1 rfl (Nat.le_of_ble_eq_true rfl) dX2_stage_39 ⟨Nat.zero_le _, Nat.zero_le _⟩ (fun H locs hG9 => ?_)
  exact gr_v hx hb hr hlocks hK hG9 dX2_stage_42
set_option maxRecDepth 100000 in
set_option maxHeartbeats 4000000 in
theorem w2_stage_5 (C : cx_M p s m args meth c RX2 cX2_stage none 3) (hK : va_K (dC, dI) vwCl [(cI, .int), (cB, .object "DiceRoads$Board")] s) (hA : ∀ q, s.heap.size ≤ q → A q) {b : Nat → Nat → Nat} {S : xs_T} (hfr : S 2 0 0 = nI 5) {q : ms_T} (h : f0_copyFrom (S 5) (S 12) = some q) {H : Heap} {locs : List Loc} {ls : Array Slot} (hG : gd_W (dC, dI) A s (gH cI cB b S).flatten H locs) (hl : lv_has ls 3 [(0, .ref (b 2 0)), (1, .ref (b 5 0))]) : W p l e RM2_stage s m args below meth c H locs 0 0 (MQ below (qv_W (dC, dI) [(cI, .int), (cB, .object "DiceRoads$Board")] A (gH cI cB b (xs_set S 12 q)).flatten) args s 0 0 A) (F0 m 0 ls []) := by
  obtain ⟨hx, hb, hr, hts, hown, hlocks, hml⟩ := id C
  have hi : vp_in (S 2 0 0) 7 := by rw [hfr]; exact vp_in_nI (n := 5) (by decide) (by decide)
  have hat : (S 2 0 0).toNatClampNeg = 5 := by rw [hfr]; rfl
  refine lv_aload_n hx hb dX2_stage_0 rfl (lv_at hl 0 rfl) ?_
  refine va_get (D := (dC, dI)) (ci := 2) (v := .int (S 2 0 0)) (C := RX2) (T := TX2) (N := 3) hx hb hts inlX2 hown hK hG.1 0 rfl rfl 1 (by decide) (hts (Cond.fieldLink RX2 17 "DiceRoads$History" "free" "I") wr_146) (fun _ h9 => h9) rfl dX2_stage_1 ?_
  refine lv_if_lt (tgt := 31) hx hb dX2_stage_4 (by decide) (fun hc => absurd hc (by rw [hfr]; decide)) (fun hc => ?_)
  refine lv_aload_n hx hb dX2_stage_7 rfl (lv_at hl 0 rfl) ?_
  refine va_get (D := (dC, dI)) (ci := 2) (v := .int (S 2 0 0)) (C := RX2) (T := TX2) (N := 3) hx hb hts inlX2 hown hK hG.1 0 rfl rfl 1 (by decide) (hts (Cond.fieldLink RX2 17 "DiceRoads$History" "free" "I") wr_146) (fun _ h9 => h9) rfl dX2_stage_8 ?_
  refine lv_aload_n hx hb dX2_stage_11 rfl (lv_at hl 0 rfl) ?_
  refine va_get (D := (dC, dI)) (ci := 2) (v := .ref (b 2 1)) (C := RX2) (T := TX2) (N := 3) hx hb hts inlX2 hown hK hG.1 0 rfl rfl 0 (by decide) (hts (Cond.fieldLink RX2 11 "DiceRoads$History" "states" "[LDiceRoads$Board;") wr_145) (fun _ h9 => h9) rfl dX2_stage_12 ?_
  refine va_alen (v := (7 : Int32)) hx hb hK hG.1 1 1 rfl rfl rfl dX2_stage_15 ?_
  refine lv_icmp_ge (tgt := 31) hx hb dX2_stage_16 (by decide) (fun hc => absurd hc (by rw [hfr]; decide)) (fun hc => ?_)
  refine lv_aload_n hx hb dX2_stage_19 rfl (lv_at hl 0 rfl) ?_
  refine va_get (D := (dC, dI)) (ci := 2) (v := .ref (b 2 1)) (C := RX2) (T := TX2) (N := 3) hx hb hts inlX2 hown hK hG.1 0 rfl rfl 0 (by decide) (hts (Cond.fieldLink RX2 11 "DiceRoads$History" "states" "[LDiceRoads$Board;") wr_145) (fun _ h9 => h9) rfl dX2_stage_20 ?_
  refine lv_aload_n hx hb dX2_stage_23 rfl (lv_at hl 0 rfl) ?_
  refine va_get (D := (dC, dI)) (ci := 2) (v := .int (S 2 0 0)) (C := RX2) (T := TX2) (N := 3) hx hb hts inlX2 hown hK hG.1 0 rfl rfl 1 (by decide) (hts (Cond.fieldLink RX2 17 "DiceRoads$History" "free" "I") wr_146) (fun _ h9 => h9) rfl dX2_stage_24 ?_
  refine va_aldq hx hb hK hG.1 1 1 rfl rfl hi dX2_stage_27 ?_
  rw [hat]
  refine W.eq (g2 := F0 m 28 ls [.ref (b 12 0)]) rfl ?_
  refine lv_goto (tgt := 32) hx hb dX2_stage_28 (by decide) ?_
  refine lv_astore_n (lv' := [(2, .ref (b 12 0)), (0, .ref (b 2 0)), (1, .ref (b 5 0))]) hx hb dX2_stage_32 rfl hl (by decide) rfl (fun ls hl => ?_)
  refine lv_aload_n hx hb dX2_stage_33 rfl (lv_at hl 0 rfl) ?_
  refine lv_ifnull hx hb dX2_stage_34 ?_
  refine lv_aload_n hx hb dX2_stage_37 rfl (lv_at hl 0 rfl) ?_
  refine lv_aload_n hx hb dX2_stage_38 rfl (lv_at hl 2 rfl) ?_
  refine gq_vV (gs := gH cI cB b S) (gs' := gH cI cB b (xs_set S 12 q)) (As := [.ref (b 5 0)]) (rest := []) (wc := (wd_BB cI (fun k => if k < 27 then b 12 k else b 5 (k - 27)) (S 5) (S 12))) (w1 := (wd_BB cI (fun k => if k < 27 then b 12 k else b 5 (k - 27)) (S 5) q)) (b := b 12 0) (C := RX0) (ci := 0) (q0 := 0) ⟨hx, hb, hml, hown, hts⟩ (c0_copyFrom l (a := (fun k => if k < 27 then b 12 k else b 5 (k - 27))) (Z := (S 5)) h) (cwV 1 hts gv_X2_25 rfl rfl rfl hd0_copyFrom ⟨Nat.le_of_ble_eq_true rfl, Nat.le_of_ble_eq_true rfl⟩) hK [0] rfl hA hG [6, 8] [0, 1, 2, 3, 4, 5, 7] pm_13 pm_13 rfl rfl rfl rfl rfl rfl hl.1 rfl (Nat.le_of_ble_eq_true rfl) dX2_stage_39 ⟨Nat.zero_le _, Nat.zero_le _⟩ (fun H locs hG9 => ?_)
  exact gr_v hx hb hr hlocks hK hG9 dX2_stage_42
set_option maxRecDepth 100000 in
set_option maxHeartbeats 4000000 in
theorem w2_stage_6 (C : cx_M p s m args meth c RX2 cX2_stage none 3) (hK : va_K (dC, dI) vwCl [(cI, .int), (cB, .object "DiceRoads$Board")] s) (hA : ∀ q, s.heap.size ≤ q → A q) {b : Nat → Nat → Nat} {S : xs_T} (hfr : S 2 0 0 = nI 6) {q : ms_T} (h : f0_copyFrom (S 5) (S 13) = some q) {H : Heap} {locs : List Loc} {ls : Array Slot} (hG : gd_W (dC, dI) A s (gH cI cB b S).flatten H locs) (hl : lv_has ls 3 [(0, .ref (b 2 0)), (1, .ref (b 5 0))]) : W p l e RM2_stage s m args below meth c H locs 0 0 (MQ below (qv_W (dC, dI) [(cI, .int), (cB, .object "DiceRoads$Board")] A (gH cI cB b (xs_set S 13 q)).flatten) args s 0 0 A) (F0 m 0 ls []) := by
  obtain ⟨hx, hb, hr, hts, hown, hlocks, hml⟩ := id C
  have hi : vp_in (S 2 0 0) 7 := by rw [hfr]; exact vp_in_nI (n := 6) (by decide) (by decide)
  have hat : (S 2 0 0).toNatClampNeg = 6 := by rw [hfr]; rfl
  refine lv_aload_n hx hb dX2_stage_0 rfl (lv_at hl 0 rfl) ?_
  refine va_get (D := (dC, dI)) (ci := 2) (v := .int (S 2 0 0)) (C := RX2) (T := TX2) (N := 3) hx hb hts inlX2 hown hK hG.1 0 rfl rfl 1 (by decide) (hts (Cond.fieldLink RX2 17 "DiceRoads$History" "free" "I") wr_146) (fun _ h9 => h9) rfl dX2_stage_1 ?_
  refine lv_if_lt (tgt := 31) hx hb dX2_stage_4 (by decide) (fun hc => absurd hc (by rw [hfr]; decide)) (fun hc => ?_)
  refine lv_aload_n hx hb dX2_stage_7 rfl (lv_at hl 0 rfl) ?_
  refine va_get (D := (dC, dI)) (ci := 2) (v := .int (S 2 0 0)) (C := RX2) (T := TX2) (N := 3) hx hb hts inlX2 hown hK hG.1 0 rfl rfl 1 (by decide) (hts (Cond.fieldLink RX2 17 "DiceRoads$History" "free" "I") wr_146) (fun _ h9 => h9) rfl dX2_stage_8 ?_
  refine lv_aload_n hx hb dX2_stage_11 rfl (lv_at hl 0 rfl) ?_
  refine va_get (D := (dC, dI)) (ci := 2) (v := .ref (b 2 1)) (C := RX2) (T := TX2) (N := 3) hx hb hts inlX2 hown hK hG.1 0 rfl rfl 0 (by decide) (hts (Cond.fieldLink RX2 11 "DiceRoads$History" "states" "[LDiceRoads$Board;") wr_145) (fun _ h9 => h9) rfl dX2_stage_12 ?_
  refine va_alen (v := (7 : Int32)) hx hb hK hG.1 1 1 rfl rfl rfl dX2_stage_15 ?_
  refine lv_icmp_ge (tgt := 31) hx hb dX2_stage_16 (by decide) (fun hc => absurd hc (by rw [hfr]; decide)) (fun hc => ?_)
  refine lv_aload_n hx hb dX2_stage_19 rfl (lv_at hl 0 rfl) ?_
  refine va_get (D := (dC, dI)) (ci := 2) (v := .ref (b 2 1)) (C := RX2) (T := TX2) (N := 3) hx hb hts inlX2 hown hK hG.1 0 rfl rfl 0 (by decide) (hts (Cond.fieldLink RX2 11 "DiceRoads$History" "states" "[LDiceRoads$Board;") wr_145) (fun _ h9 => h9) rfl dX2_stage_20 ?_
  refine lv_aload_n hx hb dX2_stage_23 rfl (lv_at hl 0 rfl) ?_
  refine va_get (D := (dC, dI)) (ci := 2) (v := .int (S 2 0 0)) (C := RX2) (T := TX2) (N := 3) hx hb hts inlX2 hown hK hG.1 0 rfl rfl 1 (by decide) (hts (Cond.fieldLink RX2 17 "DiceRoads$History" "free" "I") wr_146) (fun _ h9 => h9) rfl dX2_stage_24 ?_
  refine va_aldq hx hb hK hG.1 1 1 rfl rfl hi dX2_stage_27 ?_
  rw [hat]
  refine W.eq (g2 := F0 m 28 ls [.ref (b 13 0)]) rfl ?_
  refine lv_goto (tgt := 32) hx hb dX2_stage_28 (by decide) ?_
  refine lv_astore_n (lv' := [(2, .ref (b 13 0)), (0, .ref (b 2 0)), (1, .ref (b 5 0))]) hx hb dX2_stage_32 rfl hl (by decide) rfl (fun ls hl => ?_)
  refine lv_aload_n hx hb dX2_stage_33 rfl (lv_at hl 0 rfl) ?_
  refine lv_ifnull hx hb dX2_stage_34 ?_
  refine lv_aload_n hx hb dX2_stage_37 rfl (lv_at hl 0 rfl) ?_
  refine lv_aload_n hx hb dX2_stage_38 rfl (lv_at hl 2 rfl) ?_
  refine gq_vV (gs := gH cI cB b S) (gs' := gH cI cB b (xs_set S 13 q)) (As := [.ref (b 5 0)]) (rest := []) (wc := (wd_BB cI (fun k => if k < 27 then b 13 k else b 5 (k - 27)) (S 5) (S 13))) (w1 := (wd_BB cI (fun k => if k < 27 then b 13 k else b 5 (k - 27)) (S 5) q)) (b := b 13 0) (C := RX0) (ci := 0) (q0 := 0) ⟨hx, hb, hml, hown, hts⟩ (c0_copyFrom l (a := (fun k => if k < 27 then b 13 k else b 5 (k - 27))) (Z := (S 5)) h) (cwV 1 hts gv_X2_25 rfl rfl rfl hd0_copyFrom ⟨Nat.le_of_ble_eq_true rfl, Nat.le_of_ble_eq_true rfl⟩) hK [0] rfl hA hG [7, 8] [0, 1, 2, 3, 4, 5, 6] pm_14 pm_14 rfl rfl rfl rfl rfl rfl hl.1 rfl (Nat.le_of_ble_eq_true rfl) dX2_stage_39 ⟨Nat.zero_le _, Nat.zero_le _⟩ (fun H locs hG9 => ?_)
  exact gr_v hx hb hr hlocks hK hG9 dX2_stage_42
end
set_option maxRecDepth 100000 in
set_option maxHeartbeats 4000000 in
theorem c2_stage (l : Launch) {dC : Nat → ClassId} {dI : Nat → Nat → Nat} {cI cB : ClassId} {b : Nat → Nat → Nat} {S : xs_T} {q : xs_T} (h : f2_stage S = some q) : mv_M l yX2_stage wm2_stage RM2_stage (dC, dI) [(cI, .int), (cB, .object "DiceRoads$Board")] [.ref (b 2 0), .ref (b 5 0)] (gH cI cB b S).flatten (gH cI cB b q).flatten := by
  intro sz
  refine Met.ofW (cc := cX2_stage) (maxL := 3) (ret := none) (by decide) rfl ?_
  intro p e s m args below meth c s₁ B hml hv
  obtain ⟨rfl, hsz, hP, hK, hD0⟩ := hv
  subst hsz
  have hl := lv_entry ([.ref (b 2 0), .ref (b 5 0)] : List Value) (n := 3) (Nat.le_of_ble_eq_true rfl)
  rw [lg_entry_eq]
  generalize (lg_sl ([.ref (b 2 0), .ref (b 5 0)] : List Value) ++ List.replicate (3 - (lg_sl ([.ref (b 2 0), .ref (b 5 0)] : List Value)).length) Slot.unset).toArray = ls at hl ⊢
  have C : cx_M p s m ([.ref (b 2 0), .ref (b 5 0)] : List Value).toArray meth c RX2 cX2_stage none 3 := ⟨B.exec, B.bytes, B.returns, fun w hw => atoms_spec (ws := wm2_stage) B.pre w (List.mem_cons_of_mem _ hw), findClass_of_methodNamed B.named, B.notSynchronized, hml⟩
  obtain ⟨hi, h⟩ := fo_ck_some h
  obtain ⟨k, hk, hfr⟩ := vp_in_of hi (by decide)
  have hat : (S 2 0 0).toNatClampNeg = k := by rw [hfr]; exact nI_clamp (by omega)
  rw [hat] at h
  obtain ⟨z, hz, h⟩ := fo_bd_some h
  obtain rfl := Option.some.inj h
  have hk7 : k = 0 ∨ k = 1 ∨ k = 2 ∨ k = 3 ∨ k = 4 ∨ k = 5 ∨ k = 6 := by omega
  rcases hk7 with rfl | rfl | rfl | rfl | rfl | rfl | rfl
  · exact w2_stage_0 C hK (fun _ h => Or.inr h) hfr hz ⟨hP, hD0.self, va_S.rf⟩ hl
  · exact w2_stage_1 C hK (fun _ h => Or.inr h) hfr hz ⟨hP, hD0.self, va_S.rf⟩ hl
  · exact w2_stage_2 C hK (fun _ h => Or.inr h) hfr hz ⟨hP, hD0.self, va_S.rf⟩ hl
  · exact w2_stage_3 C hK (fun _ h => Or.inr h) hfr hz ⟨hP, hD0.self, va_S.rf⟩ hl
  · exact w2_stage_4 C hK (fun _ h => Or.inr h) hfr hz ⟨hP, hD0.self, va_S.rf⟩ hl
  · exact w2_stage_5 C hK (fun _ h => Or.inr h) hfr hz ⟨hP, hD0.self, va_S.rf⟩ hl
  · exact w2_stage_6 C hK (fun _ h => Or.inr h) hfr hz ⟨hP, hD0.self, va_S.rf⟩ hl
