/-! ## DiceRoadsModel.owes(III)I -/
section
variable {p : Program} {l : Launch} {e : Env} {s : State} {m : MethodId} {args : Array Value} {below : List Frame} {meth : Method} {c : Code} {dC : Nat → ClassId} {dI : Nat → Nat → Nat} {cI : ClassId} {A : Nat → Prop}
set_option maxRecDepth 100000 in
set_option maxHeartbeats 4000000 in
theorem w8_owes (C : cx_M p s m args meth c RX8 cX8_owes (some .int) 5) (hK : va_K (dC, dI) vwCl [(cI, .int)] s) (hA : ∀ q, s.heap.size ≤ q → A q) {a : Nat → Nat} {X : Nat → Int32} {q : Int32} {v1 : Int32} {v2 : Int32} {v3 : Int32} {S : (Nat → Int32)} (h : f8_owes v1 v2 v3 S = some q) {H : Heap} {locs : List Loc} {ls : Array Slot} (hG : gd_W (dC, dI) A s (wd_M0 cI a X S) H locs) (hl : lv_has ls 5 [(0, .ref (a 0)), (1, .int v1), (2, .int v2), (3, .int v3)]) : W p l e RM8_owes s m args below meth c H locs 0 0 (MQ below (qi_W (dC, dI) [(cI, .int)] A q (wd_M0 cI a X S)) args s 0 0 A) (F0 m 0 ls []) := by
  unfold f8_owes at h
  obtain ⟨hx, hb, hr, hts, hown, hlocks, hml⟩ := id C
  refine lv_aload_n hx hb dX8_owes_0 rfl (lv_at hl 0 rfl) ?_
  refine lv_iload_n hx hb dX8_owes_1 rfl (lv_at hl 1 rfl) ?_
  obtain ⟨q2, hq2, h⟩ := fo_bd_some h
  refine gc_iV (b := a 0) (C := RX8) (As := [.int v1]) (rest := []) (wc := (wd_M0 cI a X S)) (w1 := (wd_M0 cI a X S)) (ci := 7) (q0 := 0) ⟨hx, hb, hml, hown, hts⟩ (c8_isPlayer l (a := a) (X := X) hq2) (cwV 1 hts gv_X8_156 rfl rfl rfl hd8_isPlayer ⟨Nat.le_of_ble_eq_true rfl, Nat.le_of_ble_eq_true rfl⟩) hK [0] rfl hA hG [0, 1] rfl rfl rfl rfl rfl rfl hl.1 rfl (Nat.le_of_ble_eq_true rfl) dX8_owes_2 ⟨Nat.zero_le _, Nat.zero_le _⟩ (fun H locs hG9 => ?_)
  have hG : gd_W (dC, dI) A s (wd_M0 cI a X S) H locs := hG9
  refine lv_if_eq (tgt := 16) hx hb dX8_owes_5 (by decide) (fun hc => ?_) (fun hc => ?_)
  · have h := fo_it h hc
    refine lv_iconst (v := (-1 : Int32)) hx hb dX8_owes_16 (by decide) ?_
    exact gr_i hx hb hr hlocks hK hG (Option.some.inj h) dX8_owes_17
  · have h := fo_if h hc
    refine lv_aload_n hx hb dX8_owes_8 rfl (lv_at hl 0 rfl) ?_
    refine lv_iload_n hx hb dX8_owes_9 rfl (lv_at hl 2 rfl) ?_
    obtain ⟨q10, hq10, h⟩ := fo_bd_some h
    refine gc_iV (b := a 0) (C := RX8) (As := [.int v2]) (rest := []) (wc := (wd_M0 cI a X S)) (w1 := (wd_M0 cI a X S)) (ci := 7) (q0 := 0) ⟨hx, hb, hml, hown, hts⟩ (c8_isPlayer l (a := a) (X := X) hq10) (cwV 1 hts gv_X8_156 rfl rfl rfl hd8_isPlayer ⟨Nat.le_of_ble_eq_true rfl, Nat.le_of_ble_eq_true rfl⟩) hK [0] rfl hA hG [0, 1] rfl rfl rfl rfl rfl rfl hl.1 rfl (Nat.le_of_ble_eq_true rfl) dX8_owes_10 ⟨Nat.zero_le _, Nat.zero_le _⟩ (fun H locs hG9 => ?_)
    have hG : gd_W (dC, dI) A s (wd_M0 cI a X S) H locs := hG9
    refine lv_if_ne (tgt := 18) hx hb dX8_owes_13 (by decide) (fun hc => ?_) (fun hc => ?_)
    · have h := fo_if h hc
      refine lv_iload_n hx hb dX8_owes_18 rfl (lv_at hl 3 rfl) ?_
      refine lv_iconst (v := (0 : Int32)) hx hb dX8_owes_19 (by decide) ?_
      refine lv_iconst (v := (1 : Int32)) hx hb dX8_owes_20 (by decide) ?_
      obtain ⟨q21, hq21, h⟩ := fo_bd_some h
      refine gc_iS (As := [.int v3, .int (0 : Int32), .int (1 : Int32)]) (rest := []) (wc := ([] : va_W)) (w1 := ([] : va_W)) ⟨hx, hb, hml, hown, hts⟩ (c8_within l (a := a) hq21) (va_cwS 3 hts gv_X8_42 rfl rfl rfl hd8_within ⟨Nat.le_of_ble_eq_true rfl, Nat.le_of_ble_eq_true rfl⟩) hK [] rfl hA hG [] rfl rfl rfl rfl hl.1 rfl (Nat.le_of_ble_eq_true rfl) dX8_owes_21 ⟨Nat.zero_le _, Nat.zero_le _⟩ (fun H locs hG9 => ?_)
      have hG : gd_W (dC, dI) A s (wd_M0 cI a X S) H locs := hG9
      refine lv_if_eq (tgt := 32) hx hb dX8_owes_24 (by decide) (fun hc => ?_) (fun hc => ?_)
      · have h := fo_it h hc
        refine lv_bipush (v := (-2 : Int32)) hx hb dX8_owes_32 (by decide) ?_
        exact gr_i hx hb hr hlocks hK hG (Option.some.inj h) dX8_owes_34
      · have h := fo_if h hc
        refine lv_iload_n hx hb dX8_owes_27 rfl (lv_at hl 1 rfl) ?_
        refine lv_iload_n hx hb dX8_owes_28 rfl (lv_at hl 2 rfl) ?_
        refine lv_icmp_ne (tgt := 35) hx hb dX8_owes_29 (by decide) (fun hc => ?_) (fun hc => ?_)
        · have h := fo_if h hc
          refine lv_aload_n hx hb dX8_owes_35 rfl (lv_at hl 0 rfl) ?_
          refine lv_iload_n hx hb dX8_owes_36 rfl (lv_at hl 1 rfl) ?_
          refine lv_iload_n hx hb dX8_owes_37 rfl (lv_at hl 2 rfl) ?_
          obtain ⟨q38, hq38, h⟩ := fo_bd_some h
          refine gc_iV (b := a 0) (C := RX8) (As := [.int v1, .int v2]) (rest := []) (wc := (wd_M0 cI a X S)) (w1 := (wd_M0 cI a X S)) (ci := 7) (q0 := 0) ⟨hx, hb, hml, hown, hts⟩ (c8_debtOf l (a := a) (X := X) hq38) (cwV 2 hts gv_X8_46 rfl rfl rfl hd8_debtOf ⟨Nat.le_of_ble_eq_true rfl, Nat.le_of_ble_eq_true rfl⟩) hK [0] rfl hA hG [0, 1] rfl rfl rfl rfl rfl rfl hl.1 rfl (Nat.le_of_ble_eq_true rfl) dX8_owes_38 ⟨Nat.zero_le _, Nat.zero_le _⟩ (fun H locs hG9 => ?_)
          have hG : gd_W (dC, dI) A s (wd_M0 cI a X S) H locs := hG9
          refine lv_istore (lv' := [(4, .int q38), (0, .ref (a 0)), (1, .int v1), (2, .int v2), (3, .int v3)]) hx hb dX8_owes_41 hl (by decide) rfl (fun ls hl => ?_)
          refine lv_iload_n hx hb dX8_owes_43 rfl (lv_at hl 4 rfl) ?_
          refine lv_if_ne (tgt := 52) hx hb dX8_owes_44 (by decide) (fun hc => ?_) (fun hc => ?_)
          · have h := fo_if h hc
            refine lv_iload hx hb dX8_owes_52 (lv_at hl 0 rfl) ?_
            refine lv_if_ne (tgt := 62) hx hb dX8_owes_54 (by decide) (fun hc => ?_) (fun hc => ?_)
            · have h := fo_if h hc
              refine lv_aload_n hx hb dX8_owes_62 rfl (lv_at hl 1 rfl) ?_
              refine lv_iload_n hx hb dX8_owes_63 rfl (lv_at hl 2 rfl) ?_
              refine lv_iload_n hx hb dX8_owes_64 rfl (lv_at hl 3 rfl) ?_
              obtain ⟨q65, hq65, h⟩ := fo_bd_some h
              refine gc_iV (b := a 0) (C := RX8) (As := [.int v1, .int v2]) (rest := []) (wc := (wd_M0 cI a X S)) (w1 := (wd_M0 cI a X S)) (ci := 7) (q0 := 0) ⟨hx, hb, hml, hown, hts⟩ (c8_ageOf l (a := a) (X := X) hq65) (cwV 2 hts gv_X8_65 rfl rfl rfl hd8_ageOf ⟨Nat.le_of_ble_eq_true rfl, Nat.le_of_ble_eq_true rfl⟩) hK [0] rfl hA hG [0, 1] rfl rfl rfl rfl rfl rfl hl.1 rfl (Nat.le_of_ble_eq_true rfl) dX8_owes_65 ⟨Nat.zero_le _, Nat.zero_le _⟩ (fun H locs hG9 => ?_)
              have hG : gd_W (dC, dI) A s (wd_M0 cI a X S) H locs := hG9
              exact gr_i hx hb hr hlocks hK hG (Option.some.inj h) dX8_owes_68
            · have h := fo_it h hc
              refine lv_bipush (v := (-6 : Int32)) hx hb dX8_owes_57 (by decide) ?_
              refine lv_goto (tgt := 68) hx hb dX8_owes_59 (by decide) ?_
              exact gr_i hx hb hr hlocks hK hG (Option.some.inj h) dX8_owes_68
          · have h := fo_it h hc
            refine lv_iload hx hb dX8_owes_47 (lv_at hl 0 rfl) ?_
            refine lv_goto (tgt := 68) hx hb dX8_owes_49 (by decide) ?_
            exact gr_i hx hb hr hlocks hK hG (Option.some.inj h) dX8_owes_68
        · have h := fo_it h hc
          refine lv_bipush (v := (-2 : Int32)) hx hb dX8_owes_32 (by decide) ?_
          exact gr_i hx hb hr hlocks hK hG (Option.some.inj h) dX8_owes_34
    · have h := fo_it h hc
      refine lv_iconst (v := (-1 : Int32)) hx hb dX8_owes_16 (by decide) ?_
      exact gr_i hx hb hr hlocks hK hG (Option.some.inj h) dX8_owes_17
set_option maxRecDepth 100000 in
set_option maxHeartbeats 4000000 in
theorem c8_owes (l : Launch) {dC : Nat → ClassId} {dI : Nat → Nat → Nat} {cI : ClassId} {a : Nat → Nat} {X : Nat → Int32} {v1 : Int32} {v2 : Int32} {v3 : Int32} {S : (Nat → Int32)} {q : Int32} (h : f8_owes v1 v2 v3 S = some q) : mi_M l yX8_owes wm8_owes RM8_owes (dC, dI) [(cI, .int)] [.ref (a 0), .int v1, .int v2, .int v3] (wd_M0 cI a X S) q (wd_M0 cI a X S) := by
  intro sz
  refine Met.ofW (cc := cX8_owes) (maxL := 5) (ret := (some .int)) (by decide) rfl ?_
  intro p e s m args below meth c s₁ B hml hv
  obtain ⟨rfl, hsz, hP, hK, hD0⟩ := hv
  subst hsz
  have hl := lv_entry ([.ref (a 0), .int v1, .int v2, .int v3] : List Value) (n := 5) (Nat.le_of_ble_eq_true rfl)
  rw [lg_entry_eq]
  generalize (lg_sl ([.ref (a 0), .int v1, .int v2, .int v3] : List Value) ++ List.replicate (5 - (lg_sl ([.ref (a 0), .int v1, .int v2, .int v3] : List Value)).length) Slot.unset).toArray = ls at hl ⊢
  exact w8_owes (a := a) ⟨B.exec, B.bytes, B.returns, fun w hw => atoms_spec (ws := wm8_owes) B.pre w (List.mem_cons_of_mem _ hw), findClass_of_methodNamed B.named, B.notSynchronized, hml⟩ hK (fun _ h => Or.inr h) h ⟨hP, hD0.self, va_S.rf⟩ hl
end
/-! ## DiceRoadsModel.record()V -/
section
variable {p : Program} {l : Launch} {e : Env} {s : State} {m : MethodId} {args : Array Value} {below : List Frame} {meth : Method} {c : Code} {dC : Nat → ClassId} {dI : Nat → Nat → Nat} {cI : ClassId} {A : Nat → Prop}
set_option maxRecDepth 100000 in
set_option maxHeartbeats 4000000 in
theorem w8_record_b49 (C : cx_M p s m args meth c RX8 cX8_record none 2) (hK : va_K (dC, dI) vwCl [(cI, .int)] s) (hA : ∀ q, s.heap.size ≤ q → A q) {a : Nat → Nat} {q : ms_T} {S : ms_T} (h : f8_record_b49 S = some q) {H : Heap} {locs : List Loc} {ls : Array Slot} (hG : gd_W (dC, dI) A s (wd_M cI a S) H locs) (hl : lv_has ls 2 [(0, .ref (a 0))]) : W p l e RM8_record s m args below meth c H locs 0 0 (MQ below (qv_W (dC, dI) [(cI, .int)] A (wd_M cI a q)) args s 0 0 A) (F0 m 49 ls []) := by
  unfold f8_record_b49 at h
  obtain ⟨hx, hb, hr, hts, hown, hlocks, hml⟩ := id C
  refine lv_aload_n hx hb dX8_record_49 rfl (lv_at hl 0 rfl) ?_
  refine va_get (D := (dC, dI)) (ci := 7) (v := .ref (a 1)) (C := RX8) (T := TX8) (N := 17) hx hb hts inlX8 hown hK hG.1 0 rfl rfl 0 (by decide) (hts (Cond.fieldLink RX8 7 "DiceRoadsModel" "state" "[I") wq_637) (fun _ h9 => h9) rfl dX8_record_50 ?_
  refine lv_iconst (v := (0 : Int32)) hx hb dX8_record_53 (by decide) ?_
  refine lv_aload_n hx hb dX8_record_54 rfl (lv_at hl 0 rfl) ?_
  refine va_get (D := (dC, dI)) (ci := 7) (v := .ref (a 3)) (C := RX8) (T := TX8) (N := 17) hx hb hts inlX8 hown hK hG.1 0 rfl rfl 2 (by decide) (hts (Cond.fieldLink RX8 16 "DiceRoadsModel" "history" "[I") wq_639) (fun _ h9 => h9) rfl dX8_record_55 ?_
  refine lv_aload_n hx hb dX8_record_58 rfl (lv_at hl 0 rfl) ?_
  refine va_get (D := (dC, dI)) (ci := 7) (v := .int (S 8 0)) (C := RX8) (T := TX8) (N := 17) hx hb hts inlX8 hown hK hG.1 0 rfl rfl 3 (by decide) (hts (Cond.fieldLink RX8 34 "DiceRoadsModel" "recorded" "I") wq_640) (fun _ h9 => h9) rfl dX8_record_59 ?_
  refine lv_bipush (v := (107 : Int32)) hx hb dX8_record_62 (by decide) ?_
  refine lv_imul hx hb dX8_record_64 ?_
  obtain ⟨q65, hq65, h⟩ := fo_bd_some h
  refine gc_vS (As := [.ref (a 1), .int (0 : Int32), .ref (a 3), .int ((S 8 0) * (107 : Int32))]) (rest := []) (wc := (wd_MV cI (fun k => match k with | 0 => a 1 | _ => a 3) 107 642 (S 0) (S 2))) (w1 := (wd_MV cI (fun k => match k with | 0 => a 1 | _ => a 3) 107 642 (S 0) q65)) ⟨hx, hb, hml, hown, hts⟩ (c8_moves l (a := (fun k => match k with | 0 => a 1 | _ => a 3)) (z := 107) (g := 642) (F := (S 0)) hq65) (va_cwS 4 hts gv_X8_38 rfl rfl rfl hd8_moves ⟨Nat.le_of_ble_eq_true rfl, Nat.le_of_ble_eq_true rfl⟩) hK [0] rfl hA hG [1, 3] rfl rfl rfl rfl hl.1 rfl (Nat.le_of_ble_eq_true rfl) dX8_record_65 ⟨Nat.zero_le _, Nat.zero_le _⟩ (fun H locs hG9 => ?_)
  have hG : gd_W (dC, dI) A s (wd_M cI a (ms_set S 2 q65)) H locs := hG9
  refine lv_aload_n hx hb dX8_record_68 rfl (lv_at hl 0 rfl) ?_
  refine lv_dup hx hb dX8_record_69 rfl ?_
  refine va_get (D := (dC, dI)) (ci := 7) (v := .int ((ms_set S 2 q65) 8 0)) (C := RX8) (T := TX8) (N := 17) hx hb hts inlX8 hown hK hG.1 0 rfl rfl 3 (by decide) (hts (Cond.fieldLink RX8 34 "DiceRoadsModel" "recorded" "I") wq_640) (fun _ h9 => h9) rfl dX8_record_70 ?_
  refine lv_iconst (v := (1 : Int32)) hx hb dX8_record_73 (by decide) ?_
  refine lv_iadd hx hb dX8_record_74 ?_
  refine va_put (D := (dC, dI)) (ci := 7) (v := .int (((ms_set S 2 q65) 8 0) + (1 : Int32))) (ty := .int) (C := RX8) (T := TX8) (N := 17) hx hb hts inlX8 tyX8 tyX8_ok nmX8 hown hK hG.1 hG.2.1 hG.2.2 0 rfl rfl 3 (by decide) (hts (Cond.fieldLink RX8 34 "DiceRoadsModel" "recorded" "I") wq_640) (fun _ h9 => h9) rfl (by decide +kernel) rfl rfl (Nat.le_of_ble_eq_true rfl) dX8_record_75 (fun H locs hP9 hD9 hS9 => ?_)
  have hG : gd_W (dC, dI) A s (wd_M cI a (ms_set (ms_set S 2 q65) 8 (upd ((ms_set S 2 q65) 8) 0 (((ms_set S 2 q65) 8 0) + (1 : Int32))))) H locs := ⟨hP9, hD9, hS9⟩
  obtain rfl := Option.some.inj h
  exact gr_v hx hb hr hlocks hK hG dX8_record_78
set_option maxRecDepth 100000 in
set_option maxHeartbeats 4000000 in
theorem w8_record_b11 (C : cx_M p s m args meth c RX8 cX8_record none 2) (hK : va_K (dC, dI) vwCl [(cI, .int)] s) (hA : ∀ q, s.heap.size ≤ q → A q) {a : Nat → Nat} {q : ms_T} {rec11 : Int32 → ms_T → Option ms_T} (hrec11 : ∀ {v1 : Int32} {S : ms_T} , rec11 v1 S = some q → ∀ {H : Heap} {locs : List Loc} {ls : Array Slot}, gd_W (dC, dI) A s (wd_M cI a S) H locs → lv_has ls 2 [(0, .ref (a 0)), (1, .int v1)] → W p l e RM8_record s m args below meth c H locs 0 0 (MQ below (qv_W (dC, dI) [(cI, .int)] A (wd_M cI a q)) args s 0 0 A) (F0 m 11 ls [])) {v1 : Int32} {S : ms_T} (h : f8_record_b11 rec11 v1 S = some q) {H : Heap} {locs : List Loc} {ls : Array Slot} (hG : gd_W (dC, dI) A s (wd_M cI a S) H locs) (hl : lv_has ls 2 [(0, .ref (a 0)), (1, .int v1)]) : W p l e RM8_record s m args below meth c H locs 0 0 (MQ below (qv_W (dC, dI) [(cI, .int)] A (wd_M cI a q)) args s 0 0 A) (F0 m 11 ls []) := by
  unfold f8_record_b11 at h
  obtain ⟨hx, hb, hr, hts, hown, hlocks, hml⟩ := id C
  refine lv_iload_n hx hb dX8_record_11 rfl (lv_at hl 1 rfl) ?_
  refine lv_sipush (v := (535 : Int32)) hx hb dX8_record_12 (by decide) ?_
  refine lv_icmp_ge (tgt := 39) hx hb dX8_record_15 (by decide) (fun hc => ?_) (fun hc => ?_)
  · have h := fo_it h hc
    refine lv_aload_n hx hb dX8_record_39 rfl (lv_at hl 0 rfl) ?_
    refine lv_dup hx hb dX8_record_40 rfl ?_
    refine va_get (D := (dC, dI)) (ci := 7) (v := .int (S 8 0)) (C := RX8) (T := TX8) (N := 17) hx hb hts inlX8 hown hK hG.1 0 rfl rfl 3 (by decide) (hts (Cond.fieldLink RX8 34 "DiceRoadsModel" "recorded" "I") wq_640) (fun _ h9 => h9) rfl dX8_record_41 ?_
    refine lv_iconst (v := (1 : Int32)) hx hb dX8_record_44 (by decide) ?_
    refine lv_isub hx hb dX8_record_45 ?_
    refine va_put (D := (dC, dI)) (ci := 7) (v := .int ((S 8 0) - (1 : Int32))) (ty := .int) (C := RX8) (T := TX8) (N := 17) hx hb hts inlX8 tyX8 tyX8_ok nmX8 hown hK hG.1 hG.2.1 hG.2.2 0 rfl rfl 3 (by decide) (hts (Cond.fieldLink RX8 34 "DiceRoadsModel" "recorded" "I") wq_640) (fun _ h9 => h9) rfl (by decide +kernel) rfl rfl (Nat.le_of_ble_eq_true rfl) dX8_record_46 (fun H locs hP9 hD9 hS9 => ?_)
    have hG : gd_W (dC, dI) A s (wd_M cI a (ms_set S 8 (upd (S 8) 0 ((S 8 0) - (1 : Int32))))) H locs := ⟨hP9, hD9, hS9⟩
    exact w8_record_b49 C hK hA h hG (lv_sub hl [0] rfl)
  · have h := fo_if h hc
    refine lv_aload_n hx hb dX8_record_18 rfl (lv_at hl 0 rfl) ?_
    refine va_get (D := (dC, dI)) (ci := 7) (v := .ref (a 3)) (C := RX8) (T := TX8) (N := 17) hx hb hts inlX8 hown hK hG.1 0 rfl rfl 2 (by decide) (hts (Cond.fieldLink RX8 16 "DiceRoadsModel" "history" "[I") wq_639) (fun _ h9 => h9) rfl dX8_record_19 ?_
    refine lv_iload_n hx hb dX8_record_22 rfl (lv_at hl 1 rfl) ?_
    refine lv_aload_n hx hb dX8_record_23 rfl (lv_at hl 0 rfl) ?_
    refine va_get (D := (dC, dI)) (ci := 7) (v := .ref (a 3)) (C := RX8) (T := TX8) (N := 17) hx hb hts inlX8 hown hK hG.1 0 rfl rfl 2 (by decide) (hts (Cond.fieldLink RX8 16 "DiceRoadsModel" "history" "[I") wq_639) (fun _ h9 => h9) rfl dX8_record_24 ?_
    refine lv_iload_n hx hb dX8_record_27 rfl (lv_at hl 1 rfl) ?_
    refine lv_bipush (v := (107 : Int32)) hx hb dX8_record_28 (by decide) ?_
    refine lv_iadd hx hb dX8_record_30 ?_
    obtain ⟨hi, h⟩ := fo_ck_some h
    refine va_iald hx hb hK hG.1 3 0 rfl rfl hi dX8_record_31 ?_
    obtain ⟨hi, h⟩ := fo_ck_some h
    refine va_iast hx hb hK hG.1 hG.2.1 hG.2.2 3 0 rfl rfl hi dX8_record_32 (fun H locs hP9 hD9 hS9 => ?_)
    have hG : gd_W (dC, dI) A s (wd_M cI a (ms_set S 2 (upd (S 2) v1.toNatClampNeg ((S 2) (v1 + (107 : Int32)).toNatClampNeg)))) H locs := ⟨hP9, hD9, hS9⟩
    refine lv_iinc (v := (v1 + (1 : Int32))) (lv' := [(1, .int (v1 + (1 : Int32))), (0, .ref (a 0))]) hx hb dX8_record_33 hl (k := 1) rfl rfl (by decide) rfl (fun ls hl => ?_)
    refine lv_goto (tgt := 11) hx hb dX8_record_36 (by decide) ?_
    exact hrec11 h hG (lv_sub hl [1, 0] rfl)
set_option maxRecDepth 100000 in
set_option maxHeartbeats 4000000 in
theorem w8_record_L11 (C : cx_M p s m args meth c RX8 cX8_record none 2) (hK : va_K (dC, dI) vwCl [(cI, .int)] s) (hA : ∀ q, s.heap.size ≤ q → A q) {a : Nat → Nat} {q : ms_T} : ∀ (n : Nat) {v1 : Int32} {S : ms_T}, f8_record_L11 n v1 S = some q → ∀ {H : Heap} {locs : List Loc} {ls : Array Slot}, gd_W (dC, dI) A s (wd_M cI a S) H locs → lv_has ls 2 [(0, .ref (a 0)), (1, .int v1)] → W p l e RM8_record s m args below meth c H locs 0 0 (MQ below (qv_W (dC, dI) [(cI, .int)] A (wd_M cI a q)) args s 0 0 A) (F0 m 11 ls []) := by
  intro n
  induction n with
  | zero => intro _ _ h; exact nomatch h
  | succ n ih => intro v1 S h H locs ls hG hl; exact w8_record_b11 C hK hA (fun h => ih h) (show f8_record_b11 (f8_record_L11 n) v1 S = some q from h) hG hl
set_option maxRecDepth 100000 in
set_option maxHeartbeats 4000000 in
theorem w8_record (C : cx_M p s m args meth c RX8 cX8_record none 2) (hK : va_K (dC, dI) vwCl [(cI, .int)] s) (hA : ∀ q, s.heap.size ≤ q → A q) {a : Nat → Nat} {q : ms_T} {S : ms_T} (h : f8_record S = some q) {H : Heap} {locs : List Loc} {ls : Array Slot} (hG : gd_W (dC, dI) A s (wd_M cI a S) H locs) (hl : lv_has ls 2 [(0, .ref (a 0))]) : W p l e RM8_record s m args below meth c H locs 0 0 (MQ below (qv_W (dC, dI) [(cI, .int)] A (wd_M cI a q)) args s 0 0 A) (F0 m 0 ls []) := by
  unfold f8_record at h
  obtain ⟨hx, hb, hr, hts, hown, hlocks, hml⟩ := id C
  refine lv_aload_n hx hb dX8_record_0 rfl (lv_at hl 0 rfl) ?_
  refine va_get (D := (dC, dI)) (ci := 7) (v := .int (S 8 0)) (C := RX8) (T := TX8) (N := 17) hx hb hts inlX8 hown hK hG.1 0 rfl rfl 3 (by decide) (hts (Cond.fieldLink RX8 34 "DiceRoadsModel" "recorded" "I") wq_640) (fun _ h9 => h9) rfl dX8_record_1 ?_
  refine lv_bipush (v := (6 : Int32)) hx hb dX8_record_4 (by decide) ?_
  refine lv_icmp_ne (tgt := 49) hx hb dX8_record_6 (by decide) (fun hc => ?_) (fun hc => ?_)
  · have h := fo_if h hc
    exact w8_record_b49 C hK hA h hG (lv_sub hl [0] rfl)
  · have h := fo_it h hc
    refine lv_iconst (v := (0 : Int32)) hx hb dX8_record_9 (by decide) ?_
    refine lv_istore_n (lv' := [(1, .int (0 : Int32)), (0, .ref (a 0))]) hx hb dX8_record_10 rfl hl (by decide) rfl (fun ls hl => ?_)
    exact w8_record_L11 C hK hA fo_fu h hG (lv_sub hl [1, 0] rfl)
set_option maxRecDepth 100000 in
set_option maxHeartbeats 4000000 in
theorem c8_record (l : Launch) {dC : Nat → ClassId} {dI : Nat → Nat → Nat} {cI : ClassId} {a : Nat → Nat} {S : ms_T} {q : ms_T} (h : f8_record S = some q) : mv_M l yX8_record wm8_record RM8_record (dC, dI) [(cI, .int)] [.ref (a 0)] (wd_M cI a S) (wd_M cI a q) := by
  intro sz
  refine Met.ofW (cc := cX8_record) (maxL := 2) (ret := none) (by decide) rfl ?_
  intro p e s m args below meth c s₁ B hml hv
  obtain ⟨rfl, hsz, hP, hK, hD0⟩ := hv
  subst hsz
  have hl := lv_entry ([.ref (a 0)] : List Value) (n := 2) (Nat.le_of_ble_eq_true rfl)
  rw [lg_entry_eq]
  generalize (lg_sl ([.ref (a 0)] : List Value) ++ List.replicate (2 - (lg_sl ([.ref (a 0)] : List Value)).length) Slot.unset).toArray = ls at hl ⊢
  exact w8_record (a := a) ⟨B.exec, B.bytes, B.returns, fun w hw => atoms_spec (ws := wm8_record) B.pre w (List.mem_cons_of_mem _ hw), findClass_of_methodNamed B.named, B.notSynchronized, hml⟩ hK (fun _ h => Or.inr h) h ⟨hP, hD0.self, va_S.rf⟩ hl
end
/-! ## DiceRoadsModel.set(II)I -/
section
variable {p : Program} {l : Launch} {e : Env} {s : State} {m : MethodId} {args : Array Value} {below : List Frame} {meth : Method} {c : Code} {dC : Nat → ClassId} {dI : Nat → Nat → Nat} {cI : ClassId} {A : Nat → Prop}
set_option maxRecDepth 100000 in
set_option maxHeartbeats 4000000 in
theorem w8_set (C : cx_M p s m args meth c RX8 cX8_set (some .int) 4) (hK : va_K (dC, dI) vwCl [(cI, .int)] s) (hA : ∀ q, s.heap.size ≤ q → A q) {a : Nat → Nat} {q : (Int32 × ms_T)} {v1 : Int32} {v2 : Int32} {S : ms_T} (h : f8_set v1 v2 S = some q) {H : Heap} {locs : List Loc} {ls : Array Slot} (hG : gd_W (dC, dI) A s (wd_M cI a S) H locs) (hl : lv_has ls 4 [(0, .ref (a 0)), (1, .int v1), (2, .int v2)]) : W p l e RM8_set s m args below meth c H locs 0 0 (MQ below (qi_W (dC, dI) [(cI, .int)] A q.1 (wd_M cI a q.2)) args s 0 0 A) (F0 m 0 ls []) := by
  unfold f8_set at h
  obtain ⟨hx, hb, hr, hts, hown, hlocks, hml⟩ := id C
  refine lv_iload_n hx hb dX8_set_0 rfl (lv_at hl 1 rfl) ?_
  refine lv_iload_n hx hb dX8_set_1 rfl (lv_at hl 2 rfl) ?_
  obtain ⟨q2, hq2, h⟩ := fo_bd_some h
  refine gc_iS (As := [.int v1, .int v2]) (rest := []) (wc := ([] : va_W)) (w1 := ([] : va_W)) ⟨hx, hb, hml, hown, hts⟩ (c8_isValue l (a := a) hq2) (va_cwS 2 hts gv_X8_125 rfl rfl rfl hd8_isValue ⟨Nat.le_of_ble_eq_true rfl, Nat.le_of_ble_eq_true rfl⟩) hK [] rfl hA hG [] rfl rfl rfl rfl hl.1 rfl (Nat.le_of_ble_eq_true rfl) dX8_set_2 ⟨Nat.zero_le _, Nat.zero_le _⟩ (fun H locs hG9 => ?_)
  have hG : gd_W (dC, dI) A s (wd_M cI a S) H locs := hG9
  refine lv_if_ne (tgt := 11) hx hb dX8_set_5 (by decide) (fun hc => ?_) (fun hc => ?_)
  · have h := fo_if h hc
    refine lv_aload_n hx hb dX8_set_11 rfl (lv_at hl 0 rfl) ?_
    obtain ⟨q12, hq12, h⟩ := fo_bd_some h
    refine gc_vV (b := a 0) (C := RX8) (As := []) (rest := []) (wc := (wd_M cI a S)) (w1 := (wd_M cI a q12)) (ci := 7) (q0 := 0) ⟨hx, hb, hml, hown, hts⟩ (c8_record l (a := a) hq12) (cwV 0 hts gv_X8_128 rfl rfl rfl hd8_record ⟨Nat.le_of_ble_eq_true rfl, Nat.le_of_ble_eq_true rfl⟩) hK [0] rfl hA hG [0, 1, 2, 3, 4, 5, 6, 7, 8] rfl rfl rfl rfl rfl rfl hl.1 rfl (Nat.le_of_ble_eq_true rfl) dX8_set_12 ⟨Nat.zero_le _, Nat.zero_le _⟩ (fun H locs hG9 => ?_)
    have hG : gd_W (dC, dI) A s (wd_M cI a q12) H locs := hG9
    refine lv_aload_n hx hb dX8_set_15 rfl (lv_at hl 0 rfl) ?_
    refine va_get (D := (dC, dI)) (ci := 7) (v := .ref (a 1)) (C := RX8) (T := TX8) (N := 17) hx hb hts inlX8 hown hK hG.1 0 rfl rfl 0 (by decide) (hts (Cond.fieldLink RX8 7 "DiceRoadsModel" "state" "[I") wq_637) (fun _ h9 => h9) rfl dX8_set_16 ?_
    refine lv_iload_n hx hb dX8_set_19 rfl (lv_at hl 1 rfl) ?_
    obtain ⟨hi, h⟩ := fo_ck_some h
    refine va_iald hx hb hK hG.1 1 0 rfl rfl hi dX8_set_20 ?_
    refine lv_istore_n (lv' := [(3, .int ((q12 0) v1.toNatClampNeg)), (0, .ref (a 0)), (1, .int v1), (2, .int v2)]) hx hb dX8_set_21 rfl hl (by decide) rfl (fun ls hl => ?_)
    refine lv_aload_n hx hb dX8_set_22 rfl (lv_at hl 1 rfl) ?_
    refine va_get (D := (dC, dI)) (ci := 7) (v := .ref (a 1)) (C := RX8) (T := TX8) (N := 17) hx hb hts inlX8 hown hK hG.1 0 rfl rfl 0 (by decide) (hts (Cond.fieldLink RX8 7 "DiceRoadsModel" "state" "[I") wq_637) (fun _ h9 => h9) rfl dX8_set_23 ?_
    refine lv_iload_n hx hb dX8_set_26 rfl (lv_at hl 2 rfl) ?_
    refine lv_iload_n hx hb dX8_set_27 rfl (lv_at hl 3 rfl) ?_
    obtain ⟨hi, h⟩ := fo_ck_some h
    refine va_iast hx hb hK hG.1 hG.2.1 hG.2.2 1 0 rfl rfl hi dX8_set_28 (fun H locs hP9 hD9 hS9 => ?_)
    have hG : gd_W (dC, dI) A s (wd_M cI a (ms_set q12 0 (upd (q12 0) v1.toNatClampNeg v2))) H locs := ⟨hP9, hD9, hS9⟩
    refine lv_iload_n hx hb dX8_set_29 rfl (lv_at hl 0 rfl) ?_
    obtain rfl := Option.some.inj h
    exact gr_i hx hb hr hlocks hK hG rfl dX8_set_30
  · have h := fo_it h hc
    refine lv_bipush (v := (-2 : Int32)) hx hb dX8_set_8 (by decide) ?_
    obtain rfl := Option.some.inj h
    exact gr_i hx hb hr hlocks hK hG rfl dX8_set_10
set_option maxRecDepth 100000 in
set_option maxHeartbeats 4000000 in
theorem c8_set (l : Launch) {dC : Nat → ClassId} {dI : Nat → Nat → Nat} {cI : ClassId} {a : Nat → Nat} {v1 : Int32} {v2 : Int32} {S : ms_T} {q : (Int32 × ms_T)} (h : f8_set v1 v2 S = some q) : mi_M l yX8_set wm8_set RM8_set (dC, dI) [(cI, .int)] [.ref (a 0), .int v1, .int v2] (wd_M cI a S) q.1 (wd_M cI a q.2) := by
  intro sz
  refine Met.ofW (cc := cX8_set) (maxL := 4) (ret := (some .int)) (by decide) rfl ?_
  intro p e s m args below meth c s₁ B hml hv
  obtain ⟨rfl, hsz, hP, hK, hD0⟩ := hv
  subst hsz
  have hl := lv_entry ([.ref (a 0), .int v1, .int v2] : List Value) (n := 4) (Nat.le_of_ble_eq_true rfl)
  rw [lg_entry_eq]
  generalize (lg_sl ([.ref (a 0), .int v1, .int v2] : List Value) ++ List.replicate (4 - (lg_sl ([.ref (a 0), .int v1, .int v2] : List Value)).length) Slot.unset).toArray = ls at hl ⊢
  exact w8_set (a := a) ⟨B.exec, B.bytes, B.returns, fun w hw => atoms_spec (ws := wm8_set) B.pre w (List.mem_cons_of_mem _ hw), findClass_of_methodNamed B.named, B.notSynchronized, hml⟩ hK (fun _ h => Or.inr h) h ⟨hP, hD0.self, va_S.rf⟩ hl
end
/-! ## DiceRoadsModel.player(I)I -/
section
variable {p : Program} {l : Launch} {e : Env} {s : State} {m : MethodId} {args : Array Value} {below : List Frame} {meth : Method} {c : Code} {dC : Nat → ClassId} {dI : Nat → Nat → Nat} {cI : ClassId} {A : Nat → Prop}
set_option maxRecDepth 100000 in
set_option maxHeartbeats 4000000 in
theorem w8_player (C : cx_M p s m args meth c RX8 cX8_player (some .int) 3) (hK : va_K (dC, dI) vwCl [(cI, .int)] s) (hA : ∀ q, s.heap.size ≤ q → A q) {a : Nat → Nat} {q : (Int32 × ms_T)} {v1 : Int32} {S : ms_T} (h : f8_player v1 S = some q) {H : Heap} {locs : List Loc} {ls : Array Slot} (hG : gd_W (dC, dI) A s (wd_M cI a S) H locs) (hl : lv_has ls 3 [(0, .ref (a 0)), (1, .int v1)]) : W p l e RM8_player s m args below meth c H locs 0 0 (MQ below (qi_W (dC, dI) [(cI, .int)] A q.1 (wd_M cI a q.2)) args s 0 0 A) (F0 m 0 ls []) := by
  unfold f8_player at h
  obtain ⟨hx, hb, hr, hts, hown, hlocks, hml⟩ := id C
  refine lv_aload_n hx hb dX8_player_0 rfl (lv_at hl 0 rfl) ?_
  refine lv_iload_n hx hb dX8_player_1 rfl (lv_at hl 1 rfl) ?_
  obtain ⟨q2, hq2, h⟩ := fo_bd_some h
  refine gc_iV (b := a 0) (C := RX8) (As := [.int v1]) (rest := []) (wc := (wd_M0 cI a (S 8) (S 0))) (w1 := (wd_M0 cI a (S 8) (S 0))) (ci := 7) (q0 := 0) ⟨hx, hb, hml, hown, hts⟩ (c8_whyNoPlayer l (a := a) (X := (S 8)) hq2) (cwV 1 hts gv_X8_131 rfl rfl rfl hd8_whyNoPlayer ⟨Nat.le_of_ble_eq_true rfl, Nat.le_of_ble_eq_true rfl⟩) hK [0] rfl hA hG [0, 1] rfl rfl rfl rfl rfl rfl hl.1 rfl (Nat.le_of_ble_eq_true rfl) dX8_player_2 ⟨Nat.zero_le _, Nat.zero_le _⟩ (fun H locs hG9 => ?_)
  have hG : gd_W (dC, dI) A s (wd_M cI a S) H locs := hG9
  refine lv_istore_n (lv' := [(2, .int q2), (0, .ref (a 0)), (1, .int v1)]) hx hb dX8_player_5 rfl hl (by decide) rfl (fun ls hl => ?_)
  refine lv_iload_n hx hb dX8_player_6 rfl (lv_at hl 0 rfl) ?_
  refine lv_if_ge (tgt := 12) hx hb dX8_player_7 (by decide) (fun hc => ?_) (fun hc => ?_)
  · have h := fo_it h hc
    refine lv_aload_n hx hb dX8_player_12 rfl (lv_at hl 1 rfl) ?_
    obtain ⟨q13, hq13, h⟩ := fo_bd_some h
    refine gc_vV (b := a 0) (C := RX8) (As := []) (rest := []) (wc := (wd_M cI a S)) (w1 := (wd_M cI a q13)) (ci := 7) (q0 := 0) ⟨hx, hb, hml, hown, hts⟩ (c8_record l (a := a) hq13) (cwV 0 hts gv_X8_128 rfl rfl rfl hd8_record ⟨Nat.le_of_ble_eq_true rfl, Nat.le_of_ble_eq_true rfl⟩) hK [0] rfl hA hG [0, 1, 2, 3, 4, 5, 6, 7, 8] rfl rfl rfl rfl rfl rfl hl.1 rfl (Nat.le_of_ble_eq_true rfl) dX8_player_13 ⟨Nat.zero_le _, Nat.zero_le _⟩ (fun H locs hG9 => ?_)
    have hG : gd_W (dC, dI) A s (wd_M cI a q13) H locs := hG9
    refine lv_aload_n hx hb dX8_player_16 rfl (lv_at hl 1 rfl) ?_
    refine lv_iload_n hx hb dX8_player_17 rfl (lv_at hl 2 rfl) ?_
    obtain ⟨q18, hq18, h⟩ := fo_bd_some h
    refine gc_iV (b := a 0) (C := RX8) (As := [.int v1]) (rest := []) (wc := (wd_M0 cI a (q13 8) (q13 0))) (w1 := (wd_M0 cI a (q13 8) q18.2)) (ci := 7) (q0 := 0) ⟨hx, hb, hml, hown, hts⟩ (c8_comes l (a := a) (X := (q13 8)) hq18) (cwV 1 hts gv_X8_134 rfl rfl rfl hd8_comes ⟨Nat.le_of_ble_eq_true rfl, Nat.le_of_ble_eq_true rfl⟩) hK [0] rfl hA hG [0, 1] rfl rfl rfl rfl rfl rfl hl.1 rfl (Nat.le_of_ble_eq_true rfl) dX8_player_18 ⟨Nat.zero_le _, Nat.zero_le _⟩ (fun H locs hG9 => ?_)
    have hG : gd_W (dC, dI) A s (wd_M cI a (ms_set q13 0 q18.2)) H locs := hG9
    obtain rfl := Option.some.inj h
    exact gr_i hx hb hr hlocks hK hG rfl dX8_player_21
  · have h := fo_if h hc
    refine lv_iload_n hx hb dX8_player_10 rfl (lv_at hl 0 rfl) ?_
    obtain rfl := Option.some.inj h
    exact gr_i hx hb hr hlocks hK hG rfl dX8_player_11
set_option maxRecDepth 100000 in
set_option maxHeartbeats 4000000 in
theorem c8_player (l : Launch) {dC : Nat → ClassId} {dI : Nat → Nat → Nat} {cI : ClassId} {a : Nat → Nat} {v1 : Int32} {S : ms_T} {q : (Int32 × ms_T)} (h : f8_player v1 S = some q) : mi_M l yX8_player wm8_player RM8_player (dC, dI) [(cI, .int)] [.ref (a 0), .int v1] (wd_M cI a S) q.1 (wd_M cI a q.2) := by
  intro sz
  refine Met.ofW (cc := cX8_player) (maxL := 3) (ret := (some .int)) (by decide) rfl ?_
  intro p e s m args below meth c s₁ B hml hv
  obtain ⟨rfl, hsz, hP, hK, hD0⟩ := hv
  subst hsz
  have hl := lv_entry ([.ref (a 0), .int v1] : List Value) (n := 3) (Nat.le_of_ble_eq_true rfl)
  rw [lg_entry_eq]
  generalize (lg_sl ([.ref (a 0), .int v1] : List Value) ++ List.replicate (3 - (lg_sl ([.ref (a 0), .int v1] : List Value)).length) Slot.unset).toArray = ls at hl ⊢
  exact w8_player (a := a) ⟨B.exec, B.bytes, B.returns, fun w hw => atoms_spec (ws := wm8_player) B.pre w (List.mem_cons_of_mem _ hw), findClass_of_methodNamed B.named, B.notSynchronized, hml⟩ hK (fun _ h => Or.inr h) h ⟨hP, hD0.self, va_S.rf⟩ hl
end
/-! ## DiceRoadsModel.seed(I)I -/
section
variable {p : Program} {l : Launch} {e : Env} {s : State} {m : MethodId} {args : Array Value} {below : List Frame} {meth : Method} {c : Code} {dC : Nat → ClassId} {dI : Nat → Nat → Nat} {cI : ClassId} {A : Nat → Prop}
set_option maxRecDepth 100000 in
set_option maxHeartbeats 4000000 in
theorem w8_seed (C : cx_M p s m args meth c RX8 cX8_seed (some .int) 3) (hK : va_K (dC, dI) vwCl [(cI, .int)] s) (hA : ∀ q, s.heap.size ≤ q → A q) {a : Nat → Nat} {q : (Int32 × ms_T)} {v1 : Int32} {S : ms_T} (h : f8_seed v1 S = some q) {H : Heap} {locs : List Loc} {ls : Array Slot} (hG : gd_W (dC, dI) A s (wd_M cI a S) H locs) (hl : lv_has ls 3 [(0, .ref (a 0)), (1, .int v1)]) : W p l e RM8_seed s m args below meth c H locs 0 0 (MQ below (qi_W (dC, dI) [(cI, .int)] A q.1 (wd_M cI a q.2)) args s 0 0 A) (F0 m 0 ls []) := by
  unfold f8_seed at h
  obtain ⟨hx, hb, hr, hts, hown, hlocks, hml⟩ := id C
  refine lv_iload_n hx hb dX8_seed_0 rfl (lv_at hl 1 rfl) ?_
  refine lv_iconst (v := (0 : Int32)) hx hb dX8_seed_1 (by decide) ?_
  refine lv_sipush (v := (9999 : Int32)) hx hb dX8_seed_2 (by decide) ?_
  obtain ⟨q5, hq5, h⟩ := fo_bd_some h
  refine gc_iS (As := [.int v1, .int (0 : Int32), .int (9999 : Int32)]) (rest := []) (wc := ([] : va_W)) (w1 := ([] : va_W)) ⟨hx, hb, hml, hown, hts⟩ (c8_within l (a := a) hq5) (va_cwS 3 hts gv_X8_42 rfl rfl rfl hd8_within ⟨Nat.le_of_ble_eq_true rfl, Nat.le_of_ble_eq_true rfl⟩) hK [] rfl hA hG [] rfl rfl rfl rfl hl.1 rfl (Nat.le_of_ble_eq_true rfl) dX8_seed_5 ⟨Nat.zero_le _, Nat.zero_le _⟩ (fun H locs hG9 => ?_)
  have hG : gd_W (dC, dI) A s (wd_M cI a S) H locs := hG9
  refine lv_if_ne (tgt := 14) hx hb dX8_seed_8 (by decide) (fun hc => ?_) (fun hc => ?_)
  · have h := fo_if h hc
    refine lv_aload_n hx hb dX8_seed_14 rfl (lv_at hl 0 rfl) ?_
    obtain ⟨q15, hq15, h⟩ := fo_bd_some h
    refine gc_vV (b := a 0) (C := RX8) (As := []) (rest := []) (wc := (wd_M cI a S)) (w1 := (wd_M cI a q15)) (ci := 7) (q0 := 0) ⟨hx, hb, hml, hown, hts⟩ (c8_record l (a := a) hq15) (cwV 0 hts gv_X8_128 rfl rfl rfl hd8_record ⟨Nat.le_of_ble_eq_true rfl, Nat.le_of_ble_eq_true rfl⟩) hK [0] rfl hA hG [0, 1, 2, 3, 4, 5, 6, 7, 8] rfl rfl rfl rfl rfl rfl hl.1 rfl (Nat.le_of_ble_eq_true rfl) dX8_seed_15 ⟨Nat.zero_le _, Nat.zero_le _⟩ (fun H locs hG9 => ?_)
    have hG : gd_W (dC, dI) A s (wd_M cI a q15) H locs := hG9
    refine lv_aload_n hx hb dX8_seed_18 rfl (lv_at hl 0 rfl) ?_
    refine va_get (D := (dC, dI)) (ci := 7) (v := .ref (a 1)) (C := RX8) (T := TX8) (N := 17) hx hb hts inlX8 hown hK hG.1 0 rfl rfl 0 (by decide) (hts (Cond.fieldLink RX8 7 "DiceRoadsModel" "state" "[I") wq_637) (fun _ h9 => h9) rfl dX8_seed_19 ?_
    refine lv_bipush (v := (8 : Int32)) hx hb dX8_seed_22 (by decide) ?_
    obtain ⟨hi, h⟩ := fo_ck_some h
    refine va_iald hx hb hK hG.1 1 0 rfl rfl hi dX8_seed_24 ?_
    refine lv_istore_n (lv' := [(2, .int ((q15 0) (8 : Int32).toNatClampNeg)), (0, .ref (a 0)), (1, .int v1)]) hx hb dX8_seed_25 rfl hl (by decide) rfl (fun ls hl => ?_)
    refine lv_aload_n hx hb dX8_seed_26 rfl (lv_at hl 1 rfl) ?_
    refine va_get (D := (dC, dI)) (ci := 7) (v := .ref (a 1)) (C := RX8) (T := TX8) (N := 17) hx hb hts inlX8 hown hK hG.1 0 rfl rfl 0 (by decide) (hts (Cond.fieldLink RX8 7 "DiceRoadsModel" "state" "[I") wq_637) (fun _ h9 => h9) rfl dX8_seed_27 ?_
    refine lv_bipush (v := (8 : Int32)) hx hb dX8_seed_30 (by decide) ?_
    refine lv_iload_n hx hb dX8_seed_32 rfl (lv_at hl 2 rfl) ?_
    obtain ⟨hi, h⟩ := fo_ck_some h
    refine va_iast hx hb hK hG.1 hG.2.1 hG.2.2 1 0 rfl rfl hi dX8_seed_33 (fun H locs hP9 hD9 hS9 => ?_)
    have hG : gd_W (dC, dI) A s (wd_M cI a (ms_set q15 0 (upd (q15 0) (8 : Int32).toNatClampNeg v1))) H locs := ⟨hP9, hD9, hS9⟩
    refine lv_iload_n hx hb dX8_seed_34 rfl (lv_at hl 0 rfl) ?_
    obtain rfl := Option.some.inj h
    exact gr_i hx hb hr hlocks hK hG rfl dX8_seed_35
  · have h := fo_it h hc
    refine lv_bipush (v := (-2 : Int32)) hx hb dX8_seed_11 (by decide) ?_
    obtain rfl := Option.some.inj h
    exact gr_i hx hb hr hlocks hK hG rfl dX8_seed_13
set_option maxRecDepth 100000 in
set_option maxHeartbeats 4000000 in
theorem c8_seed (l : Launch) {dC : Nat → ClassId} {dI : Nat → Nat → Nat} {cI : ClassId} {a : Nat → Nat} {v1 : Int32} {S : ms_T} {q : (Int32 × ms_T)} (h : f8_seed v1 S = some q) : mi_M l yX8_seed wm8_seed RM8_seed (dC, dI) [(cI, .int)] [.ref (a 0), .int v1] (wd_M cI a S) q.1 (wd_M cI a q.2) := by
  intro sz
  refine Met.ofW (cc := cX8_seed) (maxL := 3) (ret := (some .int)) (by decide) rfl ?_
  intro p e s m args below meth c s₁ B hml hv
  obtain ⟨rfl, hsz, hP, hK, hD0⟩ := hv
  subst hsz
  have hl := lv_entry ([.ref (a 0), .int v1] : List Value) (n := 3) (Nat.le_of_ble_eq_true rfl)
  rw [lg_entry_eq]
  generalize (lg_sl ([.ref (a 0), .int v1] : List Value) ++ List.replicate (3 - (lg_sl ([.ref (a 0), .int v1] : List Value)).length) Slot.unset).toArray = ls at hl ⊢
  exact w8_seed (a := a) ⟨B.exec, B.bytes, B.returns, fun w hw => atoms_spec (ws := wm8_seed) B.pre w (List.mem_cons_of_mem _ hw), findClass_of_methodNamed B.named, B.notSynchronized, hml⟩ hK (fun _ h => Or.inr h) h ⟨hP, hD0.self, va_S.rf⟩ hl
end
/-! ## DiceRoadsModel.go(I)I -/
section
variable {p : Program} {l : Launch} {e : Env} {s : State} {m : MethodId} {args : Array Value} {below : List Frame} {meth : Method} {c : Code} {dC : Nat → ClassId} {dI : Nat → Nat → Nat} {cI : ClassId} {A : Nat → Prop}
set_option maxRecDepth 100000 in
set_option maxHeartbeats 4000000 in
theorem w8_go (C : cx_M p s m args meth c RX8 cX8_go (some .int) 3) (hK : va_K (dC, dI) vwCl [(cI, .int)] s) (hA : ∀ q, s.heap.size ≤ q → A q) {a : Nat → Nat} {q : (Int32 × ms_T)} {v1 : Int32} {S : ms_T} (h : f8_go v1 S = some q) {H : Heap} {locs : List Loc} {ls : Array Slot} (hG : gd_W (dC, dI) A s (wd_M cI a S) H locs) (hl : lv_has ls 3 [(0, .ref (a 0)), (1, .int v1)]) : W p l e RM8_go s m args below meth c H locs 0 0 (MQ below (qi_W (dC, dI) [(cI, .int)] A q.1 (wd_M cI a q.2)) args s 0 0 A) (F0 m 0 ls []) := by
  unfold f8_go at h
  obtain ⟨hx, hb, hr, hts, hown, hlocks, hml⟩ := id C
  refine lv_aload_n hx hb dX8_go_0 rfl (lv_at hl 0 rfl) ?_
  refine lv_iload_n hx hb dX8_go_1 rfl (lv_at hl 1 rfl) ?_
  obtain ⟨q2, hq2, h⟩ := fo_bd_some h
  refine gc_iV (b := a 0) (C := RX8) (As := [.int v1]) (rest := []) (wc := (wd_M0 cI a (S 8) (S 0))) (w1 := (wd_M0 cI a (S 8) (S 0))) (ci := 7) (q0 := 0) ⟨hx, hb, hml, hown, hts⟩ (c8_whyNoTurns l (a := a) (X := (S 8)) hq2) (cwV 1 hts gv_X8_137 rfl rfl rfl hd8_whyNoTurns ⟨Nat.le_of_ble_eq_true rfl, Nat.le_of_ble_eq_true rfl⟩) hK [0] rfl hA hG [0, 1] rfl rfl rfl rfl rfl rfl hl.1 rfl (Nat.le_of_ble_eq_true rfl) dX8_go_2 ⟨Nat.zero_le _, Nat.zero_le _⟩ (fun H locs hG9 => ?_)
  have hG : gd_W (dC, dI) A s (wd_M cI a S) H locs := hG9
  refine lv_istore_n (lv' := [(2, .int q2), (0, .ref (a 0)), (1, .int v1)]) hx hb dX8_go_5 rfl hl (by decide) rfl (fun ls hl => ?_)
  refine lv_iload_n hx hb dX8_go_6 rfl (lv_at hl 0 rfl) ?_
  refine lv_if_ge (tgt := 12) hx hb dX8_go_7 (by decide) (fun hc => ?_) (fun hc => ?_)
  · have h := fo_it h hc
    refine lv_aload_n hx hb dX8_go_12 rfl (lv_at hl 1 rfl) ?_
    obtain ⟨q13, hq13, h⟩ := fo_bd_some h
    refine gc_vV (b := a 0) (C := RX8) (As := []) (rest := []) (wc := (wd_M cI a S)) (w1 := (wd_M cI a q13)) (ci := 7) (q0 := 0) ⟨hx, hb, hml, hown, hts⟩ (c8_record l (a := a) hq13) (cwV 0 hts gv_X8_128 rfl rfl rfl hd8_record ⟨Nat.le_of_ble_eq_true rfl, Nat.le_of_ble_eq_true rfl⟩) hK [0] rfl hA hG [0, 1, 2, 3, 4, 5, 6, 7, 8] rfl rfl rfl rfl rfl rfl hl.1 rfl (Nat.le_of_ble_eq_true rfl) dX8_go_13 ⟨Nat.zero_le _, Nat.zero_le _⟩ (fun H locs hG9 => ?_)
    have hG : gd_W (dC, dI) A s (wd_M cI a q13) H locs := hG9
    refine lv_aload_n hx hb dX8_go_16 rfl (lv_at hl 1 rfl) ?_
    refine lv_iload_n hx hb dX8_go_17 rfl (lv_at hl 2 rfl) ?_
    obtain ⟨q18, hq18, h⟩ := fo_bd_some h
    refine gc_iV (b := a 0) (C := RX8) (As := [.int v1]) (rest := []) (wc := (wd_M0 cI a (q13 8) (q13 0))) (w1 := (wd_M0 cI a (q13 8) q18.2)) (ci := 7) (q0 := 0) ⟨hx, hb, hml, hown, hts⟩ (c8_doTurns l (a := a) (X := (q13 8)) hq18) (cwV 1 hts gv_X8_140 rfl rfl rfl hd8_doTurns ⟨Nat.le_of_ble_eq_true rfl, Nat.le_of_ble_eq_true rfl⟩) hK [0] rfl hA hG [0, 1] rfl rfl rfl rfl rfl rfl hl.1 rfl (Nat.le_of_ble_eq_true rfl) dX8_go_18 ⟨Nat.zero_le _, Nat.zero_le _⟩ (fun H locs hG9 => ?_)
    have hG : gd_W (dC, dI) A s (wd_M cI a (ms_set q13 0 q18.2)) H locs := hG9
    obtain rfl := Option.some.inj h
    exact gr_i hx hb hr hlocks hK hG rfl dX8_go_21
  · have h := fo_if h hc
    refine lv_iload_n hx hb dX8_go_10 rfl (lv_at hl 0 rfl) ?_
    obtain rfl := Option.some.inj h
    exact gr_i hx hb hr hlocks hK hG rfl dX8_go_11
set_option maxRecDepth 100000 in
set_option maxHeartbeats 4000000 in
theorem c8_go (l : Launch) {dC : Nat → ClassId} {dI : Nat → Nat → Nat} {cI : ClassId} {a : Nat → Nat} {v1 : Int32} {S : ms_T} {q : (Int32 × ms_T)} (h : f8_go v1 S = some q) : mi_M l yX8_go wm8_go RM8_go (dC, dI) [(cI, .int)] [.ref (a 0), .int v1] (wd_M cI a S) q.1 (wd_M cI a q.2) := by
  intro sz
  refine Met.ofW (cc := cX8_go) (maxL := 3) (ret := (some .int)) (by decide) rfl ?_
  intro p e s m args below meth c s₁ B hml hv
  obtain ⟨rfl, hsz, hP, hK, hD0⟩ := hv
  subst hsz
  have hl := lv_entry ([.ref (a 0), .int v1] : List Value) (n := 3) (Nat.le_of_ble_eq_true rfl)
  rw [lg_entry_eq]
  generalize (lg_sl ([.ref (a 0), .int v1] : List Value) ++ List.replicate (3 - (lg_sl ([.ref (a 0), .int v1] : List Value)).length) Slot.unset).toArray = ls at hl ⊢
  exact w8_go (a := a) ⟨B.exec, B.bytes, B.returns, fun w hw => atoms_spec (ws := wm8_go) B.pre w (List.mem_cons_of_mem _ hw), findClass_of_methodNamed B.named, B.notSynchronized, hml⟩ hK (fun _ h => Or.inr h) h ⟨hP, hD0.self, va_S.rf⟩ hl
end
/-! ## DiceRoadsModel.takesRing(IIIII)V -/
section
variable {p : Program} {l : Launch} {e : Env} {s : State} {m : MethodId} {args : Array Value} {below : List Frame} {meth : Method} {c : Code} {dC : Nat → ClassId} {dI : Nat → Nat → Nat} {cI : ClassId} {A : Nat → Prop}
set_option maxRecDepth 100000 in
set_option maxHeartbeats 4000000 in
theorem w8_takesRing (C : cx_M p s m args meth c RX8 cX8_takesRing none 6) (hK : va_K (dC, dI) vwCl [(cI, .int)] s) (hA : ∀ q, s.heap.size ≤ q → A q) {a : Nat → Nat} {q : ms_T} {v1 : Int32} {v2 : Int32} {v3 : Int32} {v4 : Int32} {v5 : Int32} {S : ms_T} (h : f8_takesRing v1 v2 v3 v4 v5 S = some q) {H : Heap} {locs : List Loc} {ls : Array Slot} (hG : gd_W (dC, dI) A s (wd_M cI a S) H locs) (hl : lv_has ls 6 [(0, .ref (a 0)), (1, .int v1), (2, .int v2), (3, .int v3), (4, .int v4), (5, .int v5)]) : W p l e RM8_takesRing s m args below meth c H locs 0 0 (MQ below (qv_W (dC, dI) [(cI, .int)] A (wd_M cI a q)) args s 0 0 A) (F0 m 0 ls []) := by
  unfold f8_takesRing at h
  obtain ⟨hx, hb, hr, hts, hown, hlocks, hml⟩ := id C
  refine lv_aload_n hx hb dX8_takesRing_0 rfl (lv_at hl 0 rfl) ?_
  refine va_get (D := (dC, dI)) (ci := 7) (v := .ref (a 7)) (C := RX8) (T := TX8) (N := 17) hx hb hts inlX8 hown hK hG.1 0 rfl rfl 11 (by decide) (hts (Cond.fieldLink RX8 28 "DiceRoadsModel" "ring" "[I") wq_648) (fun _ h9 => h9) rfl dX8_takesRing_1 ?_
  refine lv_iconst (v := (0 : Int32)) hx hb dX8_takesRing_4 (by decide) ?_
  refine lv_iload_n hx hb dX8_takesRing_5 rfl (lv_at hl 1 rfl) ?_
  obtain ⟨hi, h⟩ := fo_ck_some h
  refine va_iast hx hb hK hG.1 hG.2.1 hG.2.2 7 0 rfl rfl hi dX8_takesRing_6 (fun H locs hP9 hD9 hS9 => ?_)
  have hG : gd_W (dC, dI) A s (wd_M cI a (ms_set S 6 (upd (S 6) (0 : Int32).toNatClampNeg v1))) H locs := ⟨hP9, hD9, hS9⟩
  refine lv_aload_n hx hb dX8_takesRing_7 rfl (lv_at hl 0 rfl) ?_
  refine va_get (D := (dC, dI)) (ci := 7) (v := .ref (a 7)) (C := RX8) (T := TX8) (N := 17) hx hb hts inlX8 hown hK hG.1 0 rfl rfl 11 (by decide) (hts (Cond.fieldLink RX8 28 "DiceRoadsModel" "ring" "[I") wq_648) (fun _ h9 => h9) rfl dX8_takesRing_8 ?_
  refine lv_iconst (v := (1 : Int32)) hx hb dX8_takesRing_11 (by decide) ?_
  refine lv_iload_n hx hb dX8_takesRing_12 rfl (lv_at hl 2 rfl) ?_
  obtain ⟨hi, h⟩ := fo_ck_some h
  refine va_iast hx hb hK hG.1 hG.2.1 hG.2.2 7 0 rfl rfl hi dX8_takesRing_13 (fun H locs hP9 hD9 hS9 => ?_)
  have hG : gd_W (dC, dI) A s (wd_M cI a (ms_set (ms_set S 6 (upd (S 6) (0 : Int32).toNatClampNeg v1)) 6 (upd ((ms_set S 6 (upd (S 6) (0 : Int32).toNatClampNeg v1)) 6) (1 : Int32).toNatClampNeg v2))) H locs := ⟨hP9, hD9, hS9⟩
  refine lv_aload_n hx hb dX8_takesRing_14 rfl (lv_at hl 0 rfl) ?_
  refine va_get (D := (dC, dI)) (ci := 7) (v := .ref (a 7)) (C := RX8) (T := TX8) (N := 17) hx hb hts inlX8 hown hK hG.1 0 rfl rfl 11 (by decide) (hts (Cond.fieldLink RX8 28 "DiceRoadsModel" "ring" "[I") wq_648) (fun _ h9 => h9) rfl dX8_takesRing_15 ?_
  refine lv_iconst (v := (2 : Int32)) hx hb dX8_takesRing_18 (by decide) ?_
  refine lv_iload_n hx hb dX8_takesRing_19 rfl (lv_at hl 3 rfl) ?_
  obtain ⟨hi, h⟩ := fo_ck_some h
  refine va_iast hx hb hK hG.1 hG.2.1 hG.2.2 7 0 rfl rfl hi dX8_takesRing_20 (fun H locs hP9 hD9 hS9 => ?_)
  have hG : gd_W (dC, dI) A s (wd_M cI a (ms_set (ms_set (ms_set S 6 (upd (S 6) (0 : Int32).toNatClampNeg v1)) 6 (upd ((ms_set S 6 (upd (S 6) (0 : Int32).toNatClampNeg v1)) 6) (1 : Int32).toNatClampNeg v2)) 6 (upd ((ms_set (ms_set S 6 (upd (S 6) (0 : Int32).toNatClampNeg v1)) 6 (upd ((ms_set S 6 (upd (S 6) (0 : Int32).toNatClampNeg v1)) 6) (1 : Int32).toNatClampNeg v2)) 6) (2 : Int32).toNatClampNeg v3))) H locs := ⟨hP9, hD9, hS9⟩
  refine lv_aload_n hx hb dX8_takesRing_21 rfl (lv_at hl 0 rfl) ?_
  refine va_get (D := (dC, dI)) (ci := 7) (v := .ref (a 7)) (C := RX8) (T := TX8) (N := 17) hx hb hts inlX8 hown hK hG.1 0 rfl rfl 11 (by decide) (hts (Cond.fieldLink RX8 28 "DiceRoadsModel" "ring" "[I") wq_648) (fun _ h9 => h9) rfl dX8_takesRing_22 ?_
  refine lv_iconst (v := (3 : Int32)) hx hb dX8_takesRing_25 (by decide) ?_
  refine lv_iload hx hb dX8_takesRing_26 (lv_at hl 4 rfl) ?_
  obtain ⟨hi, h⟩ := fo_ck_some h
  refine va_iast hx hb hK hG.1 hG.2.1 hG.2.2 7 0 rfl rfl hi dX8_takesRing_28 (fun H locs hP9 hD9 hS9 => ?_)
  have hG : gd_W (dC, dI) A s (wd_M cI a (ms_set (ms_set (ms_set (ms_set S 6 (upd (S 6) (0 : Int32).toNatClampNeg v1)) 6 (upd ((ms_set S 6 (upd (S 6) (0 : Int32).toNatClampNeg v1)) 6) (1 : Int32).toNatClampNeg v2)) 6 (upd ((ms_set (ms_set S 6 (upd (S 6) (0 : Int32).toNatClampNeg v1)) 6 (upd ((ms_set S 6 (upd (S 6) (0 : Int32).toNatClampNeg v1)) 6) (1 : Int32).toNatClampNeg v2)) 6) (2 : Int32).toNatClampNeg v3)) 6 (upd ((ms_set (ms_set (ms_set S 6 (upd (S 6) (0 : Int32).toNatClampNeg v1)) 6 (upd ((ms_set S 6 (upd (S 6) (0 : Int32).toNatClampNeg v1)) 6) (1 : Int32).toNatClampNeg v2)) 6 (upd ((ms_set (ms_set S 6 (upd (S 6) (0 : Int32).toNatClampNeg v1)) 6 (upd ((ms_set S 6 (upd (S 6) (0 : Int32).toNatClampNeg v1)) 6) (1 : Int32).toNatClampNeg v2)) 6) (2 : Int32).toNatClampNeg v3)) 6) (3 : Int32).toNatClampNeg v4))) H locs := ⟨hP9, hD9, hS9⟩
  refine lv_aload_n hx hb dX8_takesRing_29 rfl (lv_at hl 0 rfl) ?_
  refine lv_iload hx hb dX8_takesRing_30 (lv_at hl 5 rfl) ?_
  refine va_put (D := (dC, dI)) (ci := 7) (v := .int v5) (ty := .int) (C := RX8) (T := TX8) (N := 17) hx hb hts inlX8 tyX8 tyX8_ok nmX8 hown hK hG.1 hG.2.1 hG.2.2 0 rfl rfl 12 (by decide) (hts (Cond.fieldLink RX8 143 "DiceRoadsModel" "ringMany" "I") wq_649) (fun _ h9 => h9) rfl (by decide +kernel) rfl rfl (Nat.le_of_ble_eq_true rfl) dX8_takesRing_32 (fun H locs hP9 hD9 hS9 => ?_)
  have hG : gd_W (dC, dI) A s (wd_M cI a (ms_set (ms_set (ms_set (ms_set (ms_set S 6 (upd (S 6) (0 : Int32).toNatClampNeg v1)) 6 (upd ((ms_set S 6 (upd (S 6) (0 : Int32).toNatClampNeg v1)) 6) (1 : Int32).toNatClampNeg v2)) 6 (upd ((ms_set (ms_set S 6 (upd (S 6) (0 : Int32).toNatClampNeg v1)) 6 (upd ((ms_set S 6 (upd (S 6) (0 : Int32).toNatClampNeg v1)) 6) (1 : Int32).toNatClampNeg v2)) 6) (2 : Int32).toNatClampNeg v3)) 6 (upd ((ms_set (ms_set (ms_set S 6 (upd (S 6) (0 : Int32).toNatClampNeg v1)) 6 (upd ((ms_set S 6 (upd (S 6) (0 : Int32).toNatClampNeg v1)) 6) (1 : Int32).toNatClampNeg v2)) 6 (upd ((ms_set (ms_set S 6 (upd (S 6) (0 : Int32).toNatClampNeg v1)) 6 (upd ((ms_set S 6 (upd (S 6) (0 : Int32).toNatClampNeg v1)) 6) (1 : Int32).toNatClampNeg v2)) 6) (2 : Int32).toNatClampNeg v3)) 6) (3 : Int32).toNatClampNeg v4)) 8 (upd ((ms_set (ms_set (ms_set (ms_set S 6 (upd (S 6) (0 : Int32).toNatClampNeg v1)) 6 (upd ((ms_set S 6 (upd (S 6) (0 : Int32).toNatClampNeg v1)) 6) (1 : Int32).toNatClampNeg v2)) 6 (upd ((ms_set (ms_set S 6 (upd (S 6) (0 : Int32).toNatClampNeg v1)) 6 (upd ((ms_set S 6 (upd (S 6) (0 : Int32).toNatClampNeg v1)) 6) (1 : Int32).toNatClampNeg v2)) 6) (2 : Int32).toNatClampNeg v3)) 6 (upd ((ms_set (ms_set (ms_set S 6 (upd (S 6) (0 : Int32).toNatClampNeg v1)) 6 (upd ((ms_set S 6 (upd (S 6) (0 : Int32).toNatClampNeg v1)) 6) (1 : Int32).toNatClampNeg v2)) 6 (upd ((ms_set (ms_set S 6 (upd (S 6) (0 : Int32).toNatClampNeg v1)) 6 (upd ((ms_set S 6 (upd (S 6) (0 : Int32).toNatClampNeg v1)) 6) (1 : Int32).toNatClampNeg v2)) 6) (2 : Int32).toNatClampNeg v3)) 6) (3 : Int32).toNatClampNeg v4)) 8) 5 v5))) H locs := ⟨hP9, hD9, hS9⟩
  obtain rfl := Option.some.inj h
  exact gr_v hx hb hr hlocks hK hG dX8_takesRing_35
set_option maxRecDepth 100000 in
set_option maxHeartbeats 4000000 in
theorem c8_takesRing (l : Launch) {dC : Nat → ClassId} {dI : Nat → Nat → Nat} {cI : ClassId} {a : Nat → Nat} {v1 : Int32} {v2 : Int32} {v3 : Int32} {v4 : Int32} {v5 : Int32} {S : ms_T} {q : ms_T} (h : f8_takesRing v1 v2 v3 v4 v5 S = some q) : mv_M l yX8_takesRing wm8_takesRing RM8_takesRing (dC, dI) [(cI, .int)] [.ref (a 0), .int v1, .int v2, .int v3, .int v4, .int v5] (wd_M cI a S) (wd_M cI a q) := by
  intro sz
  refine Met.ofW (cc := cX8_takesRing) (maxL := 6) (ret := none) (by decide) rfl ?_
  intro p e s m args below meth c s₁ B hml hv
  obtain ⟨rfl, hsz, hP, hK, hD0⟩ := hv
  subst hsz
  have hl := lv_entry ([.ref (a 0), .int v1, .int v2, .int v3, .int v4, .int v5] : List Value) (n := 6) (Nat.le_of_ble_eq_true rfl)
  rw [lg_entry_eq]
  generalize (lg_sl ([.ref (a 0), .int v1, .int v2, .int v3, .int v4, .int v5] : List Value) ++ List.replicate (6 - (lg_sl ([.ref (a 0), .int v1, .int v2, .int v3, .int v4, .int v5] : List Value)).length) Slot.unset).toArray = ls at hl ⊢
  exact w8_takesRing (a := a) ⟨B.exec, B.bytes, B.returns, fun w hw => atoms_spec (ws := wm8_takesRing) B.pre w (List.mem_cons_of_mem _ hw), findClass_of_methodNamed B.named, B.notSynchronized, hml⟩ hK (fun _ h => Or.inr h) h ⟨hP, hD0.self, va_S.rf⟩ hl
end
/-! ## DiceRoadsModel.findRing(II)Z -/
section
variable {p : Program} {l : Launch} {e : Env} {s : State} {m : MethodId} {args : Array Value} {below : List Frame} {meth : Method} {c : Code} {dC : Nat → ClassId} {dI : Nat → Nat → Nat} {cI : ClassId} {A : Nat → Prop}
set_option maxRecDepth 100000 in
set_option maxHeartbeats 4000000 in
theorem w8_findRing_b150 (C : cx_M p s m args meth c RX8 cX8_findRing (some .boolean) 8) (hK : va_K (dC, dI) vwCl [(cI, .int)] s) (hA : ∀ q, s.heap.size ≤ q → A q) {a : Nat → Nat} {q : (Int32 × ms_T)} {rec2 : Int32 → Int32 → Int32 → ms_T → Option (Int32 × ms_T)} (hrec2 : ∀ {v1 : Int32} {v2 : Int32} {v3 : Int32} {S : ms_T} , rec2 v1 v2 v3 S = some q → ∀ {H : Heap} {locs : List Loc} {ls : Array Slot}, gd_W (dC, dI) A s (wd_M cI a S) H locs → lv_has ls 8 [(0, .ref (a 0)), (1, .int v1), (2, .int v2), (3, .int v3)] → W p l e RM8_findRing s m args below meth c H locs 0 0 (MQ below (qi_W (dC, dI) [(cI, .int)] A q.1 (wd_M cI a q.2)) args s 0 0 A) (F0 m 2 ls [])) {v1 : Int32} {v2 : Int32} {v3 : Int32} {v4 : Int32} {v5 : Int32} {v6 : Int32} {t0 : Int32} {S : ms_T} (h : f8_findRing_b150 rec2 v1 v2 v3 v4 v5 v6 t0 S = some q) {H : Heap} {locs : List Loc} {ls : Array Slot} (hG : gd_W (dC, dI) A s (wd_M cI a S) H locs) (hl : lv_has ls 8 [(0, .ref (a 0)), (1, .int v1), (2, .int v2), (3, .int v3), (4, .int v4), (5, .int v5), (6, .int v6)]) : W p l e RM8_findRing s m args below meth c H locs 0 0 (MQ below (qi_W (dC, dI) [(cI, .int)] A q.1 (wd_M cI a q.2)) args s 0 0 A) (F0 m 150 ls [.int t0]) := by
  unfold f8_findRing_b150 at h
  obtain ⟨hx, hb, hr, hts, hown, hlocks, hml⟩ := id C
  refine lv_istore (lv' := [(7, .int t0), (0, .ref (a 0)), (1, .int v1), (2, .int v2), (3, .int v3), (4, .int v4), (5, .int v5), (6, .int v6)]) hx hb dX8_findRing_150 hl (by decide) rfl (fun ls hl => ?_)
  refine lv_iload hx hb dX8_findRing_152 (lv_at hl 0 rfl) ?_
  refine lv_if_eq (tgt := 171) hx hb dX8_findRing_154 (by decide) (fun hc => ?_) (fun hc => ?_)
  · have h := fo_it h hc
    refine lv_iinc (v := (v3 + (1 : Int32))) (lv' := [(3, .int (v3 + (1 : Int32))), (7, .int t0), (0, .ref (a 0)), (1, .int v1), (2, .int v2), (4, .int v4), (5, .int v5), (6, .int v6)]) hx hb dX8_findRing_171 hl (k := 4) rfl rfl (by decide) rfl (fun ls hl => ?_)
    refine lv_goto (tgt := 2) hx hb dX8_findRing_174 (by decide) ?_
    exact hrec2 h hG (lv_sub hl [2, 3, 4, 0] rfl)
  · have h := fo_if h hc
    refine lv_aload_n hx hb dX8_findRing_157 rfl (lv_at hl 1 rfl) ?_
    refine lv_iload_n hx hb dX8_findRing_158 rfl (lv_at hl 2 rfl) ?_
    refine lv_iload hx hb dX8_findRing_159 (lv_at hl 5 rfl) ?_
    refine lv_iload hx hb dX8_findRing_161 (lv_at hl 6 rfl) ?_
    refine lv_iload hx hb dX8_findRing_163 (lv_at hl 7 rfl) ?_
    refine lv_iload_n hx hb dX8_findRing_165 rfl (lv_at hl 3 rfl) ?_
    obtain ⟨q166, hq166, h⟩ := fo_bd_some h
    refine gc_vV (b := a 0) (C := RX8) (As := [.int v1, .int v4, .int v5, .int v6, .int v2]) (rest := []) (wc := (wd_M cI a S)) (w1 := (wd_M cI a q166)) (ci := 7) (q0 := 0) ⟨hx, hb, hml, hown, hts⟩ (c8_takesRing l (a := a) hq166) (cwV 5 hts gv_X8_146 rfl rfl rfl hd8_takesRing ⟨Nat.le_of_ble_eq_true rfl, Nat.le_of_ble_eq_true rfl⟩) hK [0] rfl hA hG [0, 1, 2, 3, 4, 5, 6, 7, 8] rfl rfl rfl rfl rfl rfl hl.1 rfl (Nat.le_of_ble_eq_true rfl) dX8_findRing_166 ⟨Nat.zero_le _, Nat.zero_le _⟩ (fun H locs hG9 => ?_)
    have hG : gd_W (dC, dI) A s (wd_M cI a q166) H locs := hG9
    refine lv_iconst (v := (1 : Int32)) hx hb dX8_findRing_169 (by decide) ?_
    obtain rfl := Option.some.inj h
    exact gr_z hx hb hr hlocks hK hG rfl rfl dX8_findRing_170
set_option maxRecDepth 100000 in
set_option maxHeartbeats 4000000 in
theorem w8_findRing_b149 (C : cx_M p s m args meth c RX8 cX8_findRing (some .boolean) 8) (hK : va_K (dC, dI) vwCl [(cI, .int)] s) (hA : ∀ q, s.heap.size ≤ q → A q) {a : Nat → Nat} {q : (Int32 × ms_T)} {rec2 : Int32 → Int32 → Int32 → ms_T → Option (Int32 × ms_T)} (hrec2 : ∀ {v1 : Int32} {v2 : Int32} {v3 : Int32} {S : ms_T} , rec2 v1 v2 v3 S = some q → ∀ {H : Heap} {locs : List Loc} {ls : Array Slot}, gd_W (dC, dI) A s (wd_M cI a S) H locs → lv_has ls 8 [(0, .ref (a 0)), (1, .int v1), (2, .int v2), (3, .int v3)] → W p l e RM8_findRing s m args below meth c H locs 0 0 (MQ below (qi_W (dC, dI) [(cI, .int)] A q.1 (wd_M cI a q.2)) args s 0 0 A) (F0 m 2 ls [])) {v1 : Int32} {v2 : Int32} {v3 : Int32} {v4 : Int32} {v5 : Int32} {v6 : Int32} {S : ms_T} (h : f8_findRing_b149 rec2 v1 v2 v3 v4 v5 v6 S = some q) {H : Heap} {locs : List Loc} {ls : Array Slot} (hG : gd_W (dC, dI) A s (wd_M cI a S) H locs) (hl : lv_has ls 8 [(0, .ref (a 0)), (1, .int v1), (2, .int v2), (3, .int v3), (4, .int v4), (5, .int v5), (6, .int v6)]) : W p l e RM8_findRing s m args below meth c H locs 0 0 (MQ below (qi_W (dC, dI) [(cI, .int)] A q.1 (wd_M cI a q.2)) args s 0 0 A) (F0 m 149 ls []) := by
  unfold f8_findRing_b149 at h
  obtain ⟨hx, hb, hr, hts, hown, hlocks, hml⟩ := id C
  refine lv_iconst (v := (0 : Int32)) hx hb dX8_findRing_149 (by decide) ?_
  exact w8_findRing_b150 C hK hA (fun h => hrec2 h) h hG (lv_sub hl [0, 1, 2, 3, 4, 5, 6] rfl)
set_option maxRecDepth 100000 in
set_option maxHeartbeats 4000000 in
theorem w8_findRing_b145 (C : cx_M p s m args meth c RX8 cX8_findRing (some .boolean) 8) (hK : va_K (dC, dI) vwCl [(cI, .int)] s) (hA : ∀ q, s.heap.size ≤ q → A q) {a : Nat → Nat} {q : (Int32 × ms_T)} {rec2 : Int32 → Int32 → Int32 → ms_T → Option (Int32 × ms_T)} (hrec2 : ∀ {v1 : Int32} {v2 : Int32} {v3 : Int32} {S : ms_T} , rec2 v1 v2 v3 S = some q → ∀ {H : Heap} {locs : List Loc} {ls : Array Slot}, gd_W (dC, dI) A s (wd_M cI a S) H locs → lv_has ls 8 [(0, .ref (a 0)), (1, .int v1), (2, .int v2), (3, .int v3)] → W p l e RM8_findRing s m args below meth c H locs 0 0 (MQ below (qi_W (dC, dI) [(cI, .int)] A q.1 (wd_M cI a q.2)) args s 0 0 A) (F0 m 2 ls [])) {v1 : Int32} {v2 : Int32} {v3 : Int32} {v4 : Int32} {v5 : Int32} {v6 : Int32} {S : ms_T} (h : f8_findRing_b145 rec2 v1 v2 v3 v4 v5 v6 S = some q) {H : Heap} {locs : List Loc} {ls : Array Slot} (hG : gd_W (dC, dI) A s (wd_M cI a S) H locs) (hl : lv_has ls 8 [(0, .ref (a 0)), (1, .int v1), (2, .int v2), (3, .int v3), (4, .int v4), (5, .int v5), (6, .int v6)]) : W p l e RM8_findRing s m args below meth c H locs 0 0 (MQ below (qi_W (dC, dI) [(cI, .int)] A q.1 (wd_M cI a q.2)) args s 0 0 A) (F0 m 145 ls []) := by
  unfold f8_findRing_b145 at h
  obtain ⟨hx, hb, hr, hts, hown, hlocks, hml⟩ := id C
  refine lv_iconst (v := (1 : Int32)) hx hb dX8_findRing_145 (by decide) ?_
  refine lv_goto (tgt := 150) hx hb dX8_findRing_146 (by decide) ?_
  exact w8_findRing_b150 C hK hA (fun h => hrec2 h) h hG (lv_sub hl [0, 1, 2, 3, 4, 5, 6] rfl)
set_option maxRecDepth 100000 in
set_option maxHeartbeats 4000000 in
theorem w8_findRing_b110 (C : cx_M p s m args meth c RX8 cX8_findRing (some .boolean) 8) (hK : va_K (dC, dI) vwCl [(cI, .int)] s) (hA : ∀ q, s.heap.size ≤ q → A q) {a : Nat → Nat} {q : (Int32 × ms_T)} {rec2 : Int32 → Int32 → Int32 → ms_T → Option (Int32 × ms_T)} (hrec2 : ∀ {v1 : Int32} {v2 : Int32} {v3 : Int32} {S : ms_T} , rec2 v1 v2 v3 S = some q → ∀ {H : Heap} {locs : List Loc} {ls : Array Slot}, gd_W (dC, dI) A s (wd_M cI a S) H locs → lv_has ls 8 [(0, .ref (a 0)), (1, .int v1), (2, .int v2), (3, .int v3)] → W p l e RM8_findRing s m args below meth c H locs 0 0 (MQ below (qi_W (dC, dI) [(cI, .int)] A q.1 (wd_M cI a q.2)) args s 0 0 A) (F0 m 2 ls [])) {v1 : Int32} {v2 : Int32} {v3 : Int32} {v4 : Int32} {v5 : Int32} {v6 : Int32} {t0 : Int32} {S : ms_T} (h : f8_findRing_b110 rec2 v1 v2 v3 v4 v5 v6 t0 S = some q) {H : Heap} {locs : List Loc} {ls : Array Slot} (hG : gd_W (dC, dI) A s (wd_M cI a S) H locs) (hl : lv_has ls 8 [(0, .ref (a 0)), (1, .int v1), (2, .int v2), (3, .int v3), (4, .int v4), (5, .int v5), (6, .int v6)]) : W p l e RM8_findRing s m args below meth c H locs 0 0 (MQ below (qi_W (dC, dI) [(cI, .int)] A q.1 (wd_M cI a q.2)) args s 0 0 A) (F0 m 110 ls [.int t0]) := by
  unfold f8_findRing_b110 at h
  obtain ⟨hx, hb, hr, hts, hown, hlocks, hml⟩ := id C
  refine lv_istore (lv' := [(7, .int t0), (0, .ref (a 0)), (1, .int v1), (2, .int v2), (3, .int v3), (4, .int v4), (5, .int v5), (6, .int v6)]) hx hb dX8_findRing_110 hl (by decide) rfl (fun ls hl => ?_)
  refine lv_iload hx hb dX8_findRing_112 (lv_at hl 0 rfl) ?_
  refine lv_if_eq (tgt := 149) hx hb dX8_findRing_114 (by decide) (fun hc => ?_) (fun hc => ?_)
  · have h := fo_it h hc
    exact w8_findRing_b149 C hK hA (fun h => hrec2 h) h hG (lv_sub hl [1, 2, 3, 4, 5, 6, 7] rfl)
  · have h := fo_if h hc
    refine lv_iload_n hx hb dX8_findRing_117 rfl (lv_at hl 3 rfl) ?_
    refine lv_iconst (v := (4 : Int32)) hx hb dX8_findRing_118 (by decide) ?_
    refine lv_icmp_lt (tgt := 145) hx hb dX8_findRing_119 (by decide) (fun hc => ?_) (fun hc => ?_)
    · have h := fo_it h hc
      exact w8_findRing_b145 C hK hA (fun h => hrec2 h) h hG (lv_sub hl [1, 2, 3, 4, 5, 6, 7] rfl)
    · have h := fo_if h hc
      refine lv_iload hx hb dX8_findRing_122 (lv_at hl 7 rfl) ?_
      refine lv_iload_n hx hb dX8_findRing_124 rfl (lv_at hl 2 rfl) ?_
      refine lv_icmp_eq (tgt := 149) hx hb dX8_findRing_125 (by decide) (fun hc => ?_) (fun hc => ?_)
      · have h := fo_it h hc
        exact w8_findRing_b149 C hK hA (fun h => hrec2 h) h hG (lv_sub hl [1, 2, 3, 4, 5, 6, 7] rfl)
      · have h := fo_if h hc
        refine lv_iload hx hb dX8_findRing_128 (lv_at hl 7 rfl) ?_
        refine lv_iload hx hb dX8_findRing_130 (lv_at hl 5 rfl) ?_
        refine lv_icmp_eq (tgt := 149) hx hb dX8_findRing_132 (by decide) (fun hc => ?_) (fun hc => ?_)
        · have h := fo_it h hc
          exact w8_findRing_b149 C hK hA (fun h => hrec2 h) h hG (lv_sub hl [1, 2, 3, 4, 5, 6, 7] rfl)
        · have h := fo_if h hc
          refine lv_aload_n hx hb dX8_findRing_135 rfl (lv_at hl 1 rfl) ?_
          refine lv_iload hx hb dX8_findRing_136 (lv_at hl 7 rfl) ?_
          refine lv_iload_n hx hb dX8_findRing_138 rfl (lv_at hl 2 rfl) ?_
          obtain ⟨q139, hq139, h⟩ := fo_bd_some h
          refine gc_iV (b := a 0) (C := RX8) (As := [.int v6, .int v1]) (rest := []) (wc := (wd_M0 cI a (S 8) (S 0))) (w1 := (wd_M0 cI a (S 8) (S 0))) (ci := 7) (q0 := 0) ⟨hx, hb, hml, hown, hts⟩ (c8_debtOf l (a := a) (X := (S 8)) hq139) (cwV 2 hts gv_X8_46 rfl rfl rfl hd8_debtOf ⟨Nat.le_of_ble_eq_true rfl, Nat.le_of_ble_eq_true rfl⟩) hK [0] rfl hA hG [0, 1] rfl rfl rfl rfl rfl rfl hl.1 rfl (Nat.le_of_ble_eq_true rfl) dX8_findRing_139 ⟨Nat.zero_le _, Nat.zero_le _⟩ (fun H locs hG9 => ?_)
          have hG : gd_W (dC, dI) A s (wd_M cI a S) H locs := hG9
          refine lv_if_le (tgt := 149) hx hb dX8_findRing_142 (by decide) (fun hc => ?_) (fun hc => ?_)
          · have h := fo_it h hc
            exact w8_findRing_b149 C hK hA (fun h => hrec2 h) h hG (lv_sub hl [1, 2, 3, 4, 5, 6, 7] rfl)
          · have h := fo_if h hc
            exact w8_findRing_b145 C hK hA (fun h => hrec2 h) h hG (lv_sub hl [1, 2, 3, 4, 5, 6, 7] rfl)
set_option maxRecDepth 100000 in
set_option maxHeartbeats 4000000 in
theorem w8_findRing_b109 (C : cx_M p s m args meth c RX8 cX8_findRing (some .boolean) 8) (hK : va_K (dC, dI) vwCl [(cI, .int)] s) (hA : ∀ q, s.heap.size ≤ q → A q) {a : Nat → Nat} {q : (Int32 × ms_T)} {rec2 : Int32 → Int32 → Int32 → ms_T → Option (Int32 × ms_T)} (hrec2 : ∀ {v1 : Int32} {v2 : Int32} {v3 : Int32} {S : ms_T} , rec2 v1 v2 v3 S = some q → ∀ {H : Heap} {locs : List Loc} {ls : Array Slot}, gd_W (dC, dI) A s (wd_M cI a S) H locs → lv_has ls 8 [(0, .ref (a 0)), (1, .int v1), (2, .int v2), (3, .int v3)] → W p l e RM8_findRing s m args below meth c H locs 0 0 (MQ below (qi_W (dC, dI) [(cI, .int)] A q.1 (wd_M cI a q.2)) args s 0 0 A) (F0 m 2 ls [])) {v1 : Int32} {v2 : Int32} {v3 : Int32} {v4 : Int32} {v5 : Int32} {v6 : Int32} {S : ms_T} (h : f8_findRing_b109 rec2 v1 v2 v3 v4 v5 v6 S = some q) {H : Heap} {locs : List Loc} {ls : Array Slot} (hG : gd_W (dC, dI) A s (wd_M cI a S) H locs) (hl : lv_has ls 8 [(0, .ref (a 0)), (1, .int v1), (2, .int v2), (3, .int v3), (4, .int v4), (5, .int v5), (6, .int v6)]) : W p l e RM8_findRing s m args below meth c H locs 0 0 (MQ below (qi_W (dC, dI) [(cI, .int)] A q.1 (wd_M cI a q.2)) args s 0 0 A) (F0 m 109 ls []) := by
  unfold f8_findRing_b109 at h
  obtain ⟨hx, hb, hr, hts, hown, hlocks, hml⟩ := id C
  refine lv_iconst (v := (0 : Int32)) hx hb dX8_findRing_109 (by decide) ?_
  exact w8_findRing_b110 C hK hA (fun h => hrec2 h) h hG (lv_sub hl [0, 1, 2, 3, 4, 5, 6] rfl)
set_option maxRecDepth 100000 in
set_option maxHeartbeats 4000000 in
theorem w8_findRing_b105 (C : cx_M p s m args meth c RX8 cX8_findRing (some .boolean) 8) (hK : va_K (dC, dI) vwCl [(cI, .int)] s) (hA : ∀ q, s.heap.size ≤ q → A q) {a : Nat → Nat} {q : (Int32 × ms_T)} {rec2 : Int32 → Int32 → Int32 → ms_T → Option (Int32 × ms_T)} (hrec2 : ∀ {v1 : Int32} {v2 : Int32} {v3 : Int32} {S : ms_T} , rec2 v1 v2 v3 S = some q → ∀ {H : Heap} {locs : List Loc} {ls : Array Slot}, gd_W (dC, dI) A s (wd_M cI a S) H locs → lv_has ls 8 [(0, .ref (a 0)), (1, .int v1), (2, .int v2), (3, .int v3)] → W p l e RM8_findRing s m args below meth c H locs 0 0 (MQ below (qi_W (dC, dI) [(cI, .int)] A q.1 (wd_M cI a q.2)) args s 0 0 A) (F0 m 2 ls [])) {v1 : Int32} {v2 : Int32} {v3 : Int32} {v4 : Int32} {v5 : Int32} {v6 : Int32} {S : ms_T} (h : f8_findRing_b105 rec2 v1 v2 v3 v4 v5 v6 S = some q) {H : Heap} {locs : List Loc} {ls : Array Slot} (hG : gd_W (dC, dI) A s (wd_M cI a S) H locs) (hl : lv_has ls 8 [(0, .ref (a 0)), (1, .int v1), (2, .int v2), (3, .int v3), (4, .int v4), (5, .int v5), (6, .int v6)]) : W p l e RM8_findRing s m args below meth c H locs 0 0 (MQ below (qi_W (dC, dI) [(cI, .int)] A q.1 (wd_M cI a q.2)) args s 0 0 A) (F0 m 105 ls []) := by
  unfold f8_findRing_b105 at h
  obtain ⟨hx, hb, hr, hts, hown, hlocks, hml⟩ := id C
  refine lv_iconst (v := (1 : Int32)) hx hb dX8_findRing_105 (by decide) ?_
  refine lv_goto (tgt := 110) hx hb dX8_findRing_106 (by decide) ?_
  exact w8_findRing_b110 C hK hA (fun h => hrec2 h) h hG (lv_sub hl [0, 1, 2, 3, 4, 5, 6] rfl)
set_option maxRecDepth 100000 in
set_option maxHeartbeats 4000000 in
theorem w8_findRing_b76 (C : cx_M p s m args meth c RX8 cX8_findRing (some .boolean) 8) (hK : va_K (dC, dI) vwCl [(cI, .int)] s) (hA : ∀ q, s.heap.size ≤ q → A q) {a : Nat → Nat} {q : (Int32 × ms_T)} {rec2 : Int32 → Int32 → Int32 → ms_T → Option (Int32 × ms_T)} (hrec2 : ∀ {v1 : Int32} {v2 : Int32} {v3 : Int32} {S : ms_T} , rec2 v1 v2 v3 S = some q → ∀ {H : Heap} {locs : List Loc} {ls : Array Slot}, gd_W (dC, dI) A s (wd_M cI a S) H locs → lv_has ls 8 [(0, .ref (a 0)), (1, .int v1), (2, .int v2), (3, .int v3)] → W p l e RM8_findRing s m args below meth c H locs 0 0 (MQ below (qi_W (dC, dI) [(cI, .int)] A q.1 (wd_M cI a q.2)) args s 0 0 A) (F0 m 2 ls [])) {v1 : Int32} {v2 : Int32} {v3 : Int32} {v4 : Int32} {v5 : Int32} {v6 : Int32} {t0 : Int32} {S : ms_T} (h : f8_findRing_b76 rec2 v1 v2 v3 v4 v5 v6 t0 S = some q) {H : Heap} {locs : List Loc} {ls : Array Slot} (hG : gd_W (dC, dI) A s (wd_M cI a S) H locs) (hl : lv_has ls 8 [(0, .ref (a 0)), (1, .int v1), (2, .int v2), (3, .int v3), (4, .int v4), (5, .int v5), (6, .int v6)]) : W p l e RM8_findRing s m args below meth c H locs 0 0 (MQ below (qi_W (dC, dI) [(cI, .int)] A q.1 (wd_M cI a q.2)) args s 0 0 A) (F0 m 76 ls [.int t0]) := by
  unfold f8_findRing_b76 at h
  obtain ⟨hx, hb, hr, hts, hown, hlocks, hml⟩ := id C
  refine lv_istore (lv' := [(7, .int t0), (0, .ref (a 0)), (1, .int v1), (2, .int v2), (3, .int v3), (4, .int v4), (5, .int v5), (6, .int v6)]) hx hb dX8_findRing_76 hl (by decide) rfl (fun ls hl => ?_)
  refine lv_iload hx hb dX8_findRing_78 (lv_at hl 0 rfl) ?_
  refine lv_if_eq (tgt := 109) hx hb dX8_findRing_80 (by decide) (fun hc => ?_) (fun hc => ?_)
  · have h := fo_it h hc
    exact w8_findRing_b109 C hK hA (fun h => hrec2 h) h hG (lv_sub hl [1, 2, 3, 4, 5, 6, 7] rfl)
  · have h := fo_if h hc
    refine lv_iload_n hx hb dX8_findRing_83 rfl (lv_at hl 3 rfl) ?_
    refine lv_iconst (v := (3 : Int32)) hx hb dX8_findRing_84 (by decide) ?_
    refine lv_icmp_lt (tgt := 105) hx hb dX8_findRing_85 (by decide) (fun hc => ?_) (fun hc => ?_)
    · have h := fo_it h hc
      exact w8_findRing_b105 C hK hA (fun h => hrec2 h) h hG (lv_sub hl [1, 2, 3, 4, 5, 6, 7] rfl)
    · have h := fo_if h hc
      refine lv_iload hx hb dX8_findRing_88 (lv_at hl 6 rfl) ?_
      refine lv_iload_n hx hb dX8_findRing_90 rfl (lv_at hl 2 rfl) ?_
      refine lv_icmp_eq (tgt := 109) hx hb dX8_findRing_91 (by decide) (fun hc => ?_) (fun hc => ?_)
      · have h := fo_it h hc
        exact w8_findRing_b109 C hK hA (fun h => hrec2 h) h hG (lv_sub hl [1, 2, 3, 4, 5, 6, 7] rfl)
      · have h := fo_if h hc
        refine lv_aload_n hx hb dX8_findRing_94 rfl (lv_at hl 1 rfl) ?_
        refine lv_iload hx hb dX8_findRing_95 (lv_at hl 6 rfl) ?_
        refine lv_iload hx hb dX8_findRing_97 (lv_at hl 7 rfl) ?_
        obtain ⟨q99, hq99, h⟩ := fo_bd_some h
        refine gc_iV (b := a 0) (C := RX8) (As := [.int v5, .int v6]) (rest := []) (wc := (wd_M0 cI a (S 8) (S 0))) (w1 := (wd_M0 cI a (S 8) (S 0))) (ci := 7) (q0 := 0) ⟨hx, hb, hml, hown, hts⟩ (c8_debtOf l (a := a) (X := (S 8)) hq99) (cwV 2 hts gv_X8_46 rfl rfl rfl hd8_debtOf ⟨Nat.le_of_ble_eq_true rfl, Nat.le_of_ble_eq_true rfl⟩) hK [0] rfl hA hG [0, 1] rfl rfl rfl rfl rfl rfl hl.1 rfl (Nat.le_of_ble_eq_true rfl) dX8_findRing_99 ⟨Nat.zero_le _, Nat.zero_le _⟩ (fun H locs hG9 => ?_)
        have hG : gd_W (dC, dI) A s (wd_M cI a S) H locs := hG9
        refine lv_if_le (tgt := 109) hx hb dX8_findRing_102 (by decide) (fun hc => ?_) (fun hc => ?_)
        · have h := fo_it h hc
          exact w8_findRing_b109 C hK hA (fun h => hrec2 h) h hG (lv_sub hl [1, 2, 3, 4, 5, 6, 7] rfl)
        · have h := fo_if h hc
          exact w8_findRing_b105 C hK hA (fun h => hrec2 h) h hG (lv_sub hl [1, 2, 3, 4, 5, 6, 7] rfl)
set_option maxRecDepth 100000 in
set_option maxHeartbeats 4000000 in
theorem w8_findRing_b75 (C : cx_M p s m args meth c RX8 cX8_findRing (some .boolean) 8) (hK : va_K (dC, dI) vwCl [(cI, .int)] s) (hA : ∀ q, s.heap.size ≤ q → A q) {a : Nat → Nat} {q : (Int32 × ms_T)} {rec2 : Int32 → Int32 → Int32 → ms_T → Option (Int32 × ms_T)} (hrec2 : ∀ {v1 : Int32} {v2 : Int32} {v3 : Int32} {S : ms_T} , rec2 v1 v2 v3 S = some q → ∀ {H : Heap} {locs : List Loc} {ls : Array Slot}, gd_W (dC, dI) A s (wd_M cI a S) H locs → lv_has ls 8 [(0, .ref (a 0)), (1, .int v1), (2, .int v2), (3, .int v3)] → W p l e RM8_findRing s m args below meth c H locs 0 0 (MQ below (qi_W (dC, dI) [(cI, .int)] A q.1 (wd_M cI a q.2)) args s 0 0 A) (F0 m 2 ls [])) {v1 : Int32} {v2 : Int32} {v3 : Int32} {v4 : Int32} {v5 : Int32} {v6 : Int32} {S : ms_T} (h : f8_findRing_b75 rec2 v1 v2 v3 v4 v5 v6 S = some q) {H : Heap} {locs : List Loc} {ls : Array Slot} (hG : gd_W (dC, dI) A s (wd_M cI a S) H locs) (hl : lv_has ls 8 [(0, .ref (a 0)), (1, .int v1), (2, .int v2), (3, .int v3), (4, .int v4), (5, .int v5), (6, .int v6)]) : W p l e RM8_findRing s m args below meth c H locs 0 0 (MQ below (qi_W (dC, dI) [(cI, .int)] A q.1 (wd_M cI a q.2)) args s 0 0 A) (F0 m 75 ls []) := by
  unfold f8_findRing_b75 at h
  obtain ⟨hx, hb, hr, hts, hown, hlocks, hml⟩ := id C
  refine lv_iconst (v := (0 : Int32)) hx hb dX8_findRing_75 (by decide) ?_
  exact w8_findRing_b76 C hK hA (fun h => hrec2 h) h hG (lv_sub hl [0, 1, 2, 3, 4, 5, 6] rfl)
set_option maxRecDepth 100000 in
set_option maxHeartbeats 4000000 in
theorem w8_findRing_b42 (C : cx_M p s m args meth c RX8 cX8_findRing (some .boolean) 8) (hK : va_K (dC, dI) vwCl [(cI, .int)] s) (hA : ∀ q, s.heap.size ≤ q → A q) {a : Nat → Nat} {q : (Int32 × ms_T)} {rec2 : Int32 → Int32 → Int32 → ms_T → Option (Int32 × ms_T)} (hrec2 : ∀ {v1 : Int32} {v2 : Int32} {v3 : Int32} {S : ms_T} , rec2 v1 v2 v3 S = some q → ∀ {H : Heap} {locs : List Loc} {ls : Array Slot}, gd_W (dC, dI) A s (wd_M cI a S) H locs → lv_has ls 8 [(0, .ref (a 0)), (1, .int v1), (2, .int v2), (3, .int v3)] → W p l e RM8_findRing s m args below meth c H locs 0 0 (MQ below (qi_W (dC, dI) [(cI, .int)] A q.1 (wd_M cI a q.2)) args s 0 0 A) (F0 m 2 ls [])) {v1 : Int32} {v2 : Int32} {v3 : Int32} {v4 : Int32} {v5 : Int32} {t0 : Int32} {S : ms_T} (h : f8_findRing_b42 rec2 v1 v2 v3 v4 v5 t0 S = some q) {H : Heap} {locs : List Loc} {ls : Array Slot} (hG : gd_W (dC, dI) A s (wd_M cI a S) H locs) (hl : lv_has ls 8 [(0, .ref (a 0)), (1, .int v1), (2, .int v2), (3, .int v3), (4, .int v4), (5, .int v5)]) : W p l e RM8_findRing s m args below meth c H locs 0 0 (MQ below (qi_W (dC, dI) [(cI, .int)] A q.1 (wd_M cI a q.2)) args s 0 0 A) (F0 m 42 ls [.int t0]) := by
  unfold f8_findRing_b42 at h
  obtain ⟨hx, hb, hr, hts, hown, hlocks, hml⟩ := id C
  refine lv_istore (lv' := [(6, .int t0), (0, .ref (a 0)), (1, .int v1), (2, .int v2), (3, .int v3), (4, .int v4), (5, .int v5)]) hx hb dX8_findRing_42 hl (by decide) rfl (fun ls hl => ?_)
  refine lv_iload hx hb dX8_findRing_44 (lv_at hl 5 rfl) ?_
  refine lv_iload_n hx hb dX8_findRing_46 rfl (lv_at hl 2 rfl) ?_
  refine lv_icmp_eq (tgt := 75) hx hb dX8_findRing_47 (by decide) (fun hc => ?_) (fun hc => ?_)
  · have h := fo_it h hc
    exact w8_findRing_b75 C hK hA (fun h => hrec2 h) h hG (lv_sub hl [1, 2, 3, 4, 5, 6, 0] rfl)
  · have h := fo_if h hc
    refine lv_aload_n hx hb dX8_findRing_50 rfl (lv_at hl 1 rfl) ?_
    refine lv_iload_n hx hb dX8_findRing_51 rfl (lv_at hl 2 rfl) ?_
    refine lv_iload hx hb dX8_findRing_52 (lv_at hl 5 rfl) ?_
    obtain ⟨q54, hq54, h⟩ := fo_bd_some h
    refine gc_iV (b := a 0) (C := RX8) (As := [.int v1, .int v4]) (rest := []) (wc := (wd_M0 cI a (S 8) (S 0))) (w1 := (wd_M0 cI a (S 8) (S 0))) (ci := 7) (q0 := 0) ⟨hx, hb, hml, hown, hts⟩ (c8_debtOf l (a := a) (X := (S 8)) hq54) (cwV 2 hts gv_X8_46 rfl rfl rfl hd8_debtOf ⟨Nat.le_of_ble_eq_true rfl, Nat.le_of_ble_eq_true rfl⟩) hK [0] rfl hA hG [0, 1] rfl rfl rfl rfl rfl rfl hl.1 rfl (Nat.le_of_ble_eq_true rfl) dX8_findRing_54 ⟨Nat.zero_le _, Nat.zero_le _⟩ (fun H locs hG9 => ?_)
    have hG : gd_W (dC, dI) A s (wd_M cI a S) H locs := hG9
    refine lv_if_le (tgt := 75) hx hb dX8_findRing_57 (by decide) (fun hc => ?_) (fun hc => ?_)
    · have h := fo_it h hc
      exact w8_findRing_b75 C hK hA (fun h => hrec2 h) h hG (lv_sub hl [1, 2, 3, 4, 5, 6, 0] rfl)
    · have h := fo_if h hc
      refine lv_aload_n hx hb dX8_findRing_60 rfl (lv_at hl 1 rfl) ?_
      refine lv_iload hx hb dX8_findRing_61 (lv_at hl 5 rfl) ?_
      refine lv_iload hx hb dX8_findRing_63 (lv_at hl 6 rfl) ?_
      obtain ⟨q65, hq65, h⟩ := fo_bd_some h
      refine gc_iV (b := a 0) (C := RX8) (As := [.int v4, .int v5]) (rest := []) (wc := (wd_M0 cI a (S 8) (S 0))) (w1 := (wd_M0 cI a (S 8) (S 0))) (ci := 7) (q0 := 0) ⟨hx, hb, hml, hown, hts⟩ (c8_debtOf l (a := a) (X := (S 8)) hq65) (cwV 2 hts gv_X8_46 rfl rfl rfl hd8_debtOf ⟨Nat.le_of_ble_eq_true rfl, Nat.le_of_ble_eq_true rfl⟩) hK [0] rfl hA hG [0, 1] rfl rfl rfl rfl rfl rfl hl.1 rfl (Nat.le_of_ble_eq_true rfl) dX8_findRing_65 ⟨Nat.zero_le _, Nat.zero_le _⟩ (fun H locs hG9 => ?_)
      have hG : gd_W (dC, dI) A s (wd_M cI a S) H locs := hG9
      refine lv_if_le (tgt := 75) hx hb dX8_findRing_68 (by decide) (fun hc => ?_) (fun hc => ?_)
      · have h := fo_it h hc
        exact w8_findRing_b75 C hK hA (fun h => hrec2 h) h hG (lv_sub hl [1, 2, 3, 4, 5, 6, 0] rfl)
      · have h := fo_if h hc
        refine lv_iconst (v := (1 : Int32)) hx hb dX8_findRing_71 (by decide) ?_
        refine lv_goto (tgt := 76) hx hb dX8_findRing_72 (by decide) ?_
        exact w8_findRing_b76 C hK hA (fun h => hrec2 h) h hG (lv_sub hl [1, 2, 3, 4, 5, 6, 0] rfl)
set_option maxRecDepth 100000 in
set_option maxHeartbeats 4000000 in
theorem w8_findRing_b28 (C : cx_M p s m args meth c RX8 cX8_findRing (some .boolean) 8) (hK : va_K (dC, dI) vwCl [(cI, .int)] s) (hA : ∀ q, s.heap.size ≤ q → A q) {a : Nat → Nat} {q : (Int32 × ms_T)} {rec2 : Int32 → Int32 → Int32 → ms_T → Option (Int32 × ms_T)} (hrec2 : ∀ {v1 : Int32} {v2 : Int32} {v3 : Int32} {S : ms_T} , rec2 v1 v2 v3 S = some q → ∀ {H : Heap} {locs : List Loc} {ls : Array Slot}, gd_W (dC, dI) A s (wd_M cI a S) H locs → lv_has ls 8 [(0, .ref (a 0)), (1, .int v1), (2, .int v2), (3, .int v3)] → W p l e RM8_findRing s m args below meth c H locs 0 0 (MQ below (qi_W (dC, dI) [(cI, .int)] A q.1 (wd_M cI a q.2)) args s 0 0 A) (F0 m 2 ls [])) {v1 : Int32} {v2 : Int32} {v3 : Int32} {v4 : Int32} {t0 : Int32} {S : ms_T} (h : f8_findRing_b28 rec2 v1 v2 v3 v4 t0 S = some q) {H : Heap} {locs : List Loc} {ls : Array Slot} (hG : gd_W (dC, dI) A s (wd_M cI a S) H locs) (hl : lv_has ls 8 [(0, .ref (a 0)), (1, .int v1), (2, .int v2), (3, .int v3), (4, .int v4)]) : W p l e RM8_findRing s m args below meth c H locs 0 0 (MQ below (qi_W (dC, dI) [(cI, .int)] A q.1 (wd_M cI a q.2)) args s 0 0 A) (F0 m 28 ls [.int t0]) := by
  unfold f8_findRing_b28 at h
  obtain ⟨hx, hb, hr, hts, hown, hlocks, hml⟩ := id C
  refine lv_istore (lv' := [(5, .int t0), (0, .ref (a 0)), (1, .int v1), (2, .int v2), (3, .int v3), (4, .int v4)]) hx hb dX8_findRing_28 hl (by decide) rfl (fun ls hl => ?_)
  refine lv_iload_n hx hb dX8_findRing_30 rfl (lv_at hl 3 rfl) ?_
  refine lv_iconst (v := (3 : Int32)) hx hb dX8_findRing_31 (by decide) ?_
  refine lv_icmp_le (tgt := 41) hx hb dX8_findRing_32 (by decide) (fun hc => ?_) (fun hc => ?_)
  · have h := fo_it h hc
    refine lv_iload_n hx hb dX8_findRing_41 rfl (lv_at hl 2 rfl) ?_
    exact w8_findRing_b42 C hK hA (fun h => hrec2 h) h hG (lv_sub hl [1, 2, 3, 4, 5, 0] rfl)
  · have h := fo_if h hc
    refine lv_iload_n hx hb dX8_findRing_35 rfl (lv_at hl 4 rfl) ?_
    refine lv_iconst (v := (4 : Int32)) hx hb dX8_findRing_36 (by decide) ?_
    refine lv_irem hx hb dX8_findRing_37 (by decide) ?_
    refine lv_goto (tgt := 42) hx hb dX8_findRing_38 (by decide) ?_
    exact w8_findRing_b42 C hK hA (fun h => hrec2 h) h hG (lv_sub hl [1, 2, 3, 4, 5, 0] rfl)
set_option maxRecDepth 100000 in
set_option maxHeartbeats 4000000 in
theorem w8_findRing_b2 (C : cx_M p s m args meth c RX8 cX8_findRing (some .boolean) 8) (hK : va_K (dC, dI) vwCl [(cI, .int)] s) (hA : ∀ q, s.heap.size ≤ q → A q) {a : Nat → Nat} {q : (Int32 × ms_T)} {rec2 : Int32 → Int32 → Int32 → ms_T → Option (Int32 × ms_T)} (hrec2 : ∀ {v1 : Int32} {v2 : Int32} {v3 : Int32} {S : ms_T} , rec2 v1 v2 v3 S = some q → ∀ {H : Heap} {locs : List Loc} {ls : Array Slot}, gd_W (dC, dI) A s (wd_M cI a S) H locs → lv_has ls 8 [(0, .ref (a 0)), (1, .int v1), (2, .int v2), (3, .int v3)] → W p l e RM8_findRing s m args below meth c H locs 0 0 (MQ below (qi_W (dC, dI) [(cI, .int)] A q.1 (wd_M cI a q.2)) args s 0 0 A) (F0 m 2 ls [])) {v1 : Int32} {v2 : Int32} {v3 : Int32} {S : ms_T} (h : f8_findRing_b2 rec2 v1 v2 v3 S = some q) {H : Heap} {locs : List Loc} {ls : Array Slot} (hG : gd_W (dC, dI) A s (wd_M cI a S) H locs) (hl : lv_has ls 8 [(0, .ref (a 0)), (1, .int v1), (2, .int v2), (3, .int v3)]) : W p l e RM8_findRing s m args below meth c H locs 0 0 (MQ below (qi_W (dC, dI) [(cI, .int)] A q.1 (wd_M cI a q.2)) args s 0 0 A) (F0 m 2 ls []) := by
  unfold f8_findRing_b2 at h
  obtain ⟨hx, hb, hr, hts, hown, hlocks, hml⟩ := id C
  refine lv_iload_n hx hb dX8_findRing_2 rfl (lv_at hl 3 rfl) ?_
  refine lv_bipush (v := (64 : Int32)) hx hb dX8_findRing_3 (by decide) ?_
  refine lv_icmp_ge (tgt := 177) hx hb dX8_findRing_5 (by decide) (fun hc => ?_) (fun hc => ?_)
  · have h := fo_it h hc
    refine lv_iconst (v := (0 : Int32)) hx hb dX8_findRing_177 (by decide) ?_
    obtain rfl := Option.some.inj h
    exact gr_z hx hb hr hlocks hK hG rfl rfl dX8_findRing_178
  · have h := fo_if h hc
    refine lv_iload_n hx hb dX8_findRing_8 rfl (lv_at hl 3 rfl) ?_
    refine lv_bipush (v := (16 : Int32)) hx hb dX8_findRing_9 (by decide) ?_
    refine lv_idiv hx hb dX8_findRing_11 (by decide) ?_
    refine lv_istore (lv' := [(4, .int (v3 / (16 : Int32))), (0, .ref (a 0)), (1, .int v1), (2, .int v2), (3, .int v3)]) hx hb dX8_findRing_12 hl (by decide) rfl (fun ls hl => ?_)
    refine lv_iload_n hx hb dX8_findRing_14 rfl (lv_at hl 3 rfl) ?_
    refine lv_iconst (v := (2 : Int32)) hx hb dX8_findRing_15 (by decide) ?_
    refine lv_icmp_le (tgt := 27) hx hb dX8_findRing_16 (by decide) (fun hc => ?_) (fun hc => ?_)
    · have h := fo_it h hc
      refine lv_iload_n hx hb dX8_findRing_27 rfl (lv_at hl 2 rfl) ?_
      exact w8_findRing_b28 C hK hA (fun h => hrec2 h) h hG (lv_sub hl [1, 2, 3, 4, 0] rfl)
    · have h := fo_if h hc
      refine lv_iload_n hx hb dX8_findRing_19 rfl (lv_at hl 4 rfl) ?_
      refine lv_iconst (v := (4 : Int32)) hx hb dX8_findRing_20 (by decide) ?_
      refine lv_idiv hx hb dX8_findRing_21 (by decide) ?_
      refine lv_iconst (v := (4 : Int32)) hx hb dX8_findRing_22 (by decide) ?_
      refine lv_irem hx hb dX8_findRing_23 (by decide) ?_
      refine lv_goto (tgt := 28) hx hb dX8_findRing_24 (by decide) ?_
      exact w8_findRing_b28 C hK hA (fun h => hrec2 h) h hG (lv_sub hl [1, 2, 3, 4, 0] rfl)
set_option maxRecDepth 100000 in
set_option maxHeartbeats 4000000 in
theorem w8_findRing_L2 (C : cx_M p s m args meth c RX8 cX8_findRing (some .boolean) 8) (hK : va_K (dC, dI) vwCl [(cI, .int)] s) (hA : ∀ q, s.heap.size ≤ q → A q) {a : Nat → Nat} {q : (Int32 × ms_T)} : ∀ (n : Nat) {v1 : Int32} {v2 : Int32} {v3 : Int32} {S : ms_T}, f8_findRing_L2 n v1 v2 v3 S = some q → ∀ {H : Heap} {locs : List Loc} {ls : Array Slot}, gd_W (dC, dI) A s (wd_M cI a S) H locs → lv_has ls 8 [(0, .ref (a 0)), (1, .int v1), (2, .int v2), (3, .int v3)] → W p l e RM8_findRing s m args below meth c H locs 0 0 (MQ below (qi_W (dC, dI) [(cI, .int)] A q.1 (wd_M cI a q.2)) args s 0 0 A) (F0 m 2 ls []) := by
  intro n
  induction n with
  | zero => intro _ _ _ _ h; exact nomatch h
  | succ n ih => intro v1 v2 v3 S h H locs ls hG hl; exact w8_findRing_b2 C hK hA (fun h => ih h) (show f8_findRing_b2 (f8_findRing_L2 n) v1 v2 v3 S = some q from h) hG hl
set_option maxRecDepth 100000 in
set_option maxHeartbeats 4000000 in
theorem w8_findRing (C : cx_M p s m args meth c RX8 cX8_findRing (some .boolean) 8) (hK : va_K (dC, dI) vwCl [(cI, .int)] s) (hA : ∀ q, s.heap.size ≤ q → A q) {a : Nat → Nat} {q : (Int32 × ms_T)} {v1 : Int32} {v2 : Int32} {S : ms_T} (h : f8_findRing v1 v2 S = some q) {H : Heap} {locs : List Loc} {ls : Array Slot} (hG : gd_W (dC, dI) A s (wd_M cI a S) H locs) (hl : lv_has ls 8 [(0, .ref (a 0)), (1, .int v1), (2, .int v2)]) : W p l e RM8_findRing s m args below meth c H locs 0 0 (MQ below (qi_W (dC, dI) [(cI, .int)] A q.1 (wd_M cI a q.2)) args s 0 0 A) (F0 m 0 ls []) := by
  unfold f8_findRing at h
  obtain ⟨hx, hb, hr, hts, hown, hlocks, hml⟩ := id C
  refine lv_iconst (v := (0 : Int32)) hx hb dX8_findRing_0 (by decide) ?_
  refine lv_istore_n (lv' := [(3, .int (0 : Int32)), (0, .ref (a 0)), (1, .int v1), (2, .int v2)]) hx hb dX8_findRing_1 rfl hl (by decide) rfl (fun ls hl => ?_)
  exact w8_findRing_L2 C hK hA fo_fu h hG (lv_sub hl [1, 2, 3, 0] rfl)
set_option maxRecDepth 100000 in
set_option maxHeartbeats 4000000 in
theorem c8_findRing (l : Launch) {dC : Nat → ClassId} {dI : Nat → Nat → Nat} {cI : ClassId} {a : Nat → Nat} {v1 : Int32} {v2 : Int32} {S : ms_T} {q : (Int32 × ms_T)} (h : f8_findRing v1 v2 S = some q) : mi_M l yX8_findRing wm8_findRing RM8_findRing (dC, dI) [(cI, .int)] [.ref (a 0), .int v1, .int v2] (wd_M cI a S) q.1 (wd_M cI a q.2) := by
  intro sz
  refine Met.ofW (cc := cX8_findRing) (maxL := 8) (ret := (some .boolean)) (by decide) rfl ?_
  intro p e s m args below meth c s₁ B hml hv
  obtain ⟨rfl, hsz, hP, hK, hD0⟩ := hv
  subst hsz
  have hl := lv_entry ([.ref (a 0), .int v1, .int v2] : List Value) (n := 8) (Nat.le_of_ble_eq_true rfl)
  rw [lg_entry_eq]
  generalize (lg_sl ([.ref (a 0), .int v1, .int v2] : List Value) ++ List.replicate (8 - (lg_sl ([.ref (a 0), .int v1, .int v2] : List Value)).length) Slot.unset).toArray = ls at hl ⊢
  exact w8_findRing (a := a) ⟨B.exec, B.bytes, B.returns, fun w hw => atoms_spec (ws := wm8_findRing) B.pre w (List.mem_cons_of_mem _ hw), findClass_of_methodNamed B.named, B.notSynchronized, hml⟩ hK (fun _ h => Or.inr h) h ⟨hP, hD0.self, va_S.rf⟩ hl
end
/-! ## DiceRoadsModel.clearsRing()I -/
section
variable {p : Program} {l : Launch} {e : Env} {s : State} {m : MethodId} {args : Array Value} {below : List Frame} {meth : Method} {c : Code} {dC : Nat → ClassId} {dI : Nat → Nat → Nat} {cI : ClassId} {A : Nat → Prop}
set_option maxRecDepth 100000 in
set_option maxHeartbeats 4000000 in
theorem w8_clearsRing_b70 (C : cx_M p s m args meth c RX8 cX8_clearsRing (some .int) 4) (hK : va_K (dC, dI) vwCl [(cI, .int)] s) (hA : ∀ q, s.heap.size ≤ q → A q) {a : Nat → Nat} {q : (Int32 × ms_T)} {rec70 : Int32 → Int32 → ms_T → Option (Int32 × ms_T)} (hrec70 : ∀ {v1 : Int32} {v2 : Int32} {S : ms_T} , rec70 v1 v2 S = some q → ∀ {H : Heap} {locs : List Loc} {ls : Array Slot}, gd_W (dC, dI) A s (wd_M cI a S) H locs → lv_has ls 4 [(0, .ref (a 0)), (1, .int v1), (2, .int v2)] → W p l e RM8_clearsRing s m args below meth c H locs 0 0 (MQ below (qi_W (dC, dI) [(cI, .int)] A q.1 (wd_M cI a q.2)) args s 0 0 A) (F0 m 70 ls [])) {v1 : Int32} {v2 : Int32} {S : ms_T} (h : f8_clearsRing_b70 rec70 v1 v2 S = some q) {H : Heap} {locs : List Loc} {ls : Array Slot} (hG : gd_W (dC, dI) A s (wd_M cI a S) H locs) (hl : lv_has ls 4 [(0, .ref (a 0)), (1, .int v1), (2, .int v2)]) : W p l e RM8_clearsRing s m args below meth c H locs 0 0 (MQ below (qi_W (dC, dI) [(cI, .int)] A q.1 (wd_M cI a q.2)) args s 0 0 A) (F0 m 70 ls []) := by
  unfold f8_clearsRing_b70 at h
  obtain ⟨hx, hb, hr, hts, hown, hlocks, hml⟩ := id C
  refine lv_iload_n hx hb dX8_clearsRing_70 rfl (lv_at hl 2 rfl) ?_
  refine lv_aload_n hx hb dX8_clearsRing_71 rfl (lv_at hl 0 rfl) ?_
  refine va_get (D := (dC, dI)) (ci := 7) (v := .int (S 8 5)) (C := RX8) (T := TX8) (N := 17) hx hb hts inlX8 hown hK hG.1 0 rfl rfl 12 (by decide) (hts (Cond.fieldLink RX8 143 "DiceRoadsModel" "ringMany" "I") wq_649) (fun _ h9 => h9) rfl dX8_clearsRing_72 ?_
  refine lv_icmp_ge (tgt := 109) hx hb dX8_clearsRing_75 (by decide) (fun hc => ?_) (fun hc => ?_)
  · have h := fo_it h hc
    refine lv_iload_n hx hb dX8_clearsRing_109 rfl (lv_at hl 1 rfl) ?_
    obtain rfl := Option.some.inj h
    exact gr_i hx hb hr hlocks hK hG rfl dX8_clearsRing_110
  · have h := fo_if h hc
    refine lv_aload_n hx hb dX8_clearsRing_78 rfl (lv_at hl 0 rfl) ?_
    refine lv_aload_n hx hb dX8_clearsRing_79 rfl (lv_at hl 0 rfl) ?_
    refine va_get (D := (dC, dI)) (ci := 7) (v := .ref (a 7)) (C := RX8) (T := TX8) (N := 17) hx hb hts inlX8 hown hK hG.1 0 rfl rfl 11 (by decide) (hts (Cond.fieldLink RX8 28 "DiceRoadsModel" "ring" "[I") wq_648) (fun _ h9 => h9) rfl dX8_clearsRing_80 ?_
    refine lv_iload_n hx hb dX8_clearsRing_83 rfl (lv_at hl 2 rfl) ?_
    obtain ⟨hi, h⟩ := fo_ck_some h
    refine va_iald hx hb hK hG.1 7 0 rfl rfl hi dX8_clearsRing_84 ?_
    refine lv_aload_n hx hb dX8_clearsRing_85 rfl (lv_at hl 0 rfl) ?_
    refine va_get (D := (dC, dI)) (ci := 7) (v := .ref (a 7)) (C := RX8) (T := TX8) (N := 17) hx hb hts inlX8 hown hK hG.1 0 rfl rfl 11 (by decide) (hts (Cond.fieldLink RX8 28 "DiceRoadsModel" "ring" "[I") wq_648) (fun _ h9 => h9) rfl dX8_clearsRing_86 ?_
    refine lv_iload_n hx hb dX8_clearsRing_89 rfl (lv_at hl 2 rfl) ?_
    refine lv_iconst (v := (1 : Int32)) hx hb dX8_clearsRing_90 (by decide) ?_
    refine lv_iadd hx hb dX8_clearsRing_91 ?_
    refine lv_aload_n hx hb dX8_clearsRing_92 rfl (lv_at hl 0 rfl) ?_
    refine va_get (D := (dC, dI)) (ci := 7) (v := .int (S 8 5)) (C := RX8) (T := TX8) (N := 17) hx hb hts inlX8 hown hK hG.1 0 rfl rfl 12 (by decide) (hts (Cond.fieldLink RX8 143 "DiceRoadsModel" "ringMany" "I") wq_649) (fun _ h9 => h9) rfl dX8_clearsRing_93 ?_
    obtain ⟨hz, h⟩ := fo_nz_some h
    refine lv_irem hx hb dX8_clearsRing_96 hz ?_
    obtain ⟨hi, h⟩ := fo_ck_some h
    refine va_iald hx hb hK hG.1 7 0 rfl rfl hi dX8_clearsRing_97 ?_
    refine lv_iload_n hx hb dX8_clearsRing_98 rfl (lv_at hl 1 rfl) ?_
    refine lv_ineg hx hb dX8_clearsRing_99 ?_
    obtain ⟨q100, hq100, h⟩ := fo_bd_some h
    refine gc_vV (b := a 0) (C := RX8) (As := [.int ((S 6) v2.toNatClampNeg), .int ((S 6) ((v2 + (1 : Int32)) - (v2 + (1 : Int32)) / (S 8 5) * (S 8 5)).toNatClampNeg), .int (-v1)]) (rest := []) (wc := (wd_M0 cI a (S 8) (S 0))) (w1 := (wd_M0 cI a (S 8) q100)) (ci := 7) (q0 := 0) ⟨hx, hb, hml, hown, hts⟩ (c8_addsDebt l (a := a) (X := (S 8)) hq100) (cwV 3 hts gv_X8_79 rfl rfl rfl hd8_addsDebt ⟨Nat.le_of_ble_eq_true rfl, Nat.le_of_ble_eq_true rfl⟩) hK [0] rfl hA hG [0, 1] rfl rfl rfl rfl rfl rfl hl.1 rfl (Nat.le_of_ble_eq_true rfl) dX8_clearsRing_100 ⟨Nat.zero_le _, Nat.zero_le _⟩ (fun H locs hG9 => ?_)
    have hG : gd_W (dC, dI) A s (wd_M cI a (ms_set S 0 q100)) H locs := hG9
    refine lv_iinc (v := (v2 + (1 : Int32))) (lv' := [(2, .int (v2 + (1 : Int32))), (0, .ref (a 0)), (1, .int v1)]) hx hb dX8_clearsRing_103 hl (k := 2) rfl rfl (by decide) rfl (fun ls hl => ?_)
    refine lv_goto (tgt := 70) hx hb dX8_clearsRing_106 (by decide) ?_
    exact hrec70 h hG (lv_sub hl [1, 2, 0] rfl)
set_option maxRecDepth 100000 in
set_option maxHeartbeats 4000000 in
theorem w8_clearsRing_L70 (C : cx_M p s m args meth c RX8 cX8_clearsRing (some .int) 4) (hK : va_K (dC, dI) vwCl [(cI, .int)] s) (hA : ∀ q, s.heap.size ≤ q → A q) {a : Nat → Nat} {q : (Int32 × ms_T)} : ∀ (n : Nat) {v1 : Int32} {v2 : Int32} {S : ms_T}, f8_clearsRing_L70 n v1 v2 S = some q → ∀ {H : Heap} {locs : List Loc} {ls : Array Slot}, gd_W (dC, dI) A s (wd_M cI a S) H locs → lv_has ls 4 [(0, .ref (a 0)), (1, .int v1), (2, .int v2)] → W p l e RM8_clearsRing s m args below meth c H locs 0 0 (MQ below (qi_W (dC, dI) [(cI, .int)] A q.1 (wd_M cI a q.2)) args s 0 0 A) (F0 m 70 ls []) := by
  intro n
  induction n with
  | zero => intro _ _ _ h; exact nomatch h
  | succ n ih => intro v1 v2 S h H locs ls hG hl; exact w8_clearsRing_b70 C hK hA (fun h => ih h) (show f8_clearsRing_b70 (f8_clearsRing_L70 n) v1 v2 S = some q from h) hG hl
set_option maxRecDepth 100000 in
set_option maxHeartbeats 4000000 in
theorem w8_clearsRing_b61 (C : cx_M p s m args meth c RX8 cX8_clearsRing (some .int) 4) (hK : va_K (dC, dI) vwCl [(cI, .int)] s) (hA : ∀ q, s.heap.size ≤ q → A q) {a : Nat → Nat} {q : (Int32 × ms_T)} {rec19 : Int32 → Int32 → ms_T → Option (Int32 × ms_T)} (hrec19 : ∀ {v1 : Int32} {v2 : Int32} {S : ms_T} , rec19 v1 v2 S = some q → ∀ {H : Heap} {locs : List Loc} {ls : Array Slot}, gd_W (dC, dI) A s (wd_M cI a S) H locs → lv_has ls 4 [(0, .ref (a 0)), (1, .int v1), (2, .int v2)] → W p l e RM8_clearsRing s m args below meth c H locs 0 0 (MQ below (qi_W (dC, dI) [(cI, .int)] A q.1 (wd_M cI a q.2)) args s 0 0 A) (F0 m 19 ls [])) {v2 : Int32} {t0 : Int32} {S : ms_T} (h : f8_clearsRing_b61 rec19 v2 t0 S = some q) {H : Heap} {locs : List Loc} {ls : Array Slot} (hG : gd_W (dC, dI) A s (wd_M cI a S) H locs) (hl : lv_has ls 4 [(0, .ref (a 0)), (2, .int v2)]) : W p l e RM8_clearsRing s m args below meth c H locs 0 0 (MQ below (qi_W (dC, dI) [(cI, .int)] A q.1 (wd_M cI a q.2)) args s 0 0 A) (F0 m 61 ls [.int t0]) := by
  unfold f8_clearsRing_b61 at h
  obtain ⟨hx, hb, hr, hts, hown, hlocks, hml⟩ := id C
  refine lv_istore_n (lv' := [(1, .int t0), (0, .ref (a 0)), (2, .int v2)]) hx hb dX8_clearsRing_61 rfl hl (by decide) rfl (fun ls hl => ?_)
  refine lv_iinc (v := (v2 + (1 : Int32))) (lv' := [(2, .int (v2 + (1 : Int32))), (1, .int t0), (0, .ref (a 0))]) hx hb dX8_clearsRing_62 hl (k := 2) rfl rfl (by decide) rfl (fun ls hl => ?_)
  refine lv_goto (tgt := 19) hx hb dX8_clearsRing_65 (by decide) ?_
  exact hrec19 h hG (lv_sub hl [2, 1, 0] rfl)
set_option maxRecDepth 100000 in
set_option maxHeartbeats 4000000 in
theorem w8_clearsRing_b19 (C : cx_M p s m args meth c RX8 cX8_clearsRing (some .int) 4) (hK : va_K (dC, dI) vwCl [(cI, .int)] s) (hA : ∀ q, s.heap.size ≤ q → A q) {a : Nat → Nat} {q : (Int32 × ms_T)} {rec19 : Int32 → Int32 → ms_T → Option (Int32 × ms_T)} (hrec19 : ∀ {v1 : Int32} {v2 : Int32} {S : ms_T} , rec19 v1 v2 S = some q → ∀ {H : Heap} {locs : List Loc} {ls : Array Slot}, gd_W (dC, dI) A s (wd_M cI a S) H locs → lv_has ls 4 [(0, .ref (a 0)), (1, .int v1), (2, .int v2)] → W p l e RM8_clearsRing s m args below meth c H locs 0 0 (MQ below (qi_W (dC, dI) [(cI, .int)] A q.1 (wd_M cI a q.2)) args s 0 0 A) (F0 m 19 ls [])) {v1 : Int32} {v2 : Int32} {S : ms_T} (h : f8_clearsRing_b19 rec19 v1 v2 S = some q) {H : Heap} {locs : List Loc} {ls : Array Slot} (hG : gd_W (dC, dI) A s (wd_M cI a S) H locs) (hl : lv_has ls 4 [(0, .ref (a 0)), (1, .int v1), (2, .int v2)]) : W p l e RM8_clearsRing s m args below meth c H locs 0 0 (MQ below (qi_W (dC, dI) [(cI, .int)] A q.1 (wd_M cI a q.2)) args s 0 0 A) (F0 m 19 ls []) := by
  unfold f8_clearsRing_b19 at h
  obtain ⟨hx, hb, hr, hts, hown, hlocks, hml⟩ := id C
  refine lv_iload_n hx hb dX8_clearsRing_19 rfl (lv_at hl 2 rfl) ?_
  refine lv_aload_n hx hb dX8_clearsRing_20 rfl (lv_at hl 0 rfl) ?_
  refine va_get (D := (dC, dI)) (ci := 7) (v := .int (S 8 5)) (C := RX8) (T := TX8) (N := 17) hx hb hts inlX8 hown hK hG.1 0 rfl rfl 12 (by decide) (hts (Cond.fieldLink RX8 143 "DiceRoadsModel" "ringMany" "I") wq_649) (fun _ h9 => h9) rfl dX8_clearsRing_21 ?_
  refine lv_icmp_ge (tgt := 68) hx hb dX8_clearsRing_24 (by decide) (fun hc => ?_) (fun hc => ?_)
  · have h := fo_it h hc
    refine lv_iconst (v := (0 : Int32)) hx hb dX8_clearsRing_68 (by decide) ?_
    refine lv_istore_n (lv' := [(2, .int (0 : Int32)), (0, .ref (a 0)), (1, .int v1)]) hx hb dX8_clearsRing_69 rfl hl (by decide) rfl (fun ls hl => ?_)
    exact w8_clearsRing_L70 C hK hA fo_fu h hG (lv_sub hl [1, 2, 0] rfl)
  · have h := fo_if h hc
    refine lv_aload_n hx hb dX8_clearsRing_27 rfl (lv_at hl 0 rfl) ?_
    refine lv_aload_n hx hb dX8_clearsRing_28 rfl (lv_at hl 0 rfl) ?_
    refine va_get (D := (dC, dI)) (ci := 7) (v := .ref (a 7)) (C := RX8) (T := TX8) (N := 17) hx hb hts inlX8 hown hK hG.1 0 rfl rfl 11 (by decide) (hts (Cond.fieldLink RX8 28 "DiceRoadsModel" "ring" "[I") wq_648) (fun _ h9 => h9) rfl dX8_clearsRing_29 ?_
    refine lv_iload_n hx hb dX8_clearsRing_32 rfl (lv_at hl 2 rfl) ?_
    obtain ⟨hi, h⟩ := fo_ck_some h
    refine va_iald hx hb hK hG.1 7 0 rfl rfl hi dX8_clearsRing_33 ?_
    refine lv_aload_n hx hb dX8_clearsRing_34 rfl (lv_at hl 0 rfl) ?_
    refine va_get (D := (dC, dI)) (ci := 7) (v := .ref (a 7)) (C := RX8) (T := TX8) (N := 17) hx hb hts inlX8 hown hK hG.1 0 rfl rfl 11 (by decide) (hts (Cond.fieldLink RX8 28 "DiceRoadsModel" "ring" "[I") wq_648) (fun _ h9 => h9) rfl dX8_clearsRing_35 ?_
    refine lv_iload_n hx hb dX8_clearsRing_38 rfl (lv_at hl 2 rfl) ?_
    refine lv_iconst (v := (1 : Int32)) hx hb dX8_clearsRing_39 (by decide) ?_
    refine lv_iadd hx hb dX8_clearsRing_40 ?_
    refine lv_aload_n hx hb dX8_clearsRing_41 rfl (lv_at hl 0 rfl) ?_
    refine va_get (D := (dC, dI)) (ci := 7) (v := .int (S 8 5)) (C := RX8) (T := TX8) (N := 17) hx hb hts inlX8 hown hK hG.1 0 rfl rfl 12 (by decide) (hts (Cond.fieldLink RX8 143 "DiceRoadsModel" "ringMany" "I") wq_649) (fun _ h9 => h9) rfl dX8_clearsRing_42 ?_
    obtain ⟨hz, h⟩ := fo_nz_some h
    refine lv_irem hx hb dX8_clearsRing_45 hz ?_
    obtain ⟨hi, h⟩ := fo_ck_some h
    refine va_iald hx hb hK hG.1 7 0 rfl rfl hi dX8_clearsRing_46 ?_
    obtain ⟨q47, hq47, h⟩ := fo_bd_some h
    refine gc_iV (b := a 0) (C := RX8) (As := [.int ((S 6) v2.toNatClampNeg), .int ((S 6) ((v2 + (1 : Int32)) - (v2 + (1 : Int32)) / (S 8 5) * (S 8 5)).toNatClampNeg)]) (rest := []) (wc := (wd_M0 cI a (S 8) (S 0))) (w1 := (wd_M0 cI a (S 8) (S 0))) (ci := 7) (q0 := 0) ⟨hx, hb, hml, hown, hts⟩ (c8_debtOf l (a := a) (X := (S 8)) hq47) (cwV 2 hts gv_X8_46 rfl rfl rfl hd8_debtOf ⟨Nat.le_of_ble_eq_true rfl, Nat.le_of_ble_eq_true rfl⟩) hK [0] rfl hA hG [0, 1] rfl rfl rfl rfl rfl rfl hl.1 rfl (Nat.le_of_ble_eq_true rfl) dX8_clearsRing_47 ⟨Nat.zero_le _, Nat.zero_le _⟩ (fun H locs hG9 => ?_)
    have hG : gd_W (dC, dI) A s (wd_M cI a S) H locs := hG9
    refine lv_istore_n (lv' := [(3, .int q47), (0, .ref (a 0)), (1, .int v1), (2, .int v2)]) hx hb dX8_clearsRing_50 rfl hl (by decide) rfl (fun ls hl => ?_)
    refine lv_iload_n hx hb dX8_clearsRing_51 rfl (lv_at hl 0 rfl) ?_
    refine lv_iload_n hx hb dX8_clearsRing_52 rfl (lv_at hl 2 rfl) ?_
    refine lv_icmp_ge (tgt := 60) hx hb dX8_clearsRing_53 (by decide) (fun hc => ?_) (fun hc => ?_)
    · have h := fo_it h hc
      refine lv_iload_n hx hb dX8_clearsRing_60 rfl (lv_at hl 2 rfl) ?_
      exact w8_clearsRing_b61 C hK hA (fun h => hrec19 h) h hG (lv_sub hl [1, 3] rfl)
    · have h := fo_if h hc
      refine lv_iload_n hx hb dX8_clearsRing_56 rfl (lv_at hl 0 rfl) ?_
      refine lv_goto (tgt := 61) hx hb dX8_clearsRing_57 (by decide) ?_
      exact w8_clearsRing_b61 C hK hA (fun h => hrec19 h) h hG (lv_sub hl [1, 3] rfl)
set_option maxRecDepth 100000 in
set_option maxHeartbeats 4000000 in
theorem w8_clearsRing_L19 (C : cx_M p s m args meth c RX8 cX8_clearsRing (some .int) 4) (hK : va_K (dC, dI) vwCl [(cI, .int)] s) (hA : ∀ q, s.heap.size ≤ q → A q) {a : Nat → Nat} {q : (Int32 × ms_T)} : ∀ (n : Nat) {v1 : Int32} {v2 : Int32} {S : ms_T}, f8_clearsRing_L19 n v1 v2 S = some q → ∀ {H : Heap} {locs : List Loc} {ls : Array Slot}, gd_W (dC, dI) A s (wd_M cI a S) H locs → lv_has ls 4 [(0, .ref (a 0)), (1, .int v1), (2, .int v2)] → W p l e RM8_clearsRing s m args below meth c H locs 0 0 (MQ below (qi_W (dC, dI) [(cI, .int)] A q.1 (wd_M cI a q.2)) args s 0 0 A) (F0 m 19 ls []) := by
  intro n
  induction n with
  | zero => intro _ _ _ h; exact nomatch h
  | succ n ih => intro v1 v2 S h H locs ls hG hl; exact w8_clearsRing_b19 C hK hA (fun h => ih h) (show f8_clearsRing_b19 (f8_clearsRing_L19 n) v1 v2 S = some q from h) hG hl
set_option maxRecDepth 100000 in
set_option maxHeartbeats 4000000 in
theorem w8_clearsRing (C : cx_M p s m args meth c RX8 cX8_clearsRing (some .int) 4) (hK : va_K (dC, dI) vwCl [(cI, .int)] s) (hA : ∀ q, s.heap.size ≤ q → A q) {a : Nat → Nat} {q : (Int32 × ms_T)} {S : ms_T} (h : f8_clearsRing S = some q) {H : Heap} {locs : List Loc} {ls : Array Slot} (hG : gd_W (dC, dI) A s (wd_M cI a S) H locs) (hl : lv_has ls 4 [(0, .ref (a 0))]) : W p l e RM8_clearsRing s m args below meth c H locs 0 0 (MQ below (qi_W (dC, dI) [(cI, .int)] A q.1 (wd_M cI a q.2)) args s 0 0 A) (F0 m 0 ls []) := by
  unfold f8_clearsRing at h
  obtain ⟨hx, hb, hr, hts, hown, hlocks, hml⟩ := id C
  refine lv_aload_n hx hb dX8_clearsRing_0 rfl (lv_at hl 0 rfl) ?_
  refine lv_aload_n hx hb dX8_clearsRing_1 rfl (lv_at hl 0 rfl) ?_
  refine va_get (D := (dC, dI)) (ci := 7) (v := .ref (a 7)) (C := RX8) (T := TX8) (N := 17) hx hb hts inlX8 hown hK hG.1 0 rfl rfl 11 (by decide) (hts (Cond.fieldLink RX8 28 "DiceRoadsModel" "ring" "[I") wq_648) (fun _ h9 => h9) rfl dX8_clearsRing_2 ?_
  refine lv_iconst (v := (0 : Int32)) hx hb dX8_clearsRing_5 (by decide) ?_
  obtain ⟨hi, h⟩ := fo_ck_some h
  refine va_iald hx hb hK hG.1 7 0 rfl rfl hi dX8_clearsRing_6 ?_
  refine lv_aload_n hx hb dX8_clearsRing_7 rfl (lv_at hl 0 rfl) ?_
  refine va_get (D := (dC, dI)) (ci := 7) (v := .ref (a 7)) (C := RX8) (T := TX8) (N := 17) hx hb hts inlX8 hown hK hG.1 0 rfl rfl 11 (by decide) (hts (Cond.fieldLink RX8 28 "DiceRoadsModel" "ring" "[I") wq_648) (fun _ h9 => h9) rfl dX8_clearsRing_8 ?_
  refine lv_iconst (v := (1 : Int32)) hx hb dX8_clearsRing_11 (by decide) ?_
  obtain ⟨hi, h⟩ := fo_ck_some h
  refine va_iald hx hb hK hG.1 7 0 rfl rfl hi dX8_clearsRing_12 ?_
  obtain ⟨q13, hq13, h⟩ := fo_bd_some h
  refine gc_iV (b := a 0) (C := RX8) (As := [.int ((S 6) (0 : Int32).toNatClampNeg), .int ((S 6) (1 : Int32).toNatClampNeg)]) (rest := []) (wc := (wd_M0 cI a (S 8) (S 0))) (w1 := (wd_M0 cI a (S 8) (S 0))) (ci := 7) (q0 := 0) ⟨hx, hb, hml, hown, hts⟩ (c8_debtOf l (a := a) (X := (S 8)) hq13) (cwV 2 hts gv_X8_46 rfl rfl rfl hd8_debtOf ⟨Nat.le_of_ble_eq_true rfl, Nat.le_of_ble_eq_true rfl⟩) hK [0] rfl hA hG [0, 1] rfl rfl rfl rfl rfl rfl hl.1 rfl (Nat.le_of_ble_eq_true rfl) dX8_clearsRing_13 ⟨Nat.zero_le _, Nat.zero_le _⟩ (fun H locs hG9 => ?_)
  have hG : gd_W (dC, dI) A s (wd_M cI a S) H locs := hG9
  refine lv_istore_n (lv' := [(1, .int q13), (0, .ref (a 0))]) hx hb dX8_clearsRing_16 rfl hl (by decide) rfl (fun ls hl => ?_)
  refine lv_iconst (v := (1 : Int32)) hx hb dX8_clearsRing_17 (by decide) ?_
  refine lv_istore_n (lv' := [(2, .int (1 : Int32)), (1, .int q13), (0, .ref (a 0))]) hx hb dX8_clearsRing_18 rfl hl (by decide) rfl (fun ls hl => ?_)
  exact w8_clearsRing_L19 C hK hA fo_fu h hG (lv_sub hl [2, 1, 0] rfl)
set_option maxRecDepth 100000 in
set_option maxHeartbeats 4000000 in
theorem c8_clearsRing (l : Launch) {dC : Nat → ClassId} {dI : Nat → Nat → Nat} {cI : ClassId} {a : Nat → Nat} {S : ms_T} {q : (Int32 × ms_T)} (h : f8_clearsRing S = some q) : mi_M l yX8_clearsRing wm8_clearsRing RM8_clearsRing (dC, dI) [(cI, .int)] [.ref (a 0)] (wd_M cI a S) q.1 (wd_M cI a q.2) := by
  intro sz
  refine Met.ofW (cc := cX8_clearsRing) (maxL := 4) (ret := (some .int)) (by decide) rfl ?_
  intro p e s m args below meth c s₁ B hml hv
  obtain ⟨rfl, hsz, hP, hK, hD0⟩ := hv
  subst hsz
  have hl := lv_entry ([.ref (a 0)] : List Value) (n := 4) (Nat.le_of_ble_eq_true rfl)
  rw [lg_entry_eq]
  generalize (lg_sl ([.ref (a 0)] : List Value) ++ List.replicate (4 - (lg_sl ([.ref (a 0)] : List Value)).length) Slot.unset).toArray = ls at hl ⊢
  exact w8_clearsRing (a := a) ⟨B.exec, B.bytes, B.returns, fun w hw => atoms_spec (ws := wm8_clearsRing) B.pre w (List.mem_cons_of_mem _ hw), findClass_of_methodNamed B.named, B.notSynchronized, hml⟩ hK (fun _ h => Or.inr h) h ⟨hP, hD0.self, va_S.rf⟩ hl
end
/-! ## DiceRoadsModel.clears(I)I -/
section
variable {p : Program} {l : Launch} {e : Env} {s : State} {m : MethodId} {args : Array Value} {below : List Frame} {meth : Method} {c : Code} {dC : Nat → ClassId} {dI : Nat → Nat → Nat} {cI : ClassId} {A : Nat → Prop}
set_option maxRecDepth 100000 in
set_option maxHeartbeats 4000000 in
theorem w8_clears_b29 (C : cx_M p s m args meth c RX8 cX8_clears (some .int) 3) (hK : va_K (dC, dI) vwCl [(cI, .int)] s) (hA : ∀ q, s.heap.size ≤ q → A q) {a : Nat → Nat} {q : (Int32 × ms_T)} {rec2 : Int32 → Int32 → ms_T → Option (Int32 × ms_T)} (hrec2 : ∀ {v1 : Int32} {v2 : Int32} {S : ms_T} , rec2 v1 v2 S = some q → ∀ {H : Heap} {locs : List Loc} {ls : Array Slot}, gd_W (dC, dI) A s (wd_M cI a S) H locs → lv_has ls 3 [(0, .ref (a 0)), (1, .int v1), (2, .int v2)] → W p l e RM8_clears s m args below meth c H locs 0 0 (MQ below (qi_W (dC, dI) [(cI, .int)] A q.1 (wd_M cI a q.2)) args s 0 0 A) (F0 m 2 ls [])) {v1 : Int32} {v2 : Int32} {S : ms_T} (h : f8_clears_b29 rec2 v1 v2 S = some q) {H : Heap} {locs : List Loc} {ls : Array Slot} (hG : gd_W (dC, dI) A s (wd_M cI a S) H locs) (hl : lv_has ls 3 [(0, .ref (a 0)), (1, .int v1), (2, .int v2)]) : W p l e RM8_clears s m args below meth c H locs 0 0 (MQ below (qi_W (dC, dI) [(cI, .int)] A q.1 (wd_M cI a q.2)) args s 0 0 A) (F0 m 29 ls []) := by
  unfold f8_clears_b29 at h
  obtain ⟨hx, hb, hr, hts, hown, hlocks, hml⟩ := id C
  refine lv_iload_n hx hb dX8_clears_29 rfl (lv_at hl 2 rfl) ?_
  refine lv_aload_n hx hb dX8_clears_30 rfl (lv_at hl 0 rfl) ?_
  obtain ⟨q31, hq31, h⟩ := fo_bd_some h
  refine gc_iV (b := a 0) (C := RX8) (As := []) (rest := [.int v2]) (wc := (wd_M cI a S)) (w1 := (wd_M cI a q31.2)) (ci := 7) (q0 := 0) ⟨hx, hb, hml, hown, hts⟩ (c8_clearsRing l (a := a) hq31) (cwV 0 hts gv_X8_153 rfl rfl rfl hd8_clearsRing ⟨Nat.le_of_ble_eq_true rfl, Nat.le_of_ble_eq_true rfl⟩) hK [0] rfl hA hG [0, 1, 2, 3, 4, 5, 6, 7, 8] rfl rfl rfl rfl rfl rfl hl.1 rfl (Nat.le_of_ble_eq_true rfl) dX8_clears_31 ⟨Nat.zero_le _, Nat.zero_le _⟩ (fun H locs hG9 => ?_)
  have hG : gd_W (dC, dI) A s (wd_M cI a q31.2) H locs := hG9
  refine lv_iadd hx hb dX8_clears_34 ?_
  refine lv_istore_n (lv' := [(2, .int (v2 + q31.1)), (0, .ref (a 0)), (1, .int v1)]) hx hb dX8_clears_35 rfl hl (by decide) rfl (fun ls hl => ?_)
  refine lv_goto (tgt := 2) hx hb dX8_clears_36 (by decide) ?_
  exact hrec2 h hG (lv_sub hl [1, 2, 0] rfl)
set_option maxRecDepth 100000 in
set_option maxHeartbeats 4000000 in
theorem w8_clears_b2 (C : cx_M p s m args meth c RX8 cX8_clears (some .int) 3) (hK : va_K (dC, dI) vwCl [(cI, .int)] s) (hA : ∀ q, s.heap.size ≤ q → A q) {a : Nat → Nat} {q : (Int32 × ms_T)} {rec2 : Int32 → Int32 → ms_T → Option (Int32 × ms_T)} (hrec2 : ∀ {v1 : Int32} {v2 : Int32} {S : ms_T} , rec2 v1 v2 S = some q → ∀ {H : Heap} {locs : List Loc} {ls : Array Slot}, gd_W (dC, dI) A s (wd_M cI a S) H locs → lv_has ls 3 [(0, .ref (a 0)), (1, .int v1), (2, .int v2)] → W p l e RM8_clears s m args below meth c H locs 0 0 (MQ below (qi_W (dC, dI) [(cI, .int)] A q.1 (wd_M cI a q.2)) args s 0 0 A) (F0 m 2 ls [])) {v1 : Int32} {v2 : Int32} {S : ms_T} (h : f8_clears_b2 rec2 v1 v2 S = some q) {H : Heap} {locs : List Loc} {ls : Array Slot} (hG : gd_W (dC, dI) A s (wd_M cI a S) H locs) (hl : lv_has ls 3 [(0, .ref (a 0)), (1, .int v1), (2, .int v2)]) : W p l e RM8_clears s m args below meth c H locs 0 0 (MQ below (qi_W (dC, dI) [(cI, .int)] A q.1 (wd_M cI a q.2)) args s 0 0 A) (F0 m 2 ls []) := by
  unfold f8_clears_b2 at h
  obtain ⟨hx, hb, hr, hts, hown, hlocks, hml⟩ := id C
  refine lv_aload_n hx hb dX8_clears_2 rfl (lv_at hl 0 rfl) ?_
  refine lv_iload_n hx hb dX8_clears_3 rfl (lv_at hl 1 rfl) ?_
  refine lv_iconst (v := (2 : Int32)) hx hb dX8_clears_4 (by decide) ?_
  obtain ⟨q5, hq5, h⟩ := fo_bd_some h
  refine gc_iV (b := a 0) (C := RX8) (As := [.int v1, .int (2 : Int32)]) (rest := []) (wc := (wd_M cI a S)) (w1 := (wd_M cI a q5.2)) (ci := 7) (q0 := 0) ⟨hx, hb, hml, hown, hts⟩ (c8_findRing l (a := a) hq5) (cwV 2 hts gv_X8_150 rfl rfl rfl hd8_findRing ⟨Nat.le_of_ble_eq_true rfl, Nat.le_of_ble_eq_true rfl⟩) hK [0] rfl hA hG [0, 1, 2, 3, 4, 5, 6, 7, 8] rfl rfl rfl rfl rfl rfl hl.1 rfl (Nat.le_of_ble_eq_true rfl) dX8_clears_5 ⟨Nat.zero_le _, Nat.zero_le _⟩ (fun H locs hG9 => ?_)
  have hG : gd_W (dC, dI) A s (wd_M cI a q5.2) H locs := hG9
  refine lv_if_ne (tgt := 29) hx hb dX8_clears_8 (by decide) (fun hc => ?_) (fun hc => ?_)
  · have h := fo_if h hc
    exact w8_clears_b29 C hK hA (fun h => hrec2 h) h hG (lv_sub hl [0, 1, 2] rfl)
  · have h := fo_it h hc
    refine lv_aload_n hx hb dX8_clears_11 rfl (lv_at hl 0 rfl) ?_
    refine lv_iload_n hx hb dX8_clears_12 rfl (lv_at hl 1 rfl) ?_
    refine lv_iconst (v := (3 : Int32)) hx hb dX8_clears_13 (by decide) ?_
    obtain ⟨q14, hq14, h⟩ := fo_bd_some h
    refine gc_iV (b := a 0) (C := RX8) (As := [.int v1, .int (3 : Int32)]) (rest := []) (wc := (wd_M cI a q5.2)) (w1 := (wd_M cI a q14.2)) (ci := 7) (q0 := 0) ⟨hx, hb, hml, hown, hts⟩ (c8_findRing l (a := a) hq14) (cwV 2 hts gv_X8_150 rfl rfl rfl hd8_findRing ⟨Nat.le_of_ble_eq_true rfl, Nat.le_of_ble_eq_true rfl⟩) hK [0] rfl hA hG [0, 1, 2, 3, 4, 5, 6, 7, 8] rfl rfl rfl rfl rfl rfl hl.1 rfl (Nat.le_of_ble_eq_true rfl) dX8_clears_14 ⟨Nat.zero_le _, Nat.zero_le _⟩ (fun H locs hG9 => ?_)
    have hG : gd_W (dC, dI) A s (wd_M cI a q14.2) H locs := hG9
    refine lv_if_ne (tgt := 29) hx hb dX8_clears_17 (by decide) (fun hc => ?_) (fun hc => ?_)
    · have h := fo_if h hc
      exact w8_clears_b29 C hK hA (fun h => hrec2 h) h hG (lv_sub hl [0, 1, 2] rfl)
    · have h := fo_it h hc
      refine lv_aload_n hx hb dX8_clears_20 rfl (lv_at hl 0 rfl) ?_
      refine lv_iload_n hx hb dX8_clears_21 rfl (lv_at hl 1 rfl) ?_
      refine lv_iconst (v := (4 : Int32)) hx hb dX8_clears_22 (by decide) ?_
      obtain ⟨q23, hq23, h⟩ := fo_bd_some h
      refine gc_iV (b := a 0) (C := RX8) (As := [.int v1, .int (4 : Int32)]) (rest := []) (wc := (wd_M cI a q14.2)) (w1 := (wd_M cI a q23.2)) (ci := 7) (q0 := 0) ⟨hx, hb, hml, hown, hts⟩ (c8_findRing l (a := a) hq23) (cwV 2 hts gv_X8_150 rfl rfl rfl hd8_findRing ⟨Nat.le_of_ble_eq_true rfl, Nat.le_of_ble_eq_true rfl⟩) hK [0] rfl hA hG [0, 1, 2, 3, 4, 5, 6, 7, 8] rfl rfl rfl rfl rfl rfl hl.1 rfl (Nat.le_of_ble_eq_true rfl) dX8_clears_23 ⟨Nat.zero_le _, Nat.zero_le _⟩ (fun H locs hG9 => ?_)
      have hG : gd_W (dC, dI) A s (wd_M cI a q23.2) H locs := hG9
      refine lv_if_eq (tgt := 39) hx hb dX8_clears_26 (by decide) (fun hc => ?_) (fun hc => ?_)
      · have h := fo_it h hc
        refine lv_iload_n hx hb dX8_clears_39 rfl (lv_at hl 2 rfl) ?_
        obtain rfl := Option.some.inj h
        exact gr_i hx hb hr hlocks hK hG rfl dX8_clears_40
      · have h := fo_if h hc
        exact w8_clears_b29 C hK hA (fun h => hrec2 h) h hG (lv_sub hl [0, 1, 2] rfl)
set_option maxRecDepth 100000 in
set_option maxHeartbeats 4000000 in
theorem w8_clears_L2 (C : cx_M p s m args meth c RX8 cX8_clears (some .int) 3) (hK : va_K (dC, dI) vwCl [(cI, .int)] s) (hA : ∀ q, s.heap.size ≤ q → A q) {a : Nat → Nat} {q : (Int32 × ms_T)} : ∀ (n : Nat) {v1 : Int32} {v2 : Int32} {S : ms_T}, f8_clears_L2 n v1 v2 S = some q → ∀ {H : Heap} {locs : List Loc} {ls : Array Slot}, gd_W (dC, dI) A s (wd_M cI a S) H locs → lv_has ls 3 [(0, .ref (a 0)), (1, .int v1), (2, .int v2)] → W p l e RM8_clears s m args below meth c H locs 0 0 (MQ below (qi_W (dC, dI) [(cI, .int)] A q.1 (wd_M cI a q.2)) args s 0 0 A) (F0 m 2 ls []) := by
  intro n
  induction n with
  | zero => intro _ _ _ h; exact nomatch h
  | succ n ih => intro v1 v2 S h H locs ls hG hl; exact w8_clears_b2 C hK hA (fun h => ih h) (show f8_clears_b2 (f8_clears_L2 n) v1 v2 S = some q from h) hG hl
set_option maxRecDepth 100000 in
set_option maxHeartbeats 4000000 in
theorem w8_clears (C : cx_M p s m args meth c RX8 cX8_clears (some .int) 3) (hK : va_K (dC, dI) vwCl [(cI, .int)] s) (hA : ∀ q, s.heap.size ≤ q → A q) {a : Nat → Nat} {q : (Int32 × ms_T)} {v1 : Int32} {S : ms_T} (h : f8_clears v1 S = some q) {H : Heap} {locs : List Loc} {ls : Array Slot} (hG : gd_W (dC, dI) A s (wd_M cI a S) H locs) (hl : lv_has ls 3 [(0, .ref (a 0)), (1, .int v1)]) : W p l e RM8_clears s m args below meth c H locs 0 0 (MQ below (qi_W (dC, dI) [(cI, .int)] A q.1 (wd_M cI a q.2)) args s 0 0 A) (F0 m 0 ls []) := by
  unfold f8_clears at h
  obtain ⟨hx, hb, hr, hts, hown, hlocks, hml⟩ := id C
  refine lv_iconst (v := (0 : Int32)) hx hb dX8_clears_0 (by decide) ?_
  refine lv_istore_n (lv' := [(2, .int (0 : Int32)), (0, .ref (a 0)), (1, .int v1)]) hx hb dX8_clears_1 rfl hl (by decide) rfl (fun ls hl => ?_)
  exact w8_clears_L2 C hK hA fo_fu h hG (lv_sub hl [1, 2, 0] rfl)
set_option maxRecDepth 100000 in
set_option maxHeartbeats 4000000 in
theorem c8_clears (l : Launch) {dC : Nat → ClassId} {dI : Nat → Nat → Nat} {cI : ClassId} {a : Nat → Nat} {v1 : Int32} {S : ms_T} {q : (Int32 × ms_T)} (h : f8_clears v1 S = some q) : mi_M l yX8_clears wm8_clears RM8_clears (dC, dI) [(cI, .int)] [.ref (a 0), .int v1] (wd_M cI a S) q.1 (wd_M cI a q.2) := by
  intro sz
  refine Met.ofW (cc := cX8_clears) (maxL := 3) (ret := (some .int)) (by decide) rfl ?_
  intro p e s m args below meth c s₁ B hml hv
  obtain ⟨rfl, hsz, hP, hK, hD0⟩ := hv
  subst hsz
  have hl := lv_entry ([.ref (a 0), .int v1] : List Value) (n := 3) (Nat.le_of_ble_eq_true rfl)
  rw [lg_entry_eq]
  generalize (lg_sl ([.ref (a 0), .int v1] : List Value) ++ List.replicate (3 - (lg_sl ([.ref (a 0), .int v1] : List Value)).length) Slot.unset).toArray = ls at hl ⊢
  exact w8_clears (a := a) ⟨B.exec, B.bytes, B.returns, fun w hw => atoms_spec (ws := wm8_clears) B.pre w (List.mem_cons_of_mem _ hw), findClass_of_methodNamed B.named, B.notSynchronized, hml⟩ hK (fun _ h => Or.inr h) h ⟨hP, hD0.self, va_S.rf⟩ hl
end
/-! ## DiceRoadsModel.clear(I)I -/
section
variable {p : Program} {l : Launch} {e : Env} {s : State} {m : MethodId} {args : Array Value} {below : List Frame} {meth : Method} {c : Code} {dC : Nat → ClassId} {dI : Nat → Nat → Nat} {cI : ClassId} {A : Nat → Prop}
set_option maxRecDepth 100000 in
set_option maxHeartbeats 4000000 in
theorem w8_clear (C : cx_M p s m args meth c RX8 cX8_clear (some .int) 2) (hK : va_K (dC, dI) vwCl [(cI, .int)] s) (hA : ∀ q, s.heap.size ≤ q → A q) {a : Nat → Nat} {q : (Int32 × ms_T)} {v1 : Int32} {S : ms_T} (h : f8_clear v1 S = some q) {H : Heap} {locs : List Loc} {ls : Array Slot} (hG : gd_W (dC, dI) A s (wd_M cI a S) H locs) (hl : lv_has ls 2 [(0, .ref (a 0)), (1, .int v1)]) : W p l e RM8_clear s m args below meth c H locs 0 0 (MQ below (qi_W (dC, dI) [(cI, .int)] A q.1 (wd_M cI a q.2)) args s 0 0 A) (F0 m 0 ls []) := by
  unfold f8_clear at h
  obtain ⟨hx, hb, hr, hts, hown, hlocks, hml⟩ := id C
  refine lv_aload_n hx hb dX8_clear_0 rfl (lv_at hl 0 rfl) ?_
  refine lv_iload_n hx hb dX8_clear_1 rfl (lv_at hl 1 rfl) ?_
  obtain ⟨q2, hq2, h⟩ := fo_bd_some h
  refine gc_iV (b := a 0) (C := RX8) (As := [.int v1]) (rest := []) (wc := (wd_M0 cI a (S 8) (S 0))) (w1 := (wd_M0 cI a (S 8) (S 0))) (ci := 7) (q0 := 0) ⟨hx, hb, hml, hown, hts⟩ (c8_isPlayer l (a := a) (X := (S 8)) hq2) (cwV 1 hts gv_X8_156 rfl rfl rfl hd8_isPlayer ⟨Nat.le_of_ble_eq_true rfl, Nat.le_of_ble_eq_true rfl⟩) hK [0] rfl hA hG [0, 1] rfl rfl rfl rfl rfl rfl hl.1 rfl (Nat.le_of_ble_eq_true rfl) dX8_clear_2 ⟨Nat.zero_le _, Nat.zero_le _⟩ (fun H locs hG9 => ?_)
  have hG : gd_W (dC, dI) A s (wd_M cI a S) H locs := hG9
  refine lv_if_ne (tgt := 10) hx hb dX8_clear_5 (by decide) (fun hc => ?_) (fun hc => ?_)
  · have h := fo_if h hc
    refine lv_aload_n hx hb dX8_clear_10 rfl (lv_at hl 0 rfl) ?_
    obtain ⟨q11, hq11, h⟩ := fo_bd_some h
    refine gc_vV (b := a 0) (C := RX8) (As := []) (rest := []) (wc := (wd_M cI a S)) (w1 := (wd_M cI a q11)) (ci := 7) (q0 := 0) ⟨hx, hb, hml, hown, hts⟩ (c8_record l (a := a) hq11) (cwV 0 hts gv_X8_128 rfl rfl rfl hd8_record ⟨Nat.le_of_ble_eq_true rfl, Nat.le_of_ble_eq_true rfl⟩) hK [0] rfl hA hG [0, 1, 2, 3, 4, 5, 6, 7, 8] rfl rfl rfl rfl rfl rfl hl.1 rfl (Nat.le_of_ble_eq_true rfl) dX8_clear_11 ⟨Nat.zero_le _, Nat.zero_le _⟩ (fun H locs hG9 => ?_)
    have hG : gd_W (dC, dI) A s (wd_M cI a q11) H locs := hG9
    refine lv_aload_n hx hb dX8_clear_14 rfl (lv_at hl 0 rfl) ?_
    refine lv_iload_n hx hb dX8_clear_15 rfl (lv_at hl 1 rfl) ?_
    obtain ⟨q16, hq16, h⟩ := fo_bd_some h
    refine gc_iV (b := a 0) (C := RX8) (As := [.int v1]) (rest := []) (wc := (wd_M cI a q11)) (w1 := (wd_M cI a q16.2)) (ci := 7) (q0 := 0) ⟨hx, hb, hml, hown, hts⟩ (c8_clears l (a := a) hq16) (cwV 1 hts gv_X8_159 rfl rfl rfl hd8_clears ⟨Nat.le_of_ble_eq_true rfl, Nat.le_of_ble_eq_true rfl⟩) hK [0] rfl hA hG [0, 1, 2, 3, 4, 5, 6, 7, 8] rfl rfl rfl rfl rfl rfl hl.1 rfl (Nat.le_of_ble_eq_true rfl) dX8_clear_16 ⟨Nat.zero_le _, Nat.zero_le _⟩ (fun H locs hG9 => ?_)
    have hG : gd_W (dC, dI) A s (wd_M cI a q16.2) H locs := hG9
    obtain rfl := Option.some.inj h
    exact gr_i hx hb hr hlocks hK hG rfl dX8_clear_19
  · have h := fo_it h hc
    refine lv_iconst (v := (-1 : Int32)) hx hb dX8_clear_8 (by decide) ?_
    obtain rfl := Option.some.inj h
    exact gr_i hx hb hr hlocks hK hG rfl dX8_clear_9
set_option maxRecDepth 100000 in
set_option maxHeartbeats 4000000 in
theorem c8_clear (l : Launch) {dC : Nat → ClassId} {dI : Nat → Nat → Nat} {cI : ClassId} {a : Nat → Nat} {v1 : Int32} {S : ms_T} {q : (Int32 × ms_T)} (h : f8_clear v1 S = some q) : mi_M l yX8_clear wm8_clear RM8_clear (dC, dI) [(cI, .int)] [.ref (a 0), .int v1] (wd_M cI a S) q.1 (wd_M cI a q.2) := by
  intro sz
  refine Met.ofW (cc := cX8_clear) (maxL := 2) (ret := (some .int)) (by decide) rfl ?_
  intro p e s m args below meth c s₁ B hml hv
  obtain ⟨rfl, hsz, hP, hK, hD0⟩ := hv
  subst hsz
  have hl := lv_entry ([.ref (a 0), .int v1] : List Value) (n := 2) (Nat.le_of_ble_eq_true rfl)
  rw [lg_entry_eq]
  generalize (lg_sl ([.ref (a 0), .int v1] : List Value) ++ List.replicate (2 - (lg_sl ([.ref (a 0), .int v1] : List Value)).length) Slot.unset).toArray = ls at hl ⊢
  exact w8_clear (a := a) ⟨B.exec, B.bytes, B.returns, fun w hw => atoms_spec (ws := wm8_clear) B.pre w (List.mem_cons_of_mem _ hw), findClass_of_methodNamed B.named, B.notSynchronized, hml⟩ hK (fun _ h => Or.inr h) h ⟨hP, hD0.self, va_S.rf⟩ hl
end
/-! ## DiceRoadsModel.writesSign(I)V -/
section
variable {p : Program} {l : Launch} {e : Env} {s : State} {m : MethodId} {args : Array Value} {below : List Frame} {meth : Method} {c : Code} {dC : Nat → ClassId} {dI : Nat → Nat → Nat} {cI : ClassId} {A : Nat → Prop}
set_option maxRecDepth 100000 in
set_option maxHeartbeats 4000000 in
theorem w8_writesSign_b20 (C : cx_M p s m args meth c RX8 cX8_writesSign none 2) (hK : va_K (dC, dI) vwCl [(cI, .int)] s) (hA : ∀ q, s.heap.size ≤ q → A q) {a : Nat → Nat} {q : ms_T} {t1 : Int32} {S : ms_T} (h : f8_writesSign_b20 t1 S = some q) {H : Heap} {locs : List Loc} {ls : Array Slot} (hG : gd_W (dC, dI) A s (wd_M cI a S) H locs) (hl : lv_has ls 2 [(0, .ref (a 0))]) : W p l e RM8_writesSign s m args below meth c H locs 0 0 (MQ below (qv_W (dC, dI) [(cI, .int)] A (wd_M cI a q)) args s 0 0 A) (F0 m 20 ls [.int t1, .ref (a 0)]) := by
  unfold f8_writesSign_b20 at h
  obtain ⟨hx, hb, hr, hts, hown, hlocks, hml⟩ := id C
  refine va_put (D := (dC, dI)) (ci := 7) (v := .int t1) (ty := .int) (C := RX8) (T := TX8) (N := 17) hx hb hts inlX8 tyX8 tyX8_ok nmX8 hown hK hG.1 hG.2.1 hG.2.2 0 rfl rfl 10 (by decide) (hts (Cond.fieldLink RX8 192 "DiceRoadsModel" "foundSign" "I") wq_647) (fun _ h9 => h9) rfl (by decide +kernel) rfl rfl (Nat.le_of_ble_eq_true rfl) dX8_writesSign_20 (fun H locs hP9 hD9 hS9 => ?_)
  have hG : gd_W (dC, dI) A s (wd_M cI a (ms_set S 8 (upd (S 8) 4 t1))) H locs := ⟨hP9, hD9, hS9⟩
  refine lv_aload_n hx hb dX8_writesSign_23 rfl (lv_at hl 0 rfl) ?_
  refine lv_dup hx hb dX8_writesSign_24 rfl ?_
  refine va_get (D := (dC, dI)) (ci := 7) (v := .int ((ms_set S 8 (upd (S 8) 4 t1)) 8 2)) (C := RX8) (T := TX8) (N := 17) hx hb hts inlX8 hown hK hG.1 0 rfl rfl 8 (by decide) (hts (Cond.fieldLink RX8 183 "DiceRoadsModel" "signs" "I") wq_645) (fun _ h9 => h9) rfl dX8_writesSign_25 ?_
  refine lv_iconst (v := (1 : Int32)) hx hb dX8_writesSign_28 (by decide) ?_
  refine lv_iadd hx hb dX8_writesSign_29 ?_
  refine va_put (D := (dC, dI)) (ci := 7) (v := .int (((ms_set S 8 (upd (S 8) 4 t1)) 8 2) + (1 : Int32))) (ty := .int) (C := RX8) (T := TX8) (N := 17) hx hb hts inlX8 tyX8 tyX8_ok nmX8 hown hK hG.1 hG.2.1 hG.2.2 0 rfl rfl 8 (by decide) (hts (Cond.fieldLink RX8 183 "DiceRoadsModel" "signs" "I") wq_645) (fun _ h9 => h9) rfl (by decide +kernel) rfl rfl (Nat.le_of_ble_eq_true rfl) dX8_writesSign_30 (fun H locs hP9 hD9 hS9 => ?_)
  have hG : gd_W (dC, dI) A s (wd_M cI a (ms_set (ms_set S 8 (upd (S 8) 4 t1)) 8 (upd ((ms_set S 8 (upd (S 8) 4 t1)) 8) 2 (((ms_set S 8 (upd (S 8) 4 t1)) 8 2) + (1 : Int32))))) H locs := ⟨hP9, hD9, hS9⟩
  obtain rfl := Option.some.inj h
  exact gr_v hx hb hr hlocks hK hG dX8_writesSign_33
set_option maxRecDepth 100000 in
set_option maxHeartbeats 4000000 in
theorem w8_writesSign (C : cx_M p s m args meth c RX8 cX8_writesSign none 2) (hK : va_K (dC, dI) vwCl [(cI, .int)] s) (hA : ∀ q, s.heap.size ≤ q → A q) {a : Nat → Nat} {q : ms_T} {v1 : Int32} {S : ms_T} (h : f8_writesSign v1 S = some q) {H : Heap} {locs : List Loc} {ls : Array Slot} (hG : gd_W (dC, dI) A s (wd_M cI a S) H locs) (hl : lv_has ls 2 [(0, .ref (a 0)), (1, .int v1)]) : W p l e RM8_writesSign s m args below meth c H locs 0 0 (MQ below (qv_W (dC, dI) [(cI, .int)] A (wd_M cI a q)) args s 0 0 A) (F0 m 0 ls []) := by
  unfold f8_writesSign at h
  obtain ⟨hx, hb, hr, hts, hown, hlocks, hml⟩ := id C
  refine lv_aload_n hx hb dX8_writesSign_0 rfl (lv_at hl 0 rfl) ?_
  refine lv_aload_n hx hb dX8_writesSign_1 rfl (lv_at hl 0 rfl) ?_
  refine va_get (D := (dC, dI)) (ci := 7) (v := .int (S 8 2)) (C := RX8) (T := TX8) (N := 17) hx hb hts inlX8 hown hK hG.1 0 rfl rfl 8 (by decide) (hts (Cond.fieldLink RX8 183 "DiceRoadsModel" "signs" "I") wq_645) (fun _ h9 => h9) rfl dX8_writesSign_2 ?_
  refine lv_aload_n hx hb dX8_writesSign_5 rfl (lv_at hl 0 rfl) ?_
  refine va_get (D := (dC, dI)) (ci := 7) (v := .int (S 8 3)) (C := RX8) (T := TX8) (N := 17) hx hb hts inlX8 hown hK hG.1 0 rfl rfl 9 (by decide) (hts (Cond.fieldLink RX8 189 "DiceRoadsModel" "wantedSign" "I") wq_646) (fun _ h9 => h9) rfl dX8_writesSign_6 ?_
  refine lv_icmp_ne (tgt := 16) hx hb dX8_writesSign_9 (by decide) (fun hc => ?_) (fun hc => ?_)
  · have h := fo_if h hc
    refine lv_aload_n hx hb dX8_writesSign_16 rfl (lv_at hl 0 rfl) ?_
    refine va_get (D := (dC, dI)) (ci := 7) (v := .int (S 8 4)) (C := RX8) (T := TX8) (N := 17) hx hb hts inlX8 hown hK hG.1 0 rfl rfl 10 (by decide) (hts (Cond.fieldLink RX8 192 "DiceRoadsModel" "foundSign" "I") wq_647) (fun _ h9 => h9) rfl dX8_writesSign_17 ?_
    exact w8_writesSign_b20 C hK hA h hG (lv_sub hl [0] rfl)
  · have h := fo_it h hc
    refine lv_iload_n hx hb dX8_writesSign_12 rfl (lv_at hl 1 rfl) ?_
    refine lv_goto (tgt := 20) hx hb dX8_writesSign_13 (by decide) ?_
    exact w8_writesSign_b20 C hK hA h hG (lv_sub hl [0] rfl)
set_option maxRecDepth 100000 in
set_option maxHeartbeats 4000000 in
theorem c8_writesSign (l : Launch) {dC : Nat → ClassId} {dI : Nat → Nat → Nat} {cI : ClassId} {a : Nat → Nat} {v1 : Int32} {S : ms_T} {q : ms_T} (h : f8_writesSign v1 S = some q) : mv_M l yX8_writesSign wm8_writesSign RM8_writesSign (dC, dI) [(cI, .int)] [.ref (a 0), .int v1] (wd_M cI a S) (wd_M cI a q) := by
  intro sz
  refine Met.ofW (cc := cX8_writesSign) (maxL := 2) (ret := none) (by decide) rfl ?_
  intro p e s m args below meth c s₁ B hml hv
  obtain ⟨rfl, hsz, hP, hK, hD0⟩ := hv
  subst hsz
  have hl := lv_entry ([.ref (a 0), .int v1] : List Value) (n := 2) (Nat.le_of_ble_eq_true rfl)
  rw [lg_entry_eq]
  generalize (lg_sl ([.ref (a 0), .int v1] : List Value) ++ List.replicate (2 - (lg_sl ([.ref (a 0), .int v1] : List Value)).length) Slot.unset).toArray = ls at hl ⊢
  exact w8_writesSign (a := a) ⟨B.exec, B.bytes, B.returns, fun w hw => atoms_spec (ws := wm8_writesSign) B.pre w (List.mem_cons_of_mem _ hw), findClass_of_methodNamed B.named, B.notSynchronized, hml⟩ hK (fun _ h => Or.inr h) h ⟨hP, hD0.self, va_S.rf⟩ hl
end
/-! ## DiceRoadsModel.writesSquare(I)V -/
section
variable {p : Program} {l : Launch} {e : Env} {s : State} {m : MethodId} {args : Array Value} {below : List Frame} {meth : Method} {c : Code} {dC : Nat → ClassId} {dI : Nat → Nat → Nat} {cI : ClassId} {A : Nat → Prop}
set_option maxRecDepth 100000 in
set_option maxHeartbeats 4000000 in
theorem w8_writesSquare_b122 (C : cx_M p s m args meth c RX8 cX8_writesSquare none 3) (hK : va_K (dC, dI) vwCl [(cI, .int)] s) (hA : ∀ q, s.heap.size ≤ q → A q) {a : Nat → Nat} {q : ms_T} {rec93 : Int32 → Int32 → ms_T → Option ms_T} (hrec93 : ∀ {v1 : Int32} {v2 : Int32} {S : ms_T} , rec93 v1 v2 S = some q → ∀ {H : Heap} {locs : List Loc} {ls : Array Slot}, gd_W (dC, dI) A s (wd_M cI a S) H locs → lv_has ls 3 [(0, .ref (a 0)), (1, .int v1), (2, .int v2)] → W p l e RM8_writesSquare s m args below meth c H locs 0 0 (MQ below (qv_W (dC, dI) [(cI, .int)] A (wd_M cI a q)) args s 0 0 A) (F0 m 93 ls [])) {v1 : Int32} {v2 : Int32} {S : ms_T} (h : f8_writesSquare_b122 rec93 v1 v2 S = some q) {H : Heap} {locs : List Loc} {ls : Array Slot} (hG : gd_W (dC, dI) A s (wd_M cI a S) H locs) (hl : lv_has ls 3 [(0, .ref (a 0)), (1, .int v1), (2, .int v2)]) : W p l e RM8_writesSquare s m args below meth c H locs 0 0 (MQ below (qv_W (dC, dI) [(cI, .int)] A (wd_M cI a q)) args s 0 0 A) (F0 m 122 ls []) := by
  unfold f8_writesSquare_b122 at h
  obtain ⟨hx, hb, hr, hts, hown, hlocks, hml⟩ := id C
  refine lv_iinc (v := (v2 + (1 : Int32))) (lv' := [(2, .int (v2 + (1 : Int32))), (0, .ref (a 0)), (1, .int v1)]) hx hb dX8_writesSquare_122 hl (k := 2) rfl rfl (by decide) rfl (fun ls hl => ?_)
  refine lv_goto (tgt := 93) hx hb dX8_writesSquare_125 (by decide) ?_
  exact hrec93 h hG (lv_sub hl [1, 2, 0] rfl)
set_option maxRecDepth 100000 in
set_option maxHeartbeats 4000000 in
theorem w8_writesSquare_b93 (C : cx_M p s m args meth c RX8 cX8_writesSquare none 3) (hK : va_K (dC, dI) vwCl [(cI, .int)] s) (hA : ∀ q, s.heap.size ≤ q → A q) {a : Nat → Nat} {q : ms_T} {rec93 : Int32 → Int32 → ms_T → Option ms_T} (hrec93 : ∀ {v1 : Int32} {v2 : Int32} {S : ms_T} , rec93 v1 v2 S = some q → ∀ {H : Heap} {locs : List Loc} {ls : Array Slot}, gd_W (dC, dI) A s (wd_M cI a S) H locs → lv_has ls 3 [(0, .ref (a 0)), (1, .int v1), (2, .int v2)] → W p l e RM8_writesSquare s m args below meth c H locs 0 0 (MQ below (qv_W (dC, dI) [(cI, .int)] A (wd_M cI a q)) args s 0 0 A) (F0 m 93 ls [])) {v1 : Int32} {v2 : Int32} {S : ms_T} (h : f8_writesSquare_b93 rec93 v1 v2 S = some q) {H : Heap} {locs : List Loc} {ls : Array Slot} (hG : gd_W (dC, dI) A s (wd_M cI a S) H locs) (hl : lv_has ls 3 [(0, .ref (a 0)), (1, .int v1), (2, .int v2)]) : W p l e RM8_writesSquare s m args below meth c H locs 0 0 (MQ below (qv_W (dC, dI) [(cI, .int)] A (wd_M cI a q)) args s 0 0 A) (F0 m 93 ls []) := by
  unfold f8_writesSquare_b93 at h
  obtain ⟨hx, hb, hr, hts, hown, hlocks, hml⟩ := id C
  refine lv_iload_n hx hb dX8_writesSquare_93 rfl (lv_at hl 2 rfl) ?_
  refine lv_aload_n hx hb dX8_writesSquare_94 rfl (lv_at hl 0 rfl) ?_
  refine va_get (D := (dC, dI)) (ci := 7) (v := .ref (a 1)) (C := RX8) (T := TX8) (N := 17) hx hb hts inlX8 hown hK hG.1 0 rfl rfl 0 (by decide) (hts (Cond.fieldLink RX8 7 "DiceRoadsModel" "state" "[I") wq_637) (fun _ h9 => h9) rfl dX8_writesSquare_95 ?_
  refine lv_bipush (v := (6 : Int32)) hx hb dX8_writesSquare_98 (by decide) ?_
  obtain ⟨hi, h⟩ := fo_ck_some h
  refine va_iald hx hb hK hG.1 1 0 rfl rfl hi dX8_writesSquare_100 ?_
  refine lv_icmp_ge (tgt := 128) hx hb dX8_writesSquare_101 (by decide) (fun hc => ?_) (fun hc => ?_)
  · have h := fo_it h hc
    obtain rfl := Option.some.inj h
    exact gr_v hx hb hr hlocks hK hG dX8_writesSquare_128
  · have h := fo_if h hc
    refine lv_aload_n hx hb dX8_writesSquare_104 rfl (lv_at hl 0 rfl) ?_
    refine lv_iload_n hx hb dX8_writesSquare_105 rfl (lv_at hl 2 rfl) ?_
    refine lv_iconst (v := (1 : Int32)) hx hb dX8_writesSquare_106 (by decide) ?_
    obtain ⟨q107, hq107, h⟩ := fo_bd_some h
    refine gc_iV (b := a 0) (C := RX8) (As := [.int v2, .int (1 : Int32)]) (rest := []) (wc := (wd_M0 cI a (S 8) (S 0))) (w1 := (wd_M0 cI a (S 8) (S 0))) (ci := 7) (q0 := 0) ⟨hx, hb, hml, hown, hts⟩ (c8_playerPart l (a := a) (X := (S 8)) hq107) (cwV 2 hts gv_X8_54 rfl rfl rfl hd8_playerPart ⟨Nat.le_of_ble_eq_true rfl, Nat.le_of_ble_eq_true rfl⟩) hK [0] rfl hA hG [0, 1] rfl rfl rfl rfl rfl rfl hl.1 rfl (Nat.le_of_ble_eq_true rfl) dX8_writesSquare_107 ⟨Nat.zero_le _, Nat.zero_le _⟩ (fun H locs hG9 => ?_)
    have hG : gd_W (dC, dI) A s (wd_M cI a S) H locs := hG9
    refine lv_iload_n hx hb dX8_writesSquare_110 rfl (lv_at hl 1 rfl) ?_
    refine lv_icmp_ne (tgt := 122) hx hb dX8_writesSquare_111 (by decide) (fun hc => ?_) (fun hc => ?_)
    · have h := fo_if h hc
      exact w8_writesSquare_b122 C hK hA (fun h => hrec93 h) h hG (lv_sub hl [0, 1, 2] rfl)
    · have h := fo_it h hc
      refine lv_aload_n hx hb dX8_writesSquare_114 rfl (lv_at hl 0 rfl) ?_
      refine lv_bipush (v := (65 : Int32)) hx hb dX8_writesSquare_115 (by decide) ?_
      refine lv_iload_n hx hb dX8_writesSquare_117 rfl (lv_at hl 2 rfl) ?_
      refine lv_iadd hx hb dX8_writesSquare_118 ?_
      obtain ⟨q119, hq119, h⟩ := fo_bd_some h
      refine gc_vV (b := a 0) (C := RX8) (As := [.int ((65 : Int32) + v2)]) (rest := []) (wc := (wd_M cI a S)) (w1 := (wd_M cI a q119)) (ci := 7) (q0 := 0) ⟨hx, hb, hml, hown, hts⟩ (c8_writesSign l (a := a) hq119) (cwV 1 hts gv_X8_195 rfl rfl rfl hd8_writesSign ⟨Nat.le_of_ble_eq_true rfl, Nat.le_of_ble_eq_true rfl⟩) hK [0] rfl hA hG [0, 1, 2, 3, 4, 5, 6, 7, 8] rfl rfl rfl rfl rfl rfl hl.1 rfl (Nat.le_of_ble_eq_true rfl) dX8_writesSquare_119 ⟨Nat.zero_le _, Nat.zero_le _⟩ (fun H locs hG9 => ?_)
      have hG : gd_W (dC, dI) A s (wd_M cI a q119) H locs := hG9
      exact w8_writesSquare_b122 C hK hA (fun h => hrec93 h) h hG (lv_sub hl [0, 1, 2] rfl)
set_option maxRecDepth 100000 in
set_option maxHeartbeats 4000000 in
theorem w8_writesSquare_L93 (C : cx_M p s m args meth c RX8 cX8_writesSquare none 3) (hK : va_K (dC, dI) vwCl [(cI, .int)] s) (hA : ∀ q, s.heap.size ≤ q → A q) {a : Nat → Nat} {q : ms_T} : ∀ (n : Nat) {v1 : Int32} {v2 : Int32} {S : ms_T}, f8_writesSquare_L93 n v1 v2 S = some q → ∀ {H : Heap} {locs : List Loc} {ls : Array Slot}, gd_W (dC, dI) A s (wd_M cI a S) H locs → lv_has ls 3 [(0, .ref (a 0)), (1, .int v1), (2, .int v2)] → W p l e RM8_writesSquare s m args below meth c H locs 0 0 (MQ below (qv_W (dC, dI) [(cI, .int)] A (wd_M cI a q)) args s 0 0 A) (F0 m 93 ls []) := by
  intro n
  induction n with
  | zero => intro _ _ _ h; exact nomatch h
  | succ n ih => intro v1 v2 S h H locs ls hG hl; exact w8_writesSquare_b93 C hK hA (fun h => ih h) (show f8_writesSquare_b93 (f8_writesSquare_L93 n) v1 v2 S = some q from h) hG hl
set_option maxRecDepth 100000 in
set_option maxHeartbeats 4000000 in
theorem w8_writesSquare_b91 (C : cx_M p s m args meth c RX8 cX8_writesSquare none 3) (hK : va_K (dC, dI) vwCl [(cI, .int)] s) (hA : ∀ q, s.heap.size ≤ q → A q) {a : Nat → Nat} {q : ms_T} {v1 : Int32} {S : ms_T} (h : f8_writesSquare_b91 v1 S = some q) {H : Heap} {locs : List Loc} {ls : Array Slot} (hG : gd_W (dC, dI) A s (wd_M cI a S) H locs) (hl : lv_has ls 3 [(0, .ref (a 0)), (1, .int v1)]) : W p l e RM8_writesSquare s m args below meth c H locs 0 0 (MQ below (qv_W (dC, dI) [(cI, .int)] A (wd_M cI a q)) args s 0 0 A) (F0 m 91 ls []) := by
  unfold f8_writesSquare_b91 at h
  obtain ⟨hx, hb, hr, hts, hown, hlocks, hml⟩ := id C
  refine lv_iconst (v := (0 : Int32)) hx hb dX8_writesSquare_91 (by decide) ?_
  refine lv_istore_n (lv' := [(2, .int (0 : Int32)), (0, .ref (a 0)), (1, .int v1)]) hx hb dX8_writesSquare_92 rfl hl (by decide) rfl (fun ls hl => ?_)
  exact w8_writesSquare_L93 C hK hA fo_fu h hG (lv_sub hl [1, 2, 0] rfl)
set_option maxRecDepth 100000 in
set_option maxHeartbeats 4000000 in
theorem w8_writesSquare_b61 (C : cx_M p s m args meth c RX8 cX8_writesSquare none 3) (hK : va_K (dC, dI) vwCl [(cI, .int)] s) (hA : ∀ q, s.heap.size ≤ q → A q) {a : Nat → Nat} {q : ms_T} {v1 : Int32} {S : ms_T} (h : f8_writesSquare_b61 v1 S = some q) {H : Heap} {locs : List Loc} {ls : Array Slot} (hG : gd_W (dC, dI) A s (wd_M cI a S) H locs) (hl : lv_has ls 3 [(0, .ref (a 0)), (1, .int v1)]) : W p l e RM8_writesSquare s m args below meth c H locs 0 0 (MQ below (qv_W (dC, dI) [(cI, .int)] A (wd_M cI a q)) args s 0 0 A) (F0 m 61 ls []) := by
  unfold f8_writesSquare_b61 at h
  obtain ⟨hx, hb, hr, hts, hown, hlocks, hml⟩ := id C
  refine lv_aload_n hx hb dX8_writesSquare_61 rfl (lv_at hl 0 rfl) ?_
  refine va_get (D := (dC, dI)) (ci := 7) (v := .ref (a 1)) (C := RX8) (T := TX8) (N := 17) hx hb hts inlX8 hown hK hG.1 0 rfl rfl 0 (by decide) (hts (Cond.fieldLink RX8 7 "DiceRoadsModel" "state" "[I") wq_637) (fun _ h9 => h9) rfl dX8_writesSquare_62 ?_
  refine lv_bipush (v := (31 : Int32)) hx hb dX8_writesSquare_65 (by decide) ?_
  refine lv_iload_n hx hb dX8_writesSquare_67 rfl (lv_at hl 1 rfl) ?_
  refine lv_iadd hx hb dX8_writesSquare_68 ?_
  obtain ⟨hi, h⟩ := fo_ck_some h
  refine va_iald hx hb hK hG.1 1 0 rfl rfl hi dX8_writesSquare_69 ?_
  refine lv_bipush (v := (-6 : Int32)) hx hb dX8_writesSquare_70 (by decide) ?_
  refine lv_icmp_eq (tgt := 91) hx hb dX8_writesSquare_72 (by decide) (fun hc => ?_) (fun hc => ?_)
  · have h := fo_it h hc
    exact w8_writesSquare_b91 C hK hA h hG (lv_sub hl [0, 1] rfl)
  · have h := fo_if h hc
    refine lv_aload_n hx hb dX8_writesSquare_75 rfl (lv_at hl 0 rfl) ?_
    refine lv_bipush (v := (97 : Int32)) hx hb dX8_writesSquare_76 (by decide) ?_
    refine lv_aload_n hx hb dX8_writesSquare_78 rfl (lv_at hl 0 rfl) ?_
    refine va_get (D := (dC, dI)) (ci := 7) (v := .ref (a 1)) (C := RX8) (T := TX8) (N := 17) hx hb hts inlX8 hown hK hG.1 0 rfl rfl 0 (by decide) (hts (Cond.fieldLink RX8 7 "DiceRoadsModel" "state" "[I") wq_637) (fun _ h9 => h9) rfl dX8_writesSquare_79 ?_
    refine lv_bipush (v := (31 : Int32)) hx hb dX8_writesSquare_82 (by decide) ?_
    refine lv_iload_n hx hb dX8_writesSquare_84 rfl (lv_at hl 1 rfl) ?_
    refine lv_iadd hx hb dX8_writesSquare_85 ?_
    obtain ⟨hi, h⟩ := fo_ck_some h
    refine va_iald hx hb hK hG.1 1 0 rfl rfl hi dX8_writesSquare_86 ?_
    refine lv_iadd hx hb dX8_writesSquare_87 ?_
    obtain ⟨q88, hq88, h⟩ := fo_bd_some h
    refine gc_vV (b := a 0) (C := RX8) (As := [.int ((97 : Int32) + ((S 0) ((31 : Int32) + v1).toNatClampNeg))]) (rest := []) (wc := (wd_M cI a S)) (w1 := (wd_M cI a q88)) (ci := 7) (q0 := 0) ⟨hx, hb, hml, hown, hts⟩ (c8_writesSign l (a := a) hq88) (cwV 1 hts gv_X8_195 rfl rfl rfl hd8_writesSign ⟨Nat.le_of_ble_eq_true rfl, Nat.le_of_ble_eq_true rfl⟩) hK [0] rfl hA hG [0, 1, 2, 3, 4, 5, 6, 7, 8] rfl rfl rfl rfl rfl rfl hl.1 rfl (Nat.le_of_ble_eq_true rfl) dX8_writesSquare_88 ⟨Nat.zero_le _, Nat.zero_le _⟩ (fun H locs hG9 => ?_)
    have hG : gd_W (dC, dI) A s (wd_M cI a q88) H locs := hG9
    exact w8_writesSquare_b91 C hK hA h hG (lv_sub hl [0, 1] rfl)
set_option maxRecDepth 100000 in
set_option maxHeartbeats 4000000 in
theorem w8_writesSquare_b28 (C : cx_M p s m args meth c RX8 cX8_writesSquare none 3) (hK : va_K (dC, dI) vwCl [(cI, .int)] s) (hA : ∀ q, s.heap.size ≤ q → A q) {a : Nat → Nat} {q : ms_T} {v1 : Int32} {t1 : Int32} {S : ms_T} (h : f8_writesSquare_b28 v1 t1 S = some q) {H : Heap} {locs : List Loc} {ls : Array Slot} (hG : gd_W (dC, dI) A s (wd_M cI a S) H locs) (hl : lv_has ls 3 [(0, .ref (a 0)), (1, .int v1)]) : W p l e RM8_writesSquare s m args below meth c H locs 0 0 (MQ below (qv_W (dC, dI) [(cI, .int)] A (wd_M cI a q)) args s 0 0 A) (F0 m 28 ls [.int t1, .ref (a 0)]) := by
  unfold f8_writesSquare_b28 at h
  obtain ⟨hx, hb, hr, hts, hown, hlocks, hml⟩ := id C
  obtain ⟨q28, hq28, h⟩ := fo_bd_some h
  refine gc_vV (b := a 0) (C := RX8) (As := [.int t1]) (rest := []) (wc := (wd_M cI a S)) (w1 := (wd_M cI a q28)) (ci := 7) (q0 := 0) ⟨hx, hb, hml, hown, hts⟩ (c8_writesSign l (a := a) hq28) (cwV 1 hts gv_X8_195 rfl rfl rfl hd8_writesSign ⟨Nat.le_of_ble_eq_true rfl, Nat.le_of_ble_eq_true rfl⟩) hK [0] rfl hA hG [0, 1, 2, 3, 4, 5, 6, 7, 8] rfl rfl rfl rfl rfl rfl hl.1 rfl (Nat.le_of_ble_eq_true rfl) dX8_writesSquare_28 ⟨Nat.zero_le _, Nat.zero_le _⟩ (fun H locs hG9 => ?_)
  have hG : gd_W (dC, dI) A s (wd_M cI a q28) H locs := hG9
  refine lv_aload_n hx hb dX8_writesSquare_31 rfl (lv_at hl 0 rfl) ?_
  refine va_get (D := (dC, dI)) (ci := 7) (v := .ref (a 1)) (C := RX8) (T := TX8) (N := 17) hx hb hts inlX8 hown hK hG.1 0 rfl rfl 0 (by decide) (hts (Cond.fieldLink RX8 7 "DiceRoadsModel" "state" "[I") wq_637) (fun _ h9 => h9) rfl dX8_writesSquare_32 ?_
  refine lv_bipush (v := (11 : Int32)) hx hb dX8_writesSquare_35 (by decide) ?_
  refine lv_iload_n hx hb dX8_writesSquare_37 rfl (lv_at hl 1 rfl) ?_
  refine lv_iadd hx hb dX8_writesSquare_38 ?_
  obtain ⟨hi, h⟩ := fo_ck_some h
  refine va_iald hx hb hK hG.1 1 0 rfl rfl hi dX8_writesSquare_39 ?_
  refine lv_bipush (v := (-6 : Int32)) hx hb dX8_writesSquare_40 (by decide) ?_
  refine lv_icmp_eq (tgt := 61) hx hb dX8_writesSquare_42 (by decide) (fun hc => ?_) (fun hc => ?_)
  · have h := fo_it h hc
    exact w8_writesSquare_b61 C hK hA h hG (lv_sub hl [0, 1] rfl)
  · have h := fo_if h hc
    refine lv_aload_n hx hb dX8_writesSquare_45 rfl (lv_at hl 0 rfl) ?_
    refine lv_bipush (v := (97 : Int32)) hx hb dX8_writesSquare_46 (by decide) ?_
    refine lv_aload_n hx hb dX8_writesSquare_48 rfl (lv_at hl 0 rfl) ?_
    refine va_get (D := (dC, dI)) (ci := 7) (v := .ref (a 1)) (C := RX8) (T := TX8) (N := 17) hx hb hts inlX8 hown hK hG.1 0 rfl rfl 0 (by decide) (hts (Cond.fieldLink RX8 7 "DiceRoadsModel" "state" "[I") wq_637) (fun _ h9 => h9) rfl dX8_writesSquare_49 ?_
    refine lv_bipush (v := (11 : Int32)) hx hb dX8_writesSquare_52 (by decide) ?_
    refine lv_iload_n hx hb dX8_writesSquare_54 rfl (lv_at hl 1 rfl) ?_
    refine lv_iadd hx hb dX8_writesSquare_55 ?_
    obtain ⟨hi, h⟩ := fo_ck_some h
    refine va_iald hx hb hK hG.1 1 0 rfl rfl hi dX8_writesSquare_56 ?_
    refine lv_iadd hx hb dX8_writesSquare_57 ?_
    obtain ⟨q58, hq58, h⟩ := fo_bd_some h
    refine gc_vV (b := a 0) (C := RX8) (As := [.int ((97 : Int32) + ((q28 0) ((11 : Int32) + v1).toNatClampNeg))]) (rest := []) (wc := (wd_M cI a q28)) (w1 := (wd_M cI a q58)) (ci := 7) (q0 := 0) ⟨hx, hb, hml, hown, hts⟩ (c8_writesSign l (a := a) hq58) (cwV 1 hts gv_X8_195 rfl rfl rfl hd8_writesSign ⟨Nat.le_of_ble_eq_true rfl, Nat.le_of_ble_eq_true rfl⟩) hK [0] rfl hA hG [0, 1, 2, 3, 4, 5, 6, 7, 8] rfl rfl rfl rfl rfl rfl hl.1 rfl (Nat.le_of_ble_eq_true rfl) dX8_writesSquare_58 ⟨Nat.zero_le _, Nat.zero_le _⟩ (fun H locs hG9 => ?_)
    have hG : gd_W (dC, dI) A s (wd_M cI a q58) H locs := hG9
    exact w8_writesSquare_b61 C hK hA h hG (lv_sub hl [0, 1] rfl)
set_option maxRecDepth 100000 in
set_option maxHeartbeats 4000000 in
theorem w8_writesSquare (C : cx_M p s m args meth c RX8 cX8_writesSquare none 3) (hK : va_K (dC, dI) vwCl [(cI, .int)] s) (hA : ∀ q, s.heap.size ≤ q → A q) {a : Nat → Nat} {q : ms_T} {v1 : Int32} {S : ms_T} (h : f8_writesSquare v1 S = some q) {H : Heap} {locs : List Loc} {ls : Array Slot} (hG : gd_W (dC, dI) A s (wd_M cI a S) H locs) (hl : lv_has ls 3 [(0, .ref (a 0)), (1, .int v1)]) : W p l e RM8_writesSquare s m args below meth c H locs 0 0 (MQ below (qv_W (dC, dI) [(cI, .int)] A (wd_M cI a q)) args s 0 0 A) (F0 m 0 ls []) := by
  unfold f8_writesSquare at h
  obtain ⟨hx, hb, hr, hts, hown, hlocks, hml⟩ := id C
  refine lv_aload_n hx hb dX8_writesSquare_0 rfl (lv_at hl 0 rfl) ?_
  refine lv_iload_n hx hb dX8_writesSquare_1 rfl (lv_at hl 1 rfl) ?_
  obtain ⟨q2, hq2, h⟩ := fo_bd_some h
  refine gc_iS (As := [.int v1]) (rest := [.ref (a 0)]) (wc := ([] : va_W)) (w1 := ([] : va_W)) ⟨hx, hb, hml, hown, hts⟩ (c8_sortOf l (a := a) hq2) (va_cwS 1 hts gv_X8_57 rfl rfl rfl hd8_sortOf ⟨Nat.le_of_ble_eq_true rfl, Nat.le_of_ble_eq_true rfl⟩) hK [] rfl hA hG [] rfl rfl rfl rfl hl.1 rfl (Nat.le_of_ble_eq_true rfl) dX8_writesSquare_2 ⟨Nat.zero_le _, Nat.zero_le _⟩ (fun H locs hG9 => ?_)
  have hG : gd_W (dC, dI) A s (wd_M cI a S) H locs := hG9
  refine lv_if_ne (tgt := 13) hx hb dX8_writesSquare_5 (by decide) (fun hc => ?_) (fun hc => ?_)
  · have h := fo_if h hc
    refine lv_iload_n hx hb dX8_writesSquare_13 rfl (lv_at hl 1 rfl) ?_
    obtain ⟨q14, hq14, h⟩ := fo_bd_some h
    refine gc_iS (As := [.int v1]) (rest := [.ref (a 0)]) (wc := ([] : va_W)) (w1 := ([] : va_W)) ⟨hx, hb, hml, hown, hts⟩ (c8_sortOf l (a := a) hq14) (va_cwS 1 hts gv_X8_57 rfl rfl rfl hd8_sortOf ⟨Nat.le_of_ble_eq_true rfl, Nat.le_of_ble_eq_true rfl⟩) hK [] rfl hA hG [] rfl rfl rfl rfl hl.1 rfl (Nat.le_of_ble_eq_true rfl) dX8_writesSquare_14 ⟨Nat.zero_le _, Nat.zero_le _⟩ (fun H locs hG9 => ?_)
    have hG : gd_W (dC, dI) A s (wd_M cI a S) H locs := hG9
    refine lv_iconst (v := (1 : Int32)) hx hb dX8_writesSquare_17 (by decide) ?_
    refine lv_icmp_ne (tgt := 26) hx hb dX8_writesSquare_18 (by decide) (fun hc => ?_) (fun hc => ?_)
    · have h := fo_if h hc
      refine lv_bipush (v := (61 : Int32)) hx hb dX8_writesSquare_26 (by decide) ?_
      exact w8_writesSquare_b28 C hK hA h hG (lv_sub hl [0, 1] rfl)
    · have h := fo_it h hc
      refine lv_bipush (v := (45 : Int32)) hx hb dX8_writesSquare_21 (by decide) ?_
      refine lv_goto (tgt := 28) hx hb dX8_writesSquare_23 (by decide) ?_
      exact w8_writesSquare_b28 C hK hA h hG (lv_sub hl [0, 1] rfl)
  · have h := fo_it h hc
    refine lv_bipush (v := (111 : Int32)) hx hb dX8_writesSquare_8 (by decide) ?_
    refine lv_goto (tgt := 28) hx hb dX8_writesSquare_10 (by decide) ?_
    exact w8_writesSquare_b28 C hK hA h hG (lv_sub hl [0, 1] rfl)
set_option maxRecDepth 100000 in
set_option maxHeartbeats 4000000 in
theorem c8_writesSquare (l : Launch) {dC : Nat → ClassId} {dI : Nat → Nat → Nat} {cI : ClassId} {a : Nat → Nat} {v1 : Int32} {S : ms_T} {q : ms_T} (h : f8_writesSquare v1 S = some q) : mv_M l yX8_writesSquare wm8_writesSquare RM8_writesSquare (dC, dI) [(cI, .int)] [.ref (a 0), .int v1] (wd_M cI a S) (wd_M cI a q) := by
  intro sz
  refine Met.ofW (cc := cX8_writesSquare) (maxL := 3) (ret := none) (by decide) rfl ?_
  intro p e s m args below meth c s₁ B hml hv
  obtain ⟨rfl, hsz, hP, hK, hD0⟩ := hv
  subst hsz
  have hl := lv_entry ([.ref (a 0), .int v1] : List Value) (n := 3) (Nat.le_of_ble_eq_true rfl)
  rw [lg_entry_eq]
  generalize (lg_sl ([.ref (a 0), .int v1] : List Value) ++ List.replicate (3 - (lg_sl ([.ref (a 0), .int v1] : List Value)).length) Slot.unset).toArray = ls at hl ⊢
  exact w8_writesSquare (a := a) ⟨B.exec, B.bytes, B.returns, fun w hw => atoms_spec (ws := wm8_writesSquare) B.pre w (List.mem_cons_of_mem _ hw), findClass_of_methodNamed B.named, B.notSynchronized, hml⟩ hK (fun _ h => Or.inr h) h ⟨hP, hD0.self, va_S.rf⟩ hl
end
/-! ## DiceRoadsModel.writes(I)V -/
section
variable {p : Program} {l : Launch} {e : Env} {s : State} {m : MethodId} {args : Array Value} {below : List Frame} {meth : Method} {c : Code} {dC : Nat → ClassId} {dI : Nat → Nat → Nat} {cI : ClassId} {A : Nat → Prop}
set_option maxRecDepth 100000 in
set_option maxHeartbeats 4000000 in
theorem w8_writes_b17 (C : cx_M p s m args meth c RX8 cX8_writes none 3) (hK : va_K (dC, dI) vwCl [(cI, .int)] s) (hA : ∀ q, s.heap.size ≤ q → A q) {a : Nat → Nat} {q : ms_T} {rec17 : Int32 → ms_T → Option ms_T} (hrec17 : ∀ {v2 : Int32} {S : ms_T} , rec17 v2 S = some q → ∀ {H : Heap} {locs : List Loc} {ls : Array Slot}, gd_W (dC, dI) A s (wd_M cI a S) H locs → lv_has ls 3 [(0, .ref (a 0)), (2, .int v2)] → W p l e RM8_writes s m args below meth c H locs 0 0 (MQ below (qv_W (dC, dI) [(cI, .int)] A (wd_M cI a q)) args s 0 0 A) (F0 m 17 ls [])) {v2 : Int32} {S : ms_T} (h : f8_writes_b17 rec17 v2 S = some q) {H : Heap} {locs : List Loc} {ls : Array Slot} (hG : gd_W (dC, dI) A s (wd_M cI a S) H locs) (hl : lv_has ls 3 [(0, .ref (a 0)), (2, .int v2)]) : W p l e RM8_writes s m args below meth c H locs 0 0 (MQ below (qv_W (dC, dI) [(cI, .int)] A (wd_M cI a q)) args s 0 0 A) (F0 m 17 ls []) := by
  unfold f8_writes_b17 at h
  obtain ⟨hx, hb, hr, hts, hown, hlocks, hml⟩ := id C
  refine lv_iload_n hx hb dX8_writes_17 rfl (lv_at hl 1 rfl) ?_
  refine lv_bipush (v := (20 : Int32)) hx hb dX8_writes_18 (by decide) ?_
  refine lv_icmp_ge (tgt := 34) hx hb dX8_writes_20 (by decide) (fun hc => ?_) (fun hc => ?_)
  · have h := fo_it h hc
    obtain rfl := Option.some.inj h
    exact gr_v hx hb hr hlocks hK hG dX8_writes_34
  · have h := fo_if h hc
    refine lv_aload_n hx hb dX8_writes_23 rfl (lv_at hl 0 rfl) ?_
    refine lv_iload_n hx hb dX8_writes_24 rfl (lv_at hl 1 rfl) ?_
    obtain ⟨q25, hq25, h⟩ := fo_bd_some h
    refine gc_vV (b := a 0) (C := RX8) (As := [.int v2]) (rest := []) (wc := (wd_M cI a S)) (w1 := (wd_M cI a q25)) (ci := 7) (q0 := 0) ⟨hx, hb, hml, hown, hts⟩ (c8_writesSquare l (a := a) hq25) (cwV 1 hts gv_X8_198 rfl rfl rfl hd8_writesSquare ⟨Nat.le_of_ble_eq_true rfl, Nat.le_of_ble_eq_true rfl⟩) hK [0] rfl hA hG [0, 1, 2, 3, 4, 5, 6, 7, 8] rfl rfl rfl rfl rfl rfl hl.1 rfl (Nat.le_of_ble_eq_true rfl) dX8_writes_25 ⟨Nat.zero_le _, Nat.zero_le _⟩ (fun H locs hG9 => ?_)
    have hG : gd_W (dC, dI) A s (wd_M cI a q25) H locs := hG9
    refine lv_iinc (v := (v2 + (1 : Int32))) (lv' := [(2, .int (v2 + (1 : Int32))), (0, .ref (a 0))]) hx hb dX8_writes_28 hl (k := 1) rfl rfl (by decide) rfl (fun ls hl => ?_)
    refine lv_goto (tgt := 17) hx hb dX8_writes_31 (by decide) ?_
    exact hrec17 h hG (lv_sub hl [1, 0] rfl)
set_option maxRecDepth 100000 in
set_option maxHeartbeats 4000000 in
theorem w8_writes_L17 (C : cx_M p s m args meth c RX8 cX8_writes none 3) (hK : va_K (dC, dI) vwCl [(cI, .int)] s) (hA : ∀ q, s.heap.size ≤ q → A q) {a : Nat → Nat} {q : ms_T} : ∀ (n : Nat) {v2 : Int32} {S : ms_T}, f8_writes_L17 n v2 S = some q → ∀ {H : Heap} {locs : List Loc} {ls : Array Slot}, gd_W (dC, dI) A s (wd_M cI a S) H locs → lv_has ls 3 [(0, .ref (a 0)), (2, .int v2)] → W p l e RM8_writes s m args below meth c H locs 0 0 (MQ below (qv_W (dC, dI) [(cI, .int)] A (wd_M cI a q)) args s 0 0 A) (F0 m 17 ls []) := by
  intro n
  induction n with
  | zero => intro _ _ h; exact nomatch h
  | succ n ih => intro v2 S h H locs ls hG hl; exact w8_writes_b17 C hK hA (fun h => ih h) (show f8_writes_b17 (f8_writes_L17 n) v2 S = some q from h) hG hl
set_option maxRecDepth 100000 in
set_option maxHeartbeats 4000000 in
theorem w8_writes (C : cx_M p s m args meth c RX8 cX8_writes none 3) (hK : va_K (dC, dI) vwCl [(cI, .int)] s) (hA : ∀ q, s.heap.size ≤ q → A q) {a : Nat → Nat} {q : ms_T} {v1 : Int32} {S : ms_T} (h : f8_writes v1 S = some q) {H : Heap} {locs : List Loc} {ls : Array Slot} (hG : gd_W (dC, dI) A s (wd_M cI a S) H locs) (hl : lv_has ls 3 [(0, .ref (a 0)), (1, .int v1)]) : W p l e RM8_writes s m args below meth c H locs 0 0 (MQ below (qv_W (dC, dI) [(cI, .int)] A (wd_M cI a q)) args s 0 0 A) (F0 m 0 ls []) := by
  unfold f8_writes at h
  obtain ⟨hx, hb, hr, hts, hown, hlocks, hml⟩ := id C
  refine lv_aload_n hx hb dX8_writes_0 rfl (lv_at hl 0 rfl) ?_
  refine lv_iconst (v := (0 : Int32)) hx hb dX8_writes_1 (by decide) ?_
  refine va_put (D := (dC, dI)) (ci := 7) (v := .int (0 : Int32)) (ty := .int) (C := RX8) (T := TX8) (N := 17) hx hb hts inlX8 tyX8 tyX8_ok nmX8 hown hK hG.1 hG.2.1 hG.2.2 0 rfl rfl 8 (by decide) (hts (Cond.fieldLink RX8 183 "DiceRoadsModel" "signs" "I") wq_645) (fun _ h9 => h9) rfl (by decide +kernel) rfl rfl (Nat.le_of_ble_eq_true rfl) dX8_writes_2 (fun H locs hP9 hD9 hS9 => ?_)
  have hG : gd_W (dC, dI) A s (wd_M cI a (ms_set S 8 (upd (S 8) 2 (0 : Int32)))) H locs := ⟨hP9, hD9, hS9⟩
  refine lv_aload_n hx hb dX8_writes_5 rfl (lv_at hl 0 rfl) ?_
  refine lv_iload_n hx hb dX8_writes_6 rfl (lv_at hl 1 rfl) ?_
  refine va_put (D := (dC, dI)) (ci := 7) (v := .int v1) (ty := .int) (C := RX8) (T := TX8) (N := 17) hx hb hts inlX8 tyX8 tyX8_ok nmX8 hown hK hG.1 hG.2.1 hG.2.2 0 rfl rfl 9 (by decide) (hts (Cond.fieldLink RX8 189 "DiceRoadsModel" "wantedSign" "I") wq_646) (fun _ h9 => h9) rfl (by decide +kernel) rfl rfl (Nat.le_of_ble_eq_true rfl) dX8_writes_7 (fun H locs hP9 hD9 hS9 => ?_)
  have hG : gd_W (dC, dI) A s (wd_M cI a (ms_set (ms_set S 8 (upd (S 8) 2 (0 : Int32))) 8 (upd ((ms_set S 8 (upd (S 8) 2 (0 : Int32))) 8) 3 v1))) H locs := ⟨hP9, hD9, hS9⟩
  refine lv_aload_n hx hb dX8_writes_10 rfl (lv_at hl 0 rfl) ?_
  refine lv_iconst (v := (-1 : Int32)) hx hb dX8_writes_11 (by decide) ?_
  refine va_put (D := (dC, dI)) (ci := 7) (v := .int (-1 : Int32)) (ty := .int) (C := RX8) (T := TX8) (N := 17) hx hb hts inlX8 tyX8 tyX8_ok nmX8 hown hK hG.1 hG.2.1 hG.2.2 0 rfl rfl 10 (by decide) (hts (Cond.fieldLink RX8 192 "DiceRoadsModel" "foundSign" "I") wq_647) (fun _ h9 => h9) rfl (by decide +kernel) rfl rfl (Nat.le_of_ble_eq_true rfl) dX8_writes_12 (fun H locs hP9 hD9 hS9 => ?_)
  have hG : gd_W (dC, dI) A s (wd_M cI a (ms_set (ms_set (ms_set S 8 (upd (S 8) 2 (0 : Int32))) 8 (upd ((ms_set S 8 (upd (S 8) 2 (0 : Int32))) 8) 3 v1)) 8 (upd ((ms_set (ms_set S 8 (upd (S 8) 2 (0 : Int32))) 8 (upd ((ms_set S 8 (upd (S 8) 2 (0 : Int32))) 8) 3 v1)) 8) 4 (-1 : Int32)))) H locs := ⟨hP9, hD9, hS9⟩
  refine lv_iconst (v := (0 : Int32)) hx hb dX8_writes_15 (by decide) ?_
  refine lv_istore_n (lv' := [(2, .int (0 : Int32)), (0, .ref (a 0)), (1, .int v1)]) hx hb dX8_writes_16 rfl hl (by decide) rfl (fun ls hl => ?_)
  exact w8_writes_L17 C hK hA fo_fu h hG (lv_sub hl [1, 0] rfl)
set_option maxRecDepth 100000 in
set_option maxHeartbeats 4000000 in
theorem c8_writes (l : Launch) {dC : Nat → ClassId} {dI : Nat → Nat → Nat} {cI : ClassId} {a : Nat → Nat} {v1 : Int32} {S : ms_T} {q : ms_T} (h : f8_writes v1 S = some q) : mv_M l yX8_writes wm8_writes RM8_writes (dC, dI) [(cI, .int)] [.ref (a 0), .int v1] (wd_M cI a S) (wd_M cI a q) := by
  intro sz
  refine Met.ofW (cc := cX8_writes) (maxL := 3) (ret := none) (by decide) rfl ?_
  intro p e s m args below meth c s₁ B hml hv
  obtain ⟨rfl, hsz, hP, hK, hD0⟩ := hv
  subst hsz
  have hl := lv_entry ([.ref (a 0), .int v1] : List Value) (n := 3) (Nat.le_of_ble_eq_true rfl)
  rw [lg_entry_eq]
  generalize (lg_sl ([.ref (a 0), .int v1] : List Value) ++ List.replicate (3 - (lg_sl ([.ref (a 0), .int v1] : List Value)).length) Slot.unset).toArray = ls at hl ⊢
  exact w8_writes (a := a) ⟨B.exec, B.bytes, B.returns, fun w hw => atoms_spec (ws := wm8_writes) B.pre w (List.mem_cons_of_mem _ hw), findClass_of_methodNamed B.named, B.notSynchronized, hml⟩ hK (fun _ h => Or.inr h) h ⟨hP, hD0.self, va_S.rf⟩ hl
end
/-! ## DiceRoadsModel.count(I)I -/
section
variable {p : Program} {l : Launch} {e : Env} {s : State} {m : MethodId} {args : Array Value} {below : List Frame} {meth : Method} {c : Code} {dC : Nat → ClassId} {dI : Nat → Nat → Nat} {cI : ClassId} {A : Nat → Prop}
set_option maxRecDepth 100000 in
set_option maxHeartbeats 4000000 in
theorem w8_count (C : cx_M p s m args meth c RX8 cX8_count (some .int) 2) (hK : va_K (dC, dI) vwCl [(cI, .int)] s) (hA : ∀ q, s.heap.size ≤ q → A q) {a : Nat → Nat} {q : (Int32 × ms_T)} {v1 : Int32} {S : ms_T} (h : f8_count v1 S = some q) {H : Heap} {locs : List Loc} {ls : Array Slot} (hG : gd_W (dC, dI) A s (wd_M cI a S) H locs) (hl : lv_has ls 2 [(0, .ref (a 0)), (1, .int v1)]) : W p l e RM8_count s m args below meth c H locs 0 0 (MQ below (qi_W (dC, dI) [(cI, .int)] A q.1 (wd_M cI a q.2)) args s 0 0 A) (F0 m 0 ls []) := by
  unfold f8_count at h
  obtain ⟨hx, hb, hr, hts, hown, hlocks, hml⟩ := id C
  refine lv_iload_n hx hb dX8_count_0 rfl (lv_at hl 1 rfl) ?_
  refine lv_bipush (v := (9 : Int32)) hx hb dX8_count_1 (by decide) ?_
  refine lv_bipush (v := (13 : Int32)) hx hb dX8_count_3 (by decide) ?_
  obtain ⟨q5, hq5, h⟩ := fo_bd_some h
  refine gc_iS (As := [.int v1, .int (9 : Int32), .int (13 : Int32)]) (rest := []) (wc := ([] : va_W)) (w1 := ([] : va_W)) ⟨hx, hb, hml, hown, hts⟩ (c8_within l (a := a) hq5) (va_cwS 3 hts gv_X8_42 rfl rfl rfl hd8_within ⟨Nat.le_of_ble_eq_true rfl, Nat.le_of_ble_eq_true rfl⟩) hK [] rfl hA hG [] rfl rfl rfl rfl hl.1 rfl (Nat.le_of_ble_eq_true rfl) dX8_count_5 ⟨Nat.zero_le _, Nat.zero_le _⟩ (fun H locs hG9 => ?_)
  have hG : gd_W (dC, dI) A s (wd_M cI a S) H locs := hG9
  refine lv_if_eq (tgt := 21) hx hb dX8_count_8 (by decide) (fun hc => ?_) (fun hc => ?_)
  · have h := fo_it h hc
    refine lv_iload_n hx hb dX8_count_21 rfl (lv_at hl 1 rfl) ?_
    by_cases hc : v1 = (0 : Int32)
    · have h := fo_it h hc
      refine W.eq (g2 := F0 m 22 ls [.int (0 : Int32)]) (by rw [hc]) ?_
      refine lv_tableIn (tgt := 104) hx hb dX8_count_22 (by decide) (by decide) rfl (by decide) ?_
      refine lv_aload_n hx hb dX8_count_104 rfl (lv_at hl 0 rfl) ?_
      refine va_get (D := (dC, dI)) (ci := 7) (v := .ref (a 1)) (C := RX8) (T := TX8) (N := 17) hx hb hts inlX8 hown hK hG.1 0 rfl rfl 0 (by decide) (hts (Cond.fieldLink RX8 7 "DiceRoadsModel" "state" "[I") wq_637) (fun _ h9 => h9) rfl dX8_count_105 ?_
      refine lv_iconst (v := (5 : Int32)) hx hb dX8_count_108 (by decide) ?_
      obtain ⟨hi, h⟩ := fo_ck_some h
      refine va_iald hx hb hK hG.1 1 0 rfl rfl hi dX8_count_109 ?_
      obtain rfl := Option.some.inj h
      exact gr_i hx hb hr hlocks hK hG rfl dX8_count_110
    replace h := fo_if h hc
    have hn0 := lv_neT (a := 0) hc (by decide)
    have hm0 := hc
    clear hc
    by_cases hc : v1 = (1 : Int32)
    · have h := fo_it h hc
      refine W.eq (g2 := F0 m 22 ls [.int (1 : Int32)]) (by rw [hc]) ?_
      refine lv_tableIn (tgt := 111) hx hb dX8_count_22 (by decide) (by decide) rfl (by decide) ?_
      refine lv_aload_n hx hb dX8_count_111 rfl (lv_at hl 0 rfl) ?_
      refine va_get (D := (dC, dI)) (ci := 7) (v := .ref (a 1)) (C := RX8) (T := TX8) (N := 17) hx hb hts inlX8 hown hK hG.1 0 rfl rfl 0 (by decide) (hts (Cond.fieldLink RX8 7 "DiceRoadsModel" "state" "[I") wq_637) (fun _ h9 => h9) rfl dX8_count_112 ?_
      refine lv_bipush (v := (6 : Int32)) hx hb dX8_count_115 (by decide) ?_
      obtain ⟨hi, h⟩ := fo_ck_some h
      refine va_iald hx hb hK hG.1 1 0 rfl rfl hi dX8_count_117 ?_
      obtain rfl := Option.some.inj h
      exact gr_i hx hb hr hlocks hK hG rfl dX8_count_118
    replace h := fo_if h hc
    have hn1 := lv_neT (a := 1) hc (by decide)
    have hm1 := hc
    clear hc
    by_cases hc : v1 = (2 : Int32)
    · have h := fo_it h hc
      refine W.eq (g2 := F0 m 22 ls [.int (2 : Int32)]) (by rw [hc]) ?_
      refine lv_tableIn (tgt := 119) hx hb dX8_count_22 (by decide) (by decide) rfl (by decide) ?_
      refine lv_aload_n hx hb dX8_count_119 rfl (lv_at hl 0 rfl) ?_
      refine va_get (D := (dC, dI)) (ci := 7) (v := .ref (a 1)) (C := RX8) (T := TX8) (N := 17) hx hb hts inlX8 hown hK hG.1 0 rfl rfl 0 (by decide) (hts (Cond.fieldLink RX8 7 "DiceRoadsModel" "state" "[I") wq_637) (fun _ h9 => h9) rfl dX8_count_120 ?_
      refine lv_bipush (v := (6 : Int32)) hx hb dX8_count_123 (by decide) ?_
      obtain ⟨hi, h⟩ := fo_ck_some h
      refine va_iald hx hb hK hG.1 1 0 rfl rfl hi dX8_count_125 ?_
      refine lv_if_ne (tgt := 134) hx hb dX8_count_126 (by decide) (fun hc => ?_) (fun hc => ?_)
      · have h := fo_if h hc
        refine lv_aload_n hx hb dX8_count_134 rfl (lv_at hl 0 rfl) ?_
        refine va_get (D := (dC, dI)) (ci := 7) (v := .ref (a 1)) (C := RX8) (T := TX8) (N := 17) hx hb hts inlX8 hown hK hG.1 0 rfl rfl 0 (by decide) (hts (Cond.fieldLink RX8 7 "DiceRoadsModel" "state" "[I") wq_637) (fun _ h9 => h9) rfl dX8_count_135 ?_
        refine lv_bipush (v := (7 : Int32)) hx hb dX8_count_138 (by decide) ?_
        obtain ⟨hi, h⟩ := fo_ck_some h
        refine va_iald hx hb hK hG.1 1 0 rfl rfl hi dX8_count_140 ?_
        obtain rfl := Option.some.inj h
        exact gr_i hx hb hr hlocks hK hG rfl dX8_count_141
      · have h := fo_it h hc
        refine lv_bipush (v := (-6 : Int32)) hx hb dX8_count_129 (by decide) ?_
        refine lv_goto (tgt := 141) hx hb dX8_count_131 (by decide) ?_
        obtain rfl := Option.some.inj h
        exact gr_i hx hb hr hlocks hK hG rfl dX8_count_141
    replace h := fo_if h hc
    have hn2 := lv_neT (a := 2) hc (by decide)
    have hm2 := hc
    clear hc
    by_cases hc : v1 = (3 : Int32)
    · have h := fo_it h hc
      refine W.eq (g2 := F0 m 22 ls [.int (3 : Int32)]) (by rw [hc]) ?_
      refine lv_tableIn (tgt := 142) hx hb dX8_count_22 (by decide) (by decide) rfl (by decide) ?_
      refine lv_aload_n hx hb dX8_count_142 rfl (lv_at hl 0 rfl) ?_
      obtain ⟨q143, hq143, h⟩ := fo_bd_some h
      refine gc_iV (b := a 0) (C := RX8) (As := []) (rest := []) (wc := (wd_M0 cI a (S 8) (S 0))) (w1 := (wd_M0 cI a (S 8) (S 0))) (ci := 7) (q0 := 0) ⟨hx, hb, hml, hown, hts⟩ (c8_debtsMany l (a := a) (X := (S 8)) hq143) (cwV 0 hts gv_X8_174 rfl rfl rfl hd8_debtsMany ⟨Nat.le_of_ble_eq_true rfl, Nat.le_of_ble_eq_true rfl⟩) hK [0] rfl hA hG [0, 1] rfl rfl rfl rfl rfl rfl hl.1 rfl (Nat.le_of_ble_eq_true rfl) dX8_count_143 ⟨Nat.zero_le _, Nat.zero_le _⟩ (fun H locs hG9 => ?_)
      have hG : gd_W (dC, dI) A s (wd_M cI a S) H locs := hG9
      obtain rfl := Option.some.inj h
      exact gr_i hx hb hr hlocks hK hG rfl dX8_count_146
    replace h := fo_if h hc
    have hn3 := lv_neT (a := 3) hc (by decide)
    have hm3 := hc
    clear hc
    by_cases hc : v1 = (4 : Int32)
    · have h := fo_it h hc
      refine W.eq (g2 := F0 m 22 ls [.int (4 : Int32)]) (by rw [hc]) ?_
      refine lv_tableIn (tgt := 147) hx hb dX8_count_22 (by decide) (by decide) rfl (by decide) ?_
      refine lv_aload_n hx hb dX8_count_147 rfl (lv_at hl 0 rfl) ?_
      refine lv_iconst (v := (0 : Int32)) hx hb dX8_count_148 (by decide) ?_
      obtain ⟨q149, hq149, h⟩ := fo_bd_some h
      refine gc_iV (b := a 0) (C := RX8) (As := [.int (0 : Int32)]) (rest := []) (wc := (wd_M0 cI a (S 8) (S 0))) (w1 := (wd_M0 cI a (S 8) (S 0))) (ci := 7) (q0 := 0) ⟨hx, hb, hml, hown, hts⟩ (c8_sumOf l (a := a) (X := (S 8)) hq149) (cwV 1 hts gv_X8_119 rfl rfl rfl hd8_sumOf ⟨Nat.le_of_ble_eq_true rfl, Nat.le_of_ble_eq_true rfl⟩) hK [0] rfl hA hG [0, 1] rfl rfl rfl rfl rfl rfl hl.1 rfl (Nat.le_of_ble_eq_true rfl) dX8_count_149 ⟨Nat.zero_le _, Nat.zero_le _⟩ (fun H locs hG9 => ?_)
      have hG : gd_W (dC, dI) A s (wd_M cI a S) H locs := hG9
      obtain rfl := Option.some.inj h
      exact gr_i hx hb hr hlocks hK hG rfl dX8_count_152
    replace h := fo_if h hc
    have hn4 := lv_neT (a := 4) hc (by decide)
    have hm4 := hc
    clear hc
    by_cases hc : v1 = (5 : Int32)
    · have h := fo_it h hc
      refine W.eq (g2 := F0 m 22 ls [.int (5 : Int32)]) (by rw [hc]) ?_
      refine lv_tableIn (tgt := 153) hx hb dX8_count_22 (by decide) (by decide) rfl (by decide) ?_
      refine lv_aload_n hx hb dX8_count_153 rfl (lv_at hl 0 rfl) ?_
      obtain ⟨q154, hq154, h⟩ := fo_bd_some h
      refine gc_iV (b := a 0) (C := RX8) (As := []) (rest := []) (wc := (wd_M0 cI a (S 8) (S 0))) (w1 := (wd_M0 cI a (S 8) (S 0))) (ci := 7) (q0 := 0) ⟨hx, hb, hml, hown, hts⟩ (c8_sumOfDebts l (a := a) (X := (S 8)) hq154) (cwV 0 hts gv_X8_177 rfl rfl rfl hd8_sumOfDebts ⟨Nat.le_of_ble_eq_true rfl, Nat.le_of_ble_eq_true rfl⟩) hK [0] rfl hA hG [0, 1] rfl rfl rfl rfl rfl rfl hl.1 rfl (Nat.le_of_ble_eq_true rfl) dX8_count_154 ⟨Nat.zero_le _, Nat.zero_le _⟩ (fun H locs hG9 => ?_)
      have hG : gd_W (dC, dI) A s (wd_M cI a S) H locs := hG9
      obtain rfl := Option.some.inj h
      exact gr_i hx hb hr hlocks hK hG rfl dX8_count_157
    replace h := fo_if h hc
    have hn5 := lv_neT (a := 5) hc (by decide)
    have hm5 := hc
    clear hc
    by_cases hc : v1 = (6 : Int32)
    · have h := fo_it h hc
      refine W.eq (g2 := F0 m 22 ls [.int (6 : Int32)]) (by rw [hc]) ?_
      refine lv_tableIn (tgt := 158) hx hb dX8_count_22 (by decide) (by decide) rfl (by decide) ?_
      refine lv_aload_n hx hb dX8_count_158 rfl (lv_at hl 0 rfl) ?_
      refine va_get (D := (dC, dI)) (ci := 7) (v := .ref (a 1)) (C := RX8) (T := TX8) (N := 17) hx hb hts inlX8 hown hK hG.1 0 rfl rfl 0 (by decide) (hts (Cond.fieldLink RX8 7 "DiceRoadsModel" "state" "[I") wq_637) (fun _ h9 => h9) rfl dX8_count_159 ?_
      refine lv_bipush (v := (9 : Int32)) hx hb dX8_count_162 (by decide) ?_
      obtain ⟨hi, h⟩ := fo_ck_some h
      refine va_iald hx hb hK hG.1 1 0 rfl rfl hi dX8_count_164 ?_
      obtain rfl := Option.some.inj h
      exact gr_i hx hb hr hlocks hK hG rfl dX8_count_165
    replace h := fo_if h hc
    have hn6 := lv_neT (a := 6) hc (by decide)
    have hm6 := hc
    clear hc
    by_cases hc : v1 = (7 : Int32)
    · have h := fo_it h hc
      refine W.eq (g2 := F0 m 22 ls [.int (7 : Int32)]) (by rw [hc]) ?_
      refine lv_tableIn (tgt := 166) hx hb dX8_count_22 (by decide) (by decide) rfl (by decide) ?_
      refine lv_aload_n hx hb dX8_count_166 rfl (lv_at hl 0 rfl) ?_
      refine va_get (D := (dC, dI)) (ci := 7) (v := .ref (a 1)) (C := RX8) (T := TX8) (N := 17) hx hb hts inlX8 hown hK hG.1 0 rfl rfl 0 (by decide) (hts (Cond.fieldLink RX8 7 "DiceRoadsModel" "state" "[I") wq_637) (fun _ h9 => h9) rfl dX8_count_167 ?_
      refine lv_bipush (v := (10 : Int32)) hx hb dX8_count_170 (by decide) ?_
      obtain ⟨hi, h⟩ := fo_ck_some h
      refine va_iald hx hb hK hG.1 1 0 rfl rfl hi dX8_count_172 ?_
      obtain rfl := Option.some.inj h
      exact gr_i hx hb hr hlocks hK hG rfl dX8_count_173
    replace h := fo_if h hc
    have hn7 := lv_neT (a := 7) hc (by decide)
    have hm7 := hc
    clear hc
    by_cases hc : v1 = (8 : Int32)
    · have h := fo_it h hc
      refine W.eq (g2 := F0 m 22 ls [.int (8 : Int32)]) (by rw [hc]) ?_
      refine lv_tableIn (tgt := 174) hx hb dX8_count_22 (by decide) (by decide) rfl (by decide) ?_
      refine lv_aload_n hx hb dX8_count_174 rfl (lv_at hl 0 rfl) ?_
      refine va_get (D := (dC, dI)) (ci := 7) (v := .ref (a 1)) (C := RX8) (T := TX8) (N := 17) hx hb hts inlX8 hown hK hG.1 0 rfl rfl 0 (by decide) (hts (Cond.fieldLink RX8 7 "DiceRoadsModel" "state" "[I") wq_637) (fun _ h9 => h9) rfl dX8_count_175 ?_
      refine lv_bipush (v := (8 : Int32)) hx hb dX8_count_178 (by decide) ?_
      obtain ⟨hi, h⟩ := fo_ck_some h
      refine va_iald hx hb hK hG.1 1 0 rfl rfl hi dX8_count_180 ?_
      obtain rfl := Option.some.inj h
      exact gr_i hx hb hr hlocks hK hG rfl dX8_count_181
    replace h := fo_if h hc
    have hn8 := lv_neT (a := 8) hc (by decide)
    have hm8 := hc
    clear hc
    by_cases hc : v1 = (9 : Int32)
    · have h := fo_it h hc
      refine W.eq (g2 := F0 m 22 ls [.int (9 : Int32)]) (by rw [hc]) ?_
      refine lv_tableIn (tgt := 203) hx hb dX8_count_22 (by decide) (by decide) rfl (by decide) ?_
      refine lv_bipush (v := (-2 : Int32)) hx hb dX8_count_203 (by decide) ?_
      obtain rfl := Option.some.inj h
      exact gr_i hx hb hr hlocks hK hG rfl dX8_count_205
    replace h := fo_if h hc
    have hn9 := lv_neT (a := 9) hc (by decide)
    have hm9 := hc
    clear hc
    by_cases hc : v1 = (10 : Int32)
    · have h := fo_it h hc
      refine W.eq (g2 := F0 m 22 ls [.int (10 : Int32)]) (by rw [hc]) ?_
      refine lv_tableIn (tgt := 203) hx hb dX8_count_22 (by decide) (by decide) rfl (by decide) ?_
      refine lv_bipush (v := (-2 : Int32)) hx hb dX8_count_203 (by decide) ?_
      obtain rfl := Option.some.inj h
      exact gr_i hx hb hr hlocks hK hG rfl dX8_count_205
    replace h := fo_if h hc
    have hn10 := lv_neT (a := 10) hc (by decide)
    have hm10 := hc
    clear hc
    by_cases hc : v1 = (11 : Int32)
    · have h := fo_it h hc
      refine W.eq (g2 := F0 m 22 ls [.int (11 : Int32)]) (by rw [hc]) ?_
      refine lv_tableIn (tgt := 203) hx hb dX8_count_22 (by decide) (by decide) rfl (by decide) ?_
      refine lv_bipush (v := (-2 : Int32)) hx hb dX8_count_203 (by decide) ?_
      obtain rfl := Option.some.inj h
      exact gr_i hx hb hr hlocks hK hG rfl dX8_count_205
    replace h := fo_if h hc
    have hn11 := lv_neT (a := 11) hc (by decide)
    have hm11 := hc
    clear hc
    by_cases hc : v1 = (12 : Int32)
    · have h := fo_it h hc
      refine W.eq (g2 := F0 m 22 ls [.int (12 : Int32)]) (by rw [hc]) ?_
      refine lv_tableIn (tgt := 203) hx hb dX8_count_22 (by decide) (by decide) rfl (by decide) ?_
      refine lv_bipush (v := (-2 : Int32)) hx hb dX8_count_203 (by decide) ?_
      obtain rfl := Option.some.inj h
      exact gr_i hx hb hr hlocks hK hG rfl dX8_count_205
    replace h := fo_if h hc
    have hn12 := lv_neT (a := 12) hc (by decide)
    have hm12 := hc
    clear hc
    by_cases hc : v1 = (13 : Int32)
    · have h := fo_it h hc
      refine W.eq (g2 := F0 m 22 ls [.int (13 : Int32)]) (by rw [hc]) ?_
      refine lv_tableIn (tgt := 203) hx hb dX8_count_22 (by decide) (by decide) rfl (by decide) ?_
      refine lv_bipush (v := (-2 : Int32)) hx hb dX8_count_203 (by decide) ?_
      obtain rfl := Option.some.inj h
      exact gr_i hx hb hr hlocks hK hG rfl dX8_count_205
    replace h := fo_if h hc
    have hn13 := lv_neT (a := 13) hc (by decide)
    have hm13 := hc
    clear hc
    by_cases hc : v1 = (14 : Int32)
    · have h := fo_it h hc
      refine W.eq (g2 := F0 m 22 ls [.int (14 : Int32)]) (by rw [hc]) ?_
      refine lv_tableIn (tgt := 182) hx hb dX8_count_22 (by decide) (by decide) rfl (by decide) ?_
      refine lv_aload_n hx hb dX8_count_182 rfl (lv_at hl 0 rfl) ?_
      refine lv_bipush (v := (-6 : Int32)) hx hb dX8_count_183 (by decide) ?_
      obtain ⟨q185, hq185, h⟩ := fo_bd_some h
      refine gc_vV (b := a 0) (C := RX8) (As := [.int (-6 : Int32)]) (rest := []) (wc := (wd_M cI a S)) (w1 := (wd_M cI a q185)) (ci := 7) (q0 := 0) ⟨hx, hb, hml, hown, hts⟩ (c8_writes l (a := a) hq185) (cwV 1 hts gv_X8_180 rfl rfl rfl hd8_writes ⟨Nat.le_of_ble_eq_true rfl, Nat.le_of_ble_eq_true rfl⟩) hK [0] rfl hA hG [0, 1, 2, 3, 4, 5, 6, 7, 8] rfl rfl rfl rfl rfl rfl hl.1 rfl (Nat.le_of_ble_eq_true rfl) dX8_count_185 ⟨Nat.zero_le _, Nat.zero_le _⟩ (fun H locs hG9 => ?_)
      have hG : gd_W (dC, dI) A s (wd_M cI a q185) H locs := hG9
      refine lv_aload_n hx hb dX8_count_188 rfl (lv_at hl 0 rfl) ?_
      refine va_get (D := (dC, dI)) (ci := 7) (v := .int (q185 8 2)) (C := RX8) (T := TX8) (N := 17) hx hb hts inlX8 hown hK hG.1 0 rfl rfl 8 (by decide) (hts (Cond.fieldLink RX8 183 "DiceRoadsModel" "signs" "I") wq_645) (fun _ h9 => h9) rfl dX8_count_189 ?_
      obtain rfl := Option.some.inj h
      exact gr_i hx hb hr hlocks hK hG rfl dX8_count_192
    replace h := fo_if h hc
    have hn14 := lv_neT (a := 14) hc (by decide)
    have hm14 := hc
    clear hc
    by_cases hc : v1 = (15 : Int32)
    · have h := fo_it h hc
      refine W.eq (g2 := F0 m 22 ls [.int (15 : Int32)]) (by rw [hc]) ?_
      refine lv_tableIn (tgt := 193) hx hb dX8_count_22 (by decide) (by decide) rfl (by decide) ?_
      refine lv_aload_n hx hb dX8_count_193 rfl (lv_at hl 0 rfl) ?_
      refine va_get (D := (dC, dI)) (ci := 7) (v := .int (S 8 1)) (C := RX8) (T := TX8) (N := 17) hx hb hts inlX8 hown hK hG.1 0 rfl rfl 7 (by decide) (hts (Cond.fieldLink RX8 186 "DiceRoadsModel" "padLength" "I") wq_644) (fun _ h9 => h9) rfl dX8_count_194 ?_
      obtain rfl := Option.some.inj h
      exact gr_i hx hb hr hlocks hK hG rfl dX8_count_197
    replace h := fo_if h hc
    have hn15 := lv_neT (a := 15) hc (by decide)
    have hm15 := hc
    clear hc
    by_cases hc : v1 = (16 : Int32)
    · have h := fo_it h hc
      refine W.eq (g2 := F0 m 22 ls [.int (16 : Int32)]) (by rw [hc]) ?_
      refine lv_tableIn (tgt := 198) hx hb dX8_count_22 (by decide) (by decide) rfl (by decide) ?_
      refine lv_aload_n hx hb dX8_count_198 rfl (lv_at hl 0 rfl) ?_
      refine va_get (D := (dC, dI)) (ci := 7) (v := .int (S 8 0)) (C := RX8) (T := TX8) (N := 17) hx hb hts inlX8 hown hK hG.1 0 rfl rfl 3 (by decide) (hts (Cond.fieldLink RX8 34 "DiceRoadsModel" "recorded" "I") wq_640) (fun _ h9 => h9) rfl dX8_count_199 ?_
      obtain rfl := Option.some.inj h
      exact gr_i hx hb hr hlocks hK hG rfl dX8_count_202
    replace h := fo_if h hc
    have hn16 := lv_neT (a := 16) hc (by decide)
    have hm16 := hc
    clear hc
    refine lv_tableOut (tgt := 203) hx hb dX8_count_22 (by omega) (by decide) ?_
    refine lv_bipush (v := (-2 : Int32)) hx hb dX8_count_203 (by decide) ?_
    obtain rfl := Option.some.inj h
    exact gr_i hx hb hr hlocks hK hG rfl dX8_count_205
  · have h := fo_if h hc
    refine lv_aload_n hx hb dX8_count_11 rfl (lv_at hl 0 rfl) ?_
    refine va_get (D := (dC, dI)) (ci := 7) (v := .ref (a 1)) (C := RX8) (T := TX8) (N := 17) hx hb hts inlX8 hown hK hG.1 0 rfl rfl 0 (by decide) (hts (Cond.fieldLink RX8 7 "DiceRoadsModel" "state" "[I") wq_637) (fun _ h9 => h9) rfl dX8_count_12 ?_
    refine lv_iload_n hx hb dX8_count_15 rfl (lv_at hl 1 rfl) ?_
    refine lv_bipush (v := (9 : Int32)) hx hb dX8_count_16 (by decide) ?_
    refine lv_isub hx hb dX8_count_18 ?_
    obtain ⟨hi, h⟩ := fo_ck_some h
    refine va_iald hx hb hK hG.1 1 0 rfl rfl hi dX8_count_19 ?_
    obtain rfl := Option.some.inj h
    exact gr_i hx hb hr hlocks hK hG rfl dX8_count_20
set_option maxRecDepth 100000 in
set_option maxHeartbeats 4000000 in
theorem c8_count (l : Launch) {dC : Nat → ClassId} {dI : Nat → Nat → Nat} {cI : ClassId} {a : Nat → Nat} {v1 : Int32} {S : ms_T} {q : (Int32 × ms_T)} (h : f8_count v1 S = some q) : mi_M l yX8_count wm8_count RM8_count (dC, dI) [(cI, .int)] [.ref (a 0), .int v1] (wd_M cI a S) q.1 (wd_M cI a q.2) := by
  intro sz
  refine Met.ofW (cc := cX8_count) (maxL := 2) (ret := (some .int)) (by decide) rfl ?_
  intro p e s m args below meth c s₁ B hml hv
  obtain ⟨rfl, hsz, hP, hK, hD0⟩ := hv
  subst hsz
  have hl := lv_entry ([.ref (a 0), .int v1] : List Value) (n := 2) (Nat.le_of_ble_eq_true rfl)
  rw [lg_entry_eq]
  generalize (lg_sl ([.ref (a 0), .int v1] : List Value) ++ List.replicate (2 - (lg_sl ([.ref (a 0), .int v1] : List Value)).length) Slot.unset).toArray = ls at hl ⊢
  exact w8_count (a := a) ⟨B.exec, B.bytes, B.returns, fun w hw => atoms_spec (ws := wm8_count) B.pre w (List.mem_cons_of_mem _ hw), findClass_of_methodNamed B.named, B.notSynchronized, hml⟩ hK (fun _ h => Or.inr h) h ⟨hP, hD0.self, va_S.rf⟩ hl
end
/-! ## DiceRoadsModel.sign(I)I -/
section
variable {p : Program} {l : Launch} {e : Env} {s : State} {m : MethodId} {args : Array Value} {below : List Frame} {meth : Method} {c : Code} {dC : Nat → ClassId} {dI : Nat → Nat → Nat} {cI : ClassId} {A : Nat → Prop}
set_option maxRecDepth 100000 in
set_option maxHeartbeats 4000000 in
theorem w8_sign (C : cx_M p s m args meth c RX8 cX8_sign (some .int) 2) (hK : va_K (dC, dI) vwCl [(cI, .int)] s) (hA : ∀ q, s.heap.size ≤ q → A q) {a : Nat → Nat} {q : (Int32 × ms_T)} {v1 : Int32} {S : ms_T} (h : f8_sign v1 S = some q) {H : Heap} {locs : List Loc} {ls : Array Slot} (hG : gd_W (dC, dI) A s (wd_M cI a S) H locs) (hl : lv_has ls 2 [(0, .ref (a 0)), (1, .int v1)]) : W p l e RM8_sign s m args below meth c H locs 0 0 (MQ below (qi_W (dC, dI) [(cI, .int)] A q.1 (wd_M cI a q.2)) args s 0 0 A) (F0 m 0 ls []) := by
  unfold f8_sign at h
  obtain ⟨hx, hb, hr, hts, hown, hlocks, hml⟩ := id C
  refine lv_aload_n hx hb dX8_sign_0 rfl (lv_at hl 0 rfl) ?_
  refine lv_iload_n hx hb dX8_sign_1 rfl (lv_at hl 1 rfl) ?_
  obtain ⟨q2, hq2, h⟩ := fo_bd_some h
  refine gc_vV (b := a 0) (C := RX8) (As := [.int v1]) (rest := []) (wc := (wd_M cI a S)) (w1 := (wd_M cI a q2)) (ci := 7) (q0 := 0) ⟨hx, hb, hml, hown, hts⟩ (c8_writes l (a := a) hq2) (cwV 1 hts gv_X8_180 rfl rfl rfl hd8_writes ⟨Nat.le_of_ble_eq_true rfl, Nat.le_of_ble_eq_true rfl⟩) hK [0] rfl hA hG [0, 1, 2, 3, 4, 5, 6, 7, 8] rfl rfl rfl rfl rfl rfl hl.1 rfl (Nat.le_of_ble_eq_true rfl) dX8_sign_2 ⟨Nat.zero_le _, Nat.zero_le _⟩ (fun H locs hG9 => ?_)
  have hG : gd_W (dC, dI) A s (wd_M cI a q2) H locs := hG9
  refine lv_aload_n hx hb dX8_sign_5 rfl (lv_at hl 0 rfl) ?_
  refine va_get (D := (dC, dI)) (ci := 7) (v := .int (q2 8 4)) (C := RX8) (T := TX8) (N := 17) hx hb hts inlX8 hown hK hG.1 0 rfl rfl 10 (by decide) (hts (Cond.fieldLink RX8 192 "DiceRoadsModel" "foundSign" "I") wq_647) (fun _ h9 => h9) rfl dX8_sign_6 ?_
  obtain rfl := Option.some.inj h
  exact gr_i hx hb hr hlocks hK hG rfl dX8_sign_9
set_option maxRecDepth 100000 in
set_option maxHeartbeats 4000000 in
theorem c8_sign (l : Launch) {dC : Nat → ClassId} {dI : Nat → Nat → Nat} {cI : ClassId} {a : Nat → Nat} {v1 : Int32} {S : ms_T} {q : (Int32 × ms_T)} (h : f8_sign v1 S = some q) : mi_M l yX8_sign wm8_sign RM8_sign (dC, dI) [(cI, .int)] [.ref (a 0), .int v1] (wd_M cI a S) q.1 (wd_M cI a q.2) := by
  intro sz
  refine Met.ofW (cc := cX8_sign) (maxL := 2) (ret := (some .int)) (by decide) rfl ?_
  intro p e s m args below meth c s₁ B hml hv
  obtain ⟨rfl, hsz, hP, hK, hD0⟩ := hv
  subst hsz
  have hl := lv_entry ([.ref (a 0), .int v1] : List Value) (n := 2) (Nat.le_of_ble_eq_true rfl)
  rw [lg_entry_eq]
  generalize (lg_sl ([.ref (a 0), .int v1] : List Value) ++ List.replicate (2 - (lg_sl ([.ref (a 0), .int v1] : List Value)).length) Slot.unset).toArray = ls at hl ⊢
  exact w8_sign (a := a) ⟨B.exec, B.bytes, B.returns, fun w hw => atoms_spec (ws := wm8_sign) B.pre w (List.mem_cons_of_mem _ hw), findClass_of_methodNamed B.named, B.notSynchronized, hml⟩ hK (fun _ h => Or.inr h) h ⟨hP, hD0.self, va_S.rf⟩ hl
end
