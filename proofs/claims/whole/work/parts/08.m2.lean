/-! ## DiceRoadsModel.goes(I)V -/
section
variable {p : Program} {l : Launch} {e : Env} {s : State} {m : MethodId} {args : Array Value} {below : List Frame} {meth : Method} {c : Code} {dC : Nat → ClassId} {dI : Nat → Nat → Nat} {cI : ClassId} {A : Nat → Prop}
set_option maxRecDepth 100000 in
set_option maxHeartbeats 4000000 in
theorem w8_goes_b53 (C : cx_M p s m args meth c RX8 cX8_goes none 4) (hK : va_K (dC, dI) vwCl [(cI, .int)] s) (hA : ∀ q, s.heap.size ≤ q → A q) {a : Nat → Nat} {X : Nat → Int32} {q : (Nat → Int32)} {v1 : Int32} {v3 : Int32} {S : (Nat → Int32)} (h : f8_goes_b53 v1 v3 S = some q) {H : Heap} {locs : List Loc} {ls : Array Slot} (hG : gd_W (dC, dI) A s (wd_M0 cI a X S) H locs) (hl : lv_has ls 4 [(0, .ref (a 0)), (1, .int v1), (3, .int v3)]) : W p l e RM8_goes s m args below meth c H locs 0 0 (MQ below (qv_W (dC, dI) [(cI, .int)] A (wd_M0 cI a X q)) args s 0 0 A) (F0 m 53 ls []) := by
  unfold f8_goes_b53 at h
  obtain ⟨hx, hb, hr, hts, hown, hlocks, hml⟩ := id C
  refine lv_aload_n hx hb dX8_goes_53 rfl (lv_at hl 0 rfl) ?_
  refine va_get (D := (dC, dI)) (ci := 7) (v := .ref (a 1)) (C := RX8) (T := TX8) (N := 17) hx hb hts inlX8 hown hK hG.1 0 rfl rfl 0 (by decide) (hts (Cond.fieldLink RX8 7 "DiceRoadsModel" "state" "[I") wq_637) (fun _ h9 => h9) rfl dX8_goes_54 ?_
  refine lv_bipush (v := (51 : Int32)) hx hb dX8_goes_57 (by decide) ?_
  refine lv_bipush (v := (6 : Int32)) hx hb dX8_goes_59 (by decide) ?_
  refine lv_iload_n hx hb dX8_goes_61 rfl (lv_at hl 1 rfl) ?_
  refine lv_imul hx hb dX8_goes_62 ?_
  refine lv_iadd hx hb dX8_goes_63 ?_
  refine lv_iconst (v := (1 : Int32)) hx hb dX8_goes_64 (by decide) ?_
  refine lv_iadd hx hb dX8_goes_65 ?_
  refine lv_iload_n hx hb dX8_goes_66 rfl (lv_at hl 2 rfl) ?_
  refine lv_bipush (v := (20 : Int32)) hx hb dX8_goes_67 (by decide) ?_
  refine lv_irem hx hb dX8_goes_69 (by decide) ?_
  obtain ⟨hi, h⟩ := fo_ck_some h
  refine va_iast hx hb hK hG.1 hG.2.1 hG.2.2 1 0 rfl rfl hi dX8_goes_70 (fun H locs hP9 hD9 hS9 => ?_)
  have hG : gd_W (dC, dI) A s (wd_M0 cI a X (upd S (((51 : Int32) + ((6 : Int32) * v1)) + (1 : Int32)).toNatClampNeg (v3 - v3 / (20 : Int32) * (20 : Int32)))) H locs := ⟨hP9, hD9, hS9⟩
  obtain rfl := Option.some.inj h
  exact gr_v hx hb hr hlocks hK hG dX8_goes_71
set_option maxRecDepth 100000 in
set_option maxHeartbeats 4000000 in
theorem w8_goes (C : cx_M p s m args meth c RX8 cX8_goes none 4) (hK : va_K (dC, dI) vwCl [(cI, .int)] s) (hA : ∀ q, s.heap.size ≤ q → A q) {a : Nat → Nat} {X : Nat → Int32} {q : (Nat → Int32)} {v1 : Int32} {S : (Nat → Int32)} (h : f8_goes v1 S = some q) {H : Heap} {locs : List Loc} {ls : Array Slot} (hG : gd_W (dC, dI) A s (wd_M0 cI a X S) H locs) (hl : lv_has ls 4 [(0, .ref (a 0)), (1, .int v1)]) : W p l e RM8_goes s m args below meth c H locs 0 0 (MQ below (qv_W (dC, dI) [(cI, .int)] A (wd_M0 cI a X q)) args s 0 0 A) (F0 m 0 ls []) := by
  unfold f8_goes at h
  obtain ⟨hx, hb, hr, hts, hown, hlocks, hml⟩ := id C
  refine lv_aload_n hx hb dX8_goes_0 rfl (lv_at hl 0 rfl) ?_
  obtain ⟨q1, hq1, h⟩ := fo_bd_some h
  refine gc_iV (b := a 0) (C := RX8) (As := []) (rest := []) (wc := (wd_M0 cI a X S)) (w1 := (wd_M0 cI a X q1.2)) (ci := 7) (q0 := 0) ⟨hx, hb, hml, hown, hts⟩ (c8_die l (a := a) (X := X) hq1) (cwV 0 hts gv_X8_82 rfl rfl rfl hd8_die ⟨Nat.le_of_ble_eq_true rfl, Nat.le_of_ble_eq_true rfl⟩) hK [0] rfl hA hG [0, 1] rfl rfl rfl rfl rfl rfl hl.1 rfl (Nat.le_of_ble_eq_true rfl) dX8_goes_1 ⟨Nat.zero_le _, Nat.zero_le _⟩ (fun H locs hG9 => ?_)
  have hG : gd_W (dC, dI) A s (wd_M0 cI a X q1.2) H locs := hG9
  refine lv_istore_n (lv' := [(2, .int q1.1), (0, .ref (a 0)), (1, .int v1)]) hx hb dX8_goes_4 rfl hl (by decide) rfl (fun ls hl => ?_)
  refine lv_aload_n hx hb dX8_goes_5 rfl (lv_at hl 1 rfl) ?_
  refine lv_iload_n hx hb dX8_goes_6 rfl (lv_at hl 2 rfl) ?_
  refine lv_iconst (v := (1 : Int32)) hx hb dX8_goes_7 (by decide) ?_
  obtain ⟨q8, hq8, h⟩ := fo_bd_some h
  refine gc_iV (b := a 0) (C := RX8) (As := [.int v1, .int (1 : Int32)]) (rest := []) (wc := (wd_M0 cI a X q1.2)) (w1 := (wd_M0 cI a X q1.2)) (ci := 7) (q0 := 0) ⟨hx, hb, hml, hown, hts⟩ (c8_playerPart l (a := a) (X := X) hq8) (cwV 2 hts gv_X8_54 rfl rfl rfl hd8_playerPart ⟨Nat.le_of_ble_eq_true rfl, Nat.le_of_ble_eq_true rfl⟩) hK [0] rfl hA hG [0, 1] rfl rfl rfl rfl rfl rfl hl.1 rfl (Nat.le_of_ble_eq_true rfl) dX8_goes_8 ⟨Nat.zero_le _, Nat.zero_le _⟩ (fun H locs hG9 => ?_)
  have hG : gd_W (dC, dI) A s (wd_M0 cI a X q1.2) H locs := hG9
  refine lv_iload_n hx hb dX8_goes_11 rfl (lv_at hl 0 rfl) ?_
  refine lv_iadd hx hb dX8_goes_12 ?_
  refine lv_aload_n hx hb dX8_goes_13 rfl (lv_at hl 1 rfl) ?_
  obtain ⟨q14, hq14, h⟩ := fo_bd_some h
  refine gc_iV (b := a 0) (C := RX8) (As := []) (rest := [.int (q8 + q1.1)]) (wc := (wd_M0 cI a X q1.2)) (w1 := (wd_M0 cI a X q14.2)) (ci := 7) (q0 := 0) ⟨hx, hb, hml, hown, hts⟩ (c8_die l (a := a) (X := X) hq14) (cwV 0 hts gv_X8_82 rfl rfl rfl hd8_die ⟨Nat.le_of_ble_eq_true rfl, Nat.le_of_ble_eq_true rfl⟩) hK [0] rfl hA hG [0, 1] rfl rfl rfl rfl rfl rfl hl.1 rfl (Nat.le_of_ble_eq_true rfl) dX8_goes_14 ⟨Nat.zero_le _, Nat.zero_le _⟩ (fun H locs hG9 => ?_)
  have hG : gd_W (dC, dI) A s (wd_M0 cI a X q14.2) H locs := hG9
  refine lv_iadd hx hb dX8_goes_17 ?_
  refine lv_istore_n (lv' := [(3, .int ((q8 + q1.1) + q14.1)), (2, .int q1.1), (0, .ref (a 0)), (1, .int v1)]) hx hb dX8_goes_18 rfl hl (by decide) rfl (fun ls hl => ?_)
  refine lv_iload_n hx hb dX8_goes_19 rfl (lv_at hl 0 rfl) ?_
  refine lv_bipush (v := (20 : Int32)) hx hb dX8_goes_20 (by decide) ?_
  refine lv_icmp_lt (tgt := 53) hx hb dX8_goes_22 (by decide) (fun hc => ?_) (fun hc => ?_)
  · have h := fo_it h hc
    exact w8_goes_b53 C hK hA h hG (lv_sub hl [2, 3, 0] rfl)
  · have h := fo_if h hc
    refine lv_aload_n hx hb dX8_goes_25 rfl (lv_at hl 2 rfl) ?_
    refine lv_iload_n hx hb dX8_goes_26 rfl (lv_at hl 3 rfl) ?_
    refine lv_iconst (v := (0 : Int32)) hx hb dX8_goes_27 (by decide) ?_
    refine lv_aload_n hx hb dX8_goes_28 rfl (lv_at hl 2 rfl) ?_
    refine va_get (D := (dC, dI)) (ci := 7) (v := .ref (a 1)) (C := RX8) (T := TX8) (N := 17) hx hb hts inlX8 hown hK hG.1 0 rfl rfl 0 (by decide) (hts (Cond.fieldLink RX8 7 "DiceRoadsModel" "state" "[I") wq_637) (fun _ h9 => h9) rfl dX8_goes_29 ?_
    refine lv_iconst (v := (0 : Int32)) hx hb dX8_goes_32 (by decide) ?_
    obtain ⟨hi, h⟩ := fo_ck_some h
    refine va_iald hx hb hK hG.1 1 0 rfl rfl hi dX8_goes_33 ?_
    obtain ⟨q34, hq34, h⟩ := fo_bd_some h
    refine gc_vV (b := a 0) (C := RX8) (As := [.int v1, .int (0 : Int32), .int (q14.2 (0 : Int32).toNatClampNeg)]) (rest := []) (wc := (wd_M0 cI a X q14.2)) (w1 := (wd_M0 cI a X q34)) (ci := 7) (q0 := 0) ⟨hx, hb, hml, hown, hts⟩ (c8_adds l (a := a) (X := X) hq34) (cwV 3 hts gv_X8_68 rfl rfl rfl hd8_adds ⟨Nat.le_of_ble_eq_true rfl, Nat.le_of_ble_eq_true rfl⟩) hK [0] rfl hA hG [0, 1] rfl rfl rfl rfl rfl rfl hl.1 rfl (Nat.le_of_ble_eq_true rfl) dX8_goes_34 ⟨Nat.zero_le _, Nat.zero_le _⟩ (fun H locs hG9 => ?_)
    have hG : gd_W (dC, dI) A s (wd_M0 cI a X q34) H locs := hG9
    refine lv_aload_n hx hb dX8_goes_37 rfl (lv_at hl 2 rfl) ?_
    refine va_get (D := (dC, dI)) (ci := 7) (v := .ref (a 1)) (C := RX8) (T := TX8) (N := 17) hx hb hts inlX8 hown hK hG.1 0 rfl rfl 0 (by decide) (hts (Cond.fieldLink RX8 7 "DiceRoadsModel" "state" "[I") wq_637) (fun _ h9 => h9) rfl dX8_goes_38 ?_
    refine lv_bipush (v := (10 : Int32)) hx hb dX8_goes_41 (by decide) ?_
    refine lv_dup2_11 hx hb dX8_goes_43 rfl rfl ?_
    obtain ⟨hi, h⟩ := fo_ck_some h
    refine va_iald hx hb hK hG.1 1 0 rfl rfl hi dX8_goes_44 ?_
    refine lv_aload_n hx hb dX8_goes_45 rfl (lv_at hl 2 rfl) ?_
    refine va_get (D := (dC, dI)) (ci := 7) (v := .ref (a 1)) (C := RX8) (T := TX8) (N := 17) hx hb hts inlX8 hown hK hG.1 0 rfl rfl 0 (by decide) (hts (Cond.fieldLink RX8 7 "DiceRoadsModel" "state" "[I") wq_637) (fun _ h9 => h9) rfl dX8_goes_46 ?_
    refine lv_iconst (v := (0 : Int32)) hx hb dX8_goes_49 (by decide) ?_
    obtain ⟨hi, h⟩ := fo_ck_some h
    refine va_iald hx hb hK hG.1 1 0 rfl rfl hi dX8_goes_50 ?_
    refine lv_iadd hx hb dX8_goes_51 ?_
    obtain ⟨hi, h⟩ := fo_ck_some h
    refine va_iast hx hb hK hG.1 hG.2.1 hG.2.2 1 0 rfl rfl hi dX8_goes_52 (fun H locs hP9 hD9 hS9 => ?_)
    have hG : gd_W (dC, dI) A s (wd_M0 cI a X (upd q34 (10 : Int32).toNatClampNeg ((q34 (10 : Int32).toNatClampNeg) + (q34 (0 : Int32).toNatClampNeg)))) H locs := ⟨hP9, hD9, hS9⟩
    exact w8_goes_b53 C hK hA h hG (lv_sub hl [2, 3, 0] rfl)
set_option maxRecDepth 100000 in
set_option maxHeartbeats 4000000 in
theorem c8_goes (l : Launch) {dC : Nat → ClassId} {dI : Nat → Nat → Nat} {cI : ClassId} {a : Nat → Nat} {X : Nat → Int32} {v1 : Int32} {S : (Nat → Int32)} {q : (Nat → Int32)} (h : f8_goes v1 S = some q) : mv_M l yX8_goes wm8_goes RM8_goes (dC, dI) [(cI, .int)] [.ref (a 0), .int v1] (wd_M0 cI a X S) (wd_M0 cI a X q) := by
  intro sz
  refine Met.ofW (cc := cX8_goes) (maxL := 4) (ret := none) (by decide) rfl ?_
  intro p e s m args below meth c s₁ B hml hv
  obtain ⟨rfl, hsz, hP, hK, hD0⟩ := hv
  subst hsz
  have hl := lv_entry ([.ref (a 0), .int v1] : List Value) (n := 4) (Nat.le_of_ble_eq_true rfl)
  rw [lg_entry_eq]
  generalize (lg_sl ([.ref (a 0), .int v1] : List Value) ++ List.replicate (4 - (lg_sl ([.ref (a 0), .int v1] : List Value)).length) Slot.unset).toArray = ls at hl ⊢
  exact w8_goes (a := a) ⟨B.exec, B.bytes, B.returns, fun w hw => atoms_spec (ws := wm8_goes) B.pre w (List.mem_cons_of_mem _ hw), findClass_of_methodNamed B.named, B.notSynchronized, hml⟩ hK (fun _ h => Or.inr h) h ⟨hP, hD0.self, va_S.rf⟩ hl
end
/-! ## DiceRoadsModel.canBeClaimed(I)Z -/
section
variable {p : Program} {l : Launch} {e : Env} {s : State} {m : MethodId} {args : Array Value} {below : List Frame} {meth : Method} {c : Code} {dC : Nat → ClassId} {dI : Nat → Nat → Nat} {cI : ClassId} {A : Nat → Prop}
set_option maxRecDepth 100000 in
set_option maxHeartbeats 4000000 in
theorem w8_canBeClaimed (C : cx_M p s m args meth c RX8 cX8_canBeClaimed (some .boolean) 2) (hK : va_K (dC, dI) vwCl [(cI, .int)] s) (hA : ∀ q, s.heap.size ≤ q → A q) {a : Nat → Nat} {X : Nat → Int32} {q : Int32} {v1 : Int32} {S : (Nat → Int32)} (h : f8_canBeClaimed v1 S = some q) {H : Heap} {locs : List Loc} {ls : Array Slot} (hG : gd_W (dC, dI) A s (wd_M0 cI a X S) H locs) (hl : lv_has ls 2 [(0, .ref (a 0)), (1, .int v1)]) : W p l e RM8_canBeClaimed s m args below meth c H locs 0 0 (MQ below (qi_W (dC, dI) [(cI, .int)] A q (wd_M0 cI a X S)) args s 0 0 A) (F0 m 0 ls []) := by
  unfold f8_canBeClaimed at h
  obtain ⟨hx, hb, hr, hts, hown, hlocks, hml⟩ := id C
  refine lv_iload_n hx hb dX8_canBeClaimed_0 rfl (lv_at hl 1 rfl) ?_
  obtain ⟨q1, hq1, h⟩ := fo_bd_some h
  refine gc_iS (As := [.int v1]) (rest := []) (wc := ([] : va_W)) (w1 := ([] : va_W)) ⟨hx, hb, hml, hown, hts⟩ (c8_sortOf l (a := a) hq1) (va_cwS 1 hts gv_X8_57 rfl rfl rfl hd8_sortOf ⟨Nat.le_of_ble_eq_true rfl, Nat.le_of_ble_eq_true rfl⟩) hK [] rfl hA hG [] rfl rfl rfl rfl hl.1 rfl (Nat.le_of_ble_eq_true rfl) dX8_canBeClaimed_1 ⟨Nat.zero_le _, Nat.zero_le _⟩ (fun H locs hG9 => ?_)
  have hG : gd_W (dC, dI) A s (wd_M0 cI a X S) H locs := hG9
  refine lv_iconst (v := (1 : Int32)) hx hb dX8_canBeClaimed_4 (by decide) ?_
  refine lv_icmp_ne (tgt := 30) hx hb dX8_canBeClaimed_5 (by decide) (fun hc => ?_) (fun hc => ?_)
  · have h := fo_if h hc
    refine lv_iload_n hx hb dX8_canBeClaimed_30 rfl (lv_at hl 1 rfl) ?_
    obtain ⟨q31, hq31, h⟩ := fo_bd_some h
    refine gc_iS (As := [.int v1]) (rest := []) (wc := ([] : va_W)) (w1 := ([] : va_W)) ⟨hx, hb, hml, hown, hts⟩ (c8_sortOf l (a := a) hq31) (va_cwS 1 hts gv_X8_57 rfl rfl rfl hd8_sortOf ⟨Nat.le_of_ble_eq_true rfl, Nat.le_of_ble_eq_true rfl⟩) hK [] rfl hA hG [] rfl rfl rfl rfl hl.1 rfl (Nat.le_of_ble_eq_true rfl) dX8_canBeClaimed_31 ⟨Nat.zero_le _, Nat.zero_le _⟩ (fun H locs hG9 => ?_)
    have hG : gd_W (dC, dI) A s (wd_M0 cI a X S) H locs := hG9
    refine lv_iconst (v := (2 : Int32)) hx hb dX8_canBeClaimed_34 (by decide) ?_
    refine lv_icmp_ne (tgt := 56) hx hb dX8_canBeClaimed_35 (by decide) (fun hc => ?_) (fun hc => ?_)
    · have h := fo_if h hc
      refine lv_iconst (v := (0 : Int32)) hx hb dX8_canBeClaimed_56 (by decide) ?_
      exact gr_z hx hb hr hlocks hK hG (Option.some.inj h) rfl dX8_canBeClaimed_57
    · have h := fo_it h hc
      refine lv_aload_n hx hb dX8_canBeClaimed_38 rfl (lv_at hl 0 rfl) ?_
      refine va_get (D := (dC, dI)) (ci := 7) (v := .ref (a 1)) (C := RX8) (T := TX8) (N := 17) hx hb hts inlX8 hown hK hG.1 0 rfl rfl 0 (by decide) (hts (Cond.fieldLink RX8 7 "DiceRoadsModel" "state" "[I") wq_637) (fun _ h9 => h9) rfl dX8_canBeClaimed_39 ?_
      refine lv_bipush (v := (31 : Int32)) hx hb dX8_canBeClaimed_42 (by decide) ?_
      refine lv_iload_n hx hb dX8_canBeClaimed_44 rfl (lv_at hl 1 rfl) ?_
      refine lv_iadd hx hb dX8_canBeClaimed_45 ?_
      obtain ⟨hi, h⟩ := fo_ck_some h
      refine va_iald hx hb hK hG.1 1 0 rfl rfl hi dX8_canBeClaimed_46 ?_
      refine lv_bipush (v := (-6 : Int32)) hx hb dX8_canBeClaimed_47 (by decide) ?_
      refine lv_icmp_ne (tgt := 56) hx hb dX8_canBeClaimed_49 (by decide) (fun hc => ?_) (fun hc => ?_)
      · have h := fo_if h hc
        refine lv_iconst (v := (0 : Int32)) hx hb dX8_canBeClaimed_56 (by decide) ?_
        exact gr_z hx hb hr hlocks hK hG (Option.some.inj h) rfl dX8_canBeClaimed_57
      · have h := fo_it h hc
        refine lv_iconst (v := (1 : Int32)) hx hb dX8_canBeClaimed_52 (by decide) ?_
        refine lv_goto (tgt := 57) hx hb dX8_canBeClaimed_53 (by decide) ?_
        exact gr_z hx hb hr hlocks hK hG (Option.some.inj h) rfl dX8_canBeClaimed_57
  · have h := fo_it h hc
    refine lv_aload_n hx hb dX8_canBeClaimed_8 rfl (lv_at hl 0 rfl) ?_
    refine va_get (D := (dC, dI)) (ci := 7) (v := .ref (a 1)) (C := RX8) (T := TX8) (N := 17) hx hb hts inlX8 hown hK hG.1 0 rfl rfl 0 (by decide) (hts (Cond.fieldLink RX8 7 "DiceRoadsModel" "state" "[I") wq_637) (fun _ h9 => h9) rfl dX8_canBeClaimed_9 ?_
    refine lv_bipush (v := (11 : Int32)) hx hb dX8_canBeClaimed_12 (by decide) ?_
    refine lv_iload_n hx hb dX8_canBeClaimed_14 rfl (lv_at hl 1 rfl) ?_
    refine lv_iadd hx hb dX8_canBeClaimed_15 ?_
    obtain ⟨hi, h⟩ := fo_ck_some h
    refine va_iald hx hb hK hG.1 1 0 rfl rfl hi dX8_canBeClaimed_16 ?_
    refine lv_bipush (v := (-6 : Int32)) hx hb dX8_canBeClaimed_17 (by decide) ?_
    refine lv_icmp_ne (tgt := 26) hx hb dX8_canBeClaimed_19 (by decide) (fun hc => ?_) (fun hc => ?_)
    · have h := fo_if h hc
      refine lv_iconst (v := (0 : Int32)) hx hb dX8_canBeClaimed_26 (by decide) ?_
      refine lv_goto (tgt := 57) hx hb dX8_canBeClaimed_27 (by decide) ?_
      exact gr_z hx hb hr hlocks hK hG (Option.some.inj h) rfl dX8_canBeClaimed_57
    · have h := fo_it h hc
      refine lv_iconst (v := (1 : Int32)) hx hb dX8_canBeClaimed_22 (by decide) ?_
      refine lv_goto (tgt := 57) hx hb dX8_canBeClaimed_23 (by decide) ?_
      exact gr_z hx hb hr hlocks hK hG (Option.some.inj h) rfl dX8_canBeClaimed_57
set_option maxRecDepth 100000 in
set_option maxHeartbeats 4000000 in
theorem c8_canBeClaimed (l : Launch) {dC : Nat → ClassId} {dI : Nat → Nat → Nat} {cI : ClassId} {a : Nat → Nat} {X : Nat → Int32} {v1 : Int32} {S : (Nat → Int32)} {q : Int32} (h : f8_canBeClaimed v1 S = some q) : mi_M l yX8_canBeClaimed wm8_canBeClaimed RM8_canBeClaimed (dC, dI) [(cI, .int)] [.ref (a 0), .int v1] (wd_M0 cI a X S) q (wd_M0 cI a X S) := by
  intro sz
  refine Met.ofW (cc := cX8_canBeClaimed) (maxL := 2) (ret := (some .boolean)) (by decide) rfl ?_
  intro p e s m args below meth c s₁ B hml hv
  obtain ⟨rfl, hsz, hP, hK, hD0⟩ := hv
  subst hsz
  have hl := lv_entry ([.ref (a 0), .int v1] : List Value) (n := 2) (Nat.le_of_ble_eq_true rfl)
  rw [lg_entry_eq]
  generalize (lg_sl ([.ref (a 0), .int v1] : List Value) ++ List.replicate (2 - (lg_sl ([.ref (a 0), .int v1] : List Value)).length) Slot.unset).toArray = ls at hl ⊢
  exact w8_canBeClaimed (a := a) ⟨B.exec, B.bytes, B.returns, fun w hw => atoms_spec (ws := wm8_canBeClaimed) B.pre w (List.mem_cons_of_mem _ hw), findClass_of_methodNamed B.named, B.notSynchronized, hml⟩ hK (fun _ h => Or.inr h) h ⟨hP, hD0.self, va_S.rf⟩ hl
end
/-! ## DiceRoadsModel.claims(II)V -/
section
variable {p : Program} {l : Launch} {e : Env} {s : State} {m : MethodId} {args : Array Value} {below : List Frame} {meth : Method} {c : Code} {dC : Nat → ClassId} {dI : Nat → Nat → Nat} {cI : ClassId} {A : Nat → Prop}
set_option maxRecDepth 100000 in
set_option maxHeartbeats 4000000 in
theorem w8_claims (C : cx_M p s m args meth c RX8 cX8_claims none 4) (hK : va_K (dC, dI) vwCl [(cI, .int)] s) (hA : ∀ q, s.heap.size ≤ q → A q) {a : Nat → Nat} {X : Nat → Int32} {q : (Nat → Int32)} {v1 : Int32} {v2 : Int32} {S : (Nat → Int32)} (h : f8_claims v1 v2 S = some q) {H : Heap} {locs : List Loc} {ls : Array Slot} (hG : gd_W (dC, dI) A s (wd_M0 cI a X S) H locs) (hl : lv_has ls 4 [(0, .ref (a 0)), (1, .int v1), (2, .int v2)]) : W p l e RM8_claims s m args below meth c H locs 0 0 (MQ below (qv_W (dC, dI) [(cI, .int)] A (wd_M0 cI a X q)) args s 0 0 A) (F0 m 0 ls []) := by
  unfold f8_claims at h
  obtain ⟨hx, hb, hr, hts, hown, hlocks, hml⟩ := id C
  refine lv_aload_n hx hb dX8_claims_0 rfl (lv_at hl 0 rfl) ?_
  obtain ⟨q1, hq1, h⟩ := fo_bd_some h
  refine gc_iV (b := a 0) (C := RX8) (As := []) (rest := []) (wc := (wd_M0 cI a X S)) (w1 := (wd_M0 cI a X q1.2)) (ci := 7) (q0 := 0) ⟨hx, hb, hml, hown, hts⟩ (c8_die l (a := a) (X := X) hq1) (cwV 0 hts gv_X8_82 rfl rfl rfl hd8_die ⟨Nat.le_of_ble_eq_true rfl, Nat.le_of_ble_eq_true rfl⟩) hK [0] rfl hA hG [0, 1] rfl rfl rfl rfl rfl rfl hl.1 rfl (Nat.le_of_ble_eq_true rfl) dX8_claims_1 ⟨Nat.zero_le _, Nat.zero_le _⟩ (fun H locs hG9 => ?_)
  have hG : gd_W (dC, dI) A s (wd_M0 cI a X q1.2) H locs := hG9
  refine lv_istore_n (lv' := [(3, .int q1.1), (0, .ref (a 0)), (1, .int v1), (2, .int v2)]) hx hb dX8_claims_4 rfl hl (by decide) rfl (fun ls hl => ?_)
  refine lv_iload_n hx hb dX8_claims_5 rfl (lv_at hl 0 rfl) ?_
  refine lv_aload_n hx hb dX8_claims_6 rfl (lv_at hl 1 rfl) ?_
  refine va_get (D := (dC, dI)) (ci := 7) (v := .ref (a 1)) (C := RX8) (T := TX8) (N := 17) hx hb hts inlX8 hown hK hG.1 0 rfl rfl 0 (by decide) (hts (Cond.fieldLink RX8 7 "DiceRoadsModel" "state" "[I") wq_637) (fun _ h9 => h9) rfl dX8_claims_7 ?_
  refine lv_iconst (v := (3 : Int32)) hx hb dX8_claims_10 (by decide) ?_
  obtain ⟨hi, h⟩ := fo_ck_some h
  refine va_iald hx hb hK hG.1 1 0 rfl rfl hi dX8_claims_11 ?_
  refine lv_icmp_lt (tgt := 30) hx hb dX8_claims_12 (by decide) (fun hc => ?_) (fun hc => ?_)
  · have h := fo_it h hc
    obtain rfl := Option.some.inj h
    exact gr_v hx hb hr hlocks hK hG dX8_claims_30
  · have h := fo_if h hc
    refine lv_aload_n hx hb dX8_claims_15 rfl (lv_at hl 1 rfl) ?_
    refine lv_iload_n hx hb dX8_claims_16 rfl (lv_at hl 2 rfl) ?_
    refine lv_iconst (v := (0 : Int32)) hx hb dX8_claims_17 (by decide) ?_
    obtain ⟨q18, hq18, h⟩ := fo_bd_some h
    refine gc_iV (b := a 0) (C := RX8) (As := [.int v1, .int (0 : Int32)]) (rest := []) (wc := (wd_M0 cI a X q1.2)) (w1 := (wd_M0 cI a X q1.2)) (ci := 7) (q0 := 0) ⟨hx, hb, hml, hown, hts⟩ (c8_playerPart l (a := a) (X := X) hq18) (cwV 2 hts gv_X8_54 rfl rfl rfl hd8_playerPart ⟨Nat.le_of_ble_eq_true rfl, Nat.le_of_ble_eq_true rfl⟩) hK [0] rfl hA hG [0, 1] rfl rfl rfl rfl rfl rfl hl.1 rfl (Nat.le_of_ble_eq_true rfl) dX8_claims_18 ⟨Nat.zero_le _, Nat.zero_le _⟩ (fun H locs hG9 => ?_)
    have hG : gd_W (dC, dI) A s (wd_M0 cI a X q1.2) H locs := hG9
    refine lv_aload_n hx hb dX8_claims_21 rfl (lv_at hl 1 rfl) ?_
    refine va_get (D := (dC, dI)) (ci := 7) (v := .ref (a 1)) (C := RX8) (T := TX8) (N := 17) hx hb hts inlX8 hown hK hG.1 0 rfl rfl 0 (by decide) (hts (Cond.fieldLink RX8 7 "DiceRoadsModel" "state" "[I") wq_637) (fun _ h9 => h9) rfl dX8_claims_22 ?_
    refine lv_iconst (v := (1 : Int32)) hx hb dX8_claims_25 (by decide) ?_
    obtain ⟨hi, h⟩ := fo_ck_some h
    refine va_iald hx hb hK hG.1 1 0 rfl rfl hi dX8_claims_26 ?_
    refine lv_icmp_ge (tgt := 31) hx hb dX8_claims_27 (by decide) (fun hc => ?_) (fun hc => ?_)
    · have h := fo_it h hc
      refine lv_aload_n hx hb dX8_claims_31 rfl (lv_at hl 1 rfl) ?_
      refine lv_iload_n hx hb dX8_claims_32 rfl (lv_at hl 2 rfl) ?_
      refine lv_iconst (v := (0 : Int32)) hx hb dX8_claims_33 (by decide) ?_
      refine lv_aload_n hx hb dX8_claims_34 rfl (lv_at hl 1 rfl) ?_
      refine va_get (D := (dC, dI)) (ci := 7) (v := .ref (a 1)) (C := RX8) (T := TX8) (N := 17) hx hb hts inlX8 hown hK hG.1 0 rfl rfl 0 (by decide) (hts (Cond.fieldLink RX8 7 "DiceRoadsModel" "state" "[I") wq_637) (fun _ h9 => h9) rfl dX8_claims_35 ?_
      refine lv_iconst (v := (1 : Int32)) hx hb dX8_claims_38 (by decide) ?_
      obtain ⟨hi, h⟩ := fo_ck_some h
      refine va_iald hx hb hK hG.1 1 0 rfl rfl hi dX8_claims_39 ?_
      refine lv_ineg hx hb dX8_claims_40 ?_
      obtain ⟨q41, hq41, h⟩ := fo_bd_some h
      refine gc_vV (b := a 0) (C := RX8) (As := [.int v1, .int (0 : Int32), .int (-(q1.2 (1 : Int32).toNatClampNeg))]) (rest := []) (wc := (wd_M0 cI a X q1.2)) (w1 := (wd_M0 cI a X q41)) (ci := 7) (q0 := 0) ⟨hx, hb, hml, hown, hts⟩ (c8_adds l (a := a) (X := X) hq41) (cwV 3 hts gv_X8_68 rfl rfl rfl hd8_adds ⟨Nat.le_of_ble_eq_true rfl, Nat.le_of_ble_eq_true rfl⟩) hK [0] rfl hA hG [0, 1] rfl rfl rfl rfl rfl rfl hl.1 rfl (Nat.le_of_ble_eq_true rfl) dX8_claims_41 ⟨Nat.zero_le _, Nat.zero_le _⟩ (fun H locs hG9 => ?_)
      have hG : gd_W (dC, dI) A s (wd_M0 cI a X q41) H locs := hG9
      refine lv_aload_n hx hb dX8_claims_44 rfl (lv_at hl 1 rfl) ?_
      refine va_get (D := (dC, dI)) (ci := 7) (v := .ref (a 1)) (C := RX8) (T := TX8) (N := 17) hx hb hts inlX8 hown hK hG.1 0 rfl rfl 0 (by decide) (hts (Cond.fieldLink RX8 7 "DiceRoadsModel" "state" "[I") wq_637) (fun _ h9 => h9) rfl dX8_claims_45 ?_
      refine lv_bipush (v := (11 : Int32)) hx hb dX8_claims_48 (by decide) ?_
      refine lv_iload_n hx hb dX8_claims_50 rfl (lv_at hl 3 rfl) ?_
      refine lv_iadd hx hb dX8_claims_51 ?_
      obtain ⟨hi, h⟩ := fo_ck_some h
      refine va_iald hx hb hK hG.1 1 0 rfl rfl hi dX8_claims_52 ?_
      refine lv_bipush (v := (-6 : Int32)) hx hb dX8_claims_53 (by decide) ?_
      refine lv_icmp_ne (tgt := 87) hx hb dX8_claims_55 (by decide) (fun hc => ?_) (fun hc => ?_)
      · have h := fo_if h hc
        refine lv_aload_n hx hb dX8_claims_87 rfl (lv_at hl 1 rfl) ?_
        refine va_get (D := (dC, dI)) (ci := 7) (v := .ref (a 1)) (C := RX8) (T := TX8) (N := 17) hx hb hts inlX8 hown hK hG.1 0 rfl rfl 0 (by decide) (hts (Cond.fieldLink RX8 7 "DiceRoadsModel" "state" "[I") wq_637) (fun _ h9 => h9) rfl dX8_claims_88 ?_
        refine lv_bipush (v := (31 : Int32)) hx hb dX8_claims_91 (by decide) ?_
        refine lv_iload_n hx hb dX8_claims_93 rfl (lv_at hl 3 rfl) ?_
        refine lv_iadd hx hb dX8_claims_94 ?_
        refine lv_iload_n hx hb dX8_claims_95 rfl (lv_at hl 2 rfl) ?_
        obtain ⟨hi, h⟩ := fo_ck_some h
        refine va_iast hx hb hK hG.1 hG.2.1 hG.2.2 1 0 rfl rfl hi dX8_claims_96 (fun H locs hP9 hD9 hS9 => ?_)
        have hG : gd_W (dC, dI) A s (wd_M0 cI a X (upd q41 ((31 : Int32) + v2).toNatClampNeg v1)) H locs := ⟨hP9, hD9, hS9⟩
        refine lv_aload_n hx hb dX8_claims_97 rfl (lv_at hl 1 rfl) ?_
        refine lv_aload_n hx hb dX8_claims_98 rfl (lv_at hl 1 rfl) ?_
        refine va_get (D := (dC, dI)) (ci := 7) (v := .ref (a 1)) (C := RX8) (T := TX8) (N := 17) hx hb hts inlX8 hown hK hG.1 0 rfl rfl 0 (by decide) (hts (Cond.fieldLink RX8 7 "DiceRoadsModel" "state" "[I") wq_637) (fun _ h9 => h9) rfl dX8_claims_99 ?_
        refine lv_bipush (v := (11 : Int32)) hx hb dX8_claims_102 (by decide) ?_
        refine lv_iload_n hx hb dX8_claims_104 rfl (lv_at hl 3 rfl) ?_
        refine lv_iadd hx hb dX8_claims_105 ?_
        obtain ⟨hi, h⟩ := fo_ck_some h
        refine va_iald hx hb hK hG.1 1 0 rfl rfl hi dX8_claims_106 ?_
        refine lv_iconst (v := (0 : Int32)) hx hb dX8_claims_107 (by decide) ?_
        refine lv_aload_n hx hb dX8_claims_108 rfl (lv_at hl 1 rfl) ?_
        refine va_get (D := (dC, dI)) (ci := 7) (v := .ref (a 1)) (C := RX8) (T := TX8) (N := 17) hx hb hts inlX8 hown hK hG.1 0 rfl rfl 0 (by decide) (hts (Cond.fieldLink RX8 7 "DiceRoadsModel" "state" "[I") wq_637) (fun _ h9 => h9) rfl dX8_claims_109 ?_
        refine lv_iconst (v := (1 : Int32)) hx hb dX8_claims_112 (by decide) ?_
        obtain ⟨hi, h⟩ := fo_ck_some h
        refine va_iald hx hb hK hG.1 1 0 rfl rfl hi dX8_claims_113 ?_
        obtain ⟨q114, hq114, h⟩ := fo_bd_some h
        refine gc_vV (b := a 0) (C := RX8) (As := [.int ((upd q41 ((31 : Int32) + v2).toNatClampNeg v1) ((11 : Int32) + v2).toNatClampNeg), .int (0 : Int32), .int ((upd q41 ((31 : Int32) + v2).toNatClampNeg v1) (1 : Int32).toNatClampNeg)]) (rest := []) (wc := (wd_M0 cI a X (upd q41 ((31 : Int32) + v2).toNatClampNeg v1))) (w1 := (wd_M0 cI a X q114)) (ci := 7) (q0 := 0) ⟨hx, hb, hml, hown, hts⟩ (c8_adds l (a := a) (X := X) hq114) (cwV 3 hts gv_X8_68 rfl rfl rfl hd8_adds ⟨Nat.le_of_ble_eq_true rfl, Nat.le_of_ble_eq_true rfl⟩) hK [0] rfl hA hG [0, 1] rfl rfl rfl rfl rfl rfl hl.1 rfl (Nat.le_of_ble_eq_true rfl) dX8_claims_114 ⟨Nat.zero_le _, Nat.zero_le _⟩ (fun H locs hG9 => ?_)
        have hG : gd_W (dC, dI) A s (wd_M0 cI a X q114) H locs := hG9
        obtain rfl := Option.some.inj h
        exact gr_v hx hb hr hlocks hK hG dX8_claims_117
      · have h := fo_it h hc
        refine lv_aload_n hx hb dX8_claims_58 rfl (lv_at hl 1 rfl) ?_
        refine va_get (D := (dC, dI)) (ci := 7) (v := .ref (a 1)) (C := RX8) (T := TX8) (N := 17) hx hb hts inlX8 hown hK hG.1 0 rfl rfl 0 (by decide) (hts (Cond.fieldLink RX8 7 "DiceRoadsModel" "state" "[I") wq_637) (fun _ h9 => h9) rfl dX8_claims_59 ?_
        refine lv_bipush (v := (11 : Int32)) hx hb dX8_claims_62 (by decide) ?_
        refine lv_iload_n hx hb dX8_claims_64 rfl (lv_at hl 3 rfl) ?_
        refine lv_iadd hx hb dX8_claims_65 ?_
        refine lv_iload_n hx hb dX8_claims_66 rfl (lv_at hl 2 rfl) ?_
        obtain ⟨hi, h⟩ := fo_ck_some h
        refine va_iast hx hb hK hG.1 hG.2.1 hG.2.2 1 0 rfl rfl hi dX8_claims_67 (fun H locs hP9 hD9 hS9 => ?_)
        have hG : gd_W (dC, dI) A s (wd_M0 cI a X (upd q41 ((11 : Int32) + v2).toNatClampNeg v1)) H locs := ⟨hP9, hD9, hS9⟩
        refine lv_aload_n hx hb dX8_claims_68 rfl (lv_at hl 1 rfl) ?_
        refine va_get (D := (dC, dI)) (ci := 7) (v := .ref (a 1)) (C := RX8) (T := TX8) (N := 17) hx hb hts inlX8 hown hK hG.1 0 rfl rfl 0 (by decide) (hts (Cond.fieldLink RX8 7 "DiceRoadsModel" "state" "[I") wq_637) (fun _ h9 => h9) rfl dX8_claims_69 ?_
        refine lv_bipush (v := (9 : Int32)) hx hb dX8_claims_72 (by decide) ?_
        refine lv_dup2_11 hx hb dX8_claims_74 rfl rfl ?_
        obtain ⟨hi, h⟩ := fo_ck_some h
        refine va_iald hx hb hK hG.1 1 0 rfl rfl hi dX8_claims_75 ?_
        refine lv_aload_n hx hb dX8_claims_76 rfl (lv_at hl 1 rfl) ?_
        refine va_get (D := (dC, dI)) (ci := 7) (v := .ref (a 1)) (C := RX8) (T := TX8) (N := 17) hx hb hts inlX8 hown hK hG.1 0 rfl rfl 0 (by decide) (hts (Cond.fieldLink RX8 7 "DiceRoadsModel" "state" "[I") wq_637) (fun _ h9 => h9) rfl dX8_claims_77 ?_
        refine lv_iconst (v := (1 : Int32)) hx hb dX8_claims_80 (by decide) ?_
        obtain ⟨hi, h⟩ := fo_ck_some h
        refine va_iald hx hb hK hG.1 1 0 rfl rfl hi dX8_claims_81 ?_
        refine lv_iadd hx hb dX8_claims_82 ?_
        obtain ⟨hi, h⟩ := fo_ck_some h
        refine va_iast hx hb hK hG.1 hG.2.1 hG.2.2 1 0 rfl rfl hi dX8_claims_83 (fun H locs hP9 hD9 hS9 => ?_)
        have hG : gd_W (dC, dI) A s (wd_M0 cI a X (upd (upd q41 ((11 : Int32) + v2).toNatClampNeg v1) (9 : Int32).toNatClampNeg (((upd q41 ((11 : Int32) + v2).toNatClampNeg v1) (9 : Int32).toNatClampNeg) + ((upd q41 ((11 : Int32) + v2).toNatClampNeg v1) (1 : Int32).toNatClampNeg)))) H locs := ⟨hP9, hD9, hS9⟩
        refine lv_goto (tgt := 117) hx hb dX8_claims_84 (by decide) ?_
        obtain rfl := Option.some.inj h
        exact gr_v hx hb hr hlocks hK hG dX8_claims_117
    · have h := fo_if h hc
      obtain rfl := Option.some.inj h
      exact gr_v hx hb hr hlocks hK hG dX8_claims_30
set_option maxRecDepth 100000 in
set_option maxHeartbeats 4000000 in
theorem c8_claims (l : Launch) {dC : Nat → ClassId} {dI : Nat → Nat → Nat} {cI : ClassId} {a : Nat → Nat} {X : Nat → Int32} {v1 : Int32} {v2 : Int32} {S : (Nat → Int32)} {q : (Nat → Int32)} (h : f8_claims v1 v2 S = some q) : mv_M l yX8_claims wm8_claims RM8_claims (dC, dI) [(cI, .int)] [.ref (a 0), .int v1, .int v2] (wd_M0 cI a X S) (wd_M0 cI a X q) := by
  intro sz
  refine Met.ofW (cc := cX8_claims) (maxL := 4) (ret := none) (by decide) rfl ?_
  intro p e s m args below meth c s₁ B hml hv
  obtain ⟨rfl, hsz, hP, hK, hD0⟩ := hv
  subst hsz
  have hl := lv_entry ([.ref (a 0), .int v1, .int v2] : List Value) (n := 4) (Nat.le_of_ble_eq_true rfl)
  rw [lg_entry_eq]
  generalize (lg_sl ([.ref (a 0), .int v1, .int v2] : List Value) ++ List.replicate (4 - (lg_sl ([.ref (a 0), .int v1, .int v2] : List Value)).length) Slot.unset).toArray = ls at hl ⊢
  exact w8_claims (a := a) ⟨B.exec, B.bytes, B.returns, fun w hw => atoms_spec (ws := wm8_claims) B.pre w (List.mem_cons_of_mem _ hw), findClass_of_methodNamed B.named, B.notSynchronized, hml⟩ hK (fun _ h => Or.inr h) h ⟨hP, hD0.self, va_S.rf⟩ hl
end
/-! ## DiceRoadsModel.paysToll(III)V -/
section
variable {p : Program} {l : Launch} {e : Env} {s : State} {m : MethodId} {args : Array Value} {below : List Frame} {meth : Method} {c : Code} {dC : Nat → ClassId} {dI : Nat → Nat → Nat} {cI : ClassId} {A : Nat → Prop}
set_option maxRecDepth 100000 in
set_option maxHeartbeats 4000000 in
theorem w8_paysToll (C : cx_M p s m args meth c RX8 cX8_paysToll none 5) (hK : va_K (dC, dI) vwCl [(cI, .int)] s) (hA : ∀ q, s.heap.size ≤ q → A q) {a : Nat → Nat} {X : Nat → Int32} {q : (Nat → Int32)} {v1 : Int32} {v2 : Int32} {v3 : Int32} {S : (Nat → Int32)} (h : f8_paysToll v1 v2 v3 S = some q) {H : Heap} {locs : List Loc} {ls : Array Slot} (hG : gd_W (dC, dI) A s (wd_M0 cI a X S) H locs) (hl : lv_has ls 5 [(0, .ref (a 0)), (1, .int v1), (2, .int v2), (3, .int v3)]) : W p l e RM8_paysToll s m args below meth c H locs 0 0 (MQ below (qv_W (dC, dI) [(cI, .int)] A (wd_M0 cI a X q)) args s 0 0 A) (F0 m 0 ls []) := by
  unfold f8_paysToll at h
  obtain ⟨hx, hb, hr, hts, hown, hlocks, hml⟩ := id C
  refine lv_aload_n hx hb dX8_paysToll_0 rfl (lv_at hl 0 rfl) ?_
  refine lv_iload_n hx hb dX8_paysToll_1 rfl (lv_at hl 1 rfl) ?_
  refine lv_iload_n hx hb dX8_paysToll_2 rfl (lv_at hl 2 rfl) ?_
  refine lv_iload_n hx hb dX8_paysToll_3 rfl (lv_at hl 3 rfl) ?_
  obtain ⟨q4, hq4, h⟩ := fo_bd_some h
  refine gc_iV (b := a 0) (C := RX8) (As := [.int v1, .int v2, .int v3]) (rest := []) (wc := (wd_M0 cI a X S)) (w1 := (wd_M0 cI a X q4.2)) (ci := 7) (q0 := 0) ⟨hx, hb, hml, hown, hts⟩ (c8_pays l (a := a) (X := X) hq4) (cwV 3 hts gv_X8_75 rfl rfl rfl hd8_pays ⟨Nat.le_of_ble_eq_true rfl, Nat.le_of_ble_eq_true rfl⟩) hK [0] rfl hA hG [0, 1] rfl rfl rfl rfl rfl rfl hl.1 rfl (Nat.le_of_ble_eq_true rfl) dX8_paysToll_4 ⟨Nat.zero_le _, Nat.zero_le _⟩ (fun H locs hG9 => ?_)
  have hG : gd_W (dC, dI) A s (wd_M0 cI a X q4.2) H locs := hG9
  refine lv_istore (lv' := [(4, .int q4.1), (0, .ref (a 0)), (1, .int v1), (2, .int v2), (3, .int v3)]) hx hb dX8_paysToll_7 hl (by decide) rfl (fun ls hl => ?_)
  refine lv_iload hx hb dX8_paysToll_9 (lv_at hl 0 rfl) ?_
  refine lv_iload_n hx hb dX8_paysToll_11 rfl (lv_at hl 4 rfl) ?_
  refine lv_icmp_ge (tgt := 25) hx hb dX8_paysToll_12 (by decide) (fun hc => ?_) (fun hc => ?_)
  · have h := fo_it h hc
    obtain rfl := Option.some.inj h
    exact gr_v hx hb hr hlocks hK hG dX8_paysToll_25
  · have h := fo_if h hc
    refine lv_aload_n hx hb dX8_paysToll_15 rfl (lv_at hl 1 rfl) ?_
    refine lv_iload_n hx hb dX8_paysToll_16 rfl (lv_at hl 2 rfl) ?_
    refine lv_iload_n hx hb dX8_paysToll_17 rfl (lv_at hl 3 rfl) ?_
    refine lv_iload_n hx hb dX8_paysToll_18 rfl (lv_at hl 4 rfl) ?_
    refine lv_iload hx hb dX8_paysToll_19 (lv_at hl 0 rfl) ?_
    refine lv_isub hx hb dX8_paysToll_21 ?_
    obtain ⟨q22, hq22, h⟩ := fo_bd_some h
    refine gc_vV (b := a 0) (C := RX8) (As := [.int v1, .int v2, .int (v3 - q4.1)]) (rest := []) (wc := (wd_M0 cI a X q4.2)) (w1 := (wd_M0 cI a X q22)) (ci := 7) (q0 := 0) ⟨hx, hb, hml, hown, hts⟩ (c8_addsDebt l (a := a) (X := X) hq22) (cwV 3 hts gv_X8_79 rfl rfl rfl hd8_addsDebt ⟨Nat.le_of_ble_eq_true rfl, Nat.le_of_ble_eq_true rfl⟩) hK [0] rfl hA hG [0, 1] rfl rfl rfl rfl rfl rfl hl.1 rfl (Nat.le_of_ble_eq_true rfl) dX8_paysToll_22 ⟨Nat.zero_le _, Nat.zero_le _⟩ (fun H locs hG9 => ?_)
    have hG : gd_W (dC, dI) A s (wd_M0 cI a X q22) H locs := hG9
    obtain rfl := Option.some.inj h
    exact gr_v hx hb hr hlocks hK hG dX8_paysToll_25
set_option maxRecDepth 100000 in
set_option maxHeartbeats 4000000 in
theorem c8_paysToll (l : Launch) {dC : Nat → ClassId} {dI : Nat → Nat → Nat} {cI : ClassId} {a : Nat → Nat} {X : Nat → Int32} {v1 : Int32} {v2 : Int32} {v3 : Int32} {S : (Nat → Int32)} {q : (Nat → Int32)} (h : f8_paysToll v1 v2 v3 S = some q) : mv_M l yX8_paysToll wm8_paysToll RM8_paysToll (dC, dI) [(cI, .int)] [.ref (a 0), .int v1, .int v2, .int v3] (wd_M0 cI a X S) (wd_M0 cI a X q) := by
  intro sz
  refine Met.ofW (cc := cX8_paysToll) (maxL := 5) (ret := none) (by decide) rfl ?_
  intro p e s m args below meth c s₁ B hml hv
  obtain ⟨rfl, hsz, hP, hK, hD0⟩ := hv
  subst hsz
  have hl := lv_entry ([.ref (a 0), .int v1, .int v2, .int v3] : List Value) (n := 5) (Nat.le_of_ble_eq_true rfl)
  rw [lg_entry_eq]
  generalize (lg_sl ([.ref (a 0), .int v1, .int v2, .int v3] : List Value) ++ List.replicate (5 - (lg_sl ([.ref (a 0), .int v1, .int v2, .int v3] : List Value)).length) Slot.unset).toArray = ls at hl ⊢
  exact w8_paysToll (a := a) ⟨B.exec, B.bytes, B.returns, fun w hw => atoms_spec (ws := wm8_paysToll) B.pre w (List.mem_cons_of_mem _ hw), findClass_of_methodNamed B.named, B.notSynchronized, hml⟩ hK (fun _ h => Or.inr h) h ⟨hP, hD0.self, va_S.rf⟩ hl
end
/-! ## DiceRoadsModel.arrives(II)V -/
section
variable {p : Program} {l : Launch} {e : Env} {s : State} {m : MethodId} {args : Array Value} {below : List Frame} {meth : Method} {c : Code} {dC : Nat → ClassId} {dI : Nat → Nat → Nat} {cI : ClassId} {A : Nat → Prop}
set_option maxRecDepth 100000 in
set_option maxHeartbeats 4000000 in
theorem w8_arrives_b73 (C : cx_M p s m args meth c RX8 cX8_arrives none 5) (hK : va_K (dC, dI) vwCl [(cI, .int)] s) (hA : ∀ q, s.heap.size ≤ q → A q) {a : Nat → Nat} {X : Nat → Int32} {q : (Nat → Int32)} {v1 : Int32} {v2 : Int32} {v3 : Int32} {t0 : Int32} {S : (Nat → Int32)} (h : f8_arrives_b73 v1 v2 v3 t0 S = some q) {H : Heap} {locs : List Loc} {ls : Array Slot} (hG : gd_W (dC, dI) A s (wd_M0 cI a X S) H locs) (hl : lv_has ls 5 [(0, .ref (a 0)), (1, .int v1), (2, .int v2), (3, .int v3)]) : W p l e RM8_arrives s m args below meth c H locs 0 0 (MQ below (qv_W (dC, dI) [(cI, .int)] A (wd_M0 cI a X q)) args s 0 0 A) (F0 m 73 ls [.int t0]) := by
  unfold f8_arrives_b73 at h
  obtain ⟨hx, hb, hr, hts, hown, hlocks, hml⟩ := id C
  refine lv_istore (lv' := [(4, .int t0), (0, .ref (a 0)), (1, .int v1), (2, .int v2), (3, .int v3)]) hx hb dX8_arrives_73 hl (by decide) rfl (fun ls hl => ?_)
  refine lv_aload_n hx hb dX8_arrives_75 rfl (lv_at hl 1 rfl) ?_
  refine lv_iload_n hx hb dX8_arrives_76 rfl (lv_at hl 2 rfl) ?_
  refine lv_aload_n hx hb dX8_arrives_77 rfl (lv_at hl 1 rfl) ?_
  refine va_get (D := (dC, dI)) (ci := 7) (v := .ref (a 1)) (C := RX8) (T := TX8) (N := 17) hx hb hts inlX8 hown hK hG.1 0 rfl rfl 0 (by decide) (hts (Cond.fieldLink RX8 7 "DiceRoadsModel" "state" "[I") wq_637) (fun _ h9 => h9) rfl dX8_arrives_78 ?_
  refine lv_bipush (v := (11 : Int32)) hx hb dX8_arrives_81 (by decide) ?_
  refine lv_iload_n hx hb dX8_arrives_83 rfl (lv_at hl 3 rfl) ?_
  refine lv_iadd hx hb dX8_arrives_84 ?_
  obtain ⟨hi, h⟩ := fo_ck_some h
  refine va_iald hx hb hK hG.1 1 0 rfl rfl hi dX8_arrives_85 ?_
  refine lv_iload_n hx hb dX8_arrives_86 rfl (lv_at hl 4 rfl) ?_
  refine lv_iload hx hb dX8_arrives_87 (lv_at hl 0 rfl) ?_
  refine lv_isub hx hb dX8_arrives_89 ?_
  obtain ⟨q90, hq90, h⟩ := fo_bd_some h
  refine gc_vV (b := a 0) (C := RX8) (As := [.int v1, .int (S ((11 : Int32) + v2).toNatClampNeg), .int (v3 - t0)]) (rest := []) (wc := (wd_M0 cI a X S)) (w1 := (wd_M0 cI a X q90)) (ci := 7) (q0 := 0) ⟨hx, hb, hml, hown, hts⟩ (c8_paysToll l (a := a) (X := X) hq90) (cwV 3 hts gv_X8_97 rfl rfl rfl hd8_paysToll ⟨Nat.le_of_ble_eq_true rfl, Nat.le_of_ble_eq_true rfl⟩) hK [0] rfl hA hG [0, 1] rfl rfl rfl rfl rfl rfl hl.1 rfl (Nat.le_of_ble_eq_true rfl) dX8_arrives_90 ⟨Nat.zero_le _, Nat.zero_le _⟩ (fun H locs hG9 => ?_)
  have hG : gd_W (dC, dI) A s (wd_M0 cI a X q90) H locs := hG9
  refine lv_aload_n hx hb dX8_arrives_93 rfl (lv_at hl 1 rfl) ?_
  refine va_get (D := (dC, dI)) (ci := 7) (v := .ref (a 1)) (C := RX8) (T := TX8) (N := 17) hx hb hts inlX8 hown hK hG.1 0 rfl rfl 0 (by decide) (hts (Cond.fieldLink RX8 7 "DiceRoadsModel" "state" "[I") wq_637) (fun _ h9 => h9) rfl dX8_arrives_94 ?_
  refine lv_bipush (v := (31 : Int32)) hx hb dX8_arrives_97 (by decide) ?_
  refine lv_iload_n hx hb dX8_arrives_99 rfl (lv_at hl 3 rfl) ?_
  refine lv_iadd hx hb dX8_arrives_100 ?_
  obtain ⟨hi, h⟩ := fo_ck_some h
  refine va_iald hx hb hK hG.1 1 0 rfl rfl hi dX8_arrives_101 ?_
  refine lv_bipush (v := (-6 : Int32)) hx hb dX8_arrives_102 (by decide) ?_
  refine lv_icmp_eq (tgt := 123) hx hb dX8_arrives_104 (by decide) (fun hc => ?_) (fun hc => ?_)
  · have h := fo_it h hc
    obtain rfl := Option.some.inj h
    exact gr_v hx hb hr hlocks hK hG dX8_arrives_123
  · have h := fo_if h hc
    refine lv_aload_n hx hb dX8_arrives_107 rfl (lv_at hl 1 rfl) ?_
    refine lv_iload_n hx hb dX8_arrives_108 rfl (lv_at hl 2 rfl) ?_
    refine lv_aload_n hx hb dX8_arrives_109 rfl (lv_at hl 1 rfl) ?_
    refine va_get (D := (dC, dI)) (ci := 7) (v := .ref (a 1)) (C := RX8) (T := TX8) (N := 17) hx hb hts inlX8 hown hK hG.1 0 rfl rfl 0 (by decide) (hts (Cond.fieldLink RX8 7 "DiceRoadsModel" "state" "[I") wq_637) (fun _ h9 => h9) rfl dX8_arrives_110 ?_
    refine lv_bipush (v := (31 : Int32)) hx hb dX8_arrives_113 (by decide) ?_
    refine lv_iload_n hx hb dX8_arrives_115 rfl (lv_at hl 3 rfl) ?_
    refine lv_iadd hx hb dX8_arrives_116 ?_
    obtain ⟨hi, h⟩ := fo_ck_some h
    refine va_iald hx hb hK hG.1 1 0 rfl rfl hi dX8_arrives_117 ?_
    refine lv_iload hx hb dX8_arrives_118 (lv_at hl 0 rfl) ?_
    obtain ⟨q120, hq120, h⟩ := fo_bd_some h
    refine gc_vV (b := a 0) (C := RX8) (As := [.int v1, .int (q90 ((31 : Int32) + v2).toNatClampNeg), .int t0]) (rest := []) (wc := (wd_M0 cI a X q90)) (w1 := (wd_M0 cI a X q120)) (ci := 7) (q0 := 0) ⟨hx, hb, hml, hown, hts⟩ (c8_paysToll l (a := a) (X := X) hq120) (cwV 3 hts gv_X8_97 rfl rfl rfl hd8_paysToll ⟨Nat.le_of_ble_eq_true rfl, Nat.le_of_ble_eq_true rfl⟩) hK [0] rfl hA hG [0, 1] rfl rfl rfl rfl rfl rfl hl.1 rfl (Nat.le_of_ble_eq_true rfl) dX8_arrives_120 ⟨Nat.zero_le _, Nat.zero_le _⟩ (fun H locs hG9 => ?_)
    have hG : gd_W (dC, dI) A s (wd_M0 cI a X q120) H locs := hG9
    obtain rfl := Option.some.inj h
    exact gr_v hx hb hr hlocks hK hG dX8_arrives_123
set_option maxRecDepth 100000 in
set_option maxHeartbeats 4000000 in
theorem w8_arrives_b23 (C : cx_M p s m args meth c RX8 cX8_arrives none 5) (hK : va_K (dC, dI) vwCl [(cI, .int)] s) (hA : ∀ q, s.heap.size ≤ q → A q) {a : Nat → Nat} {X : Nat → Int32} {q : (Nat → Int32)} {v1 : Int32} {v2 : Int32} {S : (Nat → Int32)} (h : f8_arrives_b23 v1 v2 S = some q) {H : Heap} {locs : List Loc} {ls : Array Slot} (hG : gd_W (dC, dI) A s (wd_M0 cI a X S) H locs) (hl : lv_has ls 5 [(0, .ref (a 0)), (1, .int v1), (2, .int v2)]) : W p l e RM8_arrives s m args below meth c H locs 0 0 (MQ below (qv_W (dC, dI) [(cI, .int)] A (wd_M0 cI a X q)) args s 0 0 A) (F0 m 23 ls []) := by
  unfold f8_arrives_b23 at h
  obtain ⟨hx, hb, hr, hts, hown, hlocks, hml⟩ := id C
  refine lv_aload_n hx hb dX8_arrives_23 rfl (lv_at hl 0 rfl) ?_
  refine lv_iload_n hx hb dX8_arrives_24 rfl (lv_at hl 1 rfl) ?_
  refine lv_iload_n hx hb dX8_arrives_25 rfl (lv_at hl 2 rfl) ?_
  obtain ⟨q26, hq26, h⟩ := fo_bd_some h
  refine gc_iV (b := a 0) (C := RX8) (As := [.int v1, .int v2]) (rest := []) (wc := (wd_M0 cI a X S)) (w1 := (wd_M0 cI a X S)) (ci := 7) (q0 := 0) ⟨hx, hb, hml, hown, hts⟩ (c8_owns l (a := a) (X := X) hq26) (cwV 2 hts gv_X8_50 rfl rfl rfl hd8_owns ⟨Nat.le_of_ble_eq_true rfl, Nat.le_of_ble_eq_true rfl⟩) hK [0] rfl hA hG [0, 1] rfl rfl rfl rfl rfl rfl hl.1 rfl (Nat.le_of_ble_eq_true rfl) dX8_arrives_26 ⟨Nat.zero_le _, Nat.zero_le _⟩ (fun H locs hG9 => ?_)
  have hG : gd_W (dC, dI) A s (wd_M0 cI a X S) H locs := hG9
  refine lv_if_ne (tgt := 123) hx hb dX8_arrives_29 (by decide) (fun hc => ?_) (fun hc => ?_)
  · have h := fo_if h hc
    obtain rfl := Option.some.inj h
    exact gr_v hx hb hr hlocks hK hG dX8_arrives_123
  · have h := fo_it h hc
    refine lv_aload_n hx hb dX8_arrives_32 rfl (lv_at hl 0 rfl) ?_
    refine va_get (D := (dC, dI)) (ci := 7) (v := .ref (a 1)) (C := RX8) (T := TX8) (N := 17) hx hb hts inlX8 hown hK hG.1 0 rfl rfl 0 (by decide) (hts (Cond.fieldLink RX8 7 "DiceRoadsModel" "state" "[I") wq_637) (fun _ h9 => h9) rfl dX8_arrives_33 ?_
    refine lv_bipush (v := (11 : Int32)) hx hb dX8_arrives_36 (by decide) ?_
    refine lv_iload_n hx hb dX8_arrives_38 rfl (lv_at hl 2 rfl) ?_
    refine lv_iadd hx hb dX8_arrives_39 ?_
    obtain ⟨hi, h⟩ := fo_ck_some h
    refine va_iald hx hb hK hG.1 1 0 rfl rfl hi dX8_arrives_40 ?_
    refine lv_bipush (v := (-6 : Int32)) hx hb dX8_arrives_41 (by decide) ?_
    refine lv_icmp_eq (tgt := 123) hx hb dX8_arrives_43 (by decide) (fun hc => ?_) (fun hc => ?_)
    · have h := fo_it h hc
      obtain rfl := Option.some.inj h
      exact gr_v hx hb hr hlocks hK hG dX8_arrives_123
    · have h := fo_if h hc
      refine lv_aload_n hx hb dX8_arrives_46 rfl (lv_at hl 0 rfl) ?_
      refine lv_iload_n hx hb dX8_arrives_47 rfl (lv_at hl 2 rfl) ?_
      obtain ⟨q48, hq48, h⟩ := fo_bd_some h
      refine gc_iV (b := a 0) (C := RX8) (As := [.int v2]) (rest := []) (wc := (wd_M0 cI a X S)) (w1 := (wd_M0 cI a X S)) (ci := 7) (q0 := 0) ⟨hx, hb, hml, hown, hts⟩ (c8_tollOf l (a := a) (X := X) hq48) (cwV 1 hts gv_X8_94 rfl rfl rfl hd8_tollOf ⟨Nat.le_of_ble_eq_true rfl, Nat.le_of_ble_eq_true rfl⟩) hK [0] rfl hA hG [0, 1] rfl rfl rfl rfl rfl rfl hl.1 rfl (Nat.le_of_ble_eq_true rfl) dX8_arrives_48 ⟨Nat.zero_le _, Nat.zero_le _⟩ (fun H locs hG9 => ?_)
      have hG : gd_W (dC, dI) A s (wd_M0 cI a X S) H locs := hG9
      refine lv_istore_n (lv' := [(3, .int q48), (0, .ref (a 0)), (1, .int v1), (2, .int v2)]) hx hb dX8_arrives_51 rfl hl (by decide) rfl (fun ls hl => ?_)
      refine lv_aload_n hx hb dX8_arrives_52 rfl (lv_at hl 1 rfl) ?_
      refine va_get (D := (dC, dI)) (ci := 7) (v := .ref (a 1)) (C := RX8) (T := TX8) (N := 17) hx hb hts inlX8 hown hK hG.1 0 rfl rfl 0 (by decide) (hts (Cond.fieldLink RX8 7 "DiceRoadsModel" "state" "[I") wq_637) (fun _ h9 => h9) rfl dX8_arrives_53 ?_
      refine lv_bipush (v := (31 : Int32)) hx hb dX8_arrives_56 (by decide) ?_
      refine lv_iload_n hx hb dX8_arrives_58 rfl (lv_at hl 3 rfl) ?_
      refine lv_iadd hx hb dX8_arrives_59 ?_
      obtain ⟨hi, h⟩ := fo_ck_some h
      refine va_iald hx hb hK hG.1 1 0 rfl rfl hi dX8_arrives_60 ?_
      refine lv_bipush (v := (-6 : Int32)) hx hb dX8_arrives_61 (by decide) ?_
      refine lv_icmp_ne (tgt := 70) hx hb dX8_arrives_63 (by decide) (fun hc => ?_) (fun hc => ?_)
      · have h := fo_if h hc
        refine lv_iload_n hx hb dX8_arrives_70 rfl (lv_at hl 0 rfl) ?_
        refine lv_iconst (v := (2 : Int32)) hx hb dX8_arrives_71 (by decide) ?_
        refine lv_idiv hx hb dX8_arrives_72 (by decide) ?_
        exact w8_arrives_b73 C hK hA h hG (lv_sub hl [1, 2, 3, 0] rfl)
      · have h := fo_it h hc
        refine lv_iconst (v := (0 : Int32)) hx hb dX8_arrives_66 (by decide) ?_
        refine lv_goto (tgt := 73) hx hb dX8_arrives_67 (by decide) ?_
        exact w8_arrives_b73 C hK hA h hG (lv_sub hl [1, 2, 3, 0] rfl)
set_option maxRecDepth 100000 in
set_option maxHeartbeats 4000000 in
theorem w8_arrives (C : cx_M p s m args meth c RX8 cX8_arrives none 5) (hK : va_K (dC, dI) vwCl [(cI, .int)] s) (hA : ∀ q, s.heap.size ≤ q → A q) {a : Nat → Nat} {X : Nat → Int32} {q : (Nat → Int32)} {v1 : Int32} {v2 : Int32} {S : (Nat → Int32)} (h : f8_arrives v1 v2 S = some q) {H : Heap} {locs : List Loc} {ls : Array Slot} (hG : gd_W (dC, dI) A s (wd_M0 cI a X S) H locs) (hl : lv_has ls 5 [(0, .ref (a 0)), (1, .int v1), (2, .int v2)]) : W p l e RM8_arrives s m args below meth c H locs 0 0 (MQ below (qv_W (dC, dI) [(cI, .int)] A (wd_M0 cI a X q)) args s 0 0 A) (F0 m 0 ls []) := by
  unfold f8_arrives at h
  obtain ⟨hx, hb, hr, hts, hown, hlocks, hml⟩ := id C
  refine lv_aload_n hx hb dX8_arrives_0 rfl (lv_at hl 0 rfl) ?_
  refine lv_iload_n hx hb dX8_arrives_1 rfl (lv_at hl 1 rfl) ?_
  refine lv_iload_n hx hb dX8_arrives_2 rfl (lv_at hl 2 rfl) ?_
  obtain ⟨q3, hq3, h⟩ := fo_bd_some h
  refine gc_iV (b := a 0) (C := RX8) (As := [.int v1, .int v2]) (rest := []) (wc := (wd_M0 cI a X S)) (w1 := (wd_M0 cI a X S)) (ci := 7) (q0 := 0) ⟨hx, hb, hml, hown, hts⟩ (c8_owns l (a := a) (X := X) hq3) (cwV 2 hts gv_X8_50 rfl rfl rfl hd8_owns ⟨Nat.le_of_ble_eq_true rfl, Nat.le_of_ble_eq_true rfl⟩) hK [0] rfl hA hG [0, 1] rfl rfl rfl rfl rfl rfl hl.1 rfl (Nat.le_of_ble_eq_true rfl) dX8_arrives_3 ⟨Nat.zero_le _, Nat.zero_le _⟩ (fun H locs hG9 => ?_)
  have hG : gd_W (dC, dI) A s (wd_M0 cI a X S) H locs := hG9
  refine lv_if_ne (tgt := 23) hx hb dX8_arrives_6 (by decide) (fun hc => ?_) (fun hc => ?_)
  · have h := fo_if h hc
    exact w8_arrives_b23 C hK hA h hG (lv_sub hl [0, 1, 2] rfl)
  · have h := fo_it h hc
    refine lv_aload_n hx hb dX8_arrives_9 rfl (lv_at hl 0 rfl) ?_
    refine lv_iload_n hx hb dX8_arrives_10 rfl (lv_at hl 2 rfl) ?_
    obtain ⟨q11, hq11, h⟩ := fo_bd_some h
    refine gc_iV (b := a 0) (C := RX8) (As := [.int v2]) (rest := []) (wc := (wd_M0 cI a X S)) (w1 := (wd_M0 cI a X S)) (ci := 7) (q0 := 0) ⟨hx, hb, hml, hown, hts⟩ (c8_canBeClaimed l (a := a) (X := X) hq11) (cwV 1 hts gv_X8_86 rfl rfl rfl hd8_canBeClaimed ⟨Nat.le_of_ble_eq_true rfl, Nat.le_of_ble_eq_true rfl⟩) hK [0] rfl hA hG [0, 1] rfl rfl rfl rfl rfl rfl hl.1 rfl (Nat.le_of_ble_eq_true rfl) dX8_arrives_11 ⟨Nat.zero_le _, Nat.zero_le _⟩ (fun H locs hG9 => ?_)
    have hG : gd_W (dC, dI) A s (wd_M0 cI a X S) H locs := hG9
    refine lv_if_eq (tgt := 23) hx hb dX8_arrives_14 (by decide) (fun hc => ?_) (fun hc => ?_)
    · have h := fo_it h hc
      exact w8_arrives_b23 C hK hA h hG (lv_sub hl [0, 1, 2] rfl)
    · have h := fo_if h hc
      refine lv_aload_n hx hb dX8_arrives_17 rfl (lv_at hl 0 rfl) ?_
      refine lv_iload_n hx hb dX8_arrives_18 rfl (lv_at hl 1 rfl) ?_
      refine lv_iload_n hx hb dX8_arrives_19 rfl (lv_at hl 2 rfl) ?_
      obtain ⟨q20, hq20, h⟩ := fo_bd_some h
      refine gc_vV (b := a 0) (C := RX8) (As := [.int v1, .int v2]) (rest := []) (wc := (wd_M0 cI a X S)) (w1 := (wd_M0 cI a X q20)) (ci := 7) (q0 := 0) ⟨hx, hb, hml, hown, hts⟩ (c8_claims l (a := a) (X := X) hq20) (cwV 2 hts gv_X8_90 rfl rfl rfl hd8_claims ⟨Nat.le_of_ble_eq_true rfl, Nat.le_of_ble_eq_true rfl⟩) hK [0] rfl hA hG [0, 1] rfl rfl rfl rfl rfl rfl hl.1 rfl (Nat.le_of_ble_eq_true rfl) dX8_arrives_20 ⟨Nat.zero_le _, Nat.zero_le _⟩ (fun H locs hG9 => ?_)
      have hG : gd_W (dC, dI) A s (wd_M0 cI a X q20) H locs := hG9
      exact w8_arrives_b23 C hK hA h hG (lv_sub hl [0, 1, 2] rfl)
set_option maxRecDepth 100000 in
set_option maxHeartbeats 4000000 in
theorem c8_arrives (l : Launch) {dC : Nat → ClassId} {dI : Nat → Nat → Nat} {cI : ClassId} {a : Nat → Nat} {X : Nat → Int32} {v1 : Int32} {v2 : Int32} {S : (Nat → Int32)} {q : (Nat → Int32)} (h : f8_arrives v1 v2 S = some q) : mv_M l yX8_arrives wm8_arrives RM8_arrives (dC, dI) [(cI, .int)] [.ref (a 0), .int v1, .int v2] (wd_M0 cI a X S) (wd_M0 cI a X q) := by
  intro sz
  refine Met.ofW (cc := cX8_arrives) (maxL := 5) (ret := none) (by decide) rfl ?_
  intro p e s m args below meth c s₁ B hml hv
  obtain ⟨rfl, hsz, hP, hK, hD0⟩ := hv
  subst hsz
  have hl := lv_entry ([.ref (a 0), .int v1, .int v2] : List Value) (n := 5) (Nat.le_of_ble_eq_true rfl)
  rw [lg_entry_eq]
  generalize (lg_sl ([.ref (a 0), .int v1, .int v2] : List Value) ++ List.replicate (5 - (lg_sl ([.ref (a 0), .int v1, .int v2] : List Value)).length) Slot.unset).toArray = ls at hl ⊢
  exact w8_arrives (a := a) ⟨B.exec, B.bytes, B.returns, fun w hw => atoms_spec (ws := wm8_arrives) B.pre w (List.mem_cons_of_mem _ hw), findClass_of_methodNamed B.named, B.notSynchronized, hml⟩ hK (fun _ h => Or.inr h) h ⟨hP, hD0.self, va_S.rf⟩ hl
end
/-! ## DiceRoadsModel.hands(III)V -/
section
variable {p : Program} {l : Launch} {e : Env} {s : State} {m : MethodId} {args : Array Value} {below : List Frame} {meth : Method} {c : Code} {dC : Nat → ClassId} {dI : Nat → Nat → Nat} {cI : ClassId} {A : Nat → Prop}
set_option maxRecDepth 100000 in
set_option maxHeartbeats 4000000 in
theorem w8_hands_b89 (C : cx_M p s m args meth c RX8 cX8_hands none 4) (hK : va_K (dC, dI) vwCl [(cI, .int)] s) (hA : ∀ q, s.heap.size ≤ q → A q) {a : Nat → Nat} {X : Nat → Int32} {q : (Nat → Int32)} {t1 : Int32} {t2 : Int32} {S : (Nat → Int32)} (h : f8_hands_b89 t1 t2 S = some q) {H : Heap} {locs : List Loc} {ls : Array Slot} (hG : gd_W (dC, dI) A s (wd_M0 cI a X S) H locs) (hl : lv_has ls 4 []) : W p l e RM8_hands s m args below meth c H locs 0 0 (MQ below (qv_W (dC, dI) [(cI, .int)] A (wd_M0 cI a X q)) args s 0 0 A) (F0 m 89 ls [.int t2, .int t1, .ref (a 1)]) := by
  unfold f8_hands_b89 at h
  obtain ⟨hx, hb, hr, hts, hown, hlocks, hml⟩ := id C
  obtain ⟨hi, h⟩ := fo_ck_some h
  refine va_iast hx hb hK hG.1 hG.2.1 hG.2.2 1 0 rfl rfl hi dX8_hands_89 (fun H locs hP9 hD9 hS9 => ?_)
  have hG : gd_W (dC, dI) A s (wd_M0 cI a X (upd S t1.toNatClampNeg t2)) H locs := ⟨hP9, hD9, hS9⟩
  obtain rfl := Option.some.inj h
  exact gr_v hx hb hr hlocks hK hG dX8_hands_90
set_option maxRecDepth 100000 in
set_option maxHeartbeats 4000000 in
theorem w8_hands_b58 (C : cx_M p s m args meth c RX8 cX8_hands none 4) (hK : va_K (dC, dI) vwCl [(cI, .int)] s) (hA : ∀ q, s.heap.size ≤ q → A q) {a : Nat → Nat} {X : Nat → Int32} {q : (Nat → Int32)} {t1 : Int32} {t2 : Int32} {S : (Nat → Int32)} (h : f8_hands_b58 t1 t2 S = some q) {H : Heap} {locs : List Loc} {ls : Array Slot} (hG : gd_W (dC, dI) A s (wd_M0 cI a X S) H locs) (hl : lv_has ls 4 []) : W p l e RM8_hands s m args below meth c H locs 0 0 (MQ below (qv_W (dC, dI) [(cI, .int)] A (wd_M0 cI a X q)) args s 0 0 A) (F0 m 58 ls [.int t2, .int t1, .ref (a 1)]) := by
  unfold f8_hands_b58 at h
  obtain ⟨hx, hb, hr, hts, hown, hlocks, hml⟩ := id C
  obtain ⟨hi, h⟩ := fo_ck_some h
  refine va_iast hx hb hK hG.1 hG.2.1 hG.2.2 1 0 rfl rfl hi dX8_hands_58 (fun H locs hP9 hD9 hS9 => ?_)
  have hG : gd_W (dC, dI) A s (wd_M0 cI a X (upd S t1.toNatClampNeg t2)) H locs := ⟨hP9, hD9, hS9⟩
  refine lv_goto (tgt := 90) hx hb dX8_hands_59 (by decide) ?_
  obtain rfl := Option.some.inj h
  exact gr_v hx hb hr hlocks hK hG dX8_hands_90
set_option maxRecDepth 100000 in
set_option maxHeartbeats 4000000 in
theorem w8_hands (C : cx_M p s m args meth c RX8 cX8_hands none 4) (hK : va_K (dC, dI) vwCl [(cI, .int)] s) (hA : ∀ q, s.heap.size ≤ q → A q) {a : Nat → Nat} {X : Nat → Int32} {q : (Nat → Int32)} {v1 : Int32} {v2 : Int32} {v3 : Int32} {S : (Nat → Int32)} (h : f8_hands v1 v2 v3 S = some q) {H : Heap} {locs : List Loc} {ls : Array Slot} (hG : gd_W (dC, dI) A s (wd_M0 cI a X S) H locs) (hl : lv_has ls 4 [(0, .ref (a 0)), (1, .int v1), (2, .int v2), (3, .int v3)]) : W p l e RM8_hands s m args below meth c H locs 0 0 (MQ below (qv_W (dC, dI) [(cI, .int)] A (wd_M0 cI a X q)) args s 0 0 A) (F0 m 0 ls []) := by
  unfold f8_hands at h
  obtain ⟨hx, hb, hr, hts, hown, hlocks, hml⟩ := id C
  refine lv_aload_n hx hb dX8_hands_0 rfl (lv_at hl 0 rfl) ?_
  refine va_get (D := (dC, dI)) (ci := 7) (v := .ref (a 1)) (C := RX8) (T := TX8) (N := 17) hx hb hts inlX8 hown hK hG.1 0 rfl rfl 0 (by decide) (hts (Cond.fieldLink RX8 7 "DiceRoadsModel" "state" "[I") wq_637) (fun _ h9 => h9) rfl dX8_hands_1 ?_
  refine lv_bipush (v := (11 : Int32)) hx hb dX8_hands_4 (by decide) ?_
  refine lv_iload_n hx hb dX8_hands_6 rfl (lv_at hl 2 rfl) ?_
  refine lv_iadd hx hb dX8_hands_7 ?_
  obtain ⟨hi, h⟩ := fo_ck_some h
  refine va_iald hx hb hK hG.1 1 0 rfl rfl hi dX8_hands_8 ?_
  refine lv_iload_n hx hb dX8_hands_9 rfl (lv_at hl 1 rfl) ?_
  refine lv_icmp_ne (tgt := 62) hx hb dX8_hands_10 (by decide) (fun hc => ?_) (fun hc => ?_)
  · have h := fo_if h hc
    refine lv_aload_n hx hb dX8_hands_62 rfl (lv_at hl 0 rfl) ?_
    refine va_get (D := (dC, dI)) (ci := 7) (v := .ref (a 1)) (C := RX8) (T := TX8) (N := 17) hx hb hts inlX8 hown hK hG.1 0 rfl rfl 0 (by decide) (hts (Cond.fieldLink RX8 7 "DiceRoadsModel" "state" "[I") wq_637) (fun _ h9 => h9) rfl dX8_hands_63 ?_
    refine lv_bipush (v := (31 : Int32)) hx hb dX8_hands_66 (by decide) ?_
    refine lv_iload_n hx hb dX8_hands_68 rfl (lv_at hl 2 rfl) ?_
    refine lv_iadd hx hb dX8_hands_69 ?_
    refine lv_aload_n hx hb dX8_hands_70 rfl (lv_at hl 0 rfl) ?_
    refine va_get (D := (dC, dI)) (ci := 7) (v := .ref (a 1)) (C := RX8) (T := TX8) (N := 17) hx hb hts inlX8 hown hK hG.1 0 rfl rfl 0 (by decide) (hts (Cond.fieldLink RX8 7 "DiceRoadsModel" "state" "[I") wq_637) (fun _ h9 => h9) rfl dX8_hands_71 ?_
    refine lv_bipush (v := (11 : Int32)) hx hb dX8_hands_74 (by decide) ?_
    refine lv_iload_n hx hb dX8_hands_76 rfl (lv_at hl 2 rfl) ?_
    refine lv_iadd hx hb dX8_hands_77 ?_
    obtain ⟨hi, h⟩ := fo_ck_some h
    refine va_iald hx hb hK hG.1 1 0 rfl rfl hi dX8_hands_78 ?_
    refine lv_iload_n hx hb dX8_hands_79 rfl (lv_at hl 3 rfl) ?_
    refine lv_icmp_ne (tgt := 88) hx hb dX8_hands_80 (by decide) (fun hc => ?_) (fun hc => ?_)
    · have h := fo_if h hc
      refine lv_iload_n hx hb dX8_hands_88 rfl (lv_at hl 3 rfl) ?_
      exact w8_hands_b89 C hK hA h hG (lv_sub hl [] rfl)
    · have h := fo_it h hc
      refine lv_bipush (v := (-6 : Int32)) hx hb dX8_hands_83 (by decide) ?_
      refine lv_goto (tgt := 89) hx hb dX8_hands_85 (by decide) ?_
      exact w8_hands_b89 C hK hA h hG (lv_sub hl [] rfl)
  · have h := fo_it h hc
    refine lv_aload_n hx hb dX8_hands_13 rfl (lv_at hl 0 rfl) ?_
    refine va_get (D := (dC, dI)) (ci := 7) (v := .ref (a 1)) (C := RX8) (T := TX8) (N := 17) hx hb hts inlX8 hown hK hG.1 0 rfl rfl 0 (by decide) (hts (Cond.fieldLink RX8 7 "DiceRoadsModel" "state" "[I") wq_637) (fun _ h9 => h9) rfl dX8_hands_14 ?_
    refine lv_bipush (v := (11 : Int32)) hx hb dX8_hands_17 (by decide) ?_
    refine lv_iload_n hx hb dX8_hands_19 rfl (lv_at hl 2 rfl) ?_
    refine lv_iadd hx hb dX8_hands_20 ?_
    refine lv_iload_n hx hb dX8_hands_21 rfl (lv_at hl 3 rfl) ?_
    obtain ⟨hi, h⟩ := fo_ck_some h
    refine va_iast hx hb hK hG.1 hG.2.1 hG.2.2 1 0 rfl rfl hi dX8_hands_22 (fun H locs hP9 hD9 hS9 => ?_)
    have hG : gd_W (dC, dI) A s (wd_M0 cI a X (upd S ((11 : Int32) + v2).toNatClampNeg v3)) H locs := ⟨hP9, hD9, hS9⟩
    refine lv_aload_n hx hb dX8_hands_23 rfl (lv_at hl 0 rfl) ?_
    refine va_get (D := (dC, dI)) (ci := 7) (v := .ref (a 1)) (C := RX8) (T := TX8) (N := 17) hx hb hts inlX8 hown hK hG.1 0 rfl rfl 0 (by decide) (hts (Cond.fieldLink RX8 7 "DiceRoadsModel" "state" "[I") wq_637) (fun _ h9 => h9) rfl dX8_hands_24 ?_
    refine lv_bipush (v := (31 : Int32)) hx hb dX8_hands_27 (by decide) ?_
    refine lv_iload_n hx hb dX8_hands_29 rfl (lv_at hl 2 rfl) ?_
    refine lv_iadd hx hb dX8_hands_30 ?_
    refine lv_aload_n hx hb dX8_hands_31 rfl (lv_at hl 0 rfl) ?_
    refine va_get (D := (dC, dI)) (ci := 7) (v := .ref (a 1)) (C := RX8) (T := TX8) (N := 17) hx hb hts inlX8 hown hK hG.1 0 rfl rfl 0 (by decide) (hts (Cond.fieldLink RX8 7 "DiceRoadsModel" "state" "[I") wq_637) (fun _ h9 => h9) rfl dX8_hands_32 ?_
    refine lv_bipush (v := (31 : Int32)) hx hb dX8_hands_35 (by decide) ?_
    refine lv_iload_n hx hb dX8_hands_37 rfl (lv_at hl 2 rfl) ?_
    refine lv_iadd hx hb dX8_hands_38 ?_
    obtain ⟨hi, h⟩ := fo_ck_some h
    refine va_iald hx hb hK hG.1 1 0 rfl rfl hi dX8_hands_39 ?_
    refine lv_iload_n hx hb dX8_hands_40 rfl (lv_at hl 3 rfl) ?_
    refine lv_icmp_ne (tgt := 49) hx hb dX8_hands_41 (by decide) (fun hc => ?_) (fun hc => ?_)
    · have h := fo_if h hc
      refine lv_aload_n hx hb dX8_hands_49 rfl (lv_at hl 0 rfl) ?_
      refine va_get (D := (dC, dI)) (ci := 7) (v := .ref (a 1)) (C := RX8) (T := TX8) (N := 17) hx hb hts inlX8 hown hK hG.1 0 rfl rfl 0 (by decide) (hts (Cond.fieldLink RX8 7 "DiceRoadsModel" "state" "[I") wq_637) (fun _ h9 => h9) rfl dX8_hands_50 ?_
      refine lv_bipush (v := (31 : Int32)) hx hb dX8_hands_53 (by decide) ?_
      refine lv_iload_n hx hb dX8_hands_55 rfl (lv_at hl 2 rfl) ?_
      refine lv_iadd hx hb dX8_hands_56 ?_
      obtain ⟨hi, h⟩ := fo_ck_some h
      refine va_iald hx hb hK hG.1 1 0 rfl rfl hi dX8_hands_57 ?_
      exact w8_hands_b58 C hK hA h hG (lv_sub hl [] rfl)
    · have h := fo_it h hc
      refine lv_bipush (v := (-6 : Int32)) hx hb dX8_hands_44 (by decide) ?_
      refine lv_goto (tgt := 58) hx hb dX8_hands_46 (by decide) ?_
      exact w8_hands_b58 C hK hA h hG (lv_sub hl [] rfl)
set_option maxRecDepth 100000 in
set_option maxHeartbeats 4000000 in
theorem c8_hands (l : Launch) {dC : Nat → ClassId} {dI : Nat → Nat → Nat} {cI : ClassId} {a : Nat → Nat} {X : Nat → Int32} {v1 : Int32} {v2 : Int32} {v3 : Int32} {S : (Nat → Int32)} {q : (Nat → Int32)} (h : f8_hands v1 v2 v3 S = some q) : mv_M l yX8_hands wm8_hands RM8_hands (dC, dI) [(cI, .int)] [.ref (a 0), .int v1, .int v2, .int v3] (wd_M0 cI a X S) (wd_M0 cI a X q) := by
  intro sz
  refine Met.ofW (cc := cX8_hands) (maxL := 4) (ret := none) (by decide) rfl ?_
  intro p e s m args below meth c s₁ B hml hv
  obtain ⟨rfl, hsz, hP, hK, hD0⟩ := hv
  subst hsz
  have hl := lv_entry ([.ref (a 0), .int v1, .int v2, .int v3] : List Value) (n := 4) (Nat.le_of_ble_eq_true rfl)
  rw [lg_entry_eq]
  generalize (lg_sl ([.ref (a 0), .int v1, .int v2, .int v3] : List Value) ++ List.replicate (4 - (lg_sl ([.ref (a 0), .int v1, .int v2, .int v3] : List Value)).length) Slot.unset).toArray = ls at hl ⊢
  exact w8_hands (a := a) ⟨B.exec, B.bytes, B.returns, fun w hw => atoms_spec (ws := wm8_hands) B.pre w (List.mem_cons_of_mem _ hw), findClass_of_methodNamed B.named, B.notSynchronized, hml⟩ hK (fun _ h => Or.inr h) h ⟨hP, hD0.self, va_S.rf⟩ hl
end
/-! ## DiceRoadsModel.growsOlder(I)V -/
section
variable {p : Program} {l : Launch} {e : Env} {s : State} {m : MethodId} {args : Array Value} {below : List Frame} {meth : Method} {c : Code} {dC : Nat → ClassId} {dI : Nat → Nat → Nat} {cI : ClassId} {A : Nat → Prop}
set_option maxRecDepth 100000 in
set_option maxHeartbeats 4000000 in
theorem w8_growsOlder_b127 (C : cx_M p s m args meth c RX8 cX8_growsOlder none 5) (hK : va_K (dC, dI) vwCl [(cI, .int)] s) (hA : ∀ q, s.heap.size ≤ q → A q) {a : Nat → Nat} {X : Nat → Int32} {q : (Nat → Int32)} {rec58 : Int32 → Int32 → Int32 → (Nat → Int32) → Option (Nat → Int32)} (hrec58 : ∀ {v1 : Int32} {v2 : Int32} {v3 : Int32} {S : (Nat → Int32)} , rec58 v1 v2 v3 S = some q → ∀ {H : Heap} {locs : List Loc} {ls : Array Slot}, gd_W (dC, dI) A s (wd_M0 cI a X S) H locs → lv_has ls 5 [(0, .ref (a 0)), (1, .int v1), (2, .int v2), (3, .int v3)] → W p l e RM8_growsOlder s m args below meth c H locs 0 0 (MQ below (qv_W (dC, dI) [(cI, .int)] A (wd_M0 cI a X q)) args s 0 0 A) (F0 m 58 ls [])) {v1 : Int32} {v2 : Int32} {S : (Nat → Int32)} (h : f8_growsOlder_b127 rec58 v1 v2 S = some q) {H : Heap} {locs : List Loc} {ls : Array Slot} (hG : gd_W (dC, dI) A s (wd_M0 cI a X S) H locs) (hl : lv_has ls 5 [(0, .ref (a 0)), (1, .int v1), (2, .int v2)]) : W p l e RM8_growsOlder s m args below meth c H locs 0 0 (MQ below (qv_W (dC, dI) [(cI, .int)] A (wd_M0 cI a X q)) args s 0 0 A) (F0 m 127 ls []) := by
  unfold f8_growsOlder_b127 at h
  obtain ⟨hx, hb, hr, hts, hown, hlocks, hml⟩ := id C
  refine lv_aload_n hx hb dX8_growsOlder_127 rfl (lv_at hl 0 rfl) ?_
  refine lv_iload_n hx hb dX8_growsOlder_128 rfl (lv_at hl 1 rfl) ?_
  refine lv_iload_n hx hb dX8_growsOlder_129 rfl (lv_at hl 2 rfl) ?_
  obtain ⟨q130, hq130, h⟩ := fo_bd_some h
  refine gc_iV (b := a 0) (C := RX8) (As := [.int v1, .int v2]) (rest := []) (wc := (wd_M0 cI a X S)) (w1 := (wd_M0 cI a X S)) (ci := 7) (q0 := 0) ⟨hx, hb, hml, hown, hts⟩ (c8_oldest l (a := a) (X := X) hq130) (cwV 2 hts gv_X8_72 rfl rfl rfl hd8_oldest ⟨Nat.le_of_ble_eq_true rfl, Nat.le_of_ble_eq_true rfl⟩) hK [0] rfl hA hG [0, 1] rfl rfl rfl rfl rfl rfl hl.1 rfl (Nat.le_of_ble_eq_true rfl) dX8_growsOlder_130 ⟨Nat.zero_le _, Nat.zero_le _⟩ (fun H locs hG9 => ?_)
  have hG : gd_W (dC, dI) A s (wd_M0 cI a X S) H locs := hG9
  refine lv_istore_n (lv' := [(3, .int q130), (0, .ref (a 0)), (1, .int v1), (2, .int v2)]) hx hb dX8_growsOlder_133 rfl hl (by decide) rfl (fun ls hl => ?_)
  refine lv_goto (tgt := 58) hx hb dX8_growsOlder_134 (by decide) ?_
  exact hrec58 h hG (lv_sub hl [1, 2, 3, 0] rfl)
set_option maxRecDepth 100000 in
set_option maxHeartbeats 4000000 in
theorem w8_growsOlder_b58 (C : cx_M p s m args meth c RX8 cX8_growsOlder none 5) (hK : va_K (dC, dI) vwCl [(cI, .int)] s) (hA : ∀ q, s.heap.size ≤ q → A q) {a : Nat → Nat} {X : Nat → Int32} {q : (Nat → Int32)} {rec58 : Int32 → Int32 → Int32 → (Nat → Int32) → Option (Nat → Int32)} (hrec58 : ∀ {v1 : Int32} {v2 : Int32} {v3 : Int32} {S : (Nat → Int32)} , rec58 v1 v2 v3 S = some q → ∀ {H : Heap} {locs : List Loc} {ls : Array Slot}, gd_W (dC, dI) A s (wd_M0 cI a X S) H locs → lv_has ls 5 [(0, .ref (a 0)), (1, .int v1), (2, .int v2), (3, .int v3)] → W p l e RM8_growsOlder s m args below meth c H locs 0 0 (MQ below (qv_W (dC, dI) [(cI, .int)] A (wd_M0 cI a X q)) args s 0 0 A) (F0 m 58 ls [])) {v1 : Int32} {v2 : Int32} {v3 : Int32} {S : (Nat → Int32)} (h : f8_growsOlder_b58 rec58 v1 v2 v3 S = some q) {H : Heap} {locs : List Loc} {ls : Array Slot} (hG : gd_W (dC, dI) A s (wd_M0 cI a X S) H locs) (hl : lv_has ls 5 [(0, .ref (a 0)), (1, .int v1), (2, .int v2), (3, .int v3)]) : W p l e RM8_growsOlder s m args below meth c H locs 0 0 (MQ below (qv_W (dC, dI) [(cI, .int)] A (wd_M0 cI a X q)) args s 0 0 A) (F0 m 58 ls []) := by
  unfold f8_growsOlder_b58 at h
  obtain ⟨hx, hb, hr, hts, hown, hlocks, hml⟩ := id C
  refine lv_iload_n hx hb dX8_growsOlder_58 rfl (lv_at hl 3 rfl) ?_
  refine lv_bipush (v := (-6 : Int32)) hx hb dX8_growsOlder_59 (by decide) ?_
  refine lv_icmp_eq (tgt := 137) hx hb dX8_growsOlder_61 (by decide) (fun hc => ?_) (fun hc => ?_)
  · have h := fo_it h hc
    obtain rfl := Option.some.inj h
    exact gr_v hx hb hr hlocks hK hG dX8_growsOlder_137
  · have h := fo_if h hc
    refine lv_iload_n hx hb dX8_growsOlder_64 rfl (lv_at hl 2 rfl) ?_
    refine lv_iconst (v := (1 : Int32)) hx hb dX8_growsOlder_65 (by decide) ?_
    refine lv_iload_n hx hb dX8_growsOlder_66 rfl (lv_at hl 3 rfl) ?_
    refine lv_ishl hx hb dX8_growsOlder_67 ?_
    refine lv_ior hx hb dX8_growsOlder_68 ?_
    refine lv_istore_n (lv' := [(2, .int (v2 ||| ((1 : Int32) <<< (v3 &&& 31)))), (0, .ref (a 0)), (1, .int v1), (3, .int v3)]) hx hb dX8_growsOlder_69 rfl hl (by decide) rfl (fun ls hl => ?_)
    refine lv_aload_n hx hb dX8_growsOlder_70 rfl (lv_at hl 1 rfl) ?_
    refine lv_iload_n hx hb dX8_growsOlder_71 rfl (lv_at hl 2 rfl) ?_
    obtain ⟨q72, hq72, h⟩ := fo_bd_some h
    refine gc_iV (b := a 0) (C := RX8) (As := [.int v1]) (rest := []) (wc := (wd_M0 cI a X S)) (w1 := (wd_M0 cI a X S)) (ci := 7) (q0 := 0) ⟨hx, hb, hml, hown, hts⟩ (c8_lowestOf l (a := a) (X := X) hq72) (cwV 1 hts gv_X8_100 rfl rfl rfl hd8_lowestOf ⟨Nat.le_of_ble_eq_true rfl, Nat.le_of_ble_eq_true rfl⟩) hK [0] rfl hA hG [0, 1] rfl rfl rfl rfl rfl rfl hl.1 rfl (Nat.le_of_ble_eq_true rfl) dX8_growsOlder_72 ⟨Nat.zero_le _, Nat.zero_le _⟩ (fun H locs hG9 => ?_)
    have hG : gd_W (dC, dI) A s (wd_M0 cI a X S) H locs := hG9
    refine lv_istore (lv' := [(4, .int q72), (2, .int (v2 ||| ((1 : Int32) <<< (v3 &&& 31)))), (0, .ref (a 0)), (1, .int v1), (3, .int v3)]) hx hb dX8_growsOlder_75 hl (by decide) rfl (fun ls hl => ?_)
    refine lv_aload_n hx hb dX8_growsOlder_77 rfl (lv_at hl 2 rfl) ?_
    refine lv_iload_n hx hb dX8_growsOlder_78 rfl (lv_at hl 3 rfl) ?_
    refine lv_iload_n hx hb dX8_growsOlder_79 rfl (lv_at hl 4 rfl) ?_
    obtain ⟨q80, hq80, h⟩ := fo_bd_some h
    refine gc_iV (b := a 0) (C := RX8) (As := [.int v1, .int v3]) (rest := []) (wc := (wd_M0 cI a X S)) (w1 := (wd_M0 cI a X S)) (ci := 7) (q0 := 0) ⟨hx, hb, hml, hown, hts⟩ (c8_ageOf l (a := a) (X := X) hq80) (cwV 2 hts gv_X8_65 rfl rfl rfl hd8_ageOf ⟨Nat.le_of_ble_eq_true rfl, Nat.le_of_ble_eq_true rfl⟩) hK [0] rfl hA hG [0, 1] rfl rfl rfl rfl rfl rfl hl.1 rfl (Nat.le_of_ble_eq_true rfl) dX8_growsOlder_80 ⟨Nat.zero_le _, Nat.zero_le _⟩ (fun H locs hG9 => ?_)
    have hG : gd_W (dC, dI) A s (wd_M0 cI a X S) H locs := hG9
    refine lv_aload_n hx hb dX8_growsOlder_83 rfl (lv_at hl 2 rfl) ?_
    refine va_get (D := (dC, dI)) (ci := 7) (v := .ref (a 1)) (C := RX8) (T := TX8) (N := 17) hx hb hts inlX8 hown hK hG.1 0 rfl rfl 0 (by decide) (hts (Cond.fieldLink RX8 7 "DiceRoadsModel" "state" "[I") wq_637) (fun _ h9 => h9) rfl dX8_growsOlder_84 ?_
    refine lv_iconst (v := (4 : Int32)) hx hb dX8_growsOlder_87 (by decide) ?_
    obtain ⟨hi, h⟩ := fo_ck_some h
    refine va_iald hx hb hK hG.1 1 0 rfl rfl hi dX8_growsOlder_88 ?_
    refine lv_icmp_le (tgt := 127) hx hb dX8_growsOlder_89 (by decide) (fun hc => ?_) (fun hc => ?_)
    · have h := fo_it h hc
      exact w8_growsOlder_b127 C hK hA (fun h => hrec58 h) h hG (lv_sub hl [2, 3, 1] rfl)
    · have h := fo_if h hc
      refine lv_iload hx hb dX8_growsOlder_92 (lv_at hl 0 rfl) ?_
      refine lv_bipush (v := (-6 : Int32)) hx hb dX8_growsOlder_94 (by decide) ?_
      refine lv_icmp_eq (tgt := 127) hx hb dX8_growsOlder_96 (by decide) (fun hc => ?_) (fun hc => ?_)
      · have h := fo_it h hc
        exact w8_growsOlder_b127 C hK hA (fun h => hrec58 h) h hG (lv_sub hl [2, 3, 1] rfl)
      · have h := fo_if h hc
        refine lv_aload_n hx hb dX8_growsOlder_99 rfl (lv_at hl 2 rfl) ?_
        refine lv_iload_n hx hb dX8_growsOlder_100 rfl (lv_at hl 3 rfl) ?_
        refine lv_iload hx hb dX8_growsOlder_101 (lv_at hl 0 rfl) ?_
        refine lv_iload_n hx hb dX8_growsOlder_103 rfl (lv_at hl 4 rfl) ?_
        obtain ⟨q104, hq104, h⟩ := fo_bd_some h
        refine gc_vV (b := a 0) (C := RX8) (As := [.int v1, .int q72, .int v3]) (rest := []) (wc := (wd_M0 cI a X S)) (w1 := (wd_M0 cI a X q104)) (ci := 7) (q0 := 0) ⟨hx, hb, hml, hown, hts⟩ (c8_hands l (a := a) (X := X) hq104) (cwV 3 hts gv_X8_103 rfl rfl rfl hd8_hands ⟨Nat.le_of_ble_eq_true rfl, Nat.le_of_ble_eq_true rfl⟩) hK [0] rfl hA hG [0, 1] rfl rfl rfl rfl rfl rfl hl.1 rfl (Nat.le_of_ble_eq_true rfl) dX8_growsOlder_104 ⟨Nat.zero_le _, Nat.zero_le _⟩ (fun H locs hG9 => ?_)
        have hG : gd_W (dC, dI) A s (wd_M0 cI a X q104) H locs := hG9
        refine lv_aload_n hx hb dX8_growsOlder_107 rfl (lv_at hl 2 rfl) ?_
        refine lv_iload_n hx hb dX8_growsOlder_108 rfl (lv_at hl 3 rfl) ?_
        refine lv_iload_n hx hb dX8_growsOlder_109 rfl (lv_at hl 4 rfl) ?_
        refine lv_aload_n hx hb dX8_growsOlder_110 rfl (lv_at hl 2 rfl) ?_
        refine lv_iload_n hx hb dX8_growsOlder_111 rfl (lv_at hl 3 rfl) ?_
        refine lv_iload_n hx hb dX8_growsOlder_112 rfl (lv_at hl 4 rfl) ?_
        obtain ⟨q113, hq113, h⟩ := fo_bd_some h
        refine gc_iV (b := a 0) (C := RX8) (As := [.int v1, .int v3]) (rest := [.int v3, .int v1, .ref (a 0)]) (wc := (wd_M0 cI a X q104)) (w1 := (wd_M0 cI a X q104)) (ci := 7) (q0 := 0) ⟨hx, hb, hml, hown, hts⟩ (c8_debtOf l (a := a) (X := X) hq113) (cwV 2 hts gv_X8_46 rfl rfl rfl hd8_debtOf ⟨Nat.le_of_ble_eq_true rfl, Nat.le_of_ble_eq_true rfl⟩) hK [0] rfl hA hG [0, 1] rfl rfl rfl rfl rfl rfl hl.1 rfl (Nat.le_of_ble_eq_true rfl) dX8_growsOlder_113 ⟨Nat.zero_le _, Nat.zero_le _⟩ (fun H locs hG9 => ?_)
        have hG : gd_W (dC, dI) A s (wd_M0 cI a X q104) H locs := hG9
        refine lv_ineg hx hb dX8_growsOlder_116 ?_
        obtain ⟨q117, hq117, h⟩ := fo_bd_some h
        refine gc_vV (b := a 0) (C := RX8) (As := [.int v1, .int v3, .int (-q113)]) (rest := []) (wc := (wd_M0 cI a X q104)) (w1 := (wd_M0 cI a X q117)) (ci := 7) (q0 := 0) ⟨hx, hb, hml, hown, hts⟩ (c8_addsDebt l (a := a) (X := X) hq117) (cwV 3 hts gv_X8_79 rfl rfl rfl hd8_addsDebt ⟨Nat.le_of_ble_eq_true rfl, Nat.le_of_ble_eq_true rfl⟩) hK [0] rfl hA hG [0, 1] rfl rfl rfl rfl rfl rfl hl.1 rfl (Nat.le_of_ble_eq_true rfl) dX8_growsOlder_117 ⟨Nat.zero_le _, Nat.zero_le _⟩ (fun H locs hG9 => ?_)
        have hG : gd_W (dC, dI) A s (wd_M0 cI a X q117) H locs := hG9
        refine lv_aload_n hx hb dX8_growsOlder_120 rfl (lv_at hl 2 rfl) ?_
        refine lv_iload_n hx hb dX8_growsOlder_121 rfl (lv_at hl 3 rfl) ?_
        refine lv_iconst (v := (5 : Int32)) hx hb dX8_growsOlder_122 (by decide) ?_
        refine lv_iconst (v := (1 : Int32)) hx hb dX8_growsOlder_123 (by decide) ?_
        obtain ⟨q124, hq124, h⟩ := fo_bd_some h
        refine gc_vV (b := a 0) (C := RX8) (As := [.int v1, .int (5 : Int32), .int (1 : Int32)]) (rest := []) (wc := (wd_M0 cI a X q117)) (w1 := (wd_M0 cI a X q124)) (ci := 7) (q0 := 0) ⟨hx, hb, hml, hown, hts⟩ (c8_adds l (a := a) (X := X) hq124) (cwV 3 hts gv_X8_68 rfl rfl rfl hd8_adds ⟨Nat.le_of_ble_eq_true rfl, Nat.le_of_ble_eq_true rfl⟩) hK [0] rfl hA hG [0, 1] rfl rfl rfl rfl rfl rfl hl.1 rfl (Nat.le_of_ble_eq_true rfl) dX8_growsOlder_124 ⟨Nat.zero_le _, Nat.zero_le _⟩ (fun H locs hG9 => ?_)
        have hG : gd_W (dC, dI) A s (wd_M0 cI a X q124) H locs := hG9
        exact w8_growsOlder_b127 C hK hA (fun h => hrec58 h) h hG (lv_sub hl [2, 3, 1] rfl)
set_option maxRecDepth 100000 in
set_option maxHeartbeats 4000000 in
theorem w8_growsOlder_L58 (C : cx_M p s m args meth c RX8 cX8_growsOlder none 5) (hK : va_K (dC, dI) vwCl [(cI, .int)] s) (hA : ∀ q, s.heap.size ≤ q → A q) {a : Nat → Nat} {X : Nat → Int32} {q : (Nat → Int32)} : ∀ (n : Nat) {v1 : Int32} {v2 : Int32} {v3 : Int32} {S : (Nat → Int32)}, f8_growsOlder_L58 n v1 v2 v3 S = some q → ∀ {H : Heap} {locs : List Loc} {ls : Array Slot}, gd_W (dC, dI) A s (wd_M0 cI a X S) H locs → lv_has ls 5 [(0, .ref (a 0)), (1, .int v1), (2, .int v2), (3, .int v3)] → W p l e RM8_growsOlder s m args below meth c H locs 0 0 (MQ below (qv_W (dC, dI) [(cI, .int)] A (wd_M0 cI a X q)) args s 0 0 A) (F0 m 58 ls []) := by
  intro n
  induction n with
  | zero => intro _ _ _ _ h; exact nomatch h
  | succ n ih => intro v1 v2 v3 S h H locs ls hG hl; exact w8_growsOlder_b58 C hK hA (fun h => ih h) (show f8_growsOlder_b58 (f8_growsOlder_L58 n) v1 v2 v3 S = some q from h) hG hl
set_option maxRecDepth 100000 in
set_option maxHeartbeats 4000000 in
theorem w8_growsOlder_b41 (C : cx_M p s m args meth c RX8 cX8_growsOlder none 5) (hK : va_K (dC, dI) vwCl [(cI, .int)] s) (hA : ∀ q, s.heap.size ≤ q → A q) {a : Nat → Nat} {X : Nat → Int32} {q : (Nat → Int32)} {rec2 : Int32 → Int32 → (Nat → Int32) → Option (Nat → Int32)} (hrec2 : ∀ {v1 : Int32} {v2 : Int32} {S : (Nat → Int32)} , rec2 v1 v2 S = some q → ∀ {H : Heap} {locs : List Loc} {ls : Array Slot}, gd_W (dC, dI) A s (wd_M0 cI a X S) H locs → lv_has ls 5 [(0, .ref (a 0)), (1, .int v1), (2, .int v2)] → W p l e RM8_growsOlder s m args below meth c H locs 0 0 (MQ below (qv_W (dC, dI) [(cI, .int)] A (wd_M0 cI a X q)) args s 0 0 A) (F0 m 2 ls [])) {v1 : Int32} {v2 : Int32} {t1 : Int32} {t2 : Int32} {t3 : Int32} {S : (Nat → Int32)} (h : f8_growsOlder_b41 rec2 v1 v2 t1 t2 t3 S = some q) {H : Heap} {locs : List Loc} {ls : Array Slot} (hG : gd_W (dC, dI) A s (wd_M0 cI a X S) H locs) (hl : lv_has ls 5 [(0, .ref (a 0)), (1, .int v1), (2, .int v2)]) : W p l e RM8_growsOlder s m args below meth c H locs 0 0 (MQ below (qv_W (dC, dI) [(cI, .int)] A (wd_M0 cI a X q)) args s 0 0 A) (F0 m 41 ls [.int t3, .int t2, .int t1, .ref (a 1)]) := by
  unfold f8_growsOlder_b41 at h
  obtain ⟨hx, hb, hr, hts, hown, hlocks, hml⟩ := id C
  refine lv_iadd hx hb dX8_growsOlder_41 ?_
  obtain ⟨hi, h⟩ := fo_ck_some h
  refine va_iast hx hb hK hG.1 hG.2.1 hG.2.2 1 0 rfl rfl hi dX8_growsOlder_42 (fun H locs hP9 hD9 hS9 => ?_)
  have hG : gd_W (dC, dI) A s (wd_M0 cI a X (upd S t1.toNatClampNeg (t2 + t3))) H locs := ⟨hP9, hD9, hS9⟩
  refine lv_iinc (v := (v2 + (1 : Int32))) (lv' := [(2, .int (v2 + (1 : Int32))), (0, .ref (a 0)), (1, .int v1)]) hx hb dX8_growsOlder_43 hl (k := 2) rfl rfl (by decide) rfl (fun ls hl => ?_)
  refine lv_goto (tgt := 2) hx hb dX8_growsOlder_46 (by decide) ?_
  exact hrec2 h hG (lv_sub hl [1, 2, 0] rfl)
set_option maxRecDepth 100000 in
set_option maxHeartbeats 4000000 in
theorem w8_growsOlder_b2 (C : cx_M p s m args meth c RX8 cX8_growsOlder none 5) (hK : va_K (dC, dI) vwCl [(cI, .int)] s) (hA : ∀ q, s.heap.size ≤ q → A q) {a : Nat → Nat} {X : Nat → Int32} {q : (Nat → Int32)} {rec2 : Int32 → Int32 → (Nat → Int32) → Option (Nat → Int32)} (hrec2 : ∀ {v1 : Int32} {v2 : Int32} {S : (Nat → Int32)} , rec2 v1 v2 S = some q → ∀ {H : Heap} {locs : List Loc} {ls : Array Slot}, gd_W (dC, dI) A s (wd_M0 cI a X S) H locs → lv_has ls 5 [(0, .ref (a 0)), (1, .int v1), (2, .int v2)] → W p l e RM8_growsOlder s m args below meth c H locs 0 0 (MQ below (qv_W (dC, dI) [(cI, .int)] A (wd_M0 cI a X q)) args s 0 0 A) (F0 m 2 ls [])) {v1 : Int32} {v2 : Int32} {S : (Nat → Int32)} (h : f8_growsOlder_b2 rec2 v1 v2 S = some q) {H : Heap} {locs : List Loc} {ls : Array Slot} (hG : gd_W (dC, dI) A s (wd_M0 cI a X S) H locs) (hl : lv_has ls 5 [(0, .ref (a 0)), (1, .int v1), (2, .int v2)]) : W p l e RM8_growsOlder s m args below meth c H locs 0 0 (MQ below (qv_W (dC, dI) [(cI, .int)] A (wd_M0 cI a X q)) args s 0 0 A) (F0 m 2 ls []) := by
  unfold f8_growsOlder_b2 at h
  obtain ⟨hx, hb, hr, hts, hown, hlocks, hml⟩ := id C
  refine lv_iload_n hx hb dX8_growsOlder_2 rfl (lv_at hl 2 rfl) ?_
  refine lv_aload_n hx hb dX8_growsOlder_3 rfl (lv_at hl 0 rfl) ?_
  refine va_get (D := (dC, dI)) (ci := 7) (v := .ref (a 1)) (C := RX8) (T := TX8) (N := 17) hx hb hts inlX8 hown hK hG.1 0 rfl rfl 0 (by decide) (hts (Cond.fieldLink RX8 7 "DiceRoadsModel" "state" "[I") wq_637) (fun _ h9 => h9) rfl dX8_growsOlder_4 ?_
  refine lv_bipush (v := (6 : Int32)) hx hb dX8_growsOlder_7 (by decide) ?_
  obtain ⟨hi, h⟩ := fo_ck_some h
  refine va_iald hx hb hK hG.1 1 0 rfl rfl hi dX8_growsOlder_9 ?_
  refine lv_icmp_ge (tgt := 49) hx hb dX8_growsOlder_10 (by decide) (fun hc => ?_) (fun hc => ?_)
  · have h := fo_it h hc
    refine lv_iconst (v := (0 : Int32)) hx hb dX8_growsOlder_49 (by decide) ?_
    refine lv_istore_n (lv' := [(2, .int (0 : Int32)), (0, .ref (a 0)), (1, .int v1)]) hx hb dX8_growsOlder_50 rfl hl (by decide) rfl (fun ls hl => ?_)
    refine lv_aload_n hx hb dX8_growsOlder_51 rfl (lv_at hl 1 rfl) ?_
    refine lv_iload_n hx hb dX8_growsOlder_52 rfl (lv_at hl 2 rfl) ?_
    refine lv_iload_n hx hb dX8_growsOlder_53 rfl (lv_at hl 0 rfl) ?_
    obtain ⟨q54, hq54, h⟩ := fo_bd_some h
    refine gc_iV (b := a 0) (C := RX8) (As := [.int v1, .int (0 : Int32)]) (rest := []) (wc := (wd_M0 cI a X S)) (w1 := (wd_M0 cI a X S)) (ci := 7) (q0 := 0) ⟨hx, hb, hml, hown, hts⟩ (c8_oldest l (a := a) (X := X) hq54) (cwV 2 hts gv_X8_72 rfl rfl rfl hd8_oldest ⟨Nat.le_of_ble_eq_true rfl, Nat.le_of_ble_eq_true rfl⟩) hK [0] rfl hA hG [0, 1] rfl rfl rfl rfl rfl rfl hl.1 rfl (Nat.le_of_ble_eq_true rfl) dX8_growsOlder_54 ⟨Nat.zero_le _, Nat.zero_le _⟩ (fun H locs hG9 => ?_)
    have hG : gd_W (dC, dI) A s (wd_M0 cI a X S) H locs := hG9
    refine lv_istore_n (lv' := [(3, .int q54), (2, .int (0 : Int32)), (0, .ref (a 0)), (1, .int v1)]) hx hb dX8_growsOlder_57 rfl hl (by decide) rfl (fun ls hl => ?_)
    exact w8_growsOlder_L58 C hK hA fo_fu h hG (lv_sub hl [2, 3, 1, 0] rfl)
  · have h := fo_if h hc
    refine lv_aload_n hx hb dX8_growsOlder_13 rfl (lv_at hl 0 rfl) ?_
    refine va_get (D := (dC, dI)) (ci := 7) (v := .ref (a 1)) (C := RX8) (T := TX8) (N := 17) hx hb hts inlX8 hown hK hG.1 0 rfl rfl 0 (by decide) (hts (Cond.fieldLink RX8 7 "DiceRoadsModel" "state" "[I") wq_637) (fun _ h9 => h9) rfl dX8_growsOlder_14 ?_
    refine lv_bipush (v := (91 : Int32)) hx hb dX8_growsOlder_17 (by decide) ?_
    refine lv_iconst (v := (4 : Int32)) hx hb dX8_growsOlder_19 (by decide) ?_
    refine lv_iload_n hx hb dX8_growsOlder_20 rfl (lv_at hl 1 rfl) ?_
    refine lv_imul hx hb dX8_growsOlder_21 ?_
    refine lv_iadd hx hb dX8_growsOlder_22 ?_
    refine lv_iload_n hx hb dX8_growsOlder_23 rfl (lv_at hl 2 rfl) ?_
    refine lv_iadd hx hb dX8_growsOlder_24 ?_
    refine lv_dup2_11 hx hb dX8_growsOlder_25 rfl rfl ?_
    obtain ⟨hi, h⟩ := fo_ck_some h
    refine va_iald hx hb hK hG.1 1 0 rfl rfl hi dX8_growsOlder_26 ?_
    refine lv_aload_n hx hb dX8_growsOlder_27 rfl (lv_at hl 0 rfl) ?_
    refine lv_iload_n hx hb dX8_growsOlder_28 rfl (lv_at hl 1 rfl) ?_
    refine lv_iload_n hx hb dX8_growsOlder_29 rfl (lv_at hl 2 rfl) ?_
    obtain ⟨q30, hq30, h⟩ := fo_bd_some h
    refine gc_iV (b := a 0) (C := RX8) (As := [.int v1, .int v2]) (rest := [.int (S (((91 : Int32) + ((4 : Int32) * v1)) + v2).toNatClampNeg), .int (((91 : Int32) + ((4 : Int32) * v1)) + v2), .ref (a 1)]) (wc := (wd_M0 cI a X S)) (w1 := (wd_M0 cI a X S)) (ci := 7) (q0 := 0) ⟨hx, hb, hml, hown, hts⟩ (c8_debtOf l (a := a) (X := X) hq30) (cwV 2 hts gv_X8_46 rfl rfl rfl hd8_debtOf ⟨Nat.le_of_ble_eq_true rfl, Nat.le_of_ble_eq_true rfl⟩) hK [0] rfl hA hG [0, 1] rfl rfl rfl rfl rfl rfl hl.1 rfl (Nat.le_of_ble_eq_true rfl) dX8_growsOlder_30 ⟨Nat.zero_le _, Nat.zero_le _⟩ (fun H locs hG9 => ?_)
    have hG : gd_W (dC, dI) A s (wd_M0 cI a X S) H locs := hG9
    refine lv_if_le (tgt := 40) hx hb dX8_growsOlder_33 (by decide) (fun hc => ?_) (fun hc => ?_)
    · have h := fo_it h hc
      refine lv_iconst (v := (0 : Int32)) hx hb dX8_growsOlder_40 (by decide) ?_
      exact w8_growsOlder_b41 C hK hA (fun h => hrec2 h) h hG (lv_sub hl [0, 1, 2] rfl)
    · have h := fo_if h hc
      refine lv_iconst (v := (1 : Int32)) hx hb dX8_growsOlder_36 (by decide) ?_
      refine lv_goto (tgt := 41) hx hb dX8_growsOlder_37 (by decide) ?_
      exact w8_growsOlder_b41 C hK hA (fun h => hrec2 h) h hG (lv_sub hl [0, 1, 2] rfl)
set_option maxRecDepth 100000 in
set_option maxHeartbeats 4000000 in
theorem w8_growsOlder_L2 (C : cx_M p s m args meth c RX8 cX8_growsOlder none 5) (hK : va_K (dC, dI) vwCl [(cI, .int)] s) (hA : ∀ q, s.heap.size ≤ q → A q) {a : Nat → Nat} {X : Nat → Int32} {q : (Nat → Int32)} : ∀ (n : Nat) {v1 : Int32} {v2 : Int32} {S : (Nat → Int32)}, f8_growsOlder_L2 n v1 v2 S = some q → ∀ {H : Heap} {locs : List Loc} {ls : Array Slot}, gd_W (dC, dI) A s (wd_M0 cI a X S) H locs → lv_has ls 5 [(0, .ref (a 0)), (1, .int v1), (2, .int v2)] → W p l e RM8_growsOlder s m args below meth c H locs 0 0 (MQ below (qv_W (dC, dI) [(cI, .int)] A (wd_M0 cI a X q)) args s 0 0 A) (F0 m 2 ls []) := by
  intro n
  induction n with
  | zero => intro _ _ _ h; exact nomatch h
  | succ n ih => intro v1 v2 S h H locs ls hG hl; exact w8_growsOlder_b2 C hK hA (fun h => ih h) (show f8_growsOlder_b2 (f8_growsOlder_L2 n) v1 v2 S = some q from h) hG hl
set_option maxRecDepth 100000 in
set_option maxHeartbeats 4000000 in
theorem w8_growsOlder (C : cx_M p s m args meth c RX8 cX8_growsOlder none 5) (hK : va_K (dC, dI) vwCl [(cI, .int)] s) (hA : ∀ q, s.heap.size ≤ q → A q) {a : Nat → Nat} {X : Nat → Int32} {q : (Nat → Int32)} {v1 : Int32} {S : (Nat → Int32)} (h : f8_growsOlder v1 S = some q) {H : Heap} {locs : List Loc} {ls : Array Slot} (hG : gd_W (dC, dI) A s (wd_M0 cI a X S) H locs) (hl : lv_has ls 5 [(0, .ref (a 0)), (1, .int v1)]) : W p l e RM8_growsOlder s m args below meth c H locs 0 0 (MQ below (qv_W (dC, dI) [(cI, .int)] A (wd_M0 cI a X q)) args s 0 0 A) (F0 m 0 ls []) := by
  unfold f8_growsOlder at h
  obtain ⟨hx, hb, hr, hts, hown, hlocks, hml⟩ := id C
  refine lv_iconst (v := (0 : Int32)) hx hb dX8_growsOlder_0 (by decide) ?_
  refine lv_istore_n (lv' := [(2, .int (0 : Int32)), (0, .ref (a 0)), (1, .int v1)]) hx hb dX8_growsOlder_1 rfl hl (by decide) rfl (fun ls hl => ?_)
  exact w8_growsOlder_L2 C hK hA fo_fu h hG (lv_sub hl [1, 2, 0] rfl)
set_option maxRecDepth 100000 in
set_option maxHeartbeats 4000000 in
theorem c8_growsOlder (l : Launch) {dC : Nat → ClassId} {dI : Nat → Nat → Nat} {cI : ClassId} {a : Nat → Nat} {X : Nat → Int32} {v1 : Int32} {S : (Nat → Int32)} {q : (Nat → Int32)} (h : f8_growsOlder v1 S = some q) : mv_M l yX8_growsOlder wm8_growsOlder RM8_growsOlder (dC, dI) [(cI, .int)] [.ref (a 0), .int v1] (wd_M0 cI a X S) (wd_M0 cI a X q) := by
  intro sz
  refine Met.ofW (cc := cX8_growsOlder) (maxL := 5) (ret := none) (by decide) rfl ?_
  intro p e s m args below meth c s₁ B hml hv
  obtain ⟨rfl, hsz, hP, hK, hD0⟩ := hv
  subst hsz
  have hl := lv_entry ([.ref (a 0), .int v1] : List Value) (n := 5) (Nat.le_of_ble_eq_true rfl)
  rw [lg_entry_eq]
  generalize (lg_sl ([.ref (a 0), .int v1] : List Value) ++ List.replicate (5 - (lg_sl ([.ref (a 0), .int v1] : List Value)).length) Slot.unset).toArray = ls at hl ⊢
  exact w8_growsOlder (a := a) ⟨B.exec, B.bytes, B.returns, fun w hw => atoms_spec (ws := wm8_growsOlder) B.pre w (List.mem_cons_of_mem _ hw), findClass_of_methodNamed B.named, B.notSynchronized, hml⟩ hK (fun _ h => Or.inr h) h ⟨hP, hD0.self, va_S.rf⟩ hl
end
/-! ## DiceRoadsModel.turn()V -/
section
variable {p : Program} {l : Launch} {e : Env} {s : State} {m : MethodId} {args : Array Value} {below : List Frame} {meth : Method} {c : Code} {dC : Nat → ClassId} {dI : Nat → Nat → Nat} {cI : ClassId} {A : Nat → Prop}
set_option maxRecDepth 100000 in
set_option maxHeartbeats 4000000 in
theorem w8_turn (C : cx_M p s m args meth c RX8 cX8_turn none 2) (hK : va_K (dC, dI) vwCl [(cI, .int)] s) (hA : ∀ q, s.heap.size ≤ q → A q) {a : Nat → Nat} {X : Nat → Int32} {q : (Nat → Int32)} {S : (Nat → Int32)} (h : f8_turn S = some q) {H : Heap} {locs : List Loc} {ls : Array Slot} (hG : gd_W (dC, dI) A s (wd_M0 cI a X S) H locs) (hl : lv_has ls 2 [(0, .ref (a 0))]) : W p l e RM8_turn s m args below meth c H locs 0 0 (MQ below (qv_W (dC, dI) [(cI, .int)] A (wd_M0 cI a X q)) args s 0 0 A) (F0 m 0 ls []) := by
  unfold f8_turn at h
  obtain ⟨hx, hb, hr, hts, hown, hlocks, hml⟩ := id C
  refine lv_aload_n hx hb dX8_turn_0 rfl (lv_at hl 0 rfl) ?_
  refine va_get (D := (dC, dI)) (ci := 7) (v := .ref (a 1)) (C := RX8) (T := TX8) (N := 17) hx hb hts inlX8 hown hK hG.1 0 rfl rfl 0 (by decide) (hts (Cond.fieldLink RX8 7 "DiceRoadsModel" "state" "[I") wq_637) (fun _ h9 => h9) rfl dX8_turn_1 ?_
  refine lv_bipush (v := (7 : Int32)) hx hb dX8_turn_4 (by decide) ?_
  obtain ⟨hi, h⟩ := fo_ck_some h
  refine va_iald hx hb hK hG.1 1 0 rfl rfl hi dX8_turn_6 ?_
  refine lv_istore_n (lv' := [(1, .int (S (7 : Int32).toNatClampNeg)), (0, .ref (a 0))]) hx hb dX8_turn_7 rfl hl (by decide) rfl (fun ls hl => ?_)
  refine lv_aload_n hx hb dX8_turn_8 rfl (lv_at hl 1 rfl) ?_
  refine lv_iload_n hx hb dX8_turn_9 rfl (lv_at hl 0 rfl) ?_
  obtain ⟨q10, hq10, h⟩ := fo_bd_some h
  refine gc_vV (b := a 0) (C := RX8) (As := [.int (S (7 : Int32).toNatClampNeg)]) (rest := []) (wc := (wd_M0 cI a X S)) (w1 := (wd_M0 cI a X q10)) (ci := 7) (q0 := 0) ⟨hx, hb, hml, hown, hts⟩ (c8_paysDebts l (a := a) (X := X) hq10) (cwV 1 hts gv_X8_106 rfl rfl rfl hd8_paysDebts ⟨Nat.le_of_ble_eq_true rfl, Nat.le_of_ble_eq_true rfl⟩) hK [0] rfl hA hG [0, 1] rfl rfl rfl rfl rfl rfl hl.1 rfl (Nat.le_of_ble_eq_true rfl) dX8_turn_10 ⟨Nat.zero_le _, Nat.zero_le _⟩ (fun H locs hG9 => ?_)
  have hG : gd_W (dC, dI) A s (wd_M0 cI a X q10) H locs := hG9
  refine lv_aload_n hx hb dX8_turn_13 rfl (lv_at hl 1 rfl) ?_
  refine lv_iload_n hx hb dX8_turn_14 rfl (lv_at hl 0 rfl) ?_
  obtain ⟨q15, hq15, h⟩ := fo_bd_some h
  refine gc_vV (b := a 0) (C := RX8) (As := [.int (S (7 : Int32).toNatClampNeg)]) (rest := []) (wc := (wd_M0 cI a X q10)) (w1 := (wd_M0 cI a X q15)) (ci := 7) (q0 := 0) ⟨hx, hb, hml, hown, hts⟩ (c8_goes l (a := a) (X := X) hq15) (cwV 1 hts gv_X8_110 rfl rfl rfl hd8_goes ⟨Nat.le_of_ble_eq_true rfl, Nat.le_of_ble_eq_true rfl⟩) hK [0] rfl hA hG [0, 1] rfl rfl rfl rfl rfl rfl hl.1 rfl (Nat.le_of_ble_eq_true rfl) dX8_turn_15 ⟨Nat.zero_le _, Nat.zero_le _⟩ (fun H locs hG9 => ?_)
  have hG : gd_W (dC, dI) A s (wd_M0 cI a X q15) H locs := hG9
  refine lv_aload_n hx hb dX8_turn_18 rfl (lv_at hl 1 rfl) ?_
  refine lv_iload_n hx hb dX8_turn_19 rfl (lv_at hl 0 rfl) ?_
  refine lv_aload_n hx hb dX8_turn_20 rfl (lv_at hl 1 rfl) ?_
  refine lv_iload_n hx hb dX8_turn_21 rfl (lv_at hl 0 rfl) ?_
  refine lv_iconst (v := (1 : Int32)) hx hb dX8_turn_22 (by decide) ?_
  obtain ⟨q23, hq23, h⟩ := fo_bd_some h
  refine gc_iV (b := a 0) (C := RX8) (As := [.int (S (7 : Int32).toNatClampNeg), .int (1 : Int32)]) (rest := [.int (S (7 : Int32).toNatClampNeg), .ref (a 0)]) (wc := (wd_M0 cI a X q15)) (w1 := (wd_M0 cI a X q15)) (ci := 7) (q0 := 0) ⟨hx, hb, hml, hown, hts⟩ (c8_playerPart l (a := a) (X := X) hq23) (cwV 2 hts gv_X8_54 rfl rfl rfl hd8_playerPart ⟨Nat.le_of_ble_eq_true rfl, Nat.le_of_ble_eq_true rfl⟩) hK [0] rfl hA hG [0, 1] rfl rfl rfl rfl rfl rfl hl.1 rfl (Nat.le_of_ble_eq_true rfl) dX8_turn_23 ⟨Nat.zero_le _, Nat.zero_le _⟩ (fun H locs hG9 => ?_)
  have hG : gd_W (dC, dI) A s (wd_M0 cI a X q15) H locs := hG9
  obtain ⟨q26, hq26, h⟩ := fo_bd_some h
  refine gc_vV (b := a 0) (C := RX8) (As := [.int (S (7 : Int32).toNatClampNeg), .int q23]) (rest := []) (wc := (wd_M0 cI a X q15)) (w1 := (wd_M0 cI a X q26)) (ci := 7) (q0 := 0) ⟨hx, hb, hml, hown, hts⟩ (c8_arrives l (a := a) (X := X) hq26) (cwV 2 hts gv_X8_113 rfl rfl rfl hd8_arrives ⟨Nat.le_of_ble_eq_true rfl, Nat.le_of_ble_eq_true rfl⟩) hK [0] rfl hA hG [0, 1] rfl rfl rfl rfl rfl rfl hl.1 rfl (Nat.le_of_ble_eq_true rfl) dX8_turn_26 ⟨Nat.zero_le _, Nat.zero_le _⟩ (fun H locs hG9 => ?_)
  have hG : gd_W (dC, dI) A s (wd_M0 cI a X q26) H locs := hG9
  refine lv_aload_n hx hb dX8_turn_29 rfl (lv_at hl 1 rfl) ?_
  refine lv_iload_n hx hb dX8_turn_30 rfl (lv_at hl 0 rfl) ?_
  obtain ⟨q31, hq31, h⟩ := fo_bd_some h
  refine gc_vV (b := a 0) (C := RX8) (As := [.int (S (7 : Int32).toNatClampNeg)]) (rest := []) (wc := (wd_M0 cI a X q26)) (w1 := (wd_M0 cI a X q31)) (ci := 7) (q0 := 0) ⟨hx, hb, hml, hown, hts⟩ (c8_growsOlder l (a := a) (X := X) hq31) (cwV 1 hts gv_X8_116 rfl rfl rfl hd8_growsOlder ⟨Nat.le_of_ble_eq_true rfl, Nat.le_of_ble_eq_true rfl⟩) hK [0] rfl hA hG [0, 1] rfl rfl rfl rfl rfl rfl hl.1 rfl (Nat.le_of_ble_eq_true rfl) dX8_turn_31 ⟨Nat.zero_le _, Nat.zero_le _⟩ (fun H locs hG9 => ?_)
  have hG : gd_W (dC, dI) A s (wd_M0 cI a X q31) H locs := hG9
  refine lv_aload_n hx hb dX8_turn_34 rfl (lv_at hl 1 rfl) ?_
  refine lv_iload_n hx hb dX8_turn_35 rfl (lv_at hl 0 rfl) ?_
  refine lv_iconst (v := (4 : Int32)) hx hb dX8_turn_36 (by decide) ?_
  refine lv_iconst (v := (1 : Int32)) hx hb dX8_turn_37 (by decide) ?_
  obtain ⟨q38, hq38, h⟩ := fo_bd_some h
  refine gc_vV (b := a 0) (C := RX8) (As := [.int (S (7 : Int32).toNatClampNeg), .int (4 : Int32), .int (1 : Int32)]) (rest := []) (wc := (wd_M0 cI a X q31)) (w1 := (wd_M0 cI a X q38)) (ci := 7) (q0 := 0) ⟨hx, hb, hml, hown, hts⟩ (c8_adds l (a := a) (X := X) hq38) (cwV 3 hts gv_X8_68 rfl rfl rfl hd8_adds ⟨Nat.le_of_ble_eq_true rfl, Nat.le_of_ble_eq_true rfl⟩) hK [0] rfl hA hG [0, 1] rfl rfl rfl rfl rfl rfl hl.1 rfl (Nat.le_of_ble_eq_true rfl) dX8_turn_38 ⟨Nat.zero_le _, Nat.zero_le _⟩ (fun H locs hG9 => ?_)
  have hG : gd_W (dC, dI) A s (wd_M0 cI a X q38) H locs := hG9
  refine lv_aload_n hx hb dX8_turn_41 rfl (lv_at hl 1 rfl) ?_
  refine va_get (D := (dC, dI)) (ci := 7) (v := .ref (a 1)) (C := RX8) (T := TX8) (N := 17) hx hb hts inlX8 hown hK hG.1 0 rfl rfl 0 (by decide) (hts (Cond.fieldLink RX8 7 "DiceRoadsModel" "state" "[I") wq_637) (fun _ h9 => h9) rfl dX8_turn_42 ?_
  refine lv_bipush (v := (7 : Int32)) hx hb dX8_turn_45 (by decide) ?_
  refine lv_iload_n hx hb dX8_turn_47 rfl (lv_at hl 0 rfl) ?_
  refine lv_iconst (v := (1 : Int32)) hx hb dX8_turn_48 (by decide) ?_
  refine lv_iadd hx hb dX8_turn_49 ?_
  refine lv_aload_n hx hb dX8_turn_50 rfl (lv_at hl 1 rfl) ?_
  refine va_get (D := (dC, dI)) (ci := 7) (v := .ref (a 1)) (C := RX8) (T := TX8) (N := 17) hx hb hts inlX8 hown hK hG.1 0 rfl rfl 0 (by decide) (hts (Cond.fieldLink RX8 7 "DiceRoadsModel" "state" "[I") wq_637) (fun _ h9 => h9) rfl dX8_turn_51 ?_
  refine lv_bipush (v := (6 : Int32)) hx hb dX8_turn_54 (by decide) ?_
  obtain ⟨hi, h⟩ := fo_ck_some h
  refine va_iald hx hb hK hG.1 1 0 rfl rfl hi dX8_turn_56 ?_
  obtain ⟨hz, h⟩ := fo_nz_some h
  refine lv_irem hx hb dX8_turn_57 hz ?_
  obtain ⟨hi, h⟩ := fo_ck_some h
  refine va_iast hx hb hK hG.1 hG.2.1 hG.2.2 1 0 rfl rfl hi dX8_turn_58 (fun H locs hP9 hD9 hS9 => ?_)
  have hG : gd_W (dC, dI) A s (wd_M0 cI a X (upd q38 (7 : Int32).toNatClampNeg (((S (7 : Int32).toNatClampNeg) + (1 : Int32)) - ((S (7 : Int32).toNatClampNeg) + (1 : Int32)) / (q38 (6 : Int32).toNatClampNeg) * (q38 (6 : Int32).toNatClampNeg)))) H locs := ⟨hP9, hD9, hS9⟩
  refine lv_aload_n hx hb dX8_turn_59 rfl (lv_at hl 1 rfl) ?_
  refine va_get (D := (dC, dI)) (ci := 7) (v := .ref (a 1)) (C := RX8) (T := TX8) (N := 17) hx hb hts inlX8 hown hK hG.1 0 rfl rfl 0 (by decide) (hts (Cond.fieldLink RX8 7 "DiceRoadsModel" "state" "[I") wq_637) (fun _ h9 => h9) rfl dX8_turn_60 ?_
  refine lv_iconst (v := (5 : Int32)) hx hb dX8_turn_63 (by decide) ?_
  refine lv_dup2_11 hx hb dX8_turn_64 rfl rfl ?_
  obtain ⟨hi, h⟩ := fo_ck_some h
  refine va_iald hx hb hK hG.1 1 0 rfl rfl hi dX8_turn_65 ?_
  refine lv_iconst (v := (1 : Int32)) hx hb dX8_turn_66 (by decide) ?_
  refine lv_iadd hx hb dX8_turn_67 ?_
  obtain ⟨hi, h⟩ := fo_ck_some h
  refine va_iast hx hb hK hG.1 hG.2.1 hG.2.2 1 0 rfl rfl hi dX8_turn_68 (fun H locs hP9 hD9 hS9 => ?_)
  have hG : gd_W (dC, dI) A s (wd_M0 cI a X (upd (upd q38 (7 : Int32).toNatClampNeg (((S (7 : Int32).toNatClampNeg) + (1 : Int32)) - ((S (7 : Int32).toNatClampNeg) + (1 : Int32)) / (q38 (6 : Int32).toNatClampNeg) * (q38 (6 : Int32).toNatClampNeg))) (5 : Int32).toNatClampNeg (((upd q38 (7 : Int32).toNatClampNeg (((S (7 : Int32).toNatClampNeg) + (1 : Int32)) - ((S (7 : Int32).toNatClampNeg) + (1 : Int32)) / (q38 (6 : Int32).toNatClampNeg) * (q38 (6 : Int32).toNatClampNeg))) (5 : Int32).toNatClampNeg) + (1 : Int32)))) H locs := ⟨hP9, hD9, hS9⟩
  obtain rfl := Option.some.inj h
  exact gr_v hx hb hr hlocks hK hG dX8_turn_69
set_option maxRecDepth 100000 in
set_option maxHeartbeats 4000000 in
theorem c8_turn (l : Launch) {dC : Nat → ClassId} {dI : Nat → Nat → Nat} {cI : ClassId} {a : Nat → Nat} {X : Nat → Int32} {S : (Nat → Int32)} {q : (Nat → Int32)} (h : f8_turn S = some q) : mv_M l yX8_turn wm8_turn RM8_turn (dC, dI) [(cI, .int)] [.ref (a 0)] (wd_M0 cI a X S) (wd_M0 cI a X q) := by
  intro sz
  refine Met.ofW (cc := cX8_turn) (maxL := 2) (ret := none) (by decide) rfl ?_
  intro p e s m args below meth c s₁ B hml hv
  obtain ⟨rfl, hsz, hP, hK, hD0⟩ := hv
  subst hsz
  have hl := lv_entry ([.ref (a 0)] : List Value) (n := 2) (Nat.le_of_ble_eq_true rfl)
  rw [lg_entry_eq]
  generalize (lg_sl ([.ref (a 0)] : List Value) ++ List.replicate (2 - (lg_sl ([.ref (a 0)] : List Value)).length) Slot.unset).toArray = ls at hl ⊢
  exact w8_turn (a := a) ⟨B.exec, B.bytes, B.returns, fun w hw => atoms_spec (ws := wm8_turn) B.pre w (List.mem_cons_of_mem _ hw), findClass_of_methodNamed B.named, B.notSynchronized, hml⟩ hK (fun _ h => Or.inr h) h ⟨hP, hD0.self, va_S.rf⟩ hl
end
/-! ## DiceRoadsModel.doTurns(I)I -/
section
variable {p : Program} {l : Launch} {e : Env} {s : State} {m : MethodId} {args : Array Value} {below : List Frame} {meth : Method} {c : Code} {dC : Nat → ClassId} {dI : Nat → Nat → Nat} {cI : ClassId} {A : Nat → Prop}
set_option maxRecDepth 100000 in
set_option maxHeartbeats 4000000 in
theorem w8_doTurns_b8 (C : cx_M p s m args meth c RX8 cX8_doTurns (some .int) 4) (hK : va_K (dC, dI) vwCl [(cI, .int)] s) (hA : ∀ q, s.heap.size ≤ q → A q) {a : Nat → Nat} {X : Nat → Int32} {q : (Int32 × (Nat → Int32))} {rec8 : Int32 → Int32 → Int32 → (Nat → Int32) → Option (Int32 × (Nat → Int32))} (hrec8 : ∀ {v1 : Int32} {v2 : Int32} {v3 : Int32} {S : (Nat → Int32)} , rec8 v1 v2 v3 S = some q → ∀ {H : Heap} {locs : List Loc} {ls : Array Slot}, gd_W (dC, dI) A s (wd_M0 cI a X S) H locs → lv_has ls 4 [(0, .ref (a 0)), (1, .int v1), (2, .int v2), (3, .int v3)] → W p l e RM8_doTurns s m args below meth c H locs 0 0 (MQ below (qi_W (dC, dI) [(cI, .int)] A q.1 (wd_M0 cI a X q.2)) args s 0 0 A) (F0 m 8 ls [])) {v1 : Int32} {v2 : Int32} {v3 : Int32} {S : (Nat → Int32)} (h : f8_doTurns_b8 rec8 v1 v2 v3 S = some q) {H : Heap} {locs : List Loc} {ls : Array Slot} (hG : gd_W (dC, dI) A s (wd_M0 cI a X S) H locs) (hl : lv_has ls 4 [(0, .ref (a 0)), (1, .int v1), (2, .int v2), (3, .int v3)]) : W p l e RM8_doTurns s m args below meth c H locs 0 0 (MQ below (qi_W (dC, dI) [(cI, .int)] A q.1 (wd_M0 cI a X q.2)) args s 0 0 A) (F0 m 8 ls []) := by
  unfold f8_doTurns_b8 at h
  obtain ⟨hx, hb, hr, hts, hown, hlocks, hml⟩ := id C
  refine lv_iload_n hx hb dX8_doTurns_8 rfl (lv_at hl 3 rfl) ?_
  refine lv_iload_n hx hb dX8_doTurns_9 rfl (lv_at hl 1 rfl) ?_
  refine lv_icmp_ge (tgt := 23) hx hb dX8_doTurns_10 (by decide) (fun hc => ?_) (fun hc => ?_)
  · have h := fo_it h hc
    refine lv_aload_n hx hb dX8_doTurns_23 rfl (lv_at hl 0 rfl) ?_
    refine lv_iconst (v := (2 : Int32)) hx hb dX8_doTurns_24 (by decide) ?_
    obtain ⟨q25, hq25, h⟩ := fo_bd_some h
    refine gc_iV (b := a 0) (C := RX8) (As := [.int (2 : Int32)]) (rest := []) (wc := (wd_M0 cI a X S)) (w1 := (wd_M0 cI a X S)) (ci := 7) (q0 := 0) ⟨hx, hb, hml, hown, hts⟩ (c8_sumOf l (a := a) (X := X) hq25) (cwV 1 hts gv_X8_119 rfl rfl rfl hd8_sumOf ⟨Nat.le_of_ble_eq_true rfl, Nat.le_of_ble_eq_true rfl⟩) hK [0] rfl hA hG [0, 1] rfl rfl rfl rfl rfl rfl hl.1 rfl (Nat.le_of_ble_eq_true rfl) dX8_doTurns_25 ⟨Nat.zero_le _, Nat.zero_le _⟩ (fun H locs hG9 => ?_)
    have hG : gd_W (dC, dI) A s (wd_M0 cI a X S) H locs := hG9
    refine lv_iload_n hx hb dX8_doTurns_28 rfl (lv_at hl 2 rfl) ?_
    refine lv_isub hx hb dX8_doTurns_29 ?_
    obtain rfl := Option.some.inj h
    exact gr_i hx hb hr hlocks hK hG rfl dX8_doTurns_30
  · have h := fo_if h hc
    refine lv_aload_n hx hb dX8_doTurns_13 rfl (lv_at hl 0 rfl) ?_
    obtain ⟨q14, hq14, h⟩ := fo_bd_some h
    refine gc_vV (b := a 0) (C := RX8) (As := []) (rest := []) (wc := (wd_M0 cI a X S)) (w1 := (wd_M0 cI a X q14)) (ci := 7) (q0 := 0) ⟨hx, hb, hml, hown, hts⟩ (c8_turn l (a := a) (X := X) hq14) (cwV 0 hts gv_X8_122 rfl rfl rfl hd8_turn ⟨Nat.le_of_ble_eq_true rfl, Nat.le_of_ble_eq_true rfl⟩) hK [0] rfl hA hG [0, 1] rfl rfl rfl rfl rfl rfl hl.1 rfl (Nat.le_of_ble_eq_true rfl) dX8_doTurns_14 ⟨Nat.zero_le _, Nat.zero_le _⟩ (fun H locs hG9 => ?_)
    have hG : gd_W (dC, dI) A s (wd_M0 cI a X q14) H locs := hG9
    refine lv_iinc (v := (v3 + (1 : Int32))) (lv' := [(3, .int (v3 + (1 : Int32))), (0, .ref (a 0)), (1, .int v1), (2, .int v2)]) hx hb dX8_doTurns_17 hl (k := 3) rfl rfl (by decide) rfl (fun ls hl => ?_)
    refine lv_goto (tgt := 8) hx hb dX8_doTurns_20 (by decide) ?_
    exact hrec8 h hG (lv_sub hl [1, 2, 3, 0] rfl)
set_option maxRecDepth 100000 in
set_option maxHeartbeats 4000000 in
theorem w8_doTurns_L8 (C : cx_M p s m args meth c RX8 cX8_doTurns (some .int) 4) (hK : va_K (dC, dI) vwCl [(cI, .int)] s) (hA : ∀ q, s.heap.size ≤ q → A q) {a : Nat → Nat} {X : Nat → Int32} {q : (Int32 × (Nat → Int32))} : ∀ (n : Nat) {v1 : Int32} {v2 : Int32} {v3 : Int32} {S : (Nat → Int32)}, f8_doTurns_L8 n v1 v2 v3 S = some q → ∀ {H : Heap} {locs : List Loc} {ls : Array Slot}, gd_W (dC, dI) A s (wd_M0 cI a X S) H locs → lv_has ls 4 [(0, .ref (a 0)), (1, .int v1), (2, .int v2), (3, .int v3)] → W p l e RM8_doTurns s m args below meth c H locs 0 0 (MQ below (qi_W (dC, dI) [(cI, .int)] A q.1 (wd_M0 cI a X q.2)) args s 0 0 A) (F0 m 8 ls []) := by
  intro n
  induction n with
  | zero => intro _ _ _ _ h; exact nomatch h
  | succ n ih => intro v1 v2 v3 S h H locs ls hG hl; exact w8_doTurns_b8 C hK hA (fun h => ih h) (show f8_doTurns_b8 (f8_doTurns_L8 n) v1 v2 v3 S = some q from h) hG hl
set_option maxRecDepth 100000 in
set_option maxHeartbeats 4000000 in
theorem w8_doTurns (C : cx_M p s m args meth c RX8 cX8_doTurns (some .int) 4) (hK : va_K (dC, dI) vwCl [(cI, .int)] s) (hA : ∀ q, s.heap.size ≤ q → A q) {a : Nat → Nat} {X : Nat → Int32} {q : (Int32 × (Nat → Int32))} {v1 : Int32} {S : (Nat → Int32)} (h : f8_doTurns v1 S = some q) {H : Heap} {locs : List Loc} {ls : Array Slot} (hG : gd_W (dC, dI) A s (wd_M0 cI a X S) H locs) (hl : lv_has ls 4 [(0, .ref (a 0)), (1, .int v1)]) : W p l e RM8_doTurns s m args below meth c H locs 0 0 (MQ below (qi_W (dC, dI) [(cI, .int)] A q.1 (wd_M0 cI a X q.2)) args s 0 0 A) (F0 m 0 ls []) := by
  unfold f8_doTurns at h
  obtain ⟨hx, hb, hr, hts, hown, hlocks, hml⟩ := id C
  refine lv_aload_n hx hb dX8_doTurns_0 rfl (lv_at hl 0 rfl) ?_
  refine lv_iconst (v := (2 : Int32)) hx hb dX8_doTurns_1 (by decide) ?_
  obtain ⟨q2, hq2, h⟩ := fo_bd_some h
  refine gc_iV (b := a 0) (C := RX8) (As := [.int (2 : Int32)]) (rest := []) (wc := (wd_M0 cI a X S)) (w1 := (wd_M0 cI a X S)) (ci := 7) (q0 := 0) ⟨hx, hb, hml, hown, hts⟩ (c8_sumOf l (a := a) (X := X) hq2) (cwV 1 hts gv_X8_119 rfl rfl rfl hd8_sumOf ⟨Nat.le_of_ble_eq_true rfl, Nat.le_of_ble_eq_true rfl⟩) hK [0] rfl hA hG [0, 1] rfl rfl rfl rfl rfl rfl hl.1 rfl (Nat.le_of_ble_eq_true rfl) dX8_doTurns_2 ⟨Nat.zero_le _, Nat.zero_le _⟩ (fun H locs hG9 => ?_)
  have hG : gd_W (dC, dI) A s (wd_M0 cI a X S) H locs := hG9
  refine lv_istore_n (lv' := [(2, .int q2), (0, .ref (a 0)), (1, .int v1)]) hx hb dX8_doTurns_5 rfl hl (by decide) rfl (fun ls hl => ?_)
  refine lv_iconst (v := (0 : Int32)) hx hb dX8_doTurns_6 (by decide) ?_
  refine lv_istore_n (lv' := [(3, .int (0 : Int32)), (2, .int q2), (0, .ref (a 0)), (1, .int v1)]) hx hb dX8_doTurns_7 rfl hl (by decide) rfl (fun ls hl => ?_)
  exact w8_doTurns_L8 C hK hA fo_fu h hG (lv_sub hl [2, 3, 1, 0] rfl)
set_option maxRecDepth 100000 in
set_option maxHeartbeats 4000000 in
theorem c8_doTurns (l : Launch) {dC : Nat → ClassId} {dI : Nat → Nat → Nat} {cI : ClassId} {a : Nat → Nat} {X : Nat → Int32} {v1 : Int32} {S : (Nat → Int32)} {q : (Int32 × (Nat → Int32))} (h : f8_doTurns v1 S = some q) : mi_M l yX8_doTurns wm8_doTurns RM8_doTurns (dC, dI) [(cI, .int)] [.ref (a 0), .int v1] (wd_M0 cI a X S) q.1 (wd_M0 cI a X q.2) := by
  intro sz
  refine Met.ofW (cc := cX8_doTurns) (maxL := 4) (ret := (some .int)) (by decide) rfl ?_
  intro p e s m args below meth c s₁ B hml hv
  obtain ⟨rfl, hsz, hP, hK, hD0⟩ := hv
  subst hsz
  have hl := lv_entry ([.ref (a 0), .int v1] : List Value) (n := 4) (Nat.le_of_ble_eq_true rfl)
  rw [lg_entry_eq]
  generalize (lg_sl ([.ref (a 0), .int v1] : List Value) ++ List.replicate (4 - (lg_sl ([.ref (a 0), .int v1] : List Value)).length) Slot.unset).toArray = ls at hl ⊢
  exact w8_doTurns (a := a) ⟨B.exec, B.bytes, B.returns, fun w hw => atoms_spec (ws := wm8_doTurns) B.pre w (List.mem_cons_of_mem _ hw), findClass_of_methodNamed B.named, B.notSynchronized, hml⟩ hK (fun _ h => Or.inr h) h ⟨hP, hD0.self, va_S.rf⟩ hl
end
/-! ## DiceRoadsModel.whyNoPlayer(I)I -/
section
variable {p : Program} {l : Launch} {e : Env} {s : State} {m : MethodId} {args : Array Value} {below : List Frame} {meth : Method} {c : Code} {dC : Nat → ClassId} {dI : Nat → Nat → Nat} {cI : ClassId} {A : Nat → Prop}
set_option maxRecDepth 100000 in
set_option maxHeartbeats 4000000 in
theorem w8_whyNoPlayer (C : cx_M p s m args meth c RX8 cX8_whyNoPlayer (some .int) 2) (hK : va_K (dC, dI) vwCl [(cI, .int)] s) (hA : ∀ q, s.heap.size ≤ q → A q) {a : Nat → Nat} {X : Nat → Int32} {q : Int32} {v1 : Int32} {S : (Nat → Int32)} (h : f8_whyNoPlayer v1 S = some q) {H : Heap} {locs : List Loc} {ls : Array Slot} (hG : gd_W (dC, dI) A s (wd_M0 cI a X S) H locs) (hl : lv_has ls 2 [(0, .ref (a 0)), (1, .int v1)]) : W p l e RM8_whyNoPlayer s m args below meth c H locs 0 0 (MQ below (qi_W (dC, dI) [(cI, .int)] A q (wd_M0 cI a X S)) args s 0 0 A) (F0 m 0 ls []) := by
  unfold f8_whyNoPlayer at h
  obtain ⟨hx, hb, hr, hts, hown, hlocks, hml⟩ := id C
  refine lv_iload_n hx hb dX8_whyNoPlayer_0 rfl (lv_at hl 1 rfl) ?_
  refine lv_iconst (v := (0 : Int32)) hx hb dX8_whyNoPlayer_1 (by decide) ?_
  refine lv_sipush (v := (9999 : Int32)) hx hb dX8_whyNoPlayer_2 (by decide) ?_
  obtain ⟨q5, hq5, h⟩ := fo_bd_some h
  refine gc_iS (As := [.int v1, .int (0 : Int32), .int (9999 : Int32)]) (rest := []) (wc := ([] : va_W)) (w1 := ([] : va_W)) ⟨hx, hb, hml, hown, hts⟩ (c8_within l (a := a) hq5) (va_cwS 3 hts gv_X8_42 rfl rfl rfl hd8_within ⟨Nat.le_of_ble_eq_true rfl, Nat.le_of_ble_eq_true rfl⟩) hK [] rfl hA hG [] rfl rfl rfl rfl hl.1 rfl (Nat.le_of_ble_eq_true rfl) dX8_whyNoPlayer_5 ⟨Nat.zero_le _, Nat.zero_le _⟩ (fun H locs hG9 => ?_)
  have hG : gd_W (dC, dI) A s (wd_M0 cI a X S) H locs := hG9
  refine lv_if_ne (tgt := 16) hx hb dX8_whyNoPlayer_8 (by decide) (fun hc => ?_) (fun hc => ?_)
  · have h := fo_if h hc
    refine lv_aload_n hx hb dX8_whyNoPlayer_16 rfl (lv_at hl 0 rfl) ?_
    refine va_get (D := (dC, dI)) (ci := 7) (v := .ref (a 1)) (C := RX8) (T := TX8) (N := 17) hx hb hts inlX8 hown hK hG.1 0 rfl rfl 0 (by decide) (hts (Cond.fieldLink RX8 7 "DiceRoadsModel" "state" "[I") wq_637) (fun _ h9 => h9) rfl dX8_whyNoPlayer_17 ?_
    refine lv_bipush (v := (6 : Int32)) hx hb dX8_whyNoPlayer_20 (by decide) ?_
    obtain ⟨hi, h⟩ := fo_ck_some h
    refine va_iald hx hb hK hG.1 1 0 rfl rfl hi dX8_whyNoPlayer_22 ?_
    refine lv_iconst (v := (4 : Int32)) hx hb dX8_whyNoPlayer_23 (by decide) ?_
    refine lv_icmp_ne (tgt := 32) hx hb dX8_whyNoPlayer_24 (by decide) (fun hc => ?_) (fun hc => ?_)
    · have h := fo_if h hc
      refine lv_iconst (v := (0 : Int32)) hx hb dX8_whyNoPlayer_32 (by decide) ?_
      exact gr_i hx hb hr hlocks hK hG (Option.some.inj h) dX8_whyNoPlayer_33
    · have h := fo_it h hc
      refine lv_bipush (v := (-4 : Int32)) hx hb dX8_whyNoPlayer_27 (by decide) ?_
      refine lv_goto (tgt := 33) hx hb dX8_whyNoPlayer_29 (by decide) ?_
      exact gr_i hx hb hr hlocks hK hG (Option.some.inj h) dX8_whyNoPlayer_33
  · have h := fo_it h hc
    refine lv_bipush (v := (-2 : Int32)) hx hb dX8_whyNoPlayer_11 (by decide) ?_
    refine lv_goto (tgt := 33) hx hb dX8_whyNoPlayer_13 (by decide) ?_
    exact gr_i hx hb hr hlocks hK hG (Option.some.inj h) dX8_whyNoPlayer_33
set_option maxRecDepth 100000 in
set_option maxHeartbeats 4000000 in
theorem c8_whyNoPlayer (l : Launch) {dC : Nat → ClassId} {dI : Nat → Nat → Nat} {cI : ClassId} {a : Nat → Nat} {X : Nat → Int32} {v1 : Int32} {S : (Nat → Int32)} {q : Int32} (h : f8_whyNoPlayer v1 S = some q) : mi_M l yX8_whyNoPlayer wm8_whyNoPlayer RM8_whyNoPlayer (dC, dI) [(cI, .int)] [.ref (a 0), .int v1] (wd_M0 cI a X S) q (wd_M0 cI a X S) := by
  intro sz
  refine Met.ofW (cc := cX8_whyNoPlayer) (maxL := 2) (ret := (some .int)) (by decide) rfl ?_
  intro p e s m args below meth c s₁ B hml hv
  obtain ⟨rfl, hsz, hP, hK, hD0⟩ := hv
  subst hsz
  have hl := lv_entry ([.ref (a 0), .int v1] : List Value) (n := 2) (Nat.le_of_ble_eq_true rfl)
  rw [lg_entry_eq]
  generalize (lg_sl ([.ref (a 0), .int v1] : List Value) ++ List.replicate (2 - (lg_sl ([.ref (a 0), .int v1] : List Value)).length) Slot.unset).toArray = ls at hl ⊢
  exact w8_whyNoPlayer (a := a) ⟨B.exec, B.bytes, B.returns, fun w hw => atoms_spec (ws := wm8_whyNoPlayer) B.pre w (List.mem_cons_of_mem _ hw), findClass_of_methodNamed B.named, B.notSynchronized, hml⟩ hK (fun _ h => Or.inr h) h ⟨hP, hD0.self, va_S.rf⟩ hl
end
/-! ## DiceRoadsModel.comes(I)I -/
section
variable {p : Program} {l : Launch} {e : Env} {s : State} {m : MethodId} {args : Array Value} {below : List Frame} {meth : Method} {c : Code} {dC : Nat → ClassId} {dI : Nat → Nat → Nat} {cI : ClassId} {A : Nat → Prop}
set_option maxRecDepth 100000 in
set_option maxHeartbeats 4000000 in
theorem w8_comes_b38 (C : cx_M p s m args meth c RX8 cX8_comes (some .int) 4) (hK : va_K (dC, dI) vwCl [(cI, .int)] s) (hA : ∀ q, s.heap.size ≤ q → A q) {a : Nat → Nat} {X : Nat → Int32} {q : (Int32 × (Nat → Int32))} {rec10 : Int32 → Int32 → Int32 → (Nat → Int32) → Option (Int32 × (Nat → Int32))} (hrec10 : ∀ {v1 : Int32} {v2 : Int32} {v3 : Int32} {S : (Nat → Int32)} , rec10 v1 v2 v3 S = some q → ∀ {H : Heap} {locs : List Loc} {ls : Array Slot}, gd_W (dC, dI) A s (wd_M0 cI a X S) H locs → lv_has ls 4 [(0, .ref (a 0)), (1, .int v1), (2, .int v2), (3, .int v3)] → W p l e RM8_comes s m args below meth c H locs 0 0 (MQ below (qi_W (dC, dI) [(cI, .int)] A q.1 (wd_M0 cI a X q.2)) args s 0 0 A) (F0 m 10 ls [])) {v1 : Int32} {v2 : Int32} {v3 : Int32} {t1 : Int32} {t2 : Int32} {S : (Nat → Int32)} (h : f8_comes_b38 rec10 v1 v2 v3 t1 t2 S = some q) {H : Heap} {locs : List Loc} {ls : Array Slot} (hG : gd_W (dC, dI) A s (wd_M0 cI a X S) H locs) (hl : lv_has ls 4 [(0, .ref (a 0)), (1, .int v1), (2, .int v2), (3, .int v3)]) : W p l e RM8_comes s m args below meth c H locs 0 0 (MQ below (qi_W (dC, dI) [(cI, .int)] A q.1 (wd_M0 cI a X q.2)) args s 0 0 A) (F0 m 38 ls [.int t2, .int t1, .ref (a 1)]) := by
  unfold f8_comes_b38 at h
  obtain ⟨hx, hb, hr, hts, hown, hlocks, hml⟩ := id C
  obtain ⟨hi, h⟩ := fo_ck_some h
  refine va_iast hx hb hK hG.1 hG.2.1 hG.2.2 1 0 rfl rfl hi dX8_comes_38 (fun H locs hP9 hD9 hS9 => ?_)
  have hG : gd_W (dC, dI) A s (wd_M0 cI a X (upd S t1.toNatClampNeg t2)) H locs := ⟨hP9, hD9, hS9⟩
  refine lv_iinc (v := (v3 + (1 : Int32))) (lv' := [(3, .int (v3 + (1 : Int32))), (0, .ref (a 0)), (1, .int v1), (2, .int v2)]) hx hb dX8_comes_39 hl (k := 3) rfl rfl (by decide) rfl (fun ls hl => ?_)
  refine lv_goto (tgt := 10) hx hb dX8_comes_42 (by decide) ?_
  exact hrec10 h hG (lv_sub hl [1, 2, 3, 0] rfl)
set_option maxRecDepth 100000 in
set_option maxHeartbeats 4000000 in
theorem w8_comes_b10 (C : cx_M p s m args meth c RX8 cX8_comes (some .int) 4) (hK : va_K (dC, dI) vwCl [(cI, .int)] s) (hA : ∀ q, s.heap.size ≤ q → A q) {a : Nat → Nat} {X : Nat → Int32} {q : (Int32 × (Nat → Int32))} {rec10 : Int32 → Int32 → Int32 → (Nat → Int32) → Option (Int32 × (Nat → Int32))} (hrec10 : ∀ {v1 : Int32} {v2 : Int32} {v3 : Int32} {S : (Nat → Int32)} , rec10 v1 v2 v3 S = some q → ∀ {H : Heap} {locs : List Loc} {ls : Array Slot}, gd_W (dC, dI) A s (wd_M0 cI a X S) H locs → lv_has ls 4 [(0, .ref (a 0)), (1, .int v1), (2, .int v2), (3, .int v3)] → W p l e RM8_comes s m args below meth c H locs 0 0 (MQ below (qi_W (dC, dI) [(cI, .int)] A q.1 (wd_M0 cI a X q.2)) args s 0 0 A) (F0 m 10 ls [])) {v1 : Int32} {v2 : Int32} {v3 : Int32} {S : (Nat → Int32)} (h : f8_comes_b10 rec10 v1 v2 v3 S = some q) {H : Heap} {locs : List Loc} {ls : Array Slot} (hG : gd_W (dC, dI) A s (wd_M0 cI a X S) H locs) (hl : lv_has ls 4 [(0, .ref (a 0)), (1, .int v1), (2, .int v2), (3, .int v3)]) : W p l e RM8_comes s m args below meth c H locs 0 0 (MQ below (qi_W (dC, dI) [(cI, .int)] A q.1 (wd_M0 cI a X q.2)) args s 0 0 A) (F0 m 10 ls []) := by
  unfold f8_comes_b10 at h
  obtain ⟨hx, hb, hr, hts, hown, hlocks, hml⟩ := id C
  refine lv_iload_n hx hb dX8_comes_10 rfl (lv_at hl 3 rfl) ?_
  refine lv_bipush (v := (6 : Int32)) hx hb dX8_comes_11 (by decide) ?_
  refine lv_icmp_ge (tgt := 45) hx hb dX8_comes_13 (by decide) (fun hc => ?_) (fun hc => ?_)
  · have h := fo_it h hc
    refine lv_aload_n hx hb dX8_comes_45 rfl (lv_at hl 0 rfl) ?_
    refine va_get (D := (dC, dI)) (ci := 7) (v := .ref (a 1)) (C := RX8) (T := TX8) (N := 17) hx hb hts inlX8 hown hK hG.1 0 rfl rfl 0 (by decide) (hts (Cond.fieldLink RX8 7 "DiceRoadsModel" "state" "[I") wq_637) (fun _ h9 => h9) rfl dX8_comes_46 ?_
    refine lv_bipush (v := (6 : Int32)) hx hb dX8_comes_49 (by decide) ?_
    refine lv_dup2_11 hx hb dX8_comes_51 rfl rfl ?_
    obtain ⟨hi, h⟩ := fo_ck_some h
    refine va_iald hx hb hK hG.1 1 0 rfl rfl hi dX8_comes_52 ?_
    refine lv_iconst (v := (1 : Int32)) hx hb dX8_comes_53 (by decide) ?_
    refine lv_iadd hx hb dX8_comes_54 ?_
    obtain ⟨hi, h⟩ := fo_ck_some h
    refine va_iast hx hb hK hG.1 hG.2.1 hG.2.2 1 0 rfl rfl hi dX8_comes_55 (fun H locs hP9 hD9 hS9 => ?_)
    have hG : gd_W (dC, dI) A s (wd_M0 cI a X (upd S (6 : Int32).toNatClampNeg ((S (6 : Int32).toNatClampNeg) + (1 : Int32)))) H locs := ⟨hP9, hD9, hS9⟩
    refine lv_iload_n hx hb dX8_comes_56 rfl (lv_at hl 2 rfl) ?_
    obtain rfl := Option.some.inj h
    exact gr_i hx hb hr hlocks hK hG rfl dX8_comes_57
  · have h := fo_if h hc
    refine lv_aload_n hx hb dX8_comes_16 rfl (lv_at hl 0 rfl) ?_
    refine va_get (D := (dC, dI)) (ci := 7) (v := .ref (a 1)) (C := RX8) (T := TX8) (N := 17) hx hb hts inlX8 hown hK hG.1 0 rfl rfl 0 (by decide) (hts (Cond.fieldLink RX8 7 "DiceRoadsModel" "state" "[I") wq_637) (fun _ h9 => h9) rfl dX8_comes_17 ?_
    refine lv_bipush (v := (51 : Int32)) hx hb dX8_comes_20 (by decide) ?_
    refine lv_bipush (v := (6 : Int32)) hx hb dX8_comes_22 (by decide) ?_
    refine lv_iload_n hx hb dX8_comes_24 rfl (lv_at hl 2 rfl) ?_
    refine lv_imul hx hb dX8_comes_25 ?_
    refine lv_iadd hx hb dX8_comes_26 ?_
    refine lv_iload_n hx hb dX8_comes_27 rfl (lv_at hl 3 rfl) ?_
    refine lv_iadd hx hb dX8_comes_28 ?_
    refine lv_iload_n hx hb dX8_comes_29 rfl (lv_at hl 3 rfl) ?_
    refine lv_if_ne (tgt := 37) hx hb dX8_comes_30 (by decide) (fun hc => ?_) (fun hc => ?_)
    · have h := fo_if h hc
      refine lv_iconst (v := (0 : Int32)) hx hb dX8_comes_37 (by decide) ?_
      exact w8_comes_b38 C hK hA (fun h => hrec10 h) h hG (lv_sub hl [0, 1, 2, 3] rfl)
    · have h := fo_it h hc
      refine lv_iload_n hx hb dX8_comes_33 rfl (lv_at hl 1 rfl) ?_
      refine lv_goto (tgt := 38) hx hb dX8_comes_34 (by decide) ?_
      exact w8_comes_b38 C hK hA (fun h => hrec10 h) h hG (lv_sub hl [0, 1, 2, 3] rfl)
set_option maxRecDepth 100000 in
set_option maxHeartbeats 4000000 in
theorem w8_comes_L10 (C : cx_M p s m args meth c RX8 cX8_comes (some .int) 4) (hK : va_K (dC, dI) vwCl [(cI, .int)] s) (hA : ∀ q, s.heap.size ≤ q → A q) {a : Nat → Nat} {X : Nat → Int32} {q : (Int32 × (Nat → Int32))} : ∀ (n : Nat) {v1 : Int32} {v2 : Int32} {v3 : Int32} {S : (Nat → Int32)}, f8_comes_L10 n v1 v2 v3 S = some q → ∀ {H : Heap} {locs : List Loc} {ls : Array Slot}, gd_W (dC, dI) A s (wd_M0 cI a X S) H locs → lv_has ls 4 [(0, .ref (a 0)), (1, .int v1), (2, .int v2), (3, .int v3)] → W p l e RM8_comes s m args below meth c H locs 0 0 (MQ below (qi_W (dC, dI) [(cI, .int)] A q.1 (wd_M0 cI a X q.2)) args s 0 0 A) (F0 m 10 ls []) := by
  intro n
  induction n with
  | zero => intro _ _ _ _ h; exact nomatch h
  | succ n ih => intro v1 v2 v3 S h H locs ls hG hl; exact w8_comes_b10 C hK hA (fun h => ih h) (show f8_comes_b10 (f8_comes_L10 n) v1 v2 v3 S = some q from h) hG hl
set_option maxRecDepth 100000 in
set_option maxHeartbeats 4000000 in
theorem w8_comes (C : cx_M p s m args meth c RX8 cX8_comes (some .int) 4) (hK : va_K (dC, dI) vwCl [(cI, .int)] s) (hA : ∀ q, s.heap.size ≤ q → A q) {a : Nat → Nat} {X : Nat → Int32} {q : (Int32 × (Nat → Int32))} {v1 : Int32} {S : (Nat → Int32)} (h : f8_comes v1 S = some q) {H : Heap} {locs : List Loc} {ls : Array Slot} (hG : gd_W (dC, dI) A s (wd_M0 cI a X S) H locs) (hl : lv_has ls 4 [(0, .ref (a 0)), (1, .int v1)]) : W p l e RM8_comes s m args below meth c H locs 0 0 (MQ below (qi_W (dC, dI) [(cI, .int)] A q.1 (wd_M0 cI a X q.2)) args s 0 0 A) (F0 m 0 ls []) := by
  unfold f8_comes at h
  obtain ⟨hx, hb, hr, hts, hown, hlocks, hml⟩ := id C
  refine lv_aload_n hx hb dX8_comes_0 rfl (lv_at hl 0 rfl) ?_
  refine va_get (D := (dC, dI)) (ci := 7) (v := .ref (a 1)) (C := RX8) (T := TX8) (N := 17) hx hb hts inlX8 hown hK hG.1 0 rfl rfl 0 (by decide) (hts (Cond.fieldLink RX8 7 "DiceRoadsModel" "state" "[I") wq_637) (fun _ h9 => h9) rfl dX8_comes_1 ?_
  refine lv_bipush (v := (6 : Int32)) hx hb dX8_comes_4 (by decide) ?_
  obtain ⟨hi, h⟩ := fo_ck_some h
  refine va_iald hx hb hK hG.1 1 0 rfl rfl hi dX8_comes_6 ?_
  refine lv_istore_n (lv' := [(2, .int (S (6 : Int32).toNatClampNeg)), (0, .ref (a 0)), (1, .int v1)]) hx hb dX8_comes_7 rfl hl (by decide) rfl (fun ls hl => ?_)
  refine lv_iconst (v := (0 : Int32)) hx hb dX8_comes_8 (by decide) ?_
  refine lv_istore_n (lv' := [(3, .int (0 : Int32)), (2, .int (S (6 : Int32).toNatClampNeg)), (0, .ref (a 0)), (1, .int v1)]) hx hb dX8_comes_9 rfl hl (by decide) rfl (fun ls hl => ?_)
  exact w8_comes_L10 C hK hA fo_fu h hG (lv_sub hl [2, 3, 1, 0] rfl)
set_option maxRecDepth 100000 in
set_option maxHeartbeats 4000000 in
theorem c8_comes (l : Launch) {dC : Nat → ClassId} {dI : Nat → Nat → Nat} {cI : ClassId} {a : Nat → Nat} {X : Nat → Int32} {v1 : Int32} {S : (Nat → Int32)} {q : (Int32 × (Nat → Int32))} (h : f8_comes v1 S = some q) : mi_M l yX8_comes wm8_comes RM8_comes (dC, dI) [(cI, .int)] [.ref (a 0), .int v1] (wd_M0 cI a X S) q.1 (wd_M0 cI a X q.2) := by
  intro sz
  refine Met.ofW (cc := cX8_comes) (maxL := 4) (ret := (some .int)) (by decide) rfl ?_
  intro p e s m args below meth c s₁ B hml hv
  obtain ⟨rfl, hsz, hP, hK, hD0⟩ := hv
  subst hsz
  have hl := lv_entry ([.ref (a 0), .int v1] : List Value) (n := 4) (Nat.le_of_ble_eq_true rfl)
  rw [lg_entry_eq]
  generalize (lg_sl ([.ref (a 0), .int v1] : List Value) ++ List.replicate (4 - (lg_sl ([.ref (a 0), .int v1] : List Value)).length) Slot.unset).toArray = ls at hl ⊢
  exact w8_comes (a := a) ⟨B.exec, B.bytes, B.returns, fun w hw => atoms_spec (ws := wm8_comes) B.pre w (List.mem_cons_of_mem _ hw), findClass_of_methodNamed B.named, B.notSynchronized, hml⟩ hK (fun _ h => Or.inr h) h ⟨hP, hD0.self, va_S.rf⟩ hl
end
/-! ## DiceRoadsModel.whyNoTurns(I)I -/
section
variable {p : Program} {l : Launch} {e : Env} {s : State} {m : MethodId} {args : Array Value} {below : List Frame} {meth : Method} {c : Code} {dC : Nat → ClassId} {dI : Nat → Nat → Nat} {cI : ClassId} {A : Nat → Prop}
set_option maxRecDepth 100000 in
set_option maxHeartbeats 4000000 in
theorem w8_whyNoTurns_b37 (C : cx_M p s m args meth c RX8 cX8_whyNoTurns (some .int) 2) (hK : va_K (dC, dI) vwCl [(cI, .int)] s) (hA : ∀ q, s.heap.size ≤ q → A q) {a : Nat → Nat} {X : Nat → Int32} {S : (Nat → Int32)} {q : Int32} (h : f8_whyNoTurns_b37 S = some q) {H : Heap} {locs : List Loc} {ls : Array Slot} (hG : gd_W (dC, dI) A s (wd_M0 cI a X S) H locs) (hl : lv_has ls 2 []) : W p l e RM8_whyNoTurns s m args below meth c H locs 0 0 (MQ below (qi_W (dC, dI) [(cI, .int)] A q (wd_M0 cI a X S)) args s 0 0 A) (F0 m 37 ls []) := by
  unfold f8_whyNoTurns_b37 at h
  obtain ⟨hx, hb, hr, hts, hown, hlocks, hml⟩ := id C
  refine lv_bipush (v := (-5 : Int32)) hx hb dX8_whyNoTurns_37 (by decide) ?_
  refine lv_goto (tgt := 43) hx hb dX8_whyNoTurns_39 (by decide) ?_
  exact gr_i hx hb hr hlocks hK hG (Option.some.inj h) dX8_whyNoTurns_43
set_option maxRecDepth 100000 in
set_option maxHeartbeats 4000000 in
theorem w8_whyNoTurns (C : cx_M p s m args meth c RX8 cX8_whyNoTurns (some .int) 2) (hK : va_K (dC, dI) vwCl [(cI, .int)] s) (hA : ∀ q, s.heap.size ≤ q → A q) {a : Nat → Nat} {X : Nat → Int32} {q : Int32} {v1 : Int32} {S : (Nat → Int32)} (h : f8_whyNoTurns v1 S = some q) {H : Heap} {locs : List Loc} {ls : Array Slot} (hG : gd_W (dC, dI) A s (wd_M0 cI a X S) H locs) (hl : lv_has ls 2 [(0, .ref (a 0)), (1, .int v1)]) : W p l e RM8_whyNoTurns s m args below meth c H locs 0 0 (MQ below (qi_W (dC, dI) [(cI, .int)] A q (wd_M0 cI a X S)) args s 0 0 A) (F0 m 0 ls []) := by
  unfold f8_whyNoTurns at h
  obtain ⟨hx, hb, hr, hts, hown, hlocks, hml⟩ := id C
  refine lv_iload_n hx hb dX8_whyNoTurns_0 rfl (lv_at hl 1 rfl) ?_
  refine lv_iconst (v := (1 : Int32)) hx hb dX8_whyNoTurns_1 (by decide) ?_
  refine lv_bipush (v := (99 : Int32)) hx hb dX8_whyNoTurns_2 (by decide) ?_
  obtain ⟨q4, hq4, h⟩ := fo_bd_some h
  refine gc_iS (As := [.int v1, .int (1 : Int32), .int (99 : Int32)]) (rest := []) (wc := ([] : va_W)) (w1 := ([] : va_W)) ⟨hx, hb, hml, hown, hts⟩ (c8_within l (a := a) hq4) (va_cwS 3 hts gv_X8_42 rfl rfl rfl hd8_within ⟨Nat.le_of_ble_eq_true rfl, Nat.le_of_ble_eq_true rfl⟩) hK [] rfl hA hG [] rfl rfl rfl rfl hl.1 rfl (Nat.le_of_ble_eq_true rfl) dX8_whyNoTurns_4 ⟨Nat.zero_le _, Nat.zero_le _⟩ (fun H locs hG9 => ?_)
  have hG : gd_W (dC, dI) A s (wd_M0 cI a X S) H locs := hG9
  refine lv_if_ne (tgt := 13) hx hb dX8_whyNoTurns_7 (by decide) (fun hc => ?_) (fun hc => ?_)
  · have h := fo_if h hc
    refine lv_aload_n hx hb dX8_whyNoTurns_13 rfl (lv_at hl 0 rfl) ?_
    refine va_get (D := (dC, dI)) (ci := 7) (v := .ref (a 1)) (C := RX8) (T := TX8) (N := 17) hx hb hts inlX8 hown hK hG.1 0 rfl rfl 0 (by decide) (hts (Cond.fieldLink RX8 7 "DiceRoadsModel" "state" "[I") wq_637) (fun _ h9 => h9) rfl dX8_whyNoTurns_14 ?_
    refine lv_bipush (v := (6 : Int32)) hx hb dX8_whyNoTurns_17 (by decide) ?_
    obtain ⟨hi, h⟩ := fo_ck_some h
    refine va_iald hx hb hK hG.1 1 0 rfl rfl hi dX8_whyNoTurns_19 ?_
    refine lv_if_eq (tgt := 37) hx hb dX8_whyNoTurns_20 (by decide) (fun hc => ?_) (fun hc => ?_)
    · have h := fo_it h hc
      exact w8_whyNoTurns_b37 C hK hA h hG (lv_sub hl [] rfl)
    · have h := fo_if h hc
      refine lv_aload_n hx hb dX8_whyNoTurns_23 rfl (lv_at hl 0 rfl) ?_
      refine va_get (D := (dC, dI)) (ci := 7) (v := .ref (a 1)) (C := RX8) (T := TX8) (N := 17) hx hb hts inlX8 hown hK hG.1 0 rfl rfl 0 (by decide) (hts (Cond.fieldLink RX8 7 "DiceRoadsModel" "state" "[I") wq_637) (fun _ h9 => h9) rfl dX8_whyNoTurns_24 ?_
      refine lv_iconst (v := (5 : Int32)) hx hb dX8_whyNoTurns_27 (by decide) ?_
      obtain ⟨hi, h⟩ := fo_ck_some h
      refine va_iald hx hb hK hG.1 1 0 rfl rfl hi dX8_whyNoTurns_28 ?_
      refine lv_iload_n hx hb dX8_whyNoTurns_29 rfl (lv_at hl 1 rfl) ?_
      refine lv_iadd hx hb dX8_whyNoTurns_30 ?_
      refine lv_sipush (v := (9999 : Int32)) hx hb dX8_whyNoTurns_31 (by decide) ?_
      refine lv_icmp_le (tgt := 42) hx hb dX8_whyNoTurns_34 (by decide) (fun hc => ?_) (fun hc => ?_)
      · have h := fo_it h hc
        refine lv_iconst (v := (0 : Int32)) hx hb dX8_whyNoTurns_42 (by decide) ?_
        exact gr_i hx hb hr hlocks hK hG (Option.some.inj h) dX8_whyNoTurns_43
      · have h := fo_if h hc
        exact w8_whyNoTurns_b37 C hK hA h hG (lv_sub hl [] rfl)
  · have h := fo_it h hc
    refine lv_bipush (v := (-2 : Int32)) hx hb dX8_whyNoTurns_10 (by decide) ?_
    exact gr_i hx hb hr hlocks hK hG (Option.some.inj h) dX8_whyNoTurns_12
set_option maxRecDepth 100000 in
set_option maxHeartbeats 4000000 in
theorem c8_whyNoTurns (l : Launch) {dC : Nat → ClassId} {dI : Nat → Nat → Nat} {cI : ClassId} {a : Nat → Nat} {X : Nat → Int32} {v1 : Int32} {S : (Nat → Int32)} {q : Int32} (h : f8_whyNoTurns v1 S = some q) : mi_M l yX8_whyNoTurns wm8_whyNoTurns RM8_whyNoTurns (dC, dI) [(cI, .int)] [.ref (a 0), .int v1] (wd_M0 cI a X S) q (wd_M0 cI a X S) := by
  intro sz
  refine Met.ofW (cc := cX8_whyNoTurns) (maxL := 2) (ret := (some .int)) (by decide) rfl ?_
  intro p e s m args below meth c s₁ B hml hv
  obtain ⟨rfl, hsz, hP, hK, hD0⟩ := hv
  subst hsz
  have hl := lv_entry ([.ref (a 0), .int v1] : List Value) (n := 2) (Nat.le_of_ble_eq_true rfl)
  rw [lg_entry_eq]
  generalize (lg_sl ([.ref (a 0), .int v1] : List Value) ++ List.replicate (2 - (lg_sl ([.ref (a 0), .int v1] : List Value)).length) Slot.unset).toArray = ls at hl ⊢
  exact w8_whyNoTurns (a := a) ⟨B.exec, B.bytes, B.returns, fun w hw => atoms_spec (ws := wm8_whyNoTurns) B.pre w (List.mem_cons_of_mem _ hw), findClass_of_methodNamed B.named, B.notSynchronized, hml⟩ hK (fun _ h => Or.inr h) h ⟨hP, hD0.self, va_S.rf⟩ hl
end
/-! ## DiceRoadsModel.of(II)I -/
section
variable {p : Program} {l : Launch} {e : Env} {s : State} {m : MethodId} {args : Array Value} {below : List Frame} {meth : Method} {c : Code} {dC : Nat → ClassId} {dI : Nat → Nat → Nat} {cI : ClassId} {A : Nat → Prop}
set_option maxRecDepth 100000 in
set_option maxHeartbeats 4000000 in
theorem w8_of (C : cx_M p s m args meth c RX8 cX8_of (some .int) 3) (hK : va_K (dC, dI) vwCl [(cI, .int)] s) (hA : ∀ q, s.heap.size ≤ q → A q) {a : Nat → Nat} {X : Nat → Int32} {q : Int32} {v1 : Int32} {v2 : Int32} {S : (Nat → Int32)} (h : f8_of v1 v2 S = some q) {H : Heap} {locs : List Loc} {ls : Array Slot} (hG : gd_W (dC, dI) A s (wd_M0 cI a X S) H locs) (hl : lv_has ls 3 [(0, .ref (a 0)), (1, .int v1), (2, .int v2)]) : W p l e RM8_of s m args below meth c H locs 0 0 (MQ below (qi_W (dC, dI) [(cI, .int)] A q (wd_M0 cI a X S)) args s 0 0 A) (F0 m 0 ls []) := by
  unfold f8_of at h
  obtain ⟨hx, hb, hr, hts, hown, hlocks, hml⟩ := id C
  refine lv_aload_n hx hb dX8_of_0 rfl (lv_at hl 0 rfl) ?_
  refine lv_iload_n hx hb dX8_of_1 rfl (lv_at hl 1 rfl) ?_
  obtain ⟨q2, hq2, h⟩ := fo_bd_some h
  refine gc_iV (b := a 0) (C := RX8) (As := [.int v1]) (rest := []) (wc := (wd_M0 cI a X S)) (w1 := (wd_M0 cI a X S)) (ci := 7) (q0 := 0) ⟨hx, hb, hml, hown, hts⟩ (c8_isPlayer l (a := a) (X := X) hq2) (cwV 1 hts gv_X8_156 rfl rfl rfl hd8_isPlayer ⟨Nat.le_of_ble_eq_true rfl, Nat.le_of_ble_eq_true rfl⟩) hK [0] rfl hA hG [0, 1] rfl rfl rfl rfl rfl rfl hl.1 rfl (Nat.le_of_ble_eq_true rfl) dX8_of_2 ⟨Nat.zero_le _, Nat.zero_le _⟩ (fun H locs hG9 => ?_)
  have hG : gd_W (dC, dI) A s (wd_M0 cI a X S) H locs := hG9
  refine lv_if_ne (tgt := 10) hx hb dX8_of_5 (by decide) (fun hc => ?_) (fun hc => ?_)
  · have h := fo_if h hc
    refine lv_iload_n hx hb dX8_of_10 rfl (lv_at hl 2 rfl) ?_
    by_cases hc : v2 = (0 : Int32)
    · have h := fo_it h hc
      refine W.eq (g2 := F0 m 11 ls [.int (0 : Int32)]) (by rw [hc]) ?_
      refine lv_tableIn (tgt := 60) hx hb dX8_of_11 (by decide) (by decide) rfl (by decide) ?_
      refine lv_aload_n hx hb dX8_of_60 rfl (lv_at hl 0 rfl) ?_
      refine lv_iload_n hx hb dX8_of_61 rfl (lv_at hl 1 rfl) ?_
      refine lv_iconst (v := (0 : Int32)) hx hb dX8_of_62 (by decide) ?_
      obtain ⟨q63, hq63, h⟩ := fo_bd_some h
      refine gc_iV (b := a 0) (C := RX8) (As := [.int v1, .int (0 : Int32)]) (rest := []) (wc := (wd_M0 cI a X S)) (w1 := (wd_M0 cI a X S)) (ci := 7) (q0 := 0) ⟨hx, hb, hml, hown, hts⟩ (c8_playerPart l (a := a) (X := X) hq63) (cwV 2 hts gv_X8_54 rfl rfl rfl hd8_playerPart ⟨Nat.le_of_ble_eq_true rfl, Nat.le_of_ble_eq_true rfl⟩) hK [0] rfl hA hG [0, 1] rfl rfl rfl rfl rfl rfl hl.1 rfl (Nat.le_of_ble_eq_true rfl) dX8_of_63 ⟨Nat.zero_le _, Nat.zero_le _⟩ (fun H locs hG9 => ?_)
      have hG : gd_W (dC, dI) A s (wd_M0 cI a X S) H locs := hG9
      exact gr_i hx hb hr hlocks hK hG (Option.some.inj h) dX8_of_66
    replace h := fo_if h hc
    have hn0 := lv_neT (a := 0) hc (by decide)
    have hm0 := hc
    clear hc
    by_cases hc : v2 = (1 : Int32)
    · have h := fo_it h hc
      refine W.eq (g2 := F0 m 11 ls [.int (1 : Int32)]) (by rw [hc]) ?_
      refine lv_tableIn (tgt := 67) hx hb dX8_of_11 (by decide) (by decide) rfl (by decide) ?_
      refine lv_aload_n hx hb dX8_of_67 rfl (lv_at hl 0 rfl) ?_
      refine lv_iload_n hx hb dX8_of_68 rfl (lv_at hl 1 rfl) ?_
      refine lv_iconst (v := (1 : Int32)) hx hb dX8_of_69 (by decide) ?_
      obtain ⟨q70, hq70, h⟩ := fo_bd_some h
      refine gc_iV (b := a 0) (C := RX8) (As := [.int v1, .int (1 : Int32)]) (rest := []) (wc := (wd_M0 cI a X S)) (w1 := (wd_M0 cI a X S)) (ci := 7) (q0 := 0) ⟨hx, hb, hml, hown, hts⟩ (c8_playerPart l (a := a) (X := X) hq70) (cwV 2 hts gv_X8_54 rfl rfl rfl hd8_playerPart ⟨Nat.le_of_ble_eq_true rfl, Nat.le_of_ble_eq_true rfl⟩) hK [0] rfl hA hG [0, 1] rfl rfl rfl rfl rfl rfl hl.1 rfl (Nat.le_of_ble_eq_true rfl) dX8_of_70 ⟨Nat.zero_le _, Nat.zero_le _⟩ (fun H locs hG9 => ?_)
      have hG : gd_W (dC, dI) A s (wd_M0 cI a X S) H locs := hG9
      exact gr_i hx hb hr hlocks hK hG (Option.some.inj h) dX8_of_73
    replace h := fo_if h hc
    have hn1 := lv_neT (a := 1) hc (by decide)
    have hm1 := hc
    clear hc
    by_cases hc : v2 = (2 : Int32)
    · have h := fo_it h hc
      refine W.eq (g2 := F0 m 11 ls [.int (2 : Int32)]) (by rw [hc]) ?_
      refine lv_tableIn (tgt := 74) hx hb dX8_of_11 (by decide) (by decide) rfl (by decide) ?_
      refine lv_aload_n hx hb dX8_of_74 rfl (lv_at hl 0 rfl) ?_
      refine lv_iload_n hx hb dX8_of_75 rfl (lv_at hl 1 rfl) ?_
      obtain ⟨q76, hq76, h⟩ := fo_bd_some h
      refine gc_iV (b := a 0) (C := RX8) (As := [.int v1]) (rest := []) (wc := (wd_M0 cI a X S)) (w1 := (wd_M0 cI a X S)) (ci := 7) (q0 := 0) ⟨hx, hb, hml, hown, hts⟩ (c8_ownedBy l (a := a) (X := X) hq76) (cwV 1 hts gv_X8_162 rfl rfl rfl hd8_ownedBy ⟨Nat.le_of_ble_eq_true rfl, Nat.le_of_ble_eq_true rfl⟩) hK [0] rfl hA hG [0, 1] rfl rfl rfl rfl rfl rfl hl.1 rfl (Nat.le_of_ble_eq_true rfl) dX8_of_76 ⟨Nat.zero_le _, Nat.zero_le _⟩ (fun H locs hG9 => ?_)
      have hG : gd_W (dC, dI) A s (wd_M0 cI a X S) H locs := hG9
      exact gr_i hx hb hr hlocks hK hG (Option.some.inj h) dX8_of_79
    replace h := fo_if h hc
    have hn2 := lv_neT (a := 2) hc (by decide)
    have hm2 := hc
    clear hc
    by_cases hc : v2 = (3 : Int32)
    · have h := fo_it h hc
      refine W.eq (g2 := F0 m 11 ls [.int (3 : Int32)]) (by rw [hc]) ?_
      refine lv_tableIn (tgt := 80) hx hb dX8_of_11 (by decide) (by decide) rfl (by decide) ?_
      refine lv_aload_n hx hb dX8_of_80 rfl (lv_at hl 0 rfl) ?_
      refine lv_iload_n hx hb dX8_of_81 rfl (lv_at hl 1 rfl) ?_
      obtain ⟨q82, hq82, h⟩ := fo_bd_some h
      refine gc_iV (b := a 0) (C := RX8) (As := [.int v1]) (rest := []) (wc := (wd_M0 cI a X S)) (w1 := (wd_M0 cI a X S)) (ci := 7) (q0 := 0) ⟨hx, hb, hml, hown, hts⟩ (c8_owedBy l (a := a) (X := X) hq82) (cwV 1 hts gv_X8_61 rfl rfl rfl hd8_owedBy ⟨Nat.le_of_ble_eq_true rfl, Nat.le_of_ble_eq_true rfl⟩) hK [0] rfl hA hG [0, 1] rfl rfl rfl rfl rfl rfl hl.1 rfl (Nat.le_of_ble_eq_true rfl) dX8_of_82 ⟨Nat.zero_le _, Nat.zero_le _⟩ (fun H locs hG9 => ?_)
      have hG : gd_W (dC, dI) A s (wd_M0 cI a X S) H locs := hG9
      exact gr_i hx hb hr hlocks hK hG (Option.some.inj h) dX8_of_85
    replace h := fo_if h hc
    have hn3 := lv_neT (a := 3) hc (by decide)
    have hm3 := hc
    clear hc
    by_cases hc : v2 = (4 : Int32)
    · have h := fo_it h hc
      refine W.eq (g2 := F0 m 11 ls [.int (4 : Int32)]) (by rw [hc]) ?_
      refine lv_tableIn (tgt := 86) hx hb dX8_of_11 (by decide) (by decide) rfl (by decide) ?_
      refine lv_aload_n hx hb dX8_of_86 rfl (lv_at hl 0 rfl) ?_
      refine lv_iload_n hx hb dX8_of_87 rfl (lv_at hl 1 rfl) ?_
      obtain ⟨q88, hq88, h⟩ := fo_bd_some h
      refine gc_iV (b := a 0) (C := RX8) (As := [.int v1]) (rest := []) (wc := (wd_M0 cI a X S)) (w1 := (wd_M0 cI a X S)) (ci := 7) (q0 := 0) ⟨hx, hb, hml, hown, hts⟩ (c8_owedTo l (a := a) (X := X) hq88) (cwV 1 hts gv_X8_165 rfl rfl rfl hd8_owedTo ⟨Nat.le_of_ble_eq_true rfl, Nat.le_of_ble_eq_true rfl⟩) hK [0] rfl hA hG [0, 1] rfl rfl rfl rfl rfl rfl hl.1 rfl (Nat.le_of_ble_eq_true rfl) dX8_of_88 ⟨Nat.zero_le _, Nat.zero_le _⟩ (fun H locs hG9 => ?_)
      have hG : gd_W (dC, dI) A s (wd_M0 cI a X S) H locs := hG9
      exact gr_i hx hb hr hlocks hK hG (Option.some.inj h) dX8_of_91
    replace h := fo_if h hc
    have hn4 := lv_neT (a := 4) hc (by decide)
    have hm4 := hc
    clear hc
    by_cases hc : v2 = (5 : Int32)
    · have h := fo_it h hc
      refine W.eq (g2 := F0 m 11 ls [.int (5 : Int32)]) (by rw [hc]) ?_
      refine lv_tableIn (tgt := 92) hx hb dX8_of_11 (by decide) (by decide) rfl (by decide) ?_
      refine lv_aload_n hx hb dX8_of_92 rfl (lv_at hl 0 rfl) ?_
      refine lv_iload_n hx hb dX8_of_93 rfl (lv_at hl 1 rfl) ?_
      refine lv_iconst (v := (2 : Int32)) hx hb dX8_of_94 (by decide) ?_
      obtain ⟨q95, hq95, h⟩ := fo_bd_some h
      refine gc_iV (b := a 0) (C := RX8) (As := [.int v1, .int (2 : Int32)]) (rest := []) (wc := (wd_M0 cI a X S)) (w1 := (wd_M0 cI a X S)) (ci := 7) (q0 := 0) ⟨hx, hb, hml, hown, hts⟩ (c8_playerPart l (a := a) (X := X) hq95) (cwV 2 hts gv_X8_54 rfl rfl rfl hd8_playerPart ⟨Nat.le_of_ble_eq_true rfl, Nat.le_of_ble_eq_true rfl⟩) hK [0] rfl hA hG [0, 1] rfl rfl rfl rfl rfl rfl hl.1 rfl (Nat.le_of_ble_eq_true rfl) dX8_of_95 ⟨Nat.zero_le _, Nat.zero_le _⟩ (fun H locs hG9 => ?_)
      have hG : gd_W (dC, dI) A s (wd_M0 cI a X S) H locs := hG9
      exact gr_i hx hb hr hlocks hK hG (Option.some.inj h) dX8_of_98
    replace h := fo_if h hc
    have hn5 := lv_neT (a := 5) hc (by decide)
    have hm5 := hc
    clear hc
    by_cases hc : v2 = (6 : Int32)
    · have h := fo_it h hc
      refine W.eq (g2 := F0 m 11 ls [.int (6 : Int32)]) (by rw [hc]) ?_
      refine lv_tableIn (tgt := 99) hx hb dX8_of_11 (by decide) (by decide) rfl (by decide) ?_
      refine lv_aload_n hx hb dX8_of_99 rfl (lv_at hl 0 rfl) ?_
      refine lv_iload_n hx hb dX8_of_100 rfl (lv_at hl 1 rfl) ?_
      refine lv_iconst (v := (3 : Int32)) hx hb dX8_of_101 (by decide) ?_
      obtain ⟨q102, hq102, h⟩ := fo_bd_some h
      refine gc_iV (b := a 0) (C := RX8) (As := [.int v1, .int (3 : Int32)]) (rest := []) (wc := (wd_M0 cI a X S)) (w1 := (wd_M0 cI a X S)) (ci := 7) (q0 := 0) ⟨hx, hb, hml, hown, hts⟩ (c8_playerPart l (a := a) (X := X) hq102) (cwV 2 hts gv_X8_54 rfl rfl rfl hd8_playerPart ⟨Nat.le_of_ble_eq_true rfl, Nat.le_of_ble_eq_true rfl⟩) hK [0] rfl hA hG [0, 1] rfl rfl rfl rfl rfl rfl hl.1 rfl (Nat.le_of_ble_eq_true rfl) dX8_of_102 ⟨Nat.zero_le _, Nat.zero_le _⟩ (fun H locs hG9 => ?_)
      have hG : gd_W (dC, dI) A s (wd_M0 cI a X S) H locs := hG9
      exact gr_i hx hb hr hlocks hK hG (Option.some.inj h) dX8_of_105
    replace h := fo_if h hc
    have hn6 := lv_neT (a := 6) hc (by decide)
    have hm6 := hc
    clear hc
    by_cases hc : v2 = (7 : Int32)
    · have h := fo_it h hc
      refine W.eq (g2 := F0 m 11 ls [.int (7 : Int32)]) (by rw [hc]) ?_
      refine lv_tableIn (tgt := 106) hx hb dX8_of_11 (by decide) (by decide) rfl (by decide) ?_
      refine lv_aload_n hx hb dX8_of_106 rfl (lv_at hl 0 rfl) ?_
      refine lv_iload_n hx hb dX8_of_107 rfl (lv_at hl 1 rfl) ?_
      refine lv_iconst (v := (4 : Int32)) hx hb dX8_of_108 (by decide) ?_
      obtain ⟨q109, hq109, h⟩ := fo_bd_some h
      refine gc_iV (b := a 0) (C := RX8) (As := [.int v1, .int (4 : Int32)]) (rest := []) (wc := (wd_M0 cI a X S)) (w1 := (wd_M0 cI a X S)) (ci := 7) (q0 := 0) ⟨hx, hb, hml, hown, hts⟩ (c8_playerPart l (a := a) (X := X) hq109) (cwV 2 hts gv_X8_54 rfl rfl rfl hd8_playerPart ⟨Nat.le_of_ble_eq_true rfl, Nat.le_of_ble_eq_true rfl⟩) hK [0] rfl hA hG [0, 1] rfl rfl rfl rfl rfl rfl hl.1 rfl (Nat.le_of_ble_eq_true rfl) dX8_of_109 ⟨Nat.zero_le _, Nat.zero_le _⟩ (fun H locs hG9 => ?_)
      have hG : gd_W (dC, dI) A s (wd_M0 cI a X S) H locs := hG9
      exact gr_i hx hb hr hlocks hK hG (Option.some.inj h) dX8_of_112
    replace h := fo_if h hc
    have hn7 := lv_neT (a := 7) hc (by decide)
    have hm7 := hc
    clear hc
    by_cases hc : v2 = (8 : Int32)
    · have h := fo_it h hc
      refine W.eq (g2 := F0 m 11 ls [.int (8 : Int32)]) (by rw [hc]) ?_
      refine lv_tableIn (tgt := 113) hx hb dX8_of_11 (by decide) (by decide) rfl (by decide) ?_
      refine lv_aload_n hx hb dX8_of_113 rfl (lv_at hl 0 rfl) ?_
      refine lv_iload_n hx hb dX8_of_114 rfl (lv_at hl 1 rfl) ?_
      refine lv_iconst (v := (5 : Int32)) hx hb dX8_of_115 (by decide) ?_
      obtain ⟨q116, hq116, h⟩ := fo_bd_some h
      refine gc_iV (b := a 0) (C := RX8) (As := [.int v1, .int (5 : Int32)]) (rest := []) (wc := (wd_M0 cI a X S)) (w1 := (wd_M0 cI a X S)) (ci := 7) (q0 := 0) ⟨hx, hb, hml, hown, hts⟩ (c8_playerPart l (a := a) (X := X) hq116) (cwV 2 hts gv_X8_54 rfl rfl rfl hd8_playerPart ⟨Nat.le_of_ble_eq_true rfl, Nat.le_of_ble_eq_true rfl⟩) hK [0] rfl hA hG [0, 1] rfl rfl rfl rfl rfl rfl hl.1 rfl (Nat.le_of_ble_eq_true rfl) dX8_of_116 ⟨Nat.zero_le _, Nat.zero_le _⟩ (fun H locs hG9 => ?_)
      have hG : gd_W (dC, dI) A s (wd_M0 cI a X S) H locs := hG9
      exact gr_i hx hb hr hlocks hK hG (Option.some.inj h) dX8_of_119
    replace h := fo_if h hc
    have hn8 := lv_neT (a := 8) hc (by decide)
    have hm8 := hc
    clear hc
    refine lv_tableOut (tgt := 120) hx hb dX8_of_11 (by omega) (by decide) ?_
    refine lv_bipush (v := (-2 : Int32)) hx hb dX8_of_120 (by decide) ?_
    exact gr_i hx hb hr hlocks hK hG (Option.some.inj h) dX8_of_122
  · have h := fo_it h hc
    refine lv_iconst (v := (-1 : Int32)) hx hb dX8_of_8 (by decide) ?_
    exact gr_i hx hb hr hlocks hK hG (Option.some.inj h) dX8_of_9
set_option maxRecDepth 100000 in
set_option maxHeartbeats 4000000 in
theorem c8_of (l : Launch) {dC : Nat → ClassId} {dI : Nat → Nat → Nat} {cI : ClassId} {a : Nat → Nat} {X : Nat → Int32} {v1 : Int32} {v2 : Int32} {S : (Nat → Int32)} {q : Int32} (h : f8_of v1 v2 S = some q) : mi_M l yX8_of wm8_of RM8_of (dC, dI) [(cI, .int)] [.ref (a 0), .int v1, .int v2] (wd_M0 cI a X S) q (wd_M0 cI a X S) := by
  intro sz
  refine Met.ofW (cc := cX8_of) (maxL := 3) (ret := (some .int)) (by decide) rfl ?_
  intro p e s m args below meth c s₁ B hml hv
  obtain ⟨rfl, hsz, hP, hK, hD0⟩ := hv
  subst hsz
  have hl := lv_entry ([.ref (a 0), .int v1, .int v2] : List Value) (n := 3) (Nat.le_of_ble_eq_true rfl)
  rw [lg_entry_eq]
  generalize (lg_sl ([.ref (a 0), .int v1, .int v2] : List Value) ++ List.replicate (3 - (lg_sl ([.ref (a 0), .int v1, .int v2] : List Value)).length) Slot.unset).toArray = ls at hl ⊢
  exact w8_of (a := a) ⟨B.exec, B.bytes, B.returns, fun w hw => atoms_spec (ws := wm8_of) B.pre w (List.mem_cons_of_mem _ hw), findClass_of_methodNamed B.named, B.notSynchronized, hml⟩ hK (fun _ h => Or.inr h) h ⟨hP, hD0.self, va_S.rf⟩ hl
end
/-! ## DiceRoadsModel.ofSquare(II)I -/
section
variable {p : Program} {l : Launch} {e : Env} {s : State} {m : MethodId} {args : Array Value} {below : List Frame} {meth : Method} {c : Code} {dC : Nat → ClassId} {dI : Nat → Nat → Nat} {cI : ClassId} {A : Nat → Prop}
set_option maxRecDepth 100000 in
set_option maxHeartbeats 4000000 in
theorem w8_ofSquare (C : cx_M p s m args meth c RX8 cX8_ofSquare (some .int) 3) (hK : va_K (dC, dI) vwCl [(cI, .int)] s) (hA : ∀ q, s.heap.size ≤ q → A q) {a : Nat → Nat} {X : Nat → Int32} {q : Int32} {v1 : Int32} {v2 : Int32} {S : (Nat → Int32)} (h : f8_ofSquare v1 v2 S = some q) {H : Heap} {locs : List Loc} {ls : Array Slot} (hG : gd_W (dC, dI) A s (wd_M0 cI a X S) H locs) (hl : lv_has ls 3 [(0, .ref (a 0)), (1, .int v1), (2, .int v2)]) : W p l e RM8_ofSquare s m args below meth c H locs 0 0 (MQ below (qi_W (dC, dI) [(cI, .int)] A q (wd_M0 cI a X S)) args s 0 0 A) (F0 m 0 ls []) := by
  unfold f8_ofSquare at h
  obtain ⟨hx, hb, hr, hts, hown, hlocks, hml⟩ := id C
  refine lv_iload_n hx hb dX8_ofSquare_0 rfl (lv_at hl 1 rfl) ?_
  obtain ⟨q1, hq1, h⟩ := fo_bd_some h
  refine gc_iS (As := [.int v1]) (rest := []) (wc := ([] : va_W)) (w1 := ([] : va_W)) ⟨hx, hb, hml, hown, hts⟩ (c8_isSquare l (a := a) hq1) (va_cwS 1 hts gv_X8_168 rfl rfl rfl hd8_isSquare ⟨Nat.le_of_ble_eq_true rfl, Nat.le_of_ble_eq_true rfl⟩) hK [] rfl hA hG [] rfl rfl rfl rfl hl.1 rfl (Nat.le_of_ble_eq_true rfl) dX8_ofSquare_1 ⟨Nat.zero_le _, Nat.zero_le _⟩ (fun H locs hG9 => ?_)
  have hG : gd_W (dC, dI) A s (wd_M0 cI a X S) H locs := hG9
  refine lv_if_ne (tgt := 9) hx hb dX8_ofSquare_4 (by decide) (fun hc => ?_) (fun hc => ?_)
  · have h := fo_if h hc
    refine lv_iload_n hx hb dX8_ofSquare_9 rfl (lv_at hl 2 rfl) ?_
    by_cases hc : v2 = (0 : Int32)
    · have h := fo_it h hc
      refine W.eq (g2 := F0 m 10 ls [.int (0 : Int32)]) (by rw [hc]) ?_
      refine lv_tableIn (tgt := 44) hx hb dX8_ofSquare_10 (by decide) (by decide) rfl (by decide) ?_
      refine lv_iload_n hx hb dX8_ofSquare_44 rfl (lv_at hl 1 rfl) ?_
      obtain ⟨q45, hq45, h⟩ := fo_bd_some h
      refine gc_iS (As := [.int v1]) (rest := []) (wc := ([] : va_W)) (w1 := ([] : va_W)) ⟨hx, hb, hml, hown, hts⟩ (c8_sortOf l (a := a) hq45) (va_cwS 1 hts gv_X8_57 rfl rfl rfl hd8_sortOf ⟨Nat.le_of_ble_eq_true rfl, Nat.le_of_ble_eq_true rfl⟩) hK [] rfl hA hG [] rfl rfl rfl rfl hl.1 rfl (Nat.le_of_ble_eq_true rfl) dX8_ofSquare_45 ⟨Nat.zero_le _, Nat.zero_le _⟩ (fun H locs hG9 => ?_)
      have hG : gd_W (dC, dI) A s (wd_M0 cI a X S) H locs := hG9
      exact gr_i hx hb hr hlocks hK hG (Option.some.inj h) dX8_ofSquare_48
    replace h := fo_if h hc
    have hn0 := lv_neT (a := 0) hc (by decide)
    have hm0 := hc
    clear hc
    by_cases hc : v2 = (1 : Int32)
    · have h := fo_it h hc
      refine W.eq (g2 := F0 m 10 ls [.int (1 : Int32)]) (by rw [hc]) ?_
      refine lv_tableIn (tgt := 49) hx hb dX8_ofSquare_10 (by decide) (by decide) rfl (by decide) ?_
      refine lv_aload_n hx hb dX8_ofSquare_49 rfl (lv_at hl 0 rfl) ?_
      refine va_get (D := (dC, dI)) (ci := 7) (v := .ref (a 1)) (C := RX8) (T := TX8) (N := 17) hx hb hts inlX8 hown hK hG.1 0 rfl rfl 0 (by decide) (hts (Cond.fieldLink RX8 7 "DiceRoadsModel" "state" "[I") wq_637) (fun _ h9 => h9) rfl dX8_ofSquare_50 ?_
      refine lv_bipush (v := (11 : Int32)) hx hb dX8_ofSquare_53 (by decide) ?_
      refine lv_iload_n hx hb dX8_ofSquare_55 rfl (lv_at hl 1 rfl) ?_
      refine lv_iadd hx hb dX8_ofSquare_56 ?_
      obtain ⟨hi, h⟩ := fo_ck_some h
      refine va_iald hx hb hK hG.1 1 0 rfl rfl hi dX8_ofSquare_57 ?_
      exact gr_i hx hb hr hlocks hK hG (Option.some.inj h) dX8_ofSquare_58
    replace h := fo_if h hc
    have hn1 := lv_neT (a := 1) hc (by decide)
    have hm1 := hc
    clear hc
    by_cases hc : v2 = (2 : Int32)
    · have h := fo_it h hc
      refine W.eq (g2 := F0 m 10 ls [.int (2 : Int32)]) (by rw [hc]) ?_
      refine lv_tableIn (tgt := 59) hx hb dX8_ofSquare_10 (by decide) (by decide) rfl (by decide) ?_
      refine lv_aload_n hx hb dX8_ofSquare_59 rfl (lv_at hl 0 rfl) ?_
      refine va_get (D := (dC, dI)) (ci := 7) (v := .ref (a 1)) (C := RX8) (T := TX8) (N := 17) hx hb hts inlX8 hown hK hG.1 0 rfl rfl 0 (by decide) (hts (Cond.fieldLink RX8 7 "DiceRoadsModel" "state" "[I") wq_637) (fun _ h9 => h9) rfl dX8_ofSquare_60 ?_
      refine lv_bipush (v := (31 : Int32)) hx hb dX8_ofSquare_63 (by decide) ?_
      refine lv_iload_n hx hb dX8_ofSquare_65 rfl (lv_at hl 1 rfl) ?_
      refine lv_iadd hx hb dX8_ofSquare_66 ?_
      obtain ⟨hi, h⟩ := fo_ck_some h
      refine va_iald hx hb hK hG.1 1 0 rfl rfl hi dX8_ofSquare_67 ?_
      exact gr_i hx hb hr hlocks hK hG (Option.some.inj h) dX8_ofSquare_68
    replace h := fo_if h hc
    have hn2 := lv_neT (a := 2) hc (by decide)
    have hm2 := hc
    clear hc
    by_cases hc : v2 = (3 : Int32)
    · have h := fo_it h hc
      refine W.eq (g2 := F0 m 10 ls [.int (3 : Int32)]) (by rw [hc]) ?_
      refine lv_tableIn (tgt := 69) hx hb dX8_ofSquare_10 (by decide) (by decide) rfl (by decide) ?_
      refine lv_aload_n hx hb dX8_ofSquare_69 rfl (lv_at hl 0 rfl) ?_
      refine lv_iload_n hx hb dX8_ofSquare_70 rfl (lv_at hl 1 rfl) ?_
      obtain ⟨q71, hq71, h⟩ := fo_bd_some h
      refine gc_iV (b := a 0) (C := RX8) (As := [.int v1]) (rest := []) (wc := (wd_M0 cI a X S)) (w1 := (wd_M0 cI a X S)) (ci := 7) (q0 := 0) ⟨hx, hb, hml, hown, hts⟩ (c8_tollOf l (a := a) (X := X) hq71) (cwV 1 hts gv_X8_94 rfl rfl rfl hd8_tollOf ⟨Nat.le_of_ble_eq_true rfl, Nat.le_of_ble_eq_true rfl⟩) hK [0] rfl hA hG [0, 1] rfl rfl rfl rfl rfl rfl hl.1 rfl (Nat.le_of_ble_eq_true rfl) dX8_ofSquare_71 ⟨Nat.zero_le _, Nat.zero_le _⟩ (fun H locs hG9 => ?_)
      have hG : gd_W (dC, dI) A s (wd_M0 cI a X S) H locs := hG9
      exact gr_i hx hb hr hlocks hK hG (Option.some.inj h) dX8_ofSquare_74
    replace h := fo_if h hc
    have hn3 := lv_neT (a := 3) hc (by decide)
    have hm3 := hc
    clear hc
    by_cases hc : v2 = (4 : Int32)
    · have h := fo_it h hc
      refine W.eq (g2 := F0 m 10 ls [.int (4 : Int32)]) (by rw [hc]) ?_
      refine lv_tableIn (tgt := 75) hx hb dX8_ofSquare_10 (by decide) (by decide) rfl (by decide) ?_
      refine lv_aload_n hx hb dX8_ofSquare_75 rfl (lv_at hl 0 rfl) ?_
      refine lv_iload_n hx hb dX8_ofSquare_76 rfl (lv_at hl 1 rfl) ?_
      obtain ⟨q77, hq77, h⟩ := fo_bd_some h
      refine gc_iV (b := a 0) (C := RX8) (As := [.int v1]) (rest := []) (wc := (wd_M0 cI a X S)) (w1 := (wd_M0 cI a X S)) (ci := 7) (q0 := 0) ⟨hx, hb, hml, hown, hts⟩ (c8_standingAt l (a := a) (X := X) hq77) (cwV 1 hts gv_X8_171 rfl rfl rfl hd8_standingAt ⟨Nat.le_of_ble_eq_true rfl, Nat.le_of_ble_eq_true rfl⟩) hK [0] rfl hA hG [0, 1] rfl rfl rfl rfl rfl rfl hl.1 rfl (Nat.le_of_ble_eq_true rfl) dX8_ofSquare_77 ⟨Nat.zero_le _, Nat.zero_le _⟩ (fun H locs hG9 => ?_)
      have hG : gd_W (dC, dI) A s (wd_M0 cI a X S) H locs := hG9
      exact gr_i hx hb hr hlocks hK hG (Option.some.inj h) dX8_ofSquare_80
    replace h := fo_if h hc
    have hn4 := lv_neT (a := 4) hc (by decide)
    have hm4 := hc
    clear hc
    refine lv_tableOut (tgt := 81) hx hb dX8_ofSquare_10 (by omega) (by decide) ?_
    refine lv_bipush (v := (-2 : Int32)) hx hb dX8_ofSquare_81 (by decide) ?_
    exact gr_i hx hb hr hlocks hK hG (Option.some.inj h) dX8_ofSquare_83
  · have h := fo_it h hc
    refine lv_iconst (v := (-1 : Int32)) hx hb dX8_ofSquare_7 (by decide) ?_
    exact gr_i hx hb hr hlocks hK hG (Option.some.inj h) dX8_ofSquare_8
set_option maxRecDepth 100000 in
set_option maxHeartbeats 4000000 in
theorem c8_ofSquare (l : Launch) {dC : Nat → ClassId} {dI : Nat → Nat → Nat} {cI : ClassId} {a : Nat → Nat} {X : Nat → Int32} {v1 : Int32} {v2 : Int32} {S : (Nat → Int32)} {q : Int32} (h : f8_ofSquare v1 v2 S = some q) : mi_M l yX8_ofSquare wm8_ofSquare RM8_ofSquare (dC, dI) [(cI, .int)] [.ref (a 0), .int v1, .int v2] (wd_M0 cI a X S) q (wd_M0 cI a X S) := by
  intro sz
  refine Met.ofW (cc := cX8_ofSquare) (maxL := 3) (ret := (some .int)) (by decide) rfl ?_
  intro p e s m args below meth c s₁ B hml hv
  obtain ⟨rfl, hsz, hP, hK, hD0⟩ := hv
  subst hsz
  have hl := lv_entry ([.ref (a 0), .int v1, .int v2] : List Value) (n := 3) (Nat.le_of_ble_eq_true rfl)
  rw [lg_entry_eq]
  generalize (lg_sl ([.ref (a 0), .int v1, .int v2] : List Value) ++ List.replicate (3 - (lg_sl ([.ref (a 0), .int v1, .int v2] : List Value)).length) Slot.unset).toArray = ls at hl ⊢
  exact w8_ofSquare (a := a) ⟨B.exec, B.bytes, B.returns, fun w hw => atoms_spec (ws := wm8_ofSquare) B.pre w (List.mem_cons_of_mem _ hw), findClass_of_methodNamed B.named, B.notSynchronized, hml⟩ hK (fun _ h => Or.inr h) h ⟨hP, hD0.self, va_S.rf⟩ hl
end
