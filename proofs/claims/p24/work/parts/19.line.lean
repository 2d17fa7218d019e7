def li_0 (g : Nat) : ms_T := fun k => match k with | 0 => fl_R g (-1) | _ => fun _ => 0
/-! ## constructor of class 3 -/
abbrev RM3_init80 : Room := { frames := 2, cells := 2, slots := 82, locals := 53 }
def wm3_init : List Cond := .code yX3_init cX3_init 2 none :: bg_L
set_option maxRecDepth 100000 in
set_option maxHeartbeats 4000000 in
theorem c3_init80 (l : Launch) {dC : Nat → ClassId} {dI : Nat → Nat → Nat} {cI : ClassId} {o : Nat} : mk_M l yX3_init wm3_init RM3_init80 (dC, dI) [(cI, .int)] [.ref o, .int 80] [(o, .inr (3, [.null, .int 0, .int 0]))] 2 82 (fun a => wd_L cI a 80 (li_0 80)) o := by
  intro sz
  refine Met.ofW (cc := cX3_init) (maxL := 2) (ret := none) (by decide) rfl ?_
  intro p e s m args below meth c s₁ B hml hv
  obtain ⟨rfl, hsz, hP, hK, hD0⟩ := hv
  have hin : meth.name = "<init>" := (name_of_methodNamed B.named B.method).1
  subst hsz
  have C : cx_M p s m ([.ref o, .int 80] : List Value).toArray meth c RX3 cX3_init none 2 := ⟨B.exec, B.bytes, B.returns, fun w hw => atoms_spec (ws := wm3_init) B.pre w (List.mem_cons_of_mem _ hw), findClass_of_methodNamed B.named, B.notSynchronized, hml⟩
  obtain ⟨hx, hb, hr, hts, hown, hlocks, -⟩ := id C
  have hD := hD0.self (sz := s.heap.size)
  generalize hAe : va_A [(o, .inr (3, [.null, .int 0, .int 0]))] s.heap.size = A at hD ⊢
  have hA : ∀ q : Nat, s.heap.size ≤ q → A q := fun q h => by rw [← hAe]; exact Or.inr h
  have hl := lv_entry ([.ref o, .int 80] : List Value) (n := 2) (Nat.le_of_ble_eq_true rfl)
  rw [lg_entry_eq]
  generalize (lg_sl ([.ref o, .int 80] : List Value) ++ List.replicate (2 - (lg_sl ([.ref o, .int 80] : List Value)).length) Slot.unset).toArray = ls at hl ⊢
  have hl : lv_has ls 2 [(0, .ref o), (1, .int 80)] := hl
  have hG : gd_W (dC, dI) A s [(o, .inr (3, [.null, .int 0, .int 0]))] s.heap [] := ⟨hP, hD, va_S.rf⟩
  refine lv_aload_n hx hb dX3_init_0 rfl (lv_at hl 0 rfl) ?_
  refine W.objInit hx hb hown (hts _ wr_160) (hts _ wr_25) (hts _ wr_26) rfl (by rw [hml]; exact hl.1) rfl dX3_init_1 (Nat.le_of_ble_eq_true rfl) (Nat.le_of_ble_eq_true rfl) ?_
  refine W.eq (g2 := F0 m 4 ls []) rfl ?_
  refine lv_aload_n hx hb dX3_init_4 rfl (lv_at hl 0 rfl) ?_
  refine lv_iconst (v := 0) hx hb dX3_init_5 (by decide) ?_
  refine va_put (D := (dC, dI)) (ci := 3) (v := .int 0) (ty := .int) (C := RX3) (T := TX3) (N := 3) hx hb hts inlX3 tyX3 tyX3_ok nmX3 hown hK hG.1 hG.2.1 hG.2.2 0 rfl rfl 2 (by decide) (hts _ wr_165) (fun _ h9 => h9) rfl (by decide +kernel) rfl rfl (Nat.le_of_ble_eq_true rfl) dX3_init_6 (fun H locs hP9 hD9 hS9 => ?_)
  have hG : gd_W (dC, dI) A s ([(o, .inr (3, [.null, .int 0, .int 0]))]) H locs := ⟨hP9, hD9, hS9⟩
  refine lv_aload_n hx hb dX3_init_9 rfl (lv_at hl 0 rfl) ?_
  refine va_new (ci := 5) (fs := [.null, .int 0]) (C := RX6) (T := TX6) (N := 2) hx hb hts inlX6 tyX6 tyX6_ok hown (hts _ wr_161) (hts _ wr_40) (hts _ wr_14) hK hG.1 hG.2.1 hG.2.2 hA rfl (fun j hj => by rcases (show j = 0 ∨ j = 1 by omega) with rfl | rfl <;> rfl) (Nat.le_of_ble_eq_true rfl) (Nat.le_of_ble_eq_true rfl) dX3_init_10 (fun q1 H hP9 hD9 hS9 => ?_)
  have hG : gd_W (dC, dI) A s ([(o, .inr (3, [.null, .int 0, .int 0]))] ++ [(q1, .inr (5, [.null, .int 0]))]) H _ := ⟨hP9, hD9, hS9⟩
  refine lv_dup hx hb dX3_init_13 rfl ?_
  refine lv_iload_n hx hb dX3_init_14 rfl (lv_at hl 1 rfl) ?_
  refine lv_iconst (v := -1) hx hb dX3_init_15 (by decide) ?_
  refine gk_I (q := q1) (As := [.int 80, .int (-1)]) (rest := [.ref q1, .ref o]) (ws := [(o, .inr (3, [.null, .int 0, .int 0]))]) (w1 := fun a1 => wd_R cI a1 (-1) 80 (fl_R 80 (-1))) ⟨hx, hb, hml, hown, hts⟩ (c6_init l (z := 80) (v := (-1)) (by decide)) (cwI 2 hts (gb_I wr_43) rfl rfl rfl (hts _ wr_14) (hts _ wr_162) (hts _ wr_42) rfl (by decide +kernel) ⟨Nat.le_of_ble_eq_true rfl, Nat.le_of_ble_eq_true rfl⟩) hK [0] rfl hA hG rfl hl.1 rfl (Nat.le_of_ble_eq_true rfl) dX3_init_16 ⟨Nat.le_of_ble_eq_true rfl, Nat.le_of_ble_eq_true rfl⟩ (fun a1 H locs ha hG8 => ?_)
  subst ha
  have hG := hG8
  refine va_putF (D := (dC, dI)) (ci := 3) (v := .ref (a1 0)) (ty := .object "DiceRoads$Row") (C := RX3) (T := TX3) (N := 3) hx hb hts inlX3 tyX3 tyX3_ok nmX3 hown hK hG.1 hG.2.1 hG.2.2 0 rfl rfl 0 (by decide) (hts _ wr_163) (fun _ h9 => h9) rfl hin rfl (by decide +kernel) rfl rfl (Nat.le_of_ble_eq_true rfl) dX3_init_19 (fun H locs hP9 hD9 hS9 => ?_)
  have hG : gd_W (dC, dI) A s ([(o, .inr (3, [.ref (a1 0), .int 0, .int 0]))] ++ wd_R cI a1 (-1) 80 (fl_R 80 (-1))) H locs := ⟨hP9, hD9, hS9⟩
  refine lv_aload_n hx hb dX3_init_22 rfl (lv_at hl 0 rfl) ?_
  refine lv_iload_n hx hb dX3_init_23 rfl (lv_at hl 1 rfl) ?_
  refine va_putF (D := (dC, dI)) (ci := 3) (v := .int 80) (ty := .int) (C := RX3) (T := TX3) (N := 3) hx hb hts inlX3 tyX3 tyX3_ok nmX3 hown hK hG.1 hG.2.1 hG.2.2 0 rfl rfl 1 (by decide) (hts _ wr_164) (fun _ h9 => h9) rfl hin rfl (by decide +kernel) rfl rfl (Nat.le_of_ble_eq_true rfl) dX3_init_24 (fun H locs hP9 hD9 hS9 => ?_)
  have hG : gd_W (dC, dI) A s ([(o, .inr (3, [.ref (a1 0), .int 80, .int 0]))] ++ wd_R cI a1 (-1) 80 (fl_R 80 (-1))) H locs := ⟨hP9, hD9, hS9⟩
  obtain ⟨hP, hD, hS⟩ := hG
  refine W.widen (k := 2) (n := 82) (Nat.le_of_ble_eq_true rfl) (Nat.le_of_ble_eq_true rfl) ?_
  exact W.vret hx hb hr (fun t ht hW => ⟨⟨(fun k => match k with | 0 => o | 1 => a1 0 | _ => a1 1), rfl, rfl, by rw [ht]; exact hP, va_K.moved hW.alike hK, hD⟩, hS.F ht⟩) hS.2.2 dX3_init_27

/-! ## constructor of class 3 -/
abbrev RM3_init44 : Room := { frames := 2, cells := 2, slots := 46, locals := 53 }
set_option maxRecDepth 100000 in
set_option maxHeartbeats 4000000 in
theorem c3_init44 (l : Launch) {dC : Nat → ClassId} {dI : Nat → Nat → Nat} {cI : ClassId} {o : Nat} : mk_M l yX3_init wm3_init RM3_init44 (dC, dI) [(cI, .int)] [.ref o, .int 44] [(o, .inr (3, [.null, .int 0, .int 0]))] 2 46 (fun a => wd_L cI a 44 (li_0 44)) o := by
  intro sz
  refine Met.ofW (cc := cX3_init) (maxL := 2) (ret := none) (by decide) rfl ?_
  intro p e s m args below meth c s₁ B hml hv
  obtain ⟨rfl, hsz, hP, hK, hD0⟩ := hv
  have hin : meth.name = "<init>" := (name_of_methodNamed B.named B.method).1
  subst hsz
  have C : cx_M p s m ([.ref o, .int 44] : List Value).toArray meth c RX3 cX3_init none 2 := ⟨B.exec, B.bytes, B.returns, fun w hw => atoms_spec (ws := wm3_init) B.pre w (List.mem_cons_of_mem _ hw), findClass_of_methodNamed B.named, B.notSynchronized, hml⟩
  obtain ⟨hx, hb, hr, hts, hown, hlocks, -⟩ := id C
  have hD := hD0.self (sz := s.heap.size)
  generalize hAe : va_A [(o, .inr (3, [.null, .int 0, .int 0]))] s.heap.size = A at hD ⊢
  have hA : ∀ q : Nat, s.heap.size ≤ q → A q := fun q h => by rw [← hAe]; exact Or.inr h
  have hl := lv_entry ([.ref o, .int 44] : List Value) (n := 2) (Nat.le_of_ble_eq_true rfl)
  rw [lg_entry_eq]
  generalize (lg_sl ([.ref o, .int 44] : List Value) ++ List.replicate (2 - (lg_sl ([.ref o, .int 44] : List Value)).length) Slot.unset).toArray = ls at hl ⊢
  have hl : lv_has ls 2 [(0, .ref o), (1, .int 44)] := hl
  have hG : gd_W (dC, dI) A s [(o, .inr (3, [.null, .int 0, .int 0]))] s.heap [] := ⟨hP, hD, va_S.rf⟩
  refine lv_aload_n hx hb dX3_init_0 rfl (lv_at hl 0 rfl) ?_
  refine W.objInit hx hb hown (hts _ wr_160) (hts _ wr_25) (hts _ wr_26) rfl (by rw [hml]; exact hl.1) rfl dX3_init_1 (Nat.le_of_ble_eq_true rfl) (Nat.le_of_ble_eq_true rfl) ?_
  refine W.eq (g2 := F0 m 4 ls []) rfl ?_
  refine lv_aload_n hx hb dX3_init_4 rfl (lv_at hl 0 rfl) ?_
  refine lv_iconst (v := 0) hx hb dX3_init_5 (by decide) ?_
  refine va_put (D := (dC, dI)) (ci := 3) (v := .int 0) (ty := .int) (C := RX3) (T := TX3) (N := 3) hx hb hts inlX3 tyX3 tyX3_ok nmX3 hown hK hG.1 hG.2.1 hG.2.2 0 rfl rfl 2 (by decide) (hts _ wr_165) (fun _ h9 => h9) rfl (by decide +kernel) rfl rfl (Nat.le_of_ble_eq_true rfl) dX3_init_6 (fun H locs hP9 hD9 hS9 => ?_)
  have hG : gd_W (dC, dI) A s ([(o, .inr (3, [.null, .int 0, .int 0]))]) H locs := ⟨hP9, hD9, hS9⟩
  refine lv_aload_n hx hb dX3_init_9 rfl (lv_at hl 0 rfl) ?_
  refine va_new (ci := 5) (fs := [.null, .int 0]) (C := RX6) (T := TX6) (N := 2) hx hb hts inlX6 tyX6 tyX6_ok hown (hts _ wr_161) (hts _ wr_40) (hts _ wr_14) hK hG.1 hG.2.1 hG.2.2 hA rfl (fun j hj => by rcases (show j = 0 ∨ j = 1 by omega) with rfl | rfl <;> rfl) (Nat.le_of_ble_eq_true rfl) (Nat.le_of_ble_eq_true rfl) dX3_init_10 (fun q1 H hP9 hD9 hS9 => ?_)
  have hG : gd_W (dC, dI) A s ([(o, .inr (3, [.null, .int 0, .int 0]))] ++ [(q1, .inr (5, [.null, .int 0]))]) H _ := ⟨hP9, hD9, hS9⟩
  refine lv_dup hx hb dX3_init_13 rfl ?_
  refine lv_iload_n hx hb dX3_init_14 rfl (lv_at hl 1 rfl) ?_
  refine lv_iconst (v := -1) hx hb dX3_init_15 (by decide) ?_
  refine gk_I (q := q1) (As := [.int 44, .int (-1)]) (rest := [.ref q1, .ref o]) (ws := [(o, .inr (3, [.null, .int 0, .int 0]))]) (w1 := fun a1 => wd_R cI a1 (-1) 44 (fl_R 44 (-1))) ⟨hx, hb, hml, hown, hts⟩ (c6_init l (z := 44) (v := (-1)) (by decide)) (cwI 2 hts (gb_I wr_43) rfl rfl rfl (hts _ wr_14) (hts _ wr_162) (hts _ wr_42) rfl (by decide +kernel) ⟨Nat.le_of_ble_eq_true rfl, Nat.le_of_ble_eq_true rfl⟩) hK [0] rfl hA hG rfl hl.1 rfl (Nat.le_of_ble_eq_true rfl) dX3_init_16 ⟨Nat.le_of_ble_eq_true rfl, Nat.le_of_ble_eq_true rfl⟩ (fun a1 H locs ha hG8 => ?_)
  subst ha
  have hG := hG8
  refine va_putF (D := (dC, dI)) (ci := 3) (v := .ref (a1 0)) (ty := .object "DiceRoads$Row") (C := RX3) (T := TX3) (N := 3) hx hb hts inlX3 tyX3 tyX3_ok nmX3 hown hK hG.1 hG.2.1 hG.2.2 0 rfl rfl 0 (by decide) (hts _ wr_163) (fun _ h9 => h9) rfl hin rfl (by decide +kernel) rfl rfl (Nat.le_of_ble_eq_true rfl) dX3_init_19 (fun H locs hP9 hD9 hS9 => ?_)
  have hG : gd_W (dC, dI) A s ([(o, .inr (3, [.ref (a1 0), .int 0, .int 0]))] ++ wd_R cI a1 (-1) 44 (fl_R 44 (-1))) H locs := ⟨hP9, hD9, hS9⟩
  refine lv_aload_n hx hb dX3_init_22 rfl (lv_at hl 0 rfl) ?_
  refine lv_iload_n hx hb dX3_init_23 rfl (lv_at hl 1 rfl) ?_
  refine va_putF (D := (dC, dI)) (ci := 3) (v := .int 44) (ty := .int) (C := RX3) (T := TX3) (N := 3) hx hb hts inlX3 tyX3 tyX3_ok nmX3 hown hK hG.1 hG.2.1 hG.2.2 0 rfl rfl 1 (by decide) (hts _ wr_164) (fun _ h9 => h9) rfl hin rfl (by decide +kernel) rfl rfl (Nat.le_of_ble_eq_true rfl) dX3_init_24 (fun H locs hP9 hD9 hS9 => ?_)
  have hG : gd_W (dC, dI) A s ([(o, .inr (3, [.ref (a1 0), .int 44, .int 0]))] ++ wd_R cI a1 (-1) 44 (fl_R 44 (-1))) H locs := ⟨hP9, hD9, hS9⟩
  obtain ⟨hP, hD, hS⟩ := hG
  refine W.widen (k := 2) (n := 46) (Nat.le_of_ble_eq_true rfl) (Nat.le_of_ble_eq_true rfl) ?_
  exact W.vret hx hb hr (fun t ht hW => ⟨⟨(fun k => match k with | 0 => o | 1 => a1 0 | _ => a1 1), rfl, rfl, by rw [ht]; exact hP, va_K.moved hW.alike hK, hD⟩, hS.F ht⟩) hS.2.2 dX3_init_27

