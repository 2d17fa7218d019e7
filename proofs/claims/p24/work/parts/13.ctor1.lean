theorem gb_I {k : Cond} (h : k ∈ bg_L) : GoodIn bg_L (k :: bg_L) := by
  intro w hw
  refine bg_good ?_
  rcases List.mem_cons.mp hw with rfl | hw
  · exact h
  · exact hw

/-! ## constructor of class 5 -/
abbrev RM5_init : Room := { frames := 2, cells := 4, slots := 44, locals := 53 }
def wm5_init : List Cond := .code yX5_init cX5_init 1 none :: bg_L
set_option maxRecDepth 100000 in
set_option maxHeartbeats 4000000 in
theorem c5_init (l : Launch) {dC : Nat → ClassId} {dI : Nat → Nat → Nat} {cI : ClassId} {o : Nat} : mk_M l yX5_init wm5_init RM5_init (dC, dI) [(cI, .int)] [.ref o] [(o, .inr (4, [.null, .null]))] 4 44 (fun a => wd_O cI a (fun _ => fl_R 20 (-6))) o := by
  intro sz
  refine Met.ofW (cc := cX5_init) (maxL := 1) (ret := none) (by decide) rfl ?_
  intro p e s m args below meth c s₁ B hml hv
  obtain ⟨rfl, hsz, hP, hK, hD0⟩ := hv
  have hin : meth.name = "<init>" := (name_of_methodNamed B.named B.method).1
  subst hsz
  have C : cx_M p s m ([.ref o] : List Value).toArray meth c RX5 cX5_init none 1 := ⟨B.exec, B.bytes, B.returns, fun w hw => atoms_spec (ws := wm5_init) B.pre w (List.mem_cons_of_mem _ hw), findClass_of_methodNamed B.named, B.notSynchronized, hml⟩
  obtain ⟨hx, hb, hr, hts, hown, hlocks, -⟩ := id C
  have hD := hD0.self (sz := s.heap.size)
  generalize hAe : va_A [(o, .inr (4, [.null, .null]))] s.heap.size = A at hD ⊢
  have hA : ∀ q : Nat, s.heap.size ≤ q → A q := fun q h => by rw [← hAe]; exact Or.inr h
  have hl := lv_entry ([.ref o] : List Value) (n := 1) (Nat.le_of_ble_eq_true rfl)
  rw [lg_entry_eq]
  generalize (lg_sl ([.ref o] : List Value) ++ List.replicate (1 - (lg_sl ([.ref o] : List Value)).length) Slot.unset).toArray = ls at hl ⊢
  have hl : lv_has ls 1 [(0, .ref o)] := hl
  have hG : gd_W (dC, dI) A s [(o, .inr (4, [.null, .null]))] s.heap [] := ⟨hP, hD, va_S.rf⟩
  refine lv_aload_n hx hb dX5_init_0 rfl (lv_at hl 0 rfl) ?_
  refine W.objInit hx hb hown (hts _ wr_38) (hts _ wr_25) (hts _ wr_26) rfl (by rw [hml]; exact hl.1) rfl dX5_init_1 (Nat.le_of_ble_eq_true rfl) (Nat.le_of_ble_eq_true rfl) ?_
  refine W.eq (g2 := F0 m 4 ls []) rfl ?_
  refine lv_aload_n hx hb dX5_init_4 rfl (lv_at hl 0 rfl) ?_
  refine va_new (ci := 5) (fs := [.null, .int 0]) (C := RX6) (T := TX6) (N := 2) hx hb hts inlX6 tyX6 tyX6_ok hown (hts _ wr_39) (hts _ wr_40) (hts _ wr_14) hK hG.1 hG.2.1 hG.2.2 hA rfl (fun j hj => by rcases (show j = 0 ∨ j = 1 by omega) with rfl | rfl <;> rfl) (Nat.le_of_ble_eq_true rfl) (Nat.le_of_ble_eq_true rfl) dX5_init_5 (fun q1 H hP9 hD9 hS9 => ?_)
  have hG : gd_W (dC, dI) A s ([(o, .inr (4, [.null, .null]))] ++ [(q1, .inr (5, [.null, .int 0]))]) H _ := ⟨hP9, hD9, hS9⟩
  refine lv_dup hx hb dX5_init_8 rfl ?_
  refine lv_bipush (v := 20) hx hb dX5_init_9 (by decide) ?_
  refine lv_bipush (v := -6) hx hb dX5_init_11 (by decide) ?_
  refine gk_I (q := q1) (As := [.int 20, .int (-6)]) (rest := [.ref q1, .ref o]) (ws := [(o, .inr (4, [.null, .null]))]) (w1 := fun a1 => wd_R cI a1 (-6) 20 (fl_R 20 (-6))) ⟨hx, hb, hml, hown, hts⟩ (c6_init l (z := 20) (v := (-6)) (by decide)) (cwI 2 hts (gb_I wr_43) rfl rfl rfl (hts _ wr_14) (hts _ wr_41) (hts _ wr_42) rfl (by decide +kernel) ⟨Nat.le_of_ble_eq_true rfl, Nat.le_of_ble_eq_true rfl⟩) hK [0] rfl hA hG rfl hl.1 rfl (Nat.le_of_ble_eq_true rfl) dX5_init_13 ⟨Nat.le_of_ble_eq_true rfl, Nat.le_of_ble_eq_true rfl⟩ (fun a1 H locs ha hG8 => ?_)
  subst ha
  have hG := hG8
  refine va_putF (D := (dC, dI)) (ci := 4) (v := .ref (a1 0)) (ty := .object "DiceRoads$Row") (C := RX5) (T := TX5) (N := 2) hx hb hts inlX5 tyX5 tyX5_ok nmX5 hown hK hG.1 hG.2.1 hG.2.2 0 rfl rfl 0 (by decide) (hts _ wr_56) (fun _ h9 => h9) rfl hin rfl (by decide +kernel) rfl rfl (Nat.le_of_ble_eq_true rfl) dX5_init_16 (fun H locs hP9 hD9 hS9 => ?_)
  have hG : gd_W (dC, dI) A s ([(o, .inr (4, [.ref (a1 0), .null]))] ++ wd_R cI a1 (-6) 20 (fl_R 20 (-6))) H locs := ⟨hP9, hD9, hS9⟩
  refine lv_aload_n hx hb dX5_init_19 rfl (lv_at hl 0 rfl) ?_
  refine va_new (ci := 5) (fs := [.null, .int 0]) (C := RX6) (T := TX6) (N := 2) hx hb hts inlX6 tyX6 tyX6_ok hown (hts _ wr_39) (hts _ wr_40) (hts _ wr_14) hK hG.1 hG.2.1 hG.2.2 hA rfl (fun j hj => by rcases (show j = 0 ∨ j = 1 by omega) with rfl | rfl <;> rfl) (Nat.le_of_ble_eq_true rfl) (Nat.le_of_ble_eq_true rfl) dX5_init_20 (fun q2 H hP9 hD9 hS9 => ?_)
  have hG : gd_W (dC, dI) A s ([(o, .inr (4, [.ref (a1 0), .null]))] ++ wd_R cI a1 (-6) 20 (fl_R 20 (-6)) ++ [(q2, .inr (5, [.null, .int 0]))]) H _ := ⟨hP9, hD9, hS9⟩
  refine lv_dup hx hb dX5_init_23 rfl ?_
  refine lv_bipush (v := 20) hx hb dX5_init_24 (by decide) ?_
  refine lv_bipush (v := -6) hx hb dX5_init_26 (by decide) ?_
  refine gk_I (q := q2) (As := [.int 20, .int (-6)]) (rest := [.ref q2, .ref o]) (ws := [(o, .inr (4, [.ref (a1 0), .null]))] ++ wd_R cI a1 (-6) 20 (fl_R 20 (-6))) (w1 := fun a2 => wd_R cI a2 (-6) 20 (fl_R 20 (-6))) ⟨hx, hb, hml, hown, hts⟩ (c6_init l (z := 20) (v := (-6)) (by decide)) (cwI 2 hts (gb_I wr_43) rfl rfl rfl (hts _ wr_14) (hts _ wr_41) (hts _ wr_42) rfl (by decide +kernel) ⟨Nat.le_of_ble_eq_true rfl, Nat.le_of_ble_eq_true rfl⟩) hK [0] rfl hA hG rfl hl.1 rfl (Nat.le_of_ble_eq_true rfl) dX5_init_28 ⟨Nat.le_of_ble_eq_true rfl, Nat.le_of_ble_eq_true rfl⟩ (fun a2 H locs ha hG8 => ?_)
  subst ha
  have hG := hG8
  refine va_putF (D := (dC, dI)) (ci := 4) (v := .ref (a2 0)) (ty := .object "DiceRoads$Row") (C := RX5) (T := TX5) (N := 2) hx hb hts inlX5 tyX5 tyX5_ok nmX5 hown hK hG.1 hG.2.1 hG.2.2 0 rfl rfl 1 (by decide) (hts _ wr_57) (fun _ h9 => h9) rfl hin rfl (by decide +kernel) rfl rfl (Nat.le_of_ble_eq_true rfl) dX5_init_31 (fun H locs hP9 hD9 hS9 => ?_)
  have hG : gd_W (dC, dI) A s ([(o, .inr (4, [.ref (a1 0), .ref (a2 0)]))] ++ wd_R cI a1 (-6) 20 (fl_R 20 (-6)) ++ wd_R cI a2 (-6) 20 (fl_R 20 (-6))) H locs := ⟨hP9, hD9, hS9⟩
  obtain ⟨hP, hD, hS⟩ := hG
  refine W.widen (k := 4) (n := 44) (Nat.le_of_ble_eq_true rfl) (Nat.le_of_ble_eq_true rfl) ?_
  exact W.vret hx hb hr (fun t ht hW => ⟨⟨(fun k => match k with | 0 => o | 1 => a1 0 | 2 => a1 1 | 3 => a2 0 | _ => a2 1), rfl, rfl, by rw [ht]; exact hP, va_K.moved hW.alike hK, hD⟩, hS.F ht⟩) hS.2.2 dX5_init_34

/-! ## constructor of class 1 -/
abbrev RM1_init : Room := { frames := 2, cells := 6, slots := 43, locals := 53 }
def wm1_init : List Cond := .code yX1_init cX1_init 1 none :: bg_L
set_option maxRecDepth 100000 in
set_option maxHeartbeats 4000000 in
theorem c1_init (l : Launch) {dC : Nat → ClassId} {dI : Nat → Nat → Nat} {cI : ClassId} {o : Nat} : mk_M l yX1_init wm1_init RM1_init (dC, dI) [(cI, .int)] [.ref o] [(o, .inr (1, [.null, .null, .null]))] 6 43 (fun a => wd_D cI a (fun k => match k with | 0 => fl_R 16 0 | 1 => fl_R 16 (-6) | _ => fl_R 5 (-6))) o := by
  intro sz
  refine Met.ofW (cc := cX1_init) (maxL := 1) (ret := none) (by decide) rfl ?_
  intro p e s m args below meth c s₁ B hml hv
  obtain ⟨rfl, hsz, hP, hK, hD0⟩ := hv
  have hin : meth.name = "<init>" := (name_of_methodNamed B.named B.method).1
  subst hsz
  have C : cx_M p s m ([.ref o] : List Value).toArray meth c RX1 cX1_init none 1 := ⟨B.exec, B.bytes, B.returns, fun w hw => atoms_spec (ws := wm1_init) B.pre w (List.mem_cons_of_mem _ hw), findClass_of_methodNamed B.named, B.notSynchronized, hml⟩
  obtain ⟨hx, hb, hr, hts, hown, hlocks, -⟩ := id C
  have hD := hD0.self (sz := s.heap.size)
  generalize hAe : va_A [(o, .inr (1, [.null, .null, .null]))] s.heap.size = A at hD ⊢
  have hA : ∀ q : Nat, s.heap.size ≤ q → A q := fun q h => by rw [← hAe]; exact Or.inr h
  have hl := lv_entry ([.ref o] : List Value) (n := 1) (Nat.le_of_ble_eq_true rfl)
  rw [lg_entry_eq]
  generalize (lg_sl ([.ref o] : List Value) ++ List.replicate (1 - (lg_sl ([.ref o] : List Value)).length) Slot.unset).toArray = ls at hl ⊢
  have hl : lv_has ls 1 [(0, .ref o)] := hl
  have hG : gd_W (dC, dI) A s [(o, .inr (1, [.null, .null, .null]))] s.heap [] := ⟨hP, hD, va_S.rf⟩
  refine lv_aload_n hx hb dX1_init_0 rfl (lv_at hl 0 rfl) ?_
  refine W.objInit hx hb hown (hts _ wr_68) (hts _ wr_25) (hts _ wr_26) rfl (by rw [hml]; exact hl.1) rfl dX1_init_1 (Nat.le_of_ble_eq_true rfl) (Nat.le_of_ble_eq_true rfl) ?_
  refine W.eq (g2 := F0 m 4 ls []) rfl ?_
  refine lv_aload_n hx hb dX1_init_4 rfl (lv_at hl 0 rfl) ?_
  refine va_new (ci := 5) (fs := [.null, .int 0]) (C := RX6) (T := TX6) (N := 2) hx hb hts inlX6 tyX6 tyX6_ok hown (hts _ wr_69) (hts _ wr_40) (hts _ wr_14) hK hG.1 hG.2.1 hG.2.2 hA rfl (fun j hj => by rcases (show j = 0 ∨ j = 1 by omega) with rfl | rfl <;> rfl) (Nat.le_of_ble_eq_true rfl) (Nat.le_of_ble_eq_true rfl) dX1_init_5 (fun q1 H hP9 hD9 hS9 => ?_)
  have hG : gd_W (dC, dI) A s ([(o, .inr (1, [.null, .null, .null]))] ++ [(q1, .inr (5, [.null, .int 0]))]) H _ := ⟨hP9, hD9, hS9⟩
  refine lv_dup hx hb dX1_init_8 rfl ?_
  refine lv_bipush (v := 16) hx hb dX1_init_9 (by decide) ?_
  refine lv_iconst (v := 0) hx hb dX1_init_11 (by decide) ?_
  refine gk_I (q := q1) (As := [.int 16, .int 0]) (rest := [.ref q1, .ref o]) (ws := [(o, .inr (1, [.null, .null, .null]))]) (w1 := fun a1 => wd_R cI a1 0 16 (fl_R 16 0)) ⟨hx, hb, hml, hown, hts⟩ (c6_init l (z := 16) (v := 0) (by decide)) (cwI 2 hts (gb_I wr_43) rfl rfl rfl (hts _ wr_14) (hts _ wr_70) (hts _ wr_42) rfl (by decide +kernel) ⟨Nat.le_of_ble_eq_true rfl, Nat.le_of_ble_eq_true rfl⟩) hK [0] rfl hA hG rfl hl.1 rfl (Nat.le_of_ble_eq_true rfl) dX1_init_12 ⟨Nat.le_of_ble_eq_true rfl, Nat.le_of_ble_eq_true rfl⟩ (fun a1 H locs ha hG8 => ?_)
  subst ha
  have hG := hG8
  refine va_putF (D := (dC, dI)) (ci := 1) (v := .ref (a1 0)) (ty := .object "DiceRoads$Row") (C := RX1) (T := TX1) (N := 3) hx hb hts inlX1 tyX1 tyX1_ok nmX1 hown hK hG.1 hG.2.1 hG.2.2 0 rfl rfl 0 (by decide) (hts _ wr_71) (fun _ h9 => h9) rfl hin rfl (by decide +kernel) rfl rfl (Nat.le_of_ble_eq_true rfl) dX1_init_15 (fun H locs hP9 hD9 hS9 => ?_)
  have hG : gd_W (dC, dI) A s ([(o, .inr (1, [.ref (a1 0), .null, .null]))] ++ wd_R cI a1 0 16 (fl_R 16 0)) H locs := ⟨hP9, hD9, hS9⟩
  refine lv_aload_n hx hb dX1_init_18 rfl (lv_at hl 0 rfl) ?_
  refine va_new (ci := 5) (fs := [.null, .int 0]) (C := RX6) (T := TX6) (N := 2) hx hb hts inlX6 tyX6 tyX6_ok hown (hts _ wr_69) (hts _ wr_40) (hts _ wr_14) hK hG.1 hG.2.1 hG.2.2 hA rfl (fun j hj => by rcases (show j = 0 ∨ j = 1 by omega) with rfl | rfl <;> rfl) (Nat.le_of_ble_eq_true rfl) (Nat.le_of_ble_eq_true rfl) dX1_init_19 (fun q2 H hP9 hD9 hS9 => ?_)
  have hG : gd_W (dC, dI) A s ([(o, .inr (1, [.ref (a1 0), .null, .null]))] ++ wd_R cI a1 0 16 (fl_R 16 0) ++ [(q2, .inr (5, [.null, .int 0]))]) H _ := ⟨hP9, hD9, hS9⟩
  refine lv_dup hx hb dX1_init_22 rfl ?_
  refine lv_bipush (v := 16) hx hb dX1_init_23 (by decide) ?_
  refine lv_bipush (v := -6) hx hb dX1_init_25 (by decide) ?_
  refine gk_I (q := q2) (As := [.int 16, .int (-6)]) (rest := [.ref q2, .ref o]) (ws := [(o, .inr (1, [.ref (a1 0), .null, .null]))] ++ wd_R cI a1 0 16 (fl_R 16 0)) (w1 := fun a2 => wd_R cI a2 (-6) 16 (fl_R 16 (-6))) ⟨hx, hb, hml, hown, hts⟩ (c6_init l (z := 16) (v := (-6)) (by decide)) (cwI 2 hts (gb_I wr_43) rfl rfl rfl (hts _ wr_14) (hts _ wr_70) (hts _ wr_42) rfl (by decide +kernel) ⟨Nat.le_of_ble_eq_true rfl, Nat.le_of_ble_eq_true rfl⟩) hK [0] rfl hA hG rfl hl.1 rfl (Nat.le_of_ble_eq_true rfl) dX1_init_27 ⟨Nat.le_of_ble_eq_true rfl, Nat.le_of_ble_eq_true rfl⟩ (fun a2 H locs ha hG8 => ?_)
  subst ha
  have hG := hG8
  refine va_putF (D := (dC, dI)) (ci := 1) (v := .ref (a2 0)) (ty := .object "DiceRoads$Row") (C := RX1) (T := TX1) (N := 3) hx hb hts inlX1 tyX1 tyX1_ok nmX1 hown hK hG.1 hG.2.1 hG.2.2 0 rfl rfl 1 (by decide) (hts _ wr_72) (fun _ h9 => h9) rfl hin rfl (by decide +kernel) rfl rfl (Nat.le_of_ble_eq_true rfl) dX1_init_30 (fun H locs hP9 hD9 hS9 => ?_)
  have hG : gd_W (dC, dI) A s ([(o, .inr (1, [.ref (a1 0), .ref (a2 0), .null]))] ++ wd_R cI a1 0 16 (fl_R 16 0) ++ wd_R cI a2 (-6) 16 (fl_R 16 (-6))) H locs := ⟨hP9, hD9, hS9⟩
  refine lv_aload_n hx hb dX1_init_33 rfl (lv_at hl 0 rfl) ?_
  refine va_new (ci := 5) (fs := [.null, .int 0]) (C := RX6) (T := TX6) (N := 2) hx hb hts inlX6 tyX6 tyX6_ok hown (hts _ wr_69) (hts _ wr_40) (hts _ wr_14) hK hG.1 hG.2.1 hG.2.2 hA rfl (fun j hj => by rcases (show j = 0 ∨ j = 1 by omega) with rfl | rfl <;> rfl) (Nat.le_of_ble_eq_true rfl) (Nat.le_of_ble_eq_true rfl) dX1_init_34 (fun q3 H hP9 hD9 hS9 => ?_)
  have hG : gd_W (dC, dI) A s ([(o, .inr (1, [.ref (a1 0), .ref (a2 0), .null]))] ++ wd_R cI a1 0 16 (fl_R 16 0) ++ wd_R cI a2 (-6) 16 (fl_R 16 (-6)) ++ [(q3, .inr (5, [.null, .int 0]))]) H _ := ⟨hP9, hD9, hS9⟩
  refine lv_dup hx hb dX1_init_37 rfl ?_
  refine lv_iconst (v := 5) hx hb dX1_init_38 (by decide) ?_
  refine lv_bipush (v := -6) hx hb dX1_init_39 (by decide) ?_
  refine gk_I (q := q3) (As := [.int 5, .int (-6)]) (rest := [.ref q3, .ref o]) (ws := [(o, .inr (1, [.ref (a1 0), .ref (a2 0), .null]))] ++ wd_R cI a1 0 16 (fl_R 16 0) ++ wd_R cI a2 (-6) 16 (fl_R 16 (-6))) (w1 := fun a3 => wd_R cI a3 (-6) 5 (fl_R 5 (-6))) ⟨hx, hb, hml, hown, hts⟩ (c6_init l (z := 5) (v := (-6)) (by decide)) (cwI 2 hts (gb_I wr_43) rfl rfl rfl (hts _ wr_14) (hts _ wr_70) (hts _ wr_42) rfl (by decide +kernel) ⟨Nat.le_of_ble_eq_true rfl, Nat.le_of_ble_eq_true rfl⟩) hK [0] rfl hA hG rfl hl.1 rfl (Nat.le_of_ble_eq_true rfl) dX1_init_41 ⟨Nat.le_of_ble_eq_true rfl, Nat.le_of_ble_eq_true rfl⟩ (fun a3 H locs ha hG8 => ?_)
  subst ha
  have hG := hG8
  refine va_putF (D := (dC, dI)) (ci := 1) (v := .ref (a3 0)) (ty := .object "DiceRoads$Row") (C := RX1) (T := TX1) (N := 3) hx hb hts inlX1 tyX1 tyX1_ok nmX1 hown hK hG.1 hG.2.1 hG.2.2 0 rfl rfl 2 (by decide) (hts _ wr_73) (fun _ h9 => h9) rfl hin rfl (by decide +kernel) rfl rfl (Nat.le_of_ble_eq_true rfl) dX1_init_44 (fun H locs hP9 hD9 hS9 => ?_)
  have hG : gd_W (dC, dI) A s ([(o, .inr (1, [.ref (a1 0), .ref (a2 0), .ref (a3 0)]))] ++ wd_R cI a1 0 16 (fl_R 16 0) ++ wd_R cI a2 (-6) 16 (fl_R 16 (-6)) ++ wd_R cI a3 (-6) 5 (fl_R 5 (-6))) H locs := ⟨hP9, hD9, hS9⟩
  obtain ⟨hP, hD, hS⟩ := hG
  refine W.widen (k := 6) (n := 43) (Nat.le_of_ble_eq_true rfl) (Nat.le_of_ble_eq_true rfl) ?_
  exact W.vret hx hb hr (fun t ht hW => ⟨⟨(fun k => match k with | 0 => o | 1 => a1 0 | 2 => a1 1 | 3 => a2 0 | 4 => a2 1 | 5 => a3 0 | _ => a3 1), rfl, rfl, by rw [ht]; exact hP, va_K.moved hW.alike hK, hD⟩, hS.F ht⟩) hS.2.2 dX1_init_47
