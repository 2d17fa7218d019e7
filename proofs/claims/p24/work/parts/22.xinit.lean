/-! ## DiceRoads() -/
def xb_0 (o qs : Nat) (a1 a2 a5 a6 : Nat → Nat) (b3 : Nat → Nat → Nat) : Nat → Nat → Nat := fun g k => match g with | 0 => o | 1 => qs | 2 => b3 2 k | 3 => a5 k | 4 => a6 k | 5 => a1 k | 6 => a2 k | 7 => b3 7 k | 8 => b3 8 k | 9 => b3 9 k | 10 => b3 10 k | 11 => b3 11 k | 12 => b3 12 k | 13 => b3 13 k | _ => 0
def xs_0 : xs_T := fun g => match g with | 1 => hz_0 | 2 => hz_0 | 3 => li_0 80 | 4 => li_0 44 | _ => bd_0
theorem sl_w_pos {cI : ClassId} {f : Int32} {a : Nat → Nat} {B : ms_T} (h : ¬ f = 0) : sl_w cI f a B = wd_B cI a B := if_neg h
theorem sl_w_zero {cI : ClassId} {f : Int32} {a : Nat → Nat} {B : ms_T} (h : f = 0) : sl_w cI f a B = [] := if_pos h
abbrev gB7 (cI cB : ClassId) (o qs : Nat) (a1 a2 a5 a6 : Nat → Nat) (b3 : Nat → Nat → Nat) : List va_W := [[(o, .inr (6, [.ref (a1 0), .ref (a2 0), .ref (b3 2 0), .ref qs, .ref (a5 0), .ref (a6 0)]))], [(qs, .inl (cB, (2, .inr (.inr (.inr (.inr (fun _ => none)))))))], wd_H cB (b3 2) (fun k => b3 (7 + k) 0) hz_0, wd_L cI a5 80 (li_0 80), wd_L cI a6 44 (li_0 44), wd_B cI a1 bd_0, wd_B cI a2 bd_0, wd_B cI (b3 7) bd_0, wd_B cI (b3 8) bd_0, wd_B cI (b3 9) bd_0, wd_B cI (b3 10) bd_0, wd_B cI (b3 11) bd_0, wd_B cI (b3 12) bd_0, wd_B cI (b3 13) bd_0]
abbrev gA7 (cI cB : ClassId) (o qs : Nat) (a1 a2 a5 a6 : Nat → Nat) (b3 : Nat → Nat → Nat) : List va_W := [[(o, .inr (6, [.ref (a1 0), .ref (a2 0), .ref (b3 2 0), .ref qs, .ref (a5 0), .ref (a6 0)]))], wd_B cI a1 bd_0, wd_B cI a2 bd_0, wd_H cB (b3 2) (fun k => b3 (7 + k) 0) hz_0, wd_B cI (b3 7) bd_0, wd_B cI (b3 8) bd_0, wd_B cI (b3 9) bd_0, wd_B cI (b3 10) bd_0, wd_B cI (b3 11) bd_0, wd_B cI (b3 12) bd_0, wd_B cI (b3 13) bd_0, [(qs, .inl (cB, (2, .inr (.inr (.inr (.inr (fun _ => none)))))))], wd_L cI a5 80 (li_0 80), wd_L cI a6 44 (li_0 44)]
theorem pm_init : (([0, 11, 3, 12, 13, 1, 2, 4, 5, 6, 7, 8, 9, 10] : List Nat) ++ []).Perm (List.range 14) := by decide
abbrev RM7_init : Room := { frames := 5, cells := 252, slots := 1496, locals := 115 }
def wm7_init : List Cond := .code yX7_init cX7_init 1 none :: bg_L
set_option maxRecDepth 100000 in
set_option maxHeartbeats 8000000 in
theorem c7_init (l : Launch) {dC : Nat → ClassId} {dI : Nat → Nat → Nat} {cI cB : ClassId} {t1 t2 t3 o : Nat} : nb_M l yX7_init wm7_init RM7_init (dC, dI) [(cI, .int), (cB, .object "DiceRoads$Board")] t1 t2 t3 [.ref o] [(o, .inr (6, [.null, .null, .null, .null, .null, .null]))] 252 1496 (fun b => b 0 0 = o) (fun b => (gX cI cB b xs_0).flatten) := by
  intro sz
  refine Met.ofW (cc := cX7_init) (maxL := 1) (ret := none) (by decide) rfl ?_
  intro p e s m args below meth c s₁ B hml hv
  obtain ⟨rfl, hO, ⟨hsz, hP, hK, hD0⟩, hF⟩ := hv
  have hin : meth.name = "<init>" := (name_of_methodNamed B.named B.method).1
  subst hsz
  have C : cx_M p s m ([.ref o] : List Value).toArray meth c RX7 cX7_init none 1 := ⟨B.exec, B.bytes, B.returns, fun w hw => atoms_spec (ws := wm7_init) B.pre w (List.mem_cons_of_mem _ hw), findClass_of_methodNamed B.named, B.notSynchronized, hml⟩
  obtain ⟨hx, hb, hr, hts, hown, hlocks, -⟩ := id C
  have hD := hD0.self (sz := s.heap.size)
  have hF : sn_W t1 t2 t3 _ s s.heap := hF
  generalize hAe : va_A [(o, .inr (6, [.null, .null, .null, .null, .null, .null]))] s.heap.size = A at hD hF ⊢
  have hA : ∀ q : Nat, s.heap.size ≤ q → A q := fun q h => by rw [← hAe]; exact Or.inr h
  have hl := lv_entry ([.ref o] : List Value) (n := 1) (Nat.le_of_ble_eq_true rfl)
  rw [lg_entry_eq]
  generalize (lg_sl ([.ref o] : List Value) ++ List.replicate (1 - (lg_sl ([.ref o] : List Value)).length) Slot.unset).toArray = ls at hl ⊢
  have hl : lv_has ls 1 [(0, .ref o)] := hl
  have hG : gd_W (dC, dI) A s [(o, .inr (6, [.null, .null, .null, .null, .null, .null]))] s.heap [] := ⟨hP, hD, va_S.rf⟩
  refine lv_aload_n hx hb dX7_init_0 rfl (lv_at hl 0 rfl) ?_
  refine W.objInit hx hb hown (hts _ wr_24) (hts _ wr_25) (hts _ wr_26) rfl (by rw [hml]; exact hl.1) rfl dX7_init_1 (Nat.le_of_ble_eq_true rfl) (Nat.le_of_ble_eq_true rfl) ?_
  refine W.eq (g2 := F0 m 4 ls []) rfl ?_
  refine lv_aload_n hx hb dX7_init_4 rfl (lv_at hl 0 rfl) ?_
  refine va_new (ci := 0) (fs := [.null, .null, .null, .null, .null, .null, .null, .null, .null, .int 0, .int 0, .int 0, .int 0, .int 0, .int 0]) (C := RX0) (T := TX0) (N := 15) hx hb hts inlX0 tyX0 tyX0_ok hown (hts _ wr_27) (hts _ wr_28) (hts _ wr_12) hK hG.1 hG.2.1 hG.2.2 hA rfl (fun j hj => by rcases (show j = 0 ∨ j = 1 ∨ j = 2 ∨ j = 3 ∨ j = 4 ∨ j = 5 ∨ j = 6 ∨ j = 7 ∨ j = 8 ∨ j = 9 ∨ j = 10 ∨ j = 11 ∨ j = 12 ∨ j = 13 ∨ j = 14 by omega) with rfl | rfl | rfl | rfl | rfl | rfl | rfl | rfl | rfl | rfl | rfl | rfl | rfl | rfl | rfl <;> rfl) (Nat.le_of_ble_eq_true rfl) (Nat.le_of_ble_eq_true rfl) dX7_init_5 (fun q1 H hP9 hD9 hS9 => ?_)
  have hG : gd_W (dC, dI) A s ([(o, .inr (6, [.null, .null, .null, .null, .null, .null]))] ++ [(q1, .inr (0, [.null, .null, .null, .null, .null, .null, .null, .null, .null, .int 0, .int 0, .int 0, .int 0, .int 0, .int 0]))]) H _ := ⟨hP9, hD9, hS9⟩
  refine lv_dup hx hb dX7_init_8 rfl ?_
  refine gk_S (q := q1) (As := []) (rest := [.ref q1, .ref o]) (ws := [(o, .inr (6, [.null, .null, .null, .null, .null, .null]))]) (w1 := fun a => wd_B cI a bd_0) ⟨hx, hb, hml, hown, hts⟩ hF (c0_init l) (cwI 0 hts (gb_I wr_31) rfl rfl rfl (hts _ wr_12) (hts _ wr_29) (hts _ wr_30) rfl (by decide +kernel) ⟨Nat.le_of_ble_eq_true rfl, Nat.le_of_ble_eq_true rfl⟩) hK [0] rfl hA hG rfl hl.1 rfl (Nat.le_of_ble_eq_true rfl) dX7_init_9 ⟨Nat.le_of_ble_eq_true rfl, Nat.le_of_ble_eq_true rfl⟩ (fun a1 H locs ha hG8 => ?_)
  subst ha
  have hG := hG8
  refine va_putF (D := (dC, dI)) (ci := 6) (v := .ref (a1 0)) (ty := .object "DiceRoads$Board") (C := RX7) (T := TX7) (N := 6) hx hb hts inlX7 tyX7 tyX7_ok nmX7 hown hK hG.1 hG.2.1 hG.2.2 0 rfl rfl 0 (by decide) (hts _ wr_173) (fun _ h9 => h9) rfl hin rfl (by decide +kernel) rfl rfl (Nat.le_of_ble_eq_true rfl) dX7_init_12 (fun H locs hP9 hD9 hS9 => ?_)
  have hG : gd_W (dC, dI) A s ([(o, .inr (6, [.ref (a1 0), .null, .null, .null, .null, .null]))] ++ wd_B cI a1 bd_0) H locs := ⟨hP9, hD9, hS9⟩
  refine lv_aload_n hx hb dX7_init_15 rfl (lv_at hl 0 rfl) ?_
  refine va_new (ci := 0) (fs := [.null, .null, .null, .null, .null, .null, .null, .null, .null, .int 0, .int 0, .int 0, .int 0, .int 0, .int 0]) (C := RX0) (T := TX0) (N := 15) hx hb hts inlX0 tyX0 tyX0_ok hown (hts _ wr_27) (hts _ wr_28) (hts _ wr_12) hK hG.1 hG.2.1 hG.2.2 hA rfl (fun j hj => by rcases (show j = 0 ∨ j = 1 ∨ j = 2 ∨ j = 3 ∨ j = 4 ∨ j = 5 ∨ j = 6 ∨ j = 7 ∨ j = 8 ∨ j = 9 ∨ j = 10 ∨ j = 11 ∨ j = 12 ∨ j = 13 ∨ j = 14 by omega) with rfl | rfl | rfl | rfl | rfl | rfl | rfl | rfl | rfl | rfl | rfl | rfl | rfl | rfl | rfl <;> rfl) (Nat.le_of_ble_eq_true rfl) (Nat.le_of_ble_eq_true rfl) dX7_init_16 (fun q2 H hP9 hD9 hS9 => ?_)
  have hG : gd_W (dC, dI) A s ([(o, .inr (6, [.ref (a1 0), .null, .null, .null, .null, .null]))] ++ wd_B cI a1 bd_0 ++ [(q2, .inr (0, [.null, .null, .null, .null, .null, .null, .null, .null, .null, .int 0, .int 0, .int 0, .int 0, .int 0, .int 0]))]) H _ := ⟨hP9, hD9, hS9⟩
  refine lv_dup hx hb dX7_init_19 rfl ?_
  refine gk_S (q := q2) (As := []) (rest := [.ref q2, .ref o]) (ws := [(o, .inr (6, [.ref (a1 0), .null, .null, .null, .null, .null]))] ++ wd_B cI a1 bd_0) (w1 := fun a => wd_B cI a bd_0) ⟨hx, hb, hml, hown, hts⟩ hF (c0_init l) (cwI 0 hts (gb_I wr_31) rfl rfl rfl (hts _ wr_12) (hts _ wr_29) (hts _ wr_30) rfl (by decide +kernel) ⟨Nat.le_of_ble_eq_true rfl, Nat.le_of_ble_eq_true rfl⟩) hK [0] rfl hA hG rfl hl.1 rfl (Nat.le_of_ble_eq_true rfl) dX7_init_20 ⟨Nat.le_of_ble_eq_true rfl, Nat.le_of_ble_eq_true rfl⟩ (fun a2 H locs ha hG8 => ?_)
  subst ha
  have hG := hG8
  refine va_putF (D := (dC, dI)) (ci := 6) (v := .ref (a2 0)) (ty := .object "DiceRoads$Board") (C := RX7) (T := TX7) (N := 6) hx hb hts inlX7 tyX7 tyX7_ok nmX7 hown hK hG.1 hG.2.1 hG.2.2 0 rfl rfl 1 (by decide) (hts _ wr_174) (fun _ h9 => h9) rfl hin rfl (by decide +kernel) rfl rfl (Nat.le_of_ble_eq_true rfl) dX7_init_23 (fun H locs hP9 hD9 hS9 => ?_)
  have hG : gd_W (dC, dI) A s ([(o, .inr (6, [.ref (a1 0), .ref (a2 0), .null, .null, .null, .null]))] ++ wd_B cI a1 bd_0 ++ wd_B cI a2 bd_0) H locs := ⟨hP9, hD9, hS9⟩
  refine lv_aload_n hx hb dX7_init_26 rfl (lv_at hl 0 rfl) ?_
  refine va_new (ci := 2) (fs := [.null, .int 0, .int 0]) (C := RX2) (T := TX2) (N := 3) hx hb hts inlX2 tyX2 tyX2_ok hown (hts _ wr_136) (hts _ wr_137) (hts _ wr_17) hK hG.1 hG.2.1 hG.2.2 hA rfl (fun j hj => by rcases (show j = 0 ∨ j = 1 ∨ j = 2 by omega) with rfl | rfl | rfl <;> rfl) (Nat.le_of_ble_eq_true rfl) (Nat.le_of_ble_eq_true rfl) dX7_init_27 (fun q3 H hP9 hD9 hS9 => ?_)
  have hG : gd_W (dC, dI) A s ([(o, .inr (6, [.ref (a1 0), .ref (a2 0), .null, .null, .null, .null]))] ++ wd_B cI a1 bd_0 ++ wd_B cI a2 bd_0 ++ [(q3, .inr (2, [.null, .int 0, .int 0]))]) H _ := ⟨hP9, hD9, hS9⟩
  refine lv_dup hx hb dX7_init_30 rfl ?_
  refine gk_B (q := q3) (As := []) (rest := [.ref q3, .ref o]) (ws := [(o, .inr (6, [.ref (a1 0), .ref (a2 0), .null, .null, .null, .null]))] ++ wd_B cI a1 bd_0 ++ wd_B cI a2 bd_0) (w1 := fun b => (gH0 cI cB b).flatten) ⟨hx, hb, hml, hown, hts⟩ hF hO (c2_init l) (cwI 0 hts (gb_I wr_140) rfl rfl rfl (hts _ wr_17) (hts _ wr_138) (hts _ wr_139) rfl (by decide +kernel) ⟨Nat.le_of_ble_eq_true rfl, Nat.le_of_ble_eq_true rfl⟩) hK [0, 1] rfl hA hG rfl hl.1 rfl (Nat.le_of_ble_eq_true rfl) dX7_init_31 ⟨Nat.le_of_ble_eq_true rfl, Nat.le_of_ble_eq_true rfl⟩ (fun b3 H locs ha hG8 => ?_)
  subst ha
  have hG := hG8
  refine va_putF (D := (dC, dI)) (ci := 6) (v := .ref (b3 2 0)) (ty := .object "DiceRoads$History") (C := RX7) (T := TX7) (N := 6) hx hb hts inlX7 tyX7 tyX7_ok nmX7 hown hK hG.1 hG.2.1 hG.2.2 0 rfl rfl 2 (by decide) (hts _ wr_175) (fun _ h9 => h9) rfl hin rfl (by decide +kernel) rfl rfl (Nat.le_of_ble_eq_true rfl) dX7_init_34 (fun H locs hP9 hD9 hS9 => ?_)
  have hG : gd_W (dC, dI) A s ([(o, .inr (6, [.ref (a1 0), .ref (a2 0), .ref (b3 2 0), .null, .null, .null]))] ++ wd_B cI a1 bd_0 ++ wd_B cI a2 bd_0 ++ (gH0 cI cB b3).flatten) H locs := ⟨hP9, hD9, hS9⟩
  refine lv_aload_n hx hb dX7_init_37 rfl (lv_at hl 0 rfl) ?_
  refine lv_iconst (v := 2) hx hb dX7_init_38 (by decide) ?_
  refine gn_newq (C := RX0) (N' := 2) hx hb hown (hts _ wr_27) hO hK hA hG (by decide) (by decide) (by decide) (Nat.le_of_ble_eq_true rfl) (Nat.le_of_ble_eq_true rfl) dX7_init_39 (fun qs H hG9 => ?_)
  have hG : gd_W (dC, dI) A s ([(o, .inr (6, [.ref (a1 0), .ref (a2 0), .ref (b3 2 0), .null, .null, .null]))] ++ wd_B cI a1 bd_0 ++ wd_B cI a2 bd_0 ++ (gH0 cI cB b3).flatten ++ [(qs, .inl (cB, (2, .inr (.inr (.inr (.inr (fun _ => none)))))))]) H _ := hG9
  refine va_putF (D := (dC, dI)) (ci := 6) (v := .ref qs) (ty := .array (.object "DiceRoads$Board")) (C := RX7) (T := TX7) (N := 6) hx hb hts inlX7 tyX7 tyX7_ok nmX7 hown hK hG.1 hG.2.1 hG.2.2 0 rfl rfl 3 (by decide) (hts _ wr_176) (fun _ h9 => h9) rfl hin rfl (by decide +kernel) rfl rfl (Nat.le_of_ble_eq_true rfl) dX7_init_42 (fun H locs hP9 hD9 hS9 => ?_)
  have hG : gd_W (dC, dI) A s ([(o, .inr (6, [.ref (a1 0), .ref (a2 0), .ref (b3 2 0), .ref qs, .null, .null]))] ++ wd_B cI a1 bd_0 ++ wd_B cI a2 bd_0 ++ (gH0 cI cB b3).flatten ++ [(qs, .inl (cB, (2, .inr (.inr (.inr (.inr (fun _ => none)))))))]) H locs := ⟨hP9, hD9, hS9⟩
  refine lv_aload_n hx hb dX7_init_45 rfl (lv_at hl 0 rfl) ?_
  refine va_new (ci := 3) (fs := [.null, .int 0, .int 0]) (C := RX3) (T := TX3) (N := 3) hx hb hts inlX3 tyX3 tyX3_ok hown (hts _ wr_155) (hts _ wr_156) (hts _ wr_18) hK hG.1 hG.2.1 hG.2.2 hA rfl (fun j hj => by rcases (show j = 0 ∨ j = 1 ∨ j = 2 by omega) with rfl | rfl | rfl <;> rfl) (Nat.le_of_ble_eq_true rfl) (Nat.le_of_ble_eq_true rfl) dX7_init_46 (fun q5 H hP9 hD9 hS9 => ?_)
  have hG : gd_W (dC, dI) A s ([(o, .inr (6, [.ref (a1 0), .ref (a2 0), .ref (b3 2 0), .ref qs, .null, .null]))] ++ wd_B cI a1 bd_0 ++ wd_B cI a2 bd_0 ++ (gH0 cI cB b3).flatten ++ [(qs, .inl (cB, (2, .inr (.inr (.inr (.inr (fun _ => none)))))))] ++ [(q5, .inr (3, [.null, .int 0, .int 0]))]) H _ := ⟨hP9, hD9, hS9⟩
  refine lv_dup hx hb dX7_init_49 rfl ?_
  refine lv_bipush (v := 80) hx hb dX7_init_50 (by decide) ?_
  refine gk_I (q := q5) (As := [.int 80]) (rest := [.ref q5, .ref o]) (ws := [(o, .inr (6, [.ref (a1 0), .ref (a2 0), .ref (b3 2 0), .ref qs, .null, .null]))] ++ wd_B cI a1 bd_0 ++ wd_B cI a2 bd_0 ++ (gH0 cI cB b3).flatten ++ [(qs, .inl (cB, (2, .inr (.inr (.inr (.inr (fun _ => none)))))))]) (w1 := fun a => wd_L cI a 80 (li_0 80)) ⟨hx, hb, hml, hown, hts⟩ (c3_init80 l) (cwI 1 hts (gb_I wr_159) rfl rfl rfl (hts _ wr_18) (hts _ wr_157) (hts _ wr_158) rfl (by decide +kernel) ⟨Nat.le_of_ble_eq_true rfl, Nat.le_of_ble_eq_true rfl⟩) hK [0] rfl hA hG rfl hl.1 rfl (Nat.le_of_ble_eq_true rfl) dX7_init_52 ⟨Nat.le_of_ble_eq_true rfl, Nat.le_of_ble_eq_true rfl⟩ (fun a5 H locs ha hG8 => ?_)
  subst ha
  have hG := hG8
  refine va_putF (D := (dC, dI)) (ci := 6) (v := .ref (a5 0)) (ty := .object "DiceRoads$Line") (C := RX7) (T := TX7) (N := 6) hx hb hts inlX7 tyX7 tyX7_ok nmX7 hown hK hG.1 hG.2.1 hG.2.2 0 rfl rfl 4 (by decide) (hts _ wr_177) (fun _ h9 => h9) rfl hin rfl (by decide +kernel) rfl rfl (Nat.le_of_ble_eq_true rfl) dX7_init_55 (fun H locs hP9 hD9 hS9 => ?_)
  have hG : gd_W (dC, dI) A s ([(o, .inr (6, [.ref (a1 0), .ref (a2 0), .ref (b3 2 0), .ref qs, .ref (a5 0), .null]))] ++ wd_B cI a1 bd_0 ++ wd_B cI a2 bd_0 ++ (gH0 cI cB b3).flatten ++ [(qs, .inl (cB, (2, .inr (.inr (.inr (.inr (fun _ => none)))))))] ++ wd_L cI a5 80 (li_0 80)) H locs := ⟨hP9, hD9, hS9⟩
  refine lv_aload_n hx hb dX7_init_58 rfl (lv_at hl 0 rfl) ?_
  refine va_new (ci := 3) (fs := [.null, .int 0, .int 0]) (C := RX3) (T := TX3) (N := 3) hx hb hts inlX3 tyX3 tyX3_ok hown (hts _ wr_155) (hts _ wr_156) (hts _ wr_18) hK hG.1 hG.2.1 hG.2.2 hA rfl (fun j hj => by rcases (show j = 0 ∨ j = 1 ∨ j = 2 by omega) with rfl | rfl | rfl <;> rfl) (Nat.le_of_ble_eq_true rfl) (Nat.le_of_ble_eq_true rfl) dX7_init_59 (fun q6 H hP9 hD9 hS9 => ?_)
  have hG : gd_W (dC, dI) A s ([(o, .inr (6, [.ref (a1 0), .ref (a2 0), .ref (b3 2 0), .ref qs, .ref (a5 0), .null]))] ++ wd_B cI a1 bd_0 ++ wd_B cI a2 bd_0 ++ (gH0 cI cB b3).flatten ++ [(qs, .inl (cB, (2, .inr (.inr (.inr (.inr (fun _ => none)))))))] ++ wd_L cI a5 80 (li_0 80) ++ [(q6, .inr (3, [.null, .int 0, .int 0]))]) H _ := ⟨hP9, hD9, hS9⟩
  refine lv_dup hx hb dX7_init_62 rfl ?_
  refine lv_bipush (v := 44) hx hb dX7_init_63 (by decide) ?_
  refine gk_I (q := q6) (As := [.int 44]) (rest := [.ref q6, .ref o]) (ws := [(o, .inr (6, [.ref (a1 0), .ref (a2 0), .ref (b3 2 0), .ref qs, .ref (a5 0), .null]))] ++ wd_B cI a1 bd_0 ++ wd_B cI a2 bd_0 ++ (gH0 cI cB b3).flatten ++ [(qs, .inl (cB, (2, .inr (.inr (.inr (.inr (fun _ => none)))))))] ++ wd_L cI a5 80 (li_0 80)) (w1 := fun a => wd_L cI a 44 (li_0 44)) ⟨hx, hb, hml, hown, hts⟩ (c3_init44 l) (cwI 1 hts (gb_I wr_159) rfl rfl rfl (hts _ wr_18) (hts _ wr_157) (hts _ wr_158) rfl (by decide +kernel) ⟨Nat.le_of_ble_eq_true rfl, Nat.le_of_ble_eq_true rfl⟩) hK [0] rfl hA hG rfl hl.1 rfl (Nat.le_of_ble_eq_true rfl) dX7_init_65 ⟨Nat.le_of_ble_eq_true rfl, Nat.le_of_ble_eq_true rfl⟩ (fun a6 H locs ha hG8 => ?_)
  subst ha
  have hG := hG8
  refine va_putF (D := (dC, dI)) (ci := 6) (v := .ref (a6 0)) (ty := .object "DiceRoads$Line") (C := RX7) (T := TX7) (N := 6) hx hb hts inlX7 tyX7 tyX7_ok nmX7 hown hK hG.1 hG.2.1 hG.2.2 0 rfl rfl 5 (by decide) (hts _ wr_178) (fun _ h9 => h9) rfl hin rfl (by decide +kernel) rfl rfl (Nat.le_of_ble_eq_true rfl) dX7_init_68 (fun H locs hP9 hD9 hS9 => ?_)
  have hG : gd_W (dC, dI) A s ([(o, .inr (6, [.ref (a1 0), .ref (a2 0), .ref (b3 2 0), .ref qs, .ref (a5 0), .ref (a6 0)]))] ++ wd_B cI a1 bd_0 ++ wd_B cI a2 bd_0 ++ (gH0 cI cB b3).flatten ++ [(qs, .inl (cB, (2, .inr (.inr (.inr (.inr (fun _ => none)))))))] ++ wd_L cI a5 80 (li_0 80) ++ wd_L cI a6 44 (li_0 44)) H locs := ⟨hP9, hD9, hS9⟩
  have hG : gd_W (dC, dI) A s (gA7 cI cB o qs a1 a2 a5 a6 b3).flatten H locs := hG
  have hG := gd_perm (fl_pick (gs := gA7 cI cB o qs a1 a2 a5 a6 b3) [0, 11, 3, 12, 13, 1, 2, 4, 5, 6, 7, 8, 9, 10] [] pm_init) hG
  have hG : gd_W (dC, dI) A s (gB7 cI cB o qs a1 a2 a5 a6 b3).flatten H locs := hG
  have hG := gd_refs (ws := [(o, .inr (6, [.ref (a1 0), .ref (a2 0), .ref (b3 2 0), .ref qs, .ref (a5 0), .ref (a6 0)])), (qs, .inl (cB, (2, .inr (.inr (.inr (.inr (fun _ => none))))))), (b3 2 0, .inr (2, [.ref (b3 2 1), .int (hz_0 0 0), .int (hz_0 0 1)]))]) (f := fun k => some (b3 (7 + k) 0)) (g := fun k => some ((xb_0 o qs a1 a2 a5 a6 b3) (7 + k) 0)) (n := 7) (fun j hj => by rcases (show j = 0 ∨ j = 1 ∨ j = 2 ∨ j = 3 ∨ j = 4 ∨ j = 5 ∨ j = 6 by omega) with rfl | rfl | rfl | rfl | rfl | rfl | rfl <;> rfl) hG
  have hG : gd_W (dC, dI) A s (gX cI cB (xb_0 o qs a1 a2 a5 a6 b3) xs_0).flatten H locs := by
    unfold gX
    rw [sl_w_zero (show xs_0 1 0 0 = 0 from rfl), sl_w_zero (show xs_0 1 0 1 = 0 from rfl)]
    exact gd_refs (ws := [(o, .inr (6, [.ref (a1 0), .ref (a2 0), .ref (b3 2 0), .ref qs, .ref (a5 0), .ref (a6 0)]))]) (f := fun _ => none) (n := 2) (fun j hj => by rcases (show j = 0 ∨ j = 1 by omega) with rfl | rfl <;> rfl) hG
  obtain ⟨hP, hD, hS⟩ := hG
  refine W.widen (k := 252) (n := 1496) (Nat.le_of_ble_eq_true rfl) (Nat.le_of_ble_eq_true rfl) ?_
  exact W.vret hx hb hr (fun t ht hW => ⟨⟨(xb_0 o qs a1 a2 a5 a6 b3), rfl, rfl, by rw [ht]; exact hP, va_K.moved hW.alike hK, hD⟩, hS.F ht⟩) hS.2.2 dX7_init_71
