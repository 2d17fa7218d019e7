/-! ## the law: its body -/
def lw_C (p : Program) (s : State) (m : MethodId) (meth : Method) (c : Code) (bs : Nat) : Prop := p.tables.exec = Jvm.exec ∧ c.code = cL_law ∧ (∀ w ∈ bg_L, w.before #[Value.ref bs] s = true) ∧ s.vm.findClass RL = some m.cls ∧ c.maxLocals = 19
def f9_law_b591 (L : Nat) (xs : Nat → Int32) (v12 : Int32) (S : ys_T) : Option ys_T := (some S)
def f9_law_b533 (L : Nat) (xs : Nat → Int32) (v12 : Int32) (v13 : Int32) (v14 : Int32) (S : ys_T) : Option ys_T := ((fo_bd (f9_same S) (fun q542 => (if q542.1 = 0 then none else ((fo_bd (f9_low (v14 >>> ((9 : Int32) &&& 31)) (5 : Int32)) (fun q554 => (if q554 = 0 then ((fo_bd (f9_would (v13 >>> ((2 : Int32) &&& 31)) q542.2) (fun q583 => (if q583.1 = 0 then none else (f9_law_b591 L xs v12 q583.2))))) else (f9_law_b591 L xs v12 q542.2)))))))))
def f9_law_b508 (L : Nat) (xs : Nat → Int32) (v12 : Int32) (v13 : Int32) (v14 : Int32) (v16 : Int32) (t0 : Int32) (S : ys_T) : Option ys_T := ((fo_bd (f7_set v16 t0 S.1) (fun q515 => (fo_ck v16 11 (if q515.1 = (((q515.2, S.2).2.1 0) v16.toNatClampNeg) then (fo_ck v16 11 (fo_bd (some ((q515.2, S.2).1, ms_set (q515.2, S.2).2.1 0 (upd ((q515.2, S.2).2.1 0) v16.toNatClampNeg t0), (q515.2, S.2).2.2)) (fun s532 => (f9_law_b533 L xs v12 v13 v14 s532)))) else none)))))
def f9_law_b284 (L : Nat) (xs : Nat → Int32) (rec284 : Int32 → Int32 → Int32 → Int32 → Int32 → Int32 → ys_T → Option ys_T) (v12 : Int32) (v13 : Int32) (v14 : Int32) (v16 : Int32) (v17 : Int32) (v18 : Int32) (S : ys_T) : Option ys_T := ((if v16 ≤ v18 then ((fo_bd (f7_go v16 S.1) (fun q311 => (fo_bd (f9_paid (q311.2, S.2).2.1) (fun q315 => (if q311.1 = (q315 - v17) then (f9_law_b533 L xs v12 v13 v14 (q311.2, S.2)) else none)))))) else (fo_bd (f9_turn S.2.1) (fun q299 => (rec284 v12 v13 v14 v16 v17 (v18 + (1 : Int32)) (S.1, q299, S.2.2))))))
def f9_law_L284 (L : Nat) (xs : Nat → Int32) : Nat → Int32 → Int32 → Int32 → Int32 → Int32 → Int32 → ys_T → Option ys_T
  | 0, _, _, _, _, _, _, _ => none
  | n + 1, v12, v13, v14, v16, v17, v18, S => f9_law_b284 L xs (f9_law_L284 L xs n) v12 v13 v14 v16 v17 v18 S
def f9_law_b269 (L : Nat) (xs : Nat → Int32) (v12 : Int32) (v13 : Int32) (v14 : Int32) (t0 : Int32) (t1 : Int32) (t2 : Int32) (S : ys_T) : Option ys_T := (fo_bd (f9_low t1 t2) (fun q269 => (fo_bd (f9_paid S.2.1) (fun q276 => (f9_law_L284 L xs fo_fu v12 v13 v14 (t0 + q269) q276 (0 : Int32) S)))))
def f9_law_b241 (L : Nat) (xs : Nat → Int32) (v12 : Int32) (v13 : Int32) (v14 : Int32) (v15 : Int32) (S : ys_T) : Option ys_T := ((if (8 : Int32) ≤ v15 then ((if v15 = (8 : Int32) then ((fo_bd (f9_low v14 (10000 : Int32)) (fun q341 => (fo_bd (f7_seed q341 S.1) (fun q349 => (fo_ck (8 : Int32) 11 (if q349.1 = (((q349.2, S.2).2.1 0) (8 : Int32).toNatClampNeg) then (fo_ck (8 : Int32) 11 (fo_bd (some ((q349.2, S.2).1, ms_set (q349.2, S.2).2.1 0 (upd ((q349.2, S.2).2.1 0) (8 : Int32).toNatClampNeg q341), (q349.2, S.2).2.2)) (fun s366 => (f9_law_b533 L xs v12 v13 v14 s366)))) else none))))))) else ((if v15 = (9 : Int32) then ((fo_ck (6 : Int32) 11 (fo_bd (f9_low v14 ((S.2.1 0) (6 : Int32).toNatClampNeg)) (fun q383 => (fo_bd (f7_clear q383 S.1) (fun q391 => (fo_bd (f9_clear q383 0 (ms_set (q391.2, S.2).2.1 5 (fun _ => 0))) (fun q401 => (if q391.1 = q401.1 then (f9_law_b533 L xs v12 v13 v14 ((q391.2, S.2).1, q401.2, (q391.2, S.2).2.2)) else none))))))))) else ((fo_bd (f9_low v14 (5 : Int32)) (fun q415 => (if q415 = 0 then (fo_bd (f9_low (v14 >>> ((3 : Int32) &&& 31)) (100 : Int32)) (fun q431 => (f9_law_b508 L xs v12 v13 v14 q415 q431 S))) else ((if q415 = (1 : Int32) then (fo_bd (f9_low (v14 >>> ((3 : Int32) &&& 31)) (99 : Int32)) (fun q450 => (f9_law_b508 L xs v12 v13 v14 q415 ((1 : Int32) + q450) S))) else ((if q415 = (2 : Int32) then (fo_bd (f9_low (v14 >>> ((3 : Int32) &&& 31)) (99 : Int32)) (fun q470 => (f9_law_b508 L xs v12 v13 v14 q415 ((1 : Int32) + q470) S))) else ((if q415 = (3 : Int32) then (fo_bd (f9_low (v14 >>> ((3 : Int32) &&& 31)) (7 : Int32)) (fun q490 => (f9_law_b508 L xs v12 v13 v14 q415 ((1 : Int32) + q490) S))) else (fo_bd (f9_low (v14 >>> ((3 : Int32) &&& 31)) (20 : Int32)) (fun q504 => (f9_law_b508 L xs v12 v13 v14 q415 ((1 : Int32) + q504) S))))))))))))))))) else ((fo_bd (f9_low (v13 >>> ((4 : Int32) &&& 31)) (3 : Int32)) (fun q256 => (if q256 = 0 then (f9_law_b269 L xs v12 v13 v14 (1 : Int32) v14 (99 : Int32) S) else (f9_law_b269 L xs v12 v13 v14 (1 : Int32) v14 (20 : Int32) S)))))))
def f9_law_b202 (L : Nat) (xs : Nat → Int32) (v12 : Int32) (v13 : Int32) (v14 : Int32) (t0 : Int32) (t1 : Int32) (S : ys_T) : Option ys_T := ((fo_bd (f9_low t0 t1) (fun q202 => (fo_ck (6 : Int32) 11 (fo_ck ((6 : Int32) * ((S.2.1 0) (6 : Int32).toNatClampNeg)) 24 (fo_bd (some (S.1, ms_set S.2.1 1 (upd (S.2.1 1) ((6 : Int32) * ((S.2.1 0) (6 : Int32).toNatClampNeg)).toNatClampNeg q202), S.2.2)) (fun s217 => (fo_bd (f7_player q202 s217.1) (fun q221 => (fo_ck (6 : Int32) 11 (fo_ck (6 : Int32) 11 (fo_bd (some ((q221.2, s217.2).1, ms_set (q221.2, s217.2).2.1 0 (upd ((q221.2, s217.2).2.1 0) (6 : Int32).toNatClampNeg ((((q221.2, s217.2).2.1 0) (6 : Int32).toNatClampNeg) + (1 : Int32))), (q221.2, s217.2).2.2)) (fun s232 => (if q221.1 = (((q221.2, s217.2).2.1 0) (6 : Int32).toNatClampNeg) then (f9_law_b533 L xs v12 v13 v14 s232) else none))))))))))))))
def f9_law_b166 (L : Nat) (xs : Nat → Int32) (v12 : Int32) (v13 : Int32) (v14 : Int32) (t0 : Int32) (S : ys_T) : Option ys_T := ((if t0 = 0 then ((fo_ck (6 : Int32) 11 (if (4 : Int32) ≤ ((S.2.1 0) (6 : Int32).toNatClampNeg) then (f9_law_b241 L xs v12 v13 v14 t0 S) else ((fo_bd (f9_low (v13 >>> ((4 : Int32) &&& 31)) (3 : Int32)) (fun q188 => (if q188 = 0 then (f9_law_b202 L xs v12 v13 v14 v14 (500 : Int32) S) else (f9_law_b202 L xs v12 v13 v14 v14 (60 : Int32) S)))))))) else (f9_law_b241 L xs v12 v13 v14 t0 S)))
def f9_law (L : Nat) (xs : Nat → Int32) (v12 : Int32) (S : ys_T) : Option ys_T := ((fo_bd (lw_ce L xs ((2 : Int32) * v12)) (fun q132 => (fo_bd (lw_ce L xs (((2 : Int32) * v12) + (1 : Int32))) (fun q144 => (if (2 : Int32) ≤ v12 then (fo_bd (f9_low q132 (12 : Int32)) (fun q163 => (f9_law_b166 L xs v12 q132 q144 q163 S))) else (f9_law_b166 L xs v12 q132 q144 (0 : Int32) S)))))))
theorem gv_X9_99 : GoodIn bg_L (va_wsS RL 99 yL_same wm9_same) := gb_S wr_430 wr_431 wr_10 wr_432
theorem gv_X9_103 : GoodIn bg_L (va_wsS RL 103 yL_would wm9_would) := gb_S wr_520 wr_521 wr_10 wr_522
theorem gv_X9_96 : GoodIn bg_L (wsV RL 96 RX7 yX7_set wm7_set) := gb_V wr_192 wr_193 wr_194 wr_11 wr_195
theorem gv_X9_84 : GoodIn bg_L (wsV RL 84 RX7 yX7_go wm7_go) := gb_V wr_257 wr_258 wr_259 wr_11 wr_260
theorem gv_X9_81 : GoodIn bg_L (va_wsS RL 81 yL_paid wm9_paid) := gb_S wr_423 wr_424 wr_10 wr_425
theorem gv_X9_90 : GoodIn bg_L (wsV RL 90 RX7 yX7_clear wm7_clear) := gb_V wr_371 wr_372 wr_373 wr_11 wr_374
theorem gv_X9_93 : GoodIn bg_L (va_wsS RL 93 yL_clear wm9_clear) := gb_S wr_426 wr_427 wr_10 wr_428
theorem gv_X9_87 : GoodIn bg_L (wsV RL 87 RX7 yX7_seed wm7_seed) := gb_V wr_249 wr_250 wr_251 wr_11 wr_252
theorem gv_X9_78 : GoodIn bg_L (wsV RL 78 RX7 yX7_player wm7_player) := gb_V wr_241 wr_242 wr_243 wr_11 wr_244
theorem gv_X9_74 : GoodIn bg_L (va_wsS RL 74 yL_cell wm9_cell) := gb_S wr_398 wr_399 wr_10 wr_400
theorem pz_0 : (([0, 1, 2] : List Nat) ++ []).Perm (List.range 3) := by decide
theorem pz_1 : (([] : List Nat) ++ [0, 1, 2]).Perm (List.range 3) := by decide
theorem pz_2 : (([2] : List Nat) ++ [0, 1]).Perm (List.range 3) := by decide
theorem pz_3 : (([0] : List Nat) ++ [1, 2]).Perm (List.range 3) := by decide
section
variable {p : Program} {l : Launch} {e : Env} {s : State} {m : MethodId} {below : List Frame} {meth : Method} {c : Code} {dC : Nat → ClassId} {dI : Nat → Nat → Nat} {cI cB : ClassId} {bs L : Nat} {xs : Nat → Int32} {Q : State → Prop} {b : Nat → Nat → Nat}
set_option maxRecDepth 100000 in
set_option maxHeartbeats 4000000 in
theorem w9_law_b591 (C : lw_C p s m meth c bs) (hK : va_K (dC, dI) vwCl [(cI, .int), (cB, .object "DiceRoads$Board")] s) (hX : va_X bs L xs s s.heap) (hbl : bs < s.heap.size) {t1 t2 t3 : Nat} (hF : sn_W t1 t2 t3 (fun q => s.heap.size ≤ q) s s.heap) {cells slots : Nat} (hf : cells + 1 ≤ room_1.cells ∧ slots + 5 ≤ room_1.slots) {v12 : Int32} {q : ys_T} (kk : ∀ (H1 : Heap) (locs1 : List Loc) (ls1 : Array Slot), gd_W (dC, dI) (fun q => s.heap.size ≤ q) s (gY cI cB b q).flatten H1 locs1 → lv_has ls1 19 [(12, .int (v12 + (1 : Int32))), (0, .ref bs), (1, .ref (b 0 0)), (2, .ref (b 16 0)), (3, .ref (b 16 1)), (4, .ref (b 16 2)), (5, .ref (b 16 3)), (6, .ref (b 16 4)), (7, .ref (b 17 0)), (8, .ref (b 17 1)), (9, .ref (b 17 2)), (10, .ref (b 17 3)), (11, .ref (b 17 4))] → W p l e room_1 s m #[.ref bs] below meth c H1 locs1 (cells + 1) (slots + 5) Q (F0 m 120 ls1 [])) {S : ys_T} (h : f9_law_b591 L xs v12 S = some q) {H : Heap} {locs : List Loc} {ls : Array Slot} (hG : gd_W (dC, dI) (fun q => s.heap.size ≤ q) s (gY cI cB b S).flatten H locs) (hl : lv_has ls 19 [(0, .ref bs), (1, .ref (b 0 0)), (2, .ref (b 16 0)), (3, .ref (b 16 1)), (4, .ref (b 16 2)), (5, .ref (b 16 3)), (6, .ref (b 16 4)), (7, .ref (b 17 0)), (8, .ref (b 17 1)), (9, .ref (b 17 2)), (10, .ref (b 17 3)), (11, .ref (b 17 4)), (12, .int v12)]) : W p l e room_1 s m #[.ref bs] below meth c H locs (cells + 1) (slots + 5) Q (F0 m 591 ls []) := by
  unfold f9_law_b591 at h
  obtain ⟨hx, hb, hts, hown, hml⟩ := id C
  have hA : ∀ q, s.heap.size ≤ q → (fun q => s.heap.size ≤ q) q := fun _ h => h
  have hf0 : cells ≤ room_1.cells ∧ slots ≤ room_1.slots := ⟨by omega, by omega⟩
  refine lv_iinc (v := (v12 + (1 : Int32))) (lv' := [(12, .int (v12 + (1 : Int32))), (0, .ref bs), (1, .ref (b 0 0)), (2, .ref (b 16 0)), (3, .ref (b 16 1)), (4, .ref (b 16 2)), (5, .ref (b 16 3)), (6, .ref (b 16 4)), (7, .ref (b 17 0)), (8, .ref (b 17 1)), (9, .ref (b 17 2)), (10, .ref (b 17 3)), (11, .ref (b 17 4))]) hx hb dL_law_591 hl (k := 12) rfl rfl (by decide) rfl (fun ls hl => ?_)
  obtain rfl := Option.some.inj h
  refine lv_goto (tgt := 120) hx hb dL_law_594 (by decide) ?_
  exact kk H locs ls hG (lv_sub hl [0, 1, 2, 3, 4, 5, 6, 7, 8, 9, 10, 11, 12] rfl)
set_option maxRecDepth 100000 in
set_option maxHeartbeats 4000000 in
theorem w9_law_b533 (C : lw_C p s m meth c bs) (hK : va_K (dC, dI) vwCl [(cI, .int), (cB, .object "DiceRoads$Board")] s) (hX : va_X bs L xs s s.heap) (hbl : bs < s.heap.size) {t1 t2 t3 : Nat} (hF : sn_W t1 t2 t3 (fun q => s.heap.size ≤ q) s s.heap) {cells slots : Nat} (hf : cells + 1 ≤ room_1.cells ∧ slots + 5 ≤ room_1.slots) {v12 : Int32} {q : ys_T} (kk : ∀ (H1 : Heap) (locs1 : List Loc) (ls1 : Array Slot), gd_W (dC, dI) (fun q => s.heap.size ≤ q) s (gY cI cB b q).flatten H1 locs1 → lv_has ls1 19 [(12, .int (v12 + (1 : Int32))), (0, .ref bs), (1, .ref (b 0 0)), (2, .ref (b 16 0)), (3, .ref (b 16 1)), (4, .ref (b 16 2)), (5, .ref (b 16 3)), (6, .ref (b 16 4)), (7, .ref (b 17 0)), (8, .ref (b 17 1)), (9, .ref (b 17 2)), (10, .ref (b 17 3)), (11, .ref (b 17 4))] → W p l e room_1 s m #[.ref bs] below meth c H1 locs1 (cells + 1) (slots + 5) Q (F0 m 120 ls1 [])) {v13 : Int32} {v14 : Int32} {S : ys_T} (h : f9_law_b533 L xs v12 v13 v14 S = some q) {H : Heap} {locs : List Loc} {ls : Array Slot} (hG : gd_W (dC, dI) (fun q => s.heap.size ≤ q) s (gY cI cB b S).flatten H locs) (hl : lv_has ls 19 [(0, .ref bs), (1, .ref (b 0 0)), (2, .ref (b 16 0)), (3, .ref (b 16 1)), (4, .ref (b 16 2)), (5, .ref (b 16 3)), (6, .ref (b 16 4)), (7, .ref (b 17 0)), (8, .ref (b 17 1)), (9, .ref (b 17 2)), (10, .ref (b 17 3)), (11, .ref (b 17 4)), (12, .int v12), (13, .int v13), (14, .int v14)]) : W p l e room_1 s m #[.ref bs] below meth c H locs (cells + 1) (slots + 5) Q (F0 m 533 ls []) := by
  unfold f9_law_b533 at h
  obtain ⟨hx, hb, hts, hown, hml⟩ := id C
  have hA : ∀ q, s.heap.size ≤ q → (fun q => s.heap.size ≤ q) q := fun _ h => h
  have hf0 : cells ≤ room_1.cells ∧ slots ≤ room_1.slots := ⟨by omega, by omega⟩
  refine lv_aload_n hx hb dL_law_533 rfl (lv_at hl 1 rfl) ?_
  refine lv_aload_n hx hb dL_law_534 rfl (lv_at hl 2 rfl) ?_
  refine lv_aload_n hx hb dL_law_535 rfl (lv_at hl 3 rfl) ?_
  refine lv_aload hx hb dL_law_536 (lv_at hl 4 rfl) ?_
  refine lv_aload hx hb dL_law_538 (lv_at hl 5 rfl) ?_
  refine lv_aload hx hb dL_law_540 (lv_at hl 6 rfl) ?_
  obtain ⟨q542, hq542, h⟩ := fo_bd_some h
  refine gq_iS (gs := gY cI cB b S) (gs' := gY cI cB b q542.2) (As := [.ref (b 0 0), .ref (b 16 0), .ref (b 16 1), .ref (b 16 2), .ref (b 16 3), .ref (b 16 4)]) (rest := []) (wc := (gY cI cB b S).flatten) (w1 := (gY cI cB b q542.2).flatten) ⟨hx, hb, hml, hown, hts⟩ (c9_same l (b := b) hq542) (va_cwS 6 hts gv_X9_99 rfl rfl rfl hd9_same ⟨Nat.le_of_ble_eq_true rfl, Nat.le_of_ble_eq_true rfl⟩) hK [0, 1] rfl hA hG [0, 1, 2] [] pz_0 pz_0 rfl rfl rfl rfl hl.1 rfl (Nat.le_of_ble_eq_true rfl) dL_law_542 hf (fun H locs hG9 => ?_)
  have hG : gd_W (dC, dI) (fun q => s.heap.size ≤ q) s (gY cI cB b q542.2).flatten H locs := hG9
  refine lv_if_eq (tgt := 589) hx hb dL_law_545 (by decide) (fun hc => ?_) (fun hc => ?_)
  · have h := fo_it h hc
    refine lv_iconst (v := (0 : Int32)) hx hb dL_law_589 (by decide) ?_
    exact nomatch h
  · have h := fo_if h hc
    refine lv_iload hx hb dL_law_548 (lv_at hl 14 rfl) ?_
    refine lv_bipush (v := (9 : Int32)) hx hb dL_law_550 (by decide) ?_
    refine lv_ishr hx hb dL_law_552 ?_
    refine lv_iconst (v := (5 : Int32)) hx hb dL_law_553 (by decide) ?_
    obtain ⟨q554, hq554, h⟩ := fo_bd_some h
    refine gq_iS (gs := gY cI cB b q542.2) (gs' := gY cI cB b q542.2) (As := [.int (v14 >>> ((9 : Int32) &&& 31)), .int (5 : Int32)]) (rest := []) (wc := ([] : va_W)) (w1 := ([] : va_W)) ⟨hx, hb, hml, hown, hts⟩ (c9_low l (a := b 0) hq554) (va_cwS 2 hts gv_X9_49 rfl rfl rfl hd9_low ⟨Nat.le_of_ble_eq_true rfl, Nat.le_of_ble_eq_true rfl⟩) hK [] rfl hA hG [] [0, 1, 2] pz_1 pz_1 rfl rfl rfl rfl hl.1 rfl (Nat.le_of_ble_eq_true rfl) dL_law_554 hf (fun H locs hG9 => ?_)
    have hG : gd_W (dC, dI) (fun q => s.heap.size ≤ q) s (gY cI cB b q542.2).flatten H locs := hG9
    refine lv_if_ne (tgt := 591) hx hb dL_law_557 (by decide) (fun hc => ?_) (fun hc => ?_)
    · have h := fo_if h hc
      exact w9_law_b591 C hK hX hbl hF hf kk h hG (lv_sub hl [0, 1, 2, 3, 4, 5, 6, 7, 8, 9, 10, 11, 12] rfl)
    · have h := fo_it h hc
      refine lv_aload_n hx hb dL_law_560 rfl (lv_at hl 1 rfl) ?_
      refine lv_iload hx hb dL_law_561 (lv_at hl 13 rfl) ?_
      refine lv_iconst (v := (2 : Int32)) hx hb dL_law_563 (by decide) ?_
      refine lv_ishr hx hb dL_law_564 ?_
      refine lv_aload_n hx hb dL_law_565 rfl (lv_at hl 2 rfl) ?_
      refine lv_aload_n hx hb dL_law_566 rfl (lv_at hl 3 rfl) ?_
      refine lv_aload hx hb dL_law_567 (lv_at hl 4 rfl) ?_
      refine lv_aload hx hb dL_law_569 (lv_at hl 5 rfl) ?_
      refine lv_aload hx hb dL_law_571 (lv_at hl 6 rfl) ?_
      refine lv_aload hx hb dL_law_573 (lv_at hl 7 rfl) ?_
      refine lv_aload hx hb dL_law_575 (lv_at hl 8 rfl) ?_
      refine lv_aload hx hb dL_law_577 (lv_at hl 9 rfl) ?_
      refine lv_aload hx hb dL_law_579 (lv_at hl 10 rfl) ?_
      refine lv_aload hx hb dL_law_581 (lv_at hl 11 rfl) ?_
      obtain ⟨q583, hq583, h⟩ := fo_bd_some h
      refine gq_iS (gs := gY cI cB b q542.2) (gs' := gY cI cB b q583.2) (As := [.ref (b 0 0), .int (v13 >>> ((2 : Int32) &&& 31)), .ref (b 16 0), .ref (b 16 1), .ref (b 16 2), .ref (b 16 3), .ref (b 16 4), .ref (b 17 0), .ref (b 17 1), .ref (b 17 2), .ref (b 17 3), .ref (b 17 4)]) (rest := []) (wc := (gY cI cB b q542.2).flatten) (w1 := (gY cI cB b q583.2).flatten) ⟨hx, hb, hml, hown, hts⟩ (c9_would l (b := b) hq583) (va_cwS 12 hts gv_X9_103 rfl rfl rfl hd9_would ⟨Nat.le_of_ble_eq_true rfl, Nat.le_of_ble_eq_true rfl⟩) hK [0, 1] rfl hA hG [0, 1, 2] [] pz_0 pz_0 rfl rfl rfl rfl hl.1 rfl (Nat.le_of_ble_eq_true rfl) dL_law_583 hf (fun H locs hG9 => ?_)
      have hG : gd_W (dC, dI) (fun q => s.heap.size ≤ q) s (gY cI cB b q583.2).flatten H locs := hG9
      refine lv_if_ne (tgt := 591) hx hb dL_law_586 (by decide) (fun hc => ?_) (fun hc => ?_)
      · have h := fo_if h hc
        exact w9_law_b591 C hK hX hbl hF hf kk h hG (lv_sub hl [0, 1, 2, 3, 4, 5, 6, 7, 8, 9, 10, 11, 12] rfl)
      · have h := fo_it h hc
        refine lv_iconst (v := (0 : Int32)) hx hb dL_law_589 (by decide) ?_
        exact nomatch h
set_option maxRecDepth 100000 in
set_option maxHeartbeats 4000000 in
theorem w9_law_b508 (C : lw_C p s m meth c bs) (hK : va_K (dC, dI) vwCl [(cI, .int), (cB, .object "DiceRoads$Board")] s) (hX : va_X bs L xs s s.heap) (hbl : bs < s.heap.size) {t1 t2 t3 : Nat} (hF : sn_W t1 t2 t3 (fun q => s.heap.size ≤ q) s s.heap) {cells slots : Nat} (hf : cells + 1 ≤ room_1.cells ∧ slots + 5 ≤ room_1.slots) {v12 : Int32} {q : ys_T} (kk : ∀ (H1 : Heap) (locs1 : List Loc) (ls1 : Array Slot), gd_W (dC, dI) (fun q => s.heap.size ≤ q) s (gY cI cB b q).flatten H1 locs1 → lv_has ls1 19 [(12, .int (v12 + (1 : Int32))), (0, .ref bs), (1, .ref (b 0 0)), (2, .ref (b 16 0)), (3, .ref (b 16 1)), (4, .ref (b 16 2)), (5, .ref (b 16 3)), (6, .ref (b 16 4)), (7, .ref (b 17 0)), (8, .ref (b 17 1)), (9, .ref (b 17 2)), (10, .ref (b 17 3)), (11, .ref (b 17 4))] → W p l e room_1 s m #[.ref bs] below meth c H1 locs1 (cells + 1) (slots + 5) Q (F0 m 120 ls1 [])) {v13 : Int32} {v14 : Int32} {v16 : Int32} {t0 : Int32} {S : ys_T} (h : f9_law_b508 L xs v12 v13 v14 v16 t0 S = some q) {H : Heap} {locs : List Loc} {ls : Array Slot} (hG : gd_W (dC, dI) (fun q => s.heap.size ≤ q) s (gY cI cB b S).flatten H locs) (hl : lv_has ls 19 [(0, .ref bs), (1, .ref (b 0 0)), (2, .ref (b 16 0)), (3, .ref (b 16 1)), (4, .ref (b 16 2)), (5, .ref (b 16 3)), (6, .ref (b 16 4)), (7, .ref (b 17 0)), (8, .ref (b 17 1)), (9, .ref (b 17 2)), (10, .ref (b 17 3)), (11, .ref (b 17 4)), (12, .int v12), (13, .int v13), (14, .int v14), (16, .int v16)]) : W p l e room_1 s m #[.ref bs] below meth c H locs cells slots Q (F0 m 508 ls [.int t0]) := by
  unfold f9_law_b508 at h
  obtain ⟨hx, hb, hts, hown, hml⟩ := id C
  have hA : ∀ q, s.heap.size ≤ q → (fun q => s.heap.size ≤ q) q := fun _ h => h
  have hf0 : cells ≤ room_1.cells ∧ slots ≤ room_1.slots := ⟨by omega, by omega⟩
  refine lv_istore (lv' := [(17, .int t0), (0, .ref bs), (1, .ref (b 0 0)), (2, .ref (b 16 0)), (3, .ref (b 16 1)), (4, .ref (b 16 2)), (5, .ref (b 16 3)), (6, .ref (b 16 4)), (7, .ref (b 17 0)), (8, .ref (b 17 1)), (9, .ref (b 17 2)), (10, .ref (b 17 3)), (11, .ref (b 17 4)), (12, .int v12), (13, .int v13), (14, .int v14), (16, .int v16)]) hx hb dL_law_508 hl (by decide) rfl (fun ls hl => ?_)
  refine lv_aload_n hx hb dL_law_510 rfl (lv_at hl 2 rfl) ?_
  refine lv_iload hx hb dL_law_511 (lv_at hl 16 rfl) ?_
  refine lv_iload hx hb dL_law_513 (lv_at hl 0 rfl) ?_
  obtain ⟨q515, hq515, h⟩ := fo_bd_some h
  refine gn_iV (gs := gY cI cB b S) (gs' := gY cI cB b (q515.2, S.2)) (As := [.int v16, .int t0]) (rest := []) (wc := (gX cI cB b S.1).flatten) (w1 := (gX cI cB b q515.2).flatten) (b := b 0 0) (C := RX7) (ci := 6) (q0 := 0) ⟨hx, hb, hml, hown, hts⟩ hF (c7_set l hq515) (cwV 2 hts gv_X9_96 rfl rfl rfl hd7_set ⟨Nat.le_of_ble_eq_true rfl, Nat.le_of_ble_eq_true rfl⟩) hK [0, 1] rfl hA hG [2] [0, 1] pz_2 pz_2 (List.append_nil _) (List.append_nil _) rfl rfl rfl rfl hl.1 rfl (Nat.le_of_ble_eq_true rfl) dL_law_515 hf0 (fun H locs hG9 => ?_)
  have hG : gd_W (dC, dI) (fun q => s.heap.size ≤ q) s (gY cI cB b (q515.2, S.2)).flatten H locs := hG9
  refine lv_aload_n hx hb dL_law_518 rfl (lv_at hl 3 rfl) ?_
  refine lv_iload hx hb dL_law_519 (lv_at hl 16 rfl) ?_
  obtain ⟨hi, h⟩ := fo_ck_some h
  refine va_iald hx hb hK hG.1 0 0 rfl rfl hi dL_law_521 ?_
  refine lv_icmp_eq (tgt := 527) hx hb dL_law_522 (by decide) (fun hc => ?_) (fun hc => ?_)
  · have h := fo_it h hc
    refine lv_aload_n hx hb dL_law_527 rfl (lv_at hl 3 rfl) ?_
    refine lv_iload hx hb dL_law_528 (lv_at hl 16 rfl) ?_
    refine lv_iload hx hb dL_law_530 (lv_at hl 0 rfl) ?_
    obtain ⟨hi, h⟩ := fo_ck_some h
    obtain ⟨s532, es532, h⟩ := fo_bd_some h
    have es532 := Option.some.inj es532
    refine va_iast hx hb hK hG.1 hG.2.1 hG.2.2 0 0 rfl rfl hi dL_law_532 (fun H locs hP9 hD9 hS9 => ?_)
    have hG : gd_W (dC, dI) (fun q => s.heap.size ≤ q) s (gY cI cB b ((q515.2, S.2).1, ms_set (q515.2, S.2).2.1 0 (upd ((q515.2, S.2).2.1 0) v16.toNatClampNeg t0), (q515.2, S.2).2.2)).flatten H locs := ⟨hP9, hD9, hS9⟩
    rw [es532] at hG
    exact W.widen (Nat.le_add_right _ _) (Nat.le_add_right _ _) (w9_law_b533 C hK hX hbl hF hf kk h hG (lv_sub hl [1, 2, 3, 4, 5, 6, 7, 8, 9, 10, 11, 12, 13, 14, 15] rfl))
  · have h := fo_if h hc
    refine lv_iconst (v := (0 : Int32)) hx hb dL_law_525 (by decide) ?_
    exact nomatch h
set_option maxRecDepth 100000 in
set_option maxHeartbeats 4000000 in
theorem w9_law_b284 (C : lw_C p s m meth c bs) (hK : va_K (dC, dI) vwCl [(cI, .int), (cB, .object "DiceRoads$Board")] s) (hX : va_X bs L xs s s.heap) (hbl : bs < s.heap.size) {t1 t2 t3 : Nat} (hF : sn_W t1 t2 t3 (fun q => s.heap.size ≤ q) s s.heap) {cells slots : Nat} (hf : cells + 1 ≤ room_1.cells ∧ slots + 5 ≤ room_1.slots) {v12 : Int32} {q : ys_T} {rec284 : Int32 → Int32 → Int32 → Int32 → Int32 → Int32 → ys_T → Option ys_T} (hrec284 : ∀ {v13 : Int32} {v14 : Int32} {v16 : Int32} {v17 : Int32} {v18 : Int32} {S : ys_T}, rec284 v12 v13 v14 v16 v17 v18 S = some q → ∀ {H : Heap} {locs : List Loc} {ls : Array Slot}, gd_W (dC, dI) (fun q => s.heap.size ≤ q) s (gY cI cB b S).flatten H locs → lv_has ls 19 [(0, .ref bs), (1, .ref (b 0 0)), (2, .ref (b 16 0)), (3, .ref (b 16 1)), (4, .ref (b 16 2)), (5, .ref (b 16 3)), (6, .ref (b 16 4)), (7, .ref (b 17 0)), (8, .ref (b 17 1)), (9, .ref (b 17 2)), (10, .ref (b 17 3)), (11, .ref (b 17 4)), (12, .int v12), (13, .int v13), (14, .int v14), (16, .int v16), (17, .int v17), (18, .int v18)] → W p l e room_1 s m #[.ref bs] below meth c H locs cells slots Q (F0 m 284 ls [])) (kk : ∀ (H1 : Heap) (locs1 : List Loc) (ls1 : Array Slot), gd_W (dC, dI) (fun q => s.heap.size ≤ q) s (gY cI cB b q).flatten H1 locs1 → lv_has ls1 19 [(12, .int (v12 + (1 : Int32))), (0, .ref bs), (1, .ref (b 0 0)), (2, .ref (b 16 0)), (3, .ref (b 16 1)), (4, .ref (b 16 2)), (5, .ref (b 16 3)), (6, .ref (b 16 4)), (7, .ref (b 17 0)), (8, .ref (b 17 1)), (9, .ref (b 17 2)), (10, .ref (b 17 3)), (11, .ref (b 17 4))] → W p l e room_1 s m #[.ref bs] below meth c H1 locs1 (cells + 1) (slots + 5) Q (F0 m 120 ls1 [])) {v13 : Int32} {v14 : Int32} {v16 : Int32} {v17 : Int32} {v18 : Int32} {S : ys_T} (h : f9_law_b284 L xs rec284 v12 v13 v14 v16 v17 v18 S = some q) {H : Heap} {locs : List Loc} {ls : Array Slot} (hG : gd_W (dC, dI) (fun q => s.heap.size ≤ q) s (gY cI cB b S).flatten H locs) (hl : lv_has ls 19 [(0, .ref bs), (1, .ref (b 0 0)), (2, .ref (b 16 0)), (3, .ref (b 16 1)), (4, .ref (b 16 2)), (5, .ref (b 16 3)), (6, .ref (b 16 4)), (7, .ref (b 17 0)), (8, .ref (b 17 1)), (9, .ref (b 17 2)), (10, .ref (b 17 3)), (11, .ref (b 17 4)), (12, .int v12), (13, .int v13), (14, .int v14), (16, .int v16), (17, .int v17), (18, .int v18)]) : W p l e room_1 s m #[.ref bs] below meth c H locs cells slots Q (F0 m 284 ls []) := by
  unfold f9_law_b284 at h
  obtain ⟨hx, hb, hts, hown, hml⟩ := id C
  have hA : ∀ q, s.heap.size ≤ q → (fun q => s.heap.size ≤ q) q := fun _ h => h
  have hf0 : cells ≤ room_1.cells ∧ slots ≤ room_1.slots := ⟨by omega, by omega⟩
  refine lv_iload hx hb dL_law_284 (lv_at hl 17 rfl) ?_
  refine lv_iload hx hb dL_law_286 (lv_at hl 15 rfl) ?_
  refine lv_icmp_ge (tgt := 308) hx hb dL_law_288 (by decide) (fun hc => ?_) (fun hc => ?_)
  · have h := fo_it h hc
    refine lv_aload_n hx hb dL_law_308 rfl (lv_at hl 1 rfl) ?_
    refine lv_iload hx hb dL_law_309 (lv_at hl 15 rfl) ?_
    obtain ⟨q311, hq311, h⟩ := fo_bd_some h
    refine gq_iV (gs := gY cI cB b S) (gs' := gY cI cB b (q311.2, S.2)) (As := [.int v16]) (rest := []) (wc := (gX cI cB b S.1).flatten) (w1 := (gX cI cB b q311.2).flatten) (b := b 0 0) (C := RX7) (ci := 6) (q0 := 0) ⟨hx, hb, hml, hown, hts⟩ (c7_go l hq311) (cwV 1 hts gv_X9_84 rfl rfl rfl hd7_go ⟨Nat.le_of_ble_eq_true rfl, Nat.le_of_ble_eq_true rfl⟩) hK [0, 1] rfl hA hG [2] [0, 1] pz_2 pz_2 (List.append_nil _) (List.append_nil _) rfl rfl rfl rfl hl.1 rfl (Nat.le_of_ble_eq_true rfl) dL_law_311 hf0 (fun H locs hG9 => ?_)
    have hG : gd_W (dC, dI) (fun q => s.heap.size ≤ q) s (gY cI cB b (q311.2, S.2)).flatten H locs := hG9
    refine lv_aload_n hx hb dL_law_314 rfl (lv_at hl 3 rfl) ?_
    obtain ⟨q315, hq315, h⟩ := fo_bd_some h
    refine gq_iS (gs := gY cI cB b (q311.2, S.2)) (gs' := gY cI cB b (q311.2, S.2)) (As := [.ref (b 16 1)]) (rest := [.int q311.1]) (wc := (wd_G cI (b 16) (q311.2, S.2).2.1)) (w1 := (wd_G cI (b 16) (q311.2, S.2).2.1)) ⟨hx, hb, hml, hown, hts⟩ (c9_paid l (a := b 16) hq315) (va_cwS 1 hts gv_X9_81 rfl rfl rfl hd9_paid ⟨Nat.le_of_ble_eq_true rfl, Nat.le_of_ble_eq_true rfl⟩) hK [0] rfl hA hG [0] [1, 2] pz_3 pz_3 rfl rfl rfl rfl hl.1 rfl (Nat.le_of_ble_eq_true rfl) dL_law_315 hf0 (fun H locs hG9 => ?_)
    have hG : gd_W (dC, dI) (fun q => s.heap.size ≤ q) s (gY cI cB b (q311.2, S.2)).flatten H locs := hG9
    refine lv_iload hx hb dL_law_318 (lv_at hl 16 rfl) ?_
    refine lv_isub hx hb dL_law_320 ?_
    refine lv_icmp_eq (tgt := 326) hx hb dL_law_321 (by decide) (fun hc => ?_) (fun hc => ?_)
    · have h := fo_it h hc
      refine lv_goto (tgt := 533) hx hb dL_law_326 (by decide) ?_
      exact W.widen (Nat.le_add_right _ _) (Nat.le_add_right _ _) (w9_law_b533 C hK hX hbl hF hf kk h hG (lv_sub hl [0, 1, 2, 3, 4, 5, 6, 7, 8, 9, 10, 11, 12, 13, 14] rfl))
    · have h := fo_if h hc
      refine lv_iconst (v := (0 : Int32)) hx hb dL_law_324 (by decide) ?_
      exact nomatch h
  · have h := fo_if h hc
    refine lv_aload_n hx hb dL_law_291 rfl (lv_at hl 2 rfl) ?_
    refine lv_aload_n hx hb dL_law_292 rfl (lv_at hl 3 rfl) ?_
    refine lv_aload hx hb dL_law_293 (lv_at hl 4 rfl) ?_
    refine lv_aload hx hb dL_law_295 (lv_at hl 5 rfl) ?_
    refine lv_aload hx hb dL_law_297 (lv_at hl 6 rfl) ?_
    obtain ⟨q299, hq299, h⟩ := fo_bd_some h
    refine gq_vS (gs := gY cI cB b S) (gs' := gY cI cB b (S.1, q299, S.2.2)) (As := [.ref (b 16 0), .ref (b 16 1), .ref (b 16 2), .ref (b 16 3), .ref (b 16 4)]) (rest := []) (wc := (wd_G cI (b 16) S.2.1)) (w1 := (wd_G cI (b 16) q299)) ⟨hx, hb, hml, hown, hts⟩ (c9_turn l (a := b 16) hq299) (va_cwS 5 hts gv_X9_56 rfl rfl rfl hd9_turn ⟨Nat.le_of_ble_eq_true rfl, Nat.le_of_ble_eq_true rfl⟩) hK [0] rfl hA hG [0] [1, 2] pz_3 pz_3 rfl rfl rfl rfl hl.1 rfl (Nat.le_of_ble_eq_true rfl) dL_law_299 hf0 (fun H locs hG9 => ?_)
    have hG : gd_W (dC, dI) (fun q => s.heap.size ≤ q) s (gY cI cB b (S.1, q299, S.2.2)).flatten H locs := hG9
    refine lv_iinc (v := (v18 + (1 : Int32))) (lv' := [(18, .int (v18 + (1 : Int32))), (0, .ref bs), (1, .ref (b 0 0)), (2, .ref (b 16 0)), (3, .ref (b 16 1)), (4, .ref (b 16 2)), (5, .ref (b 16 3)), (6, .ref (b 16 4)), (7, .ref (b 17 0)), (8, .ref (b 17 1)), (9, .ref (b 17 2)), (10, .ref (b 17 3)), (11, .ref (b 17 4)), (12, .int v12), (13, .int v13), (14, .int v14), (16, .int v16), (17, .int v17)]) hx hb dL_law_302 hl (k := 17) rfl rfl (by decide) rfl (fun ls hl => ?_)
    refine lv_goto (tgt := 284) hx hb dL_law_305 (by decide) ?_
    exact hrec284 h hG (lv_sub hl [1, 2, 3, 4, 5, 6, 7, 8, 9, 10, 11, 12, 13, 14, 15, 16, 17, 0] rfl)
set_option maxRecDepth 100000 in
set_option maxHeartbeats 4000000 in
theorem w9_law_L284 (C : lw_C p s m meth c bs) (hK : va_K (dC, dI) vwCl [(cI, .int), (cB, .object "DiceRoads$Board")] s) (hX : va_X bs L xs s s.heap) (hbl : bs < s.heap.size) {t1 t2 t3 : Nat} (hF : sn_W t1 t2 t3 (fun q => s.heap.size ≤ q) s s.heap) {cells slots : Nat} (hf : cells + 1 ≤ room_1.cells ∧ slots + 5 ≤ room_1.slots) {v12 : Int32} {q : ys_T} (kk : ∀ (H1 : Heap) (locs1 : List Loc) (ls1 : Array Slot), gd_W (dC, dI) (fun q => s.heap.size ≤ q) s (gY cI cB b q).flatten H1 locs1 → lv_has ls1 19 [(12, .int (v12 + (1 : Int32))), (0, .ref bs), (1, .ref (b 0 0)), (2, .ref (b 16 0)), (3, .ref (b 16 1)), (4, .ref (b 16 2)), (5, .ref (b 16 3)), (6, .ref (b 16 4)), (7, .ref (b 17 0)), (8, .ref (b 17 1)), (9, .ref (b 17 2)), (10, .ref (b 17 3)), (11, .ref (b 17 4))] → W p l e room_1 s m #[.ref bs] below meth c H1 locs1 (cells + 1) (slots + 5) Q (F0 m 120 ls1 [])) : ∀ (n : Nat) {v13 : Int32} {v14 : Int32} {v16 : Int32} {v17 : Int32} {v18 : Int32} {S : ys_T}, f9_law_L284 L xs n v12 v13 v14 v16 v17 v18 S = some q → ∀ {H : Heap} {locs : List Loc} {ls : Array Slot}, gd_W (dC, dI) (fun q => s.heap.size ≤ q) s (gY cI cB b S).flatten H locs → lv_has ls 19 [(0, .ref bs), (1, .ref (b 0 0)), (2, .ref (b 16 0)), (3, .ref (b 16 1)), (4, .ref (b 16 2)), (5, .ref (b 16 3)), (6, .ref (b 16 4)), (7, .ref (b 17 0)), (8, .ref (b 17 1)), (9, .ref (b 17 2)), (10, .ref (b 17 3)), (11, .ref (b 17 4)), (12, .int v12), (13, .int v13), (14, .int v14), (16, .int v16), (17, .int v17), (18, .int v18)] → W p l e room_1 s m #[.ref bs] below meth c H locs cells slots Q (F0 m 284 ls []) := by
  intro n
  induction n with
  | zero => intro _ _ _ _ _ _ h; exact nomatch h
  | succ n ih => intro v13 v14 v16 v17 v18 S h H locs ls hG hl; exact w9_law_b284 C hK hX hbl hF hf (fun h => ih h) kk (show f9_law_b284 L xs (f9_law_L284 L xs n) v12 v13 v14 v16 v17 v18 S = some q from h) hG hl
set_option maxRecDepth 100000 in
set_option maxHeartbeats 4000000 in
theorem w9_law_b269 (C : lw_C p s m meth c bs) (hK : va_K (dC, dI) vwCl [(cI, .int), (cB, .object "DiceRoads$Board")] s) (hX : va_X bs L xs s s.heap) (hbl : bs < s.heap.size) {t1 t2 t3 : Nat} (hF : sn_W t1 t2 t3 (fun q => s.heap.size ≤ q) s s.heap) {cells slots : Nat} (hf : cells + 1 ≤ room_1.cells ∧ slots + 5 ≤ room_1.slots) {v12 : Int32} {q : ys_T} (kk : ∀ (H1 : Heap) (locs1 : List Loc) (ls1 : Array Slot), gd_W (dC, dI) (fun q => s.heap.size ≤ q) s (gY cI cB b q).flatten H1 locs1 → lv_has ls1 19 [(12, .int (v12 + (1 : Int32))), (0, .ref bs), (1, .ref (b 0 0)), (2, .ref (b 16 0)), (3, .ref (b 16 1)), (4, .ref (b 16 2)), (5, .ref (b 16 3)), (6, .ref (b 16 4)), (7, .ref (b 17 0)), (8, .ref (b 17 1)), (9, .ref (b 17 2)), (10, .ref (b 17 3)), (11, .ref (b 17 4))] → W p l e room_1 s m #[.ref bs] below meth c H1 locs1 (cells + 1) (slots + 5) Q (F0 m 120 ls1 [])) {v13 : Int32} {v14 : Int32} {t0 : Int32} {t1 : Int32} {t2 : Int32} {S : ys_T} (h : f9_law_b269 L xs v12 v13 v14 t0 t1 t2 S = some q) {H : Heap} {locs : List Loc} {ls : Array Slot} (hG : gd_W (dC, dI) (fun q => s.heap.size ≤ q) s (gY cI cB b S).flatten H locs) (hl : lv_has ls 19 [(0, .ref bs), (1, .ref (b 0 0)), (2, .ref (b 16 0)), (3, .ref (b 16 1)), (4, .ref (b 16 2)), (5, .ref (b 16 3)), (6, .ref (b 16 4)), (7, .ref (b 17 0)), (8, .ref (b 17 1)), (9, .ref (b 17 2)), (10, .ref (b 17 3)), (11, .ref (b 17 4)), (12, .int v12), (13, .int v13), (14, .int v14)]) : W p l e room_1 s m #[.ref bs] below meth c H locs cells slots Q (F0 m 269 ls [.int t2, .int t1, .int t0]) := by
  unfold f9_law_b269 at h
  obtain ⟨hx, hb, hts, hown, hml⟩ := id C
  have hA : ∀ q, s.heap.size ≤ q → (fun q => s.heap.size ≤ q) q := fun _ h => h
  have hf0 : cells ≤ room_1.cells ∧ slots ≤ room_1.slots := ⟨by omega, by omega⟩
  obtain ⟨q269, hq269, h⟩ := fo_bd_some h
  refine gq_iS (gs := gY cI cB b S) (gs' := gY cI cB b S) (As := [.int t1, .int t2]) (rest := [.int t0]) (wc := ([] : va_W)) (w1 := ([] : va_W)) ⟨hx, hb, hml, hown, hts⟩ (c9_low l (a := b 0) hq269) (va_cwS 2 hts gv_X9_49 rfl rfl rfl hd9_low ⟨Nat.le_of_ble_eq_true rfl, Nat.le_of_ble_eq_true rfl⟩) hK [] rfl hA hG [] [0, 1, 2] pz_1 pz_1 rfl rfl rfl rfl hl.1 rfl (Nat.le_of_ble_eq_true rfl) dL_law_269 hf0 (fun H locs hG9 => ?_)
  have hG : gd_W (dC, dI) (fun q => s.heap.size ≤ q) s (gY cI cB b S).flatten H locs := hG9
  refine lv_iadd hx hb dL_law_272 ?_
  refine lv_istore (lv' := [(16, .int (t0 + q269)), (0, .ref bs), (1, .ref (b 0 0)), (2, .ref (b 16 0)), (3, .ref (b 16 1)), (4, .ref (b 16 2)), (5, .ref (b 16 3)), (6, .ref (b 16 4)), (7, .ref (b 17 0)), (8, .ref (b 17 1)), (9, .ref (b 17 2)), (10, .ref (b 17 3)), (11, .ref (b 17 4)), (12, .int v12), (13, .int v13), (14, .int v14)]) hx hb dL_law_273 hl (by decide) rfl (fun ls hl => ?_)
  refine lv_aload_n hx hb dL_law_275 rfl (lv_at hl 4 rfl) ?_
  obtain ⟨q276, hq276, h⟩ := fo_bd_some h
  refine gq_iS (gs := gY cI cB b S) (gs' := gY cI cB b S) (As := [.ref (b 16 1)]) (rest := []) (wc := (wd_G cI (b 16) S.2.1)) (w1 := (wd_G cI (b 16) S.2.1)) ⟨hx, hb, hml, hown, hts⟩ (c9_paid l (a := b 16) hq276) (va_cwS 1 hts gv_X9_81 rfl rfl rfl hd9_paid ⟨Nat.le_of_ble_eq_true rfl, Nat.le_of_ble_eq_true rfl⟩) hK [0] rfl hA hG [0] [1, 2] pz_3 pz_3 rfl rfl rfl rfl hl.1 rfl (Nat.le_of_ble_eq_true rfl) dL_law_276 hf0 (fun H locs hG9 => ?_)
  have hG : gd_W (dC, dI) (fun q => s.heap.size ≤ q) s (gY cI cB b S).flatten H locs := hG9
  refine lv_istore (lv' := [(17, .int q276), (16, .int (t0 + q269)), (0, .ref bs), (1, .ref (b 0 0)), (2, .ref (b 16 0)), (3, .ref (b 16 1)), (4, .ref (b 16 2)), (5, .ref (b 16 3)), (6, .ref (b 16 4)), (7, .ref (b 17 0)), (8, .ref (b 17 1)), (9, .ref (b 17 2)), (10, .ref (b 17 3)), (11, .ref (b 17 4)), (12, .int v12), (13, .int v13), (14, .int v14)]) hx hb dL_law_279 hl (by decide) rfl (fun ls hl => ?_)
  refine lv_iconst (v := (0 : Int32)) hx hb dL_law_281 (by decide) ?_
  refine lv_istore (lv' := [(18, .int (0 : Int32)), (17, .int q276), (16, .int (t0 + q269)), (0, .ref bs), (1, .ref (b 0 0)), (2, .ref (b 16 0)), (3, .ref (b 16 1)), (4, .ref (b 16 2)), (5, .ref (b 16 3)), (6, .ref (b 16 4)), (7, .ref (b 17 0)), (8, .ref (b 17 1)), (9, .ref (b 17 2)), (10, .ref (b 17 3)), (11, .ref (b 17 4)), (12, .int v12), (13, .int v13), (14, .int v14)]) hx hb dL_law_282 hl (by decide) rfl (fun ls hl => ?_)
  exact w9_law_L284 C hK hX hbl hF hf kk fo_fu h hG (lv_sub hl [3, 4, 5, 6, 7, 8, 9, 10, 11, 12, 13, 14, 15, 16, 17, 2, 1, 0] rfl)
set_option maxRecDepth 100000 in
set_option maxHeartbeats 4000000 in
theorem w9_law_b241 (C : lw_C p s m meth c bs) (hK : va_K (dC, dI) vwCl [(cI, .int), (cB, .object "DiceRoads$Board")] s) (hX : va_X bs L xs s s.heap) (hbl : bs < s.heap.size) {t1 t2 t3 : Nat} (hF : sn_W t1 t2 t3 (fun q => s.heap.size ≤ q) s s.heap) {cells slots : Nat} (hf : cells + 1 ≤ room_1.cells ∧ slots + 5 ≤ room_1.slots) {v12 : Int32} {q : ys_T} (kk : ∀ (H1 : Heap) (locs1 : List Loc) (ls1 : Array Slot), gd_W (dC, dI) (fun q => s.heap.size ≤ q) s (gY cI cB b q).flatten H1 locs1 → lv_has ls1 19 [(12, .int (v12 + (1 : Int32))), (0, .ref bs), (1, .ref (b 0 0)), (2, .ref (b 16 0)), (3, .ref (b 16 1)), (4, .ref (b 16 2)), (5, .ref (b 16 3)), (6, .ref (b 16 4)), (7, .ref (b 17 0)), (8, .ref (b 17 1)), (9, .ref (b 17 2)), (10, .ref (b 17 3)), (11, .ref (b 17 4))] → W p l e room_1 s m #[.ref bs] below meth c H1 locs1 (cells + 1) (slots + 5) Q (F0 m 120 ls1 [])) {v13 : Int32} {v14 : Int32} {v15 : Int32} {S : ys_T} (h : f9_law_b241 L xs v12 v13 v14 v15 S = some q) {H : Heap} {locs : List Loc} {ls : Array Slot} (hG : gd_W (dC, dI) (fun q => s.heap.size ≤ q) s (gY cI cB b S).flatten H locs) (hl : lv_has ls 19 [(0, .ref bs), (1, .ref (b 0 0)), (2, .ref (b 16 0)), (3, .ref (b 16 1)), (4, .ref (b 16 2)), (5, .ref (b 16 3)), (6, .ref (b 16 4)), (7, .ref (b 17 0)), (8, .ref (b 17 1)), (9, .ref (b 17 2)), (10, .ref (b 17 3)), (11, .ref (b 17 4)), (12, .int v12), (13, .int v13), (14, .int v14), (15, .int v15)]) : W p l e room_1 s m #[.ref bs] below meth c H locs cells slots Q (F0 m 241 ls []) := by
  unfold f9_law_b241 at h
  obtain ⟨hx, hb, hts, hown, hml⟩ := id C
  have hA : ∀ q, s.heap.size ≤ q → (fun q => s.heap.size ≤ q) q := fun _ h => h
  have hf0 : cells ≤ room_1.cells ∧ slots ≤ room_1.slots := ⟨by omega, by omega⟩
  refine lv_iload hx hb dL_law_241 (lv_at hl 15 rfl) ?_
  refine lv_bipush (v := (8 : Int32)) hx hb dL_law_243 (by decide) ?_
  refine lv_icmp_ge (tgt := 329) hx hb dL_law_245 (by decide) (fun hc => ?_) (fun hc => ?_)
  · have h := fo_it h hc
    refine lv_iload hx hb dL_law_329 (lv_at hl 15 rfl) ?_
    refine lv_bipush (v := (8 : Int32)) hx hb dL_law_331 (by decide) ?_
    refine lv_icmp_ne (tgt := 370) hx hb dL_law_333 (by decide) (fun hc => ?_) (fun hc => ?_)
    · have h := fo_if h hc
      refine lv_iload hx hb dL_law_370 (lv_at hl 15 rfl) ?_
      refine lv_bipush (v := (9 : Int32)) hx hb dL_law_372 (by decide) ?_
      refine lv_icmp_ne (tgt := 412) hx hb dL_law_374 (by decide) (fun hc => ?_) (fun hc => ?_)
      · have h := fo_if h hc
        refine lv_iload hx hb dL_law_412 (lv_at hl 14 rfl) ?_
        refine lv_iconst (v := (5 : Int32)) hx hb dL_law_414 (by decide) ?_
        obtain ⟨q415, hq415, h⟩ := fo_bd_some h
        refine gq_iS (gs := gY cI cB b S) (gs' := gY cI cB b S) (As := [.int v14, .int (5 : Int32)]) (rest := []) (wc := ([] : va_W)) (w1 := ([] : va_W)) ⟨hx, hb, hml, hown, hts⟩ (c9_low l (a := b 0) hq415) (va_cwS 2 hts gv_X9_49 rfl rfl rfl hd9_low ⟨Nat.le_of_ble_eq_true rfl, Nat.le_of_ble_eq_true rfl⟩) hK [] rfl hA hG [] [0, 1, 2] pz_1 pz_1 rfl rfl rfl rfl hl.1 rfl (Nat.le_of_ble_eq_true rfl) dL_law_415 hf0 (fun H locs hG9 => ?_)
        have hG : gd_W (dC, dI) (fun q => s.heap.size ≤ q) s (gY cI cB b S).flatten H locs := hG9
        refine lv_istore (lv' := [(16, .int q415), (0, .ref bs), (1, .ref (b 0 0)), (2, .ref (b 16 0)), (3, .ref (b 16 1)), (4, .ref (b 16 2)), (5, .ref (b 16 3)), (6, .ref (b 16 4)), (7, .ref (b 17 0)), (8, .ref (b 17 1)), (9, .ref (b 17 2)), (10, .ref (b 17 3)), (11, .ref (b 17 4)), (12, .int v12), (13, .int v13), (14, .int v14), (15, .int v15)]) hx hb dL_law_418 hl (by decide) rfl (fun ls hl => ?_)
        refine lv_iload hx hb dL_law_420 (lv_at hl 0 rfl) ?_
        refine lv_if_ne (tgt := 437) hx hb dL_law_422 (by decide) (fun hc => ?_) (fun hc => ?_)
        · have h := fo_if h hc
          refine lv_iload hx hb dL_law_437 (lv_at hl 0 rfl) ?_
          refine lv_iconst (v := (1 : Int32)) hx hb dL_law_439 (by decide) ?_
          refine lv_icmp_ne (tgt := 457) hx hb dL_law_440 (by decide) (fun hc => ?_) (fun hc => ?_)
          · have h := fo_if h hc
            refine lv_iload hx hb dL_law_457 (lv_at hl 0 rfl) ?_
            refine lv_iconst (v := (2 : Int32)) hx hb dL_law_459 (by decide) ?_
            refine lv_icmp_ne (tgt := 477) hx hb dL_law_460 (by decide) (fun hc => ?_) (fun hc => ?_)
            · have h := fo_if h hc
              refine lv_iload hx hb dL_law_477 (lv_at hl 0 rfl) ?_
              refine lv_iconst (v := (3 : Int32)) hx hb dL_law_479 (by decide) ?_
              refine lv_icmp_ne (tgt := 497) hx hb dL_law_480 (by decide) (fun hc => ?_) (fun hc => ?_)
              · have h := fo_if h hc
                refine lv_iconst (v := (1 : Int32)) hx hb dL_law_497 (by decide) ?_
                refine lv_iload hx hb dL_law_498 (lv_at hl 15 rfl) ?_
                refine lv_iconst (v := (3 : Int32)) hx hb dL_law_500 (by decide) ?_
                refine lv_ishr hx hb dL_law_501 ?_
                refine lv_bipush (v := (20 : Int32)) hx hb dL_law_502 (by decide) ?_
                obtain ⟨q504, hq504, h⟩ := fo_bd_some h
                refine gq_iS (gs := gY cI cB b S) (gs' := gY cI cB b S) (As := [.int (v14 >>> ((3 : Int32) &&& 31)), .int (20 : Int32)]) (rest := [.int (1 : Int32)]) (wc := ([] : va_W)) (w1 := ([] : va_W)) ⟨hx, hb, hml, hown, hts⟩ (c9_low l (a := b 0) hq504) (va_cwS 2 hts gv_X9_49 rfl rfl rfl hd9_low ⟨Nat.le_of_ble_eq_true rfl, Nat.le_of_ble_eq_true rfl⟩) hK [] rfl hA hG [] [0, 1, 2] pz_1 pz_1 rfl rfl rfl rfl hl.1 rfl (Nat.le_of_ble_eq_true rfl) dL_law_504 hf0 (fun H locs hG9 => ?_)
                have hG : gd_W (dC, dI) (fun q => s.heap.size ≤ q) s (gY cI cB b S).flatten H locs := hG9
                refine lv_iadd hx hb dL_law_507 ?_
                exact w9_law_b508 C hK hX hbl hF hf kk h hG (lv_sub hl [1, 2, 3, 4, 5, 6, 7, 8, 9, 10, 11, 12, 13, 14, 15, 0] rfl)
              · have h := fo_it h hc
                refine lv_iconst (v := (1 : Int32)) hx hb dL_law_483 (by decide) ?_
                refine lv_iload hx hb dL_law_484 (lv_at hl 15 rfl) ?_
                refine lv_iconst (v := (3 : Int32)) hx hb dL_law_486 (by decide) ?_
                refine lv_ishr hx hb dL_law_487 ?_
                refine lv_bipush (v := (7 : Int32)) hx hb dL_law_488 (by decide) ?_
                obtain ⟨q490, hq490, h⟩ := fo_bd_some h
                refine gq_iS (gs := gY cI cB b S) (gs' := gY cI cB b S) (As := [.int (v14 >>> ((3 : Int32) &&& 31)), .int (7 : Int32)]) (rest := [.int (1 : Int32)]) (wc := ([] : va_W)) (w1 := ([] : va_W)) ⟨hx, hb, hml, hown, hts⟩ (c9_low l (a := b 0) hq490) (va_cwS 2 hts gv_X9_49 rfl rfl rfl hd9_low ⟨Nat.le_of_ble_eq_true rfl, Nat.le_of_ble_eq_true rfl⟩) hK [] rfl hA hG [] [0, 1, 2] pz_1 pz_1 rfl rfl rfl rfl hl.1 rfl (Nat.le_of_ble_eq_true rfl) dL_law_490 hf0 (fun H locs hG9 => ?_)
                have hG : gd_W (dC, dI) (fun q => s.heap.size ≤ q) s (gY cI cB b S).flatten H locs := hG9
                refine lv_iadd hx hb dL_law_493 ?_
                refine lv_goto (tgt := 508) hx hb dL_law_494 (by decide) ?_
                exact w9_law_b508 C hK hX hbl hF hf kk h hG (lv_sub hl [1, 2, 3, 4, 5, 6, 7, 8, 9, 10, 11, 12, 13, 14, 15, 0] rfl)
            · have h := fo_it h hc
              refine lv_iconst (v := (1 : Int32)) hx hb dL_law_463 (by decide) ?_
              refine lv_iload hx hb dL_law_464 (lv_at hl 15 rfl) ?_
              refine lv_iconst (v := (3 : Int32)) hx hb dL_law_466 (by decide) ?_
              refine lv_ishr hx hb dL_law_467 ?_
              refine lv_bipush (v := (99 : Int32)) hx hb dL_law_468 (by decide) ?_
              obtain ⟨q470, hq470, h⟩ := fo_bd_some h
              refine gq_iS (gs := gY cI cB b S) (gs' := gY cI cB b S) (As := [.int (v14 >>> ((3 : Int32) &&& 31)), .int (99 : Int32)]) (rest := [.int (1 : Int32)]) (wc := ([] : va_W)) (w1 := ([] : va_W)) ⟨hx, hb, hml, hown, hts⟩ (c9_low l (a := b 0) hq470) (va_cwS 2 hts gv_X9_49 rfl rfl rfl hd9_low ⟨Nat.le_of_ble_eq_true rfl, Nat.le_of_ble_eq_true rfl⟩) hK [] rfl hA hG [] [0, 1, 2] pz_1 pz_1 rfl rfl rfl rfl hl.1 rfl (Nat.le_of_ble_eq_true rfl) dL_law_470 hf0 (fun H locs hG9 => ?_)
              have hG : gd_W (dC, dI) (fun q => s.heap.size ≤ q) s (gY cI cB b S).flatten H locs := hG9
              refine lv_iadd hx hb dL_law_473 ?_
              refine lv_goto (tgt := 508) hx hb dL_law_474 (by decide) ?_
              exact w9_law_b508 C hK hX hbl hF hf kk h hG (lv_sub hl [1, 2, 3, 4, 5, 6, 7, 8, 9, 10, 11, 12, 13, 14, 15, 0] rfl)
          · have h := fo_it h hc
            refine lv_iconst (v := (1 : Int32)) hx hb dL_law_443 (by decide) ?_
            refine lv_iload hx hb dL_law_444 (lv_at hl 15 rfl) ?_
            refine lv_iconst (v := (3 : Int32)) hx hb dL_law_446 (by decide) ?_
            refine lv_ishr hx hb dL_law_447 ?_
            refine lv_bipush (v := (99 : Int32)) hx hb dL_law_448 (by decide) ?_
            obtain ⟨q450, hq450, h⟩ := fo_bd_some h
            refine gq_iS (gs := gY cI cB b S) (gs' := gY cI cB b S) (As := [.int (v14 >>> ((3 : Int32) &&& 31)), .int (99 : Int32)]) (rest := [.int (1 : Int32)]) (wc := ([] : va_W)) (w1 := ([] : va_W)) ⟨hx, hb, hml, hown, hts⟩ (c9_low l (a := b 0) hq450) (va_cwS 2 hts gv_X9_49 rfl rfl rfl hd9_low ⟨Nat.le_of_ble_eq_true rfl, Nat.le_of_ble_eq_true rfl⟩) hK [] rfl hA hG [] [0, 1, 2] pz_1 pz_1 rfl rfl rfl rfl hl.1 rfl (Nat.le_of_ble_eq_true rfl) dL_law_450 hf0 (fun H locs hG9 => ?_)
            have hG : gd_W (dC, dI) (fun q => s.heap.size ≤ q) s (gY cI cB b S).flatten H locs := hG9
            refine lv_iadd hx hb dL_law_453 ?_
            refine lv_goto (tgt := 508) hx hb dL_law_454 (by decide) ?_
            exact w9_law_b508 C hK hX hbl hF hf kk h hG (lv_sub hl [1, 2, 3, 4, 5, 6, 7, 8, 9, 10, 11, 12, 13, 14, 15, 0] rfl)
        · have h := fo_it h hc
          refine lv_iload hx hb dL_law_425 (lv_at hl 15 rfl) ?_
          refine lv_iconst (v := (3 : Int32)) hx hb dL_law_427 (by decide) ?_
          refine lv_ishr hx hb dL_law_428 ?_
          refine lv_bipush (v := (100 : Int32)) hx hb dL_law_429 (by decide) ?_
          obtain ⟨q431, hq431, h⟩ := fo_bd_some h
          refine gq_iS (gs := gY cI cB b S) (gs' := gY cI cB b S) (As := [.int (v14 >>> ((3 : Int32) &&& 31)), .int (100 : Int32)]) (rest := []) (wc := ([] : va_W)) (w1 := ([] : va_W)) ⟨hx, hb, hml, hown, hts⟩ (c9_low l (a := b 0) hq431) (va_cwS 2 hts gv_X9_49 rfl rfl rfl hd9_low ⟨Nat.le_of_ble_eq_true rfl, Nat.le_of_ble_eq_true rfl⟩) hK [] rfl hA hG [] [0, 1, 2] pz_1 pz_1 rfl rfl rfl rfl hl.1 rfl (Nat.le_of_ble_eq_true rfl) dL_law_431 hf0 (fun H locs hG9 => ?_)
          have hG : gd_W (dC, dI) (fun q => s.heap.size ≤ q) s (gY cI cB b S).flatten H locs := hG9
          refine lv_goto (tgt := 508) hx hb dL_law_434 (by decide) ?_
          exact w9_law_b508 C hK hX hbl hF hf kk h hG (lv_sub hl [1, 2, 3, 4, 5, 6, 7, 8, 9, 10, 11, 12, 13, 14, 15, 0] rfl)
      · have h := fo_it h hc
        refine lv_iload hx hb dL_law_377 (lv_at hl 14 rfl) ?_
        refine lv_aload_n hx hb dL_law_379 rfl (lv_at hl 2 rfl) ?_
        refine lv_bipush (v := (6 : Int32)) hx hb dL_law_380 (by decide) ?_
        obtain ⟨hi, h⟩ := fo_ck_some h
        refine va_iald hx hb hK hG.1 0 0 rfl rfl hi dL_law_382 ?_
        obtain ⟨q383, hq383, h⟩ := fo_bd_some h
        refine gq_iS (gs := gY cI cB b S) (gs' := gY cI cB b S) (As := [.int v14, .int ((S.2.1 0) (6 : Int32).toNatClampNeg)]) (rest := []) (wc := ([] : va_W)) (w1 := ([] : va_W)) ⟨hx, hb, hml, hown, hts⟩ (c9_low l (a := b 0) hq383) (va_cwS 2 hts gv_X9_49 rfl rfl rfl hd9_low ⟨Nat.le_of_ble_eq_true rfl, Nat.le_of_ble_eq_true rfl⟩) hK [] rfl hA hG [] [0, 1, 2] pz_1 pz_1 rfl rfl rfl rfl hl.1 rfl (Nat.le_of_ble_eq_true rfl) dL_law_383 hf0 (fun H locs hG9 => ?_)
        have hG : gd_W (dC, dI) (fun q => s.heap.size ≤ q) s (gY cI cB b S).flatten H locs := hG9
        refine lv_istore (lv' := [(16, .int q383), (0, .ref bs), (1, .ref (b 0 0)), (2, .ref (b 16 0)), (3, .ref (b 16 1)), (4, .ref (b 16 2)), (5, .ref (b 16 3)), (6, .ref (b 16 4)), (7, .ref (b 17 0)), (8, .ref (b 17 1)), (9, .ref (b 17 2)), (10, .ref (b 17 3)), (11, .ref (b 17 4)), (12, .int v12), (13, .int v13), (14, .int v14), (15, .int v15)]) hx hb dL_law_386 hl (by decide) rfl (fun ls hl => ?_)
        refine lv_aload_n hx hb dL_law_388 rfl (lv_at hl 2 rfl) ?_
        refine lv_iload hx hb dL_law_389 (lv_at hl 0 rfl) ?_
        obtain ⟨q391, hq391, h⟩ := fo_bd_some h
        refine gq_iV (gs := gY cI cB b S) (gs' := gY cI cB b (q391.2, S.2)) (As := [.int q383]) (rest := []) (wc := (gX cI cB b S.1).flatten) (w1 := (gX cI cB b q391.2).flatten) (b := b 0 0) (C := RX7) (ci := 6) (q0 := 0) ⟨hx, hb, hml, hown, hts⟩ (c7_clear l hq391) (cwV 1 hts gv_X9_90 rfl rfl rfl hd7_clear ⟨Nat.le_of_ble_eq_true rfl, Nat.le_of_ble_eq_true rfl⟩) hK [0, 1] rfl hA hG [2] [0, 1] pz_2 pz_2 (List.append_nil _) (List.append_nil _) rfl rfl rfl rfl hl.1 rfl (Nat.le_of_ble_eq_true rfl) dL_law_391 hf0 (fun H locs hG9 => ?_)
        have hG : gd_W (dC, dI) (fun q => s.heap.size ≤ q) s (gY cI cB b (q391.2, S.2)).flatten H locs := hG9
        refine lv_iload hx hb dL_law_394 (lv_at hl 0 rfl) ?_
        refine lv_aload_n hx hb dL_law_396 rfl (lv_at hl 3 rfl) ?_
        refine lv_aload hx hb dL_law_397 (lv_at hl 6 rfl) ?_
        refine lv_aload hx hb dL_law_399 (lv_at hl 7 rfl) ?_
        obtain ⟨q401, hq401, h⟩ := fo_bd_some h
        refine gq_iSn (gs := gY cI cB b (q391.2, S.2)) (gs' := gY cI cB b ((q391.2, S.2).1, q401.2, (q391.2, S.2).2.2)) (As := [.int q383, .ref (b 16 0), .ref (b 16 3), .ref (b 16 4)]) (rest := [.int q391.1]) (wc := (wd_G cI (b 16) (q391.2, S.2).2.1)) (w1 := (wd_G cI (b 16) q401.2)) ⟨hx, hb, hml, hown, hts⟩ (c9_clear l (a := b 16) hq401) (va_cwS 4 hts gv_X9_93 rfl rfl rfl hd9_clear ⟨Nat.le_of_ble_eq_true rfl, Nat.le_of_ble_eq_true rfl⟩) hK [0] rfl hA hG [0] [1, 2] pz_3 pz_3 rfl rfl rfl rfl hl.1 rfl (Nat.le_of_ble_eq_true rfl) dL_law_401 hf (fun H locs hG9 => ?_)
        have hG : gd_W (dC, dI) (fun q => s.heap.size ≤ q) s (gY cI cB b ((q391.2, S.2).1, q401.2, (q391.2, S.2).2.2)).flatten H locs := hG9
        refine lv_icmp_eq (tgt := 409) hx hb dL_law_404 (by decide) (fun hc => ?_) (fun hc => ?_)
        · have h := fo_it h hc
          refine lv_goto (tgt := 533) hx hb dL_law_409 (by decide) ?_
          exact w9_law_b533 C hK hX hbl hF hf kk h hG (lv_sub hl [1, 2, 3, 4, 5, 6, 7, 8, 9, 10, 11, 12, 13, 14, 15] rfl)
        · have h := fo_if h hc
          refine lv_iconst (v := (0 : Int32)) hx hb dL_law_407 (by decide) ?_
          exact nomatch h
    · have h := fo_it h hc
      refine lv_iload hx hb dL_law_336 (lv_at hl 14 rfl) ?_
      refine lv_sipush (v := (10000 : Int32)) hx hb dL_law_338 (by decide) ?_
      obtain ⟨q341, hq341, h⟩ := fo_bd_some h
      refine gq_iS (gs := gY cI cB b S) (gs' := gY cI cB b S) (As := [.int v14, .int (10000 : Int32)]) (rest := []) (wc := ([] : va_W)) (w1 := ([] : va_W)) ⟨hx, hb, hml, hown, hts⟩ (c9_low l (a := b 0) hq341) (va_cwS 2 hts gv_X9_49 rfl rfl rfl hd9_low ⟨Nat.le_of_ble_eq_true rfl, Nat.le_of_ble_eq_true rfl⟩) hK [] rfl hA hG [] [0, 1, 2] pz_1 pz_1 rfl rfl rfl rfl hl.1 rfl (Nat.le_of_ble_eq_true rfl) dL_law_341 hf0 (fun H locs hG9 => ?_)
      have hG : gd_W (dC, dI) (fun q => s.heap.size ≤ q) s (gY cI cB b S).flatten H locs := hG9
      refine lv_istore (lv' := [(16, .int q341), (0, .ref bs), (1, .ref (b 0 0)), (2, .ref (b 16 0)), (3, .ref (b 16 1)), (4, .ref (b 16 2)), (5, .ref (b 16 3)), (6, .ref (b 16 4)), (7, .ref (b 17 0)), (8, .ref (b 17 1)), (9, .ref (b 17 2)), (10, .ref (b 17 3)), (11, .ref (b 17 4)), (12, .int v12), (13, .int v13), (14, .int v14), (15, .int v15)]) hx hb dL_law_344 hl (by decide) rfl (fun ls hl => ?_)
      refine lv_aload_n hx hb dL_law_346 rfl (lv_at hl 2 rfl) ?_
      refine lv_iload hx hb dL_law_347 (lv_at hl 0 rfl) ?_
      obtain ⟨q349, hq349, h⟩ := fo_bd_some h
      refine gq_iV (gs := gY cI cB b S) (gs' := gY cI cB b (q349.2, S.2)) (As := [.int q341]) (rest := []) (wc := (gX cI cB b S.1).flatten) (w1 := (gX cI cB b q349.2).flatten) (b := b 0 0) (C := RX7) (ci := 6) (q0 := 0) ⟨hx, hb, hml, hown, hts⟩ (c7_seed l hq349) (cwV 1 hts gv_X9_87 rfl rfl rfl hd7_seed ⟨Nat.le_of_ble_eq_true rfl, Nat.le_of_ble_eq_true rfl⟩) hK [0, 1] rfl hA hG [2] [0, 1] pz_2 pz_2 (List.append_nil _) (List.append_nil _) rfl rfl rfl rfl hl.1 rfl (Nat.le_of_ble_eq_true rfl) dL_law_349 hf0 (fun H locs hG9 => ?_)
      have hG : gd_W (dC, dI) (fun q => s.heap.size ≤ q) s (gY cI cB b (q349.2, S.2)).flatten H locs := hG9
      refine lv_aload_n hx hb dL_law_352 rfl (lv_at hl 3 rfl) ?_
      refine lv_bipush (v := (8 : Int32)) hx hb dL_law_353 (by decide) ?_
      obtain ⟨hi, h⟩ := fo_ck_some h
      refine va_iald hx hb hK hG.1 0 0 rfl rfl hi dL_law_355 ?_
      refine lv_icmp_eq (tgt := 361) hx hb dL_law_356 (by decide) (fun hc => ?_) (fun hc => ?_)
      · have h := fo_it h hc
        refine lv_aload_n hx hb dL_law_361 rfl (lv_at hl 3 rfl) ?_
        refine lv_bipush (v := (8 : Int32)) hx hb dL_law_362 (by decide) ?_
        refine lv_iload hx hb dL_law_364 (lv_at hl 0 rfl) ?_
        obtain ⟨hi, h⟩ := fo_ck_some h
        obtain ⟨s366, es366, h⟩ := fo_bd_some h
        have es366 := Option.some.inj es366
        refine va_iast hx hb hK hG.1 hG.2.1 hG.2.2 0 0 rfl rfl hi dL_law_366 (fun H locs hP9 hD9 hS9 => ?_)
        have hG : gd_W (dC, dI) (fun q => s.heap.size ≤ q) s (gY cI cB b ((q349.2, S.2).1, ms_set (q349.2, S.2).2.1 0 (upd ((q349.2, S.2).2.1 0) (8 : Int32).toNatClampNeg q341), (q349.2, S.2).2.2)).flatten H locs := ⟨hP9, hD9, hS9⟩
        rw [es366] at hG
        refine lv_goto (tgt := 533) hx hb dL_law_367 (by decide) ?_
        exact W.widen (Nat.le_add_right _ _) (Nat.le_add_right _ _) (w9_law_b533 C hK hX hbl hF hf kk h hG (lv_sub hl [1, 2, 3, 4, 5, 6, 7, 8, 9, 10, 11, 12, 13, 14, 15] rfl))
      · have h := fo_if h hc
        refine lv_iconst (v := (0 : Int32)) hx hb dL_law_359 (by decide) ?_
        exact nomatch h
  · have h := fo_if h hc
    refine lv_iconst (v := (1 : Int32)) hx hb dL_law_248 (by decide) ?_
    refine lv_iload hx hb dL_law_249 (lv_at hl 14 rfl) ?_
    refine lv_iload hx hb dL_law_251 (lv_at hl 13 rfl) ?_
    refine lv_iconst (v := (4 : Int32)) hx hb dL_law_253 (by decide) ?_
    refine lv_ishr hx hb dL_law_254 ?_
    refine lv_iconst (v := (3 : Int32)) hx hb dL_law_255 (by decide) ?_
    obtain ⟨q256, hq256, h⟩ := fo_bd_some h
    refine gq_iS (gs := gY cI cB b S) (gs' := gY cI cB b S) (As := [.int (v13 >>> ((4 : Int32) &&& 31)), .int (3 : Int32)]) (rest := [.int v14, .int (1 : Int32)]) (wc := ([] : va_W)) (w1 := ([] : va_W)) ⟨hx, hb, hml, hown, hts⟩ (c9_low l (a := b 0) hq256) (va_cwS 2 hts gv_X9_49 rfl rfl rfl hd9_low ⟨Nat.le_of_ble_eq_true rfl, Nat.le_of_ble_eq_true rfl⟩) hK [] rfl hA hG [] [0, 1, 2] pz_1 pz_1 rfl rfl rfl rfl hl.1 rfl (Nat.le_of_ble_eq_true rfl) dL_law_256 hf0 (fun H locs hG9 => ?_)
    have hG : gd_W (dC, dI) (fun q => s.heap.size ≤ q) s (gY cI cB b S).flatten H locs := hG9
    refine lv_if_ne (tgt := 267) hx hb dL_law_259 (by decide) (fun hc => ?_) (fun hc => ?_)
    · have h := fo_if h hc
      refine lv_bipush (v := (20 : Int32)) hx hb dL_law_267 (by decide) ?_
      exact w9_law_b269 C hK hX hbl hF hf kk h hG (lv_sub hl [0, 1, 2, 3, 4, 5, 6, 7, 8, 9, 10, 11, 12, 13, 14] rfl)
    · have h := fo_it h hc
      refine lv_bipush (v := (99 : Int32)) hx hb dL_law_262 (by decide) ?_
      refine lv_goto (tgt := 269) hx hb dL_law_264 (by decide) ?_
      exact w9_law_b269 C hK hX hbl hF hf kk h hG (lv_sub hl [0, 1, 2, 3, 4, 5, 6, 7, 8, 9, 10, 11, 12, 13, 14] rfl)
set_option maxRecDepth 100000 in
set_option maxHeartbeats 4000000 in
theorem w9_law_b202 (C : lw_C p s m meth c bs) (hK : va_K (dC, dI) vwCl [(cI, .int), (cB, .object "DiceRoads$Board")] s) (hX : va_X bs L xs s s.heap) (hbl : bs < s.heap.size) {t1 t2 t3 : Nat} (hF : sn_W t1 t2 t3 (fun q => s.heap.size ≤ q) s s.heap) {cells slots : Nat} (hf : cells + 1 ≤ room_1.cells ∧ slots + 5 ≤ room_1.slots) {v12 : Int32} {q : ys_T} (kk : ∀ (H1 : Heap) (locs1 : List Loc) (ls1 : Array Slot), gd_W (dC, dI) (fun q => s.heap.size ≤ q) s (gY cI cB b q).flatten H1 locs1 → lv_has ls1 19 [(12, .int (v12 + (1 : Int32))), (0, .ref bs), (1, .ref (b 0 0)), (2, .ref (b 16 0)), (3, .ref (b 16 1)), (4, .ref (b 16 2)), (5, .ref (b 16 3)), (6, .ref (b 16 4)), (7, .ref (b 17 0)), (8, .ref (b 17 1)), (9, .ref (b 17 2)), (10, .ref (b 17 3)), (11, .ref (b 17 4))] → W p l e room_1 s m #[.ref bs] below meth c H1 locs1 (cells + 1) (slots + 5) Q (F0 m 120 ls1 [])) {v13 : Int32} {v14 : Int32} {t0 : Int32} {t1 : Int32} {S : ys_T} (h : f9_law_b202 L xs v12 v13 v14 t0 t1 S = some q) {H : Heap} {locs : List Loc} {ls : Array Slot} (hG : gd_W (dC, dI) (fun q => s.heap.size ≤ q) s (gY cI cB b S).flatten H locs) (hl : lv_has ls 19 [(0, .ref bs), (1, .ref (b 0 0)), (2, .ref (b 16 0)), (3, .ref (b 16 1)), (4, .ref (b 16 2)), (5, .ref (b 16 3)), (6, .ref (b 16 4)), (7, .ref (b 17 0)), (8, .ref (b 17 1)), (9, .ref (b 17 2)), (10, .ref (b 17 3)), (11, .ref (b 17 4)), (12, .int v12), (13, .int v13), (14, .int v14)]) : W p l e room_1 s m #[.ref bs] below meth c H locs cells slots Q (F0 m 202 ls [.int t1, .int t0]) := by
  unfold f9_law_b202 at h
  obtain ⟨hx, hb, hts, hown, hml⟩ := id C
  have hA : ∀ q, s.heap.size ≤ q → (fun q => s.heap.size ≤ q) q := fun _ h => h
  have hf0 : cells ≤ room_1.cells ∧ slots ≤ room_1.slots := ⟨by omega, by omega⟩
  obtain ⟨q202, hq202, h⟩ := fo_bd_some h
  refine gq_iS (gs := gY cI cB b S) (gs' := gY cI cB b S) (As := [.int t0, .int t1]) (rest := []) (wc := ([] : va_W)) (w1 := ([] : va_W)) ⟨hx, hb, hml, hown, hts⟩ (c9_low l (a := b 0) hq202) (va_cwS 2 hts gv_X9_49 rfl rfl rfl hd9_low ⟨Nat.le_of_ble_eq_true rfl, Nat.le_of_ble_eq_true rfl⟩) hK [] rfl hA hG [] [0, 1, 2] pz_1 pz_1 rfl rfl rfl rfl hl.1 rfl (Nat.le_of_ble_eq_true rfl) dL_law_202 hf0 (fun H locs hG9 => ?_)
  have hG : gd_W (dC, dI) (fun q => s.heap.size ≤ q) s (gY cI cB b S).flatten H locs := hG9
  refine lv_istore (lv' := [(16, .int q202), (0, .ref bs), (1, .ref (b 0 0)), (2, .ref (b 16 0)), (3, .ref (b 16 1)), (4, .ref (b 16 2)), (5, .ref (b 16 3)), (6, .ref (b 16 4)), (7, .ref (b 17 0)), (8, .ref (b 17 1)), (9, .ref (b 17 2)), (10, .ref (b 17 3)), (11, .ref (b 17 4)), (12, .int v12), (13, .int v13), (14, .int v14)]) hx hb dL_law_205 hl (by decide) rfl (fun ls hl => ?_)
  refine lv_aload_n hx hb dL_law_207 rfl (lv_at hl 4 rfl) ?_
  refine lv_bipush (v := (6 : Int32)) hx hb dL_law_208 (by decide) ?_
  refine lv_aload_n hx hb dL_law_210 rfl (lv_at hl 3 rfl) ?_
  refine lv_bipush (v := (6 : Int32)) hx hb dL_law_211 (by decide) ?_
  obtain ⟨hi, h⟩ := fo_ck_some h
  refine va_iald hx hb hK hG.1 0 0 rfl rfl hi dL_law_213 ?_
  refine lv_imul hx hb dL_law_214 ?_
  refine lv_iload hx hb dL_law_215 (lv_at hl 0 rfl) ?_
  obtain ⟨hi, h⟩ := fo_ck_some h
  obtain ⟨s217, es217, h⟩ := fo_bd_some h
  have es217 := Option.some.inj es217
  refine va_iast hx hb hK hG.1 hG.2.1 hG.2.2 1 0 rfl rfl hi dL_law_217 (fun H locs hP9 hD9 hS9 => ?_)
  have hG : gd_W (dC, dI) (fun q => s.heap.size ≤ q) s (gY cI cB b (S.1, ms_set S.2.1 1 (upd (S.2.1 1) ((6 : Int32) * ((S.2.1 0) (6 : Int32).toNatClampNeg)).toNatClampNeg q202), S.2.2)).flatten H locs := ⟨hP9, hD9, hS9⟩
  rw [es217] at hG
  refine lv_aload_n hx hb dL_law_218 rfl (lv_at hl 2 rfl) ?_
  refine lv_iload hx hb dL_law_219 (lv_at hl 0 rfl) ?_
  obtain ⟨q221, hq221, h⟩ := fo_bd_some h
  refine gq_iV (gs := gY cI cB b s217) (gs' := gY cI cB b (q221.2, s217.2)) (As := [.int q202]) (rest := []) (wc := (gX cI cB b s217.1).flatten) (w1 := (gX cI cB b q221.2).flatten) (b := b 0 0) (C := RX7) (ci := 6) (q0 := 0) ⟨hx, hb, hml, hown, hts⟩ (c7_player l hq221) (cwV 1 hts gv_X9_78 rfl rfl rfl hd7_player ⟨Nat.le_of_ble_eq_true rfl, Nat.le_of_ble_eq_true rfl⟩) hK [0, 1] rfl hA hG [2] [0, 1] pz_2 pz_2 (List.append_nil _) (List.append_nil _) rfl rfl rfl rfl hl.1 rfl (Nat.le_of_ble_eq_true rfl) dL_law_221 hf0 (fun H locs hG9 => ?_)
  have hG : gd_W (dC, dI) (fun q => s.heap.size ≤ q) s (gY cI cB b (q221.2, s217.2)).flatten H locs := hG9
  refine lv_aload_n hx hb dL_law_224 rfl (lv_at hl 3 rfl) ?_
  refine lv_bipush (v := (6 : Int32)) hx hb dL_law_225 (by decide) ?_
  refine lv_dup2_11 hx hb dL_law_227 rfl rfl ?_
  obtain ⟨hi, h⟩ := fo_ck_some h
  refine va_iald hx hb hK hG.1 0 0 rfl rfl hi dL_law_228 ?_
  refine lv_dup_x2 hx hb dL_law_229 rfl rfl rfl ?_
  refine lv_iconst (v := (1 : Int32)) hx hb dL_law_230 (by decide) ?_
  refine lv_iadd hx hb dL_law_231 ?_
  obtain ⟨hi, h⟩ := fo_ck_some h
  obtain ⟨s232, es232, h⟩ := fo_bd_some h
  have es232 := Option.some.inj es232
  refine va_iast hx hb hK hG.1 hG.2.1 hG.2.2 0 0 rfl rfl hi dL_law_232 (fun H locs hP9 hD9 hS9 => ?_)
  have hG : gd_W (dC, dI) (fun q => s.heap.size ≤ q) s (gY cI cB b ((q221.2, s217.2).1, ms_set (q221.2, s217.2).2.1 0 (upd ((q221.2, s217.2).2.1 0) (6 : Int32).toNatClampNeg ((((q221.2, s217.2).2.1 0) (6 : Int32).toNatClampNeg) + (1 : Int32))), (q221.2, s217.2).2.2)).flatten H locs := ⟨hP9, hD9, hS9⟩
  rw [es232] at hG
  refine lv_icmp_eq (tgt := 238) hx hb dL_law_233 (by decide) (fun hc => ?_) (fun hc => ?_)
  · have h := fo_it h hc
    refine lv_goto (tgt := 533) hx hb dL_law_238 (by decide) ?_
    exact W.widen (Nat.le_add_right _ _) (Nat.le_add_right _ _) (w9_law_b533 C hK hX hbl hF hf kk h hG (lv_sub hl [1, 2, 3, 4, 5, 6, 7, 8, 9, 10, 11, 12, 13, 14, 15] rfl))
  · have h := fo_if h hc
    refine lv_iconst (v := (0 : Int32)) hx hb dL_law_236 (by decide) ?_
    exact nomatch h
set_option maxRecDepth 100000 in
set_option maxHeartbeats 4000000 in
theorem w9_law_b166 (C : lw_C p s m meth c bs) (hK : va_K (dC, dI) vwCl [(cI, .int), (cB, .object "DiceRoads$Board")] s) (hX : va_X bs L xs s s.heap) (hbl : bs < s.heap.size) {t1 t2 t3 : Nat} (hF : sn_W t1 t2 t3 (fun q => s.heap.size ≤ q) s s.heap) {cells slots : Nat} (hf : cells + 1 ≤ room_1.cells ∧ slots + 5 ≤ room_1.slots) {v12 : Int32} {q : ys_T} (kk : ∀ (H1 : Heap) (locs1 : List Loc) (ls1 : Array Slot), gd_W (dC, dI) (fun q => s.heap.size ≤ q) s (gY cI cB b q).flatten H1 locs1 → lv_has ls1 19 [(12, .int (v12 + (1 : Int32))), (0, .ref bs), (1, .ref (b 0 0)), (2, .ref (b 16 0)), (3, .ref (b 16 1)), (4, .ref (b 16 2)), (5, .ref (b 16 3)), (6, .ref (b 16 4)), (7, .ref (b 17 0)), (8, .ref (b 17 1)), (9, .ref (b 17 2)), (10, .ref (b 17 3)), (11, .ref (b 17 4))] → W p l e room_1 s m #[.ref bs] below meth c H1 locs1 (cells + 1) (slots + 5) Q (F0 m 120 ls1 [])) {v13 : Int32} {v14 : Int32} {t0 : Int32} {S : ys_T} (h : f9_law_b166 L xs v12 v13 v14 t0 S = some q) {H : Heap} {locs : List Loc} {ls : Array Slot} (hG : gd_W (dC, dI) (fun q => s.heap.size ≤ q) s (gY cI cB b S).flatten H locs) (hl : lv_has ls 19 [(0, .ref bs), (1, .ref (b 0 0)), (2, .ref (b 16 0)), (3, .ref (b 16 1)), (4, .ref (b 16 2)), (5, .ref (b 16 3)), (6, .ref (b 16 4)), (7, .ref (b 17 0)), (8, .ref (b 17 1)), (9, .ref (b 17 2)), (10, .ref (b 17 3)), (11, .ref (b 17 4)), (12, .int v12), (13, .int v13), (14, .int v14)]) : W p l e room_1 s m #[.ref bs] below meth c H locs cells slots Q (F0 m 166 ls [.int t0]) := by
  unfold f9_law_b166 at h
  obtain ⟨hx, hb, hts, hown, hml⟩ := id C
  have hA : ∀ q, s.heap.size ≤ q → (fun q => s.heap.size ≤ q) q := fun _ h => h
  have hf0 : cells ≤ room_1.cells ∧ slots ≤ room_1.slots := ⟨by omega, by omega⟩
  refine lv_istore (lv' := [(15, .int t0), (0, .ref bs), (1, .ref (b 0 0)), (2, .ref (b 16 0)), (3, .ref (b 16 1)), (4, .ref (b 16 2)), (5, .ref (b 16 3)), (6, .ref (b 16 4)), (7, .ref (b 17 0)), (8, .ref (b 17 1)), (9, .ref (b 17 2)), (10, .ref (b 17 3)), (11, .ref (b 17 4)), (12, .int v12), (13, .int v13), (14, .int v14)]) hx hb dL_law_166 hl (by decide) rfl (fun ls hl => ?_)
  refine lv_iload hx hb dL_law_168 (lv_at hl 0 rfl) ?_
  refine lv_if_ne (tgt := 241) hx hb dL_law_170 (by decide) (fun hc => ?_) (fun hc => ?_)
  · have h := fo_if h hc
    exact w9_law_b241 C hK hX hbl hF hf kk h hG (lv_sub hl [1, 2, 3, 4, 5, 6, 7, 8, 9, 10, 11, 12, 13, 14, 15, 0] rfl)
  · have h := fo_it h hc
    refine lv_aload_n hx hb dL_law_173 rfl (lv_at hl 3 rfl) ?_
    refine lv_bipush (v := (6 : Int32)) hx hb dL_law_174 (by decide) ?_
    obtain ⟨hi, h⟩ := fo_ck_some h
    refine va_iald hx hb hK hG.1 0 0 rfl rfl hi dL_law_176 ?_
    refine lv_iconst (v := (4 : Int32)) hx hb dL_law_177 (by decide) ?_
    refine lv_icmp_ge (tgt := 241) hx hb dL_law_178 (by decide) (fun hc => ?_) (fun hc => ?_)
    · have h := fo_it h hc
      exact w9_law_b241 C hK hX hbl hF hf kk h hG (lv_sub hl [1, 2, 3, 4, 5, 6, 7, 8, 9, 10, 11, 12, 13, 14, 15, 0] rfl)
    · have h := fo_if h hc
      refine lv_iload hx hb dL_law_181 (lv_at hl 15 rfl) ?_
      refine lv_iload hx hb dL_law_183 (lv_at hl 14 rfl) ?_
      refine lv_iconst (v := (4 : Int32)) hx hb dL_law_185 (by decide) ?_
      refine lv_ishr hx hb dL_law_186 ?_
      refine lv_iconst (v := (3 : Int32)) hx hb dL_law_187 (by decide) ?_
      obtain ⟨q188, hq188, h⟩ := fo_bd_some h
      refine gq_iS (gs := gY cI cB b S) (gs' := gY cI cB b S) (As := [.int (v13 >>> ((4 : Int32) &&& 31)), .int (3 : Int32)]) (rest := [.int v14]) (wc := ([] : va_W)) (w1 := ([] : va_W)) ⟨hx, hb, hml, hown, hts⟩ (c9_low l (a := b 0) hq188) (va_cwS 2 hts gv_X9_49 rfl rfl rfl hd9_low ⟨Nat.le_of_ble_eq_true rfl, Nat.le_of_ble_eq_true rfl⟩) hK [] rfl hA hG [] [0, 1, 2] pz_1 pz_1 rfl rfl rfl rfl hl.1 rfl (Nat.le_of_ble_eq_true rfl) dL_law_188 hf0 (fun H locs hG9 => ?_)
      have hG : gd_W (dC, dI) (fun q => s.heap.size ≤ q) s (gY cI cB b S).flatten H locs := hG9
      refine lv_if_ne (tgt := 200) hx hb dL_law_191 (by decide) (fun hc => ?_) (fun hc => ?_)
      · have h := fo_if h hc
        refine lv_bipush (v := (60 : Int32)) hx hb dL_law_200 (by decide) ?_
        exact w9_law_b202 C hK hX hbl hF hf kk h hG (lv_sub hl [1, 2, 3, 4, 5, 6, 7, 8, 9, 10, 11, 12, 13, 14, 15] rfl)
      · have h := fo_it h hc
        refine lv_sipush (v := (500 : Int32)) hx hb dL_law_194 (by decide) ?_
        refine lv_goto (tgt := 202) hx hb dL_law_197 (by decide) ?_
        exact w9_law_b202 C hK hX hbl hF hf kk h hG (lv_sub hl [1, 2, 3, 4, 5, 6, 7, 8, 9, 10, 11, 12, 13, 14, 15] rfl)
set_option maxRecDepth 100000 in
set_option maxHeartbeats 4000000 in
theorem w9_law (C : lw_C p s m meth c bs) (hK : va_K (dC, dI) vwCl [(cI, .int), (cB, .object "DiceRoads$Board")] s) (hX : va_X bs L xs s s.heap) (hbl : bs < s.heap.size) {t1 t2 t3 : Nat} (hF : sn_W t1 t2 t3 (fun q => s.heap.size ≤ q) s s.heap) {cells slots : Nat} (hf : cells + 1 ≤ room_1.cells ∧ slots + 5 ≤ room_1.slots) {v12 : Int32} {q : ys_T} (kk : ∀ (H1 : Heap) (locs1 : List Loc) (ls1 : Array Slot), gd_W (dC, dI) (fun q => s.heap.size ≤ q) s (gY cI cB b q).flatten H1 locs1 → lv_has ls1 19 [(12, .int (v12 + (1 : Int32))), (0, .ref bs), (1, .ref (b 0 0)), (2, .ref (b 16 0)), (3, .ref (b 16 1)), (4, .ref (b 16 2)), (5, .ref (b 16 3)), (6, .ref (b 16 4)), (7, .ref (b 17 0)), (8, .ref (b 17 1)), (9, .ref (b 17 2)), (10, .ref (b 17 3)), (11, .ref (b 17 4))] → W p l e room_1 s m #[.ref bs] below meth c H1 locs1 (cells + 1) (slots + 5) Q (F0 m 120 ls1 [])) {S : ys_T} (h : f9_law L xs v12 S = some q) {H : Heap} {locs : List Loc} {ls : Array Slot} (hG : gd_W (dC, dI) (fun q => s.heap.size ≤ q) s (gY cI cB b S).flatten H locs) (hl : lv_has ls 19 [(0, .ref bs), (1, .ref (b 0 0)), (2, .ref (b 16 0)), (3, .ref (b 16 1)), (4, .ref (b 16 2)), (5, .ref (b 16 3)), (6, .ref (b 16 4)), (7, .ref (b 17 0)), (8, .ref (b 17 1)), (9, .ref (b 17 2)), (10, .ref (b 17 3)), (11, .ref (b 17 4)), (12, .int v12)]) : W p l e room_1 s m #[.ref bs] below meth c H locs cells slots Q (F0 m 127 ls []) := by
  unfold f9_law at h
  obtain ⟨hx, hb, hts, hown, hml⟩ := id C
  have hA : ∀ q, s.heap.size ≤ q → (fun q => s.heap.size ≤ q) q := fun _ h => h
  have hf0 : cells ≤ room_1.cells ∧ slots ≤ room_1.slots := ⟨by omega, by omega⟩
  refine lv_aload_n hx hb dL_law_127 rfl (lv_at hl 0 rfl) ?_
  refine lv_iconst (v := (2 : Int32)) hx hb dL_law_128 (by decide) ?_
  refine lv_iload hx hb dL_law_129 (lv_at hl 12 rfl) ?_
  refine lv_imul hx hb dL_law_131 ?_
  obtain ⟨q132, hq132, h⟩ := fo_bd_some h
  refine gl_cell (As := [.ref bs, .int ((2 : Int32) * v12)]) (rest := []) ⟨hx, hb, hml, hown, hts⟩ (c9_cell l hq132) (va_cwS 2 hts gv_X9_74 rfl rfl rfl hd9_cell ⟨Nat.le_of_ble_eq_true rfl, Nat.le_of_ble_eq_true rfl⟩) hX hbl (Nat.not_le.mpr hbl) hA hG rfl hl.1 rfl (Nat.le_of_ble_eq_true rfl) dL_law_132 hf0 (fun H locs hG9 => ?_)
  have hG : gd_W (dC, dI) (fun q => s.heap.size ≤ q) s (gY cI cB b S).flatten H locs := hG9
  refine lv_istore (lv' := [(13, .int q132), (0, .ref bs), (1, .ref (b 0 0)), (2, .ref (b 16 0)), (3, .ref (b 16 1)), (4, .ref (b 16 2)), (5, .ref (b 16 3)), (6, .ref (b 16 4)), (7, .ref (b 17 0)), (8, .ref (b 17 1)), (9, .ref (b 17 2)), (10, .ref (b 17 3)), (11, .ref (b 17 4)), (12, .int v12)]) hx hb dL_law_135 hl (by decide) rfl (fun ls hl => ?_)
  refine lv_aload_n hx hb dL_law_137 rfl (lv_at hl 1 rfl) ?_
  refine lv_iconst (v := (2 : Int32)) hx hb dL_law_138 (by decide) ?_
  refine lv_iload hx hb dL_law_139 (lv_at hl 13 rfl) ?_
  refine lv_imul hx hb dL_law_141 ?_
  refine lv_iconst (v := (1 : Int32)) hx hb dL_law_142 (by decide) ?_
  refine lv_iadd hx hb dL_law_143 ?_
  obtain ⟨q144, hq144, h⟩ := fo_bd_some h
  refine gl_cell (As := [.ref bs, .int (((2 : Int32) * v12) + (1 : Int32))]) (rest := []) ⟨hx, hb, hml, hown, hts⟩ (c9_cell l hq144) (va_cwS 2 hts gv_X9_74 rfl rfl rfl hd9_cell ⟨Nat.le_of_ble_eq_true rfl, Nat.le_of_ble_eq_true rfl⟩) hX hbl (Nat.not_le.mpr hbl) hA hG rfl hl.1 rfl (Nat.le_of_ble_eq_true rfl) dL_law_144 hf0 (fun H locs hG9 => ?_)
  have hG : gd_W (dC, dI) (fun q => s.heap.size ≤ q) s (gY cI cB b S).flatten H locs := hG9
  refine lv_istore (lv' := [(14, .int q144), (13, .int q132), (0, .ref bs), (1, .ref (b 0 0)), (2, .ref (b 16 0)), (3, .ref (b 16 1)), (4, .ref (b 16 2)), (5, .ref (b 16 3)), (6, .ref (b 16 4)), (7, .ref (b 17 0)), (8, .ref (b 17 1)), (9, .ref (b 17 2)), (10, .ref (b 17 3)), (11, .ref (b 17 4)), (12, .int v12)]) hx hb dL_law_147 hl (by decide) rfl (fun ls hl => ?_)
  refine lv_iload hx hb dL_law_149 (lv_at hl 14 rfl) ?_
  refine lv_iconst (v := (2 : Int32)) hx hb dL_law_151 (by decide) ?_
  refine lv_icmp_ge (tgt := 159) hx hb dL_law_152 (by decide) (fun hc => ?_) (fun hc => ?_)
  · have h := fo_it h hc
    refine lv_iload hx hb dL_law_159 (lv_at hl 1 rfl) ?_
    refine lv_bipush (v := (12 : Int32)) hx hb dL_law_161 (by decide) ?_
    obtain ⟨q163, hq163, h⟩ := fo_bd_some h
    refine gq_iS (gs := gY cI cB b S) (gs' := gY cI cB b S) (As := [.int q132, .int (12 : Int32)]) (rest := []) (wc := ([] : va_W)) (w1 := ([] : va_W)) ⟨hx, hb, hml, hown, hts⟩ (c9_low l (a := b 0) hq163) (va_cwS 2 hts gv_X9_49 rfl rfl rfl hd9_low ⟨Nat.le_of_ble_eq_true rfl, Nat.le_of_ble_eq_true rfl⟩) hK [] rfl hA hG [] [0, 1, 2] pz_1 pz_1 rfl rfl rfl rfl hl.1 rfl (Nat.le_of_ble_eq_true rfl) dL_law_163 hf0 (fun H locs hG9 => ?_)
    have hG : gd_W (dC, dI) (fun q => s.heap.size ≤ q) s (gY cI cB b S).flatten H locs := hG9
    exact w9_law_b166 C hK hX hbl hF hf kk h hG (lv_sub hl [2, 3, 4, 5, 6, 7, 8, 9, 10, 11, 12, 13, 14, 1, 0] rfl)
  · have h := fo_if h hc
    refine lv_iconst (v := (0 : Int32)) hx hb dL_law_155 (by decide) ?_
    refine lv_goto (tgt := 166) hx hb dL_law_156 (by decide) ?_
    exact w9_law_b166 C hK hX hbl hF hf kk h hG (lv_sub hl [2, 3, 4, 5, 6, 7, 8, 9, 10, 11, 12, 13, 14, 1, 0] rfl)
end
