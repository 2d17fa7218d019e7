/-! ## DiceRoads$Orders.firstFault(LDiceRoads$Line;)I -/
section
variable {p : Program} {l : Launch} {e : Env} {s : State} {m : MethodId} {args : Array Value} {below : List Frame} {meth : Method} {c : Code} {dC : Nat → ClassId} {dI : Nat → Nat → Nat} {cI : ClassId} {A : Nat → Prop}
set_option maxRecDepth 100000 in
set_option maxHeartbeats 4000000 in
theorem w4_firstFault_b4 (C : cx_M p s m args meth c RX4 cX4_firstFault (some .int) 3) (hK : va_K (dC, dI) vwCl [(cI, .int)] s) (hA : ∀ q, s.heap.size ≤ q → A q) {a : Nat → Nat} {g : Nat} {S : ms_T} {q : Int32} {rec4 : Int32 → Int32 → ms_T → Option Int32} (hrec4 : ∀ {v1 : Int32} {v2 : Int32} , rec4 v1 v2 S = some q → ∀ {H : Heap} {locs : List Loc} {ls : Array Slot}, gd_W (dC, dI) A s (wd_L cI a g S) H locs → lv_has ls 3 [(0, .ref (a 0)), (1, .int v1), (2, .int v2)] → W p l e RM4_firstFault s m args below meth c H locs 0 0 (MQ below (qi_W (dC, dI) [(cI, .int)] A q (wd_L cI a g S)) args s 0 0 A) (F0 m 4 ls [])) {v1 : Int32} {v2 : Int32} (h : f4_firstFault_b4 g rec4 v1 v2 S = some q) {H : Heap} {locs : List Loc} {ls : Array Slot} (hG : gd_W (dC, dI) A s (wd_L cI a g S) H locs) (hl : lv_has ls 3 [(0, .ref (a 0)), (1, .int v1), (2, .int v2)]) : W p l e RM4_firstFault s m args below meth c H locs 0 0 (MQ below (qi_W (dC, dI) [(cI, .int)] A q (wd_L cI a g S)) args s 0 0 A) (F0 m 4 ls []) := by
  unfold f4_firstFault_b4 at h
  obtain ⟨hx, hb, hr, hts, hown, hlocks, hml⟩ := id C
  refine lv_iload_n hx hb dX4_firstFault_4 rfl (lv_at hl 2 rfl) ?_
  refine lv_aload_n hx hb dX4_firstFault_5 rfl (lv_at hl 0 rfl) ?_
  obtain ⟨q6, hq6, h⟩ := fo_bd_some h
  refine gs_iV (b := a 0) (C := RX3) (As := []) (rest := [.int v2]) (w1 := (wd_L cI a g S)) (ci := 3) (q0 := 0) ⟨hx, hb, hml, hown, hts⟩ (c3_length l (a := a) (g := g) hq6) (cwV 0 hts gv_X4_13 rfl rfl rfl hd3_length ⟨Nat.le_of_ble_eq_true rfl, Nat.le_of_ble_eq_true rfl⟩) hK hA hG rfl rfl rfl hl.1 rfl (Nat.le_of_ble_eq_true rfl) dX4_firstFault_6 ⟨Nat.zero_le _, Nat.zero_le _⟩ (fun H locs hG9 => ?_)
  have hG : gd_W (dC, dI) A s (wd_L cI a g S) H locs := hG9
  refine lv_icmp_ge (tgt := 35) hx hb dX4_firstFault_9 (by decide) (fun hc => ?_) (fun hc => ?_)
  · have h := fo_it h hc
    refine lv_iload_n hx hb dX4_firstFault_35 rfl (lv_at hl 1 rfl) ?_
    refine lv_iconst (v := (3 : Int32)) hx hb dX4_firstFault_36 (by decide) ?_
    refine lv_icmp_lt (tgt := 45) hx hb dX4_firstFault_37 (by decide) (fun hc => ?_) (fun hc => ?_)
    · have h := fo_it h hc
      refine lv_aload_n hx hb dX4_firstFault_45 rfl (lv_at hl 0 rfl) ?_
      obtain ⟨q46, hq46, h⟩ := fo_bd_some h
      refine gs_iV (b := a 0) (C := RX3) (As := []) (rest := []) (w1 := (wd_L cI a g S)) (ci := 3) (q0 := 0) ⟨hx, hb, hml, hown, hts⟩ (c3_length l (a := a) (g := g) hq46) (cwV 0 hts gv_X4_13 rfl rfl rfl hd3_length ⟨Nat.le_of_ble_eq_true rfl, Nat.le_of_ble_eq_true rfl⟩) hK hA hG rfl rfl rfl hl.1 rfl (Nat.le_of_ble_eq_true rfl) dX4_firstFault_46 ⟨Nat.zero_le _, Nat.zero_le _⟩ (fun H locs hG9 => ?_)
      have hG : gd_W (dC, dI) A s (wd_L cI a g S) H locs := hG9
      exact gr_i hx hb hr hlocks hK hG (Option.some.inj h) dX4_firstFault_49
    · have h := fo_if h hc
      refine lv_bipush (v := (-6 : Int32)) hx hb dX4_firstFault_40 (by decide) ?_
      refine lv_goto (tgt := 49) hx hb dX4_firstFault_42 (by decide) ?_
      exact gr_i hx hb hr hlocks hK hG (Option.some.inj h) dX4_firstFault_49
  · have h := fo_if h hc
    refine lv_iload_n hx hb dX4_firstFault_12 rfl (lv_at hl 1 rfl) ?_
    refine lv_aload_n hx hb dX4_firstFault_13 rfl (lv_at hl 0 rfl) ?_
    refine lv_iload_n hx hb dX4_firstFault_14 rfl (lv_at hl 2 rfl) ?_
    obtain ⟨q15, hq15, h⟩ := fo_bd_some h
    refine gs_iV (b := a 0) (C := RX3) (As := [.int v2]) (rest := [.int v1]) (w1 := (wd_L cI a g S)) (ci := 3) (q0 := 0) ⟨hx, hb, hml, hown, hts⟩ (c3_at l (a := a) (g := g) hq15) (cwV 1 hts gv_X4_19 rfl rfl rfl hd3_at ⟨Nat.le_of_ble_eq_true rfl, Nat.le_of_ble_eq_true rfl⟩) hK hA hG rfl rfl rfl hl.1 rfl (Nat.le_of_ble_eq_true rfl) dX4_firstFault_15 ⟨Nat.zero_le _, Nat.zero_le _⟩ (fun H locs hG9 => ?_)
    have hG : gd_W (dC, dI) A s (wd_L cI a g S) H locs := hG9
    obtain ⟨q18, hq18, h⟩ := fo_bd_some h
    refine gc_iS (As := [.int v1, .int q15]) (rest := []) (wc := ([] : va_W)) (w1 := ([] : va_W)) ⟨hx, hb, hml, hown, hts⟩ (c4_dueBehind l (a := a) hq18) (va_cwS 2 hts gv_X4_23 rfl rfl rfl hd4_dueBehind ⟨Nat.le_of_ble_eq_true rfl, Nat.le_of_ble_eq_true rfl⟩) hK [] rfl hA hG [] rfl rfl rfl rfl hl.1 rfl (Nat.le_of_ble_eq_true rfl) dX4_firstFault_18 ⟨Nat.zero_le _, Nat.zero_le _⟩ (fun H locs hG9 => ?_)
    have hG : gd_W (dC, dI) A s (wd_L cI a g S) H locs := hG9
    refine lv_istore_n (lv' := [(1, .int q18), (0, .ref (a 0)), (2, .int v2)]) hx hb dX4_firstFault_21 rfl hl (by decide) rfl (fun ls hl => ?_)
    refine lv_iload_n hx hb dX4_firstFault_22 rfl (lv_at hl 0 rfl) ?_
    refine lv_iconst (v := (-1 : Int32)) hx hb dX4_firstFault_23 (by decide) ?_
    refine lv_icmp_ne (tgt := 29) hx hb dX4_firstFault_24 (by decide) (fun hc => ?_) (fun hc => ?_)
    · have h := fo_if h hc
      refine lv_iinc (v := (v2 + (1 : Int32))) (lv' := [(2, .int (v2 + (1 : Int32))), (1, .int q18), (0, .ref (a 0))]) hx hb dX4_firstFault_29 hl (k := 2) rfl rfl (by decide) rfl (fun ls hl => ?_)
      refine lv_goto (tgt := 4) hx hb dX4_firstFault_32 (by decide) ?_
      exact hrec4 h hG (lv_sub hl [2, 1, 0] rfl)
    · have h := fo_it h hc
      refine lv_iload_n hx hb dX4_firstFault_27 rfl (lv_at hl 2 rfl) ?_
      exact gr_i hx hb hr hlocks hK hG (Option.some.inj h) dX4_firstFault_28
set_option maxRecDepth 100000 in
set_option maxHeartbeats 4000000 in
theorem w4_firstFault_L4 (C : cx_M p s m args meth c RX4 cX4_firstFault (some .int) 3) (hK : va_K (dC, dI) vwCl [(cI, .int)] s) (hA : ∀ q, s.heap.size ≤ q → A q) {a : Nat → Nat} {g : Nat} {S : ms_T} {q : Int32} : ∀ (n : Nat) {v1 : Int32} {v2 : Int32}, f4_firstFault_L4 g n v1 v2 S = some q → ∀ {H : Heap} {locs : List Loc} {ls : Array Slot}, gd_W (dC, dI) A s (wd_L cI a g S) H locs → lv_has ls 3 [(0, .ref (a 0)), (1, .int v1), (2, .int v2)] → W p l e RM4_firstFault s m args below meth c H locs 0 0 (MQ below (qi_W (dC, dI) [(cI, .int)] A q (wd_L cI a g S)) args s 0 0 A) (F0 m 4 ls []) := by
  intro n
  induction n with
  | zero => intro _ _ h; exact nomatch h
  | succ n ih => intro v1 v2 h H locs ls hG hl; exact w4_firstFault_b4 C hK hA (fun h => ih h) (show f4_firstFault_b4 g (f4_firstFault_L4 g n) v1 v2 S = some q from h) hG hl
set_option maxRecDepth 100000 in
set_option maxHeartbeats 4000000 in
theorem w4_firstFault (C : cx_M p s m args meth c RX4 cX4_firstFault (some .int) 3) (hK : va_K (dC, dI) vwCl [(cI, .int)] s) (hA : ∀ q, s.heap.size ≤ q → A q) {a : Nat → Nat} {g : Nat} {q : Int32} {S : ms_T} (h : f4_firstFault g S = some q) {H : Heap} {locs : List Loc} {ls : Array Slot} (hG : gd_W (dC, dI) A s (wd_L cI a g S) H locs) (hl : lv_has ls 3 [(0, .ref (a 0))]) : W p l e RM4_firstFault s m args below meth c H locs 0 0 (MQ below (qi_W (dC, dI) [(cI, .int)] A q (wd_L cI a g S)) args s 0 0 A) (F0 m 0 ls []) := by
  unfold f4_firstFault at h
  obtain ⟨hx, hb, hr, hts, hown, hlocks, hml⟩ := id C
  refine lv_iconst (v := (0 : Int32)) hx hb dX4_firstFault_0 (by decide) ?_
  refine lv_istore_n (lv' := [(1, .int (0 : Int32)), (0, .ref (a 0))]) hx hb dX4_firstFault_1 rfl hl (by decide) rfl (fun ls hl => ?_)
  refine lv_iconst (v := (0 : Int32)) hx hb dX4_firstFault_2 (by decide) ?_
  refine lv_istore_n (lv' := [(2, .int (0 : Int32)), (1, .int (0 : Int32)), (0, .ref (a 0))]) hx hb dX4_firstFault_3 rfl hl (by decide) rfl (fun ls hl => ?_)
  exact w4_firstFault_L4 C hK hA fo_fu h hG (lv_sub hl [2, 1, 0] rfl)
set_option maxRecDepth 100000 in
set_option maxHeartbeats 4000000 in
theorem c4_firstFault (l : Launch) {dC : Nat → ClassId} {dI : Nat → Nat → Nat} {cI : ClassId} {a : Nat → Nat} {g : Nat} {S : ms_T} {q : Int32} (h : f4_firstFault g S = some q) : mi_M l yX4_firstFault wm4_firstFault RM4_firstFault (dC, dI) [(cI, .int)] [.ref (a 0)] (wd_L cI a g S) q (wd_L cI a g S) := by
  intro sz
  refine Met.ofW (cc := cX4_firstFault) (maxL := 3) (ret := (some .int)) (by decide) rfl ?_
  intro p e s m args below meth c s₁ B hml hv
  obtain ⟨rfl, hsz, hP, hK, hD0⟩ := hv
  subst hsz
  have hl := lv_entry ([.ref (a 0)] : List Value) (n := 3) (Nat.le_of_ble_eq_true rfl)
  rw [lg_entry_eq]
  generalize (lg_sl ([.ref (a 0)] : List Value) ++ List.replicate (3 - (lg_sl ([.ref (a 0)] : List Value)).length) Slot.unset).toArray = ls at hl ⊢
  exact w4_firstFault (a := a) ⟨B.exec, B.bytes, B.returns, fun w hw => atoms_spec (ws := wm4_firstFault) B.pre w (List.mem_cons_of_mem _ hw), findClass_of_methodNamed B.named, B.notSynchronized, hml⟩ hK (fun _ h => Or.inr h) h ⟨hP, hD0.self, va_S.rf⟩ hl
end
